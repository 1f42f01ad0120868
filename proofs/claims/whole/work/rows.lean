section
-- ===== PART A: goes FIRST, ahead of the names: the tables' words, and 'selects' of the private methods out of them =====
/-- a private method of a class that the tables say can be made, by its rows of tables_1 -/
def lw_okq (q : MethodName × Nat) : Prop := (q.1.cls ≠ "java/lang/invoke/MethodHandle" ∧ q.1.cls ≠ "java/lang/invoke/VarHandle") ∧ Cond.instantiable q.1.cls q.2 ∈ tables_1 ∧ Cond.privateMethod q.1 ∈ tables_1 ∧ Cond.instanceMethod q.1 ∈ tables_1
theorem lw_p0 : lw_okq (⟨"TakerBook", "refuse", "(I)I"⟩, 15) := ⟨⟨by decide +kernel, by decide +kernel⟩, List.mem_of_getElem? (i := 18) (by decide +kernel), List.mem_of_getElem? (i := 336) (by decide +kernel), List.mem_of_getElem? (i := 337) (by decide +kernel)⟩
theorem lw_p1 : lw_okq (⟨"TakerBook", "refusedPlace", "(II)I"⟩, 15) := ⟨⟨by decide +kernel, by decide +kernel⟩, List.mem_of_getElem? (i := 18) (by decide +kernel), List.mem_of_getElem? (i := 344) (by decide +kernel), List.mem_of_getElem? (i := 345) (by decide +kernel)⟩
theorem lw_p2 : lw_okq (⟨"TakerBook", "refusedRow", "(I)I"⟩, 15) := ⟨⟨by decide +kernel, by decide +kernel⟩, List.mem_of_getElem? (i := 18) (by decide +kernel), List.mem_of_getElem? (i := 348) (by decide +kernel), List.mem_of_getElem? (i := 349) (by decide +kernel)⟩
theorem lw_p3 : lw_okq (⟨"TakerBook", "refusedText", "(I)I"⟩, 15) := ⟨⟨by decide +kernel, by decide +kernel⟩, List.mem_of_getElem? (i := 18) (by decide +kernel), List.mem_of_getElem? (i := 385) (by decide +kernel), List.mem_of_getElem? (i := 386) (by decide +kernel)⟩
theorem lw_p4 : lw_okq (⟨"TakerBook$Reader", "skipBlanks", "([BI)V"⟩, 5) := ⟨⟨by decide +kernel, by decide +kernel⟩, List.mem_of_getElem? (i := 30) (by decide +kernel), List.mem_of_getElem? (i := 397) (by decide +kernel), List.mem_of_getElem? (i := 398) (by decide +kernel)⟩
theorem lw_p5 : lw_okq (⟨"TakerBook$Reader", "readFigures", "([BI[II[I[I)Z"⟩, 5) := ⟨⟨by decide +kernel, by decide +kernel⟩, List.mem_of_getElem? (i := 30) (by decide +kernel), List.mem_of_getElem? (i := 405) (by decide +kernel), List.mem_of_getElem? (i := 406) (by decide +kernel)⟩
theorem lw_p6 : lw_okq (⟨"TakerBook$Reader", "readThief", "([BI)Z"⟩, 5) := ⟨⟨by decide +kernel, by decide +kernel⟩, List.mem_of_getElem? (i := 30) (by decide +kernel), List.mem_of_getElem? (i := 409) (by decide +kernel), List.mem_of_getElem? (i := 410) (by decide +kernel)⟩
theorem lw_p7 : lw_okq (⟨"TakerBook", "isOpen", "()Z"⟩, 15) := ⟨⟨by decide +kernel, by decide +kernel⟩, List.mem_of_getElem? (i := 18) (by decide +kernel), List.mem_of_getElem? (i := 582) (by decide +kernel), List.mem_of_getElem? (i := 583) (by decide +kernel)⟩
theorem lw_p8 : lw_okq (⟨"TakerBook", "enact", "(II)V"⟩, 15) := ⟨⟨by decide +kernel, by decide +kernel⟩, List.mem_of_getElem? (i := 18) (by decide +kernel), List.mem_of_getElem? (i := 586) (by decide +kernel), List.mem_of_getElem? (i := 587) (by decide +kernel)⟩
theorem lw_p9 : lw_okq (⟨"TakerBook", "replay", "()V"⟩, 15) := ⟨⟨by decide +kernel, by decide +kernel⟩, List.mem_of_getElem? (i := 18) (by decide +kernel), List.mem_of_getElem? (i := 623) (by decide +kernel), List.mem_of_getElem? (i := 624) (by decide +kernel)⟩
theorem lw_p10 : lw_okq (⟨"TakerBook$Marks", "begin", "(LTakerBook$Band;)V"⟩, 6) := ⟨⟨by decide +kernel, by decide +kernel⟩, List.mem_of_getElem? (i := 235) (by decide +kernel), List.mem_of_getElem? (i := 667) (by decide +kernel), List.mem_of_getElem? (i := 668) (by decide +kernel)⟩
theorem lw_p11 : lw_okq (⟨"TakerBook$Marks", "seekFrom", "(IIII)V"⟩, 6) := ⟨⟨by decide +kernel, by decide +kernel⟩, List.mem_of_getElem? (i := 235) (by decide +kernel), List.mem_of_getElem? (i := 672) (by decide +kernel), List.mem_of_getElem? (i := 673) (by decide +kernel)⟩
theorem lw_p12 : lw_okq (⟨"TakerBook$Plans", "goOnFrom", "(IIII)V"⟩, 12) := ⟨⟨by decide +kernel, by decide +kernel⟩, List.mem_of_getElem? (i := 186) (by decide +kernel), List.mem_of_getElem? (i := 706) (by decide +kernel), List.mem_of_getElem? (i := 707) (by decide +kernel)⟩
theorem lw_p13 : lw_okq (⟨"TakerBook$Plans", "end", "(II)V"⟩, 12) := ⟨⟨by decide +kernel, by decide +kernel⟩, List.mem_of_getElem? (i := 186) (by decide +kernel), List.mem_of_getElem? (i := 710) (by decide +kernel), List.mem_of_getElem? (i := 711) (by decide +kernel)⟩
theorem lw_p14 : lw_okq (⟨"TakerBook$Plans", "passWeek", "(IIIII)V"⟩, 12) := ⟨⟨by decide +kernel, by decide +kernel⟩, List.mem_of_getElem? (i := 186) (by decide +kernel), List.mem_of_getElem? (i := 714) (by decide +kernel), List.mem_of_getElem? (i := 715) (by decide +kernel)⟩
theorem lw_p15 : lw_okq (⟨"TakerBook", "tellNumbers", "(JJ)V"⟩, 15) := ⟨⟨by decide +kernel, by decide +kernel⟩, List.mem_of_getElem? (i := 18) (by decide +kernel), List.mem_of_getElem? (i := 724) (by decide +kernel), List.mem_of_getElem? (i := 725) (by decide +kernel)⟩
def lw_privs_1 : List (MethodName × Nat) := [(⟨"TakerBook", "refuse", "(I)I"⟩, 15), (⟨"TakerBook", "refusedPlace", "(II)I"⟩, 15), (⟨"TakerBook", "refusedRow", "(I)I"⟩, 15), (⟨"TakerBook", "refusedText", "(I)I"⟩, 15), (⟨"TakerBook$Reader", "skipBlanks", "([BI)V"⟩, 5), (⟨"TakerBook$Reader", "readFigures", "([BI[II[I[I)Z"⟩, 5), (⟨"TakerBook$Reader", "readThief", "([BI)Z"⟩, 5), (⟨"TakerBook", "isOpen", "()Z"⟩, 15), (⟨"TakerBook", "enact", "(II)V"⟩, 15), (⟨"TakerBook", "replay", "()V"⟩, 15), (⟨"TakerBook$Marks", "begin", "(LTakerBook$Band;)V"⟩, 6), (⟨"TakerBook$Marks", "seekFrom", "(IIII)V"⟩, 6), (⟨"TakerBook$Plans", "goOnFrom", "(IIII)V"⟩, 12), (⟨"TakerBook$Plans", "end", "(II)V"⟩, 12), (⟨"TakerBook$Plans", "passWeek", "(IIIII)V"⟩, 12), (⟨"TakerBook", "tellNumbers", "(JJ)V"⟩, 15)]
theorem lw_r1 : ∀ q ∈ lw_privs_1, lw_okq q := List.forall_mem_cons.mpr ⟨lw_p0, List.forall_mem_cons.mpr ⟨lw_p1, List.forall_mem_cons.mpr ⟨lw_p2, List.forall_mem_cons.mpr ⟨lw_p3, List.forall_mem_cons.mpr ⟨lw_p4, List.forall_mem_cons.mpr ⟨lw_p5, List.forall_mem_cons.mpr ⟨lw_p6, List.forall_mem_cons.mpr ⟨lw_p7, List.forall_mem_cons.mpr ⟨lw_p8, List.forall_mem_cons.mpr ⟨lw_p9, List.forall_mem_cons.mpr ⟨lw_p10, List.forall_mem_cons.mpr ⟨lw_p11, List.forall_mem_cons.mpr ⟨lw_p12, List.forall_mem_cons.mpr ⟨lw_p13, List.forall_mem_cons.mpr ⟨lw_p14, List.forall_mem_cons.mpr ⟨lw_p15, fun _ h => absurd h List.not_mem_nil⟩⟩⟩⟩⟩⟩⟩⟩⟩⟩⟩⟩⟩⟩⟩⟩
theorem lw_p16 : lw_okq (⟨"TakerBook", "isPlan", "([II)Z"⟩, 15) := ⟨⟨by decide +kernel, by decide +kernel⟩, List.mem_of_getElem? (i := 18) (by decide +kernel), List.mem_of_getElem? (i := 732) (by decide +kernel), List.mem_of_getElem? (i := 733) (by decide +kernel)⟩
theorem lw_p17 : lw_okq (⟨"TakerBook", "isSuchSet", "(II)Z"⟩, 15) := ⟨⟨by decide +kernel, by decide +kernel⟩, List.mem_of_getElem? (i := 18) (by decide +kernel), List.mem_of_getElem? (i := 747) (by decide +kernel), List.mem_of_getElem? (i := 748) (by decide +kernel)⟩
theorem lw_p18 : lw_okq (⟨"TakerBook", "refusedGoods", "(I)I"⟩, 15) := ⟨⟨by decide +kernel, by decide +kernel⟩, List.mem_of_getElem? (i := 18) (by decide +kernel), List.mem_of_getElem? (i := 755) (by decide +kernel), List.mem_of_getElem? (i := 756) (by decide +kernel)⟩
theorem lw_p19 : lw_okq (⟨"TakerBook", "greaterPart", "(II)I"⟩, 15) := ⟨⟨by decide +kernel, by decide +kernel⟩, List.mem_of_getElem? (i := 18) (by decide +kernel), List.mem_of_getElem? (i := 763) (by decide +kernel), List.mem_of_getElem? (i := 764) (by decide +kernel)⟩
theorem lw_p20 : lw_okq (⟨"TakerBook", "refusedTriples", "(II)I"⟩, 15) := ⟨⟨by decide +kernel, by decide +kernel⟩, List.mem_of_getElem? (i := 18) (by decide +kernel), List.mem_of_getElem? (i := 772) (by decide +kernel), List.mem_of_getElem? (i := 773) (by decide +kernel)⟩
theorem lw_p21 : lw_okq (⟨"TakerBook", "spokeSo", "(IIII)Z"⟩, 15) := ⟨⟨by decide +kernel, by decide +kernel⟩, List.mem_of_getElem? (i := 18) (by decide +kernel), List.mem_of_getElem? (i := 779) (by decide +kernel), List.mem_of_getElem? (i := 780) (by decide +kernel)⟩
theorem lw_p22 : lw_okq (⟨"TakerBook", "kindsBy", "(II)I"⟩, 15) := ⟨⟨by decide +kernel, by decide +kernel⟩, List.mem_of_getElem? (i := 18) (by decide +kernel), List.mem_of_getElem? (i := 789) (by decide +kernel), List.mem_of_getElem? (i := 790) (by decide +kernel)⟩
theorem lw_p23 : lw_okq (⟨"TakerBook", "greaterPartOfKinds", "(IIII)I"⟩, 15) := ⟨⟨by decide +kernel, by decide +kernel⟩, List.mem_of_getElem? (i := 18) (by decide +kernel), List.mem_of_getElem? (i := 797) (by decide +kernel), List.mem_of_getElem? (i := 798) (by decide +kernel)⟩
theorem lw_p24 : lw_okq (⟨"TakerBook$Marks", "turn", "(III)I"⟩, 6) := ⟨⟨by decide +kernel, by decide +kernel⟩, List.mem_of_getElem? (i := 235) (by decide +kernel), List.mem_of_getElem? (i := 811) (by decide +kernel), List.mem_of_getElem? (i := 812) (by decide +kernel)⟩
theorem lw_p25 : lw_okq (⟨"TakerBook", "goodsFor", "(I)I"⟩, 15) := ⟨⟨by decide +kernel, by decide +kernel⟩, List.mem_of_getElem? (i := 18) (by decide +kernel), List.mem_of_getElem? (i := 823) (by decide +kernel), List.mem_of_getElem? (i := 824) (by decide +kernel)⟩
theorem lw_p26 : lw_okq (⟨"TakerBook", "deedByLot", "(II)I"⟩, 15) := ⟨⟨by decide +kernel, by decide +kernel⟩, List.mem_of_getElem? (i := 18) (by decide +kernel), List.mem_of_getElem? (i := 859) (by decide +kernel), List.mem_of_getElem? (i := 860) (by decide +kernel)⟩
theorem lw_p27 : lw_okq (⟨"TakerBook", "keptBooks", "()I"⟩, 15) := ⟨⟨by decide +kernel, by decide +kernel⟩, List.mem_of_getElem? (i := 18) (by decide +kernel), List.mem_of_getElem? (i := 882) (by decide +kernel), List.mem_of_getElem? (i := 883) (by decide +kernel)⟩
theorem lw_p28 : lw_okq (⟨"TakerBookModel", "meets", "(I)I"⟩, 40) := ⟨⟨by decide +kernel, by decide +kernel⟩, List.mem_of_getElem? (i := 901) (by decide +kernel), List.mem_of_getElem? (i := 1058) (by decide +kernel), List.mem_of_getElem? (i := 1059) (by decide +kernel)⟩
theorem lw_p29 : lw_okq (⟨"TakerBookModel", "rowAt", "(II)I"⟩, 40) := ⟨⟨by decide +kernel, by decide +kernel⟩, List.mem_of_getElem? (i := 901) (by decide +kernel), List.mem_of_getElem? (i := 1066) (by decide +kernel), List.mem_of_getElem? (i := 1067) (by decide +kernel)⟩
theorem lw_p30 : lw_okq (⟨"TakerBookModel", "tells", "(II)I"⟩, 40) := ⟨⟨by decide +kernel, by decide +kernel⟩, List.mem_of_getElem? (i := 901) (by decide +kernel), List.mem_of_getElem? (i := 1070) (by decide +kernel), List.mem_of_getElem? (i := 1071) (by decide +kernel)⟩
theorem lw_p31 : lw_okq (⟨"TakerBookModel", "faultOf", "(I)I"⟩, 40) := ⟨⟨by decide +kernel, by decide +kernel⟩, List.mem_of_getElem? (i := 901) (by decide +kernel), List.mem_of_getElem? (i := 1105) (by decide +kernel), List.mem_of_getElem? (i := 1106) (by decide +kernel)⟩
def lw_privs_2 : List (MethodName × Nat) := [(⟨"TakerBook", "isPlan", "([II)Z"⟩, 15), (⟨"TakerBook", "isSuchSet", "(II)Z"⟩, 15), (⟨"TakerBook", "refusedGoods", "(I)I"⟩, 15), (⟨"TakerBook", "greaterPart", "(II)I"⟩, 15), (⟨"TakerBook", "refusedTriples", "(II)I"⟩, 15), (⟨"TakerBook", "spokeSo", "(IIII)Z"⟩, 15), (⟨"TakerBook", "kindsBy", "(II)I"⟩, 15), (⟨"TakerBook", "greaterPartOfKinds", "(IIII)I"⟩, 15), (⟨"TakerBook$Marks", "turn", "(III)I"⟩, 6), (⟨"TakerBook", "goodsFor", "(I)I"⟩, 15), (⟨"TakerBook", "deedByLot", "(II)I"⟩, 15), (⟨"TakerBook", "keptBooks", "()I"⟩, 15), (⟨"TakerBookModel", "meets", "(I)I"⟩, 40), (⟨"TakerBookModel", "rowAt", "(II)I"⟩, 40), (⟨"TakerBookModel", "tells", "(II)I"⟩, 40), (⟨"TakerBookModel", "faultOf", "(I)I"⟩, 40)]
theorem lw_r2 : ∀ q ∈ lw_privs_2, lw_okq q := List.forall_mem_cons.mpr ⟨lw_p16, List.forall_mem_cons.mpr ⟨lw_p17, List.forall_mem_cons.mpr ⟨lw_p18, List.forall_mem_cons.mpr ⟨lw_p19, List.forall_mem_cons.mpr ⟨lw_p20, List.forall_mem_cons.mpr ⟨lw_p21, List.forall_mem_cons.mpr ⟨lw_p22, List.forall_mem_cons.mpr ⟨lw_p23, List.forall_mem_cons.mpr ⟨lw_p24, List.forall_mem_cons.mpr ⟨lw_p25, List.forall_mem_cons.mpr ⟨lw_p26, List.forall_mem_cons.mpr ⟨lw_p27, List.forall_mem_cons.mpr ⟨lw_p28, List.forall_mem_cons.mpr ⟨lw_p29, List.forall_mem_cons.mpr ⟨lw_p30, List.forall_mem_cons.mpr ⟨lw_p31, fun _ h => absurd h List.not_mem_nil⟩⟩⟩⟩⟩⟩⟩⟩⟩⟩⟩⟩⟩⟩⟩⟩
theorem lw_p32 : lw_okq (⟨"TakerBookModel", "byteAt", "(II)I"⟩, 40) := ⟨⟨by decide +kernel, by decide +kernel⟩, List.mem_of_getElem? (i := 901) (by decide +kernel), List.mem_of_getElem? (i := 1109) (by decide +kernel), List.mem_of_getElem? (i := 1110) (by decide +kernel)⟩
theorem lw_p33 : lw_okq (⟨"TakerBookModel", "readsThief", "(I)Z"⟩, 40) := ⟨⟨by decide +kernel, by decide +kernel⟩, List.mem_of_getElem? (i := 901) (by decide +kernel), List.mem_of_getElem? (i := 1113) (by decide +kernel), List.mem_of_getElem? (i := 1114) (by decide +kernel)⟩
theorem lw_p34 : lw_okq (⟨"TakerBookModel", "figure", "(III)I"⟩, 40) := ⟨⟨by decide +kernel, by decide +kernel⟩, List.mem_of_getElem? (i := 901) (by decide +kernel), List.mem_of_getElem? (i := 1120) (by decide +kernel), List.mem_of_getElem? (i := 1121) (by decide +kernel)⟩
theorem lw_p35 : lw_okq (⟨"TakerBookModel", "readsHead", "(I)Z"⟩, 40) := ⟨⟨by decide +kernel, by decide +kernel⟩, List.mem_of_getElem? (i := 901) (by decide +kernel), List.mem_of_getElem? (i := 1124) (by decide +kernel), List.mem_of_getElem? (i := 1125) (by decide +kernel)⟩
theorem lw_p36 : lw_okq (⟨"TakerBookModel", "isThief", "(I)Z"⟩, 40) := ⟨⟨by decide +kernel, by decide +kernel⟩, List.mem_of_getElem? (i := 901) (by decide +kernel), List.mem_of_getElem? (i := 1136) (by decide +kernel), List.mem_of_getElem? (i := 1137) (by decide +kernel)⟩
theorem lw_p37 : lw_okq (⟨"TakerBookModel", "thiefTells", "(II)I"⟩, 40) := ⟨⟨by decide +kernel, by decide +kernel⟩, List.mem_of_getElem? (i := 901) (by decide +kernel), List.mem_of_getElem? (i := 1140) (by decide +kernel), List.mem_of_getElem? (i := 1141) (by decide +kernel)⟩
theorem lw_p38 : lw_okq (⟨"TakerBookModel", "steals", "([II)I"⟩, 40) := ⟨⟨by decide +kernel, by decide +kernel⟩, List.mem_of_getElem? (i := 901) (by decide +kernel), List.mem_of_getElem? (i := 1144) (by decide +kernel), List.mem_of_getElem? (i := 1145) (by decide +kernel)⟩
theorem lw_p39 : lw_okq (⟨"TakerBookModel", "others", "([II)I"⟩, 40) := ⟨⟨by decide +kernel, by decide +kernel⟩, List.mem_of_getElem? (i := 901) (by decide +kernel), List.mem_of_getElem? (i := 1148) (by decide +kernel), List.mem_of_getElem? (i := 1149) (by decide +kernel)⟩
theorem lw_p40 : lw_okq (⟨"TakerBookModel", "isGang", "(I)Z"⟩, 40) := ⟨⟨by decide +kernel, by decide +kernel⟩, List.mem_of_getElem? (i := 901) (by decide +kernel), List.mem_of_getElem? (i := 1152) (by decide +kernel), List.mem_of_getElem? (i := 1153) (by decide +kernel)⟩
theorem lw_p41 : lw_okq (⟨"TakerBookModel", "isSpeaking", "([II)Z"⟩, 40) := ⟨⟨by decide +kernel, by decide +kernel⟩, List.mem_of_getElem? (i := 901) (by decide +kernel), List.mem_of_getElem? (i := 1159) (by decide +kernel), List.mem_of_getElem? (i := 1160) (by decide +kernel)⟩
theorem lw_p42 : lw_okq (⟨"TakerBookModel", "headOf", "([II)I"⟩, 40) := ⟨⟨by decide +kernel, by decide +kernel⟩, List.mem_of_getElem? (i := 901) (by decide +kernel), List.mem_of_getElem? (i := 1166) (by decide +kernel), List.mem_of_getElem? (i := 1167) (by decide +kernel)⟩
theorem lw_p43 : lw_okq (⟨"TakerBookModel", "speakers", "([I)I"⟩, 40) := ⟨⟨by decide +kernel, by decide +kernel⟩, List.mem_of_getElem? (i := 901) (by decide +kernel), List.mem_of_getElem? (i := 1174) (by decide +kernel), List.mem_of_getElem? (i := 1175) (by decide +kernel)⟩
theorem lw_p44 : lw_okq (⟨"TakerBookModel", "isOver", "()Z"⟩, 40) := ⟨⟨by decide +kernel, by decide +kernel⟩, List.mem_of_getElem? (i := 901) (by decide +kernel), List.mem_of_getElem? (i := 1185) (by decide +kernel), List.mem_of_getElem? (i := 1186) (by decide +kernel)⟩
theorem lw_p45 : lw_okq (⟨"TakerBookModel", "remember", "()V"⟩, 40) := ⟨⟨by decide +kernel, by decide +kernel⟩, List.mem_of_getElem? (i := 901) (by decide +kernel), List.mem_of_getElem? (i := 1189) (by decide +kernel), List.mem_of_getElem? (i := 1190) (by decide +kernel)⟩
theorem lw_p46 : lw_okq (⟨"TakerBookModel", "passes", "([I)V"⟩, 40) := ⟨⟨by decide +kernel, by decide +kernel⟩, List.mem_of_getElem? (i := 901) (by decide +kernel), List.mem_of_getElem? (i := 1193) (by decide +kernel), List.mem_of_getElem? (i := 1194) (by decide +kernel)⟩
theorem lw_p47 : lw_okq (⟨"TakerBookModel", "isTrial", "([I)Z"⟩, 40) := ⟨⟨by decide +kernel, by decide +kernel⟩, List.mem_of_getElem? (i := 901) (by decide +kernel), List.mem_of_getElem? (i := 1197) (by decide +kernel), List.mem_of_getElem? (i := 1198) (by decide +kernel)⟩
def lw_privs_3 : List (MethodName × Nat) := [(⟨"TakerBookModel", "byteAt", "(II)I"⟩, 40), (⟨"TakerBookModel", "readsThief", "(I)Z"⟩, 40), (⟨"TakerBookModel", "figure", "(III)I"⟩, 40), (⟨"TakerBookModel", "readsHead", "(I)Z"⟩, 40), (⟨"TakerBookModel", "isThief", "(I)Z"⟩, 40), (⟨"TakerBookModel", "thiefTells", "(II)I"⟩, 40), (⟨"TakerBookModel", "steals", "([II)I"⟩, 40), (⟨"TakerBookModel", "others", "([II)I"⟩, 40), (⟨"TakerBookModel", "isGang", "(I)Z"⟩, 40), (⟨"TakerBookModel", "isSpeaking", "([II)Z"⟩, 40), (⟨"TakerBookModel", "headOf", "([II)I"⟩, 40), (⟨"TakerBookModel", "speakers", "([I)I"⟩, 40), (⟨"TakerBookModel", "isOver", "()Z"⟩, 40), (⟨"TakerBookModel", "remember", "()V"⟩, 40), (⟨"TakerBookModel", "passes", "([I)V"⟩, 40), (⟨"TakerBookModel", "isTrial", "([I)Z"⟩, 40)]
theorem lw_r3 : ∀ q ∈ lw_privs_3, lw_okq q := List.forall_mem_cons.mpr ⟨lw_p32, List.forall_mem_cons.mpr ⟨lw_p33, List.forall_mem_cons.mpr ⟨lw_p34, List.forall_mem_cons.mpr ⟨lw_p35, List.forall_mem_cons.mpr ⟨lw_p36, List.forall_mem_cons.mpr ⟨lw_p37, List.forall_mem_cons.mpr ⟨lw_p38, List.forall_mem_cons.mpr ⟨lw_p39, List.forall_mem_cons.mpr ⟨lw_p40, List.forall_mem_cons.mpr ⟨lw_p41, List.forall_mem_cons.mpr ⟨lw_p42, List.forall_mem_cons.mpr ⟨lw_p43, List.forall_mem_cons.mpr ⟨lw_p44, List.forall_mem_cons.mpr ⟨lw_p45, List.forall_mem_cons.mpr ⟨lw_p46, List.forall_mem_cons.mpr ⟨lw_p47, fun _ h => absurd h List.not_mem_nil⟩⟩⟩⟩⟩⟩⟩⟩⟩⟩⟩⟩⟩⟩⟩⟩
theorem lw_p48 : lw_okq (⟨"TakerBookModel", "loot", "([I)I"⟩, 40) := ⟨⟨by decide +kernel, by decide +kernel⟩, List.mem_of_getElem? (i := 901) (by decide +kernel), List.mem_of_getElem? (i := 1201) (by decide +kernel), List.mem_of_getElem? (i := 1202) (by decide +kernel)⟩
theorem lw_p49 : lw_okq (⟨"TakerBookModel", "canCross", "(I)Z"⟩, 40) := ⟨⟨by decide +kernel, by decide +kernel⟩, List.mem_of_getElem? (i := 901) (by decide +kernel), List.mem_of_getElem? (i := 1213) (by decide +kernel), List.mem_of_getElem? (i := 1214) (by decide +kernel)⟩
theorem lw_p50 : lw_okq (⟨"TakerBookModel", "givesUp", "([II)V"⟩, 40) := ⟨⟨by decide +kernel, by decide +kernel⟩, List.mem_of_getElem? (i := 901) (by decide +kernel), List.mem_of_getElem? (i := 1221) (by decide +kernel), List.mem_of_getElem? (i := 1222) (by decide +kernel)⟩
theorem lw_p51 : lw_okq (⟨"TakerBookModel", "copyNow", "()V"⟩, 40) := ⟨⟨by decide +kernel, by decide +kernel⟩, List.mem_of_getElem? (i := 901) (by decide +kernel), List.mem_of_getElem? (i := 1245) (by decide +kernel), List.mem_of_getElem? (i := 1246) (by decide +kernel)⟩
theorem lw_p52 : lw_okq (⟨"TakerBookModel", "codes", "()I"⟩, 40) := ⟨⟨by decide +kernel, by decide +kernel⟩, List.mem_of_getElem? (i := 901) (by decide +kernel), List.mem_of_getElem? (i := 1254) (by decide +kernel), List.mem_of_getElem? (i := 1255) (by decide +kernel)⟩
theorem lw_p53 : lw_okq (⟨"TakerBookModel", "more", "(I)I"⟩, 40) := ⟨⟨by decide +kernel, by decide +kernel⟩, List.mem_of_getElem? (i := 901) (by decide +kernel), List.mem_of_getElem? (i := 1258) (by decide +kernel), List.mem_of_getElem? (i := 1259) (by decide +kernel)⟩
theorem lw_p54 : lw_okq (⟨"TakerBookModel", "marked", "([I)I"⟩, 40) := ⟨⟨by decide +kernel, by decide +kernel⟩, List.mem_of_getElem? (i := 901) (by decide +kernel), List.mem_of_getElem? (i := 1262) (by decide +kernel), List.mem_of_getElem? (i := 1263) (by decide +kernel)⟩
theorem lw_p55 : lw_okq (⟨"TakerBookModel", "need", "(Z)I"⟩, 40) := ⟨⟨by decide +kernel, by decide +kernel⟩, List.mem_of_getElem? (i := 901) (by decide +kernel), List.mem_of_getElem? (i := 1270) (by decide +kernel), List.mem_of_getElem? (i := 1271) (by decide +kernel)⟩
theorem lw_p56 : lw_okq (⟨"TakerBookModel", "headsOf", "(I)I"⟩, 40) := ⟨⟨by decide +kernel, by decide +kernel⟩, List.mem_of_getElem? (i := 901) (by decide +kernel), List.mem_of_getElem? (i := 1274) (by decide +kernel), List.mem_of_getElem? (i := 1275) (by decide +kernel)⟩
theorem lw_p57 : lw_okq (⟨"TakerBookModel", "needPlan", "(Z)I"⟩, 40) := ⟨⟨by decide +kernel, by decide +kernel⟩, List.mem_of_getElem? (i := 901) (by decide +kernel), List.mem_of_getElem? (i := 1282) (by decide +kernel), List.mem_of_getElem? (i := 1283) (by decide +kernel)⟩
theorem lw_p58 : lw_okq (⟨"TakerBookModel", "planCodes", "(I)I"⟩, 40) := ⟨⟨by decide +kernel, by decide +kernel⟩, List.mem_of_getElem? (i := 901) (by decide +kernel), List.mem_of_getElem? (i := 1286) (by decide +kernel), List.mem_of_getElem? (i := 1287) (by decide +kernel)⟩
theorem lw_p59 : lw_okq (⟨"TakerBookModel", "isPlan", "(II)Z"⟩, 40) := ⟨⟨by decide +kernel, by decide +kernel⟩, List.mem_of_getElem? (i := 901) (by decide +kernel), List.mem_of_getElem? (i := 1290) (by decide +kernel), List.mem_of_getElem? (i := 1291) (by decide +kernel)⟩
theorem lw_p60 : lw_okq (⟨"TakerBookModel", "goes", "(I)I"⟩, 40) := ⟨⟨by decide +kernel, by decide +kernel⟩, List.mem_of_getElem? (i := 901) (by decide +kernel), List.mem_of_getElem? (i := 1294) (by decide +kernel), List.mem_of_getElem? (i := 1295) (by decide +kernel)⟩
theorem lw_p61 : lw_okq (⟨"TakerBookModel", "fraction", "(JJ)I"⟩, 40) := ⟨⟨by decide +kernel, by decide +kernel⟩, List.mem_of_getElem? (i := 901) (by decide +kernel), List.mem_of_getElem? (i := 1302) (by decide +kernel), List.mem_of_getElem? (i := 1303) (by decide +kernel)⟩
theorem lw_p62 : lw_okq (⟨"TakerBookModel", "layFits", "(I)V"⟩, 40) := ⟨⟨by decide +kernel, by decide +kernel⟩, List.mem_of_getElem? (i := 901) (by decide +kernel), List.mem_of_getElem? (i := 1314) (by decide +kernel), List.mem_of_getElem? (i := 1315) (by decide +kernel)⟩
theorem lw_p63 : lw_okq (⟨"TakerBookModel", "isFit", "(II)Z"⟩, 40) := ⟨⟨by decide +kernel, by decide +kernel⟩, List.mem_of_getElem? (i := 901) (by decide +kernel), List.mem_of_getElem? (i := 1318) (by decide +kernel), List.mem_of_getElem? (i := 1319) (by decide +kernel)⟩
def lw_privs_4 : List (MethodName × Nat) := [(⟨"TakerBookModel", "loot", "([I)I"⟩, 40), (⟨"TakerBookModel", "canCross", "(I)Z"⟩, 40), (⟨"TakerBookModel", "givesUp", "([II)V"⟩, 40), (⟨"TakerBookModel", "copyNow", "()V"⟩, 40), (⟨"TakerBookModel", "codes", "()I"⟩, 40), (⟨"TakerBookModel", "more", "(I)I"⟩, 40), (⟨"TakerBookModel", "marked", "([I)I"⟩, 40), (⟨"TakerBookModel", "need", "(Z)I"⟩, 40), (⟨"TakerBookModel", "headsOf", "(I)I"⟩, 40), (⟨"TakerBookModel", "needPlan", "(Z)I"⟩, 40), (⟨"TakerBookModel", "planCodes", "(I)I"⟩, 40), (⟨"TakerBookModel", "isPlan", "(II)Z"⟩, 40), (⟨"TakerBookModel", "goes", "(I)I"⟩, 40), (⟨"TakerBookModel", "fraction", "(JJ)I"⟩, 40), (⟨"TakerBookModel", "layFits", "(I)V"⟩, 40), (⟨"TakerBookModel", "isFit", "(II)Z"⟩, 40)]
theorem lw_r4 : ∀ q ∈ lw_privs_4, lw_okq q := List.forall_mem_cons.mpr ⟨lw_p48, List.forall_mem_cons.mpr ⟨lw_p49, List.forall_mem_cons.mpr ⟨lw_p50, List.forall_mem_cons.mpr ⟨lw_p51, List.forall_mem_cons.mpr ⟨lw_p52, List.forall_mem_cons.mpr ⟨lw_p53, List.forall_mem_cons.mpr ⟨lw_p54, List.forall_mem_cons.mpr ⟨lw_p55, List.forall_mem_cons.mpr ⟨lw_p56, List.forall_mem_cons.mpr ⟨lw_p57, List.forall_mem_cons.mpr ⟨lw_p58, List.forall_mem_cons.mpr ⟨lw_p59, List.forall_mem_cons.mpr ⟨lw_p60, List.forall_mem_cons.mpr ⟨lw_p61, List.forall_mem_cons.mpr ⟨lw_p62, List.forall_mem_cons.mpr ⟨lw_p63, fun _ h => absurd h List.not_mem_nil⟩⟩⟩⟩⟩⟩⟩⟩⟩⟩⟩⟩⟩⟩⟩⟩
theorem lw_p64 : lw_okq (⟨"TakerBookModel", "needTriples", "(II)I"⟩, 40) := ⟨⟨by decide +kernel, by decide +kernel⟩, List.mem_of_getElem? (i := 901) (by decide +kernel), List.mem_of_getElem? (i := 1334) (by decide +kernel), List.mem_of_getElem? (i := 1335) (by decide +kernel)⟩
theorem lw_p65 : lw_okq (⟨"TakerBookModel", "isTold", "(IIII)Z"⟩, 40) := ⟨⟨by decide +kernel, by decide +kernel⟩, List.mem_of_getElem? (i := 901) (by decide +kernel), List.mem_of_getElem? (i := 1338) (by decide +kernel), List.mem_of_getElem? (i := 1339) (by decide +kernel)⟩
theorem lw_p66 : lw_okq (⟨"TakerBookModel", "kindSet", "(II)I"⟩, 40) := ⟨⟨by decide +kernel, by decide +kernel⟩, List.mem_of_getElem? (i := 901) (by decide +kernel), List.mem_of_getElem? (i := 1346) (by decide +kernel), List.mem_of_getElem? (i := 1347) (by decide +kernel)⟩
theorem lw_p67 : lw_okq (⟨"TakerBookModel", "turned", "(IZ)I"⟩, 40) := ⟨⟨by decide +kernel, by decide +kernel⟩, List.mem_of_getElem? (i := 901) (by decide +kernel), List.mem_of_getElem? (i := 1358) (by decide +kernel), List.mem_of_getElem? (i := 1359) (by decide +kernel)⟩
theorem lw_p68 : lw_okq (⟨"TakerBookModel", "goodsOf", "(I)I"⟩, 40) := ⟨⟨by decide +kernel, by decide +kernel⟩, List.mem_of_getElem? (i := 901) (by decide +kernel), List.mem_of_getElem? (i := 1366) (by decide +kernel), List.mem_of_getElem? (i := 1367) (by decide +kernel)⟩
theorem lw_p69 : lw_okq (⟨"TakerBookModel", "layParts", "(I)V"⟩, 40) := ⟨⟨by decide +kernel, by decide +kernel⟩, List.mem_of_getElem? (i := 901) (by decide +kernel), List.mem_of_getElem? (i := 1374) (by decide +kernel), List.mem_of_getElem? (i := 1375) (by decide +kernel)⟩
theorem lw_p70 : lw_okq (⟨"TakerBookModel", "counted", "(I)I"⟩, 40) := ⟨⟨by decide +kernel, by decide +kernel⟩, List.mem_of_getElem? (i := 901) (by decide +kernel), List.mem_of_getElem? (i := 1396) (by decide +kernel), List.mem_of_getElem? (i := 1397) (by decide +kernel)⟩
theorem lw_p71 : lw_okq (⟨"TakerBookModel", "mix", "(J)V"⟩, 40) := ⟨⟨by decide +kernel, by decide +kernel⟩, List.mem_of_getElem? (i := 901) (by decide +kernel), List.mem_of_getElem? (i := 1405) (by decide +kernel), List.mem_of_getElem? (i := 1406) (by decide +kernel)⟩
theorem lw_p72 : lw_okq (⟨"TakerBookModel", "mixBook", "()V"⟩, 40) := ⟨⟨by decide +kernel, by decide +kernel⟩, List.mem_of_getElem? (i := 901) (by decide +kernel), List.mem_of_getElem? (i := 1410) (by decide +kernel), List.mem_of_getElem? (i := 1411) (by decide +kernel)⟩
def lw_privs_5 : List (MethodName × Nat) := [(⟨"TakerBookModel", "needTriples", "(II)I"⟩, 40), (⟨"TakerBookModel", "isTold", "(IIII)Z"⟩, 40), (⟨"TakerBookModel", "kindSet", "(II)I"⟩, 40), (⟨"TakerBookModel", "turned", "(IZ)I"⟩, 40), (⟨"TakerBookModel", "goodsOf", "(I)I"⟩, 40), (⟨"TakerBookModel", "layParts", "(I)V"⟩, 40), (⟨"TakerBookModel", "counted", "(I)I"⟩, 40), (⟨"TakerBookModel", "mix", "(J)V"⟩, 40), (⟨"TakerBookModel", "mixBook", "()V"⟩, 40)]
theorem lw_r5 : ∀ q ∈ lw_privs_5, lw_okq q := List.forall_mem_cons.mpr ⟨lw_p64, List.forall_mem_cons.mpr ⟨lw_p65, List.forall_mem_cons.mpr ⟨lw_p66, List.forall_mem_cons.mpr ⟨lw_p67, List.forall_mem_cons.mpr ⟨lw_p68, List.forall_mem_cons.mpr ⟨lw_p69, List.forall_mem_cons.mpr ⟨lw_p70, List.forall_mem_cons.mpr ⟨lw_p71, List.forall_mem_cons.mpr ⟨lw_p72, fun _ h => absurd h List.not_mem_nil⟩⟩⟩⟩⟩⟩⟩⟩⟩
def lw_privs : List (MethodName × Nat) := lw_privs_1 ++ (lw_privs_2 ++ (lw_privs_3 ++ (lw_privs_4 ++ (lw_privs_5))))
def lw_tbl : List Cond := k2_sels lw_privs ++ tables_1
theorem lw_privs_ok : ∀ q ∈ lw_privs, lw_okq q := by
  show ∀ q ∈ lw_privs_1 ++ (lw_privs_2 ++ (lw_privs_3 ++ (lw_privs_4 ++ (lw_privs_5)))), lw_okq q
  exact List.forall_mem_append.mpr ⟨lw_r1, List.forall_mem_append.mpr ⟨lw_r2, List.forall_mem_append.mpr ⟨lw_r3, List.forall_mem_append.mpr ⟨lw_r4, lw_r5⟩⟩⟩⟩
def tbG : List Cond := lw_tbl.filter goodWord
theorem inG {w : Cond} (h : w ∈ lw_tbl) (hg : goodWord w = true) : w ∈ tbG := List.mem_filter.mpr ⟨h, hg⟩
theorem tbG_sub {w : Cond} (h : w ∈ tbG) : w ∈ lw_tbl := (List.mem_filter.mp h).1
theorem tbG_good {w : Cond} (h : w ∈ tbG) : (w.onTables && w.keeps) = true ∨ ∃ ty, w = .arrayClass ty := good_of_word (List.mem_filter.mp h).2
end
section
-- names: each class, its fields (declaring class, name, descriptor, final); by program
def R_T : String := "TakerBook"
def F_T : u_T := fun k => match k with
  | 0 => ("TakerBook", "rows", "[[I", true)
  | 1 => ("TakerBook", "rowSizes", "[I", true)
  | 2 => ("TakerBook", "texts", "[[B", true)
  | 3 => ("TakerBook", "textSizes", "[I", true)
  | 4 => ("TakerBook", "reader", "LTakerBook$Reader;", true)
  | 5 => ("TakerBook", "band", "LTakerBook$Band;", true)
  | 6 => ("TakerBook", "plans", "LTakerBook$Plans;", true)
  | 7 => ("TakerBook", "marks", "LTakerBook$Marks;", true)
  | 8 => ("TakerBook", "deeds", "LTakerBook$Deeds;", true)
  | 9 => ("TakerBook", "keptDeeds", "[LTakerBook$Deeds;", true)
  | 10 => ("TakerBook", "found", "[I", true)
  | 11 => ("TakerBook", "latestFinding", "I", false)
  | 12 => ("TakerBook", "told", "I", false)
  | 13 => ("TakerBook", "upperNumber", "J", false)
  | _ => ("TakerBook", "lowerNumber", "J", false)
def R_B : String := "TakerBook$Band"
def F_B : u_T := fun k => match k with
  | 0 => ("TakerBook$Band", "natures", "[LTakerBook$Thief;", true)
  | 1 => ("TakerBook$Band", "kind", "[I", true)
  | 2 => ("TakerBook$Band", "skill", "[I", true)
  | 3 => ("TakerBook$Band", "boldness", "[I", true)
  | 4 => ("TakerBook$Band", "firstCrosses", "[I", true)
  | 5 => ("TakerBook$Band", "crosses", "[I", true)
  | 6 => ("TakerBook$Band", "lootNow", "[I", true)
  | 7 => ("TakerBook$Band", "priceNow", "[I", true)
  | 8 => ("TakerBook$Band", "thieves", "I", false)
  | 9 => ("TakerBook$Band", "bounty", "I", false)
  | 10 => ("TakerBook$Band", "fee", "I", false)
  | 11 => ("TakerBook$Band", "fear", "I", false)
  | 12 => ("TakerBook$Band", "bench", "I", false)
  | 13 => ("TakerBook$Band", "gang", "I", false)
  | 14 => ("TakerBook$Band", "left", "I", false)
  | 15 => ("TakerBook$Band", "weeks", "I", false)
  | 16 => ("TakerBook$Band", "money", "I", false)
  | 17 => ("TakerBook$Band", "stock", "I", false)
  | _ => ("TakerBook$Band", "tried", "Z", false)
def R_P : String := "TakerBook$Plans"
def F_P : u_T := fun k => match k with
  | 0 => ("TakerBook$Plans", "trying", "[Z", true)
  | 1 => ("TakerBook$Plans", "loot", "[I", true)
  | 2 => ("TakerBook$Plans", "price", "[I", true)
  | 3 => ("TakerBook$Plans", "plan", "[I", true)
  | 4 => ("TakerBook$Plans", "first", "[I", true)
  | 5 => ("TakerBook$Plans", "weeks", "I", false)
  | 6 => ("TakerBook$Plans", "fee", "I", false)
  | 7 => ("TakerBook$Plans", "leftAtFirst", "I", false)
  | 8 => ("TakerBook$Plans", "most", "I", false)
  | 9 => ("TakerBook$Plans", "untried", "I", false)
  | 10 => ("TakerBook$Plans", "givenInAll", "I", false)
  | _ => ("TakerBook$Plans", "trial", "I", false)
def R_K : String := "TakerBook$Marks"
def F_K : u_T := fun k => match k with
  | 0 => ("TakerBook$Marks", "talking", "[[I", true)
  | 1 => ("TakerBook$Marks", "crosses", "[I", true)
  | 2 => ("TakerBook$Marks", "left", "I", false)
  | 3 => ("TakerBook$Marks", "bench", "I", false)
  | 4 => ("TakerBook$Marks", "fewest", "I", false)
  | _ => ("TakerBook$Marks", "withTwo", "I", false)
def R_D : String := "TakerBook$Deeds"
def F_D : u_T := fun k => match k with
  | 0 => ("TakerBook$Deeds", "what", "[I", true)
  | 1 => ("TakerBook$Deeds", "of", "[I", true)
  | _ => ("TakerBook$Deeds", "size", "I", false)
def R_R : String := "TakerBook$Reader"
def F_R : u_T := fun k => match k with
  | 0 => ("TakerBook$Reader", "kind", "[I", true)
  | 1 => ("TakerBook$Reader", "ofBook", "[I", true)
  | 2 => ("TakerBook$Reader", "ofThieves", "[I", true)
  | 3 => ("TakerBook$Reader", "thieves", "I", false)
  | _ => ("TakerBook$Reader", "place", "I", false)
def R_Th : String := "TakerBook$Thief"
def F_Th : u_T := fun k => match k with
  | _ => ("", "", "I", false)
def R_Re : String := "TakerBook$Returned"
def F_Re : u_T := fun k => match k with
  | _ => ("", "", "I", false)
def R_Cl : String := "TakerBook$Clerk"
def F_Cl : u_T := fun k => match k with
  | _ => ("", "", "I", false)
def R_Ga : String := "TakerBook$Gang"
def F_Ga : u_T := fun k => match k with
  | _ => ("", "", "I", false)
def R_La : String := "TakerBook$Lace"
def F_La : u_T := fun k => match k with
  | _ => ("", "", "I", false)
def R_Yo : String := "TakerBook$Young"
def F_Yo : u_T := fun k => match k with
  | _ => ("", "", "I", false)
def R_M : String := "TakerBookModel"
def F_M : u_T := fun k => match k with
  | 0 => ("TakerBookModel", "latest", "I", false)
  | 1 => ("TakerBookModel", "came", "[I", true)
  | 2 => ("TakerBookModel", "asked", "I", false)
  | 3 => ("TakerBookModel", "upper", "J", false)
  | 4 => ("TakerBookModel", "lower", "J", false)
  | 5 => ("TakerBookModel", "sizes", "[I", true)
  | 6 => ("TakerBookModel", "rows", "[I", true)
  | 7 => ("TakerBookModel", "copied", "[I", true)
  | 8 => ("TakerBookModel", "textSizes", "[I", true)
  | 9 => ("TakerBookModel", "bytes", "[B", true)
  | 10 => ("TakerBookModel", "n", "I", false)
  | 11 => ("TakerBookModel", "head", "[I", true)
  | 12 => ("TakerBookModel", "kindOf", "[I", true)
  | 13 => ("TakerBookModel", "skills", "[I", true)
  | 14 => ("TakerBookModel", "boldness", "[I", true)
  | 15 => ("TakerBookModel", "readAt", "I", false)
  | 16 => ("TakerBookModel", "readMany", "I", false)
  | 17 => ("TakerBookModel", "isHead", "Z", false)
  | 18 => ("TakerBookModel", "readHead", "[I", true)
  | 19 => ("TakerBookModel", "readThief", "[I", true)
  | 20 => ("TakerBookModel", "now", "[I", true)
  | 21 => ("TakerBookModel", "tried", "[I", true)
  | 22 => ("TakerBookModel", "deedMany", "I", false)
  | 23 => ("TakerBookModel", "log", "[I", true)
  | 24 => ("TakerBookModel", "isKept", "[Z", true)
  | 25 => ("TakerBookModel", "keptMany", "[I", true)
  | 26 => ("TakerBookModel", "keptNow", "[I", true)
  | 27 => ("TakerBookModel", "keptLog", "[I", true)
  | 28 => ("TakerBookModel", "plan", "[I", true)
  | 29 => ("TakerBookModel", "trialIn", "I", false)
  | 30 => ("TakerBookModel", "fitMany", "I", false)
  | 31 => ("TakerBookModel", "fitFirst", "I", false)
  | 32 => ("TakerBookModel", "fitAll", "I", false)
  | 33 => ("TakerBookModel", "fitAny", "I", false)
  | 34 => ("TakerBookModel", "fitWith", "[I", true)
  | 35 => ("TakerBookModel", "ends", "[I", true)
  | 36 => ("TakerBookModel", "ahead", "[I", true)
  | 37 => ("TakerBookModel", "partSum", "J", false)
  | 38 => ("TakerBookModel", "whole", "J", false)
  | _ => ("TakerBookModel", "hash", "J", false)
def cls : List vw_C := [(R_T, F_T, 15), (R_B, F_B, 19), (R_P, F_P, 12), (R_K, F_K, 6), (R_D, F_D, 3), (R_R, F_R, 5), (R_Th, F_Th, 0), (R_Re, F_Re, 0), (R_Cl, F_Cl, 0), (R_Ga, F_Ga, 0), (R_La, F_La, 0), (R_Yo, F_Yo, 0), (R_M, F_M, 40)]
theorem u_pos {C : String} {T : u_T} {N : Nat} (ps : List Nat) (h : ps.map (fun i => lw_tbl[i]?) = (u_ws C T N).map some) : ∀ w ∈ u_ws C T N, w ∈ lw_tbl := by
  intro w hw
  have h1 : some w ∈ ps.map (fun i => lw_tbl[i]?) := by rw [h]; exact List.mem_map.mpr ⟨w, hw, rfl⟩
  obtain ⟨i, -, hi⟩ := List.mem_map.mp h1
  exact List.mem_of_getElem? hi
set_option maxRecDepth 20000 in
theorem i_T : ∀ w ∈ u_ws R_T F_T 15, w ∈ lw_tbl := u_pos [370, 372, 374, 376, 378, 380, 382, 384, 386, 388, 390, 392, 394, 396, 398] (by decide +kernel)
set_option maxRecDepth 20000 in
theorem i_B : ∀ w ∈ u_ws R_B F_B 19, w ∈ lw_tbl := u_pos [219, 221, 223, 225, 227, 229, 231, 233, 235, 237, 239, 241, 243, 245, 247, 249, 251, 253, 255] (by decide +kernel)
set_option maxRecDepth 20000 in
theorem i_P : ∀ w ∈ u_ws R_P F_P 12, w ∈ lw_tbl := u_pos [281, 283, 285, 287, 289, 291, 293, 295, 297, 299, 301, 303] (by decide +kernel)
set_option maxRecDepth 20000 in
theorem i_K : ∀ w ∈ u_ws R_K F_K 6, w ∈ lw_tbl := u_pos [322, 324, 326, 328, 330, 332] (by decide +kernel)
set_option maxRecDepth 20000 in
theorem i_D : ∀ w ∈ u_ws R_D F_D 3, w ∈ lw_tbl := u_pos [347, 349, 351] (by decide +kernel)
set_option maxRecDepth 20000 in
theorem i_R : ∀ w ∈ u_ws R_R F_R 5, w ∈ lw_tbl := u_pos [117, 119, 121, 123, 125] (by decide +kernel)
set_option maxRecDepth 20000 in
theorem i_Th : ∀ w ∈ u_ws R_Th F_Th 0, w ∈ lw_tbl := u_pos [] (by decide +kernel)
set_option maxRecDepth 20000 in
theorem i_Re : ∀ w ∈ u_ws R_Re F_Re 0, w ∈ lw_tbl := u_pos [] (by decide +kernel)
set_option maxRecDepth 20000 in
theorem i_Cl : ∀ w ∈ u_ws R_Cl F_Cl 0, w ∈ lw_tbl := u_pos [] (by decide +kernel)
set_option maxRecDepth 20000 in
theorem i_Ga : ∀ w ∈ u_ws R_Ga F_Ga 0, w ∈ lw_tbl := u_pos [] (by decide +kernel)
set_option maxRecDepth 20000 in
theorem i_La : ∀ w ∈ u_ws R_La F_La 0, w ∈ lw_tbl := u_pos [] (by decide +kernel)
set_option maxRecDepth 20000 in
theorem i_Yo : ∀ w ∈ u_ws R_Yo F_Yo 0, w ∈ lw_tbl := u_pos [] (by decide +kernel)
set_option maxRecDepth 20000 in
theorem i_M : ∀ w ∈ u_ws R_M F_M 40, w ∈ lw_tbl := u_pos [1019, 1021, 1023, 1025, 1027, 1029, 1031, 1033, 1035, 1037, 1039, 1041, 1043, 1045, 1047, 1049, 1051, 1053, 1055, 1057, 1059, 1061, 1063, 1065, 1067, 1069, 1071, 1073, 1075, 1077, 1079, 1081, 1083, 1085, 1087, 1089, 1091, 1093, 1095, 1097] (by decide +kernel)
abbrev Sh : Type := (FieldType × Nat) ⊕ ((FieldType × Nat × (Nat → Nat)) ⊕ (Nat × List (Nat ⊕ Bool)))
/-- the cells, by number: arrays of numbers; arrays of cells; objects (class, fields: a cell, an int, a long) -/
def Gam : List Sh := [
  .inr (.inr (0, [.inl 1, .inl 8, .inl 9, .inl 14, .inl 15, .inl 19, .inl 34, .inl 40, .inl 49, .inl 52, .inl 62, .inr false, .inr false, .inr true, .inr true])), -- 0 T
  .inr (.inl ((.array .int), 6, fun j => 2 + j)), -- 1 rows
  .inl (.int, 40), -- 2 row0
  .inl (.int, 40), -- 3 row1
  .inl (.int, 40), -- 4 row2
  .inl (.int, 40), -- 5 row3
  .inl (.int, 40), -- 6 row4
  .inl (.int, 40), -- 7 row5
  .inl (.int, 6), -- 8 rowSizes
  .inr (.inl ((.array .byte), 4, fun j => 10 + j)), -- 9 texts
  .inl (.byte, 60), -- 10 text0
  .inl (.byte, 60), -- 11 text1
  .inl (.byte, 60), -- 12 text2
  .inl (.byte, 60), -- 13 text3
  .inl (.int, 4), -- 14 textSizes
  .inr (.inr (5, [.inl 16, .inl 17, .inl 18, .inr false, .inr false])), -- 15 R
  .inl (.int, 6), -- 16 R.kind
  .inl (.int, 4), -- 17 R.ofBook
  .inl (.int, 18), -- 18 R.ofThieves
  .inr (.inr (1, [.inl 20, .inl 27, .inl 28, .inl 29, .inl 30, .inl 31, .inl 32, .inl 33, .inr false, .inr false, .inr false, .inr false, .inr false, .inr false, .inr false, .inr false, .inr false, .inr false, .inr false])), -- 19 B
  .inr (.inl ((.object "TakerBook$Thief"), 6, fun j => 21 + j)), -- 20 natures
  .inr (.inr (6, [])), -- 21 nat0
  .inr (.inr (7, [])), -- 22 nat1
  .inr (.inr (8, [])), -- 23 nat2
  .inr (.inr (9, [])), -- 24 nat3
  .inr (.inr (10, [])), -- 25 nat4
  .inr (.inr (11, [])), -- 26 nat5
  .inl (.int, 6), -- 27 B.kind
  .inl (.int, 6), -- 28 B.skill
  .inl (.int, 6), -- 29 B.boldness
  .inl (.int, 6), -- 30 B.firstCrosses
  .inl (.int, 6), -- 31 B.crosses
  .inl (.int, 6), -- 32 B.lootNow
  .inl (.int, 6), -- 33 B.priceNow
  .inr (.inr (2, [.inl 35, .inl 36, .inl 37, .inl 38, .inl 39, .inr false, .inr false, .inr false, .inr false, .inr false, .inr false, .inr false])), -- 34 P
  .inl (.boolean, 64), -- 35 P.trying
  .inl (.int, 64), -- 36 P.loot
  .inl (.int, 6), -- 37 P.price
  .inl (.int, 4), -- 38 P.plan
  .inl (.int, 4), -- 39 P.first
  .inr (.inr (3, [.inl 41, .inl 48, .inr false, .inr false, .inr false, .inr false])), -- 40 K
  .inr (.inl ((.array .int), 6, fun j => 42 + j)), -- 41 K.talking
  .inl (.int, 3), -- 42 K.talk0
  .inl (.int, 3), -- 43 K.talk1
  .inl (.int, 3), -- 44 K.talk2
  .inl (.int, 3), -- 45 K.talk3
  .inl (.int, 3), -- 46 K.talk4
  .inl (.int, 3), -- 47 K.talk5
  .inl (.int, 6), -- 48 K.crosses
  .inr (.inr (4, [.inl 50, .inl 51, .inr false])), -- 49 D
  .inl (.int, 40), -- 50 D.what
  .inl (.int, 40), -- 51 D.of
  .inr (.inl ((.object "TakerBook$Deeds"), 3, fun j => 53 + 3 * j)), -- 52 kept
  .inr (.inr (4, [.inl 54, .inl 55, .inr false])), -- 53 D0
  .inl (.int, 40), -- 54 D0.what
  .inl (.int, 40), -- 55 D0.of
  .inr (.inr (4, [.inl 57, .inl 58, .inr false])), -- 56 D1
  .inl (.int, 40), -- 57 D1.what
  .inl (.int, 40), -- 58 D1.of
  .inr (.inr (4, [.inl 60, .inl 61, .inr false])), -- 59 D2
  .inl (.int, 40), -- 60 D2.what
  .inl (.int, 40), -- 61 D2.of
  .inl (.int, 6), -- 62 found
  .inr (.inr (12, [.inr false, .inl 64, .inr false, .inr true, .inr true, .inl 65, .inl 66, .inl 67, .inl 68, .inl 69, .inr false, .inl 70, .inl 71, .inl 72, .inl 73, .inr false, .inr false, .inr false, .inl 74, .inl 75, .inl 76, .inl 77, .inr false, .inl 78, .inl 79, .inl 80, .inl 81, .inl 82, .inl 83, .inr false, .inr false, .inr false, .inr false, .inr false, .inl 84, .inl 85, .inl 86, .inr true, .inr true, .inr true])), -- 63 M
  .inl (.int, 6), -- 64 M.came
  .inl (.int, 6), -- 65 M.sizes
  .inl (.int, 240), -- 66 M.rows
  .inl (.int, 40), -- 67 M.copied
  .inl (.int, 4), -- 68 M.textSizes
  .inl (.byte, 240), -- 69 M.bytes
  .inl (.int, 4), -- 70 M.head
  .inl (.int, 6), -- 71 M.kindOf
  .inl (.int, 6), -- 72 M.skills
  .inl (.int, 6), -- 73 M.boldness
  .inl (.int, 4), -- 74 M.readHead
  .inl (.int, 24), -- 75 M.readThief
  .inl (.int, 11), -- 76 M.now
  .inl (.int, 11), -- 77 M.tried
  .inl (.int, 440), -- 78 M.log
  .inl (.boolean, 3), -- 79 M.isKept
  .inl (.int, 3), -- 80 M.keptMany
  .inl (.int, 33), -- 81 M.keptNow
  .inl (.int, 1320), -- 82 M.keptLog
  .inl (.int, 4), -- 83 M.plan
  .inl (.int, 6), -- 84 M.fitWith
  .inl (.int, 729), -- 85 M.ends
  .inl (.int, 729) -- 86 M.ahead
  ]
/-- the links to nest mates: (own class, entry, method, host) -/
def nestL : List (String × Nat × MethodName × String) := [
  ("TakerBook", 28, ({ cls := "TakerBook$Reader", name := "<init>", desc := "()V" } : Jvm.MethodName), "TakerBook"),
  ("TakerBook", 35, ({ cls := "TakerBook$Band", name := "<init>", desc := "()V" } : Jvm.MethodName), "TakerBook"),
  ("TakerBook$Band", 11, ({ cls := "TakerBook$Thief", name := "<init>", desc := "()V" } : Jvm.MethodName), "TakerBook"),
  ("TakerBook$Band", 14, ({ cls := "TakerBook$Returned", name := "<init>", desc := "()V" } : Jvm.MethodName), "TakerBook"),
  ("TakerBook$Returned", 3, ({ cls := "TakerBook$Thief", name := "<init>", desc := "()V" } : Jvm.MethodName), "TakerBook"),
  ("TakerBook$Band", 17, ({ cls := "TakerBook$Clerk", name := "<init>", desc := "()V" } : Jvm.MethodName), "TakerBook"),
  ("TakerBook$Clerk", 3, ({ cls := "TakerBook$Thief", name := "<init>", desc := "()V" } : Jvm.MethodName), "TakerBook"),
  ("TakerBook$Band", 20, ({ cls := "TakerBook$Gang", name := "<init>", desc := "()V" } : Jvm.MethodName), "TakerBook"),
  ("TakerBook$Gang", 3, ({ cls := "TakerBook$Thief", name := "<init>", desc := "()V" } : Jvm.MethodName), "TakerBook"),
  ("TakerBook$Band", 23, ({ cls := "TakerBook$Lace", name := "<init>", desc := "()V" } : Jvm.MethodName), "TakerBook"),
  ("TakerBook$Lace", 3, ({ cls := "TakerBook$Returned", name := "<init>", desc := "()V" } : Jvm.MethodName), "TakerBook"),
  ("TakerBook$Band", 26, ({ cls := "TakerBook$Young", name := "<init>", desc := "()V" } : Jvm.MethodName), "TakerBook"),
  ("TakerBook$Young", 3, ({ cls := "TakerBook$Gang", name := "<init>", desc := "()V" } : Jvm.MethodName), "TakerBook"),
  ("TakerBook", 42, ({ cls := "TakerBook$Plans", name := "<init>", desc := "()V" } : Jvm.MethodName), "TakerBook"),
  ("TakerBook", 49, ({ cls := "TakerBook$Marks", name := "<init>", desc := "()V" } : Jvm.MethodName), "TakerBook"),
  ("TakerBook", 56, ({ cls := "TakerBook$Deeds", name := "<init>", desc := "()V" } : Jvm.MethodName), "TakerBook"),
  ("TakerBook$Band", 111, ({ cls := "TakerBook", name := "isIn", desc := "(II)Z" } : Jvm.MethodName), "TakerBook"),
  ("TakerBook$Marks", 53, ({ cls := "TakerBook", name := "isBetter", desc := "(IIII)Z" } : Jvm.MethodName), "TakerBook"),
  ("TakerBook$Marks", 57, ({ cls := "TakerBook", name := "isIn", desc := "(II)Z" } : Jvm.MethodName), "TakerBook"),
  ("TakerBook$Plans", 85, ({ cls := "TakerBook", name := "isIn", desc := "(II)Z" } : Jvm.MethodName), "TakerBook")
  ]
def nestW (q : String × Nat × MethodName × String) : Cond := .methodLinkNest q.1 q.2.1 q.2.2.1 q.2.2.2
set_option maxRecDepth 20000 in
theorem nest_in : ∀ q ∈ nestL, nestW q ∈ lw_tbl := by decide +kernel
/-- the static arrays that nobody writes: field, type, length, contents -/
def stab : List (String × String × FieldType × Nat × (Nat → Int32)) := [
  ("LETTERS", "[C", .char, 6, fun j => [116, 114, 99, 103, 108, 121].getD j 0),
  ("LEAST_OF_BOOK", "[I", .int, 4, fun j => [0, 0, 0, 1].getD j 0),
  ("MOST_OF_BOOK", "[I", .int, 4, fun j => [9, 9, 9, 6].getD j 0),
  ("LEAST_OF_THIEF", "[I", .int, 3, fun j => [0, 0, 0].getD j 0),
  ("MOST_OF_THIEF", "[I", .int, 3, fun j => [9, 9, 2].getD j 0)]
end
