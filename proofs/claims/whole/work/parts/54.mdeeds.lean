theorem st_M_191 : siteV "TakerBookModel" 191 ⟨"TakerBookModel", "isThief", "(I)Z"⟩ := ⟨List.mem_of_getElem? (i := 1208) (by decide +kernel), List.mem_of_getElem? (i := 1210) (by decide +kernel), List.mem_of_getElem? (i := 36) (by decide +kernel)⟩
theorem st_M_194 : siteV "TakerBookModel" 194 ⟨"TakerBookModel", "thiefTells", "(II)I"⟩ := ⟨List.mem_of_getElem? (i := 1212) (by decide +kernel), List.mem_of_getElem? (i := 1214) (by decide +kernel), List.mem_of_getElem? (i := 37) (by decide +kernel)⟩
theorem fk_M_57 : fok "TakerBookModel" 57 12 23 := ⟨(R_M, F_M, 40), rfl, by decide, List.mem_of_getElem? (i := 1002) (by decide +kernel), rfl⟩
theorem fk_M_149 : fok "TakerBookModel" 149 12 22 := ⟨(R_M, F_M, 40), rfl, by decide, List.mem_of_getElem? (i := 1001) (by decide +kernel), rfl⟩
theorem G78 : Gam[78]? = some (.inl (.int, 440)) := rfl
theorem pk_M_deedMany : pok 12 22 .int := ⟨(R_M, F_M, 40), rfl, rfl, by decide +kernel⟩
theorem st_M_197 : siteV "TakerBookModel" 197 ⟨"TakerBookModel", "isOver", "()Z"⟩ := ⟨List.mem_of_getElem? (i := 1257) (by decide +kernel), List.mem_of_getElem? (i := 1259) (by decide +kernel), List.mem_of_getElem? (i := 44) (by decide +kernel)⟩
theorem st_M_201 : siteV "TakerBookModel" 201 ⟨"TakerBookModel", "remember", "()V"⟩ := ⟨List.mem_of_getElem? (i := 1261) (by decide +kernel), List.mem_of_getElem? (i := 1263) (by decide +kernel), List.mem_of_getElem? (i := 45) (by decide +kernel)⟩
theorem st_M_204 : siteV "TakerBookModel" 204 ⟨"TakerBookModel", "passes", "([I)V"⟩ := ⟨List.mem_of_getElem? (i := 1265) (by decide +kernel), List.mem_of_getElem? (i := 1267) (by decide +kernel), List.mem_of_getElem? (i := 46) (by decide +kernel)⟩
theorem st_M_208 : siteV "TakerBookModel" 208 ⟨"TakerBookModel", "canCross", "(I)Z"⟩ := ⟨List.mem_of_getElem? (i := 1285) (by decide +kernel), List.mem_of_getElem? (i := 1287) (by decide +kernel), List.mem_of_getElem? (i := 49) (by decide +kernel)⟩
theorem st_M_211 : siteV "TakerBookModel" 211 ⟨"TakerBookModel", "givesUp", "([II)V"⟩ := ⟨List.mem_of_getElem? (i := 1293) (by decide +kernel), List.mem_of_getElem? (i := 1295) (by decide +kernel), List.mem_of_getElem? (i := 50) (by decide +kernel)⟩
theorem fk_M_67 : fok "TakerBookModel" 67 12 26 := ⟨(R_M, F_M, 40), rfl, by decide, List.mem_of_getElem? (i := 1005) (by decide +kernel), rfl⟩
theorem G81 : Gam[81]? = some (.inl (.int, 33)) := rfl
theorem fk_M_70 : fok "TakerBookModel" 70 12 27 := ⟨(R_M, F_M, 40), rfl, by decide, List.mem_of_getElem? (i := 1006) (by decide +kernel), rfl⟩
theorem ks_440 : (Int16.ofInt 440).toInt32 = (440 : Int32) := by decide
theorem G82 : Gam[82]? = some (.inl (.int, 1320)) := rfl
theorem fk_M_60 : fok "TakerBookModel" 60 12 24 := ⟨(R_M, F_M, 40), rfl, by decide, List.mem_of_getElem? (i := 1003) (by decide +kernel), rfl⟩
theorem G79 : Gam[79]? = some (.inl (.boolean, 3)) := rfl
theorem fk_M_64 : fok "TakerBookModel" 64 12 25 := ⟨(R_M, F_M, 40), rfl, by decide, List.mem_of_getElem? (i := 1004) (by decide +kernel), rfl⟩
theorem G80 : Gam[80]? = some (.inl (.int, 3)) := rfl
abbrev b_M_isThief : ByteArray := prog_14_method_32_code
abbrev y_M_isThief : MethodName := ⟨"TakerBookModel", "isThief", "(I)Z"⟩
theorem d_M_isThief_0 : decode b_M_isThief 0 = .ok (.iload_n 1, 1) := by decide +kernel
theorem d_M_isThief_1 : decode b_M_isThief 1 = .ok (.iconst 0, 1) := by decide +kernel
theorem d_M_isThief_2 : decode b_M_isThief 2 = .ok (.aload_n 0, 1) := by decide +kernel
theorem d_M_isThief_3 : decode b_M_isThief 3 = .ok (.getfield 146, 3) := by decide +kernel
theorem d_M_isThief_6 : decode b_M_isThief 6 = .ok (.iconst 1, 1) := by decide +kernel
theorem d_M_isThief_7 : decode b_M_isThief 7 = .ok (.isub, 1) := by decide +kernel
theorem d_M_isThief_8 : decode b_M_isThief 8 = .ok (.invokestatic 89, 3) := by decide +kernel
theorem d_M_isThief_11 : decode b_M_isThief 11 = .ok (.ireturn, 1) := by decide +kernel
theorem mo_M_isThief : mok y_M_isThief b_M_isThief 2 (some .boolean) 1 := ⟨List.mem_of_getElem? (i := 1211) (by decide +kernel), ⟨by decide +kernel, by decide +kernel, by decide +kernel⟩, List.mem_of_getElem? (i := 86) (by decide +kernel), by decide⟩
set_option maxHeartbeats 4000000 in
theorem c_M_isThief (l : Launch) (u : Un) (hA : Ap u) (σ : St) {n : Nat} {kd : Nat → Nat} (hb : mkOk σ n kd) (i : Int32) : MTi l u y_M_isThief b_M_isThief 2 .boolean 1 [.ref (u.2.1 63), .int i] σ (fun ans σ' => bI (0 ≤ i ∧ i < nI n) = ans ∧ σ = σ') := by
  refine MT_of hA rfl (by decide) (Nat.le_of_ble_eq_true rfl) (fun X hl F hr => ?_)
  subst hl
  refine v_to (ls' := [(0, .ref (u.2.1 63)), (1, .int i)]) rfl ?_
  obtain ⟨hn, hn6, hkd, hk6⟩ := id hb
  refine v_iload_n F d_M_isThief_0 rfl 1 rfl ?_
  refine v_iconst (v := 0) F d_M_isThief_1 ki_0 ?_
  refine v_aload_n F d_M_isThief_2 rfl 0 rfl ?_
  refine v_geti F fk_M_146 G63 rfl d_M_isThief_3 ?_
  refine v_te (y := nI n) hn ?_
  refine v_iconst (v := 1) F d_M_isThief_6 ki_1 ?_
  refine v_isub F d_M_isThief_7 ?_
  refine v_runi (r_S F (c_M_in X.2.1 u hA σ i 0 ((nI n) - 1) ) mo_M_in st_M_89 (by decide) rfl (Nat.le_of_ble_eq_true rfl) d_M_isThief_8) (fun r1 σ2 q3 => ?_)
  obtain ⟨rfl, rfl⟩ := q3
  refine v_iret F hr bI_nar d_M_isThief_11 ?_
  exact ⟨bI_c (th_lt hn6).symm, rfl⟩
abbrev b_M_thiefTells : ByteArray := prog_14_method_45_code
abbrev y_M_thiefTells : MethodName := ⟨"TakerBookModel", "thiefTells", "(II)I"⟩
theorem d_M_thiefTells_0 : decode b_M_thiefTells 0 = .ok (.iload_n 2, 1) := by decide +kernel
theorem d_M_thiefTells_1 : decode b_M_thiefTells 1 = .ok (.tableswitch 120 0 6 #[43, 50, 57, 64, 73, 83, 101], 43) := by decide +kernel
theorem d_M_thiefTells_44 : decode b_M_thiefTells 44 = .ok (.aload_n 0, 1) := by decide +kernel
theorem d_M_thiefTells_45 : decode b_M_thiefTells 45 = .ok (.getfield 36, 3) := by decide +kernel
theorem d_M_thiefTells_48 : decode b_M_thiefTells 48 = .ok (.iload_n 1, 1) := by decide +kernel
theorem d_M_thiefTells_49 : decode b_M_thiefTells 49 = .ok (.iaload, 1) := by decide +kernel
theorem d_M_thiefTells_50 : decode b_M_thiefTells 50 = .ok (.ireturn, 1) := by decide +kernel
theorem d_M_thiefTells_51 : decode b_M_thiefTells 51 = .ok (.aload_n 0, 1) := by decide +kernel
theorem d_M_thiefTells_52 : decode b_M_thiefTells 52 = .ok (.getfield 39, 3) := by decide +kernel
theorem d_M_thiefTells_55 : decode b_M_thiefTells 55 = .ok (.iload_n 1, 1) := by decide +kernel
theorem d_M_thiefTells_56 : decode b_M_thiefTells 56 = .ok (.iaload, 1) := by decide +kernel
theorem d_M_thiefTells_57 : decode b_M_thiefTells 57 = .ok (.ireturn, 1) := by decide +kernel
theorem d_M_thiefTells_58 : decode b_M_thiefTells 58 = .ok (.aload_n 0, 1) := by decide +kernel
theorem d_M_thiefTells_59 : decode b_M_thiefTells 59 = .ok (.getfield 42, 3) := by decide +kernel
theorem d_M_thiefTells_62 : decode b_M_thiefTells 62 = .ok (.iload_n 1, 1) := by decide +kernel
theorem d_M_thiefTells_63 : decode b_M_thiefTells 63 = .ok (.iaload, 1) := by decide +kernel
theorem d_M_thiefTells_64 : decode b_M_thiefTells 64 = .ok (.ireturn, 1) := by decide +kernel
theorem d_M_thiefTells_65 : decode b_M_thiefTells 65 = .ok (.aload_n 0, 1) := by decide +kernel
theorem d_M_thiefTells_66 : decode b_M_thiefTells 66 = .ok (.getfield 51, 3) := by decide +kernel
theorem d_M_thiefTells_69 : decode b_M_thiefTells 69 = .ok (.iconst 5, 1) := by decide +kernel
theorem d_M_thiefTells_70 : decode b_M_thiefTells 70 = .ok (.iload_n 1, 1) := by decide +kernel
theorem d_M_thiefTells_71 : decode b_M_thiefTells 71 = .ok (.iadd, 1) := by decide +kernel
theorem d_M_thiefTells_72 : decode b_M_thiefTells 72 = .ok (.iaload, 1) := by decide +kernel
theorem d_M_thiefTells_73 : decode b_M_thiefTells 73 = .ok (.ireturn, 1) := by decide +kernel
theorem d_M_thiefTells_74 : decode b_M_thiefTells 74 = .ok (.aload_n 0, 1) := by decide +kernel
theorem d_M_thiefTells_75 : decode b_M_thiefTells 75 = .ok (.aload_n 0, 1) := by decide +kernel
theorem d_M_thiefTells_76 : decode b_M_thiefTells 76 = .ok (.getfield 51, 3) := by decide +kernel
theorem d_M_thiefTells_79 : decode b_M_thiefTells 79 = .ok (.iload_n 1, 1) := by decide +kernel
theorem d_M_thiefTells_80 : decode b_M_thiefTells 80 = .ok (.invokevirtual 178, 3) := by decide +kernel
theorem d_M_thiefTells_83 : decode b_M_thiefTells 83 = .ok (.ireturn, 1) := by decide +kernel
theorem d_M_thiefTells_84 : decode b_M_thiefTells 84 = .ok (.aload_n 0, 1) := by decide +kernel
theorem d_M_thiefTells_85 : decode b_M_thiefTells 85 = .ok (.aload_n 0, 1) := by decide +kernel
theorem d_M_thiefTells_86 : decode b_M_thiefTells 86 = .ok (.getfield 51, 3) := by decide +kernel
theorem d_M_thiefTells_89 : decode b_M_thiefTells 89 = .ok (.iload_n 1, 1) := by decide +kernel
theorem d_M_thiefTells_90 : decode b_M_thiefTells 90 = .ok (.invokevirtual 167, 3) := by decide +kernel
theorem d_M_thiefTells_93 : decode b_M_thiefTells 93 = .ok (.ifCond .eq 7, 3) := by decide +kernel
theorem d_M_thiefTells_96 : decode b_M_thiefTells 96 = .ok (.iconst 1, 1) := by decide +kernel
theorem d_M_thiefTells_97 : decode b_M_thiefTells 97 = .ok (.goto 4, 3) := by decide +kernel
theorem d_M_thiefTells_100 : decode b_M_thiefTells 100 = .ok (.iconst 0, 1) := by decide +kernel
theorem d_M_thiefTells_101 : decode b_M_thiefTells 101 = .ok (.ireturn, 1) := by decide +kernel
theorem d_M_thiefTells_102 : decode b_M_thiefTells 102 = .ok (.aload_n 0, 1) := by decide +kernel
theorem d_M_thiefTells_103 : decode b_M_thiefTells 103 = .ok (.getfield 51, 3) := by decide +kernel
theorem d_M_thiefTells_106 : decode b_M_thiefTells 106 = .ok (.iconst 0, 1) := by decide +kernel
theorem d_M_thiefTells_107 : decode b_M_thiefTells 107 = .ok (.iaload, 1) := by decide +kernel
theorem d_M_thiefTells_108 : decode b_M_thiefTells 108 = .ok (.iload_n 1, 1) := by decide +kernel
theorem d_M_thiefTells_109 : decode b_M_thiefTells 109 = .ok (.invokestatic 155, 3) := by decide +kernel
theorem d_M_thiefTells_112 : decode b_M_thiefTells 112 = .ok (.ifCond .eq 7, 3) := by decide +kernel
theorem d_M_thiefTells_115 : decode b_M_thiefTells 115 = .ok (.iconst 1, 1) := by decide +kernel
theorem d_M_thiefTells_116 : decode b_M_thiefTells 116 = .ok (.goto 4, 3) := by decide +kernel
theorem d_M_thiefTells_119 : decode b_M_thiefTells 119 = .ok (.iconst 0, 1) := by decide +kernel
theorem d_M_thiefTells_120 : decode b_M_thiefTells 120 = .ok (.ireturn, 1) := by decide +kernel
theorem d_M_thiefTells_121 : decode b_M_thiefTells 121 = .ok (.aload_n 0, 1) := by decide +kernel
theorem d_M_thiefTells_122 : decode b_M_thiefTells 122 = .ok (.aload_n 0, 1) := by decide +kernel
theorem d_M_thiefTells_123 : decode b_M_thiefTells 123 = .ok (.getfield 51, 3) := by decide +kernel
theorem d_M_thiefTells_126 : decode b_M_thiefTells 126 = .ok (.iload_n 1, 1) := by decide +kernel
theorem d_M_thiefTells_127 : decode b_M_thiefTells 127 = .ok (.invokevirtual 188, 3) := by decide +kernel
theorem d_M_thiefTells_130 : decode b_M_thiefTells 130 = .ok (.ireturn, 1) := by decide +kernel
theorem mo_M_thiefTells : mok y_M_thiefTells b_M_thiefTells 3 (some .int) 2 := ⟨List.mem_of_getElem? (i := 1215) (by decide +kernel), ⟨by decide +kernel, by decide +kernel, by decide +kernel⟩, List.mem_of_getElem? (i := 86) (by decide +kernel), by decide⟩
set_option maxHeartbeats 4000000 in
theorem c_M_thiefTells (l : Launch) (u : Un) (hA : Ap u) (σ : St) {n : Nat} {kd : Nat → Nat} (hb : mkOk σ n kd) {a : Nat} (ha : a < 64) (h0 : σ.1 76 0 = nI a) (i w : Nat) (hi : i < n) (hw : w < 8) : MTi l u y_M_thiefTells b_M_thiefTells 3 .int 3 [.ref (u.2.1 63), .int (nI i), .int (nI w)] σ (fun ans σ' => tlM σ kd n a i w = ans ∧ σ = σ') := by
  refine MT_of hA rfl (by decide) (Nat.le_of_ble_eq_true rfl) (fun X hl F hr => ?_)
  subst hl
  refine v_to (ls' := [(0, .ref (u.2.1 63)), (1, .int (nI i)), (2, .int (nI w))]) rfl ?_
  obtain ⟨hn, hn6, hkd, hk6⟩ := id hb
  refine v_iload_n F d_M_thiefTells_0 rfl 2 rfl ?_
  rcases (show w = 0 ∨ w = 1 ∨ w = 2 ∨ w = 3 ∨ w = 4 ∨ w = 5 ∨ w = 6 ∨ w = 7 from by omega) with hs | hs | hs | hs | hs | hs | hs | hs
  · refine v_te (y := 0) (show nI w = 0 from by rw [hs]; rfl) ?_
    refine v_tableIn (off := 43) F 44 d_M_thiefTells_1 (by decide) (by decide) (by decide) rfl ?_
    refine v_aload_n F d_M_thiefTells_44 rfl 0 rfl ?_
    refine v_getr (r := 71) F fk_M_36 G63 rfl d_M_thiefTells_45 ?_
    refine v_iload_n F d_M_thiefTells_48 rfl 1 rfl ?_
    refine v_ial F i G71 rfl (by omega) d_M_thiefTells_49 ?_
    refine v_te (y := nI (kd i)) (hkd _ (by omega)) ?_
    refine v_iret F hr rfl d_M_thiefTells_50 ?_
    subst hs; exact ⟨by first | rfl | (simp_all [tlM, bI]; done), rfl⟩
  · refine v_te (y := 1) (show nI w = 1 from by rw [hs]; rfl) ?_
    refine v_tableIn (off := 50) F 51 d_M_thiefTells_1 (by decide) (by decide) (by decide) rfl ?_
    refine v_aload_n F d_M_thiefTells_51 rfl 0 rfl ?_
    refine v_getr (r := 72) F fk_M_39 G63 rfl d_M_thiefTells_52 ?_
    refine v_iload_n F d_M_thiefTells_55 rfl 1 rfl ?_
    refine v_ial F i G72 rfl (by omega) d_M_thiefTells_56 ?_
    refine v_iret F hr rfl d_M_thiefTells_57 ?_
    subst hs; exact ⟨by first | rfl | (simp_all [tlM, bI]; done), rfl⟩
  · refine v_te (y := 2) (show nI w = 2 from by rw [hs]; rfl) ?_
    refine v_tableIn (off := 57) F 58 d_M_thiefTells_1 (by decide) (by decide) (by decide) rfl ?_
    refine v_aload_n F d_M_thiefTells_58 rfl 0 rfl ?_
    refine v_getr (r := 73) F fk_M_42 G63 rfl d_M_thiefTells_59 ?_
    refine v_iload_n F d_M_thiefTells_62 rfl 1 rfl ?_
    refine v_ial F i G73 rfl (by omega) d_M_thiefTells_63 ?_
    refine v_iret F hr rfl d_M_thiefTells_64 ?_
    subst hs; exact ⟨by first | rfl | (simp_all [tlM, bI]; done), rfl⟩
  · refine v_te (y := 3) (show nI w = 3 from by rw [hs]; rfl) ?_
    refine v_tableIn (off := 64) F 65 d_M_thiefTells_1 (by decide) (by decide) (by decide) rfl ?_
    refine v_aload_n F d_M_thiefTells_65 rfl 0 rfl ?_
    refine v_getr (r := 76) F fk_M_51 G63 rfl d_M_thiefTells_66 ?_
    refine v_iconst (v := 5) F d_M_thiefTells_69 ki_5 ?_
    refine v_iload_n F d_M_thiefTells_70 rfl 1 rfl ?_
    refine v_iadd F d_M_thiefTells_71 ?_
    refine v_te (y := nI (5 + i)) (nI_add _ _) ?_
    refine v_ial F (5 + i) G76 rfl (by omega) d_M_thiefTells_72 ?_
    refine v_iret F hr rfl d_M_thiefTells_73 ?_
    subst hs; exact ⟨by first | rfl | (simp_all [tlM, bI]; done), rfl⟩
  · refine v_te (y := 4) (show nI w = 4 from by rw [hs]; rfl) ?_
    refine v_tableIn (off := 73) F 74 d_M_thiefTells_1 (by decide) (by decide) (by decide) rfl ?_
    refine v_aload_n F d_M_thiefTells_74 rfl 0 rfl ?_
    refine v_aload_n F d_M_thiefTells_75 rfl 0 rfl ?_
    refine v_getr (r := 76) F fk_M_51 G63 rfl d_M_thiefTells_76 ?_
    refine v_iload_n F d_M_thiefTells_79 rfl 1 rfl ?_
    refine v_runi (r_V F (c_M_steals X.2.1 u hA σ hb (kO := 76) (Or.inl rfl) ha h0 i (by omega)) mo_M_steals st_M_178 rc_63 (by decide) rfl (Nat.le_of_ble_eq_true rfl) d_M_thiefTells_80) (fun r1 σ2 q3 => ?_)
    obtain ⟨rfl, rfl⟩ := q3
    refine v_iret F hr rfl d_M_thiefTells_83 ?_
    subst hs; exact ⟨by first | rfl | (simp_all [tlM, bI]; done), rfl⟩
  · refine v_te (y := 5) (show nI w = 5 from by rw [hs]; rfl) ?_
    refine v_tableIn (off := 83) F 84 d_M_thiefTells_1 (by decide) (by decide) (by decide) rfl ?_
    refine v_aload_n F d_M_thiefTells_84 rfl 0 rfl ?_
    refine v_aload_n F d_M_thiefTells_85 rfl 0 rfl ?_
    refine v_getr (r := 76) F fk_M_51 G63 rfl d_M_thiefTells_86 ?_
    refine v_iload_n F d_M_thiefTells_89 rfl 1 rfl ?_
    refine v_runi (r_V F (c_M_isSpeaking X.2.1 u hA σ hb (kO := 76) (Or.inl rfl) ha h0 i (by omega)) mo_M_isSpeaking st_M_167 rc_63 (by decide) rfl (Nat.le_of_ble_eq_true rfl) d_M_thiefTells_90) (fun r4 σ5 q6 => ?_)
    obtain ⟨rfl, rfl⟩ := q6
    refine v_bt F 100 d_M_thiefTells_93 rfl (fun h93 => ?_) (fun h93 => ?_)
    · skip
      refine v_iconst (v := 0) F d_M_thiefTells_100 ki_0 ?_
      refine v_iret F hr rfl d_M_thiefTells_101 ?_
      subst hs; exact ⟨by first | rfl | (simp_all [tlM, bI]; done), rfl⟩
    · skip
      refine v_iconst (v := 1) F d_M_thiefTells_96 ki_1 ?_
      refine v_goto F 101 d_M_thiefTells_97 rfl ?_
      refine v_iret F hr rfl d_M_thiefTells_101 ?_
      subst hs; exact ⟨by first | rfl | (simp_all [tlM, bI]; done), rfl⟩
  · refine v_te (y := 6) (show nI w = 6 from by rw [hs]; rfl) ?_
    refine v_tableIn (off := 101) F 102 d_M_thiefTells_1 (by decide) (by decide) (by decide) rfl ?_
    refine v_aload_n F d_M_thiefTells_102 rfl 0 rfl ?_
    refine v_getr (r := 76) F fk_M_51 G63 rfl d_M_thiefTells_103 ?_
    refine v_iconst (v := 0) F d_M_thiefTells_106 ki_0 ?_
    refine v_ial F 0 G76 rfl (by omega) d_M_thiefTells_107 ?_
    refine v_te (y := nI a) h0 ?_
    refine v_iload_n F d_M_thiefTells_108 rfl 1 rfl ?_
    refine v_runi (r_S F (c_M_has2 X.2.1 u hA σ i a (by omega) (by omega)) mo_M_has st_M_155 (by decide) rfl (Nat.le_of_ble_eq_true rfl) d_M_thiefTells_109) (fun r7 σ8 q9 => ?_)
    obtain ⟨rfl, rfl⟩ := q9
    refine v_bt F 119 d_M_thiefTells_112 rfl (fun h112 => ?_) (fun h112 => ?_)
    · skip
      refine v_iconst (v := 0) F d_M_thiefTells_119 ki_0 ?_
      refine v_iret F hr rfl d_M_thiefTells_120 ?_
      subst hs; exact ⟨by first | rfl | (simp_all [tlM, bI]; done), rfl⟩
    · skip
      refine v_iconst (v := 1) F d_M_thiefTells_115 ki_1 ?_
      refine v_goto F 120 d_M_thiefTells_116 rfl ?_
      refine v_iret F hr rfl d_M_thiefTells_120 ?_
      subst hs; exact ⟨by first | rfl | (simp_all [tlM, bI]; done), rfl⟩
  · refine v_te (y := 7) (show nI w = 7 from by rw [hs]; rfl) ?_
    refine v_tableOut F 121 d_M_thiefTells_1 (by decide) rfl ?_
    refine v_aload_n F d_M_thiefTells_121 rfl 0 rfl ?_
    refine v_aload_n F d_M_thiefTells_122 rfl 0 rfl ?_
    refine v_getr (r := 76) F fk_M_51 G63 rfl d_M_thiefTells_123 ?_
    refine v_iload_n F d_M_thiefTells_126 rfl 1 rfl ?_
    refine v_runi (r_V F (c_M_headOf X.2.1 u hA σ hb (kO := 76) (Or.inl rfl) ha h0 i (by omega)) mo_M_headOf st_M_188 rc_63 (by decide) rfl (Nat.le_of_ble_eq_true rfl) d_M_thiefTells_127) (fun r10 σ11 q12 => ?_)
    obtain ⟨rfl, rfl⟩ := q12
    refine v_iret F hr rfl d_M_thiefTells_130 ?_
    subst hs; exact ⟨by first | rfl | (simp_all [tlM, bI]; done), rfl⟩
abbrev b_M_thief : ByteArray := prog_14_method_46_code
abbrev y_M_thief : MethodName := ⟨"TakerBookModel", "thief", "(II)I"⟩
theorem d_M_thief_0 : decode b_M_thief 0 = .ok (.aload_n 0, 1) := by decide +kernel
theorem d_M_thief_1 : decode b_M_thief 1 = .ok (.iload_n 1, 1) := by decide +kernel
theorem d_M_thief_2 : decode b_M_thief 2 = .ok (.invokevirtual 191, 3) := by decide +kernel
theorem d_M_thief_5 : decode b_M_thief 5 = .ok (.ifCond .eq 27, 3) := by decide +kernel
theorem d_M_thief_8 : decode b_M_thief 8 = .ok (.iload_n 2, 1) := by decide +kernel
theorem d_M_thief_9 : decode b_M_thief 9 = .ok (.iconst 0, 1) := by decide +kernel
theorem d_M_thief_10 : decode b_M_thief 10 = .ok (.bipush 7, 2) := by decide +kernel
theorem d_M_thief_12 : decode b_M_thief 12 = .ok (.invokestatic 89, 3) := by decide +kernel
theorem d_M_thief_15 : decode b_M_thief 15 = .ok (.ifCond .eq 17, 3) := by decide +kernel
theorem d_M_thief_18 : decode b_M_thief 18 = .ok (.aload_n 0, 1) := by decide +kernel
theorem d_M_thief_19 : decode b_M_thief 19 = .ok (.aload_n 0, 1) := by decide +kernel
theorem d_M_thief_20 : decode b_M_thief 20 = .ok (.iload_n 1, 1) := by decide +kernel
theorem d_M_thief_21 : decode b_M_thief 21 = .ok (.iload_n 2, 1) := by decide +kernel
theorem d_M_thief_22 : decode b_M_thief 22 = .ok (.invokevirtual 194, 3) := by decide +kernel
theorem d_M_thief_25 : decode b_M_thief 25 = .ok (.iconst 1, 1) := by decide +kernel
theorem d_M_thief_26 : decode b_M_thief 26 = .ok (.invokevirtual 111, 3) := by decide +kernel
theorem d_M_thief_29 : decode b_M_thief 29 = .ok (.goto 4, 3) := by decide +kernel
theorem d_M_thief_32 : decode b_M_thief 32 = .ok (.iconst (-1), 1) := by decide +kernel
theorem d_M_thief_33 : decode b_M_thief 33 = .ok (.ireturn, 1) := by decide +kernel
theorem mo_M_thief : mok y_M_thief b_M_thief 3 (some .int) 2 := ⟨List.mem_of_getElem? (i := 1207) (by decide +kernel), ⟨by decide +kernel, by decide +kernel, by decide +kernel⟩, List.mem_of_getElem? (i := 86) (by decide +kernel), by decide⟩
set_option maxHeartbeats 4000000 in
theorem c_M_thief (l : Launch) (u : Un) (hA : Ap u) (σ : St) {n : Nat} {kd : Nat → Nat} (hb : mkOk σ n kd) {a : Nat} (ha : a < 64) (h0 : σ.1 76 0 = nI a) (i w : Int32) : MTi l u y_M_thief b_M_thief 3 .int 4 [.ref (u.2.1 63), .int i, .int w] σ (fun ans σ' => (ans, σ') = mThief σ kd n a i w) := by
  refine MT_of hA rfl (by decide) (Nat.le_of_ble_eq_true rfl) (fun X hl F hr => ?_)
  subst hl
  refine v_to (ls' := [(0, .ref (u.2.1 63)), (1, .int i), (2, .int w)]) rfl ?_
  obtain ⟨hn, hn6, hkd, hk6⟩ := id hb
  refine v_aload_n F d_M_thief_0 rfl 0 rfl ?_
  refine v_iload_n F d_M_thief_1 rfl 1 rfl ?_
  refine v_runi (r_V F (c_M_isThief X.2.1 u hA σ hb i) mo_M_isThief st_M_191 rc_63 (by decide) rfl (Nat.le_of_ble_eq_true rfl) d_M_thief_2) (fun r1 σ2 q3 => ?_)
  obtain ⟨rfl, rfl⟩ := q3
  refine v_bt F 32 d_M_thief_5 rfl (fun h5 => ?_) (fun h5 => ?_)
  · skip
    refine v_iconst (v := (-1)) F d_M_thief_32 ki_m1 ?_
    refine v_iret F hr rfl d_M_thief_33 ?_
    unfold mThief
    first | (rw [if_pos (by first | assumption | grind)]; done) | (rw [if_neg (by first | assumption | grind), if_pos (by first | assumption | grind)]; done) | (rw [if_neg (by first | assumption | grind), if_neg (by first | assumption | grind)]; first | done | rfl | (simp_all [uI_o]; done)) | (simp_all; done) | grind
  · skip
    obtain ⟨j, hj, xj, rfl⟩ := has_nat h5 rfl hn6
    refine v_iload_n F d_M_thief_8 rfl 2 rfl ?_
    refine v_iconst (v := 0) F d_M_thief_9 ki_0 ?_
    refine v_bipush (v := 7) F d_M_thief_10 kb_7 ?_
    refine v_runi (r_S F (c_M_in X.2.1 u hA σ w 0 7 ) mo_M_in st_M_89 (by decide) rfl (Nat.le_of_ble_eq_true rfl) d_M_thief_12) (fun r4 σ5 q6 => ?_)
    obtain ⟨rfl, rfl⟩ := q6
    refine v_bt F 32 d_M_thief_15 rfl (fun h15 => ?_) (fun h15 => ?_)
    · skip
      refine v_iconst (v := (-1)) F d_M_thief_32 ki_m1 ?_
      refine v_iret F hr rfl d_M_thief_33 ?_
      unfold mThief
      first | (rw [if_pos (by first | assumption | grind)]; done) | (rw [if_neg (by first | assumption | grind), if_pos (by first | assumption | grind)]; done) | (rw [if_neg (by first | assumption | grind), if_neg (by first | assumption | grind)]; first | done | rfl | (simp_all [uI_o]; done)) | (simp_all; done) | grind
    · skip
      obtain ⟨v, hv, xv, rfl⟩ := nat_of (M := 7) h15.1 h15.2 rfl (by decide)
      refine v_aload_n F d_M_thief_18 rfl 0 rfl ?_
      refine v_aload_n F d_M_thief_19 rfl 0 rfl ?_
      refine v_iload_n F d_M_thief_20 rfl 1 rfl ?_
      refine v_iload_n F d_M_thief_21 rfl 2 rfl ?_
      refine v_runi (r_V F (c_M_thiefTells X.2.1 u hA σ hb ha h0 j v (by omega) (by omega)) mo_M_thiefTells st_M_194 rc_63 (by decide) rfl (Nat.le_of_ble_eq_true rfl) d_M_thief_22) (fun r7 σ8 q9 => ?_)
      obtain ⟨rfl, rfl⟩ := q9
      refine v_iconst (v := 1) F d_M_thief_25 ki_1 ?_
      refine v_runi (r_V F (c_M_tells X.2.1 u hA σ (tlM σ kd n a j v) 1) mo_M_tells st_M_111 rc_63 (by decide) rfl (Nat.le_of_ble_eq_true rfl) d_M_thief_26) (fun r10 σ11 q12 => ?_)
      obtain ⟨rfl, eσ11⟩ := q12
      refine v_goto F 33 d_M_thief_29 rfl ?_
      refine v_iret F hr rfl d_M_thief_33 ?_
      unfold mThief
      first | (rw [if_pos (by first | assumption | grind)]; done) | (rw [if_neg (by first | assumption | grind), if_pos (by first | assumption | grind)]; done) | (rw [if_neg (by first | assumption | grind), if_neg (by first | assumption | grind)]; first | done | rfl | (simp_all [uI_o]; done)) | (simp_all; done) | grind
abbrev b_M_mark : ByteArray := prog_14_method_47_code
abbrev y_M_mark : MethodName := ⟨"TakerBookModel", "mark", "(II)I"⟩
theorem d_M_mark_0 : decode b_M_mark 0 = .ok (.aload_n 0, 1) := by decide +kernel
theorem d_M_mark_1 : decode b_M_mark 1 = .ok (.iload_n 1, 1) := by decide +kernel
theorem d_M_mark_2 : decode b_M_mark 2 = .ok (.invokevirtual 191, 3) := by decide +kernel
theorem d_M_mark_5 : decode b_M_mark 5 = .ok (.ifCond .eq 12, 3) := by decide +kernel
theorem d_M_mark_8 : decode b_M_mark 8 = .ok (.iload_n 2, 1) := by decide +kernel
theorem d_M_mark_9 : decode b_M_mark 9 = .ok (.iconst 1, 1) := by decide +kernel
theorem d_M_mark_10 : decode b_M_mark 10 = .ok (.iconst 5, 1) := by decide +kernel
theorem d_M_mark_11 : decode b_M_mark 11 = .ok (.invokestatic 89, 3) := by decide +kernel
theorem d_M_mark_14 : decode b_M_mark 14 = .ok (.ifCond .ne 5, 3) := by decide +kernel
theorem d_M_mark_17 : decode b_M_mark 17 = .ok (.iconst (-1), 1) := by decide +kernel
theorem d_M_mark_18 : decode b_M_mark 18 = .ok (.ireturn, 1) := by decide +kernel
theorem d_M_mark_19 : decode b_M_mark 19 = .ok (.aload_n 0, 1) := by decide +kernel
theorem d_M_mark_20 : decode b_M_mark 20 = .ok (.getfield 36, 3) := by decide +kernel
theorem d_M_mark_23 : decode b_M_mark 23 = .ok (.iload_n 1, 1) := by decide +kernel
theorem d_M_mark_24 : decode b_M_mark 24 = .ok (.iaload, 1) := by decide +kernel
theorem d_M_mark_25 : decode b_M_mark 25 = .ok (.istore_n 3, 1) := by decide +kernel
theorem d_M_mark_26 : decode b_M_mark 26 = .ok (.iload_n 3, 1) := by decide +kernel
theorem d_M_mark_27 : decode b_M_mark 27 = .ok (.iload_n 2, 1) := by decide +kernel
theorem d_M_mark_28 : decode b_M_mark 28 = .ok (.if_icmp .eq 29, 3) := by decide +kernel
theorem d_M_mark_31 : decode b_M_mark 31 = .ok (.iload_n 2, 1) := by decide +kernel
theorem d_M_mark_32 : decode b_M_mark 32 = .ok (.iconst 1, 1) := by decide +kernel
theorem d_M_mark_33 : decode b_M_mark 33 = .ok (.if_icmp .ne 8, 3) := by decide +kernel
theorem d_M_mark_36 : decode b_M_mark 36 = .ok (.iload_n 3, 1) := by decide +kernel
theorem d_M_mark_37 : decode b_M_mark 37 = .ok (.iconst 4, 1) := by decide +kernel
theorem d_M_mark_38 : decode b_M_mark 38 = .ok (.if_icmp .eq 19, 3) := by decide +kernel
theorem d_M_mark_41 : decode b_M_mark 41 = .ok (.iload_n 2, 1) := by decide +kernel
theorem d_M_mark_42 : decode b_M_mark 42 = .ok (.iconst 3, 1) := by decide +kernel
theorem d_M_mark_43 : decode b_M_mark 43 = .ok (.if_icmp .ne 8, 3) := by decide +kernel
theorem d_M_mark_46 : decode b_M_mark 46 = .ok (.iload_n 3, 1) := by decide +kernel
theorem d_M_mark_47 : decode b_M_mark 47 = .ok (.iconst 5, 1) := by decide +kernel
theorem d_M_mark_48 : decode b_M_mark 48 = .ok (.if_icmp .eq 9, 3) := by decide +kernel
theorem d_M_mark_51 : decode b_M_mark 51 = .ok (.aload_n 0, 1) := by decide +kernel
theorem d_M_mark_52 : decode b_M_mark 52 = .ok (.iconst 3, 1) := by decide +kernel
theorem d_M_mark_53 : decode b_M_mark 53 = .ok (.invokevirtual 103, 3) := by decide +kernel
theorem d_M_mark_56 : decode b_M_mark 56 = .ok (.ireturn, 1) := by decide +kernel
theorem d_M_mark_57 : decode b_M_mark 57 = .ok (.iload_n 2, 1) := by decide +kernel
theorem d_M_mark_58 : decode b_M_mark 58 = .ok (.tableswitch 78 1 4 #[30, 48, 57, 67], 30) := by decide +kernel
theorem d_M_mark_88 : decode b_M_mark 88 = .ok (.aload_n 0, 1) := by decide +kernel
theorem d_M_mark_89 : decode b_M_mark 89 = .ok (.aload_n 0, 1) := by decide +kernel
theorem d_M_mark_90 : decode b_M_mark 90 = .ok (.getfield 51, 3) := by decide +kernel
theorem d_M_mark_93 : decode b_M_mark 93 = .ok (.invokevirtual 171, 3) := by decide +kernel
theorem d_M_mark_96 : decode b_M_mark 96 = .ok (.iconst 1, 1) := by decide +kernel
theorem d_M_mark_97 : decode b_M_mark 97 = .ok (.iload_n 1, 1) := by decide +kernel
theorem d_M_mark_98 : decode b_M_mark 98 = .ok (.ishl, 1) := by decide +kernel
theorem d_M_mark_99 : decode b_M_mark 99 = .ok (.iconst (-1), 1) := by decide +kernel
theorem d_M_mark_100 : decode b_M_mark 100 = .ok (.ixor, 1) := by decide +kernel
theorem d_M_mark_101 : decode b_M_mark 101 = .ok (.iand, 1) := by decide +kernel
theorem d_M_mark_102 : decode b_M_mark 102 = .ok (.invokestatic 175, 3) := by decide +kernel
theorem d_M_mark_105 : decode b_M_mark 105 = .ok (.ireturn, 1) := by decide +kernel
theorem d_M_mark_106 : decode b_M_mark 106 = .ok (.aload_n 0, 1) := by decide +kernel
theorem d_M_mark_107 : decode b_M_mark 107 = .ok (.getfield 51, 3) := by decide +kernel
theorem d_M_mark_110 : decode b_M_mark 110 = .ok (.iconst 3, 1) := by decide +kernel
theorem d_M_mark_111 : decode b_M_mark 111 = .ok (.iaload, 1) := by decide +kernel
theorem d_M_mark_112 : decode b_M_mark 112 = .ok (.iconst 1, 1) := by decide +kernel
theorem d_M_mark_113 : decode b_M_mark 113 = .ok (.iadd, 1) := by decide +kernel
theorem d_M_mark_114 : decode b_M_mark 114 = .ok (.ireturn, 1) := by decide +kernel
theorem d_M_mark_115 : decode b_M_mark 115 = .ok (.aload_n 0, 1) := by decide +kernel
theorem d_M_mark_116 : decode b_M_mark 116 = .ok (.aload_n 0, 1) := by decide +kernel
theorem d_M_mark_117 : decode b_M_mark 117 = .ok (.getfield 51, 3) := by decide +kernel
theorem d_M_mark_120 : decode b_M_mark 120 = .ok (.iload_n 1, 1) := by decide +kernel
theorem d_M_mark_121 : decode b_M_mark 121 = .ok (.invokevirtual 159, 3) := by decide +kernel
theorem d_M_mark_124 : decode b_M_mark 124 = .ok (.ireturn, 1) := by decide +kernel
theorem d_M_mark_125 : decode b_M_mark 125 = .ok (.iconst 2, 1) := by decide +kernel
theorem d_M_mark_126 : decode b_M_mark 126 = .ok (.aload_n 0, 1) := by decide +kernel
theorem d_M_mark_127 : decode b_M_mark 127 = .ok (.getfield 51, 3) := by decide +kernel
theorem d_M_mark_130 : decode b_M_mark 130 = .ok (.iconst 5, 1) := by decide +kernel
theorem d_M_mark_131 : decode b_M_mark 131 = .ok (.iload_n 1, 1) := by decide +kernel
theorem d_M_mark_132 : decode b_M_mark 132 = .ok (.iadd, 1) := by decide +kernel
theorem d_M_mark_133 : decode b_M_mark 133 = .ok (.iaload, 1) := by decide +kernel
theorem d_M_mark_134 : decode b_M_mark 134 = .ok (.isub, 1) := by decide +kernel
theorem d_M_mark_135 : decode b_M_mark 135 = .ok (.ireturn, 1) := by decide +kernel
theorem d_M_mark_136 : decode b_M_mark 136 = .ok (.aload_n 0, 1) := by decide +kernel
theorem d_M_mark_137 : decode b_M_mark 137 = .ok (.getfield 33, 3) := by decide +kernel
theorem d_M_mark_140 : decode b_M_mark 140 = .ok (.iconst 2, 1) := by decide +kernel
theorem d_M_mark_141 : decode b_M_mark 141 = .ok (.iaload, 1) := by decide +kernel
theorem d_M_mark_142 : decode b_M_mark 142 = .ok (.aload_n 0, 1) := by decide +kernel
theorem d_M_mark_143 : decode b_M_mark 143 = .ok (.getfield 42, 3) := by decide +kernel
theorem d_M_mark_146 : decode b_M_mark 146 = .ok (.iload_n 1, 1) := by decide +kernel
theorem d_M_mark_147 : decode b_M_mark 147 = .ok (.iaload, 1) := by decide +kernel
theorem d_M_mark_148 : decode b_M_mark 148 = .ok (.isub, 1) := by decide +kernel
theorem d_M_mark_149 : decode b_M_mark 149 = .ok (.iconst 1, 1) := by decide +kernel
theorem d_M_mark_150 : decode b_M_mark 150 = .ok (.isub, 1) := by decide +kernel
theorem d_M_mark_151 : decode b_M_mark 151 = .ok (.istore 4, 2) := by decide +kernel
theorem d_M_mark_153 : decode b_M_mark 153 = .ok (.iload 4, 2) := by decide +kernel
theorem d_M_mark_155 : decode b_M_mark 155 = .ok (.ifCond .le 8, 3) := by decide +kernel
theorem d_M_mark_158 : decode b_M_mark 158 = .ok (.iload 4, 2) := by decide +kernel
theorem d_M_mark_160 : decode b_M_mark 160 = .ok (.goto 4, 3) := by decide +kernel
theorem d_M_mark_163 : decode b_M_mark 163 = .ok (.iconst 0, 1) := by decide +kernel
theorem d_M_mark_164 : decode b_M_mark 164 = .ok (.ireturn, 1) := by decide +kernel
theorem mo_M_mark : mok y_M_mark b_M_mark 5 (some .int) 2 := ⟨List.mem_of_getElem? (i := 1245) (by decide +kernel), ⟨by decide +kernel, by decide +kernel, by decide +kernel⟩, List.mem_of_getElem? (i := 86) (by decide +kernel), by decide⟩
set_option maxHeartbeats 4000000 in
theorem c_M_mark (l : Launch) (u : Un) (hA : Ap u) (σ : St) {n : Nat} {kd : Nat → Nat} (hb : mkOk σ n kd) {a : Nat} (ha : a < 64) (h0 : σ.1 76 0 = nI a) (i w : Int32) : MTi l u y_M_mark b_M_mark 5 .int 5 [.ref (u.2.1 63), .int i, .int w] σ (fun ans σ' => (ans, σ') = mMark σ kd n a i w) := by
  refine MT_of hA rfl (by decide) (Nat.le_of_ble_eq_true rfl) (fun X hl F hr => ?_)
  subst hl
  refine v_to (ls' := [(0, .ref (u.2.1 63)), (1, .int i), (2, .int w)]) rfl ?_
  obtain ⟨hn, hn6, hkd, hk6⟩ := id hb
  refine v_aload_n F d_M_mark_0 rfl 0 rfl ?_
  refine v_iload_n F d_M_mark_1 rfl 1 rfl ?_
  refine v_runi (r_V F (c_M_isThief X.2.1 u hA σ hb i) mo_M_isThief st_M_191 rc_63 (by decide) rfl (Nat.le_of_ble_eq_true rfl) d_M_mark_2) (fun r1 σ2 q3 => ?_)
  obtain ⟨rfl, rfl⟩ := q3
  refine v_bt F 17 d_M_mark_5 rfl (fun h5 => ?_) (fun h5 => ?_)
  · skip
    refine v_iconst (v := (-1)) F d_M_mark_17 ki_m1 ?_
    refine v_iret F hr rfl d_M_mark_18 ?_
    unfold mMark
    first | (exfalso; omega) | (rw [if_pos (by first | exact Or.inl (by assumption) | exact Or.inr (by assumption))]; done) | (rw [if_neg (by rintro (q | q); exact q (by assumption); exact q (by assumption)), xj, xv]; first | (rw [if_neg (by rw [hof]; omega)]; subst_vars; rfl) | (rw [if_pos (by rw [hof]; omega)]; subst hs; first | rfl | (subst_vars; simp only [mkM]; first | (rw [if_neg h155]; done) | (rw [if_pos h155]; done)) | (simp_all [mkM]; done)))
  · skip
    obtain ⟨j, hj, xj, rfl⟩ := has_nat h5 rfl hn6
    refine v_iload_n F d_M_mark_8 rfl 2 rfl ?_
    refine v_iconst (v := 1) F d_M_mark_9 ki_1 ?_
    refine v_iconst (v := 5) F d_M_mark_10 ki_5 ?_
    refine v_runi (r_S F (c_M_in X.2.1 u hA σ w 1 5 ) mo_M_in st_M_89 (by decide) rfl (Nat.le_of_ble_eq_true rfl) d_M_mark_11) (fun r4 σ5 q6 => ?_)
    obtain ⟨rfl, rfl⟩ := q6
    refine v_bf F 19 d_M_mark_14 rfl (fun h14 => ?_) (fun h14 => ?_)
    · skip
      obtain ⟨v, hv, xv, rfl⟩ := nat_of (M := 5) (one_le h14.1) h14.2 rfl (by decide)
      have hv0 := nI_1le h14.1 (by omega)
      have hki := hk6 j hj
      have hof := ofB_m hki (show v < 6 by omega) hv0
      refine v_aload_n F d_M_mark_19 rfl 0 rfl ?_
      refine v_getr (r := 71) F fk_M_36 G63 rfl d_M_mark_20 ?_
      refine v_iload_n F d_M_mark_23 rfl 1 rfl ?_
      refine v_ial F j G71 rfl (by omega) d_M_mark_24 ?_
      refine v_te (y := nI (kd j)) (hkd _ (by omega)) ?_
      refine v_istore_n (ls' := [(3, .int (nI (kd j))), (0, .ref (u.2.1 63)), (1, .int (nI j)), (2, .int (nI v))]) F d_M_mark_25 rfl (by decide) rfl ?_
      refine v_iload_n F d_M_mark_26 rfl 0 rfl ?_
      refine v_iload_n F d_M_mark_27 rfl 3 rfl ?_
      refine v_icmp_eq F 57 d_M_mark_28 rfl (fun h28 => ?_) (fun h28 => ?_)
      · skip
        have h28 : kd j = v := (nI_eq (a := kd j) (b := v) (by omega) (by omega)).mp h28
        refine v_iload_n F d_M_mark_57 rfl 3 rfl ?_
        rcases (show v = 0 ∨ v = 1 ∨ v = 2 ∨ v = 3 ∨ v = 4 ∨ v = 5 from by omega) with hs | hs | hs | hs | hs | hs
        · refine v_te (y := 0) (show nI v = 0 from by rw [hs]; rfl) ?_
          refine v_tableOut F 136 d_M_mark_58 (by decide) rfl ?_
          refine v_aload_n F d_M_mark_136 rfl 1 rfl ?_
          refine v_getr (r := 70) F fk_M_33 G63 rfl d_M_mark_137 ?_
          refine v_iconst (v := 2) F d_M_mark_140 ki_2 ?_
          refine v_ial F 2 G70 rfl (by omega) d_M_mark_141 ?_
          refine v_aload_n F d_M_mark_142 rfl 1 rfl ?_
          refine v_getr (r := 73) F fk_M_42 G63 rfl d_M_mark_143 ?_
          refine v_iload_n F d_M_mark_146 rfl 2 rfl ?_
          refine v_ial F j G73 rfl (by omega) d_M_mark_147 ?_
          refine v_isub F d_M_mark_148 ?_
          refine v_iconst (v := 1) F d_M_mark_149 ki_1 ?_
          refine v_isub F d_M_mark_150 ?_
          refine v_ni (fun x7 ex7 => ?_)
          refine v_istore (ls' := [(4, .int x7), (3, .int (nI (kd j))), (0, .ref (u.2.1 63)), (1, .int (nI j)), (2, .int (nI v))]) F d_M_mark_151 (by decide) rfl ?_
          refine v_iload F d_M_mark_153 0 rfl ?_
          refine v_if_le F 163 d_M_mark_155 rfl (fun h155 => ?_) (fun h155 => ?_)
          · skip
            have h155 := i_nlt.mpr h155
            refine v_iconst (v := 0) F d_M_mark_163 ki_0 ?_
            refine v_iret F hr rfl d_M_mark_164 ?_
            unfold mMark
            first | (exfalso; omega) | (rw [if_pos (by first | exact Or.inl (by assumption) | exact Or.inr (by assumption))]; done) | (rw [if_neg (by rintro (q | q); exact q (by assumption); exact q (by assumption)), xj, xv]; first | (rw [if_neg (by rw [hof]; omega)]; subst_vars; rfl) | (rw [if_pos (by rw [hof]; omega)]; subst hs; first | rfl | (subst_vars; simp only [mkM]; first | (rw [if_neg h155]; done) | (rw [if_pos h155]; done)) | (simp_all [mkM]; done)))
          · skip
            have h155 := i_lt_le.mp h155
            refine v_iload F d_M_mark_158 0 rfl ?_
            refine v_goto F 164 d_M_mark_160 rfl ?_
            refine v_iret F hr rfl d_M_mark_164 ?_
            unfold mMark
            first | (exfalso; omega) | (rw [if_pos (by first | exact Or.inl (by assumption) | exact Or.inr (by assumption))]; done) | (rw [if_neg (by rintro (q | q); exact q (by assumption); exact q (by assumption)), xj, xv]; first | (rw [if_neg (by rw [hof]; omega)]; subst_vars; rfl) | (rw [if_pos (by rw [hof]; omega)]; subst hs; first | rfl | (subst_vars; simp only [mkM]; first | (rw [if_neg h155]; done) | (rw [if_pos h155]; done)) | (simp_all [mkM]; done)))
        · refine v_te (y := 1) (show nI v = 1 from by rw [hs]; rfl) ?_
          refine v_tableIn (off := 30) F 88 d_M_mark_58 (by decide) (by decide) (by decide) rfl ?_
          refine v_aload_n F d_M_mark_88 rfl 1 rfl ?_
          refine v_aload_n F d_M_mark_89 rfl 1 rfl ?_
          refine v_getr (r := 76) F fk_M_51 G63 rfl d_M_mark_90 ?_
          refine v_runi (r_V F (c_M_speakers X.2.1 u hA σ hb (kO := 76) (Or.inl rfl) ha h0  ) mo_M_speakers st_M_171 rc_63 (by decide) rfl (Nat.le_of_ble_eq_true rfl) d_M_mark_93) (fun r8 σ9 q10 => ?_)
          obtain ⟨rfl, rfl⟩ := q10
          refine v_iconst (v := 1) F d_M_mark_96 ki_1 ?_
          refine v_iload_n F d_M_mark_97 rfl 2 rfl ?_
          refine v_ishl F d_M_mark_98 ?_
          refine v_iconst (v := (-1)) F d_M_mark_99 ki_m1 ?_
          refine v_ixor F d_M_mark_100 ?_
          refine v_iand F d_M_mark_101 ?_
          refine v_te (y := nI (mkN (tkM σ 76 kd n a) n &&& (63 ^^^ 2 ^ j))) (mask6 _ (mkN_64 _ hn6) _ (by omega)) ?_
          refine v_runi (r_S F (c_M_bits X.2.1 u hA σ (mkN (tkM σ 76 kd n a) n &&& (63 ^^^ 2 ^ j)) (and_lt (mkN_64 _ hn6))) mo_M_bits st_M_175 (by decide) rfl (Nat.le_of_ble_eq_true rfl) d_M_mark_102) (fun r11 σ12 q13 => ?_)
          obtain ⟨rfl, rfl⟩ := q13
          refine v_iret F hr rfl d_M_mark_105 ?_
          unfold mMark
          first | (exfalso; omega) | (rw [if_pos (by first | exact Or.inl (by assumption) | exact Or.inr (by assumption))]; done) | (rw [if_neg (by rintro (q | q); exact q (by assumption); exact q (by assumption)), xj, xv]; first | (rw [if_neg (by rw [hof]; omega)]; subst_vars; rfl) | (rw [if_pos (by rw [hof]; omega)]; subst hs; first | rfl | (subst_vars; simp only [mkM]; first | (rw [if_neg h155]; done) | (rw [if_pos h155]; done)) | (simp_all [mkM]; done)))
        · refine v_te (y := 2) (show nI v = 2 from by rw [hs]; rfl) ?_
          refine v_tableIn (off := 48) F 106 d_M_mark_58 (by decide) (by decide) (by decide) rfl ?_
          refine v_aload_n F d_M_mark_106 rfl 1 rfl ?_
          refine v_getr (r := 76) F fk_M_51 G63 rfl d_M_mark_107 ?_
          refine v_iconst (v := 3) F d_M_mark_110 ki_3 ?_
          refine v_ial F 3 G76 rfl (by omega) d_M_mark_111 ?_
          refine v_iconst (v := 1) F d_M_mark_112 ki_1 ?_
          refine v_iadd F d_M_mark_113 ?_
          refine v_iret F hr rfl d_M_mark_114 ?_
          unfold mMark
          first | (exfalso; omega) | (rw [if_pos (by first | exact Or.inl (by assumption) | exact Or.inr (by assumption))]; done) | (rw [if_neg (by rintro (q | q); exact q (by assumption); exact q (by assumption)), xj, xv]; first | (rw [if_neg (by rw [hof]; omega)]; subst_vars; rfl) | (rw [if_pos (by rw [hof]; omega)]; subst hs; first | rfl | (subst_vars; simp only [mkM]; first | (rw [if_neg h155]; done) | (rw [if_pos h155]; done)) | (simp_all [mkM]; done)))
        · refine v_te (y := 3) (show nI v = 3 from by rw [hs]; rfl) ?_
          refine v_tableIn (off := 57) F 115 d_M_mark_58 (by decide) (by decide) (by decide) rfl ?_
          refine v_aload_n F d_M_mark_115 rfl 1 rfl ?_
          refine v_aload_n F d_M_mark_116 rfl 1 rfl ?_
          refine v_getr (r := 76) F fk_M_51 G63 rfl d_M_mark_117 ?_
          refine v_iload_n F d_M_mark_120 rfl 2 rfl ?_
          refine v_runi (r_V F (c_M_others X.2.1 u hA σ hb (kO := 76) (Or.inl rfl) ha h0 j (by omega)) mo_M_others st_M_159 rc_63 (by decide) rfl (Nat.le_of_ble_eq_true rfl) d_M_mark_121) (fun r14 σ15 q16 => ?_)
          obtain ⟨rfl, rfl⟩ := q16
          refine v_iret F hr rfl d_M_mark_124 ?_
          unfold mMark
          first | (exfalso; omega) | (rw [if_pos (by first | exact Or.inl (by assumption) | exact Or.inr (by assumption))]; done) | (rw [if_neg (by rintro (q | q); exact q (by assumption); exact q (by assumption)), xj, xv]; first | (rw [if_neg (by rw [hof]; omega)]; subst_vars; rfl) | (rw [if_pos (by rw [hof]; omega)]; subst hs; first | rfl | (subst_vars; simp only [mkM]; first | (rw [if_neg h155]; done) | (rw [if_pos h155]; done)) | (simp_all [mkM]; done)))
        · refine v_te (y := 4) (show nI v = 4 from by rw [hs]; rfl) ?_
          refine v_tableIn (off := 67) F 125 d_M_mark_58 (by decide) (by decide) (by decide) rfl ?_
          refine v_iconst (v := 2) F d_M_mark_125 ki_2 ?_
          refine v_aload_n F d_M_mark_126 rfl 1 rfl ?_
          refine v_getr (r := 76) F fk_M_51 G63 rfl d_M_mark_127 ?_
          refine v_iconst (v := 5) F d_M_mark_130 ki_5 ?_
          refine v_iload_n F d_M_mark_131 rfl 2 rfl ?_
          refine v_iadd F d_M_mark_132 ?_
          refine v_te (y := nI (5 + j)) (nI_add _ _) ?_
          refine v_ial F (5 + j) G76 rfl (by omega) d_M_mark_133 ?_
          refine v_isub F d_M_mark_134 ?_
          refine v_iret F hr rfl d_M_mark_135 ?_
          unfold mMark
          first | (exfalso; omega) | (rw [if_pos (by first | exact Or.inl (by assumption) | exact Or.inr (by assumption))]; done) | (rw [if_neg (by rintro (q | q); exact q (by assumption); exact q (by assumption)), xj, xv]; first | (rw [if_neg (by rw [hof]; omega)]; subst_vars; rfl) | (rw [if_pos (by rw [hof]; omega)]; subst hs; first | rfl | (subst_vars; simp only [mkM]; first | (rw [if_neg h155]; done) | (rw [if_pos h155]; done)) | (simp_all [mkM]; done)))
        · refine v_te (y := 5) (show nI v = 5 from by rw [hs]; rfl) ?_
          refine v_tableOut F 136 d_M_mark_58 (by decide) rfl ?_
          refine v_aload_n F d_M_mark_136 rfl 1 rfl ?_
          refine v_getr (r := 70) F fk_M_33 G63 rfl d_M_mark_137 ?_
          refine v_iconst (v := 2) F d_M_mark_140 ki_2 ?_
          refine v_ial F 2 G70 rfl (by omega) d_M_mark_141 ?_
          refine v_aload_n F d_M_mark_142 rfl 1 rfl ?_
          refine v_getr (r := 73) F fk_M_42 G63 rfl d_M_mark_143 ?_
          refine v_iload_n F d_M_mark_146 rfl 2 rfl ?_
          refine v_ial F j G73 rfl (by omega) d_M_mark_147 ?_
          refine v_isub F d_M_mark_148 ?_
          refine v_iconst (v := 1) F d_M_mark_149 ki_1 ?_
          refine v_isub F d_M_mark_150 ?_
          refine v_ni (fun x17 ex17 => ?_)
          refine v_istore (ls' := [(4, .int x17), (3, .int (nI (kd j))), (0, .ref (u.2.1 63)), (1, .int (nI j)), (2, .int (nI v))]) F d_M_mark_151 (by decide) rfl ?_
          refine v_iload F d_M_mark_153 0 rfl ?_
          refine v_if_le F 163 d_M_mark_155 rfl (fun h155 => ?_) (fun h155 => ?_)
          · skip
            have h155 := i_nlt.mpr h155
            refine v_iconst (v := 0) F d_M_mark_163 ki_0 ?_
            refine v_iret F hr rfl d_M_mark_164 ?_
            unfold mMark
            first | (exfalso; omega) | (rw [if_pos (by first | exact Or.inl (by assumption) | exact Or.inr (by assumption))]; done) | (rw [if_neg (by rintro (q | q); exact q (by assumption); exact q (by assumption)), xj, xv]; first | (rw [if_neg (by rw [hof]; omega)]; subst_vars; rfl) | (rw [if_pos (by rw [hof]; omega)]; subst hs; first | rfl | (subst_vars; simp only [mkM]; first | (rw [if_neg h155]; done) | (rw [if_pos h155]; done)) | (simp_all [mkM]; done)))
          · skip
            have h155 := i_lt_le.mp h155
            refine v_iload F d_M_mark_158 0 rfl ?_
            refine v_goto F 164 d_M_mark_160 rfl ?_
            refine v_iret F hr rfl d_M_mark_164 ?_
            unfold mMark
            first | (exfalso; omega) | (rw [if_pos (by first | exact Or.inl (by assumption) | exact Or.inr (by assumption))]; done) | (rw [if_neg (by rintro (q | q); exact q (by assumption); exact q (by assumption)), xj, xv]; first | (rw [if_neg (by rw [hof]; omega)]; subst_vars; rfl) | (rw [if_pos (by rw [hof]; omega)]; subst hs; first | rfl | (subst_vars; simp only [mkM]; first | (rw [if_neg h155]; done) | (rw [if_pos h155]; done)) | (simp_all [mkM]; done)))
      · skip
        have h28 : ¬ kd j = v := fun q => h28 ((nI_eq (a := kd j) (b := v) (by omega) (by omega)).mpr q)
        refine v_iload_n F d_M_mark_31 rfl 3 rfl ?_
        refine v_iconst (v := 1) F d_M_mark_32 ki_1 ?_
        refine v_icmp_ne F 41 d_M_mark_33 rfl (fun h33 => ?_) (fun h33 => ?_)
        · skip
          have h33 : ¬ v = 1 := fun q => h33 ((nI_eq (a := v) (b := 1) (by omega) (by omega)).mpr q)
          refine v_iload_n F d_M_mark_41 rfl 3 rfl ?_
          refine v_iconst (v := 3) F d_M_mark_42 ki_3 ?_
          refine v_icmp_ne F 51 d_M_mark_43 rfl (fun h43 => ?_) (fun h43 => ?_)
          · skip
            have h43 : ¬ v = 3 := fun q => h43 ((nI_eq (a := v) (b := 3) (by omega) (by omega)).mpr q)
            refine v_aload_n F d_M_mark_51 rfl 1 rfl ?_
            refine v_iconst (v := 3) F d_M_mark_52 ki_3 ?_
            refine v_runi (r_V F (c_M_meets X.2.1 u hA σ 3 (by decide)) mo_M_meets st_M_103 rc_63 (by decide) rfl (Nat.le_of_ble_eq_true rfl) d_M_mark_53) (fun r18 σ19 q20 => ?_)
            obtain ⟨rfl, eσ19⟩ := q20
            refine v_iret F hr rfl d_M_mark_56 ?_
            unfold mMark
            first | (exfalso; omega) | (rw [if_pos (by first | exact Or.inl (by assumption) | exact Or.inr (by assumption))]; done) | (rw [if_neg (by rintro (q | q); exact q (by assumption); exact q (by assumption)), xj, xv]; first | (rw [if_neg (by rw [hof]; omega)]; subst_vars; rfl) | (rw [if_pos (by rw [hof]; omega)]; subst hs; first | rfl | (subst_vars; simp only [mkM]; first | (rw [if_neg h155]; done) | (rw [if_pos h155]; done)) | (simp_all [mkM]; done)))
          · skip
            have h43 : v = 3 := (nI_eq (a := v) (b := 3) (by omega) (by omega)).mp h43
            refine v_iload_n F d_M_mark_46 rfl 0 rfl ?_
            refine v_iconst (v := 5) F d_M_mark_47 ki_5 ?_
            refine v_icmp_eq F 57 d_M_mark_48 rfl (fun h48 => ?_) (fun h48 => ?_)
            · skip
              have h48 : kd j = 5 := (nI_eq (a := kd j) (b := 5) (by omega) (by omega)).mp h48
              refine v_iload_n F d_M_mark_57 rfl 3 rfl ?_
              rcases (show v = 0 ∨ v = 1 ∨ v = 2 ∨ v = 3 ∨ v = 4 ∨ v = 5 from by omega) with hs | hs | hs | hs | hs | hs
              · refine v_te (y := 0) (show nI v = 0 from by rw [hs]; rfl) ?_
                refine v_tableOut F 136 d_M_mark_58 (by decide) rfl ?_
                refine v_aload_n F d_M_mark_136 rfl 1 rfl ?_
                refine v_getr (r := 70) F fk_M_33 G63 rfl d_M_mark_137 ?_
                refine v_iconst (v := 2) F d_M_mark_140 ki_2 ?_
                refine v_ial F 2 G70 rfl (by omega) d_M_mark_141 ?_
                refine v_aload_n F d_M_mark_142 rfl 1 rfl ?_
                refine v_getr (r := 73) F fk_M_42 G63 rfl d_M_mark_143 ?_
                refine v_iload_n F d_M_mark_146 rfl 2 rfl ?_
                refine v_ial F j G73 rfl (by omega) d_M_mark_147 ?_
                refine v_isub F d_M_mark_148 ?_
                refine v_iconst (v := 1) F d_M_mark_149 ki_1 ?_
                refine v_isub F d_M_mark_150 ?_
                refine v_ni (fun x21 ex21 => ?_)
                refine v_istore (ls' := [(4, .int x21), (3, .int (nI (kd j))), (0, .ref (u.2.1 63)), (1, .int (nI j)), (2, .int (nI v))]) F d_M_mark_151 (by decide) rfl ?_
                refine v_iload F d_M_mark_153 0 rfl ?_
                refine v_if_le F 163 d_M_mark_155 rfl (fun h155 => ?_) (fun h155 => ?_)
                · skip
                  have h155 := i_nlt.mpr h155
                  refine v_iconst (v := 0) F d_M_mark_163 ki_0 ?_
                  refine v_iret F hr rfl d_M_mark_164 ?_
                  unfold mMark
                  first | (exfalso; omega) | (rw [if_pos (by first | exact Or.inl (by assumption) | exact Or.inr (by assumption))]; done) | (rw [if_neg (by rintro (q | q); exact q (by assumption); exact q (by assumption)), xj, xv]; first | (rw [if_neg (by rw [hof]; omega)]; subst_vars; rfl) | (rw [if_pos (by rw [hof]; omega)]; subst hs; first | rfl | (subst_vars; simp only [mkM]; first | (rw [if_neg h155]; done) | (rw [if_pos h155]; done)) | (simp_all [mkM]; done)))
                · skip
                  have h155 := i_lt_le.mp h155
                  refine v_iload F d_M_mark_158 0 rfl ?_
                  refine v_goto F 164 d_M_mark_160 rfl ?_
                  refine v_iret F hr rfl d_M_mark_164 ?_
                  unfold mMark
                  first | (exfalso; omega) | (rw [if_pos (by first | exact Or.inl (by assumption) | exact Or.inr (by assumption))]; done) | (rw [if_neg (by rintro (q | q); exact q (by assumption); exact q (by assumption)), xj, xv]; first | (rw [if_neg (by rw [hof]; omega)]; subst_vars; rfl) | (rw [if_pos (by rw [hof]; omega)]; subst hs; first | rfl | (subst_vars; simp only [mkM]; first | (rw [if_neg h155]; done) | (rw [if_pos h155]; done)) | (simp_all [mkM]; done)))
              · refine v_te (y := 1) (show nI v = 1 from by rw [hs]; rfl) ?_
                refine v_tableIn (off := 30) F 88 d_M_mark_58 (by decide) (by decide) (by decide) rfl ?_
                refine v_aload_n F d_M_mark_88 rfl 1 rfl ?_
                refine v_aload_n F d_M_mark_89 rfl 1 rfl ?_
                refine v_getr (r := 76) F fk_M_51 G63 rfl d_M_mark_90 ?_
                refine v_runi (r_V F (c_M_speakers X.2.1 u hA σ hb (kO := 76) (Or.inl rfl) ha h0  ) mo_M_speakers st_M_171 rc_63 (by decide) rfl (Nat.le_of_ble_eq_true rfl) d_M_mark_93) (fun r22 σ23 q24 => ?_)
                obtain ⟨rfl, rfl⟩ := q24
                refine v_iconst (v := 1) F d_M_mark_96 ki_1 ?_
                refine v_iload_n F d_M_mark_97 rfl 2 rfl ?_
                refine v_ishl F d_M_mark_98 ?_
                refine v_iconst (v := (-1)) F d_M_mark_99 ki_m1 ?_
                refine v_ixor F d_M_mark_100 ?_
                refine v_iand F d_M_mark_101 ?_
                refine v_te (y := nI (mkN (tkM σ 76 kd n a) n &&& (63 ^^^ 2 ^ j))) (mask6 _ (mkN_64 _ hn6) _ (by omega)) ?_
                refine v_runi (r_S F (c_M_bits X.2.1 u hA σ (mkN (tkM σ 76 kd n a) n &&& (63 ^^^ 2 ^ j)) (and_lt (mkN_64 _ hn6))) mo_M_bits st_M_175 (by decide) rfl (Nat.le_of_ble_eq_true rfl) d_M_mark_102) (fun r25 σ26 q27 => ?_)
                obtain ⟨rfl, rfl⟩ := q27
                refine v_iret F hr rfl d_M_mark_105 ?_
                unfold mMark
                first | (exfalso; omega) | (rw [if_pos (by first | exact Or.inl (by assumption) | exact Or.inr (by assumption))]; done) | (rw [if_neg (by rintro (q | q); exact q (by assumption); exact q (by assumption)), xj, xv]; first | (rw [if_neg (by rw [hof]; omega)]; subst_vars; rfl) | (rw [if_pos (by rw [hof]; omega)]; subst hs; first | rfl | (subst_vars; simp only [mkM]; first | (rw [if_neg h155]; done) | (rw [if_pos h155]; done)) | (simp_all [mkM]; done)))
              · refine v_te (y := 2) (show nI v = 2 from by rw [hs]; rfl) ?_
                refine v_tableIn (off := 48) F 106 d_M_mark_58 (by decide) (by decide) (by decide) rfl ?_
                refine v_aload_n F d_M_mark_106 rfl 1 rfl ?_
                refine v_getr (r := 76) F fk_M_51 G63 rfl d_M_mark_107 ?_
                refine v_iconst (v := 3) F d_M_mark_110 ki_3 ?_
                refine v_ial F 3 G76 rfl (by omega) d_M_mark_111 ?_
                refine v_iconst (v := 1) F d_M_mark_112 ki_1 ?_
                refine v_iadd F d_M_mark_113 ?_
                refine v_iret F hr rfl d_M_mark_114 ?_
                unfold mMark
                first | (exfalso; omega) | (rw [if_pos (by first | exact Or.inl (by assumption) | exact Or.inr (by assumption))]; done) | (rw [if_neg (by rintro (q | q); exact q (by assumption); exact q (by assumption)), xj, xv]; first | (rw [if_neg (by rw [hof]; omega)]; subst_vars; rfl) | (rw [if_pos (by rw [hof]; omega)]; subst hs; first | rfl | (subst_vars; simp only [mkM]; first | (rw [if_neg h155]; done) | (rw [if_pos h155]; done)) | (simp_all [mkM]; done)))
              · refine v_te (y := 3) (show nI v = 3 from by rw [hs]; rfl) ?_
                refine v_tableIn (off := 57) F 115 d_M_mark_58 (by decide) (by decide) (by decide) rfl ?_
                refine v_aload_n F d_M_mark_115 rfl 1 rfl ?_
                refine v_aload_n F d_M_mark_116 rfl 1 rfl ?_
                refine v_getr (r := 76) F fk_M_51 G63 rfl d_M_mark_117 ?_
                refine v_iload_n F d_M_mark_120 rfl 2 rfl ?_
                refine v_runi (r_V F (c_M_others X.2.1 u hA σ hb (kO := 76) (Or.inl rfl) ha h0 j (by omega)) mo_M_others st_M_159 rc_63 (by decide) rfl (Nat.le_of_ble_eq_true rfl) d_M_mark_121) (fun r28 σ29 q30 => ?_)
                obtain ⟨rfl, rfl⟩ := q30
                refine v_iret F hr rfl d_M_mark_124 ?_
                unfold mMark
                first | (exfalso; omega) | (rw [if_pos (by first | exact Or.inl (by assumption) | exact Or.inr (by assumption))]; done) | (rw [if_neg (by rintro (q | q); exact q (by assumption); exact q (by assumption)), xj, xv]; first | (rw [if_neg (by rw [hof]; omega)]; subst_vars; rfl) | (rw [if_pos (by rw [hof]; omega)]; subst hs; first | rfl | (subst_vars; simp only [mkM]; first | (rw [if_neg h155]; done) | (rw [if_pos h155]; done)) | (simp_all [mkM]; done)))
              · refine v_te (y := 4) (show nI v = 4 from by rw [hs]; rfl) ?_
                refine v_tableIn (off := 67) F 125 d_M_mark_58 (by decide) (by decide) (by decide) rfl ?_
                refine v_iconst (v := 2) F d_M_mark_125 ki_2 ?_
                refine v_aload_n F d_M_mark_126 rfl 1 rfl ?_
                refine v_getr (r := 76) F fk_M_51 G63 rfl d_M_mark_127 ?_
                refine v_iconst (v := 5) F d_M_mark_130 ki_5 ?_
                refine v_iload_n F d_M_mark_131 rfl 2 rfl ?_
                refine v_iadd F d_M_mark_132 ?_
                refine v_te (y := nI (5 + j)) (nI_add _ _) ?_
                refine v_ial F (5 + j) G76 rfl (by omega) d_M_mark_133 ?_
                refine v_isub F d_M_mark_134 ?_
                refine v_iret F hr rfl d_M_mark_135 ?_
                unfold mMark
                first | (exfalso; omega) | (rw [if_pos (by first | exact Or.inl (by assumption) | exact Or.inr (by assumption))]; done) | (rw [if_neg (by rintro (q | q); exact q (by assumption); exact q (by assumption)), xj, xv]; first | (rw [if_neg (by rw [hof]; omega)]; subst_vars; rfl) | (rw [if_pos (by rw [hof]; omega)]; subst hs; first | rfl | (subst_vars; simp only [mkM]; first | (rw [if_neg h155]; done) | (rw [if_pos h155]; done)) | (simp_all [mkM]; done)))
              · refine v_te (y := 5) (show nI v = 5 from by rw [hs]; rfl) ?_
                refine v_tableOut F 136 d_M_mark_58 (by decide) rfl ?_
                refine v_aload_n F d_M_mark_136 rfl 1 rfl ?_
                refine v_getr (r := 70) F fk_M_33 G63 rfl d_M_mark_137 ?_
                refine v_iconst (v := 2) F d_M_mark_140 ki_2 ?_
                refine v_ial F 2 G70 rfl (by omega) d_M_mark_141 ?_
                refine v_aload_n F d_M_mark_142 rfl 1 rfl ?_
                refine v_getr (r := 73) F fk_M_42 G63 rfl d_M_mark_143 ?_
                refine v_iload_n F d_M_mark_146 rfl 2 rfl ?_
                refine v_ial F j G73 rfl (by omega) d_M_mark_147 ?_
                refine v_isub F d_M_mark_148 ?_
                refine v_iconst (v := 1) F d_M_mark_149 ki_1 ?_
                refine v_isub F d_M_mark_150 ?_
                refine v_ni (fun x31 ex31 => ?_)
                refine v_istore (ls' := [(4, .int x31), (3, .int (nI (kd j))), (0, .ref (u.2.1 63)), (1, .int (nI j)), (2, .int (nI v))]) F d_M_mark_151 (by decide) rfl ?_
                refine v_iload F d_M_mark_153 0 rfl ?_
                refine v_if_le F 163 d_M_mark_155 rfl (fun h155 => ?_) (fun h155 => ?_)
                · skip
                  have h155 := i_nlt.mpr h155
                  refine v_iconst (v := 0) F d_M_mark_163 ki_0 ?_
                  refine v_iret F hr rfl d_M_mark_164 ?_
                  unfold mMark
                  first | (exfalso; omega) | (rw [if_pos (by first | exact Or.inl (by assumption) | exact Or.inr (by assumption))]; done) | (rw [if_neg (by rintro (q | q); exact q (by assumption); exact q (by assumption)), xj, xv]; first | (rw [if_neg (by rw [hof]; omega)]; subst_vars; rfl) | (rw [if_pos (by rw [hof]; omega)]; subst hs; first | rfl | (subst_vars; simp only [mkM]; first | (rw [if_neg h155]; done) | (rw [if_pos h155]; done)) | (simp_all [mkM]; done)))
                · skip
                  have h155 := i_lt_le.mp h155
                  refine v_iload F d_M_mark_158 0 rfl ?_
                  refine v_goto F 164 d_M_mark_160 rfl ?_
                  refine v_iret F hr rfl d_M_mark_164 ?_
                  unfold mMark
                  first | (exfalso; omega) | (rw [if_pos (by first | exact Or.inl (by assumption) | exact Or.inr (by assumption))]; done) | (rw [if_neg (by rintro (q | q); exact q (by assumption); exact q (by assumption)), xj, xv]; first | (rw [if_neg (by rw [hof]; omega)]; subst_vars; rfl) | (rw [if_pos (by rw [hof]; omega)]; subst hs; first | rfl | (subst_vars; simp only [mkM]; first | (rw [if_neg h155]; done) | (rw [if_pos h155]; done)) | (simp_all [mkM]; done)))
            · skip
              have h48 : ¬ kd j = 5 := fun q => h48 ((nI_eq (a := kd j) (b := 5) (by omega) (by omega)).mpr q)
              refine v_aload_n F d_M_mark_51 rfl 1 rfl ?_
              refine v_iconst (v := 3) F d_M_mark_52 ki_3 ?_
              refine v_runi (r_V F (c_M_meets X.2.1 u hA σ 3 (by decide)) mo_M_meets st_M_103 rc_63 (by decide) rfl (Nat.le_of_ble_eq_true rfl) d_M_mark_53) (fun r32 σ33 q34 => ?_)
              obtain ⟨rfl, eσ33⟩ := q34
              refine v_iret F hr rfl d_M_mark_56 ?_
              unfold mMark
              first | (exfalso; omega) | (rw [if_pos (by first | exact Or.inl (by assumption) | exact Or.inr (by assumption))]; done) | (rw [if_neg (by rintro (q | q); exact q (by assumption); exact q (by assumption)), xj, xv]; first | (rw [if_neg (by rw [hof]; omega)]; subst_vars; rfl) | (rw [if_pos (by rw [hof]; omega)]; subst hs; first | rfl | (subst_vars; simp only [mkM]; first | (rw [if_neg h155]; done) | (rw [if_pos h155]; done)) | (simp_all [mkM]; done)))
        · skip
          have h33 : v = 1 := (nI_eq (a := v) (b := 1) (by omega) (by omega)).mp h33
          refine v_iload_n F d_M_mark_36 rfl 0 rfl ?_
          refine v_iconst (v := 4) F d_M_mark_37 ki_4 ?_
          refine v_icmp_eq F 57 d_M_mark_38 rfl (fun h38 => ?_) (fun h38 => ?_)
          · skip
            have h38 : kd j = 4 := (nI_eq (a := kd j) (b := 4) (by omega) (by omega)).mp h38
            refine v_iload_n F d_M_mark_57 rfl 3 rfl ?_
            rcases (show v = 0 ∨ v = 1 ∨ v = 2 ∨ v = 3 ∨ v = 4 ∨ v = 5 from by omega) with hs | hs | hs | hs | hs | hs
            · refine v_te (y := 0) (show nI v = 0 from by rw [hs]; rfl) ?_
              refine v_tableOut F 136 d_M_mark_58 (by decide) rfl ?_
              refine v_aload_n F d_M_mark_136 rfl 1 rfl ?_
              refine v_getr (r := 70) F fk_M_33 G63 rfl d_M_mark_137 ?_
              refine v_iconst (v := 2) F d_M_mark_140 ki_2 ?_
              refine v_ial F 2 G70 rfl (by omega) d_M_mark_141 ?_
              refine v_aload_n F d_M_mark_142 rfl 1 rfl ?_
              refine v_getr (r := 73) F fk_M_42 G63 rfl d_M_mark_143 ?_
              refine v_iload_n F d_M_mark_146 rfl 2 rfl ?_
              refine v_ial F j G73 rfl (by omega) d_M_mark_147 ?_
              refine v_isub F d_M_mark_148 ?_
              refine v_iconst (v := 1) F d_M_mark_149 ki_1 ?_
              refine v_isub F d_M_mark_150 ?_
              refine v_ni (fun x35 ex35 => ?_)
              refine v_istore (ls' := [(4, .int x35), (3, .int (nI (kd j))), (0, .ref (u.2.1 63)), (1, .int (nI j)), (2, .int (nI v))]) F d_M_mark_151 (by decide) rfl ?_
              refine v_iload F d_M_mark_153 0 rfl ?_
              refine v_if_le F 163 d_M_mark_155 rfl (fun h155 => ?_) (fun h155 => ?_)
              · skip
                have h155 := i_nlt.mpr h155
                refine v_iconst (v := 0) F d_M_mark_163 ki_0 ?_
                refine v_iret F hr rfl d_M_mark_164 ?_
                unfold mMark
                first | (exfalso; omega) | (rw [if_pos (by first | exact Or.inl (by assumption) | exact Or.inr (by assumption))]; done) | (rw [if_neg (by rintro (q | q); exact q (by assumption); exact q (by assumption)), xj, xv]; first | (rw [if_neg (by rw [hof]; omega)]; subst_vars; rfl) | (rw [if_pos (by rw [hof]; omega)]; subst hs; first | rfl | (subst_vars; simp only [mkM]; first | (rw [if_neg h155]; done) | (rw [if_pos h155]; done)) | (simp_all [mkM]; done)))
              · skip
                have h155 := i_lt_le.mp h155
                refine v_iload F d_M_mark_158 0 rfl ?_
                refine v_goto F 164 d_M_mark_160 rfl ?_
                refine v_iret F hr rfl d_M_mark_164 ?_
                unfold mMark
                first | (exfalso; omega) | (rw [if_pos (by first | exact Or.inl (by assumption) | exact Or.inr (by assumption))]; done) | (rw [if_neg (by rintro (q | q); exact q (by assumption); exact q (by assumption)), xj, xv]; first | (rw [if_neg (by rw [hof]; omega)]; subst_vars; rfl) | (rw [if_pos (by rw [hof]; omega)]; subst hs; first | rfl | (subst_vars; simp only [mkM]; first | (rw [if_neg h155]; done) | (rw [if_pos h155]; done)) | (simp_all [mkM]; done)))
            · refine v_te (y := 1) (show nI v = 1 from by rw [hs]; rfl) ?_
              refine v_tableIn (off := 30) F 88 d_M_mark_58 (by decide) (by decide) (by decide) rfl ?_
              refine v_aload_n F d_M_mark_88 rfl 1 rfl ?_
              refine v_aload_n F d_M_mark_89 rfl 1 rfl ?_
              refine v_getr (r := 76) F fk_M_51 G63 rfl d_M_mark_90 ?_
              refine v_runi (r_V F (c_M_speakers X.2.1 u hA σ hb (kO := 76) (Or.inl rfl) ha h0  ) mo_M_speakers st_M_171 rc_63 (by decide) rfl (Nat.le_of_ble_eq_true rfl) d_M_mark_93) (fun r36 σ37 q38 => ?_)
              obtain ⟨rfl, rfl⟩ := q38
              refine v_iconst (v := 1) F d_M_mark_96 ki_1 ?_
              refine v_iload_n F d_M_mark_97 rfl 2 rfl ?_
              refine v_ishl F d_M_mark_98 ?_
              refine v_iconst (v := (-1)) F d_M_mark_99 ki_m1 ?_
              refine v_ixor F d_M_mark_100 ?_
              refine v_iand F d_M_mark_101 ?_
              refine v_te (y := nI (mkN (tkM σ 76 kd n a) n &&& (63 ^^^ 2 ^ j))) (mask6 _ (mkN_64 _ hn6) _ (by omega)) ?_
              refine v_runi (r_S F (c_M_bits X.2.1 u hA σ (mkN (tkM σ 76 kd n a) n &&& (63 ^^^ 2 ^ j)) (and_lt (mkN_64 _ hn6))) mo_M_bits st_M_175 (by decide) rfl (Nat.le_of_ble_eq_true rfl) d_M_mark_102) (fun r39 σ40 q41 => ?_)
              obtain ⟨rfl, rfl⟩ := q41
              refine v_iret F hr rfl d_M_mark_105 ?_
              unfold mMark
              first | (exfalso; omega) | (rw [if_pos (by first | exact Or.inl (by assumption) | exact Or.inr (by assumption))]; done) | (rw [if_neg (by rintro (q | q); exact q (by assumption); exact q (by assumption)), xj, xv]; first | (rw [if_neg (by rw [hof]; omega)]; subst_vars; rfl) | (rw [if_pos (by rw [hof]; omega)]; subst hs; first | rfl | (subst_vars; simp only [mkM]; first | (rw [if_neg h155]; done) | (rw [if_pos h155]; done)) | (simp_all [mkM]; done)))
            · refine v_te (y := 2) (show nI v = 2 from by rw [hs]; rfl) ?_
              refine v_tableIn (off := 48) F 106 d_M_mark_58 (by decide) (by decide) (by decide) rfl ?_
              refine v_aload_n F d_M_mark_106 rfl 1 rfl ?_
              refine v_getr (r := 76) F fk_M_51 G63 rfl d_M_mark_107 ?_
              refine v_iconst (v := 3) F d_M_mark_110 ki_3 ?_
              refine v_ial F 3 G76 rfl (by omega) d_M_mark_111 ?_
              refine v_iconst (v := 1) F d_M_mark_112 ki_1 ?_
              refine v_iadd F d_M_mark_113 ?_
              refine v_iret F hr rfl d_M_mark_114 ?_
              unfold mMark
              first | (exfalso; omega) | (rw [if_pos (by first | exact Or.inl (by assumption) | exact Or.inr (by assumption))]; done) | (rw [if_neg (by rintro (q | q); exact q (by assumption); exact q (by assumption)), xj, xv]; first | (rw [if_neg (by rw [hof]; omega)]; subst_vars; rfl) | (rw [if_pos (by rw [hof]; omega)]; subst hs; first | rfl | (subst_vars; simp only [mkM]; first | (rw [if_neg h155]; done) | (rw [if_pos h155]; done)) | (simp_all [mkM]; done)))
            · refine v_te (y := 3) (show nI v = 3 from by rw [hs]; rfl) ?_
              refine v_tableIn (off := 57) F 115 d_M_mark_58 (by decide) (by decide) (by decide) rfl ?_
              refine v_aload_n F d_M_mark_115 rfl 1 rfl ?_
              refine v_aload_n F d_M_mark_116 rfl 1 rfl ?_
              refine v_getr (r := 76) F fk_M_51 G63 rfl d_M_mark_117 ?_
              refine v_iload_n F d_M_mark_120 rfl 2 rfl ?_
              refine v_runi (r_V F (c_M_others X.2.1 u hA σ hb (kO := 76) (Or.inl rfl) ha h0 j (by omega)) mo_M_others st_M_159 rc_63 (by decide) rfl (Nat.le_of_ble_eq_true rfl) d_M_mark_121) (fun r42 σ43 q44 => ?_)
              obtain ⟨rfl, rfl⟩ := q44
              refine v_iret F hr rfl d_M_mark_124 ?_
              unfold mMark
              first | (exfalso; omega) | (rw [if_pos (by first | exact Or.inl (by assumption) | exact Or.inr (by assumption))]; done) | (rw [if_neg (by rintro (q | q); exact q (by assumption); exact q (by assumption)), xj, xv]; first | (rw [if_neg (by rw [hof]; omega)]; subst_vars; rfl) | (rw [if_pos (by rw [hof]; omega)]; subst hs; first | rfl | (subst_vars; simp only [mkM]; first | (rw [if_neg h155]; done) | (rw [if_pos h155]; done)) | (simp_all [mkM]; done)))
            · refine v_te (y := 4) (show nI v = 4 from by rw [hs]; rfl) ?_
              refine v_tableIn (off := 67) F 125 d_M_mark_58 (by decide) (by decide) (by decide) rfl ?_
              refine v_iconst (v := 2) F d_M_mark_125 ki_2 ?_
              refine v_aload_n F d_M_mark_126 rfl 1 rfl ?_
              refine v_getr (r := 76) F fk_M_51 G63 rfl d_M_mark_127 ?_
              refine v_iconst (v := 5) F d_M_mark_130 ki_5 ?_
              refine v_iload_n F d_M_mark_131 rfl 2 rfl ?_
              refine v_iadd F d_M_mark_132 ?_
              refine v_te (y := nI (5 + j)) (nI_add _ _) ?_
              refine v_ial F (5 + j) G76 rfl (by omega) d_M_mark_133 ?_
              refine v_isub F d_M_mark_134 ?_
              refine v_iret F hr rfl d_M_mark_135 ?_
              unfold mMark
              first | (exfalso; omega) | (rw [if_pos (by first | exact Or.inl (by assumption) | exact Or.inr (by assumption))]; done) | (rw [if_neg (by rintro (q | q); exact q (by assumption); exact q (by assumption)), xj, xv]; first | (rw [if_neg (by rw [hof]; omega)]; subst_vars; rfl) | (rw [if_pos (by rw [hof]; omega)]; subst hs; first | rfl | (subst_vars; simp only [mkM]; first | (rw [if_neg h155]; done) | (rw [if_pos h155]; done)) | (simp_all [mkM]; done)))
            · refine v_te (y := 5) (show nI v = 5 from by rw [hs]; rfl) ?_
              refine v_tableOut F 136 d_M_mark_58 (by decide) rfl ?_
              refine v_aload_n F d_M_mark_136 rfl 1 rfl ?_
              refine v_getr (r := 70) F fk_M_33 G63 rfl d_M_mark_137 ?_
              refine v_iconst (v := 2) F d_M_mark_140 ki_2 ?_
              refine v_ial F 2 G70 rfl (by omega) d_M_mark_141 ?_
              refine v_aload_n F d_M_mark_142 rfl 1 rfl ?_
              refine v_getr (r := 73) F fk_M_42 G63 rfl d_M_mark_143 ?_
              refine v_iload_n F d_M_mark_146 rfl 2 rfl ?_
              refine v_ial F j G73 rfl (by omega) d_M_mark_147 ?_
              refine v_isub F d_M_mark_148 ?_
              refine v_iconst (v := 1) F d_M_mark_149 ki_1 ?_
              refine v_isub F d_M_mark_150 ?_
              refine v_ni (fun x45 ex45 => ?_)
              refine v_istore (ls' := [(4, .int x45), (3, .int (nI (kd j))), (0, .ref (u.2.1 63)), (1, .int (nI j)), (2, .int (nI v))]) F d_M_mark_151 (by decide) rfl ?_
              refine v_iload F d_M_mark_153 0 rfl ?_
              refine v_if_le F 163 d_M_mark_155 rfl (fun h155 => ?_) (fun h155 => ?_)
              · skip
                have h155 := i_nlt.mpr h155
                refine v_iconst (v := 0) F d_M_mark_163 ki_0 ?_
                refine v_iret F hr rfl d_M_mark_164 ?_
                unfold mMark
                first | (exfalso; omega) | (rw [if_pos (by first | exact Or.inl (by assumption) | exact Or.inr (by assumption))]; done) | (rw [if_neg (by rintro (q | q); exact q (by assumption); exact q (by assumption)), xj, xv]; first | (rw [if_neg (by rw [hof]; omega)]; subst_vars; rfl) | (rw [if_pos (by rw [hof]; omega)]; subst hs; first | rfl | (subst_vars; simp only [mkM]; first | (rw [if_neg h155]; done) | (rw [if_pos h155]; done)) | (simp_all [mkM]; done)))
              · skip
                have h155 := i_lt_le.mp h155
                refine v_iload F d_M_mark_158 0 rfl ?_
                refine v_goto F 164 d_M_mark_160 rfl ?_
                refine v_iret F hr rfl d_M_mark_164 ?_
                unfold mMark
                first | (exfalso; omega) | (rw [if_pos (by first | exact Or.inl (by assumption) | exact Or.inr (by assumption))]; done) | (rw [if_neg (by rintro (q | q); exact q (by assumption); exact q (by assumption)), xj, xv]; first | (rw [if_neg (by rw [hof]; omega)]; subst_vars; rfl) | (rw [if_pos (by rw [hof]; omega)]; subst hs; first | rfl | (subst_vars; simp only [mkM]; first | (rw [if_neg h155]; done) | (rw [if_pos h155]; done)) | (simp_all [mkM]; done)))
          · skip
            have h38 : ¬ kd j = 4 := fun q => h38 ((nI_eq (a := kd j) (b := 4) (by omega) (by omega)).mpr q)
            refine v_iload_n F d_M_mark_41 rfl 3 rfl ?_
            refine v_iconst (v := 3) F d_M_mark_42 ki_3 ?_
            refine v_icmp_ne F 51 d_M_mark_43 rfl (fun h43 => ?_) (fun h43 => ?_)
            · skip
              have h43 : ¬ v = 3 := fun q => h43 ((nI_eq (a := v) (b := 3) (by omega) (by omega)).mpr q)
              refine v_aload_n F d_M_mark_51 rfl 1 rfl ?_
              refine v_iconst (v := 3) F d_M_mark_52 ki_3 ?_
              refine v_runi (r_V F (c_M_meets X.2.1 u hA σ 3 (by decide)) mo_M_meets st_M_103 rc_63 (by decide) rfl (Nat.le_of_ble_eq_true rfl) d_M_mark_53) (fun r46 σ47 q48 => ?_)
              obtain ⟨rfl, eσ47⟩ := q48
              refine v_iret F hr rfl d_M_mark_56 ?_
              unfold mMark
              first | (exfalso; omega) | (rw [if_pos (by first | exact Or.inl (by assumption) | exact Or.inr (by assumption))]; done) | (rw [if_neg (by rintro (q | q); exact q (by assumption); exact q (by assumption)), xj, xv]; first | (rw [if_neg (by rw [hof]; omega)]; subst_vars; rfl) | (rw [if_pos (by rw [hof]; omega)]; subst hs; first | rfl | (subst_vars; simp only [mkM]; first | (rw [if_neg h155]; done) | (rw [if_pos h155]; done)) | (simp_all [mkM]; done)))
            · skip
              have h43 : v = 3 := (nI_eq (a := v) (b := 3) (by omega) (by omega)).mp h43
              refine v_iload_n F d_M_mark_46 rfl 0 rfl ?_
              refine v_iconst (v := 5) F d_M_mark_47 ki_5 ?_
              refine v_icmp_eq F 57 d_M_mark_48 rfl (fun h48 => ?_) (fun h48 => ?_)
              · skip
                have h48 : kd j = 5 := (nI_eq (a := kd j) (b := 5) (by omega) (by omega)).mp h48
                refine v_iload_n F d_M_mark_57 rfl 3 rfl ?_
                rcases (show v = 0 ∨ v = 1 ∨ v = 2 ∨ v = 3 ∨ v = 4 ∨ v = 5 from by omega) with hs | hs | hs | hs | hs | hs
                · refine v_te (y := 0) (show nI v = 0 from by rw [hs]; rfl) ?_
                  refine v_tableOut F 136 d_M_mark_58 (by decide) rfl ?_
                  refine v_aload_n F d_M_mark_136 rfl 1 rfl ?_
                  refine v_getr (r := 70) F fk_M_33 G63 rfl d_M_mark_137 ?_
                  refine v_iconst (v := 2) F d_M_mark_140 ki_2 ?_
                  refine v_ial F 2 G70 rfl (by omega) d_M_mark_141 ?_
                  refine v_aload_n F d_M_mark_142 rfl 1 rfl ?_
                  refine v_getr (r := 73) F fk_M_42 G63 rfl d_M_mark_143 ?_
                  refine v_iload_n F d_M_mark_146 rfl 2 rfl ?_
                  refine v_ial F j G73 rfl (by omega) d_M_mark_147 ?_
                  refine v_isub F d_M_mark_148 ?_
                  refine v_iconst (v := 1) F d_M_mark_149 ki_1 ?_
                  refine v_isub F d_M_mark_150 ?_
                  refine v_ni (fun x49 ex49 => ?_)
                  refine v_istore (ls' := [(4, .int x49), (3, .int (nI (kd j))), (0, .ref (u.2.1 63)), (1, .int (nI j)), (2, .int (nI v))]) F d_M_mark_151 (by decide) rfl ?_
                  refine v_iload F d_M_mark_153 0 rfl ?_
                  refine v_if_le F 163 d_M_mark_155 rfl (fun h155 => ?_) (fun h155 => ?_)
                  · skip
                    have h155 := i_nlt.mpr h155
                    refine v_iconst (v := 0) F d_M_mark_163 ki_0 ?_
                    refine v_iret F hr rfl d_M_mark_164 ?_
                    unfold mMark
                    first | (exfalso; omega) | (rw [if_pos (by first | exact Or.inl (by assumption) | exact Or.inr (by assumption))]; done) | (rw [if_neg (by rintro (q | q); exact q (by assumption); exact q (by assumption)), xj, xv]; first | (rw [if_neg (by rw [hof]; omega)]; subst_vars; rfl) | (rw [if_pos (by rw [hof]; omega)]; subst hs; first | rfl | (subst_vars; simp only [mkM]; first | (rw [if_neg h155]; done) | (rw [if_pos h155]; done)) | (simp_all [mkM]; done)))
                  · skip
                    have h155 := i_lt_le.mp h155
                    refine v_iload F d_M_mark_158 0 rfl ?_
                    refine v_goto F 164 d_M_mark_160 rfl ?_
                    refine v_iret F hr rfl d_M_mark_164 ?_
                    unfold mMark
                    first | (exfalso; omega) | (rw [if_pos (by first | exact Or.inl (by assumption) | exact Or.inr (by assumption))]; done) | (rw [if_neg (by rintro (q | q); exact q (by assumption); exact q (by assumption)), xj, xv]; first | (rw [if_neg (by rw [hof]; omega)]; subst_vars; rfl) | (rw [if_pos (by rw [hof]; omega)]; subst hs; first | rfl | (subst_vars; simp only [mkM]; first | (rw [if_neg h155]; done) | (rw [if_pos h155]; done)) | (simp_all [mkM]; done)))
                · refine v_te (y := 1) (show nI v = 1 from by rw [hs]; rfl) ?_
                  refine v_tableIn (off := 30) F 88 d_M_mark_58 (by decide) (by decide) (by decide) rfl ?_
                  refine v_aload_n F d_M_mark_88 rfl 1 rfl ?_
                  refine v_aload_n F d_M_mark_89 rfl 1 rfl ?_
                  refine v_getr (r := 76) F fk_M_51 G63 rfl d_M_mark_90 ?_
                  refine v_runi (r_V F (c_M_speakers X.2.1 u hA σ hb (kO := 76) (Or.inl rfl) ha h0  ) mo_M_speakers st_M_171 rc_63 (by decide) rfl (Nat.le_of_ble_eq_true rfl) d_M_mark_93) (fun r50 σ51 q52 => ?_)
                  obtain ⟨rfl, rfl⟩ := q52
                  refine v_iconst (v := 1) F d_M_mark_96 ki_1 ?_
                  refine v_iload_n F d_M_mark_97 rfl 2 rfl ?_
                  refine v_ishl F d_M_mark_98 ?_
                  refine v_iconst (v := (-1)) F d_M_mark_99 ki_m1 ?_
                  refine v_ixor F d_M_mark_100 ?_
                  refine v_iand F d_M_mark_101 ?_
                  refine v_te (y := nI (mkN (tkM σ 76 kd n a) n &&& (63 ^^^ 2 ^ j))) (mask6 _ (mkN_64 _ hn6) _ (by omega)) ?_
                  refine v_runi (r_S F (c_M_bits X.2.1 u hA σ (mkN (tkM σ 76 kd n a) n &&& (63 ^^^ 2 ^ j)) (and_lt (mkN_64 _ hn6))) mo_M_bits st_M_175 (by decide) rfl (Nat.le_of_ble_eq_true rfl) d_M_mark_102) (fun r53 σ54 q55 => ?_)
                  obtain ⟨rfl, rfl⟩ := q55
                  refine v_iret F hr rfl d_M_mark_105 ?_
                  unfold mMark
                  first | (exfalso; omega) | (rw [if_pos (by first | exact Or.inl (by assumption) | exact Or.inr (by assumption))]; done) | (rw [if_neg (by rintro (q | q); exact q (by assumption); exact q (by assumption)), xj, xv]; first | (rw [if_neg (by rw [hof]; omega)]; subst_vars; rfl) | (rw [if_pos (by rw [hof]; omega)]; subst hs; first | rfl | (subst_vars; simp only [mkM]; first | (rw [if_neg h155]; done) | (rw [if_pos h155]; done)) | (simp_all [mkM]; done)))
                · refine v_te (y := 2) (show nI v = 2 from by rw [hs]; rfl) ?_
                  refine v_tableIn (off := 48) F 106 d_M_mark_58 (by decide) (by decide) (by decide) rfl ?_
                  refine v_aload_n F d_M_mark_106 rfl 1 rfl ?_
                  refine v_getr (r := 76) F fk_M_51 G63 rfl d_M_mark_107 ?_
                  refine v_iconst (v := 3) F d_M_mark_110 ki_3 ?_
                  refine v_ial F 3 G76 rfl (by omega) d_M_mark_111 ?_
                  refine v_iconst (v := 1) F d_M_mark_112 ki_1 ?_
                  refine v_iadd F d_M_mark_113 ?_
                  refine v_iret F hr rfl d_M_mark_114 ?_
                  unfold mMark
                  first | (exfalso; omega) | (rw [if_pos (by first | exact Or.inl (by assumption) | exact Or.inr (by assumption))]; done) | (rw [if_neg (by rintro (q | q); exact q (by assumption); exact q (by assumption)), xj, xv]; first | (rw [if_neg (by rw [hof]; omega)]; subst_vars; rfl) | (rw [if_pos (by rw [hof]; omega)]; subst hs; first | rfl | (subst_vars; simp only [mkM]; first | (rw [if_neg h155]; done) | (rw [if_pos h155]; done)) | (simp_all [mkM]; done)))
                · refine v_te (y := 3) (show nI v = 3 from by rw [hs]; rfl) ?_
                  refine v_tableIn (off := 57) F 115 d_M_mark_58 (by decide) (by decide) (by decide) rfl ?_
                  refine v_aload_n F d_M_mark_115 rfl 1 rfl ?_
                  refine v_aload_n F d_M_mark_116 rfl 1 rfl ?_
                  refine v_getr (r := 76) F fk_M_51 G63 rfl d_M_mark_117 ?_
                  refine v_iload_n F d_M_mark_120 rfl 2 rfl ?_
                  refine v_runi (r_V F (c_M_others X.2.1 u hA σ hb (kO := 76) (Or.inl rfl) ha h0 j (by omega)) mo_M_others st_M_159 rc_63 (by decide) rfl (Nat.le_of_ble_eq_true rfl) d_M_mark_121) (fun r56 σ57 q58 => ?_)
                  obtain ⟨rfl, rfl⟩ := q58
                  refine v_iret F hr rfl d_M_mark_124 ?_
                  unfold mMark
                  first | (exfalso; omega) | (rw [if_pos (by first | exact Or.inl (by assumption) | exact Or.inr (by assumption))]; done) | (rw [if_neg (by rintro (q | q); exact q (by assumption); exact q (by assumption)), xj, xv]; first | (rw [if_neg (by rw [hof]; omega)]; subst_vars; rfl) | (rw [if_pos (by rw [hof]; omega)]; subst hs; first | rfl | (subst_vars; simp only [mkM]; first | (rw [if_neg h155]; done) | (rw [if_pos h155]; done)) | (simp_all [mkM]; done)))
                · refine v_te (y := 4) (show nI v = 4 from by rw [hs]; rfl) ?_
                  refine v_tableIn (off := 67) F 125 d_M_mark_58 (by decide) (by decide) (by decide) rfl ?_
                  refine v_iconst (v := 2) F d_M_mark_125 ki_2 ?_
                  refine v_aload_n F d_M_mark_126 rfl 1 rfl ?_
                  refine v_getr (r := 76) F fk_M_51 G63 rfl d_M_mark_127 ?_
                  refine v_iconst (v := 5) F d_M_mark_130 ki_5 ?_
                  refine v_iload_n F d_M_mark_131 rfl 2 rfl ?_
                  refine v_iadd F d_M_mark_132 ?_
                  refine v_te (y := nI (5 + j)) (nI_add _ _) ?_
                  refine v_ial F (5 + j) G76 rfl (by omega) d_M_mark_133 ?_
                  refine v_isub F d_M_mark_134 ?_
                  refine v_iret F hr rfl d_M_mark_135 ?_
                  unfold mMark
                  first | (exfalso; omega) | (rw [if_pos (by first | exact Or.inl (by assumption) | exact Or.inr (by assumption))]; done) | (rw [if_neg (by rintro (q | q); exact q (by assumption); exact q (by assumption)), xj, xv]; first | (rw [if_neg (by rw [hof]; omega)]; subst_vars; rfl) | (rw [if_pos (by rw [hof]; omega)]; subst hs; first | rfl | (subst_vars; simp only [mkM]; first | (rw [if_neg h155]; done) | (rw [if_pos h155]; done)) | (simp_all [mkM]; done)))
                · refine v_te (y := 5) (show nI v = 5 from by rw [hs]; rfl) ?_
                  refine v_tableOut F 136 d_M_mark_58 (by decide) rfl ?_
                  refine v_aload_n F d_M_mark_136 rfl 1 rfl ?_
                  refine v_getr (r := 70) F fk_M_33 G63 rfl d_M_mark_137 ?_
                  refine v_iconst (v := 2) F d_M_mark_140 ki_2 ?_
                  refine v_ial F 2 G70 rfl (by omega) d_M_mark_141 ?_
                  refine v_aload_n F d_M_mark_142 rfl 1 rfl ?_
                  refine v_getr (r := 73) F fk_M_42 G63 rfl d_M_mark_143 ?_
                  refine v_iload_n F d_M_mark_146 rfl 2 rfl ?_
                  refine v_ial F j G73 rfl (by omega) d_M_mark_147 ?_
                  refine v_isub F d_M_mark_148 ?_
                  refine v_iconst (v := 1) F d_M_mark_149 ki_1 ?_
                  refine v_isub F d_M_mark_150 ?_
                  refine v_ni (fun x59 ex59 => ?_)
                  refine v_istore (ls' := [(4, .int x59), (3, .int (nI (kd j))), (0, .ref (u.2.1 63)), (1, .int (nI j)), (2, .int (nI v))]) F d_M_mark_151 (by decide) rfl ?_
                  refine v_iload F d_M_mark_153 0 rfl ?_
                  refine v_if_le F 163 d_M_mark_155 rfl (fun h155 => ?_) (fun h155 => ?_)
                  · skip
                    have h155 := i_nlt.mpr h155
                    refine v_iconst (v := 0) F d_M_mark_163 ki_0 ?_
                    refine v_iret F hr rfl d_M_mark_164 ?_
                    unfold mMark
                    first | (exfalso; omega) | (rw [if_pos (by first | exact Or.inl (by assumption) | exact Or.inr (by assumption))]; done) | (rw [if_neg (by rintro (q | q); exact q (by assumption); exact q (by assumption)), xj, xv]; first | (rw [if_neg (by rw [hof]; omega)]; subst_vars; rfl) | (rw [if_pos (by rw [hof]; omega)]; subst hs; first | rfl | (subst_vars; simp only [mkM]; first | (rw [if_neg h155]; done) | (rw [if_pos h155]; done)) | (simp_all [mkM]; done)))
                  · skip
                    have h155 := i_lt_le.mp h155
                    refine v_iload F d_M_mark_158 0 rfl ?_
                    refine v_goto F 164 d_M_mark_160 rfl ?_
                    refine v_iret F hr rfl d_M_mark_164 ?_
                    unfold mMark
                    first | (exfalso; omega) | (rw [if_pos (by first | exact Or.inl (by assumption) | exact Or.inr (by assumption))]; done) | (rw [if_neg (by rintro (q | q); exact q (by assumption); exact q (by assumption)), xj, xv]; first | (rw [if_neg (by rw [hof]; omega)]; subst_vars; rfl) | (rw [if_pos (by rw [hof]; omega)]; subst hs; first | rfl | (subst_vars; simp only [mkM]; first | (rw [if_neg h155]; done) | (rw [if_pos h155]; done)) | (simp_all [mkM]; done)))
              · skip
                have h48 : ¬ kd j = 5 := fun q => h48 ((nI_eq (a := kd j) (b := 5) (by omega) (by omega)).mpr q)
                refine v_aload_n F d_M_mark_51 rfl 1 rfl ?_
                refine v_iconst (v := 3) F d_M_mark_52 ki_3 ?_
                refine v_runi (r_V F (c_M_meets X.2.1 u hA σ 3 (by decide)) mo_M_meets st_M_103 rc_63 (by decide) rfl (Nat.le_of_ble_eq_true rfl) d_M_mark_53) (fun r60 σ61 q62 => ?_)
                obtain ⟨rfl, eσ61⟩ := q62
                refine v_iret F hr rfl d_M_mark_56 ?_
                unfold mMark
                first | (exfalso; omega) | (rw [if_pos (by first | exact Or.inl (by assumption) | exact Or.inr (by assumption))]; done) | (rw [if_neg (by rintro (q | q); exact q (by assumption); exact q (by assumption)), xj, xv]; first | (rw [if_neg (by rw [hof]; omega)]; subst_vars; rfl) | (rw [if_pos (by rw [hof]; omega)]; subst hs; first | rfl | (subst_vars; simp only [mkM]; first | (rw [if_neg h155]; done) | (rw [if_pos h155]; done)) | (simp_all [mkM]; done)))
    · skip
      refine v_iconst (v := (-1)) F d_M_mark_17 ki_m1 ?_
      refine v_iret F hr rfl d_M_mark_18 ?_
      unfold mMark
      first | (exfalso; omega) | (rw [if_pos (by first | exact Or.inl (by assumption) | exact Or.inr (by assumption))]; done) | (rw [if_neg (by rintro (q | q); exact q (by assumption); exact q (by assumption)), xj, xv]; first | (rw [if_neg (by rw [hof]; omega)]; subst_vars; rfl) | (rw [if_pos (by rw [hof]; omega)]; subst hs; first | rfl | (subst_vars; simp only [mkM]; first | (rw [if_neg h155]; done) | (rw [if_pos h155]; done)) | (simp_all [mkM]; done)))
abbrev b_M_remember : ByteArray := prog_14_method_48_code
abbrev y_M_remember : MethodName := ⟨"TakerBookModel", "remember", "()V"⟩
theorem d_M_remember_0 : decode b_M_remember 0 = .ok (.iconst 0, 1) := by decide +kernel
theorem d_M_remember_1 : decode b_M_remember 1 = .ok (.istore_n 1, 1) := by decide +kernel
theorem d_M_remember_2 : decode b_M_remember 2 = .ok (.iload_n 1, 1) := by decide +kernel
theorem d_M_remember_3 : decode b_M_remember 3 = .ok (.bipush 11, 2) := by decide +kernel
theorem d_M_remember_5 : decode b_M_remember 5 = .ok (.if_icmp .ge 29, 3) := by decide +kernel
theorem d_M_remember_8 : decode b_M_remember 8 = .ok (.aload_n 0, 1) := by decide +kernel
theorem d_M_remember_9 : decode b_M_remember 9 = .ok (.getfield 57, 3) := by decide +kernel
theorem d_M_remember_12 : decode b_M_remember 12 = .ok (.bipush 11, 2) := by decide +kernel
theorem d_M_remember_14 : decode b_M_remember 14 = .ok (.aload_n 0, 1) := by decide +kernel
theorem d_M_remember_15 : decode b_M_remember 15 = .ok (.getfield 149, 3) := by decide +kernel
theorem d_M_remember_18 : decode b_M_remember 18 = .ok (.imul, 1) := by decide +kernel
theorem d_M_remember_19 : decode b_M_remember 19 = .ok (.iload_n 1, 1) := by decide +kernel
theorem d_M_remember_20 : decode b_M_remember 20 = .ok (.iadd, 1) := by decide +kernel
theorem d_M_remember_21 : decode b_M_remember 21 = .ok (.aload_n 0, 1) := by decide +kernel
theorem d_M_remember_22 : decode b_M_remember 22 = .ok (.getfield 51, 3) := by decide +kernel
theorem d_M_remember_25 : decode b_M_remember 25 = .ok (.iload_n 1, 1) := by decide +kernel
theorem d_M_remember_26 : decode b_M_remember 26 = .ok (.iaload, 1) := by decide +kernel
theorem d_M_remember_27 : decode b_M_remember 27 = .ok (.iastore, 1) := by decide +kernel
theorem d_M_remember_28 : decode b_M_remember 28 = .ok (.iinc 1 1, 3) := by decide +kernel
theorem d_M_remember_31 : decode b_M_remember 31 = .ok (.goto (-29), 3) := by decide +kernel
theorem d_M_remember_34 : decode b_M_remember 34 = .ok (.aload_n 0, 1) := by decide +kernel
theorem d_M_remember_35 : decode b_M_remember 35 = .ok (.dup, 1) := by decide +kernel
theorem d_M_remember_36 : decode b_M_remember 36 = .ok (.getfield 149, 3) := by decide +kernel
theorem d_M_remember_39 : decode b_M_remember 39 = .ok (.iconst 1, 1) := by decide +kernel
theorem d_M_remember_40 : decode b_M_remember 40 = .ok (.iadd, 1) := by decide +kernel
theorem d_M_remember_41 : decode b_M_remember 41 = .ok (.putfield 149, 3) := by decide +kernel
theorem d_M_remember_44 : decode b_M_remember 44 = .ok (.return_, 1) := by decide +kernel
theorem mo_M_remember : mok y_M_remember b_M_remember 2 none 0 := ⟨List.mem_of_getElem? (i := 1264) (by decide +kernel), ⟨by decide +kernel, by decide +kernel, by decide +kernel⟩, List.mem_of_getElem? (i := 86) (by decide +kernel), by decide⟩
set_option maxHeartbeats 4000000 in
theorem L_M_remember_2 {X : FX} {u : Un} (hA : Ap u) {Q : State → Prop} (F : Fr X u "TakerBookModel" b_M_remember 2) {σ : St} {D : Nat} (hD : σ.1 63 22 = nI D) (hD40 : D < 40) (k : V X u 0 2 Q 34 [(0, .ref (u.2.1 63)), (1, .int (nI 11))] [] ((cpF σ 78 (11 * D) (σ.1 76) 11))) : ∀ (nn i : Nat), i ≤ 11 → 11 - i < nn → V X u 0 2 Q 2 [(0, .ref (u.2.1 63)), (1, .int (nI i))] [] ((cpF σ 78 (11 * D) (σ.1 76) i)) := by
  intro nn
  induction nn with
  | zero =>
    intro i h1 h2
    exact absurd h2 (Nat.not_lt_zero _)
  | succ nn ih =>
    intro i hii hnn
    refine v_iload_n F d_M_remember_2 rfl 1 rfl ?_
    refine v_bipush (v := 11) F d_M_remember_3 kb_11 ?_
    refine v_icmp_ge F 34 d_M_remember_5 rfl (fun h5 => ?_) (fun h5 => ?_)
    · skip
      have h5 : 11 ≤ i := (nI_leI (a := 11) (b := i) (by omega) (by omega)).mp h5
      have he : i = 11 := by omega
      subst he
      exact k
    · skip
      have h5 : ¬ 11 ≤ i := fun q => h5 ((nI_leI (a := 11) (b := i) (by omega) (by omega)).mpr q)
      refine v_aload_n F d_M_remember_8 rfl 0 rfl ?_
      refine v_getr (r := 78) F fk_M_57 G63 rfl d_M_remember_9 ?_
      refine v_bipush (v := 11) F d_M_remember_12 kb_11 ?_
      refine v_aload_n F d_M_remember_14 rfl 0 rfl ?_
      refine v_geti F fk_M_149 G63 rfl d_M_remember_15 ?_
      refine v_te (y := nI D) (by rw [cpF_other _ _ _ _ (by decide)]; exact hD) ?_
      refine v_imul F d_M_remember_18 ?_
      refine v_te (y := nI (11 * D)) (pk_mul _ _) ?_
      refine v_iload_n F d_M_remember_19 rfl 1 rfl ?_
      refine v_iadd F d_M_remember_20 ?_
      refine v_te (y := nI (11 * D + i)) (nI_add _ _) ?_
      refine v_aload_n F d_M_remember_21 rfl 0 rfl ?_
      refine v_getr (r := 76) F fk_M_51 G63 rfl d_M_remember_22 ?_
      refine v_iload_n F d_M_remember_25 rfl 1 rfl ?_
      refine v_ial F i G76 rfl (by omega) d_M_remember_26 ?_
      refine v_ias F (11 * D + i) G78 rfl (by omega) d_M_remember_27 ?_
      refine v_ns (fun σ1 eσ1 => ?_)
      refine v_iinc (v := nI (i + 1)) (ls' := [(1, .int (nI (i + 1))), (0, .ref (u.2.1 63))]) F d_M_remember_28 (j := 1) rfl (nI_inc _) (by decide) rfl ?_
      refine v_goto F 2 d_M_remember_31 rfl ?_
      refine v_sub [1, 0] (ls' := [(0, .ref (u.2.1 63)), (1, .int (nI (i + 1)))]) rfl ?_
      refine v_st (show σ1 = (cpF σ 78 (11 * D) (σ.1 76) (i + 1)) from (by first | rfl | (simp [cpF, cpF_other, *]; done) | (simp_all [cpF, cpF_other]; done) | grind [cpF, cpF_other])) ?_
      exact ih (i + 1) (by omega) (by omega)
set_option maxHeartbeats 4000000 in
theorem c_M_remember (l : Launch) (u : Un) (hA : Ap u) (σ : St) {D : Nat} (hD : σ.1 63 22 = nI D) (hD40 : D < 40) : MTv l u y_M_remember b_M_remember 2 0 [.ref (u.2.1 63)] σ (fun σ' => σ' = rmM σ D) := by
  refine MT_of hA rfl (by decide) (Nat.le_of_ble_eq_true rfl) (fun X hl F hr => ?_)
  subst hl
  refine v_to (ls' := [(0, .ref (u.2.1 63))]) rfl ?_
  refine v_iconst (v := 0) F d_M_remember_0 ki_0 ?_
  refine v_istore_n (ls' := [(1, .int 0), (0, .ref (u.2.1 63))]) F d_M_remember_1 rfl (by decide) rfl ?_
  refine v_sub [1, 0] (ls' := [(0, .ref (u.2.1 63)), (1, .int 0)]) rfl ?_
  have g1 : 0 = (nI 0) := (by first | rfl | (simp [cpF, cpF_other, *]; done) | (simp_all [cpF, cpF_other]; done) | grind [cpF, cpF_other])
  refine v_to (ls' := [(0, .ref (u.2.1 63)), (1, .int (nI 0))]) (by first | rfl | rw [g1] | simp_all) ?_
  refine v_st (show σ = (cpF σ 78 (11 * D) (σ.1 76) 0) from (by first | rfl | (simp [cpF, cpF_other, *]; done) | (simp_all [cpF, cpF_other]; done) | grind [cpF, cpF_other])) ?_
  refine L_M_remember_2 hA F hD hD40 ?_ _ 0 (Nat.zero_le _) (Nat.lt_succ_self _)
  refine v_aload_n F d_M_remember_34 rfl 0 rfl ?_
  refine v_dup F d_M_remember_35 rfl ?_
  refine v_geti F fk_M_149 G63 rfl d_M_remember_36 ?_
  refine v_te (y := nI D) (by rw [cpF_other _ _ _ _ (by decide)]; exact hD) ?_
  refine v_iconst (v := 1) F d_M_remember_39 ki_1 ?_
  refine v_iadd F d_M_remember_40 ?_
  refine v_te (y := nI (D + 1)) (nI_add _ _) ?_
  refine v_puti F fk_M_149 pk_M_deedMany G63 rfl d_M_remember_41 ?_
  refine v_ns (fun σ2 eσ2 => ?_)
  refine v_vret F hr d_M_remember_44 ?_
  rw [rmM]; assumption
abbrev b_M_isOver : ByteArray := prog_14_method_49_code
abbrev y_M_isOver : MethodName := ⟨"TakerBookModel", "isOver", "()Z"⟩
theorem d_M_isOver_0 : decode b_M_isOver 0 = .ok (.aload_n 0, 1) := by decide +kernel
theorem d_M_isOver_1 : decode b_M_isOver 1 = .ok (.getfield 146, 3) := by decide +kernel
theorem d_M_isOver_4 : decode b_M_isOver 4 = .ok (.ifCond .eq 13, 3) := by decide +kernel
theorem d_M_isOver_7 : decode b_M_isOver 7 = .ok (.aload_n 0, 1) := by decide +kernel
theorem d_M_isOver_8 : decode b_M_isOver 8 = .ok (.getfield 51, 3) := by decide +kernel
theorem d_M_isOver_11 : decode b_M_isOver 11 = .ok (.iconst 4, 1) := by decide +kernel
theorem d_M_isOver_12 : decode b_M_isOver 12 = .ok (.iaload, 1) := by decide +kernel
theorem d_M_isOver_13 : decode b_M_isOver 13 = .ok (.iconst 1, 1) := by decide +kernel
theorem d_M_isOver_14 : decode b_M_isOver 14 = .ok (.if_icmp .ne 7, 3) := by decide +kernel
theorem d_M_isOver_17 : decode b_M_isOver 17 = .ok (.iconst 1, 1) := by decide +kernel
theorem d_M_isOver_18 : decode b_M_isOver 18 = .ok (.goto 4, 3) := by decide +kernel
theorem d_M_isOver_21 : decode b_M_isOver 21 = .ok (.iconst 0, 1) := by decide +kernel
theorem d_M_isOver_22 : decode b_M_isOver 22 = .ok (.ireturn, 1) := by decide +kernel
theorem mo_M_isOver : mok y_M_isOver b_M_isOver 1 (some .boolean) 0 := ⟨List.mem_of_getElem? (i := 1260) (by decide +kernel), ⟨by decide +kernel, by decide +kernel, by decide +kernel⟩, List.mem_of_getElem? (i := 86) (by decide +kernel), by decide⟩
set_option maxHeartbeats 4000000 in
theorem c_M_isOver (l : Launch) (u : Un) (hA : Ap u) (σ : St) {n : Nat} {kd : Nat → Nat} (hb : mkOk σ n kd) : MTi l u y_M_isOver b_M_isOver 1 .boolean 0 [.ref (u.2.1 63)] σ (fun ans σ' => bI (ovM σ n) = ans ∧ σ = σ') := by
  refine MT_of hA rfl (by decide) (Nat.le_of_ble_eq_true rfl) (fun X hl F hr => ?_)
  subst hl
  refine v_to (ls' := [(0, .ref (u.2.1 63))]) rfl ?_
  obtain ⟨hn, hn6, hkd, hk6⟩ := id hb
  refine v_aload_n F d_M_isOver_0 rfl 0 rfl ?_
  refine v_geti F fk_M_146 G63 rfl d_M_isOver_1 ?_
  refine v_te (y := nI n) hn ?_
  refine v_if_eq F 17 d_M_isOver_4 rfl (fun h4 => ?_) (fun h4 => ?_)
  · skip
    have h4 : n = 0 := (nI_eq (a := n) (b := 0) (by omega) (by omega)).mp h4
    refine v_iconst (v := 1) F d_M_isOver_17 ki_1 ?_
    refine v_goto F 22 d_M_isOver_18 rfl ?_
    refine v_iret F hr rfl d_M_isOver_22 ?_
    exact ⟨(bI_t (by first | (simp_all [inR]; done) | grind)), rfl⟩
  · skip
    have h4 : ¬ n = 0 := fun q => h4 ((nI_eq (a := n) (b := 0) (by omega) (by omega)).mpr q)
    refine v_aload_n F d_M_isOver_7 rfl 0 rfl ?_
    refine v_getr (r := 76) F fk_M_51 G63 rfl d_M_isOver_8 ?_
    refine v_iconst (v := 4) F d_M_isOver_11 ki_4 ?_
    refine v_ial F 4 G76 rfl (by omega) d_M_isOver_12 ?_
    refine v_iconst (v := 1) F d_M_isOver_13 ki_1 ?_
    refine v_icmp_ne F 21 d_M_isOver_14 rfl (fun h14 => ?_) (fun h14 => ?_)
    · skip
      refine v_iconst (v := 0) F d_M_isOver_21 ki_0 ?_
      refine v_iret F hr rfl d_M_isOver_22 ?_
      exact ⟨(bI_f (by first | (simp_all [inR]; done) | grind)), rfl⟩
    · skip
      refine v_iconst (v := 1) F d_M_isOver_17 ki_1 ?_
      refine v_goto F 22 d_M_isOver_18 rfl ?_
      refine v_iret F hr rfl d_M_isOver_22 ?_
      exact ⟨(bI_t (by first | (simp_all [inR]; done) | grind)), rfl⟩
abbrev b_M_canCross : ByteArray := prog_14_method_52_code
abbrev y_M_canCross : MethodName := ⟨"TakerBookModel", "canCross", "(I)Z"⟩
theorem d_M_canCross_0 : decode b_M_canCross 0 = .ok (.aload_n 0, 1) := by decide +kernel
theorem d_M_canCross_1 : decode b_M_canCross 1 = .ok (.getfield 51, 3) := by decide +kernel
theorem d_M_canCross_4 : decode b_M_canCross 4 = .ok (.iconst 0, 1) := by decide +kernel
theorem d_M_canCross_5 : decode b_M_canCross 5 = .ok (.iaload, 1) := by decide +kernel
theorem d_M_canCross_6 : decode b_M_canCross 6 = .ok (.iload_n 1, 1) := by decide +kernel
theorem d_M_canCross_7 : decode b_M_canCross 7 = .ok (.invokestatic 155, 3) := by decide +kernel
theorem d_M_canCross_10 : decode b_M_canCross 10 = .ok (.ifCond .eq 19, 3) := by decide +kernel
theorem d_M_canCross_13 : decode b_M_canCross 13 = .ok (.aload_n 0, 1) := by decide +kernel
theorem d_M_canCross_14 : decode b_M_canCross 14 = .ok (.getfield 51, 3) := by decide +kernel
theorem d_M_canCross_17 : decode b_M_canCross 17 = .ok (.iconst 5, 1) := by decide +kernel
theorem d_M_canCross_18 : decode b_M_canCross 18 = .ok (.iload_n 1, 1) := by decide +kernel
theorem d_M_canCross_19 : decode b_M_canCross 19 = .ok (.iadd, 1) := by decide +kernel
theorem d_M_canCross_20 : decode b_M_canCross 20 = .ok (.iaload, 1) := by decide +kernel
theorem d_M_canCross_21 : decode b_M_canCross 21 = .ok (.iconst 2, 1) := by decide +kernel
theorem d_M_canCross_22 : decode b_M_canCross 22 = .ok (.if_icmp .ge 7, 3) := by decide +kernel
theorem d_M_canCross_25 : decode b_M_canCross 25 = .ok (.iconst 1, 1) := by decide +kernel
theorem d_M_canCross_26 : decode b_M_canCross 26 = .ok (.goto 4, 3) := by decide +kernel
theorem d_M_canCross_29 : decode b_M_canCross 29 = .ok (.iconst 0, 1) := by decide +kernel
theorem d_M_canCross_30 : decode b_M_canCross 30 = .ok (.ireturn, 1) := by decide +kernel
theorem mo_M_canCross : mok y_M_canCross b_M_canCross 2 (some .boolean) 1 := ⟨List.mem_of_getElem? (i := 1288) (by decide +kernel), ⟨by decide +kernel, by decide +kernel, by decide +kernel⟩, List.mem_of_getElem? (i := 86) (by decide +kernel), by decide⟩
set_option maxHeartbeats 4000000 in
theorem c_M_canCross (l : Launch) (u : Un) (hA : Ap u) (σ : St) {a : Nat} (ha : a < 64) (h0 : σ.1 76 0 = nI a) (i : Nat) (hi : i < 6) : MTi l u y_M_canCross b_M_canCross 2 .boolean 1 [.ref (u.2.1 63), .int (nI i)] σ (fun ans σ' => bI (a.testBit i = true ∧ σ.1 76 (5 + i) < 2) = ans ∧ σ = σ') := by
  refine MT_of hA rfl (by decide) (Nat.le_of_ble_eq_true rfl) (fun X hl F hr => ?_)
  subst hl
  refine v_to (ls' := [(0, .ref (u.2.1 63)), (1, .int (nI i))]) rfl ?_
  refine v_aload_n F d_M_canCross_0 rfl 0 rfl ?_
  refine v_getr (r := 76) F fk_M_51 G63 rfl d_M_canCross_1 ?_
  refine v_iconst (v := 0) F d_M_canCross_4 ki_0 ?_
  refine v_ial F 0 G76 rfl (by omega) d_M_canCross_5 ?_
  refine v_te (y := nI a) h0 ?_
  refine v_iload_n F d_M_canCross_6 rfl 1 rfl ?_
  refine v_runi (r_S F (c_M_has2 X.2.1 u hA σ i a (by omega) (by omega)) mo_M_has st_M_155 (by decide) rfl (Nat.le_of_ble_eq_true rfl) d_M_canCross_7) (fun r1 σ2 q3 => ?_)
  obtain ⟨rfl, rfl⟩ := q3
  refine v_bt F 29 d_M_canCross_10 rfl (fun h10 => ?_) (fun h10 => ?_)
  · skip
    refine v_iconst (v := 0) F d_M_canCross_29 ki_0 ?_
    refine v_iret F hr rfl d_M_canCross_30 ?_
    exact ⟨(bI_f (by first | (simp_all [inR]; done) | grind)), rfl⟩
  · skip
    refine v_aload_n F d_M_canCross_13 rfl 0 rfl ?_
    refine v_getr (r := 76) F fk_M_51 G63 rfl d_M_canCross_14 ?_
    refine v_iconst (v := 5) F d_M_canCross_17 ki_5 ?_
    refine v_iload_n F d_M_canCross_18 rfl 1 rfl ?_
    refine v_iadd F d_M_canCross_19 ?_
    refine v_te (y := nI (5 + i)) (nI_add _ _) ?_
    refine v_ial F (5 + i) G76 rfl (by omega) d_M_canCross_20 ?_
    refine v_iconst (v := 2) F d_M_canCross_21 ki_2 ?_
    refine v_icmp_ge F 29 d_M_canCross_22 rfl (fun h22 => ?_) (fun h22 => ?_)
    · skip
      refine v_iconst (v := 0) F d_M_canCross_29 ki_0 ?_
      refine v_iret F hr rfl d_M_canCross_30 ?_
      exact ⟨(bI_f (by first | (simp_all [inR]; done) | grind)), rfl⟩
    · skip
      refine v_iconst (v := 1) F d_M_canCross_25 ki_1 ?_
      refine v_goto F 30 d_M_canCross_26 rfl ?_
      refine v_iret F hr rfl d_M_canCross_30 ?_
      exact ⟨(bI_t (by first | (simp_all [inR]; done) | grind)), rfl⟩
abbrev b_M_week : ByteArray := prog_14_method_50_code
abbrev y_M_week : MethodName := ⟨"TakerBookModel", "week", "()I"⟩
theorem d_M_week_0 : decode b_M_week 0 = .ok (.aload_n 0, 1) := by decide +kernel
theorem d_M_week_1 : decode b_M_week 1 = .ok (.invokevirtual 197, 3) := by decide +kernel
theorem d_M_week_4 : decode b_M_week 4 = .ok (.ifCond .eq 6, 3) := by decide +kernel
theorem d_M_week_7 : decode b_M_week 7 = .ok (.bipush (-4), 2) := by decide +kernel
theorem d_M_week_9 : decode b_M_week 9 = .ok (.ireturn, 1) := by decide +kernel
theorem d_M_week_10 : decode b_M_week 10 = .ok (.aload_n 0, 1) := by decide +kernel
theorem d_M_week_11 : decode b_M_week 11 = .ok (.getfield 149, 3) := by decide +kernel
theorem d_M_week_14 : decode b_M_week 14 = .ok (.bipush 40, 2) := by decide +kernel
theorem d_M_week_16 : decode b_M_week 16 = .ok (.if_icmp .ne 6, 3) := by decide +kernel
theorem d_M_week_19 : decode b_M_week 19 = .ok (.bipush (-2), 2) := by decide +kernel
theorem d_M_week_21 : decode b_M_week 21 = .ok (.ireturn, 1) := by decide +kernel
theorem d_M_week_22 : decode b_M_week 22 = .ok (.aload_n 0, 1) := by decide +kernel
theorem d_M_week_23 : decode b_M_week 23 = .ok (.invokevirtual 201, 3) := by decide +kernel
theorem d_M_week_26 : decode b_M_week 26 = .ok (.aload_n 0, 1) := by decide +kernel
theorem d_M_week_27 : decode b_M_week 27 = .ok (.aload_n 0, 1) := by decide +kernel
theorem d_M_week_28 : decode b_M_week 28 = .ok (.getfield 51, 3) := by decide +kernel
theorem d_M_week_31 : decode b_M_week 31 = .ok (.invokevirtual 204, 3) := by decide +kernel
theorem d_M_week_34 : decode b_M_week 34 = .ok (.aload_n 0, 1) := by decide +kernel
theorem d_M_week_35 : decode b_M_week 35 = .ok (.aload_n 0, 1) := by decide +kernel
theorem d_M_week_36 : decode b_M_week 36 = .ok (.getfield 51, 3) := by decide +kernel
theorem d_M_week_39 : decode b_M_week 39 = .ok (.iconst 4, 1) := by decide +kernel
theorem d_M_week_40 : decode b_M_week 40 = .ok (.iaload, 1) := by decide +kernel
theorem d_M_week_41 : decode b_M_week 41 = .ok (.aload_n 0, 1) := by decide +kernel
theorem d_M_week_42 : decode b_M_week 42 = .ok (.getfield 51, 3) := by decide +kernel
theorem d_M_week_45 : decode b_M_week 45 = .ok (.iconst 2, 1) := by decide +kernel
theorem d_M_week_46 : decode b_M_week 46 = .ok (.iaload, 1) := by decide +kernel
theorem d_M_week_47 : decode b_M_week 47 = .ok (.invokevirtual 111, 3) := by decide +kernel
theorem d_M_week_50 : decode b_M_week 50 = .ok (.ireturn, 1) := by decide +kernel
theorem mo_M_week : mok y_M_week b_M_week 1 (some .int) 0 := ⟨List.mem_of_getElem? (i := 1256) (by decide +kernel), ⟨by decide +kernel, by decide +kernel, by decide +kernel⟩, List.mem_of_getElem? (i := 86) (by decide +kernel), by decide⟩
set_option maxHeartbeats 4000000 in
theorem c_M_week (l : Launch) (u : Un) (hA : Ap u) (σ : St) {n : Nat} {kd : Nat → Nat} (hb : mkOk σ n kd) {a : Nat} (ha : a < 64) (h0 : σ.1 76 0 = nI a) {D : Nat} (hD : σ.1 63 22 = nI D) (hD40 : D ≤ 40) : MTi l u y_M_week b_M_week 1 .int 6 [.ref (u.2.1 63)] σ (fun ans σ' => (ans, σ') = mWeek σ kd n a D) := by
  refine MT_of hA rfl (by decide) (Nat.le_of_ble_eq_true rfl) (fun X hl F hr => ?_)
  subst hl
  refine v_to (ls' := [(0, .ref (u.2.1 63))]) rfl ?_
  obtain ⟨hn, hn6, hkd, hk6⟩ := id hb
  refine v_aload_n F d_M_week_0 rfl 0 rfl ?_
  refine v_runi (r_V F (c_M_isOver X.2.1 u hA σ hb) mo_M_isOver st_M_197 rc_63 (by decide) rfl (Nat.le_of_ble_eq_true rfl) d_M_week_1) (fun r1 σ2 q3 => ?_)
  obtain ⟨rfl, rfl⟩ := q3
  refine v_bt F 10 d_M_week_4 rfl (fun h4 => ?_) (fun h4 => ?_)
  · skip
    refine v_aload_n F d_M_week_10 rfl 0 rfl ?_
    refine v_geti F fk_M_149 G63 rfl d_M_week_11 ?_
    refine v_te (y := nI D) hD ?_
    refine v_bipush (v := 40) F d_M_week_14 kb_40 ?_
    refine v_icmp_ne F 22 d_M_week_16 rfl (fun h16 => ?_) (fun h16 => ?_)
    · skip
      have h16 : ¬ D = 40 := fun q => h16 ((nI_eq (a := D) (b := 40) (by omega) (by omega)).mpr q)
      refine v_aload_n F d_M_week_22 rfl 0 rfl ?_
      refine v_runv (r_V F (c_M_remember X.2.1 u hA σ hD (by omega)) mo_M_remember st_M_201 rc_63 (by decide) rfl (Nat.le_of_ble_eq_true rfl) d_M_week_23) (fun σ5 q6 => ?_)
      subst q6
      refine v_aload_n F d_M_week_26 rfl 0 rfl ?_
      refine v_aload_n F d_M_week_27 rfl 0 rfl ?_
      refine v_getr (r := 76) F fk_M_51 G63 rfl d_M_week_28 ?_
      refine v_runv (r_V F (c_M_passes X.2.1 u hA (rmM σ D) (rm_ok hb) (kO := 76) (Or.inl rfl) ha (rm_0 h0)) mo_M_passes st_M_204 rc_63 (by decide) rfl (Nat.le_of_ble_eq_true rfl) d_M_week_31) (fun σ8 q9 => ?_)
      subst q9
      refine v_aload_n F d_M_week_34 rfl 0 rfl ?_
      refine v_aload_n F d_M_week_35 rfl 0 rfl ?_
      refine v_getr (r := 76) F fk_M_51 G63 rfl d_M_week_36 ?_
      refine v_iconst (v := 4) F d_M_week_39 ki_4 ?_
      refine v_ial F 4 G76 rfl (by omega) d_M_week_40 ?_
      refine v_aload_n F d_M_week_41 rfl 0 rfl ?_
      refine v_getr (r := 76) F fk_M_51 G63 rfl d_M_week_42 ?_
      refine v_iconst (v := 2) F d_M_week_45 ki_2 ?_
      refine v_ial F 2 G76 rfl (by omega) d_M_week_46 ?_
      refine v_runi (r_V F (c_M_tells X.2.1 u hA (paM (rmM σ D) 76 kd n a) ((paM (rmM σ D) 76 kd n a).1 76 4) ((paM (rmM σ D) 76 kd n a).1 76 2)) mo_M_tells st_M_111 rc_63 (by decide) rfl (Nat.le_of_ble_eq_true rfl) d_M_week_47) (fun r10 σ11 q12 => ?_)
      obtain ⟨rfl, eσ11⟩ := q12
      refine v_iret F hr rfl d_M_week_50 ?_
      unfold mWeek
      first | (rw [if_pos (by first | assumption | grind)]; done) | (rw [if_neg (by first | assumption | grind), if_pos (by first | assumption | grind)]; done) | (rw [if_neg (by first | assumption | grind), if_neg (by first | assumption | grind)]; first | done | rfl | (simp_all [uI_o]; done)) | (simp_all; done) | grind
    · skip
      have h16 : D = 40 := (nI_eq (a := D) (b := 40) (by omega) (by omega)).mp h16
      refine v_bipush (v := (-2)) F d_M_week_19 kb_m2 ?_
      refine v_iret F hr rfl d_M_week_21 ?_
      unfold mWeek
      first | (rw [if_pos (by first | assumption | grind)]; done) | (rw [if_neg (by first | assumption | grind), if_pos (by first | assumption | grind)]; done) | (rw [if_neg (by first | assumption | grind), if_neg (by first | assumption | grind)]; first | done | rfl | (simp_all [uI_o]; done)) | (simp_all; done) | grind
  · skip
    refine v_bipush (v := (-4)) F d_M_week_7 kb_m4 ?_
    refine v_iret F hr rfl d_M_week_9 ?_
    unfold mWeek
    first | (rw [if_pos (by first | assumption | grind)]; done) | (rw [if_neg (by first | assumption | grind), if_pos (by first | assumption | grind)]; done) | (rw [if_neg (by first | assumption | grind), if_neg (by first | assumption | grind)]; first | done | rfl | (simp_all [uI_o]; done)) | (simp_all; done) | grind
abbrev b_M_back : ByteArray := prog_14_method_51_code
abbrev y_M_back : MethodName := ⟨"TakerBookModel", "back", "(I)I"⟩
theorem d_M_back_0 : decode b_M_back 0 = .ok (.iload_n 1, 1) := by decide +kernel
theorem d_M_back_1 : decode b_M_back 1 = .ok (.iconst 1, 1) := by decide +kernel
theorem d_M_back_2 : decode b_M_back 2 = .ok (.bipush 99, 2) := by decide +kernel
theorem d_M_back_4 : decode b_M_back 4 = .ok (.invokestatic 89, 3) := by decide +kernel
theorem d_M_back_7 : decode b_M_back 7 = .ok (.ifCond .ne 5, 3) := by decide +kernel
theorem d_M_back_10 : decode b_M_back 10 = .ok (.iconst (-1), 1) := by decide +kernel
theorem d_M_back_11 : decode b_M_back 11 = .ok (.ireturn, 1) := by decide +kernel
theorem d_M_back_12 : decode b_M_back 12 = .ok (.aload_n 0, 1) := by decide +kernel
theorem d_M_back_13 : decode b_M_back 13 = .ok (.invokevirtual 197, 3) := by decide +kernel
theorem d_M_back_16 : decode b_M_back 16 = .ok (.ifCond .eq 6, 3) := by decide +kernel
theorem d_M_back_19 : decode b_M_back 19 = .ok (.bipush (-4), 2) := by decide +kernel
theorem d_M_back_21 : decode b_M_back 21 = .ok (.ireturn, 1) := by decide +kernel
theorem d_M_back_22 : decode b_M_back 22 = .ok (.iload_n 1, 1) := by decide +kernel
theorem d_M_back_23 : decode b_M_back 23 = .ok (.aload_n 0, 1) := by decide +kernel
theorem d_M_back_24 : decode b_M_back 24 = .ok (.getfield 51, 3) := by decide +kernel
theorem d_M_back_27 : decode b_M_back 27 = .ok (.iconst 2, 1) := by decide +kernel
theorem d_M_back_28 : decode b_M_back 28 = .ok (.iaload, 1) := by decide +kernel
theorem d_M_back_29 : decode b_M_back 29 = .ok (.if_icmp .le 6, 3) := by decide +kernel
theorem d_M_back_32 : decode b_M_back 32 = .ok (.bipush (-6), 2) := by decide +kernel
theorem d_M_back_34 : decode b_M_back 34 = .ok (.ireturn, 1) := by decide +kernel
theorem d_M_back_35 : decode b_M_back 35 = .ok (.aload_n 0, 1) := by decide +kernel
theorem d_M_back_36 : decode b_M_back 36 = .ok (.getfield 149, 3) := by decide +kernel
theorem d_M_back_39 : decode b_M_back 39 = .ok (.bipush 40, 2) := by decide +kernel
theorem d_M_back_41 : decode b_M_back 41 = .ok (.if_icmp .ne 6, 3) := by decide +kernel
theorem d_M_back_44 : decode b_M_back 44 = .ok (.bipush (-2), 2) := by decide +kernel
theorem d_M_back_46 : decode b_M_back 46 = .ok (.ireturn, 1) := by decide +kernel
theorem d_M_back_47 : decode b_M_back 47 = .ok (.aload_n 0, 1) := by decide +kernel
theorem d_M_back_48 : decode b_M_back 48 = .ok (.invokevirtual 201, 3) := by decide +kernel
theorem d_M_back_51 : decode b_M_back 51 = .ok (.aload_n 0, 1) := by decide +kernel
theorem d_M_back_52 : decode b_M_back 52 = .ok (.getfield 51, 3) := by decide +kernel
theorem d_M_back_55 : decode b_M_back 55 = .ok (.iconst 2, 1) := by decide +kernel
theorem d_M_back_56 : decode b_M_back 56 = .ok (.dup2, 1) := by decide +kernel
theorem d_M_back_57 : decode b_M_back 57 = .ok (.iaload, 1) := by decide +kernel
theorem d_M_back_58 : decode b_M_back 58 = .ok (.iload_n 1, 1) := by decide +kernel
theorem d_M_back_59 : decode b_M_back 59 = .ok (.isub, 1) := by decide +kernel
theorem d_M_back_60 : decode b_M_back 60 = .ok (.iastore, 1) := by decide +kernel
theorem d_M_back_61 : decode b_M_back 61 = .ok (.aload_n 0, 1) := by decide +kernel
theorem d_M_back_62 : decode b_M_back 62 = .ok (.getfield 51, 3) := by decide +kernel
theorem d_M_back_65 : decode b_M_back 65 = .ok (.iconst 1, 1) := by decide +kernel
theorem d_M_back_66 : decode b_M_back 66 = .ok (.dup2, 1) := by decide +kernel
theorem d_M_back_67 : decode b_M_back 67 = .ok (.iaload, 1) := by decide +kernel
theorem d_M_back_68 : decode b_M_back 68 = .ok (.iload_n 1, 1) := by decide +kernel
theorem d_M_back_69 : decode b_M_back 69 = .ok (.aload_n 0, 1) := by decide +kernel
theorem d_M_back_70 : decode b_M_back 70 = .ok (.getfield 33, 3) := by decide +kernel
theorem d_M_back_73 : decode b_M_back 73 = .ok (.iconst 1, 1) := by decide +kernel
theorem d_M_back_74 : decode b_M_back 74 = .ok (.iaload, 1) := by decide +kernel
theorem d_M_back_75 : decode b_M_back 75 = .ok (.imul, 1) := by decide +kernel
theorem d_M_back_76 : decode b_M_back 76 = .ok (.iadd, 1) := by decide +kernel
theorem d_M_back_77 : decode b_M_back 77 = .ok (.iastore, 1) := by decide +kernel
theorem d_M_back_78 : decode b_M_back 78 = .ok (.aload_n 0, 1) := by decide +kernel
theorem d_M_back_79 : decode b_M_back 79 = .ok (.getfield 51, 3) := by decide +kernel
theorem d_M_back_82 : decode b_M_back 82 = .ok (.iconst 1, 1) := by decide +kernel
theorem d_M_back_83 : decode b_M_back 83 = .ok (.iaload, 1) := by decide +kernel
theorem d_M_back_84 : decode b_M_back 84 = .ok (.ireturn, 1) := by decide +kernel
theorem mo_M_back : mok y_M_back b_M_back 2 (some .int) 1 := ⟨List.mem_of_getElem? (i := 1280) (by decide +kernel), ⟨by decide +kernel, by decide +kernel, by decide +kernel⟩, List.mem_of_getElem? (i := 86) (by decide +kernel), by decide⟩
set_option maxHeartbeats 4000000 in
theorem c_M_back (l : Launch) (u : Un) (hA : Ap u) (σ : St) {n : Nat} {kd : Nat → Nat} (hb : mkOk σ n kd) {a : Nat} (ha : a < 64) (h0 : σ.1 76 0 = nI a) {D : Nat} (hD : σ.1 63 22 = nI D) (hD40 : D ≤ 40) (m : Int32) : MTi l u y_M_back b_M_back 2 .int 4 [.ref (u.2.1 63), .int m] σ (fun ans σ' => (ans, σ') = mBack σ n D m) := by
  refine MT_of hA rfl (by decide) (Nat.le_of_ble_eq_true rfl) (fun X hl F hr => ?_)
  subst hl
  refine v_to (ls' := [(0, .ref (u.2.1 63)), (1, .int m)]) rfl ?_
  obtain ⟨hn, hn6, hkd, hk6⟩ := id hb
  refine v_iload_n F d_M_back_0 rfl 1 rfl ?_
  refine v_iconst (v := 1) F d_M_back_1 ki_1 ?_
  refine v_bipush (v := 99) F d_M_back_2 kb_99 ?_
  refine v_runi (r_S F (c_M_in X.2.1 u hA σ m 1 99 ) mo_M_in st_M_89 (by decide) rfl (Nat.le_of_ble_eq_true rfl) d_M_back_4) (fun r1 σ2 q3 => ?_)
  obtain ⟨rfl, rfl⟩ := q3
  refine v_bf F 12 d_M_back_7 rfl (fun h7 => ?_) (fun h7 => ?_)
  · skip
    refine v_aload_n F d_M_back_12 rfl 0 rfl ?_
    refine v_runi (r_V F (c_M_isOver X.2.1 u hA σ hb) mo_M_isOver st_M_197 rc_63 (by decide) rfl (Nat.le_of_ble_eq_true rfl) d_M_back_13) (fun r4 σ5 q6 => ?_)
    obtain ⟨rfl, rfl⟩ := q6
    refine v_bt F 22 d_M_back_16 rfl (fun h16 => ?_) (fun h16 => ?_)
    · skip
      refine v_iload_n F d_M_back_22 rfl 1 rfl ?_
      refine v_aload_n F d_M_back_23 rfl 0 rfl ?_
      refine v_getr (r := 76) F fk_M_51 G63 rfl d_M_back_24 ?_
      refine v_iconst (v := 2) F d_M_back_27 ki_2 ?_
      refine v_ial F 2 G76 rfl (by omega) d_M_back_28 ?_
      refine v_icmp_le F 35 d_M_back_29 rfl (fun h29 => ?_) (fun h29 => ?_)
      · skip
        refine v_aload_n F d_M_back_35 rfl 0 rfl ?_
        refine v_geti F fk_M_149 G63 rfl d_M_back_36 ?_
        refine v_te (y := nI D) hD ?_
        refine v_bipush (v := 40) F d_M_back_39 kb_40 ?_
        refine v_icmp_ne F 47 d_M_back_41 rfl (fun h41 => ?_) (fun h41 => ?_)
        · skip
          have h41 : ¬ D = 40 := fun q => h41 ((nI_eq (a := D) (b := 40) (by omega) (by omega)).mpr q)
          refine v_aload_n F d_M_back_47 rfl 0 rfl ?_
          refine v_runv (r_V F (c_M_remember X.2.1 u hA σ hD (by omega)) mo_M_remember st_M_201 rc_63 (by decide) rfl (Nat.le_of_ble_eq_true rfl) d_M_back_48) (fun σ8 q9 => ?_)
          subst q9
          refine v_aload_n F d_M_back_51 rfl 0 rfl ?_
          refine v_getr (r := 76) F fk_M_51 G63 rfl d_M_back_52 ?_
          refine v_iconst (v := 2) F d_M_back_55 ki_2 ?_
          refine v_dup2_11 F d_M_back_56 rfl rfl ?_
          refine v_ial F 2 G76 rfl (by omega) d_M_back_57 ?_
          refine v_iload_n F d_M_back_58 rfl 1 rfl ?_
          refine v_isub F d_M_back_59 ?_
          refine v_ias F 2 G76 rfl (by omega) d_M_back_60 ?_
          refine v_ns (fun σ10 eσ10 => ?_)
          refine v_aload_n F d_M_back_61 rfl 0 rfl ?_
          refine v_getr (r := 76) F fk_M_51 G63 rfl d_M_back_62 ?_
          refine v_iconst (v := 1) F d_M_back_65 ki_1 ?_
          refine v_dup2_11 F d_M_back_66 rfl rfl ?_
          refine v_ial F 1 G76 rfl (by omega) d_M_back_67 ?_
          refine v_iload_n F d_M_back_68 rfl 1 rfl ?_
          refine v_aload_n F d_M_back_69 rfl 0 rfl ?_
          refine v_getr (r := 70) F fk_M_33 G63 rfl d_M_back_70 ?_
          refine v_iconst (v := 1) F d_M_back_73 ki_1 ?_
          refine v_ial F 1 G70 rfl (by omega) d_M_back_74 ?_
          refine v_imul F d_M_back_75 ?_
          refine v_iadd F d_M_back_76 ?_
          refine v_ias F 1 G76 rfl (by omega) d_M_back_77 ?_
          refine v_ns (fun σ11 eσ11 => ?_)
          refine v_aload_n F d_M_back_78 rfl 0 rfl ?_
          refine v_getr (r := 76) F fk_M_51 G63 rfl d_M_back_79 ?_
          refine v_iconst (v := 1) F d_M_back_82 ki_1 ?_
          refine v_ial F 1 G76 rfl (by omega) d_M_back_83 ?_
          refine v_iret F hr rfl d_M_back_84 ?_
          unfold mBack
          first | (rw [if_pos (by assumption)]; done) | (rw [if_neg (by grind), if_pos (by assumption)]; done) | (rw [if_neg (by grind), if_neg (by assumption), if_pos (by grind)]; done) | (rw [if_neg (by grind), if_neg (by assumption), if_neg (by grind), if_pos (by assumption)]; done) | (rw [if_neg (by grind), if_neg (by assumption), if_neg (by grind), if_neg (by assumption), baM]; subst_vars; simp [uI, upd]; done)
        · skip
          have h41 : D = 40 := (nI_eq (a := D) (b := 40) (by omega) (by omega)).mp h41
          refine v_bipush (v := (-2)) F d_M_back_44 kb_m2 ?_
          refine v_iret F hr rfl d_M_back_46 ?_
          unfold mBack
          first | (rw [if_pos (by assumption)]; done) | (rw [if_neg (by grind), if_pos (by assumption)]; done) | (rw [if_neg (by grind), if_neg (by assumption), if_pos (by grind)]; done) | (rw [if_neg (by grind), if_neg (by assumption), if_neg (by grind), if_pos (by assumption)]; done) | (rw [if_neg (by grind), if_neg (by assumption), if_neg (by grind), if_neg (by assumption), baM]; subst_vars; simp [uI, upd]; done)
      · skip
        refine v_bipush (v := (-6)) F d_M_back_32 kb_m6 ?_
        refine v_iret F hr rfl d_M_back_34 ?_
        unfold mBack
        first | (rw [if_pos (by assumption)]; done) | (rw [if_neg (by grind), if_pos (by assumption)]; done) | (rw [if_neg (by grind), if_neg (by assumption), if_pos (by grind)]; done) | (rw [if_neg (by grind), if_neg (by assumption), if_neg (by grind), if_pos (by assumption)]; done) | (rw [if_neg (by grind), if_neg (by assumption), if_neg (by grind), if_neg (by assumption), baM]; subst_vars; simp [uI, upd]; done)
    · skip
      refine v_bipush (v := (-4)) F d_M_back_19 kb_m4 ?_
      refine v_iret F hr rfl d_M_back_21 ?_
      unfold mBack
      first | (rw [if_pos (by assumption)]; done) | (rw [if_neg (by grind), if_pos (by assumption)]; done) | (rw [if_neg (by grind), if_neg (by assumption), if_pos (by grind)]; done) | (rw [if_neg (by grind), if_neg (by assumption), if_neg (by grind), if_pos (by assumption)]; done) | (rw [if_neg (by grind), if_neg (by assumption), if_neg (by grind), if_neg (by assumption), baM]; subst_vars; simp [uI, upd]; done)
  · skip
    refine v_iconst (v := (-1)) F d_M_back_10 ki_m1 ?_
    refine v_iret F hr rfl d_M_back_11 ?_
    unfold mBack
    first | (rw [if_pos (by assumption)]; done) | (rw [if_neg (by grind), if_pos (by assumption)]; done) | (rw [if_neg (by grind), if_neg (by assumption), if_pos (by grind)]; done) | (rw [if_neg (by grind), if_neg (by assumption), if_neg (by grind), if_pos (by assumption)]; done) | (rw [if_neg (by grind), if_neg (by assumption), if_neg (by grind), if_neg (by assumption), baM]; subst_vars; simp [uI, upd]; done)
abbrev b_M_cross : ByteArray := prog_14_method_53_code
abbrev y_M_cross : MethodName := ⟨"TakerBookModel", "cross", "(I)I"⟩
theorem d_M_cross_0 : decode b_M_cross 0 = .ok (.aload_n 0, 1) := by decide +kernel
theorem d_M_cross_1 : decode b_M_cross 1 = .ok (.iload_n 1, 1) := by decide +kernel
theorem d_M_cross_2 : decode b_M_cross 2 = .ok (.invokevirtual 191, 3) := by decide +kernel
theorem d_M_cross_5 : decode b_M_cross 5 = .ok (.ifCond .ne 5, 3) := by decide +kernel
theorem d_M_cross_8 : decode b_M_cross 8 = .ok (.iconst (-1), 1) := by decide +kernel
theorem d_M_cross_9 : decode b_M_cross 9 = .ok (.ireturn, 1) := by decide +kernel
theorem d_M_cross_10 : decode b_M_cross 10 = .ok (.aload_n 0, 1) := by decide +kernel
theorem d_M_cross_11 : decode b_M_cross 11 = .ok (.invokevirtual 197, 3) := by decide +kernel
theorem d_M_cross_14 : decode b_M_cross 14 = .ok (.ifCond .ne 11, 3) := by decide +kernel
theorem d_M_cross_17 : decode b_M_cross 17 = .ok (.aload_n 0, 1) := by decide +kernel
theorem d_M_cross_18 : decode b_M_cross 18 = .ok (.iload_n 1, 1) := by decide +kernel
theorem d_M_cross_19 : decode b_M_cross 19 = .ok (.invokevirtual 208, 3) := by decide +kernel
theorem d_M_cross_22 : decode b_M_cross 22 = .ok (.ifCond .ne 6, 3) := by decide +kernel
theorem d_M_cross_25 : decode b_M_cross 25 = .ok (.bipush (-4), 2) := by decide +kernel
theorem d_M_cross_27 : decode b_M_cross 27 = .ok (.ireturn, 1) := by decide +kernel
theorem d_M_cross_28 : decode b_M_cross 28 = .ok (.aload_n 0, 1) := by decide +kernel
theorem d_M_cross_29 : decode b_M_cross 29 = .ok (.getfield 149, 3) := by decide +kernel
theorem d_M_cross_32 : decode b_M_cross 32 = .ok (.bipush 40, 2) := by decide +kernel
theorem d_M_cross_34 : decode b_M_cross 34 = .ok (.if_icmp .ne 6, 3) := by decide +kernel
theorem d_M_cross_37 : decode b_M_cross 37 = .ok (.bipush (-2), 2) := by decide +kernel
theorem d_M_cross_39 : decode b_M_cross 39 = .ok (.ireturn, 1) := by decide +kernel
theorem d_M_cross_40 : decode b_M_cross 40 = .ok (.aload_n 0, 1) := by decide +kernel
theorem d_M_cross_41 : decode b_M_cross 41 = .ok (.invokevirtual 201, 3) := by decide +kernel
theorem d_M_cross_44 : decode b_M_cross 44 = .ok (.aload_n 0, 1) := by decide +kernel
theorem d_M_cross_45 : decode b_M_cross 45 = .ok (.getfield 51, 3) := by decide +kernel
theorem d_M_cross_48 : decode b_M_cross 48 = .ok (.iconst 5, 1) := by decide +kernel
theorem d_M_cross_49 : decode b_M_cross 49 = .ok (.iload_n 1, 1) := by decide +kernel
theorem d_M_cross_50 : decode b_M_cross 50 = .ok (.iadd, 1) := by decide +kernel
theorem d_M_cross_51 : decode b_M_cross 51 = .ok (.dup2, 1) := by decide +kernel
theorem d_M_cross_52 : decode b_M_cross 52 = .ok (.iaload, 1) := by decide +kernel
theorem d_M_cross_53 : decode b_M_cross 53 = .ok (.iconst 1, 1) := by decide +kernel
theorem d_M_cross_54 : decode b_M_cross 54 = .ok (.iadd, 1) := by decide +kernel
theorem d_M_cross_55 : decode b_M_cross 55 = .ok (.iastore, 1) := by decide +kernel
theorem d_M_cross_56 : decode b_M_cross 56 = .ok (.aload_n 0, 1) := by decide +kernel
theorem d_M_cross_57 : decode b_M_cross 57 = .ok (.getfield 51, 3) := by decide +kernel
theorem d_M_cross_60 : decode b_M_cross 60 = .ok (.iconst 5, 1) := by decide +kernel
theorem d_M_cross_61 : decode b_M_cross 61 = .ok (.iload_n 1, 1) := by decide +kernel
theorem d_M_cross_62 : decode b_M_cross 62 = .ok (.iadd, 1) := by decide +kernel
theorem d_M_cross_63 : decode b_M_cross 63 = .ok (.iaload, 1) := by decide +kernel
theorem d_M_cross_64 : decode b_M_cross 64 = .ok (.ireturn, 1) := by decide +kernel
theorem mo_M_cross : mok y_M_cross b_M_cross 2 (some .int) 1 := ⟨List.mem_of_getElem? (i := 1284) (by decide +kernel), ⟨by decide +kernel, by decide +kernel, by decide +kernel⟩, List.mem_of_getElem? (i := 86) (by decide +kernel), by decide⟩
set_option maxHeartbeats 4000000 in
theorem c_M_cross (l : Launch) (u : Un) (hA : Ap u) (σ : St) {n : Nat} {kd : Nat → Nat} (hb : mkOk σ n kd) {a : Nat} (ha : a < 64) (h0 : σ.1 76 0 = nI a) {D : Nat} (hD : σ.1 63 22 = nI D) (hD40 : D ≤ 40) (i : Int32) : MTi l u y_M_cross b_M_cross 2 .int 3 [.ref (u.2.1 63), .int i] σ (fun ans σ' => (ans, σ') = mCross σ n a D i) := by
  refine MT_of hA rfl (by decide) (Nat.le_of_ble_eq_true rfl) (fun X hl F hr => ?_)
  subst hl
  refine v_to (ls' := [(0, .ref (u.2.1 63)), (1, .int i)]) rfl ?_
  obtain ⟨hn, hn6, hkd, hk6⟩ := id hb
  refine v_aload_n F d_M_cross_0 rfl 0 rfl ?_
  refine v_iload_n F d_M_cross_1 rfl 1 rfl ?_
  refine v_runi (r_V F (c_M_isThief X.2.1 u hA σ hb i) mo_M_isThief st_M_191 rc_63 (by decide) rfl (Nat.le_of_ble_eq_true rfl) d_M_cross_2) (fun r1 σ2 q3 => ?_)
  obtain ⟨rfl, rfl⟩ := q3
  refine v_bf F 10 d_M_cross_5 rfl (fun h5 => ?_) (fun h5 => ?_)
  · skip
    obtain ⟨j, hj, xj, rfl⟩ := has_nat h5 rfl hn6
    refine v_aload_n F d_M_cross_10 rfl 0 rfl ?_
    refine v_runi (r_V F (c_M_isOver X.2.1 u hA σ hb) mo_M_isOver st_M_197 rc_63 (by decide) rfl (Nat.le_of_ble_eq_true rfl) d_M_cross_11) (fun r4 σ5 q6 => ?_)
    obtain ⟨rfl, rfl⟩ := q6
    refine v_bf F 25 d_M_cross_14 rfl (fun h14 => ?_) (fun h14 => ?_)
    · skip
      refine v_bipush (v := (-4)) F d_M_cross_25 kb_m4 ?_
      refine v_iret F hr rfl d_M_cross_27 ?_
      unfold mCross
      first | (rw [if_pos (by assumption)]; done) | (rw [if_neg (by grind), if_pos (by grind)]; done) | (rw [if_neg (by grind), if_neg (by grind), if_pos (by assumption)]; done) | (rw [if_neg (by grind), if_neg (by grind), if_neg (by assumption)]; first | (subst_vars; rfl) | (subst_vars; simp_all [crM]; done))
    · skip
      refine v_aload_n F d_M_cross_17 rfl 0 rfl ?_
      refine v_iload_n F d_M_cross_18 rfl 1 rfl ?_
      refine v_runi (r_V F (c_M_canCross X.2.1 u hA σ ha h0 j (by omega)) mo_M_canCross st_M_208 rc_63 (by decide) rfl (Nat.le_of_ble_eq_true rfl) d_M_cross_19) (fun r7 σ8 q9 => ?_)
      obtain ⟨rfl, rfl⟩ := q9
      refine v_bf F 28 d_M_cross_22 rfl (fun h22 => ?_) (fun h22 => ?_)
      · skip
        refine v_aload_n F d_M_cross_28 rfl 0 rfl ?_
        refine v_geti F fk_M_149 G63 rfl d_M_cross_29 ?_
        refine v_te (y := nI D) hD ?_
        refine v_bipush (v := 40) F d_M_cross_32 kb_40 ?_
        refine v_icmp_ne F 40 d_M_cross_34 rfl (fun h34 => ?_) (fun h34 => ?_)
        · skip
          have h34 : ¬ D = 40 := fun q => h34 ((nI_eq (a := D) (b := 40) (by omega) (by omega)).mpr q)
          refine v_aload_n F d_M_cross_40 rfl 0 rfl ?_
          refine v_runv (r_V F (c_M_remember X.2.1 u hA σ hD (by omega)) mo_M_remember st_M_201 rc_63 (by decide) rfl (Nat.le_of_ble_eq_true rfl) d_M_cross_41) (fun σ11 q12 => ?_)
          subst q12
          refine v_aload_n F d_M_cross_44 rfl 0 rfl ?_
          refine v_getr (r := 76) F fk_M_51 G63 rfl d_M_cross_45 ?_
          refine v_iconst (v := 5) F d_M_cross_48 ki_5 ?_
          refine v_iload_n F d_M_cross_49 rfl 1 rfl ?_
          refine v_iadd F d_M_cross_50 ?_
          refine v_te (y := nI (5 + j)) (nI_add _ _) ?_
          refine v_dup2_11 F d_M_cross_51 rfl rfl ?_
          refine v_ial F (5 + j) G76 rfl (by omega) d_M_cross_52 ?_
          refine v_iconst (v := 1) F d_M_cross_53 ki_1 ?_
          refine v_iadd F d_M_cross_54 ?_
          refine v_ias F (5 + j) G76 rfl (by omega) d_M_cross_55 ?_
          refine v_ns (fun σ13 eσ13 => ?_)
          refine v_aload_n F d_M_cross_56 rfl 0 rfl ?_
          refine v_getr (r := 76) F fk_M_51 G63 rfl d_M_cross_57 ?_
          refine v_iconst (v := 5) F d_M_cross_60 ki_5 ?_
          refine v_iload_n F d_M_cross_61 rfl 1 rfl ?_
          refine v_iadd F d_M_cross_62 ?_
          refine v_te (y := nI (5 + j)) (nI_add _ _) ?_
          refine v_ial F (5 + j) G76 rfl (by omega) d_M_cross_63 ?_
          refine v_iret F hr rfl d_M_cross_64 ?_
          unfold mCross
          first | (rw [if_pos (by assumption)]; done) | (rw [if_neg (by grind), if_pos (by grind)]; done) | (rw [if_neg (by grind), if_neg (by grind), if_pos (by assumption)]; done) | (rw [if_neg (by grind), if_neg (by grind), if_neg (by assumption)]; first | (subst_vars; rfl) | (subst_vars; simp_all [crM]; done))
        · skip
          have h34 : D = 40 := (nI_eq (a := D) (b := 40) (by omega) (by omega)).mp h34
          refine v_bipush (v := (-2)) F d_M_cross_37 kb_m2 ?_
          refine v_iret F hr rfl d_M_cross_39 ?_
          unfold mCross
          first | (rw [if_pos (by assumption)]; done) | (rw [if_neg (by grind), if_pos (by grind)]; done) | (rw [if_neg (by grind), if_neg (by grind), if_pos (by assumption)]; done) | (rw [if_neg (by grind), if_neg (by grind), if_neg (by assumption)]; first | (subst_vars; rfl) | (subst_vars; simp_all [crM]; done))
      · skip
        refine v_bipush (v := (-4)) F d_M_cross_25 kb_m4 ?_
        refine v_iret F hr rfl d_M_cross_27 ?_
        unfold mCross
        first | (rw [if_pos (by assumption)]; done) | (rw [if_neg (by grind), if_pos (by grind)]; done) | (rw [if_neg (by grind), if_neg (by grind), if_pos (by assumption)]; done) | (rw [if_neg (by grind), if_neg (by grind), if_neg (by assumption)]; first | (subst_vars; rfl) | (subst_vars; simp_all [crM]; done))
  · skip
    refine v_iconst (v := (-1)) F d_M_cross_8 ki_m1 ?_
    refine v_iret F hr rfl d_M_cross_9 ?_
    unfold mCross
    first | (rw [if_pos (by assumption)]; done) | (rw [if_neg (by grind), if_pos (by grind)]; done) | (rw [if_neg (by grind), if_neg (by grind), if_pos (by assumption)]; done) | (rw [if_neg (by grind), if_neg (by grind), if_neg (by assumption)]; first | (subst_vars; rfl) | (subst_vars; simp_all [crM]; done))
abbrev b_M_give : ByteArray := prog_14_method_54_code
abbrev y_M_give : MethodName := ⟨"TakerBookModel", "give", "(I)I"⟩
theorem d_M_give_0 : decode b_M_give 0 = .ok (.aload_n 0, 1) := by decide +kernel
theorem d_M_give_1 : decode b_M_give 1 = .ok (.iload_n 1, 1) := by decide +kernel
theorem d_M_give_2 : decode b_M_give 2 = .ok (.invokevirtual 191, 3) := by decide +kernel
theorem d_M_give_5 : decode b_M_give 5 = .ok (.ifCond .ne 5, 3) := by decide +kernel
theorem d_M_give_8 : decode b_M_give 8 = .ok (.iconst (-1), 1) := by decide +kernel
theorem d_M_give_9 : decode b_M_give 9 = .ok (.ireturn, 1) := by decide +kernel
theorem d_M_give_10 : decode b_M_give 10 = .ok (.aload_n 0, 1) := by decide +kernel
theorem d_M_give_11 : decode b_M_give 11 = .ok (.invokevirtual 197, 3) := by decide +kernel
theorem d_M_give_14 : decode b_M_give 14 = .ok (.ifCond .ne 16, 3) := by decide +kernel
theorem d_M_give_17 : decode b_M_give 17 = .ok (.aload_n 0, 1) := by decide +kernel
theorem d_M_give_18 : decode b_M_give 18 = .ok (.getfield 51, 3) := by decide +kernel
theorem d_M_give_21 : decode b_M_give 21 = .ok (.iconst 0, 1) := by decide +kernel
theorem d_M_give_22 : decode b_M_give 22 = .ok (.iaload, 1) := by decide +kernel
theorem d_M_give_23 : decode b_M_give 23 = .ok (.iload_n 1, 1) := by decide +kernel
theorem d_M_give_24 : decode b_M_give 24 = .ok (.invokestatic 155, 3) := by decide +kernel
theorem d_M_give_27 : decode b_M_give 27 = .ok (.ifCond .ne 6, 3) := by decide +kernel
theorem d_M_give_30 : decode b_M_give 30 = .ok (.bipush (-4), 2) := by decide +kernel
theorem d_M_give_32 : decode b_M_give 32 = .ok (.ireturn, 1) := by decide +kernel
theorem d_M_give_33 : decode b_M_give 33 = .ok (.aload_n 0, 1) := by decide +kernel
theorem d_M_give_34 : decode b_M_give 34 = .ok (.getfield 149, 3) := by decide +kernel
theorem d_M_give_37 : decode b_M_give 37 = .ok (.bipush 40, 2) := by decide +kernel
theorem d_M_give_39 : decode b_M_give 39 = .ok (.if_icmp .ne 6, 3) := by decide +kernel
theorem d_M_give_42 : decode b_M_give 42 = .ok (.bipush (-2), 2) := by decide +kernel
theorem d_M_give_44 : decode b_M_give 44 = .ok (.ireturn, 1) := by decide +kernel
theorem d_M_give_45 : decode b_M_give 45 = .ok (.aload_n 0, 1) := by decide +kernel
theorem d_M_give_46 : decode b_M_give 46 = .ok (.invokevirtual 201, 3) := by decide +kernel
theorem d_M_give_49 : decode b_M_give 49 = .ok (.aload_n 0, 1) := by decide +kernel
theorem d_M_give_50 : decode b_M_give 50 = .ok (.aload_n 0, 1) := by decide +kernel
theorem d_M_give_51 : decode b_M_give 51 = .ok (.getfield 51, 3) := by decide +kernel
theorem d_M_give_54 : decode b_M_give 54 = .ok (.iload_n 1, 1) := by decide +kernel
theorem d_M_give_55 : decode b_M_give 55 = .ok (.invokevirtual 211, 3) := by decide +kernel
theorem d_M_give_58 : decode b_M_give 58 = .ok (.aload_n 0, 1) := by decide +kernel
theorem d_M_give_59 : decode b_M_give 59 = .ok (.getfield 51, 3) := by decide +kernel
theorem d_M_give_62 : decode b_M_give 62 = .ok (.iconst 1, 1) := by decide +kernel
theorem d_M_give_63 : decode b_M_give 63 = .ok (.iaload, 1) := by decide +kernel
theorem d_M_give_64 : decode b_M_give 64 = .ok (.ireturn, 1) := by decide +kernel
theorem mo_M_give : mok y_M_give b_M_give 2 (some .int) 1 := ⟨List.mem_of_getElem? (i := 1292) (by decide +kernel), ⟨by decide +kernel, by decide +kernel, by decide +kernel⟩, List.mem_of_getElem? (i := 86) (by decide +kernel), by decide⟩
set_option maxHeartbeats 4000000 in
theorem c_M_give (l : Launch) (u : Un) (hA : Ap u) (σ : St) {n : Nat} {kd : Nat → Nat} (hb : mkOk σ n kd) {a : Nat} (ha : a < 64) (h0 : σ.1 76 0 = nI a) {D : Nat} (hD : σ.1 63 22 = nI D) (hD40 : D ≤ 40) (i : Int32) : MTi l u y_M_give b_M_give 2 .int 3 [.ref (u.2.1 63), .int i] σ (fun ans σ' => (ans, σ') = mGive σ kd n a D i) := by
  refine MT_of hA rfl (by decide) (Nat.le_of_ble_eq_true rfl) (fun X hl F hr => ?_)
  subst hl
  refine v_to (ls' := [(0, .ref (u.2.1 63)), (1, .int i)]) rfl ?_
  obtain ⟨hn, hn6, hkd, hk6⟩ := id hb
  refine v_aload_n F d_M_give_0 rfl 0 rfl ?_
  refine v_iload_n F d_M_give_1 rfl 1 rfl ?_
  refine v_runi (r_V F (c_M_isThief X.2.1 u hA σ hb i) mo_M_isThief st_M_191 rc_63 (by decide) rfl (Nat.le_of_ble_eq_true rfl) d_M_give_2) (fun r1 σ2 q3 => ?_)
  obtain ⟨rfl, rfl⟩ := q3
  refine v_bf F 10 d_M_give_5 rfl (fun h5 => ?_) (fun h5 => ?_)
  · skip
    obtain ⟨j, hj, xj, rfl⟩ := has_nat h5 rfl hn6
    refine v_aload_n F d_M_give_10 rfl 0 rfl ?_
    refine v_runi (r_V F (c_M_isOver X.2.1 u hA σ hb) mo_M_isOver st_M_197 rc_63 (by decide) rfl (Nat.le_of_ble_eq_true rfl) d_M_give_11) (fun r4 σ5 q6 => ?_)
    obtain ⟨rfl, rfl⟩ := q6
    refine v_bf F 30 d_M_give_14 rfl (fun h14 => ?_) (fun h14 => ?_)
    · skip
      refine v_bipush (v := (-4)) F d_M_give_30 kb_m4 ?_
      refine v_iret F hr rfl d_M_give_32 ?_
      unfold mGive
      first | (rw [if_pos (by assumption)]; done) | (rw [if_neg (by grind), if_pos (by grind)]; done) | (rw [if_neg (by grind), if_neg (by grind), if_pos (by assumption)]; done) | (rw [if_neg (by grind), if_neg (by grind), if_neg (by assumption)]; first | (subst_vars; rfl) | (subst_vars; simp_all [crM]; done))
    · skip
      refine v_aload_n F d_M_give_17 rfl 0 rfl ?_
      refine v_getr (r := 76) F fk_M_51 G63 rfl d_M_give_18 ?_
      refine v_iconst (v := 0) F d_M_give_21 ki_0 ?_
      refine v_ial F 0 G76 rfl (by omega) d_M_give_22 ?_
      refine v_te (y := nI a) h0 ?_
      refine v_iload_n F d_M_give_23 rfl 1 rfl ?_
      refine v_runi (r_S F (c_M_has2 X.2.1 u hA σ j a (by omega) (by omega)) mo_M_has st_M_155 (by decide) rfl (Nat.le_of_ble_eq_true rfl) d_M_give_24) (fun r7 σ8 q9 => ?_)
      obtain ⟨rfl, rfl⟩ := q9
      refine v_bf F 33 d_M_give_27 rfl (fun h27 => ?_) (fun h27 => ?_)
      · skip
        refine v_aload_n F d_M_give_33 rfl 0 rfl ?_
        refine v_geti F fk_M_149 G63 rfl d_M_give_34 ?_
        refine v_te (y := nI D) hD ?_
        refine v_bipush (v := 40) F d_M_give_37 kb_40 ?_
        refine v_icmp_ne F 45 d_M_give_39 rfl (fun h39 => ?_) (fun h39 => ?_)
        · skip
          have h39 : ¬ D = 40 := fun q => h39 ((nI_eq (a := D) (b := 40) (by omega) (by omega)).mpr q)
          refine v_aload_n F d_M_give_45 rfl 0 rfl ?_
          refine v_runv (r_V F (c_M_remember X.2.1 u hA σ hD (by omega)) mo_M_remember st_M_201 rc_63 (by decide) rfl (Nat.le_of_ble_eq_true rfl) d_M_give_46) (fun σ11 q12 => ?_)
          subst q12
          refine v_aload_n F d_M_give_49 rfl 0 rfl ?_
          refine v_aload_n F d_M_give_50 rfl 0 rfl ?_
          refine v_getr (r := 76) F fk_M_51 G63 rfl d_M_give_51 ?_
          refine v_iload_n F d_M_give_54 rfl 1 rfl ?_
          refine v_runv (r_V F (c_M_givesUp X.2.1 u hA (rmM σ D) (rm_ok hb) (kO := 76) (Or.inl rfl) ha (rm_0 h0) j (by omega)) mo_M_givesUp st_M_211 rc_63 (by decide) rfl (Nat.le_of_ble_eq_true rfl) d_M_give_55) (fun σ14 q15 => ?_)
          subst q15
          refine v_aload_n F d_M_give_58 rfl 0 rfl ?_
          refine v_getr (r := 76) F fk_M_51 G63 rfl d_M_give_59 ?_
          refine v_iconst (v := 1) F d_M_give_62 ki_1 ?_
          refine v_ial F 1 G76 rfl (by omega) d_M_give_63 ?_
          refine v_iret F hr rfl d_M_give_64 ?_
          unfold mGive
          first | (rw [if_pos (by assumption)]; done) | (rw [if_neg (by grind), if_pos (by grind)]; done) | (rw [if_neg (by grind), if_neg (by grind), if_pos (by assumption)]; done) | (rw [if_neg (by grind), if_neg (by grind), if_neg (by assumption)]; first | (subst_vars; rfl) | (subst_vars; simp_all [crM]; done))
        · skip
          have h39 : D = 40 := (nI_eq (a := D) (b := 40) (by omega) (by omega)).mp h39
          refine v_bipush (v := (-2)) F d_M_give_42 kb_m2 ?_
          refine v_iret F hr rfl d_M_give_44 ?_
          unfold mGive
          first | (rw [if_pos (by assumption)]; done) | (rw [if_neg (by grind), if_pos (by grind)]; done) | (rw [if_neg (by grind), if_neg (by grind), if_pos (by assumption)]; done) | (rw [if_neg (by grind), if_neg (by grind), if_neg (by assumption)]; first | (subst_vars; rfl) | (subst_vars; simp_all [crM]; done))
      · skip
        refine v_bipush (v := (-4)) F d_M_give_30 kb_m4 ?_
        refine v_iret F hr rfl d_M_give_32 ?_
        unfold mGive
        first | (rw [if_pos (by assumption)]; done) | (rw [if_neg (by grind), if_pos (by grind)]; done) | (rw [if_neg (by grind), if_neg (by grind), if_pos (by assumption)]; done) | (rw [if_neg (by grind), if_neg (by grind), if_neg (by assumption)]; first | (subst_vars; rfl) | (subst_vars; simp_all [crM]; done))
  · skip
    refine v_iconst (v := (-1)) F d_M_give_8 ki_m1 ?_
    refine v_iret F hr rfl d_M_give_9 ?_
    unfold mGive
    first | (rw [if_pos (by assumption)]; done) | (rw [if_neg (by grind), if_pos (by grind)]; done) | (rw [if_neg (by grind), if_neg (by grind), if_pos (by assumption)]; done) | (rw [if_neg (by grind), if_neg (by grind), if_neg (by assumption)]; first | (subst_vars; rfl) | (subst_vars; simp_all [crM]; done))
abbrev b_M_undo : ByteArray := prog_14_method_55_code
abbrev y_M_undo : MethodName := ⟨"TakerBookModel", "undo", "(I)I"⟩
theorem d_M_undo_0 : decode b_M_undo 0 = .ok (.iload_n 1, 1) := by decide +kernel
theorem d_M_undo_1 : decode b_M_undo 1 = .ok (.iconst 0, 1) := by decide +kernel
theorem d_M_undo_2 : decode b_M_undo 2 = .ok (.aload_n 0, 1) := by decide +kernel
theorem d_M_undo_3 : decode b_M_undo 3 = .ok (.getfield 149, 3) := by decide +kernel
theorem d_M_undo_6 : decode b_M_undo 6 = .ok (.invokestatic 89, 3) := by decide +kernel
theorem d_M_undo_9 : decode b_M_undo 9 = .ok (.ifCond .ne 5, 3) := by decide +kernel
theorem d_M_undo_12 : decode b_M_undo 12 = .ok (.iconst (-1), 1) := by decide +kernel
theorem d_M_undo_13 : decode b_M_undo 13 = .ok (.ireturn, 1) := by decide +kernel
theorem d_M_undo_14 : decode b_M_undo 14 = .ok (.aload_n 0, 1) := by decide +kernel
theorem d_M_undo_15 : decode b_M_undo 15 = .ok (.getfield 149, 3) := by decide +kernel
theorem d_M_undo_18 : decode b_M_undo 18 = .ok (.iload_n 1, 1) := by decide +kernel
theorem d_M_undo_19 : decode b_M_undo 19 = .ok (.isub, 1) := by decide +kernel
theorem d_M_undo_20 : decode b_M_undo 20 = .ok (.istore_n 2, 1) := by decide +kernel
theorem d_M_undo_21 : decode b_M_undo 21 = .ok (.iconst 0, 1) := by decide +kernel
theorem d_M_undo_22 : decode b_M_undo 22 = .ok (.istore_n 3, 1) := by decide +kernel
theorem d_M_undo_23 : decode b_M_undo 23 = .ok (.iload_n 3, 1) := by decide +kernel
theorem d_M_undo_24 : decode b_M_undo 24 = .ok (.bipush 11, 2) := by decide +kernel
theorem d_M_undo_26 : decode b_M_undo 26 = .ok (.if_icmp .ge 30, 3) := by decide +kernel
theorem d_M_undo_29 : decode b_M_undo 29 = .ok (.iload_n 2, 1) := by decide +kernel
theorem d_M_undo_30 : decode b_M_undo 30 = .ok (.ifCond .le 26, 3) := by decide +kernel
theorem d_M_undo_33 : decode b_M_undo 33 = .ok (.aload_n 0, 1) := by decide +kernel
theorem d_M_undo_34 : decode b_M_undo 34 = .ok (.getfield 51, 3) := by decide +kernel
theorem d_M_undo_37 : decode b_M_undo 37 = .ok (.iload_n 3, 1) := by decide +kernel
theorem d_M_undo_38 : decode b_M_undo 38 = .ok (.aload_n 0, 1) := by decide +kernel
theorem d_M_undo_39 : decode b_M_undo 39 = .ok (.getfield 57, 3) := by decide +kernel
theorem d_M_undo_42 : decode b_M_undo 42 = .ok (.bipush 11, 2) := by decide +kernel
theorem d_M_undo_44 : decode b_M_undo 44 = .ok (.iload_n 1, 1) := by decide +kernel
theorem d_M_undo_45 : decode b_M_undo 45 = .ok (.imul, 1) := by decide +kernel
theorem d_M_undo_46 : decode b_M_undo 46 = .ok (.iload_n 3, 1) := by decide +kernel
theorem d_M_undo_47 : decode b_M_undo 47 = .ok (.iadd, 1) := by decide +kernel
theorem d_M_undo_48 : decode b_M_undo 48 = .ok (.iaload, 1) := by decide +kernel
theorem d_M_undo_49 : decode b_M_undo 49 = .ok (.iastore, 1) := by decide +kernel
theorem d_M_undo_50 : decode b_M_undo 50 = .ok (.iinc 3 1, 3) := by decide +kernel
theorem d_M_undo_53 : decode b_M_undo 53 = .ok (.goto (-30), 3) := by decide +kernel
theorem d_M_undo_56 : decode b_M_undo 56 = .ok (.aload_n 0, 1) := by decide +kernel
theorem d_M_undo_57 : decode b_M_undo 57 = .ok (.iload_n 1, 1) := by decide +kernel
theorem d_M_undo_58 : decode b_M_undo 58 = .ok (.putfield 149, 3) := by decide +kernel
theorem d_M_undo_61 : decode b_M_undo 61 = .ok (.iload_n 2, 1) := by decide +kernel
theorem d_M_undo_62 : decode b_M_undo 62 = .ok (.ireturn, 1) := by decide +kernel
theorem mo_M_undo : mok y_M_undo b_M_undo 4 (some .int) 1 := ⟨List.mem_of_getElem? (i := 1300) (by decide +kernel), ⟨by decide +kernel, by decide +kernel, by decide +kernel⟩, List.mem_of_getElem? (i := 86) (by decide +kernel), by decide⟩
set_option maxHeartbeats 4000000 in
theorem L_M_undo_23 {X : FX} {u : Un} (hA : Ap u) {Q : State → Prop} (F : Fr X u "TakerBookModel" b_M_undo 4) {σ : St} {x D : Nat} (hx : x < D) (hD40 : D ≤ 40) (k : V X u 2 4 Q 56 [(0, .ref (u.2.1 63)), (1, .int (nI x)), (2, .int (nI ((D - x)))), (3, .int (nI 11))] [] ((cpF σ 76 0 (fun k => σ.1 78 (11 * x + k)) 11))) : ∀ (nn i : Nat), i ≤ 11 → 11 - i < nn → V X u 2 4 Q 23 [(0, .ref (u.2.1 63)), (1, .int (nI x)), (2, .int (nI ((D - x)))), (3, .int (nI i))] [] ((cpF σ 76 0 (fun k => σ.1 78 (11 * x + k)) i)) := by
  intro nn
  induction nn with
  | zero =>
    intro i h1 h2
    exact absurd h2 (Nat.not_lt_zero _)
  | succ nn ih =>
    intro i hii hnn
    refine v_iload_n F d_M_undo_23 rfl 3 rfl ?_
    refine v_bipush (v := 11) F d_M_undo_24 kb_11 ?_
    refine v_icmp_ge F 56 d_M_undo_26 rfl (fun h26 => ?_) (fun h26 => ?_)
    · skip
      have h26 : 11 ≤ i := (nI_leI (a := 11) (b := i) (by omega) (by omega)).mp h26
      have he : i = 11 := by omega
      subst he
      exact k
    · skip
      have h26 : ¬ 11 ≤ i := fun q => h26 ((nI_leI (a := 11) (b := i) (by omega) (by omega)).mpr q)
      refine v_iload_n F d_M_undo_29 rfl 2 rfl ?_
      refine v_if_le F 56 d_M_undo_30 rfl (fun h30 => ?_) (fun h30 => ?_)
      · exact absurd ((nI_leI (a := D - x) (b := 0) (by omega) (by omega)).mp h30) (by omega)
      · skip
        have h30 : ¬ (D - x) ≤ 0 := fun q => h30 ((nI_leI (a := (D - x)) (b := 0) (by omega) (by omega)).mpr q)
        refine v_aload_n F d_M_undo_33 rfl 0 rfl ?_
        refine v_getr (r := 76) F fk_M_51 G63 rfl d_M_undo_34 ?_
        refine v_iload_n F d_M_undo_37 rfl 3 rfl ?_
        refine v_aload_n F d_M_undo_38 rfl 0 rfl ?_
        refine v_getr (r := 78) F fk_M_57 G63 rfl d_M_undo_39 ?_
        refine v_bipush (v := 11) F d_M_undo_42 kb_11 ?_
        refine v_iload_n F d_M_undo_44 rfl 1 rfl ?_
        refine v_imul F d_M_undo_45 ?_
        refine v_te (y := nI (11 * x)) (pk_mul _ _) ?_
        refine v_iload_n F d_M_undo_46 rfl 3 rfl ?_
        refine v_iadd F d_M_undo_47 ?_
        refine v_te (y := nI (11 * x + i)) (nI_add _ _) ?_
        refine v_ial F (11 * x + i) G78 rfl (by omega) d_M_undo_48 ?_
        refine v_ias F i G76 rfl (by omega) d_M_undo_49 ?_
        refine v_ns (fun σ1 eσ1 => ?_)
        refine v_iinc (v := nI (i + 1)) (ls' := [(3, .int (nI (i + 1))), (0, .ref (u.2.1 63)), (1, .int (nI x)), (2, .int (nI ((D - x))))]) F d_M_undo_50 (j := 3) rfl (nI_inc _) (by decide) rfl ?_
        refine v_goto F 23 d_M_undo_53 rfl ?_
        refine v_sub [1, 2, 3, 0] (ls' := [(0, .ref (u.2.1 63)), (1, .int (nI x)), (2, .int (nI ((D - x)))), (3, .int (nI (i + 1)))]) rfl ?_
        refine v_st (show σ1 = (cpF σ 76 0 (fun k => σ.1 78 (11 * x + k)) (i + 1)) from (by first | rfl | (simp [cpF, cpF_other, *]; done) | (simp_all [cpF, cpF_other]; done) | grind [cpF, cpF_other])) ?_
        exact ih (i + 1) (by omega) (by omega)
set_option maxHeartbeats 4000000 in
theorem c_M_undo (l : Launch) (u : Un) (hA : Ap u) (σ : St) {D : Nat} (hD : σ.1 63 22 = nI D) (hD40 : D ≤ 40) (x : Int32) : MTi l u y_M_undo b_M_undo 4 .int 2 [.ref (u.2.1 63), .int x] σ (fun ans σ' => (ans, σ') = mUndo σ D x) := by
  refine MT_of hA rfl (by decide) (Nat.le_of_ble_eq_true rfl) (fun X hl F hr => ?_)
  subst hl
  refine v_to (ls' := [(0, .ref (u.2.1 63)), (1, .int x)]) rfl ?_
  refine v_iload_n F d_M_undo_0 rfl 1 rfl ?_
  refine v_iconst (v := 0) F d_M_undo_1 ki_0 ?_
  refine v_aload_n F d_M_undo_2 rfl 0 rfl ?_
  refine v_geti F fk_M_149 G63 rfl d_M_undo_3 ?_
  refine v_te (y := nI D) hD ?_
  refine v_runi (r_S F (c_M_in X.2.1 u hA σ x 0 (nI D) ) mo_M_in st_M_89 (by decide) rfl (Nat.le_of_ble_eq_true rfl) d_M_undo_6) (fun r1 σ2 q3 => ?_)
  obtain ⟨rfl, rfl⟩ := q3
  refine v_bf F 14 d_M_undo_9 rfl (fun h9 => ?_) (fun h9 => ?_)
  · skip
    obtain ⟨x, hx, xx, rfl⟩ := nat_of (M := D) h9.1 h9.2 rfl (by omega)
    refine v_aload_n F d_M_undo_14 rfl 0 rfl ?_
    refine v_geti F fk_M_149 G63 rfl d_M_undo_15 ?_
    refine v_te (y := nI D) hD ?_
    refine v_iload_n F d_M_undo_18 rfl 1 rfl ?_
    refine v_isub F d_M_undo_19 ?_
    refine v_te (y := nI (D - x)) (pk_sub hx) ?_
    refine v_istore_n (ls' := [(2, .int (nI (D - x))), (0, .ref (u.2.1 63)), (1, .int (nI x))]) F d_M_undo_20 rfl (by decide) rfl ?_
    refine v_iconst (v := 0) F d_M_undo_21 ki_0 ?_
    refine v_istore_n (ls' := [(3, .int 0), (2, .int (nI (D - x))), (0, .ref (u.2.1 63)), (1, .int (nI x))]) F d_M_undo_22 rfl (by decide) rfl ?_
    by_cases hw : x < D
    · skip
      refine v_sub [2, 3, 1, 0] (ls' := [(0, .ref (u.2.1 63)), (1, .int (nI x)), (2, .int (nI (D - x))), (3, .int 0)]) rfl ?_
      have g4 : (nI (D - x)) = (nI ((D - x))) := (by first | rfl | (simp [cpF, cpF_other, *]; done) | (simp_all [cpF, cpF_other]; done) | grind [cpF, cpF_other])
      have g5 : 0 = (nI 0) := (by first | rfl | (simp [cpF, cpF_other, *]; done) | (simp_all [cpF, cpF_other]; done) | grind [cpF, cpF_other])
      refine v_to (ls' := [(0, .ref (u.2.1 63)), (1, .int (nI x)), (2, .int (nI ((D - x)))), (3, .int (nI 0))]) (by first | rfl | rw [g4, g5] | simp_all) ?_
      refine v_st (show σ = (cpF σ 76 0 (fun k => σ.1 78 (11 * x + k)) 0) from (by first | rfl | (simp [cpF, cpF_other, *]; done) | (simp_all [cpF, cpF_other]; done) | grind [cpF, cpF_other])) ?_
      refine L_M_undo_23 hA F (by omega) hD40 ?_ _ 0 (Nat.zero_le _) (Nat.lt_succ_self _)
      refine v_aload_n F d_M_undo_56 rfl 0 rfl ?_
      refine v_iload_n F d_M_undo_57 rfl 1 rfl ?_
      refine v_puti F fk_M_149 pk_M_deedMany G63 rfl d_M_undo_58 ?_
      refine v_ns (fun σ6 eσ6 => ?_)
      refine v_iload_n F d_M_undo_61 rfl 2 rfl ?_
      refine v_iret F hr rfl d_M_undo_62 ?_
      unfold mUndo
      first | (rw [if_pos (by assumption)]; done) | (rw [if_neg (fun q => q (by assumption)), pk_sub hx, if_neg (fun q => by have := (nI_eq (a := x) (b := D) (by omega) (by omega)).mp q; omega), xx]; subst_vars; rfl) | (rw [if_neg (fun q => q (by assumption)), pk_sub hx, if_pos (by have e : x = D := (by omega); rw [e])]; subst_vars; rfl)
    · skip
      refine v_iload_n F d_M_undo_23 rfl 0 rfl ?_
      refine v_bipush (v := 11) F d_M_undo_24 kb_11 ?_
      refine v_icmp_ge F 56 d_M_undo_26 rfl (fun h => absurd h (by decide)) (fun _ => ?_)
      refine v_iload_n F d_M_undo_29 rfl 1 rfl ?_
      refine v_if_le F 56 d_M_undo_30 rfl (fun h30 => ?_) (fun h30 => ?_)
      · skip
        have h30 : D - x ≤ 0 := (nI_leI (a := D - x) (b := 0) (by omega) (by omega)).mp h30
        refine v_aload_n F d_M_undo_56 rfl 2 rfl ?_
        refine v_iload_n F d_M_undo_57 rfl 3 rfl ?_
        refine v_puti F fk_M_149 pk_M_deedMany G63 rfl d_M_undo_58 ?_
        refine v_ns (fun σ7 eσ7 => ?_)
        refine v_iload_n F d_M_undo_61 rfl 1 rfl ?_
        refine v_iret F hr rfl d_M_undo_62 ?_
        unfold mUndo
        first | (rw [if_pos (by assumption)]; done) | (rw [if_neg (fun q => q (by assumption)), pk_sub hx, if_neg (fun q => by have := (nI_eq (a := x) (b := D) (by omega) (by omega)).mp q; omega), xx]; subst_vars; rfl) | (rw [if_neg (fun q => q (by assumption)), pk_sub hx, if_pos (by have e : x = D := (by omega); rw [e])]; subst_vars; rfl)
      · exact absurd ((nI_leI (a := D - x) (b := 0) (by omega) (by omega)).mpr (by omega)) h30
  · skip
    refine v_iconst (v := (-1)) F d_M_undo_12 ki_m1 ?_
    refine v_iret F hr rfl d_M_undo_13 ?_
    unfold mUndo
    first | (rw [if_pos (by assumption)]; done) | (rw [if_neg (fun q => q (by assumption)), pk_sub hx, if_neg (fun q => by have := (nI_eq (a := x) (b := D) (by omega) (by omega)).mp q; omega), xx]; subst_vars; rfl) | (rw [if_neg (fun q => q (by assumption)), pk_sub hx, if_pos (by have e : x = D := (by omega); rw [e])]; subst_vars; rfl)
abbrev b_M_keep : ByteArray := prog_14_method_56_code
abbrev y_M_keep : MethodName := ⟨"TakerBookModel", "keep", "(I)I"⟩
theorem d_M_keep_0 : decode b_M_keep 0 = .ok (.iload_n 1, 1) := by decide +kernel
theorem d_M_keep_1 : decode b_M_keep 1 = .ok (.iconst 0, 1) := by decide +kernel
theorem d_M_keep_2 : decode b_M_keep 2 = .ok (.iconst 2, 1) := by decide +kernel
theorem d_M_keep_3 : decode b_M_keep 3 = .ok (.invokestatic 89, 3) := by decide +kernel
theorem d_M_keep_6 : decode b_M_keep 6 = .ok (.ifCond .ne 5, 3) := by decide +kernel
theorem d_M_keep_9 : decode b_M_keep 9 = .ok (.iconst (-1), 1) := by decide +kernel
theorem d_M_keep_10 : decode b_M_keep 10 = .ok (.ireturn, 1) := by decide +kernel
theorem d_M_keep_11 : decode b_M_keep 11 = .ok (.aload_n 0, 1) := by decide +kernel
theorem d_M_keep_12 : decode b_M_keep 12 = .ok (.getfield 146, 3) := by decide +kernel
theorem d_M_keep_15 : decode b_M_keep 15 = .ok (.ifCond .ne 6, 3) := by decide +kernel
theorem d_M_keep_18 : decode b_M_keep 18 = .ok (.bipush (-4), 2) := by decide +kernel
theorem d_M_keep_20 : decode b_M_keep 20 = .ok (.ireturn, 1) := by decide +kernel
theorem d_M_keep_21 : decode b_M_keep 21 = .ok (.aload_n 0, 1) := by decide +kernel
theorem d_M_keep_22 : decode b_M_keep 22 = .ok (.getfield 60, 3) := by decide +kernel
theorem d_M_keep_25 : decode b_M_keep 25 = .ok (.iload_n 1, 1) := by decide +kernel
theorem d_M_keep_26 : decode b_M_keep 26 = .ok (.iconst 1, 1) := by decide +kernel
theorem d_M_keep_27 : decode b_M_keep 27 = .ok (.bastore, 1) := by decide +kernel
theorem d_M_keep_28 : decode b_M_keep 28 = .ok (.aload_n 0, 1) := by decide +kernel
theorem d_M_keep_29 : decode b_M_keep 29 = .ok (.getfield 64, 3) := by decide +kernel
theorem d_M_keep_32 : decode b_M_keep 32 = .ok (.iload_n 1, 1) := by decide +kernel
theorem d_M_keep_33 : decode b_M_keep 33 = .ok (.aload_n 0, 1) := by decide +kernel
theorem d_M_keep_34 : decode b_M_keep 34 = .ok (.getfield 149, 3) := by decide +kernel
theorem d_M_keep_37 : decode b_M_keep 37 = .ok (.iastore, 1) := by decide +kernel
theorem d_M_keep_38 : decode b_M_keep 38 = .ok (.iconst 0, 1) := by decide +kernel
theorem d_M_keep_39 : decode b_M_keep 39 = .ok (.istore_n 2, 1) := by decide +kernel
theorem d_M_keep_40 : decode b_M_keep 40 = .ok (.iload_n 2, 1) := by decide +kernel
theorem d_M_keep_41 : decode b_M_keep 41 = .ok (.bipush 11, 2) := by decide +kernel
theorem d_M_keep_43 : decode b_M_keep 43 = .ok (.if_icmp .ge 26, 3) := by decide +kernel
theorem d_M_keep_46 : decode b_M_keep 46 = .ok (.aload_n 0, 1) := by decide +kernel
theorem d_M_keep_47 : decode b_M_keep 47 = .ok (.getfield 67, 3) := by decide +kernel
theorem d_M_keep_50 : decode b_M_keep 50 = .ok (.bipush 11, 2) := by decide +kernel
theorem d_M_keep_52 : decode b_M_keep 52 = .ok (.iload_n 1, 1) := by decide +kernel
theorem d_M_keep_53 : decode b_M_keep 53 = .ok (.imul, 1) := by decide +kernel
theorem d_M_keep_54 : decode b_M_keep 54 = .ok (.iload_n 2, 1) := by decide +kernel
theorem d_M_keep_55 : decode b_M_keep 55 = .ok (.iadd, 1) := by decide +kernel
theorem d_M_keep_56 : decode b_M_keep 56 = .ok (.aload_n 0, 1) := by decide +kernel
theorem d_M_keep_57 : decode b_M_keep 57 = .ok (.getfield 51, 3) := by decide +kernel
theorem d_M_keep_60 : decode b_M_keep 60 = .ok (.iload_n 2, 1) := by decide +kernel
theorem d_M_keep_61 : decode b_M_keep 61 = .ok (.iaload, 1) := by decide +kernel
theorem d_M_keep_62 : decode b_M_keep 62 = .ok (.iastore, 1) := by decide +kernel
theorem d_M_keep_63 : decode b_M_keep 63 = .ok (.iinc 2 1, 3) := by decide +kernel
theorem d_M_keep_66 : decode b_M_keep 66 = .ok (.goto (-26), 3) := by decide +kernel
theorem d_M_keep_69 : decode b_M_keep 69 = .ok (.iconst 0, 1) := by decide +kernel
theorem d_M_keep_70 : decode b_M_keep 70 = .ok (.istore_n 2, 1) := by decide +kernel
theorem d_M_keep_71 : decode b_M_keep 71 = .ok (.iload_n 2, 1) := by decide +kernel
theorem d_M_keep_72 : decode b_M_keep 72 = .ok (.bipush 11, 2) := by decide +kernel
theorem d_M_keep_74 : decode b_M_keep 74 = .ok (.aload_n 0, 1) := by decide +kernel
theorem d_M_keep_75 : decode b_M_keep 75 = .ok (.getfield 149, 3) := by decide +kernel
theorem d_M_keep_78 : decode b_M_keep 78 = .ok (.imul, 1) := by decide +kernel
theorem d_M_keep_79 : decode b_M_keep 79 = .ok (.if_icmp .ge 27, 3) := by decide +kernel
theorem d_M_keep_82 : decode b_M_keep 82 = .ok (.aload_n 0, 1) := by decide +kernel
theorem d_M_keep_83 : decode b_M_keep 83 = .ok (.getfield 70, 3) := by decide +kernel
theorem d_M_keep_86 : decode b_M_keep 86 = .ok (.sipush 440, 3) := by decide +kernel
theorem d_M_keep_89 : decode b_M_keep 89 = .ok (.iload_n 1, 1) := by decide +kernel
theorem d_M_keep_90 : decode b_M_keep 90 = .ok (.imul, 1) := by decide +kernel
theorem d_M_keep_91 : decode b_M_keep 91 = .ok (.iload_n 2, 1) := by decide +kernel
theorem d_M_keep_92 : decode b_M_keep 92 = .ok (.iadd, 1) := by decide +kernel
theorem d_M_keep_93 : decode b_M_keep 93 = .ok (.aload_n 0, 1) := by decide +kernel
theorem d_M_keep_94 : decode b_M_keep 94 = .ok (.getfield 57, 3) := by decide +kernel
theorem d_M_keep_97 : decode b_M_keep 97 = .ok (.iload_n 2, 1) := by decide +kernel
theorem d_M_keep_98 : decode b_M_keep 98 = .ok (.iaload, 1) := by decide +kernel
theorem d_M_keep_99 : decode b_M_keep 99 = .ok (.iastore, 1) := by decide +kernel
theorem d_M_keep_100 : decode b_M_keep 100 = .ok (.iinc 2 1, 3) := by decide +kernel
theorem d_M_keep_103 : decode b_M_keep 103 = .ok (.goto (-32), 3) := by decide +kernel
theorem d_M_keep_106 : decode b_M_keep 106 = .ok (.aload_n 0, 1) := by decide +kernel
theorem d_M_keep_107 : decode b_M_keep 107 = .ok (.getfield 149, 3) := by decide +kernel
theorem d_M_keep_110 : decode b_M_keep 110 = .ok (.ireturn, 1) := by decide +kernel
theorem mo_M_keep : mok y_M_keep b_M_keep 3 (some .int) 1 := ⟨List.mem_of_getElem? (i := 1304) (by decide +kernel), ⟨by decide +kernel, by decide +kernel, by decide +kernel⟩, List.mem_of_getElem? (i := 86) (by decide +kernel), by decide⟩
set_option maxHeartbeats 4000000 in
theorem L_M_keep_40 {X : FX} {u : Un} (hA : Ap u) {Q : State → Prop} (F : Fr X u "TakerBookModel" b_M_keep 3) {σ : St} {D : Nat} (hD : σ.1 63 22 = nI D) (hD40 : D ≤ 40) {kx : Nat} (hk : kx < 3) (k : V X u 2 3 Q 69 [(0, .ref (u.2.1 63)), (1, .int (nI kx)), (2, .int (nI 11))] [] ((cpF (uI (uI σ 79 kx 1) 80 kx (nI D)) 81 (11 * kx) (σ.1 76) 11))) : ∀ (nn i : Nat), i ≤ 11 → 11 - i < nn → V X u 2 3 Q 40 [(0, .ref (u.2.1 63)), (1, .int (nI kx)), (2, .int (nI i))] [] ((cpF (uI (uI σ 79 kx 1) 80 kx (nI D)) 81 (11 * kx) (σ.1 76) i)) := by
  intro nn
  induction nn with
  | zero =>
    intro i h1 h2
    exact absurd h2 (Nat.not_lt_zero _)
  | succ nn ih =>
    intro i hii hnn
    refine v_iload_n F d_M_keep_40 rfl 2 rfl ?_
    refine v_bipush (v := 11) F d_M_keep_41 kb_11 ?_
    refine v_icmp_ge F 69 d_M_keep_43 rfl (fun h43 => ?_) (fun h43 => ?_)
    · skip
      have h43 : 11 ≤ i := (nI_leI (a := 11) (b := i) (by omega) (by omega)).mp h43
      have he : i = 11 := by omega
      subst he
      exact k
    · skip
      have h43 : ¬ 11 ≤ i := fun q => h43 ((nI_leI (a := 11) (b := i) (by omega) (by omega)).mpr q)
      refine v_aload_n F d_M_keep_46 rfl 0 rfl ?_
      refine v_getr (r := 81) F fk_M_67 G63 rfl d_M_keep_47 ?_
      refine v_bipush (v := 11) F d_M_keep_50 kb_11 ?_
      refine v_iload_n F d_M_keep_52 rfl 1 rfl ?_
      refine v_imul F d_M_keep_53 ?_
      refine v_te (y := nI (11 * kx)) (pk_mul _ _) ?_
      refine v_iload_n F d_M_keep_54 rfl 2 rfl ?_
      refine v_iadd F d_M_keep_55 ?_
      refine v_te (y := nI (11 * kx + i)) (nI_add _ _) ?_
      refine v_aload_n F d_M_keep_56 rfl 0 rfl ?_
      refine v_getr (r := 76) F fk_M_51 G63 rfl d_M_keep_57 ?_
      refine v_iload_n F d_M_keep_60 rfl 2 rfl ?_
      refine v_ial F i G76 rfl (by omega) d_M_keep_61 ?_
      refine v_ias F (11 * kx + i) G81 rfl (by omega) d_M_keep_62 ?_
      refine v_ns (fun σ1 eσ1 => ?_)
      refine v_iinc (v := nI (i + 1)) (ls' := [(2, .int (nI (i + 1))), (0, .ref (u.2.1 63)), (1, .int (nI kx))]) F d_M_keep_63 (j := 2) rfl (nI_inc _) (by decide) rfl ?_
      refine v_goto F 40 d_M_keep_66 rfl ?_
      refine v_sub [1, 2, 0] (ls' := [(0, .ref (u.2.1 63)), (1, .int (nI kx)), (2, .int (nI (i + 1)))]) rfl ?_
      refine v_st (show σ1 = (cpF (uI (uI σ 79 kx 1) 80 kx (nI D)) 81 (11 * kx) (σ.1 76) (i + 1)) from (by first | rfl | (subst_vars; rfl) | (simp [cpF, cpF_other, uI_o, *]; done) | (simp_all [cpF, cpF_other, uI_o]; done) | grind [cpF, cpF_other, uI_o])) ?_
      exact ih (i + 1) (by omega) (by omega)
set_option maxHeartbeats 4000000 in
theorem L_M_keep_71 {X : FX} {u : Un} (hA : Ap u) {Q : State → Prop} (F : Fr X u "TakerBookModel" b_M_keep 3) {σ : St} {D : Nat} (hD : σ.1 63 22 = nI D) (hD40 : D ≤ 40) {kx : Nat} (hk : kx < 3) (k : V X u 2 3 Q 106 [(0, .ref (u.2.1 63)), (1, .int (nI kx)), (2, .int (nI ((11 * D))))] [] ((cpF (cpF (uI (uI σ 79 kx 1) 80 kx (nI D)) 81 (11 * kx) (σ.1 76) 11) 82 (440 * kx) (σ.1 78) ((11 * D))))) : ∀ (nn i : Nat), i ≤ (11 * D) → (11 * D) - i < nn → V X u 2 3 Q 71 [(0, .ref (u.2.1 63)), (1, .int (nI kx)), (2, .int (nI i))] [] ((cpF (cpF (uI (uI σ 79 kx 1) 80 kx (nI D)) 81 (11 * kx) (σ.1 76) 11) 82 (440 * kx) (σ.1 78) i)) := by
  intro nn
  induction nn with
  | zero =>
    intro i h1 h2
    exact absurd h2 (Nat.not_lt_zero _)
  | succ nn ih =>
    intro i hii hnn
    refine v_iload_n F d_M_keep_71 rfl 2 rfl ?_
    refine v_bipush (v := 11) F d_M_keep_72 kb_11 ?_
    refine v_aload_n F d_M_keep_74 rfl 0 rfl ?_
    refine v_geti F fk_M_149 G63 rfl d_M_keep_75 ?_
    refine v_te (y := nI D) (by subst_vars; (repeat (first | rw [cpF_other _ _ _ _ (by decide)] | rw [uI_o _ _ _ _ (by decide)])); first | exact hD | rw [uI_s]) ?_
    refine v_imul F d_M_keep_78 ?_
    refine v_te (y := nI (11 * D)) (pk_mul _ _) ?_
    refine v_icmp_ge F 106 d_M_keep_79 rfl (fun h79 => ?_) (fun h79 => ?_)
    · skip
      have h79 : 11 * D ≤ i := (nI_leI (a := 11 * D) (b := i) (by omega) (by omega)).mp h79
      have he : i = (11 * D) := by omega
      subst he
      exact k
    · skip
      have h79 : ¬ 11 * D ≤ i := fun q => h79 ((nI_leI (a := 11 * D) (b := i) (by omega) (by omega)).mpr q)
      refine v_aload_n F d_M_keep_82 rfl 0 rfl ?_
      refine v_getr (r := 82) F fk_M_70 G63 rfl d_M_keep_83 ?_
      refine v_sipush (v := 440) F d_M_keep_86 ks_440 ?_
      refine v_iload_n F d_M_keep_89 rfl 1 rfl ?_
      refine v_imul F d_M_keep_90 ?_
      refine v_te (y := nI (440 * kx)) (pk_mul _ _) ?_
      refine v_iload_n F d_M_keep_91 rfl 2 rfl ?_
      refine v_iadd F d_M_keep_92 ?_
      refine v_te (y := nI (440 * kx + i)) (nI_add _ _) ?_
      refine v_aload_n F d_M_keep_93 rfl 0 rfl ?_
      refine v_getr (r := 78) F fk_M_57 G63 rfl d_M_keep_94 ?_
      refine v_iload_n F d_M_keep_97 rfl 2 rfl ?_
      refine v_ial F i G78 rfl (by omega) d_M_keep_98 ?_
      refine v_ias F (440 * kx + i) G82 rfl (by omega) d_M_keep_99 ?_
      refine v_ns (fun σ1 eσ1 => ?_)
      refine v_iinc (v := nI (i + 1)) (ls' := [(2, .int (nI (i + 1))), (0, .ref (u.2.1 63)), (1, .int (nI kx))]) F d_M_keep_100 (j := 2) rfl (nI_inc _) (by decide) rfl ?_
      refine v_goto F 71 d_M_keep_103 rfl ?_
      refine v_sub [1, 2, 0] (ls' := [(0, .ref (u.2.1 63)), (1, .int (nI kx)), (2, .int (nI (i + 1)))]) rfl ?_
      refine v_st (show σ1 = (cpF (cpF (uI (uI σ 79 kx 1) 80 kx (nI D)) 81 (11 * kx) (σ.1 76) 11) 82 (440 * kx) (σ.1 78) (i + 1)) from (by first | rfl | (subst_vars; rfl) | (simp [cpF, cpF_other, uI_o, *]; done) | (simp_all [cpF, cpF_other, uI_o]; done) | grind [cpF, cpF_other, uI_o])) ?_
      exact ih (i + 1) (by omega) (by omega)
set_option maxHeartbeats 4000000 in
theorem c_M_keep (l : Launch) (u : Un) (hA : Ap u) (σ : St) {n : Nat} {kd : Nat → Nat} (hb : mkOk σ n kd) {D : Nat} (hD : σ.1 63 22 = nI D) (hD40 : D ≤ 40) (k : Int32) : MTi l u y_M_keep b_M_keep 3 .int 2 [.ref (u.2.1 63), .int k] σ (fun ans σ' => (ans, σ') = mKeep σ n D k) := by
  refine MT_of hA rfl (by decide) (Nat.le_of_ble_eq_true rfl) (fun X hl F hr => ?_)
  subst hl
  refine v_to (ls' := [(0, .ref (u.2.1 63)), (1, .int k)]) rfl ?_
  obtain ⟨hn, hn6, hkd, hk6⟩ := id hb
  refine v_iload_n F d_M_keep_0 rfl 1 rfl ?_
  refine v_iconst (v := 0) F d_M_keep_1 ki_0 ?_
  refine v_iconst (v := 2) F d_M_keep_2 ki_2 ?_
  refine v_runi (r_S F (c_M_in X.2.1 u hA σ k 0 2 ) mo_M_in st_M_89 (by decide) rfl (Nat.le_of_ble_eq_true rfl) d_M_keep_3) (fun r1 σ2 q3 => ?_)
  obtain ⟨rfl, rfl⟩ := q3
  refine v_bf F 11 d_M_keep_6 rfl (fun h6 => ?_) (fun h6 => ?_)
  · skip
    obtain ⟨kx, hk, xk, rfl⟩ := nat_of (M := 2) h6.1 h6.2 rfl (by decide)
    refine v_aload_n F d_M_keep_11 rfl 0 rfl ?_
    refine v_geti F fk_M_146 G63 rfl d_M_keep_12 ?_
    refine v_te (y := nI n) hn ?_
    refine v_if_ne F 21 d_M_keep_15 rfl (fun h15 => ?_) (fun h15 => ?_)
    · skip
      have h15 : ¬ n = 0 := fun q => h15 ((nI_eq (a := n) (b := 0) (by omega) (by omega)).mpr q)
      refine v_aload_n F d_M_keep_21 rfl 0 rfl ?_
      refine v_getr (r := 79) F fk_M_60 G63 rfl d_M_keep_22 ?_
      refine v_iload_n F d_M_keep_25 rfl 1 rfl ?_
      refine v_iconst (v := 1) F d_M_keep_26 ki_1 ?_
      refine v_zas F kx G79 rfl (by omega) d_M_keep_27 ?_
      refine v_ns (fun σ4 eσ4 => ?_)
      refine v_aload_n F d_M_keep_28 rfl 0 rfl ?_
      refine v_getr (r := 80) F fk_M_64 G63 rfl d_M_keep_29 ?_
      refine v_iload_n F d_M_keep_32 rfl 1 rfl ?_
      refine v_aload_n F d_M_keep_33 rfl 0 rfl ?_
      refine v_geti F fk_M_149 G63 rfl d_M_keep_34 ?_
      refine v_te (y := nI D) (by subst_vars; (repeat (first | rw [cpF_other _ _ _ _ (by decide)] | rw [uI_o _ _ _ _ (by decide)])); first | exact hD | rw [uI_s]) ?_
      refine v_ias F kx G80 rfl (by omega) d_M_keep_37 ?_
      refine v_ns (fun σ5 eσ5 => ?_)
      refine v_iconst (v := 0) F d_M_keep_38 ki_0 ?_
      refine v_istore_n (ls' := [(2, .int 0), (0, .ref (u.2.1 63)), (1, .int (nI kx))]) F d_M_keep_39 rfl (by decide) rfl ?_
      refine v_sub [1, 2, 0] (ls' := [(0, .ref (u.2.1 63)), (1, .int (nI kx)), (2, .int 0)]) rfl ?_
      have g6 : 0 = (nI 0) := (by first | rfl | (subst_vars; rfl) | (simp [cpF, cpF_other, uI_o, *]; done) | (simp_all [cpF, cpF_other, uI_o]; done) | grind [cpF, cpF_other, uI_o])
      refine v_to (ls' := [(0, .ref (u.2.1 63)), (1, .int (nI kx)), (2, .int (nI 0))]) (by first | rfl | rw [g6] | simp_all) ?_
      refine v_st (show σ5 = (cpF (uI (uI σ 79 kx 1) 80 kx (nI D)) 81 (11 * kx) (σ.1 76) 0) from (by first | rfl | (subst_vars; rfl) | (simp [cpF, cpF_other, uI_o, *]; done) | (simp_all [cpF, cpF_other, uI_o]; done) | grind [cpF, cpF_other, uI_o])) ?_
      refine L_M_keep_40 hA F hD hD40 (by omega) ?_ _ 0 (Nat.zero_le _) (Nat.lt_succ_self _)
      refine v_iconst (v := 0) F d_M_keep_69 ki_0 ?_
      refine v_istore_n (ls' := [(2, .int 0), (0, .ref (u.2.1 63)), (1, .int (nI kx))]) F d_M_keep_70 rfl (by decide) rfl ?_
      refine v_sub [1, 2, 0] (ls' := [(0, .ref (u.2.1 63)), (1, .int (nI kx)), (2, .int 0)]) rfl ?_
      have g7 : 0 = (nI 0) := (by first | rfl | (subst_vars; rfl) | (simp [cpF, cpF_other, uI_o, *]; done) | (simp_all [cpF, cpF_other, uI_o]; done) | grind [cpF, cpF_other, uI_o])
      refine v_to (ls' := [(0, .ref (u.2.1 63)), (1, .int (nI kx)), (2, .int (nI 0))]) (by first | rfl | rw [g7] | simp_all) ?_
      refine v_st (show (cpF (uI (uI σ 79 kx 1) 80 kx (nI D)) 81 (11 * kx) (σ.1 76) 11) = (cpF (cpF (uI (uI σ 79 kx 1) 80 kx (nI D)) 81 (11 * kx) (σ.1 76) 11) 82 (440 * kx) (σ.1 78) 0) from (by first | rfl | (subst_vars; rfl) | (simp [cpF, cpF_other, uI_o, *]; done) | (simp_all [cpF, cpF_other, uI_o]; done) | grind [cpF, cpF_other, uI_o])) ?_
      refine L_M_keep_71 hA F hD hD40 (by omega) ?_ _ 0 (Nat.zero_le _) (Nat.lt_succ_self _)
      refine v_aload_n F d_M_keep_106 rfl 0 rfl ?_
      refine v_geti F fk_M_149 G63 rfl d_M_keep_107 ?_
      refine v_te (y := nI D) (by subst_vars; (repeat (first | rw [cpF_other _ _ _ _ (by decide)] | rw [uI_o _ _ _ _ (by decide)])); first | exact hD | rw [uI_s]) ?_
      refine v_iret F hr rfl d_M_keep_110 ?_
      unfold mKeep
      first | (rw [if_pos (by assumption)]; done) | (rw [if_neg (fun q => q (by assumption)), if_pos (by assumption)]; done) | (rw [if_neg (fun q => q (by assumption)), if_neg (by assumption), xk]; rfl)
    · skip
      have h15 : n = 0 := (nI_eq (a := n) (b := 0) (by omega) (by omega)).mp h15
      refine v_bipush (v := (-4)) F d_M_keep_18 kb_m4 ?_
      refine v_iret F hr rfl d_M_keep_20 ?_
      unfold mKeep
      first | (rw [if_pos (by assumption)]; done) | (rw [if_neg (fun q => q (by assumption)), if_pos (by assumption)]; done) | (rw [if_neg (fun q => q (by assumption)), if_neg (by assumption), xk]; rfl)
  · skip
    refine v_iconst (v := (-1)) F d_M_keep_9 ki_m1 ?_
    refine v_iret F hr rfl d_M_keep_10 ?_
    unfold mKeep
    first | (rw [if_pos (by assumption)]; done) | (rw [if_neg (fun q => q (by assumption)), if_pos (by assumption)]; done) | (rw [if_neg (fun q => q (by assumption)), if_neg (by assumption), xk]; rfl)
abbrev b_M_on : ByteArray := prog_14_method_57_code
abbrev y_M_on : MethodName := ⟨"TakerBookModel", "on", "(I)I"⟩
theorem d_M_on_0 : decode b_M_on 0 = .ok (.iload_n 1, 1) := by decide +kernel
theorem d_M_on_1 : decode b_M_on 1 = .ok (.iconst 0, 1) := by decide +kernel
theorem d_M_on_2 : decode b_M_on 2 = .ok (.iconst 2, 1) := by decide +kernel
theorem d_M_on_3 : decode b_M_on 3 = .ok (.invokestatic 89, 3) := by decide +kernel
theorem d_M_on_6 : decode b_M_on 6 = .ok (.ifCond .ne 5, 3) := by decide +kernel
theorem d_M_on_9 : decode b_M_on 9 = .ok (.iconst (-1), 1) := by decide +kernel
theorem d_M_on_10 : decode b_M_on 10 = .ok (.ireturn, 1) := by decide +kernel
theorem d_M_on_11 : decode b_M_on 11 = .ok (.aload_n 0, 1) := by decide +kernel
theorem d_M_on_12 : decode b_M_on 12 = .ok (.getfield 60, 3) := by decide +kernel
theorem d_M_on_15 : decode b_M_on 15 = .ok (.iload_n 1, 1) := by decide +kernel
theorem d_M_on_16 : decode b_M_on 16 = .ok (.baload, 1) := by decide +kernel
theorem d_M_on_17 : decode b_M_on 17 = .ok (.ifCond .ne 9, 3) := by decide +kernel
theorem d_M_on_20 : decode b_M_on 20 = .ok (.aload_n 0, 1) := by decide +kernel
theorem d_M_on_21 : decode b_M_on 21 = .ok (.iconst 1, 1) := by decide +kernel
theorem d_M_on_22 : decode b_M_on 22 = .ok (.invokevirtual 103, 3) := by decide +kernel
theorem d_M_on_25 : decode b_M_on 25 = .ok (.ireturn, 1) := by decide +kernel
theorem d_M_on_26 : decode b_M_on 26 = .ok (.aload_n 0, 1) := by decide +kernel
theorem d_M_on_27 : decode b_M_on 27 = .ok (.aload_n 0, 1) := by decide +kernel
theorem d_M_on_28 : decode b_M_on 28 = .ok (.getfield 64, 3) := by decide +kernel
theorem d_M_on_31 : decode b_M_on 31 = .ok (.iload_n 1, 1) := by decide +kernel
theorem d_M_on_32 : decode b_M_on 32 = .ok (.iaload, 1) := by decide +kernel
theorem d_M_on_33 : decode b_M_on 33 = .ok (.putfield 149, 3) := by decide +kernel
theorem d_M_on_36 : decode b_M_on 36 = .ok (.iconst 0, 1) := by decide +kernel
theorem d_M_on_37 : decode b_M_on 37 = .ok (.istore_n 2, 1) := by decide +kernel
theorem d_M_on_38 : decode b_M_on 38 = .ok (.iload_n 2, 1) := by decide +kernel
theorem d_M_on_39 : decode b_M_on 39 = .ok (.bipush 11, 2) := by decide +kernel
theorem d_M_on_41 : decode b_M_on 41 = .ok (.if_icmp .ge 26, 3) := by decide +kernel
theorem d_M_on_44 : decode b_M_on 44 = .ok (.aload_n 0, 1) := by decide +kernel
theorem d_M_on_45 : decode b_M_on 45 = .ok (.getfield 51, 3) := by decide +kernel
theorem d_M_on_48 : decode b_M_on 48 = .ok (.iload_n 2, 1) := by decide +kernel
theorem d_M_on_49 : decode b_M_on 49 = .ok (.aload_n 0, 1) := by decide +kernel
theorem d_M_on_50 : decode b_M_on 50 = .ok (.getfield 67, 3) := by decide +kernel
theorem d_M_on_53 : decode b_M_on 53 = .ok (.bipush 11, 2) := by decide +kernel
theorem d_M_on_55 : decode b_M_on 55 = .ok (.iload_n 1, 1) := by decide +kernel
theorem d_M_on_56 : decode b_M_on 56 = .ok (.imul, 1) := by decide +kernel
theorem d_M_on_57 : decode b_M_on 57 = .ok (.iload_n 2, 1) := by decide +kernel
theorem d_M_on_58 : decode b_M_on 58 = .ok (.iadd, 1) := by decide +kernel
theorem d_M_on_59 : decode b_M_on 59 = .ok (.iaload, 1) := by decide +kernel
theorem d_M_on_60 : decode b_M_on 60 = .ok (.iastore, 1) := by decide +kernel
theorem d_M_on_61 : decode b_M_on 61 = .ok (.iinc 2 1, 3) := by decide +kernel
theorem d_M_on_64 : decode b_M_on 64 = .ok (.goto (-26), 3) := by decide +kernel
theorem d_M_on_67 : decode b_M_on 67 = .ok (.iconst 0, 1) := by decide +kernel
theorem d_M_on_68 : decode b_M_on 68 = .ok (.istore_n 2, 1) := by decide +kernel
theorem d_M_on_69 : decode b_M_on 69 = .ok (.iload_n 2, 1) := by decide +kernel
theorem d_M_on_70 : decode b_M_on 70 = .ok (.bipush 11, 2) := by decide +kernel
theorem d_M_on_72 : decode b_M_on 72 = .ok (.aload_n 0, 1) := by decide +kernel
theorem d_M_on_73 : decode b_M_on 73 = .ok (.getfield 149, 3) := by decide +kernel
theorem d_M_on_76 : decode b_M_on 76 = .ok (.imul, 1) := by decide +kernel
theorem d_M_on_77 : decode b_M_on 77 = .ok (.if_icmp .ge 27, 3) := by decide +kernel
theorem d_M_on_80 : decode b_M_on 80 = .ok (.aload_n 0, 1) := by decide +kernel
theorem d_M_on_81 : decode b_M_on 81 = .ok (.getfield 57, 3) := by decide +kernel
theorem d_M_on_84 : decode b_M_on 84 = .ok (.iload_n 2, 1) := by decide +kernel
theorem d_M_on_85 : decode b_M_on 85 = .ok (.aload_n 0, 1) := by decide +kernel
theorem d_M_on_86 : decode b_M_on 86 = .ok (.getfield 70, 3) := by decide +kernel
theorem d_M_on_89 : decode b_M_on 89 = .ok (.sipush 440, 3) := by decide +kernel
theorem d_M_on_92 : decode b_M_on 92 = .ok (.iload_n 1, 1) := by decide +kernel
theorem d_M_on_93 : decode b_M_on 93 = .ok (.imul, 1) := by decide +kernel
theorem d_M_on_94 : decode b_M_on 94 = .ok (.iload_n 2, 1) := by decide +kernel
theorem d_M_on_95 : decode b_M_on 95 = .ok (.iadd, 1) := by decide +kernel
theorem d_M_on_96 : decode b_M_on 96 = .ok (.iaload, 1) := by decide +kernel
theorem d_M_on_97 : decode b_M_on 97 = .ok (.iastore, 1) := by decide +kernel
theorem d_M_on_98 : decode b_M_on 98 = .ok (.iinc 2 1, 3) := by decide +kernel
theorem d_M_on_101 : decode b_M_on 101 = .ok (.goto (-32), 3) := by decide +kernel
theorem d_M_on_104 : decode b_M_on 104 = .ok (.aload_n 0, 1) := by decide +kernel
theorem d_M_on_105 : decode b_M_on 105 = .ok (.getfield 149, 3) := by decide +kernel
theorem d_M_on_108 : decode b_M_on 108 = .ok (.ireturn, 1) := by decide +kernel
theorem mo_M_on : mok y_M_on b_M_on 3 (some .int) 1 := ⟨List.mem_of_getElem? (i := 1308) (by decide +kernel), ⟨by decide +kernel, by decide +kernel, by decide +kernel⟩, List.mem_of_getElem? (i := 86) (by decide +kernel), by decide⟩
set_option maxHeartbeats 4000000 in
theorem L_M_on_38 {X : FX} {u : Un} (hA : Ap u) {Q : State → Prop} (F : Fr X u "TakerBookModel" b_M_on 3) {σ : St} {kx D : Nat} (hk : kx < 3) (hD40 : D ≤ 40) (k : V X u 2 3 Q 67 [(0, .ref (u.2.1 63)), (1, .int (nI kx)), (2, .int (nI 11))] [] ((cpF (uI σ 63 22 (nI D)) 76 0 (fun j => σ.1 81 (11 * kx + j)) 11))) : ∀ (nn i : Nat), i ≤ 11 → 11 - i < nn → V X u 2 3 Q 38 [(0, .ref (u.2.1 63)), (1, .int (nI kx)), (2, .int (nI i))] [] ((cpF (uI σ 63 22 (nI D)) 76 0 (fun j => σ.1 81 (11 * kx + j)) i)) := by
  intro nn
  induction nn with
  | zero =>
    intro i h1 h2
    exact absurd h2 (Nat.not_lt_zero _)
  | succ nn ih =>
    intro i hii hnn
    refine v_iload_n F d_M_on_38 rfl 2 rfl ?_
    refine v_bipush (v := 11) F d_M_on_39 kb_11 ?_
    refine v_icmp_ge F 67 d_M_on_41 rfl (fun h41 => ?_) (fun h41 => ?_)
    · skip
      have h41 : 11 ≤ i := (nI_leI (a := 11) (b := i) (by omega) (by omega)).mp h41
      have he : i = 11 := by omega
      subst he
      exact k
    · skip
      have h41 : ¬ 11 ≤ i := fun q => h41 ((nI_leI (a := 11) (b := i) (by omega) (by omega)).mpr q)
      refine v_aload_n F d_M_on_44 rfl 0 rfl ?_
      refine v_getr (r := 76) F fk_M_51 G63 rfl d_M_on_45 ?_
      refine v_iload_n F d_M_on_48 rfl 2 rfl ?_
      refine v_aload_n F d_M_on_49 rfl 0 rfl ?_
      refine v_getr (r := 81) F fk_M_67 G63 rfl d_M_on_50 ?_
      refine v_bipush (v := 11) F d_M_on_53 kb_11 ?_
      refine v_iload_n F d_M_on_55 rfl 1 rfl ?_
      refine v_imul F d_M_on_56 ?_
      refine v_te (y := nI (11 * kx)) (pk_mul _ _) ?_
      refine v_iload_n F d_M_on_57 rfl 2 rfl ?_
      refine v_iadd F d_M_on_58 ?_
      refine v_te (y := nI (11 * kx + i)) (nI_add _ _) ?_
      refine v_ial F (11 * kx + i) G81 rfl (by omega) d_M_on_59 ?_
      refine v_ias F i G76 rfl (by omega) d_M_on_60 ?_
      refine v_ns (fun σ1 eσ1 => ?_)
      refine v_iinc (v := nI (i + 1)) (ls' := [(2, .int (nI (i + 1))), (0, .ref (u.2.1 63)), (1, .int (nI kx))]) F d_M_on_61 (j := 2) rfl (nI_inc _) (by decide) rfl ?_
      refine v_goto F 38 d_M_on_64 rfl ?_
      refine v_sub [1, 2, 0] (ls' := [(0, .ref (u.2.1 63)), (1, .int (nI kx)), (2, .int (nI (i + 1)))]) rfl ?_
      refine v_st (show σ1 = (cpF (uI σ 63 22 (nI D)) 76 0 (fun j => σ.1 81 (11 * kx + j)) (i + 1)) from (by first | rfl | (subst_vars; rfl) | (simp [cpF, cpF_other, uI_o, *]; done) | (simp_all [cpF, cpF_other, uI_o]; done) | grind [cpF, cpF_other, uI_o])) ?_
      exact ih (i + 1) (by omega) (by omega)
set_option maxHeartbeats 4000000 in
theorem L_M_on_69 {X : FX} {u : Un} (hA : Ap u) {Q : State → Prop} (F : Fr X u "TakerBookModel" b_M_on 3) {σ : St} {kx D : Nat} (hk : kx < 3) (hD40 : D ≤ 40) (k : V X u 2 3 Q 104 [(0, .ref (u.2.1 63)), (1, .int (nI kx)), (2, .int (nI ((11 * D))))] [] ((cpF (cpF (uI σ 63 22 (nI D)) 76 0 (fun j => σ.1 81 (11 * kx + j)) 11) 78 0 (fun j => σ.1 82 (440 * kx + j)) ((11 * D))))) : ∀ (nn i : Nat), i ≤ (11 * D) → (11 * D) - i < nn → V X u 2 3 Q 69 [(0, .ref (u.2.1 63)), (1, .int (nI kx)), (2, .int (nI i))] [] ((cpF (cpF (uI σ 63 22 (nI D)) 76 0 (fun j => σ.1 81 (11 * kx + j)) 11) 78 0 (fun j => σ.1 82 (440 * kx + j)) i)) := by
  intro nn
  induction nn with
  | zero =>
    intro i h1 h2
    exact absurd h2 (Nat.not_lt_zero _)
  | succ nn ih =>
    intro i hii hnn
    refine v_iload_n F d_M_on_69 rfl 2 rfl ?_
    refine v_bipush (v := 11) F d_M_on_70 kb_11 ?_
    refine v_aload_n F d_M_on_72 rfl 0 rfl ?_
    refine v_geti F fk_M_149 G63 rfl d_M_on_73 ?_
    refine v_te (y := nI D) (by subst_vars; (repeat (first | rw [cpF_other _ _ _ _ (by decide)] | rw [uI_o _ _ _ _ (by decide)])); first | rw [uI_s]) ?_
    refine v_imul F d_M_on_76 ?_
    refine v_te (y := nI (11 * D)) (pk_mul _ _) ?_
    refine v_icmp_ge F 104 d_M_on_77 rfl (fun h77 => ?_) (fun h77 => ?_)
    · skip
      have h77 : 11 * D ≤ i := (nI_leI (a := 11 * D) (b := i) (by omega) (by omega)).mp h77
      have he : i = (11 * D) := by omega
      subst he
      exact k
    · skip
      have h77 : ¬ 11 * D ≤ i := fun q => h77 ((nI_leI (a := 11 * D) (b := i) (by omega) (by omega)).mpr q)
      refine v_aload_n F d_M_on_80 rfl 0 rfl ?_
      refine v_getr (r := 78) F fk_M_57 G63 rfl d_M_on_81 ?_
      refine v_iload_n F d_M_on_84 rfl 2 rfl ?_
      refine v_aload_n F d_M_on_85 rfl 0 rfl ?_
      refine v_getr (r := 82) F fk_M_70 G63 rfl d_M_on_86 ?_
      refine v_sipush (v := 440) F d_M_on_89 ks_440 ?_
      refine v_iload_n F d_M_on_92 rfl 1 rfl ?_
      refine v_imul F d_M_on_93 ?_
      refine v_te (y := nI (440 * kx)) (pk_mul _ _) ?_
      refine v_iload_n F d_M_on_94 rfl 2 rfl ?_
      refine v_iadd F d_M_on_95 ?_
      refine v_te (y := nI (440 * kx + i)) (nI_add _ _) ?_
      refine v_ial F (440 * kx + i) G82 rfl (by omega) d_M_on_96 ?_
      refine v_ias F i G78 rfl (by omega) d_M_on_97 ?_
      refine v_ns (fun σ1 eσ1 => ?_)
      refine v_iinc (v := nI (i + 1)) (ls' := [(2, .int (nI (i + 1))), (0, .ref (u.2.1 63)), (1, .int (nI kx))]) F d_M_on_98 (j := 2) rfl (nI_inc _) (by decide) rfl ?_
      refine v_goto F 69 d_M_on_101 rfl ?_
      refine v_sub [1, 2, 0] (ls' := [(0, .ref (u.2.1 63)), (1, .int (nI kx)), (2, .int (nI (i + 1)))]) rfl ?_
      refine v_st (show σ1 = (cpF (cpF (uI σ 63 22 (nI D)) 76 0 (fun j => σ.1 81 (11 * kx + j)) 11) 78 0 (fun j => σ.1 82 (440 * kx + j)) (i + 1)) from (by first | rfl | (subst_vars; rfl) | (simp [cpF, cpF_other, uI_o, *]; done) | (simp_all [cpF, cpF_other, uI_o]; done) | grind [cpF, cpF_other, uI_o])) ?_
      exact ih (i + 1) (by omega) (by omega)
set_option maxHeartbeats 4000000 in
theorem c_M_on (l : Launch) (u : Un) (hA : Ap u) (σ : St) {DK : Nat → Nat} (hK : kmOk σ DK) (k : Int32) : MTi l u y_M_on b_M_on 3 .int 2 [.ref (u.2.1 63), .int k] σ (fun ans σ' => (ans, σ') = mOn σ DK k) := by
  refine MT_of hA rfl (by decide) (Nat.le_of_ble_eq_true rfl) (fun X hl F hr => ?_)
  subst hl
  refine v_to (ls' := [(0, .ref (u.2.1 63)), (1, .int k)]) rfl ?_
  refine v_iload_n F d_M_on_0 rfl 1 rfl ?_
  refine v_iconst (v := 0) F d_M_on_1 ki_0 ?_
  refine v_iconst (v := 2) F d_M_on_2 ki_2 ?_
  refine v_runi (r_S F (c_M_in X.2.1 u hA σ k 0 2 ) mo_M_in st_M_89 (by decide) rfl (Nat.le_of_ble_eq_true rfl) d_M_on_3) (fun r1 σ2 q3 => ?_)
  obtain ⟨rfl, rfl⟩ := q3
  refine v_bf F 11 d_M_on_6 rfl (fun h6 => ?_) (fun h6 => ?_)
  · skip
    obtain ⟨kx, hk, xk, rfl⟩ := nat_of (M := 2) h6.1 h6.2 rfl (by decide)
    refine v_aload_n F d_M_on_11 rfl 0 rfl ?_
    refine v_getr (r := 79) F fk_M_60 G63 rfl d_M_on_12 ?_
    refine v_iload_n F d_M_on_15 rfl 1 rfl ?_
    refine v_zal F kx G79 rfl (by omega) d_M_on_16 ?_
    refine v_if_ne F 26 d_M_on_17 rfl (fun h17 => ?_) (fun h17 => ?_)
    · skip
      obtain ⟨eD, hD40⟩ := hK kx (by omega) h17
      refine v_aload_n F d_M_on_26 rfl 0 rfl ?_
      refine v_aload_n F d_M_on_27 rfl 0 rfl ?_
      refine v_getr (r := 80) F fk_M_64 G63 rfl d_M_on_28 ?_
      refine v_iload_n F d_M_on_31 rfl 1 rfl ?_
      refine v_ial F kx G80 rfl (by omega) d_M_on_32 ?_
      refine v_te (y := nI (DK kx)) eD ?_
      refine v_puti F fk_M_149 pk_M_deedMany G63 rfl d_M_on_33 ?_
      refine v_ns (fun σ4 eσ4 => ?_)
      refine v_iconst (v := 0) F d_M_on_36 ki_0 ?_
      refine v_istore_n (ls' := [(2, .int 0), (0, .ref (u.2.1 63)), (1, .int (nI kx))]) F d_M_on_37 rfl (by decide) rfl ?_
      refine v_sub [1, 2, 0] (ls' := [(0, .ref (u.2.1 63)), (1, .int (nI kx)), (2, .int 0)]) rfl ?_
      have g5 : 0 = (nI 0) := (by first | rfl | (subst_vars; rfl) | (simp [cpF, cpF_other, uI_o, *]; done) | (simp_all [cpF, cpF_other, uI_o]; done) | grind [cpF, cpF_other, uI_o])
      refine v_to (ls' := [(0, .ref (u.2.1 63)), (1, .int (nI kx)), (2, .int (nI 0))]) (by first | rfl | rw [g5] | simp_all) ?_
      refine v_st (show σ4 = (cpF (uI σ 63 22 (nI (DK kx))) 76 0 (fun j => σ.1 81 (11 * kx + j)) 0) from (by first | rfl | (subst_vars; rfl) | (simp [cpF, cpF_other, uI_o, *]; done) | (simp_all [cpF, cpF_other, uI_o]; done) | grind [cpF, cpF_other, uI_o])) ?_
      refine L_M_on_38 hA F (by omega) (by assumption) ?_ _ 0 (Nat.zero_le _) (Nat.lt_succ_self _)
      refine v_iconst (v := 0) F d_M_on_67 ki_0 ?_
      refine v_istore_n (ls' := [(2, .int 0), (0, .ref (u.2.1 63)), (1, .int (nI kx))]) F d_M_on_68 rfl (by decide) rfl ?_
      refine v_sub [1, 2, 0] (ls' := [(0, .ref (u.2.1 63)), (1, .int (nI kx)), (2, .int 0)]) rfl ?_
      have g6 : 0 = (nI 0) := (by first | rfl | (subst_vars; rfl) | (simp [cpF, cpF_other, uI_o, *]; done) | (simp_all [cpF, cpF_other, uI_o]; done) | grind [cpF, cpF_other, uI_o])
      refine v_to (ls' := [(0, .ref (u.2.1 63)), (1, .int (nI kx)), (2, .int (nI 0))]) (by first | rfl | rw [g6] | simp_all) ?_
      refine v_st (show (cpF (uI σ 63 22 (nI (DK kx))) 76 0 (fun j => σ.1 81 (11 * kx + j)) 11) = (cpF (cpF (uI σ 63 22 (nI (DK kx))) 76 0 (fun j => σ.1 81 (11 * kx + j)) 11) 78 0 (fun j => σ.1 82 (440 * kx + j)) 0) from (by first | rfl | (subst_vars; rfl) | (simp [cpF, cpF_other, uI_o, *]; done) | (simp_all [cpF, cpF_other, uI_o]; done) | grind [cpF, cpF_other, uI_o])) ?_
      refine L_M_on_69 hA F (by omega) (by assumption) ?_ _ 0 (Nat.zero_le _) (Nat.lt_succ_self _)
      refine v_aload_n F d_M_on_104 rfl 0 rfl ?_
      refine v_geti F fk_M_149 G63 rfl d_M_on_105 ?_
      refine v_te (y := nI (DK kx)) (by subst_vars; (repeat (first | rw [cpF_other _ _ _ _ (by decide)] | rw [uI_o _ _ _ _ (by decide)])); first | rw [uI_s]) ?_
      refine v_iret F hr rfl d_M_on_108 ?_
      unfold mOn
      first | (rw [if_pos (by assumption)]; done) | (rw [if_neg (fun q => q (by assumption)), xk, if_pos (by assumption)]; subst_vars; rfl) | (rw [if_neg (fun q => q (by assumption)), xk, if_neg (by assumption)]; rfl)
    · skip
      refine v_aload_n F d_M_on_20 rfl 0 rfl ?_
      refine v_iconst (v := 1) F d_M_on_21 ki_1 ?_
      refine v_runi (r_V F (c_M_meets X.2.1 u hA σ 1 (by decide)) mo_M_meets st_M_103 rc_63 (by decide) rfl (Nat.le_of_ble_eq_true rfl) d_M_on_22) (fun r7 σ8 q9 => ?_)
      obtain ⟨rfl, eσ8⟩ := q9
      refine v_iret F hr rfl d_M_on_25 ?_
      unfold mOn
      first | (rw [if_pos (by assumption)]; done) | (rw [if_neg (fun q => q (by assumption)), xk, if_pos (by assumption)]; subst_vars; rfl) | (rw [if_neg (fun q => q (by assumption)), xk, if_neg (by assumption)]; rfl)
  · skip
    refine v_iconst (v := (-1)) F d_M_on_9 ki_m1 ?_
    refine v_iret F hr rfl d_M_on_10 ?_
    unfold mOn
    first | (rw [if_pos (by assumption)]; done) | (rw [if_neg (fun q => q (by assumption)), xk, if_pos (by assumption)]; subst_vars; rfl) | (rw [if_neg (fun q => q (by assumption)), xk, if_neg (by assumption)]; rfl)
abbrev b_M_need : ByteArray := prog_14_method_58_code
abbrev y_M_need : MethodName := ⟨"TakerBookModel", "need", "(Z)I"⟩
theorem d_M_need_0 : decode b_M_need 0 = .ok (.iload_n 1, 1) := by decide +kernel
theorem d_M_need_1 : decode b_M_need 1 = .ok (.ifCond .ne 7, 3) := by decide +kernel
theorem d_M_need_4 : decode b_M_need 4 = .ok (.iconst (-1), 1) := by decide +kernel
theorem d_M_need_5 : decode b_M_need 5 = .ok (.goto 16, 3) := by decide +kernel
theorem d_M_need_8 : decode b_M_need 8 = .ok (.aload_n 0, 1) := by decide +kernel
theorem d_M_need_9 : decode b_M_need 9 = .ok (.getfield 146, 3) := by decide +kernel
theorem d_M_need_12 : decode b_M_need 12 = .ok (.ifCond .ne 8, 3) := by decide +kernel
theorem d_M_need_15 : decode b_M_need 15 = .ok (.bipush (-4), 2) := by decide +kernel
theorem d_M_need_17 : decode b_M_need 17 = .ok (.goto 4, 3) := by decide +kernel
theorem d_M_need_20 : decode b_M_need 20 = .ok (.iconst 0, 1) := by decide +kernel
theorem d_M_need_21 : decode b_M_need 21 = .ok (.ireturn, 1) := by decide +kernel
theorem mo_M_need : mok y_M_need b_M_need 2 (some .int) 1 := ⟨List.mem_of_getElem? (i := 1345) (by decide +kernel), ⟨by decide +kernel, by decide +kernel, by decide +kernel⟩, List.mem_of_getElem? (i := 86) (by decide +kernel), by decide⟩
set_option maxHeartbeats 4000000 in
theorem c_M_need (l : Launch) (u : Un) (hA : Ap u) (σ : St) {n : Nat} {kd : Nat → Nat} (hb : mkOk σ n kd) (p : Prop) [Decidable p] : MTi l u y_M_need b_M_need 2 .int 0 [.ref (u.2.1 63), .int (bI (p))] σ (fun ans σ' => (¬ p ∧ -1 = ans ∧ σ = σ') ∨ (p ∧ n = 0 ∧ -4 = ans ∧ σ = σ') ∨ (p ∧ ¬ n = 0 ∧ 0 = ans ∧ σ = σ')) := by
  refine MT_of hA rfl (by decide) (Nat.le_of_ble_eq_true rfl) (fun X hl F hr => ?_)
  subst hl
  refine v_to (ls' := [(0, .ref (u.2.1 63)), (1, .int (bI (p)))]) rfl ?_
  obtain ⟨hn, hn6, hkd, hk6⟩ := id hb
  refine v_iload_n F d_M_need_0 rfl 1 rfl ?_
  refine v_bf F 8 d_M_need_1 rfl (fun h1 => ?_) (fun h1 => ?_)
  · skip
    refine v_aload_n F d_M_need_8 rfl 0 rfl ?_
    refine v_geti F fk_M_146 G63 rfl d_M_need_9 ?_
    refine v_te (y := nI n) hn ?_
    refine v_if_ne F 20 d_M_need_12 rfl (fun h12 => ?_) (fun h12 => ?_)
    · skip
      have h12 : ¬ n = 0 := fun q => h12 ((nI_eq (a := n) (b := 0) (by omega) (by omega)).mpr q)
      refine v_iconst (v := 0) F d_M_need_20 ki_0 ?_
      refine v_iret F hr rfl d_M_need_21 ?_
      first | exact Or.inl ⟨by assumption, rfl, rfl⟩ | exact Or.inr (Or.inl ⟨by assumption, by assumption, rfl, rfl⟩) | exact Or.inr (Or.inr ⟨by assumption, by assumption, rfl, rfl⟩)
    · skip
      have h12 : n = 0 := (nI_eq (a := n) (b := 0) (by omega) (by omega)).mp h12
      refine v_bipush (v := (-4)) F d_M_need_15 kb_m4 ?_
      refine v_goto F 21 d_M_need_17 rfl ?_
      refine v_iret F hr rfl d_M_need_21 ?_
      first | exact Or.inl ⟨by assumption, rfl, rfl⟩ | exact Or.inr (Or.inl ⟨by assumption, by assumption, rfl, rfl⟩) | exact Or.inr (Or.inr ⟨by assumption, by assumption, rfl, rfl⟩)
  · skip
    refine v_iconst (v := (-1)) F d_M_need_4 ki_m1 ?_
    refine v_goto F 21 d_M_need_5 rfl ?_
    refine v_iret F hr rfl d_M_need_21 ?_
    first | exact Or.inl ⟨by assumption, rfl, rfl⟩ | exact Or.inr (Or.inl ⟨by assumption, by assumption, rfl, rfl⟩) | exact Or.inr (Or.inr ⟨by assumption, by assumption, rfl, rfl⟩)
abbrev b_M_speak : ByteArray := prog_14_method_59_code
abbrev y_M_speak : MethodName := ⟨"TakerBookModel", "speak", "()I"⟩
theorem d_M_speak_0 : decode b_M_speak 0 = .ok (.aload_n 0, 1) := by decide +kernel
theorem d_M_speak_1 : decode b_M_speak 1 = .ok (.getfield 146, 3) := by decide +kernel
theorem d_M_speak_4 : decode b_M_speak 4 = .ok (.ifCond .ne 6, 3) := by decide +kernel
theorem d_M_speak_7 : decode b_M_speak 7 = .ok (.bipush (-4), 2) := by decide +kernel
theorem d_M_speak_9 : decode b_M_speak 9 = .ok (.ireturn, 1) := by decide +kernel
theorem d_M_speak_10 : decode b_M_speak 10 = .ok (.aload_n 0, 1) := by decide +kernel
theorem d_M_speak_11 : decode b_M_speak 11 = .ok (.aload_n 0, 1) := by decide +kernel
theorem d_M_speak_12 : decode b_M_speak 12 = .ok (.aload_n 0, 1) := by decide +kernel
theorem d_M_speak_13 : decode b_M_speak 13 = .ok (.getfield 51, 3) := by decide +kernel
theorem d_M_speak_16 : decode b_M_speak 16 = .ok (.invokevirtual 181, 3) := by decide +kernel
theorem d_M_speak_19 : decode b_M_speak 19 = .ok (.ifCond .eq 7, 3) := by decide +kernel
theorem d_M_speak_22 : decode b_M_speak 22 = .ok (.iconst 1, 1) := by decide +kernel
theorem d_M_speak_23 : decode b_M_speak 23 = .ok (.goto 4, 3) := by decide +kernel
theorem d_M_speak_26 : decode b_M_speak 26 = .ok (.iconst 0, 1) := by decide +kernel
theorem d_M_speak_27 : decode b_M_speak 27 = .ok (.aload_n 0, 1) := by decide +kernel
theorem d_M_speak_28 : decode b_M_speak 28 = .ok (.aload_n 0, 1) := by decide +kernel
theorem d_M_speak_29 : decode b_M_speak 29 = .ok (.getfield 51, 3) := by decide +kernel
theorem d_M_speak_32 : decode b_M_speak 32 = .ok (.invokevirtual 171, 3) := by decide +kernel
theorem d_M_speak_35 : decode b_M_speak 35 = .ok (.invokevirtual 111, 3) := by decide +kernel
theorem d_M_speak_38 : decode b_M_speak 38 = .ok (.ireturn, 1) := by decide +kernel
theorem mo_M_speak : mok y_M_speak b_M_speak 1 (some .int) 0 := ⟨List.mem_of_getElem? (i := 1312) (by decide +kernel), ⟨by decide +kernel, by decide +kernel, by decide +kernel⟩, List.mem_of_getElem? (i := 86) (by decide +kernel), by decide⟩
set_option maxHeartbeats 4000000 in
theorem c_M_speak (l : Launch) (u : Un) (hA : Ap u) (σ : St) {n : Nat} {kd : Nat → Nat} (hb : mkOk σ n kd) {a : Nat} (ha : a < 64) (h0 : σ.1 76 0 = nI a) : MTi l u y_M_speak b_M_speak 1 .int 5 [.ref (u.2.1 63)] σ (fun ans σ' => (ans, σ') = mSpeak σ kd n a) := by
  refine MT_of hA rfl (by decide) (Nat.le_of_ble_eq_true rfl) (fun X hl F hr => ?_)
  subst hl
  refine v_to (ls' := [(0, .ref (u.2.1 63))]) rfl ?_
  obtain ⟨hn, hn6, hkd, hk6⟩ := id hb
  refine v_aload_n F d_M_speak_0 rfl 0 rfl ?_
  refine v_geti F fk_M_146 G63 rfl d_M_speak_1 ?_
  refine v_te (y := nI n) hn ?_
  refine v_if_ne F 10 d_M_speak_4 rfl (fun h4 => ?_) (fun h4 => ?_)
  · skip
    have h4 : ¬ n = 0 := fun q => h4 ((nI_eq (a := n) (b := 0) (by omega) (by omega)).mpr q)
    refine v_aload_n F d_M_speak_10 rfl 0 rfl ?_
    refine v_aload_n F d_M_speak_11 rfl 0 rfl ?_
    refine v_aload_n F d_M_speak_12 rfl 0 rfl ?_
    refine v_getr (r := 76) F fk_M_51 G63 rfl d_M_speak_13 ?_
    refine v_runi (r_V F (c_M_isTrial X.2.1 u hA σ hb (kO := 76) (Or.inl rfl) ha h0  ) mo_M_isTrial st_M_181 rc_63 (by decide) rfl (Nat.le_of_ble_eq_true rfl) d_M_speak_16) (fun r1 σ2 q3 => ?_)
    obtain ⟨rfl, rfl⟩ := q3
    refine v_bt F 26 d_M_speak_19 rfl (fun h19 => ?_) (fun h19 => ?_)
    · skip
      refine v_iconst (v := 0) F d_M_speak_26 ki_0 ?_
      refine v_aload_n F d_M_speak_27 rfl 0 rfl ?_
      refine v_aload_n F d_M_speak_28 rfl 0 rfl ?_
      refine v_getr (r := 76) F fk_M_51 G63 rfl d_M_speak_29 ?_
      refine v_runi (r_V F (c_M_speakers X.2.1 u hA σ hb (kO := 76) (Or.inl rfl) ha h0  ) mo_M_speakers st_M_171 rc_63 (by decide) rfl (Nat.le_of_ble_eq_true rfl) d_M_speak_32) (fun r4 σ5 q6 => ?_)
      obtain ⟨rfl, rfl⟩ := q6
      refine v_runi (r_V F (c_M_tells X.2.1 u hA σ 0 (nI (mkN (tkM σ 76 kd n a) n))) mo_M_tells st_M_111 rc_63 (by decide) rfl (Nat.le_of_ble_eq_true rfl) d_M_speak_35) (fun r7 σ8 q9 => ?_)
      obtain ⟨rfl, eσ8⟩ := q9
      refine v_iret F hr rfl d_M_speak_38 ?_
      unfold mSpeak
      first | (rw [if_pos (by assumption)]; done) | (rw [if_neg (by assumption), if_pos (by assumption)]; subst_vars; rfl) | (rw [if_neg (by assumption), if_neg (by assumption)]; subst_vars; rfl)
    · skip
      refine v_iconst (v := 1) F d_M_speak_22 ki_1 ?_
      refine v_goto F 27 d_M_speak_23 rfl ?_
      refine v_aload_n F d_M_speak_27 rfl 0 rfl ?_
      refine v_aload_n F d_M_speak_28 rfl 0 rfl ?_
      refine v_getr (r := 76) F fk_M_51 G63 rfl d_M_speak_29 ?_
      refine v_runi (r_V F (c_M_speakers X.2.1 u hA σ hb (kO := 76) (Or.inl rfl) ha h0  ) mo_M_speakers st_M_171 rc_63 (by decide) rfl (Nat.le_of_ble_eq_true rfl) d_M_speak_32) (fun r10 σ11 q12 => ?_)
      obtain ⟨rfl, rfl⟩ := q12
      refine v_runi (r_V F (c_M_tells X.2.1 u hA σ 1 (nI (mkN (tkM σ 76 kd n a) n))) mo_M_tells st_M_111 rc_63 (by decide) rfl (Nat.le_of_ble_eq_true rfl) d_M_speak_35) (fun r13 σ14 q15 => ?_)
      obtain ⟨rfl, eσ14⟩ := q15
      refine v_iret F hr rfl d_M_speak_38 ?_
      unfold mSpeak
      first | (rw [if_pos (by assumption)]; done) | (rw [if_neg (by assumption), if_pos (by assumption)]; subst_vars; rfl) | (rw [if_neg (by assumption), if_neg (by assumption)]; subst_vars; rfl)
  · skip
    have h4 : n = 0 := (nI_eq (a := n) (b := 0) (by omega) (by omega)).mp h4
    refine v_bipush (v := (-4)) F d_M_speak_7 kb_m4 ?_
    refine v_iret F hr rfl d_M_speak_9 ?_
    unfold mSpeak
    first | (rw [if_pos (by assumption)]; done) | (rw [if_neg (by assumption), if_pos (by assumption)]; subst_vars; rfl) | (rw [if_neg (by assumption), if_neg (by assumption)]; subst_vars; rfl)
