theorem fk_B_61 : fok "TakerBook$Band" 61 1 8 := ⟨(R_B, F_B, 19), rfl, by decide, List.mem_of_getElem? (i := 193) (by decide +kernel), rfl⟩
theorem fk_B_27 : fok "TakerBook$Band" 27 1 0 := ⟨(R_B, F_B, 19), rfl, by decide, List.mem_of_getElem? (i := 179) (by decide +kernel), rfl⟩
theorem G20 : Gam[20]? = some (.inr (.inl ((.object "TakerBook$Thief"), 6, fun j => 21 + j))) := rfl
theorem fk_B_77 : fok "TakerBook$Band" 77 1 13 := ⟨(R_B, F_B, 19), rfl, by decide, List.mem_of_getElem? (i := 204) (by decide +kernel), rfl⟩
theorem st_B_115 : siteS "TakerBook$Band" 115 ⟨"java/lang/Integer", "bitCount", "(I)I"⟩ := ⟨List.mem_of_getElem? (i := 555) (by decide +kernel), List.mem_of_getElem? (i := 556) (by decide +kernel)⟩
theorem fk_B_33 : fok "TakerBook$Band" 33 1 1 := ⟨(R_B, F_B, 19), rfl, by decide, List.mem_of_getElem? (i := 180) (by decide +kernel), rfl⟩
theorem G27 : Gam[27]? = some (.inl (.int, 6)) := rfl
theorem st_B_84 : siteV "TakerBook$Band" 84 ⟨"TakerBook$Band", "nature", "(I)LTakerBook$Thief;"⟩ := ⟨List.mem_of_getElem? (i := 502) (by decide +kernel), List.mem_of_getElem? (i := 503) (by decide +kernel), List.mem_of_getElem? (i := 504) (by decide +kernel)⟩
theorem fk_B_37 : fok "TakerBook$Band" 37 1 2 := ⟨(R_B, F_B, 19), rfl, by decide, List.mem_of_getElem? (i := 182) (by decide +kernel), rfl⟩
theorem G28 : Gam[28]? = some (.inl (.int, 6)) := rfl
theorem st_B_121 : siteV "TakerBook$Band" 121 ⟨"TakerBook$Band", "others", "(II)I"⟩ := ⟨List.mem_of_getElem? (i := 551) (by decide +kernel), List.mem_of_getElem? (i := 552) (by decide +kernel), List.mem_of_getElem? (i := 553) (by decide +kernel)⟩
theorem fk_B_65 : fok "TakerBook$Band" 65 1 9 := ⟨(R_B, F_B, 19), rfl, by decide, List.mem_of_getElem? (i := 197) (by decide +kernel), rfl⟩
theorem fk_B_46 : fok "TakerBook$Band" 46 1 5 := ⟨(R_B, F_B, 19), rfl, by decide, List.mem_of_getElem? (i := 186) (by decide +kernel), rfl⟩
theorem G31 : Gam[31]? = some (.inl (.int, 6)) := rfl
theorem fk_B_40 : fok "TakerBook$Band" 40 1 3 := ⟨(R_B, F_B, 19), rfl, by decide, List.mem_of_getElem? (i := 183) (by decide +kernel), rfl⟩
theorem G29 : Gam[29]? = some (.inl (.int, 6)) := rfl
theorem fk_B_71 : fok "TakerBook$Band" 71 1 11 := ⟨(R_B, F_B, 19), rfl, by decide, List.mem_of_getElem? (i := 201) (by decide +kernel), rfl⟩
theorem st_B_111 : siteN "TakerBook$Band" 111 ⟨"TakerBook", "isIn", "(II)Z"⟩ "TakerBook" := ⟨by decide +kernel, List.mem_of_getElem? (i := 608) (by decide +kernel)⟩
theorem st_B_135 : siteV "TakerBook$Band" 135 ⟨"TakerBook$Band", "lootOf", "(II)I"⟩ := ⟨List.mem_of_getElem? (i := 547) (by decide +kernel), List.mem_of_getElem? (i := 548) (by decide +kernel), List.mem_of_getElem? (i := 549) (by decide +kernel)⟩
theorem st_B_138 : siteV "TakerBook$Band" 138 ⟨"TakerBook$Band", "talkers", "(I)I"⟩ := ⟨List.mem_of_getElem? (i := 645) (by decide +kernel), List.mem_of_getElem? (i := 646) (by decide +kernel), List.mem_of_getElem? (i := 647) (by decide +kernel)⟩
theorem fk_B_74 : fok "TakerBook$Band" 74 1 12 := ⟨(R_B, F_B, 19), rfl, by decide, List.mem_of_getElem? (i := 203) (by decide +kernel), rfl⟩
set_option maxHeartbeats 4000000 in
theorem c_T_isIn2 (l : Launch) (u : Un) (hA : Ap u) (σ : St) (i z : Nat) (hi : i < 6) (hz : z < 64) : MTi l u y_T_isIn b_T_isIn 2 .boolean 0 [.int (nI i), .int (nI z)] σ (fun ans σ' => bI (Nat.testBit z i = true) = ans ∧ σ = σ') := by
  refine MT_of hA rfl (by decide) (Nat.le_of_ble_eq_true rfl) (fun X hl F hr => ?_)
  subst hl
  refine v_to (ls' := [(0, .int (nI i)), (1, .int (nI z))]) rfl ?_
  refine v_iload_n F d_T_isIn_0 rfl 1 rfl ?_
  refine v_iload_n F d_T_isIn_1 rfl 0 rfl ?_
  refine v_ishr F d_T_isIn_2 ?_
  refine v_iconst (v := 1) F d_T_isIn_3 ki_1 ?_
  refine v_iand F d_T_isIn_4 ?_
  refine v_iconst (v := 1) F d_T_isIn_5 ki_1 ?_
  refine v_icmp_ne F 13 d_T_isIn_6 rfl (fun h6 => ?_) (fun h6 => ?_)
  · skip
    refine v_iconst (v := 0) F d_T_isIn_13 ki_0 ?_
    refine v_iret F hr rfl d_T_isIn_14 ?_
    exact ⟨bI_f (fun q => h6 ((tb6 _ hz _ hi).mpr q)), rfl⟩
  · skip
    refine v_iconst (v := 1) F d_T_isIn_9 ki_1 ?_
    refine v_goto F 14 d_T_isIn_10 rfl ?_
    refine v_iret F hr rfl d_T_isIn_14 ?_
    exact ⟨bI_t ((tb6 _ hz _ hi).mp h6), rfl⟩
set_option maxHeartbeats 4000000 in
theorem c_M_has2 (l : Launch) (u : Un) (hA : Ap u) (σ : St) (i z : Nat) (hi : i < 6) (hz : z < 64) : MTi l u y_M_has b_M_has 2 .boolean 0 [.int (nI z), .int (nI i)] σ (fun ans σ' => bI (Nat.testBit z i = true) = ans ∧ σ = σ') := by
  refine MT_of hA rfl (by decide) (Nat.le_of_ble_eq_true rfl) (fun X hl F hr => ?_)
  subst hl
  refine v_to (ls' := [(0, .int (nI z)), (1, .int (nI i))]) rfl ?_
  refine v_iload_n F d_M_has_0 rfl 0 rfl ?_
  refine v_iload_n F d_M_has_1 rfl 1 rfl ?_
  refine v_ishr F d_M_has_2 ?_
  refine v_iconst (v := 1) F d_M_has_3 ki_1 ?_
  refine v_iand F d_M_has_4 ?_
  refine v_iconst (v := 1) F d_M_has_5 ki_1 ?_
  refine v_icmp_ne F 13 d_M_has_6 rfl (fun h6 => ?_) (fun h6 => ?_)
  · skip
    refine v_iconst (v := 0) F d_M_has_13 ki_0 ?_
    refine v_iret F hr rfl d_M_has_14 ?_
    exact ⟨bI_f (fun q => h6 ((tb6 _ hz _ hi).mpr q)), rfl⟩
  · skip
    refine v_iconst (v := 1) F d_M_has_9 ki_1 ?_
    refine v_goto F 14 d_M_has_10 rfl ?_
    refine v_iret F hr rfl d_M_has_14 ?_
    exact ⟨bI_t ((tb6 _ hz _ hi).mp h6), rfl⟩
abbrev b_B_has : ByteArray := prog_2_method_4_code
abbrev y_B_has : MethodName := ⟨"TakerBook$Band", "has", "(I)Z"⟩
theorem d_B_has_0 : decode b_B_has 0 = .ok (.iload_n 1, 1) := by decide +kernel
theorem d_B_has_1 : decode b_B_has 1 = .ok (.ifCond .lt 15, 3) := by decide +kernel
theorem d_B_has_4 : decode b_B_has 4 = .ok (.iload_n 1, 1) := by decide +kernel
theorem d_B_has_5 : decode b_B_has 5 = .ok (.aload_n 0, 1) := by decide +kernel
theorem d_B_has_6 : decode b_B_has 6 = .ok (.getfield 61, 3) := by decide +kernel
theorem d_B_has_9 : decode b_B_has 9 = .ok (.if_icmp .ge 7, 3) := by decide +kernel
theorem d_B_has_12 : decode b_B_has 12 = .ok (.iconst 1, 1) := by decide +kernel
theorem d_B_has_13 : decode b_B_has 13 = .ok (.goto 4, 3) := by decide +kernel
theorem d_B_has_16 : decode b_B_has 16 = .ok (.iconst 0, 1) := by decide +kernel
theorem d_B_has_17 : decode b_B_has 17 = .ok (.ireturn, 1) := by decide +kernel
theorem mo_B_has : mok y_B_has b_B_has 2 (some .boolean) 1 := ⟨List.mem_of_getElem? (i := 542) (by decide +kernel), ⟨by decide +kernel, by decide +kernel, by decide +kernel⟩, List.mem_of_getElem? (i := 76) (by decide +kernel), by decide⟩
set_option maxHeartbeats 4000000 in
theorem c_B_has (l : Launch) (u : Un) (hA : Ap u) (σ : St) (i : Int32) : MTi l u y_B_has b_B_has 2 .boolean 0 [.ref (u.2.1 19), .int i] σ (fun ans σ' => bI (0 ≤ i ∧ i < σ.1 19 8) = ans ∧ σ = σ') := by
  refine MT_of hA rfl (by decide) (Nat.le_of_ble_eq_true rfl) (fun X hl F hr => ?_)
  subst hl
  refine v_to (ls' := [(0, .ref (u.2.1 19)), (1, .int i)]) rfl ?_
  refine v_iload_n F d_B_has_0 rfl 1 rfl ?_
  refine v_if_lt F 16 d_B_has_1 rfl (fun h1 => ?_) (fun h1 => ?_)
  · skip
    refine v_iconst (v := 0) F d_B_has_16 ki_0 ?_
    refine v_iret F hr rfl d_B_has_17 ?_
    exact ⟨(bI_f (by first | (simp_all [inR]; done) | grind)), rfl⟩
  · skip
    refine v_iload_n F d_B_has_4 rfl 1 rfl ?_
    refine v_aload_n F d_B_has_5 rfl 0 rfl ?_
    refine v_geti F fk_B_61 G19 rfl d_B_has_6 ?_
    refine v_icmp_ge F 16 d_B_has_9 rfl (fun h9 => ?_) (fun h9 => ?_)
    · skip
      refine v_iconst (v := 0) F d_B_has_16 ki_0 ?_
      refine v_iret F hr rfl d_B_has_17 ?_
      exact ⟨(bI_f (by first | (simp_all [inR]; done) | grind)), rfl⟩
    · skip
      refine v_iconst (v := 1) F d_B_has_12 ki_1 ?_
      refine v_goto F 17 d_B_has_13 rfl ?_
      refine v_iret F hr rfl d_B_has_17 ?_
      exact ⟨(bI_t (by first | (simp_all [inR]; done) | grind)), rfl⟩
abbrev b_B_nature : ByteArray := prog_2_method_7_code
abbrev y_B_nature : MethodName := ⟨"TakerBook$Band", "nature", "(I)LTakerBook$Thief;"⟩
theorem d_B_nature_0 : decode b_B_nature 0 = .ok (.aload_n 0, 1) := by decide +kernel
theorem d_B_nature_1 : decode b_B_nature 1 = .ok (.getfield 27, 3) := by decide +kernel
theorem d_B_nature_4 : decode b_B_nature 4 = .ok (.iload_n 1, 1) := by decide +kernel
theorem d_B_nature_5 : decode b_B_nature 5 = .ok (.aaload, 1) := by decide +kernel
theorem d_B_nature_6 : decode b_B_nature 6 = .ok (.areturn, 1) := by decide +kernel
theorem mo_B_nature : mok y_B_nature b_B_nature 2 (some (.object "TakerBook$Thief")) 1 := ⟨List.mem_of_getElem? (i := 505) (by decide +kernel), ⟨by decide +kernel, by decide +kernel, by decide +kernel⟩, List.mem_of_getElem? (i := 76) (by decide +kernel), by decide⟩
set_option maxHeartbeats 4000000 in
theorem c_B_nature (l : Launch) (u : Un) (hA : Ap u) (σ : St) (k : Nat) (hk : k < 6) : MTr l u y_B_nature b_B_nature 2 (.object "TakerBook$Thief") 0 [.ref (u.2.1 19), .int (nI k)] σ (21 + k) := by
  refine MT_of hA rfl (by decide) (Nat.le_of_ble_eq_true rfl) (fun X hl F hr => ?_)
  subst hl
  refine v_to (ls' := [(0, .ref (u.2.1 19)), (1, .int (nI k))]) rfl ?_
  refine v_aload_n F d_B_nature_0 rfl 0 rfl ?_
  refine v_getr (r := 20) F fk_B_27 G19 rfl d_B_nature_1 ?_
  refine v_iload_n F d_B_nature_4 rfl 1 rfl ?_
  refine v_aal F k G20 rfl rfl (by omega) d_B_nature_5 ?_
  exact v_aret F hr d_B_nature_6
abbrev b_B_others : ByteArray := prog_2_method_8_code
abbrev y_B_others : MethodName := ⟨"TakerBook$Band", "others", "(II)I"⟩
theorem d_B_others_0 : decode b_B_others 0 = .ok (.iload_n 2, 1) := by decide +kernel
theorem d_B_others_1 : decode b_B_others 1 = .ok (.aload_n 0, 1) := by decide +kernel
theorem d_B_others_2 : decode b_B_others 2 = .ok (.getfield 77, 3) := by decide +kernel
theorem d_B_others_5 : decode b_B_others 5 = .ok (.iand, 1) := by decide +kernel
theorem d_B_others_6 : decode b_B_others 6 = .ok (.iconst 1, 1) := by decide +kernel
theorem d_B_others_7 : decode b_B_others 7 = .ok (.iload_n 1, 1) := by decide +kernel
theorem d_B_others_8 : decode b_B_others 8 = .ok (.ishl, 1) := by decide +kernel
theorem d_B_others_9 : decode b_B_others 9 = .ok (.iconst (-1), 1) := by decide +kernel
theorem d_B_others_10 : decode b_B_others 10 = .ok (.ixor, 1) := by decide +kernel
theorem d_B_others_11 : decode b_B_others 11 = .ok (.iand, 1) := by decide +kernel
theorem d_B_others_12 : decode b_B_others 12 = .ok (.invokestatic 115, 3) := by decide +kernel
theorem d_B_others_15 : decode b_B_others 15 = .ok (.ireturn, 1) := by decide +kernel
theorem mo_B_others : mok y_B_others b_B_others 3 (some .int) 2 := ⟨List.mem_of_getElem? (i := 554) (by decide +kernel), ⟨by decide +kernel, by decide +kernel, by decide +kernel⟩, List.mem_of_getElem? (i := 76) (by decide +kernel), by decide⟩
set_option maxHeartbeats 4000000 in
theorem c_B_others (l : Launch) (u : Un) (hA : Ap u) (σ : St) {n G : Nat} {kd : Nat → Nat} (hb : bkOk σ n G kd) (i a : Nat) (hi : i < 6) (ha : a < 64) : MTi l u y_B_others b_B_others 3 .int 1 [.ref (u.2.1 19), .int (nI i), .int (nI a)] σ (fun ans σ' => nI (othN a G i) = ans ∧ σ = σ') := by
  refine MT_of hA rfl (by decide) (Nat.le_of_ble_eq_true rfl) (fun X hl F hr => ?_)
  subst hl
  refine v_to (ls' := [(0, .ref (u.2.1 19)), (1, .int (nI i)), (2, .int (nI a))]) rfl ?_
  obtain ⟨hn, hn6, hG, hG64, hkd, hk6⟩ := id hb
  refine v_iload_n F d_B_others_0 rfl 2 rfl ?_
  refine v_aload_n F d_B_others_1 rfl 0 rfl ?_
  refine v_geti F fk_B_77 G19 rfl d_B_others_2 ?_
  refine v_te (y := nI G) hG ?_
  refine v_iand F d_B_others_5 ?_
  refine v_te (y := nI (a &&& G)) nI_and ?_
  refine v_iconst (v := 1) F d_B_others_6 ki_1 ?_
  refine v_iload_n F d_B_others_7 rfl 1 rfl ?_
  refine v_ishl F d_B_others_8 ?_
  refine v_iconst (v := (-1)) F d_B_others_9 ki_m1 ?_
  refine v_ixor F d_B_others_10 ?_
  refine v_iand F d_B_others_11 ?_
  refine v_te (y := nI ((a &&& G) &&& (63 ^^^ 2 ^ i))) (mask6 _ (and_lt ha) _ hi) ?_
  refine v_runi (r_S F (c_I_bitCount X.2.1 u hA σ ((a &&& G) &&& (63 ^^^ 2 ^ i)) (and_lt (and_lt ha))) mo_I_bitCount st_B_115 (by decide) rfl (Nat.le_of_ble_eq_true rfl) d_B_others_12) (fun r1 σ2 q3 => ?_)
  obtain ⟨rfl, rfl⟩ := q3
  refine v_iret F hr rfl d_B_others_15 ?_
  exact ⟨rfl, rfl⟩
abbrev b_B_lootOf : ByteArray := prog_2_method_9_code
abbrev y_B_lootOf : MethodName := ⟨"TakerBook$Band", "lootOf", "(II)I"⟩
theorem d_B_lootOf_0 : decode b_B_lootOf 0 = .ok (.aload_n 0, 1) := by decide +kernel
theorem d_B_lootOf_1 : decode b_B_lootOf 1 = .ok (.aload_n 0, 1) := by decide +kernel
theorem d_B_lootOf_2 : decode b_B_lootOf 2 = .ok (.getfield 33, 3) := by decide +kernel
theorem d_B_lootOf_5 : decode b_B_lootOf 5 = .ok (.iload_n 1, 1) := by decide +kernel
theorem d_B_lootOf_6 : decode b_B_lootOf 6 = .ok (.iaload, 1) := by decide +kernel
theorem d_B_lootOf_7 : decode b_B_lootOf 7 = .ok (.invokevirtual 84, 3) := by decide +kernel
theorem d_B_lootOf_10 : decode b_B_lootOf 10 = .ok (.aload_n 0, 1) := by decide +kernel
theorem d_B_lootOf_11 : decode b_B_lootOf 11 = .ok (.getfield 37, 3) := by decide +kernel
theorem d_B_lootOf_14 : decode b_B_lootOf 14 = .ok (.iload_n 1, 1) := by decide +kernel
theorem d_B_lootOf_15 : decode b_B_lootOf 15 = .ok (.iaload, 1) := by decide +kernel
theorem d_B_lootOf_16 : decode b_B_lootOf 16 = .ok (.aload_n 0, 1) := by decide +kernel
theorem d_B_lootOf_17 : decode b_B_lootOf 17 = .ok (.iload_n 1, 1) := by decide +kernel
theorem d_B_lootOf_18 : decode b_B_lootOf 18 = .ok (.iload_n 2, 1) := by decide +kernel
theorem d_B_lootOf_19 : decode b_B_lootOf 19 = .ok (.invokevirtual 121, 3) := by decide +kernel
theorem d_B_lootOf_22 : decode b_B_lootOf 22 = .ok (.invokevirtual 125, 3) := by decide +kernel
theorem d_B_lootOf_25 : decode b_B_lootOf 25 = .ok (.ireturn, 1) := by decide +kernel
theorem mo_B_lootOf : mok y_B_lootOf b_B_lootOf 3 (some .int) 2 := ⟨List.mem_of_getElem? (i := 550) (by decide +kernel), ⟨by decide +kernel, by decide +kernel, by decide +kernel⟩, List.mem_of_getElem? (i := 76) (by decide +kernel), by decide⟩
set_option maxHeartbeats 4000000 in
theorem c_B_lootOf (l : Launch) (u : Un) (hA : Ap u) (σ : St) {n G : Nat} {kd : Nat → Nat} (hb : bkOk σ n G kd) (i a : Nat) (hi : i < n) (ha : a < 64) : MTi l u y_B_lootOf b_B_lootOf 3 .int 5 [.ref (u.2.1 19), .int (nI i), .int (nI a)] σ (fun ans σ' => ltF kd (σ.1 28) G a i = ans ∧ σ = σ') := by
  refine MT_of hA rfl (by decide) (Nat.le_of_ble_eq_true rfl) (fun X hl F hr => ?_)
  subst hl
  refine v_to (ls' := [(0, .ref (u.2.1 19)), (1, .int (nI i)), (2, .int (nI a))]) rfl ?_
  obtain ⟨hn, hn6, hG, hG64, hkd, hk6⟩ := id hb
  refine v_aload_n F d_B_lootOf_0 rfl 0 rfl ?_
  refine v_aload_n F d_B_lootOf_1 rfl 0 rfl ?_
  refine v_getr (r := 27) F fk_B_33 G19 rfl d_B_lootOf_2 ?_
  refine v_iload_n F d_B_lootOf_5 rfl 1 rfl ?_
  refine v_ial F i G27 rfl (by omega) d_B_lootOf_6 ?_
  refine v_te (y := nI (kd i)) (hkd _ (by omega)) ?_
  refine v_runr (r_V F (c_B_nature X.2.1 u hA σ (kd i) (hk6 _ (by omega))) mo_B_nature st_B_84 rc_19 (by decide) rfl (Nat.le_of_ble_eq_true rfl) d_B_lootOf_7) ?_
  refine v_aload_n F d_B_lootOf_10 rfl 0 rfl ?_
  refine v_getr (r := 28) F fk_B_37 G19 rfl d_B_lootOf_11 ?_
  refine v_iload_n F d_B_lootOf_14 rfl 1 rfl ?_
  refine v_ial F i G28 rfl (by omega) d_B_lootOf_15 ?_
  refine v_aload_n F d_B_lootOf_16 rfl 0 rfl ?_
  refine v_iload_n F d_B_lootOf_17 rfl 1 rfl ?_
  refine v_iload_n F d_B_lootOf_18 rfl 2 rfl ?_
  refine v_runi (r_V F (c_B_others X.2.1 u hA σ hb i a (by omega) (by omega)) mo_B_others st_B_121 rc_19 (by decide) rfl (Nat.le_of_ble_eq_true rfl) d_B_lootOf_19) (fun r1 σ2 q3 => ?_)
  obtain ⟨rfl, rfl⟩ := q3
  refine vs_B_125 hA F (k := kd i) (hk6 _ (by omega)) (by decide) (Nat.le_of_ble_eq_true rfl) d_B_lootOf_22 ?_
  refine v_iret F hr rfl d_B_lootOf_25 ?_
  exact ⟨rfl, rfl⟩
abbrev b_B_priceOf : ByteArray := prog_2_method_10_code
abbrev y_B_priceOf : MethodName := ⟨"TakerBook$Band", "priceOf", "(I)I"⟩
theorem d_B_priceOf_0 : decode b_B_priceOf 0 = .ok (.aload_n 0, 1) := by decide +kernel
theorem d_B_priceOf_1 : decode b_B_priceOf 1 = .ok (.aload_n 0, 1) := by decide +kernel
theorem d_B_priceOf_2 : decode b_B_priceOf 2 = .ok (.getfield 33, 3) := by decide +kernel
theorem d_B_priceOf_5 : decode b_B_priceOf 5 = .ok (.iload_n 1, 1) := by decide +kernel
theorem d_B_priceOf_6 : decode b_B_priceOf 6 = .ok (.iaload, 1) := by decide +kernel
theorem d_B_priceOf_7 : decode b_B_priceOf 7 = .ok (.invokevirtual 84, 3) := by decide +kernel
theorem d_B_priceOf_10 : decode b_B_priceOf 10 = .ok (.aload_n 0, 1) := by decide +kernel
theorem d_B_priceOf_11 : decode b_B_priceOf 11 = .ok (.getfield 65, 3) := by decide +kernel
theorem d_B_priceOf_14 : decode b_B_priceOf 14 = .ok (.aload_n 0, 1) := by decide +kernel
theorem d_B_priceOf_15 : decode b_B_priceOf 15 = .ok (.getfield 46, 3) := by decide +kernel
theorem d_B_priceOf_18 : decode b_B_priceOf 18 = .ok (.iload_n 1, 1) := by decide +kernel
theorem d_B_priceOf_19 : decode b_B_priceOf 19 = .ok (.iaload, 1) := by decide +kernel
theorem d_B_priceOf_20 : decode b_B_priceOf 20 = .ok (.invokevirtual 128, 3) := by decide +kernel
theorem d_B_priceOf_23 : decode b_B_priceOf 23 = .ok (.ireturn, 1) := by decide +kernel
theorem mo_B_priceOf : mok y_B_priceOf b_B_priceOf 2 (some .int) 1 := ⟨List.mem_of_getElem? (i := 613) (by decide +kernel), ⟨by decide +kernel, by decide +kernel, by decide +kernel⟩, List.mem_of_getElem? (i := 76) (by decide +kernel), by decide⟩
set_option maxHeartbeats 4000000 in
theorem c_B_priceOf (l : Launch) (u : Un) (hA : Ap u) (σ : St) {n G : Nat} {kd : Nat → Nat} (hb : bkOk σ n G kd) (i : Nat) (hi : i < n) : MTi l u y_B_priceOf b_B_priceOf 2 .int 4 [.ref (u.2.1 19), .int (nI i)] σ (fun ans σ' => priceS (kd i) (σ.1 19 9) (σ.1 31 i) = ans ∧ σ = σ') := by
  refine MT_of hA rfl (by decide) (Nat.le_of_ble_eq_true rfl) (fun X hl F hr => ?_)
  subst hl
  refine v_to (ls' := [(0, .ref (u.2.1 19)), (1, .int (nI i))]) rfl ?_
  obtain ⟨hn, hn6, hG, hG64, hkd, hk6⟩ := id hb
  refine v_aload_n F d_B_priceOf_0 rfl 0 rfl ?_
  refine v_aload_n F d_B_priceOf_1 rfl 0 rfl ?_
  refine v_getr (r := 27) F fk_B_33 G19 rfl d_B_priceOf_2 ?_
  refine v_iload_n F d_B_priceOf_5 rfl 1 rfl ?_
  refine v_ial F i G27 rfl (by omega) d_B_priceOf_6 ?_
  refine v_te (y := nI (kd i)) (hkd _ (by omega)) ?_
  refine v_runr (r_V F (c_B_nature X.2.1 u hA σ (kd i) (hk6 _ (by omega))) mo_B_nature st_B_84 rc_19 (by decide) rfl (Nat.le_of_ble_eq_true rfl) d_B_priceOf_7) ?_
  refine v_aload_n F d_B_priceOf_10 rfl 0 rfl ?_
  refine v_geti F fk_B_65 G19 rfl d_B_priceOf_11 ?_
  refine v_aload_n F d_B_priceOf_14 rfl 0 rfl ?_
  refine v_getr (r := 31) F fk_B_46 G19 rfl d_B_priceOf_15 ?_
  refine v_iload_n F d_B_priceOf_18 rfl 1 rfl ?_
  refine v_ial F i G31 rfl (by omega) d_B_priceOf_19 ?_
  refine vs_B_128 hA F (k := kd i) (hk6 _ (by omega)) (by decide) (Nat.le_of_ble_eq_true rfl) d_B_priceOf_20 ?_
  refine v_iret F hr rfl d_B_priceOf_23 ?_
  exact ⟨rfl, rfl⟩
abbrev b_B_talksWith : ByteArray := prog_2_method_11_code
abbrev y_B_talksWith : MethodName := ⟨"TakerBook$Band", "talksWith", "(III)Z"⟩
theorem d_B_talksWith_0 : decode b_B_talksWith 0 = .ok (.aload_n 0, 1) := by decide +kernel
theorem d_B_talksWith_1 : decode b_B_talksWith 1 = .ok (.aload_n 0, 1) := by decide +kernel
theorem d_B_talksWith_2 : decode b_B_talksWith 2 = .ok (.getfield 33, 3) := by decide +kernel
theorem d_B_talksWith_5 : decode b_B_talksWith 5 = .ok (.iload_n 1, 1) := by decide +kernel
theorem d_B_talksWith_6 : decode b_B_talksWith 6 = .ok (.iaload, 1) := by decide +kernel
theorem d_B_talksWith_7 : decode b_B_talksWith 7 = .ok (.invokevirtual 84, 3) := by decide +kernel
theorem d_B_talksWith_10 : decode b_B_talksWith 10 = .ok (.aload_n 0, 1) := by decide +kernel
theorem d_B_talksWith_11 : decode b_B_talksWith 11 = .ok (.getfield 40, 3) := by decide +kernel
theorem d_B_talksWith_14 : decode b_B_talksWith 14 = .ok (.iload_n 1, 1) := by decide +kernel
theorem d_B_talksWith_15 : decode b_B_talksWith 15 = .ok (.iaload, 1) := by decide +kernel
theorem d_B_talksWith_16 : decode b_B_talksWith 16 = .ok (.aload_n 0, 1) := by decide +kernel
theorem d_B_talksWith_17 : decode b_B_talksWith 17 = .ok (.getfield 71, 3) := by decide +kernel
theorem d_B_talksWith_20 : decode b_B_talksWith 20 = .ok (.iload_n 2, 1) := by decide +kernel
theorem d_B_talksWith_21 : decode b_B_talksWith 21 = .ok (.aload_n 0, 1) := by decide +kernel
theorem d_B_talksWith_22 : decode b_B_talksWith 22 = .ok (.iload_n 1, 1) := by decide +kernel
theorem d_B_talksWith_23 : decode b_B_talksWith 23 = .ok (.iload_n 3, 1) := by decide +kernel
theorem d_B_talksWith_24 : decode b_B_talksWith 24 = .ok (.invokevirtual 121, 3) := by decide +kernel
theorem d_B_talksWith_27 : decode b_B_talksWith 27 = .ok (.invokevirtual 131, 3) := by decide +kernel
theorem d_B_talksWith_30 : decode b_B_talksWith 30 = .ok (.ireturn, 1) := by decide +kernel
theorem mo_B_talksWith : mok y_B_talksWith b_B_talksWith 4 (some .boolean) 3 := ⟨List.mem_of_getElem? (i := 583) (by decide +kernel), ⟨by decide +kernel, by decide +kernel, by decide +kernel⟩, List.mem_of_getElem? (i := 76) (by decide +kernel), by decide⟩
set_option maxHeartbeats 4000000 in
theorem c_B_talksWith (l : Launch) (u : Un) (hA : Ap u) (σ : St) {n G : Nat} {kd : Nat → Nat} (hb : bkOk σ n G kd) (i a : Nat) (c : Int32) (hi : i < n) (ha : a < 64) : MTi l u y_B_talksWith b_B_talksWith 4 .boolean 5 [.ref (u.2.1 19), .int (nI i), .int c, .int (nI a)] σ (fun ans σ' => bI (talkB (kd i) (σ.1 29 i) (σ.1 19 11) c (nI (othN a G i)) = true) = ans ∧ σ = σ') := by
  refine MT_of hA rfl (by decide) (Nat.le_of_ble_eq_true rfl) (fun X hl F hr => ?_)
  subst hl
  refine v_to (ls' := [(0, .ref (u.2.1 19)), (1, .int (nI i)), (2, .int c), (3, .int (nI a))]) rfl ?_
  obtain ⟨hn, hn6, hG, hG64, hkd, hk6⟩ := id hb
  refine v_aload_n F d_B_talksWith_0 rfl 0 rfl ?_
  refine v_aload_n F d_B_talksWith_1 rfl 0 rfl ?_
  refine v_getr (r := 27) F fk_B_33 G19 rfl d_B_talksWith_2 ?_
  refine v_iload_n F d_B_talksWith_5 rfl 1 rfl ?_
  refine v_ial F i G27 rfl (by omega) d_B_talksWith_6 ?_
  refine v_te (y := nI (kd i)) (hkd _ (by omega)) ?_
  refine v_runr (r_V F (c_B_nature X.2.1 u hA σ (kd i) (hk6 _ (by omega))) mo_B_nature st_B_84 rc_19 (by decide) rfl (Nat.le_of_ble_eq_true rfl) d_B_talksWith_7) ?_
  refine v_aload_n F d_B_talksWith_10 rfl 0 rfl ?_
  refine v_getr (r := 29) F fk_B_40 G19 rfl d_B_talksWith_11 ?_
  refine v_iload_n F d_B_talksWith_14 rfl 1 rfl ?_
  refine v_ial F i G29 rfl (by omega) d_B_talksWith_15 ?_
  refine v_aload_n F d_B_talksWith_16 rfl 0 rfl ?_
  refine v_geti F fk_B_71 G19 rfl d_B_talksWith_17 ?_
  refine v_iload_n F d_B_talksWith_20 rfl 2 rfl ?_
  refine v_aload_n F d_B_talksWith_21 rfl 0 rfl ?_
  refine v_iload_n F d_B_talksWith_22 rfl 1 rfl ?_
  refine v_iload_n F d_B_talksWith_23 rfl 3 rfl ?_
  refine v_runi (r_V F (c_B_others X.2.1 u hA σ hb i a (by omega) (by omega)) mo_B_others st_B_121 rc_19 (by decide) rfl (Nat.le_of_ble_eq_true rfl) d_B_talksWith_24) (fun r1 σ2 q3 => ?_)
  obtain ⟨rfl, rfl⟩ := q3
  refine vs_B_131 hA F (k := kd i) (hk6 _ (by omega)) (by decide) (Nat.le_of_ble_eq_true rfl) d_B_talksWith_27 ?_
  refine v_iret F hr bI_nar d_B_talksWith_30 ?_
  exact ⟨rfl, rfl⟩
abbrev b_B_lootOfAll : ByteArray := prog_2_method_12_code
abbrev y_B_lootOfAll : MethodName := ⟨"TakerBook$Band", "lootOfAll", "(I)I"⟩
theorem d_B_lootOfAll_0 : decode b_B_lootOfAll 0 = .ok (.iconst 0, 1) := by decide +kernel
theorem d_B_lootOfAll_1 : decode b_B_lootOfAll 1 = .ok (.istore_n 2, 1) := by decide +kernel
theorem d_B_lootOfAll_2 : decode b_B_lootOfAll 2 = .ok (.iconst 0, 1) := by decide +kernel
theorem d_B_lootOfAll_3 : decode b_B_lootOfAll 3 = .ok (.istore_n 3, 1) := by decide +kernel
theorem d_B_lootOfAll_4 : decode b_B_lootOfAll 4 = .ok (.iload_n 3, 1) := by decide +kernel
theorem d_B_lootOfAll_5 : decode b_B_lootOfAll 5 = .ok (.aload_n 0, 1) := by decide +kernel
theorem d_B_lootOfAll_6 : decode b_B_lootOfAll 6 = .ok (.getfield 61, 3) := by decide +kernel
theorem d_B_lootOfAll_9 : decode b_B_lootOfAll 9 = .ok (.if_icmp .ge 30, 3) := by decide +kernel
theorem d_B_lootOfAll_12 : decode b_B_lootOfAll 12 = .ok (.iload_n 2, 1) := by decide +kernel
theorem d_B_lootOfAll_13 : decode b_B_lootOfAll 13 = .ok (.iload_n 3, 1) := by decide +kernel
theorem d_B_lootOfAll_14 : decode b_B_lootOfAll 14 = .ok (.iload_n 1, 1) := by decide +kernel
theorem d_B_lootOfAll_15 : decode b_B_lootOfAll 15 = .ok (.invokestatic 111, 3) := by decide +kernel
theorem d_B_lootOfAll_18 : decode b_B_lootOfAll 18 = .ok (.ifCond .eq 12, 3) := by decide +kernel
theorem d_B_lootOfAll_21 : decode b_B_lootOfAll 21 = .ok (.aload_n 0, 1) := by decide +kernel
theorem d_B_lootOfAll_22 : decode b_B_lootOfAll 22 = .ok (.iload_n 3, 1) := by decide +kernel
theorem d_B_lootOfAll_23 : decode b_B_lootOfAll 23 = .ok (.iload_n 1, 1) := by decide +kernel
theorem d_B_lootOfAll_24 : decode b_B_lootOfAll 24 = .ok (.invokevirtual 135, 3) := by decide +kernel
theorem d_B_lootOfAll_27 : decode b_B_lootOfAll 27 = .ok (.goto 4, 3) := by decide +kernel
theorem d_B_lootOfAll_30 : decode b_B_lootOfAll 30 = .ok (.iconst 0, 1) := by decide +kernel
theorem d_B_lootOfAll_31 : decode b_B_lootOfAll 31 = .ok (.iadd, 1) := by decide +kernel
theorem d_B_lootOfAll_32 : decode b_B_lootOfAll 32 = .ok (.istore_n 2, 1) := by decide +kernel
theorem d_B_lootOfAll_33 : decode b_B_lootOfAll 33 = .ok (.iinc 3 1, 3) := by decide +kernel
theorem d_B_lootOfAll_36 : decode b_B_lootOfAll 36 = .ok (.goto (-32), 3) := by decide +kernel
theorem d_B_lootOfAll_39 : decode b_B_lootOfAll 39 = .ok (.iload_n 2, 1) := by decide +kernel
theorem d_B_lootOfAll_40 : decode b_B_lootOfAll 40 = .ok (.ireturn, 1) := by decide +kernel
theorem mo_B_lootOfAll : mok y_B_lootOfAll b_B_lootOfAll 4 (some .int) 1 := ⟨List.mem_of_getElem? (i := 673) (by decide +kernel), ⟨by decide +kernel, by decide +kernel, by decide +kernel⟩, List.mem_of_getElem? (i := 76) (by decide +kernel), by decide⟩
set_option maxHeartbeats 4000000 in
theorem L_B_lootOfAll_4 {X : FX} {u : Un} (hA : Ap u) {Q : State → Prop} (F : Fr X u "TakerBook$Band" b_B_lootOfAll 4) {σ : St} {n G : Nat} {kd : Nat → Nat} (hb : bkOk σ n G kd) {a : Nat} (ha : a < 64) (k : V X u 6 4 Q 39 [(0, .ref (u.2.1 19)), (1, .int (nI a)), (2, .int (sumI (ltA kd (σ.1 28) G a) n)), (3, .int (nI n))] [] (σ)) : ∀ (nn i : Nat), i ≤ n → n - i < nn → V X u 6 4 Q 4 [(0, .ref (u.2.1 19)), (1, .int (nI a)), (2, .int (sumI (ltA kd (σ.1 28) G a) i)), (3, .int (nI i))] [] (σ) := by
  intro nn
  induction nn with
  | zero =>
    intro i h1 h2
    exact absurd h2 (Nat.not_lt_zero _)
  | succ nn ih =>
    intro i hii hnn
    obtain ⟨hn, hn6, hG, hG64, hkd, hk6⟩ := id hb
    refine v_iload_n F d_B_lootOfAll_4 rfl 3 rfl ?_
    refine v_aload_n F d_B_lootOfAll_5 rfl 0 rfl ?_
    refine v_geti F fk_B_61 G19 rfl d_B_lootOfAll_6 ?_
    refine v_te (y := nI n) hn ?_
    refine v_icmp_ge F 39 d_B_lootOfAll_9 rfl (fun h9 => ?_) (fun h9 => ?_)
    · skip
      have h9 : n ≤ i := (nI_leI (a := n) (b := i) (by omega) (by omega)).mp h9
      have he : i = n := by omega
      subst he
      exact k
    · skip
      have h9 : ¬ n ≤ i := fun q => h9 ((nI_leI (a := n) (b := i) (by omega) (by omega)).mpr q)
      refine v_iload_n F d_B_lootOfAll_12 rfl 2 rfl ?_
      refine v_iload_n F d_B_lootOfAll_13 rfl 3 rfl ?_
      refine v_iload_n F d_B_lootOfAll_14 rfl 1 rfl ?_
      refine v_runi (r_N F (c_T_isIn2 X.2.1 u hA σ i a (by omega) (by omega)) mo_T_isIn st_B_111 (by decide) rfl (Nat.le_of_ble_eq_true rfl) d_B_lootOfAll_15) (fun r1 σ2 q3 => ?_)
      obtain ⟨rfl, rfl⟩ := q3
      refine v_bt F 30 d_B_lootOfAll_18 rfl (fun h18 => ?_) (fun h18 => ?_)
      · skip
        refine v_iconst (v := 0) F d_B_lootOfAll_30 ki_0 ?_
        refine v_iadd F d_B_lootOfAll_31 ?_
        refine v_ni (fun x4 ex4 => ?_)
        refine v_istore_n (ls' := [(2, .int x4), (0, .ref (u.2.1 19)), (1, .int (nI a)), (3, .int (nI i))]) F d_B_lootOfAll_32 rfl (by decide) rfl ?_
        refine v_iinc (v := nI (i + 1)) (ls' := [(3, .int (nI (i + 1))), (2, .int x4), (0, .ref (u.2.1 19)), (1, .int (nI a))]) F d_B_lootOfAll_33 (j := 3) rfl (nI_inc _) (by decide) rfl ?_
        refine v_goto F 4 d_B_lootOfAll_36 rfl ?_
        refine v_sub [2, 3, 1, 0] (ls' := [(0, .ref (u.2.1 19)), (1, .int (nI a)), (2, .int x4), (3, .int (nI (i + 1)))]) rfl ?_
        have g5 : x4 = (sumI (ltA kd (σ.1 28) G a) (i + 1)) := (by first | rfl | (simp [sumI, ltA, *]; done) | (simp_all [sumI, ltA]; done) | grind [sumI, ltA])
        refine v_to (ls' := [(0, .ref (u.2.1 19)), (1, .int (nI a)), (2, .int (sumI (ltA kd (σ.1 28) G a) (i + 1))), (3, .int (nI (i + 1)))]) (by first | rfl | rw [g5] | simp_all) ?_
        exact ih (i + 1) (by omega) (by omega)
      · skip
        refine v_aload_n F d_B_lootOfAll_21 rfl 0 rfl ?_
        refine v_iload_n F d_B_lootOfAll_22 rfl 3 rfl ?_
        refine v_iload_n F d_B_lootOfAll_23 rfl 1 rfl ?_
        refine v_runi (r_V F (c_B_lootOf X.2.1 u hA σ hb i a (by omega) (by omega)) mo_B_lootOf st_B_135 rc_19 (by decide) rfl (Nat.le_of_ble_eq_true rfl) d_B_lootOfAll_24) (fun r6 σ7 q8 => ?_)
        obtain ⟨rfl, rfl⟩ := q8
        refine v_goto F 31 d_B_lootOfAll_27 rfl ?_
        refine v_iadd F d_B_lootOfAll_31 ?_
        refine v_ni (fun x9 ex9 => ?_)
        refine v_istore_n (ls' := [(2, .int x9), (0, .ref (u.2.1 19)), (1, .int (nI a)), (3, .int (nI i))]) F d_B_lootOfAll_32 rfl (by decide) rfl ?_
        refine v_iinc (v := nI (i + 1)) (ls' := [(3, .int (nI (i + 1))), (2, .int x9), (0, .ref (u.2.1 19)), (1, .int (nI a))]) F d_B_lootOfAll_33 (j := 3) rfl (nI_inc _) (by decide) rfl ?_
        refine v_goto F 4 d_B_lootOfAll_36 rfl ?_
        refine v_sub [2, 3, 1, 0] (ls' := [(0, .ref (u.2.1 19)), (1, .int (nI a)), (2, .int x9), (3, .int (nI (i + 1)))]) rfl ?_
        have g10 : x9 = (sumI (ltA kd (σ.1 28) G a) (i + 1)) := (by first | rfl | (simp [sumI, ltA, *]; done) | (simp_all [sumI, ltA]; done) | grind [sumI, ltA])
        refine v_to (ls' := [(0, .ref (u.2.1 19)), (1, .int (nI a)), (2, .int (sumI (ltA kd (σ.1 28) G a) (i + 1))), (3, .int (nI (i + 1)))]) (by first | rfl | rw [g10] | simp_all) ?_
        exact ih (i + 1) (by omega) (by omega)
set_option maxHeartbeats 4000000 in
theorem c_B_lootOfAll (l : Launch) (u : Un) (hA : Ap u) (σ : St) {n G : Nat} {kd : Nat → Nat} (hb : bkOk σ n G kd) (a : Nat) (ha : a < 64) : MTi l u y_B_lootOfAll b_B_lootOfAll 4 .int 6 [.ref (u.2.1 19), .int (nI a)] σ (fun ans σ' => sumI (ltA kd (σ.1 28) G a) n = ans ∧ σ = σ') := by
  refine MT_of hA rfl (by decide) (Nat.le_of_ble_eq_true rfl) (fun X hl F hr => ?_)
  subst hl
  refine v_to (ls' := [(0, .ref (u.2.1 19)), (1, .int (nI a))]) rfl ?_
  obtain ⟨hn, hn6, hG, hG64, hkd, hk6⟩ := id hb
  refine v_iconst (v := 0) F d_B_lootOfAll_0 ki_0 ?_
  refine v_istore_n (ls' := [(2, .int 0), (0, .ref (u.2.1 19)), (1, .int (nI a))]) F d_B_lootOfAll_1 rfl (by decide) rfl ?_
  refine v_iconst (v := 0) F d_B_lootOfAll_2 ki_0 ?_
  refine v_istore_n (ls' := [(3, .int 0), (2, .int 0), (0, .ref (u.2.1 19)), (1, .int (nI a))]) F d_B_lootOfAll_3 rfl (by decide) rfl ?_
  refine v_sub [2, 3, 1, 0] (ls' := [(0, .ref (u.2.1 19)), (1, .int (nI a)), (2, .int 0), (3, .int 0)]) rfl ?_
  have g1 : 0 = (sumI (ltA kd (σ.1 28) G a) 0) := (by first | rfl | (simp [sumI, ltA, *]; done) | (simp_all [sumI, ltA]; done) | grind [sumI, ltA])
  have g2 : 0 = (nI 0) := (by first | rfl | (simp [sumI, ltA, *]; done) | (simp_all [sumI, ltA]; done) | grind [sumI, ltA])
  refine v_to (ls' := [(0, .ref (u.2.1 19)), (1, .int (nI a)), (2, .int (sumI (ltA kd (σ.1 28) G a) 0)), (3, .int (nI 0))]) (by first | rfl | rw [g1, g2] | simp_all) ?_
  refine L_B_lootOfAll_4 hA F hb ha ?_ _ 0 (Nat.zero_le _) (Nat.lt_succ_self _)
  refine v_iload_n F d_B_lootOfAll_39 rfl 2 rfl ?_
  refine v_iret F hr rfl d_B_lootOfAll_40 ?_
  exact ⟨rfl, rfl⟩
abbrev b_B_talkers : ByteArray := prog_2_method_13_code
abbrev y_B_talkers : MethodName := ⟨"TakerBook$Band", "talkers", "(I)I"⟩
theorem d_B_talkers_0 : decode b_B_talkers 0 = .ok (.iconst 0, 1) := by decide +kernel
theorem d_B_talkers_1 : decode b_B_talkers 1 = .ok (.istore_n 2, 1) := by decide +kernel
theorem d_B_talkers_2 : decode b_B_talkers 2 = .ok (.iconst 0, 1) := by decide +kernel
theorem d_B_talkers_3 : decode b_B_talkers 3 = .ok (.istore_n 3, 1) := by decide +kernel
theorem d_B_talkers_4 : decode b_B_talkers 4 = .ok (.iload_n 3, 1) := by decide +kernel
theorem d_B_talkers_5 : decode b_B_talkers 5 = .ok (.aload_n 0, 1) := by decide +kernel
theorem d_B_talkers_6 : decode b_B_talkers 6 = .ok (.getfield 61, 3) := by decide +kernel
theorem d_B_talkers_9 : decode b_B_talkers 9 = .ok (.if_icmp .ge 61, 3) := by decide +kernel
theorem d_B_talkers_12 : decode b_B_talkers 12 = .ok (.iload_n 3, 1) := by decide +kernel
theorem d_B_talkers_13 : decode b_B_talkers 13 = .ok (.iload_n 1, 1) := by decide +kernel
theorem d_B_talkers_14 : decode b_B_talkers 14 = .ok (.invokestatic 111, 3) := by decide +kernel
theorem d_B_talkers_17 : decode b_B_talkers 17 = .ok (.ifCond .eq 47, 3) := by decide +kernel
theorem d_B_talkers_20 : decode b_B_talkers 20 = .ok (.aload_n 0, 1) := by decide +kernel
theorem d_B_talkers_21 : decode b_B_talkers 21 = .ok (.aload_n 0, 1) := by decide +kernel
theorem d_B_talkers_22 : decode b_B_talkers 22 = .ok (.getfield 33, 3) := by decide +kernel
theorem d_B_talkers_25 : decode b_B_talkers 25 = .ok (.iload_n 3, 1) := by decide +kernel
theorem d_B_talkers_26 : decode b_B_talkers 26 = .ok (.iaload, 1) := by decide +kernel
theorem d_B_talkers_27 : decode b_B_talkers 27 = .ok (.invokevirtual 84, 3) := by decide +kernel
theorem d_B_talkers_30 : decode b_B_talkers 30 = .ok (.aload_n 0, 1) := by decide +kernel
theorem d_B_talkers_31 : decode b_B_talkers 31 = .ok (.getfield 40, 3) := by decide +kernel
theorem d_B_talkers_34 : decode b_B_talkers 34 = .ok (.iload_n 3, 1) := by decide +kernel
theorem d_B_talkers_35 : decode b_B_talkers 35 = .ok (.iaload, 1) := by decide +kernel
theorem d_B_talkers_36 : decode b_B_talkers 36 = .ok (.aload_n 0, 1) := by decide +kernel
theorem d_B_talkers_37 : decode b_B_talkers 37 = .ok (.getfield 71, 3) := by decide +kernel
theorem d_B_talkers_40 : decode b_B_talkers 40 = .ok (.aload_n 0, 1) := by decide +kernel
theorem d_B_talkers_41 : decode b_B_talkers 41 = .ok (.getfield 46, 3) := by decide +kernel
theorem d_B_talkers_44 : decode b_B_talkers 44 = .ok (.iload_n 3, 1) := by decide +kernel
theorem d_B_talkers_45 : decode b_B_talkers 45 = .ok (.iaload, 1) := by decide +kernel
theorem d_B_talkers_46 : decode b_B_talkers 46 = .ok (.aload_n 0, 1) := by decide +kernel
theorem d_B_talkers_47 : decode b_B_talkers 47 = .ok (.iload_n 3, 1) := by decide +kernel
theorem d_B_talkers_48 : decode b_B_talkers 48 = .ok (.iload_n 1, 1) := by decide +kernel
theorem d_B_talkers_49 : decode b_B_talkers 49 = .ok (.invokevirtual 121, 3) := by decide +kernel
theorem d_B_talkers_52 : decode b_B_talkers 52 = .ok (.invokevirtual 131, 3) := by decide +kernel
theorem d_B_talkers_55 : decode b_B_talkers 55 = .ok (.ifCond .eq 9, 3) := by decide +kernel
theorem d_B_talkers_58 : decode b_B_talkers 58 = .ok (.iload_n 2, 1) := by decide +kernel
theorem d_B_talkers_59 : decode b_B_talkers 59 = .ok (.iconst 1, 1) := by decide +kernel
theorem d_B_talkers_60 : decode b_B_talkers 60 = .ok (.iload_n 3, 1) := by decide +kernel
theorem d_B_talkers_61 : decode b_B_talkers 61 = .ok (.ishl, 1) := by decide +kernel
theorem d_B_talkers_62 : decode b_B_talkers 62 = .ok (.ior, 1) := by decide +kernel
theorem d_B_talkers_63 : decode b_B_talkers 63 = .ok (.istore_n 2, 1) := by decide +kernel
theorem d_B_talkers_64 : decode b_B_talkers 64 = .ok (.iinc 3 1, 3) := by decide +kernel
theorem d_B_talkers_67 : decode b_B_talkers 67 = .ok (.goto (-63), 3) := by decide +kernel
theorem d_B_talkers_70 : decode b_B_talkers 70 = .ok (.iload_n 2, 1) := by decide +kernel
theorem d_B_talkers_71 : decode b_B_talkers 71 = .ok (.ireturn, 1) := by decide +kernel
theorem mo_B_talkers : mok y_B_talkers b_B_talkers 4 (some .int) 1 := ⟨List.mem_of_getElem? (i := 648) (by decide +kernel), ⟨by decide +kernel, by decide +kernel, by decide +kernel⟩, List.mem_of_getElem? (i := 76) (by decide +kernel), by decide⟩
set_option maxHeartbeats 4000000 in
theorem L_B_talkers_4 {X : FX} {u : Un} (hA : Ap u) {Q : State → Prop} (F : Fr X u "TakerBook$Band" b_B_talkers 4) {σ : St} {n G : Nat} {kd : Nat → Nat} (hb : bkOk σ n G kd) {a : Nat} (ha : a < 64) (k : V X u 5 4 Q 70 [(0, .ref (u.2.1 19)), (1, .int (nI a)), (2, .int (nI (mkN (tkS σ G kd a) n))), (3, .int (nI n))] [] (σ)) : ∀ (nn i : Nat), i ≤ n → n - i < nn → V X u 5 4 Q 4 [(0, .ref (u.2.1 19)), (1, .int (nI a)), (2, .int (nI (mkN (tkS σ G kd a) i))), (3, .int (nI i))] [] (σ) := by
  intro nn
  induction nn with
  | zero =>
    intro i h1 h2
    exact absurd h2 (Nat.not_lt_zero _)
  | succ nn ih =>
    intro i hii hnn
    obtain ⟨hn, hn6, hG, hG64, hkd, hk6⟩ := id hb
    refine v_iload_n F d_B_talkers_4 rfl 3 rfl ?_
    refine v_aload_n F d_B_talkers_5 rfl 0 rfl ?_
    refine v_geti F fk_B_61 G19 rfl d_B_talkers_6 ?_
    refine v_te (y := nI n) hn ?_
    refine v_icmp_ge F 70 d_B_talkers_9 rfl (fun h9 => ?_) (fun h9 => ?_)
    · skip
      have h9 : n ≤ i := (nI_leI (a := n) (b := i) (by omega) (by omega)).mp h9
      have he : i = n := by omega
      subst he
      exact k
    · skip
      have h9 : ¬ n ≤ i := fun q => h9 ((nI_leI (a := n) (b := i) (by omega) (by omega)).mpr q)
      refine v_iload_n F d_B_talkers_12 rfl 3 rfl ?_
      refine v_iload_n F d_B_talkers_13 rfl 1 rfl ?_
      refine v_runi (r_N F (c_T_isIn2 X.2.1 u hA σ i a (by omega) (by omega)) mo_T_isIn st_B_111 (by decide) rfl (Nat.le_of_ble_eq_true rfl) d_B_talkers_14) (fun r1 σ2 q3 => ?_)
      obtain ⟨rfl, rfl⟩ := q3
      refine v_bt F 64 d_B_talkers_17 rfl (fun h17 => ?_) (fun h17 => ?_)
      · skip
        refine v_iinc (v := nI (i + 1)) (ls' := [(3, .int (nI (i + 1))), (0, .ref (u.2.1 19)), (1, .int (nI a)), (2, .int (nI (mkN (tkS σ G kd a) i)))]) F d_B_talkers_64 (j := 3) rfl (nI_inc _) (by decide) rfl ?_
        refine v_goto F 4 d_B_talkers_67 rfl ?_
        refine v_sub [1, 2, 3, 0] (ls' := [(0, .ref (u.2.1 19)), (1, .int (nI a)), (2, .int (nI (mkN (tkS σ G kd a) i))), (3, .int (nI (i + 1)))]) rfl ?_
        have g4 : (nI (mkN (tkS σ G kd a) i)) = (nI (mkN (tkS σ G kd a) (i + 1))) := (by first | rfl | (simp [mkN, tkS, tkF, *]; done) | (simp_all [mkN, tkS, tkF]; done) | grind [mkN, tkS, tkF])
        refine v_to (ls' := [(0, .ref (u.2.1 19)), (1, .int (nI a)), (2, .int (nI (mkN (tkS σ G kd a) (i + 1)))), (3, .int (nI (i + 1)))]) (by first | rfl | rw [g4] | simp_all) ?_
        exact ih (i + 1) (by omega) (by omega)
      · skip
        refine v_aload_n F d_B_talkers_20 rfl 0 rfl ?_
        refine v_aload_n F d_B_talkers_21 rfl 0 rfl ?_
        refine v_getr (r := 27) F fk_B_33 G19 rfl d_B_talkers_22 ?_
        refine v_iload_n F d_B_talkers_25 rfl 3 rfl ?_
        refine v_ial F i G27 rfl (by omega) d_B_talkers_26 ?_
        refine v_te (y := nI (kd i)) (hkd _ (by omega)) ?_
        refine v_runr (r_V F (c_B_nature X.2.1 u hA σ (kd i) (hk6 _ (by omega))) mo_B_nature st_B_84 rc_19 (by decide) rfl (Nat.le_of_ble_eq_true rfl) d_B_talkers_27) ?_
        refine v_aload_n F d_B_talkers_30 rfl 0 rfl ?_
        refine v_getr (r := 29) F fk_B_40 G19 rfl d_B_talkers_31 ?_
        refine v_iload_n F d_B_talkers_34 rfl 3 rfl ?_
        refine v_ial F i G29 rfl (by omega) d_B_talkers_35 ?_
        refine v_aload_n F d_B_talkers_36 rfl 0 rfl ?_
        refine v_geti F fk_B_71 G19 rfl d_B_talkers_37 ?_
        refine v_aload_n F d_B_talkers_40 rfl 0 rfl ?_
        refine v_getr (r := 31) F fk_B_46 G19 rfl d_B_talkers_41 ?_
        refine v_iload_n F d_B_talkers_44 rfl 3 rfl ?_
        refine v_ial F i G31 rfl (by omega) d_B_talkers_45 ?_
        refine v_aload_n F d_B_talkers_46 rfl 0 rfl ?_
        refine v_iload_n F d_B_talkers_47 rfl 3 rfl ?_
        refine v_iload_n F d_B_talkers_48 rfl 1 rfl ?_
        refine v_runi (r_V F (c_B_others X.2.1 u hA σ hb i a (by omega) (by omega)) mo_B_others st_B_121 rc_19 (by decide) rfl (Nat.le_of_ble_eq_true rfl) d_B_talkers_49) (fun r5 σ6 q7 => ?_)
        obtain ⟨rfl, rfl⟩ := q7
        refine vs_B_131 hA F (k := kd i) (hk6 _ (by omega)) (by decide) (Nat.le_of_ble_eq_true rfl) d_B_talkers_52 ?_
        refine v_bt F 64 d_B_talkers_55 rfl (fun h55 => ?_) (fun h55 => ?_)
        · skip
          refine v_iinc (v := nI (i + 1)) (ls' := [(3, .int (nI (i + 1))), (0, .ref (u.2.1 19)), (1, .int (nI a)), (2, .int (nI (mkN (tkS σ G kd a) i)))]) F d_B_talkers_64 (j := 3) rfl (nI_inc _) (by decide) rfl ?_
          refine v_goto F 4 d_B_talkers_67 rfl ?_
          refine v_sub [1, 2, 3, 0] (ls' := [(0, .ref (u.2.1 19)), (1, .int (nI a)), (2, .int (nI (mkN (tkS σ G kd a) i))), (3, .int (nI (i + 1)))]) rfl ?_
          have g8 : (nI (mkN (tkS σ G kd a) i)) = (nI (mkN (tkS σ G kd a) (i + 1))) := (by first | rfl | (simp [mkN, tkS, tkF, *]; done) | (simp_all [mkN, tkS, tkF]; done) | grind [mkN, tkS, tkF])
          refine v_to (ls' := [(0, .ref (u.2.1 19)), (1, .int (nI a)), (2, .int (nI (mkN (tkS σ G kd a) (i + 1)))), (3, .int (nI (i + 1)))]) (by first | rfl | rw [g8] | simp_all) ?_
          exact ih (i + 1) (by omega) (by omega)
        · skip
          refine v_iload_n F d_B_talkers_58 rfl 2 rfl ?_
          refine v_iconst (v := 1) F d_B_talkers_59 ki_1 ?_
          refine v_iload_n F d_B_talkers_60 rfl 3 rfl ?_
          refine v_ishl F d_B_talkers_61 ?_
          refine v_te (y := nI (2 ^ i)) (bit6 _ (by omega)) ?_
          refine v_ior F d_B_talkers_62 ?_
          refine v_te (y := nI (mkN (tkS σ G kd a) i ||| 2 ^ i)) nI_or ?_
          refine v_ni (fun x9 ex9 => ?_)
          refine v_istore_n (ls' := [(2, .int x9), (0, .ref (u.2.1 19)), (1, .int (nI a)), (3, .int (nI i))]) F d_B_talkers_63 rfl (by decide) rfl ?_
          refine v_iinc (v := nI (i + 1)) (ls' := [(3, .int (nI (i + 1))), (2, .int x9), (0, .ref (u.2.1 19)), (1, .int (nI a))]) F d_B_talkers_64 (j := 3) rfl (nI_inc _) (by decide) rfl ?_
          refine v_goto F 4 d_B_talkers_67 rfl ?_
          refine v_sub [2, 3, 1, 0] (ls' := [(0, .ref (u.2.1 19)), (1, .int (nI a)), (2, .int x9), (3, .int (nI (i + 1)))]) rfl ?_
          have g10 : x9 = (nI (mkN (tkS σ G kd a) (i + 1))) := (by first | rfl | (simp [mkN, tkS, tkF, *]; done) | (simp_all [mkN, tkS, tkF]; done) | grind [mkN, tkS, tkF])
          refine v_to (ls' := [(0, .ref (u.2.1 19)), (1, .int (nI a)), (2, .int (nI (mkN (tkS σ G kd a) (i + 1)))), (3, .int (nI (i + 1)))]) (by first | rfl | rw [g10] | simp_all) ?_
          exact ih (i + 1) (by omega) (by omega)
set_option maxHeartbeats 4000000 in
theorem c_B_talkers (l : Launch) (u : Un) (hA : Ap u) (σ : St) {n G : Nat} {kd : Nat → Nat} (hb : bkOk σ n G kd) (a : Nat) (ha : a < 64) : MTi l u y_B_talkers b_B_talkers 4 .int 5 [.ref (u.2.1 19), .int (nI a)] σ (fun ans σ' => nI (mkN (tkS σ G kd a) n) = ans ∧ σ = σ') := by
  refine MT_of hA rfl (by decide) (Nat.le_of_ble_eq_true rfl) (fun X hl F hr => ?_)
  subst hl
  refine v_to (ls' := [(0, .ref (u.2.1 19)), (1, .int (nI a))]) rfl ?_
  obtain ⟨hn, hn6, hG, hG64, hkd, hk6⟩ := id hb
  refine v_iconst (v := 0) F d_B_talkers_0 ki_0 ?_
  refine v_istore_n (ls' := [(2, .int 0), (0, .ref (u.2.1 19)), (1, .int (nI a))]) F d_B_talkers_1 rfl (by decide) rfl ?_
  refine v_iconst (v := 0) F d_B_talkers_2 ki_0 ?_
  refine v_istore_n (ls' := [(3, .int 0), (2, .int 0), (0, .ref (u.2.1 19)), (1, .int (nI a))]) F d_B_talkers_3 rfl (by decide) rfl ?_
  refine v_sub [2, 3, 1, 0] (ls' := [(0, .ref (u.2.1 19)), (1, .int (nI a)), (2, .int 0), (3, .int 0)]) rfl ?_
  have g1 : 0 = (nI (mkN (tkS σ G kd a) 0)) := (by first | rfl | (simp [mkN, tkS, tkF, *]; done) | (simp_all [mkN, tkS, tkF]; done) | grind [mkN, tkS, tkF])
  have g2 : 0 = (nI 0) := (by first | rfl | (simp [mkN, tkS, tkF, *]; done) | (simp_all [mkN, tkS, tkF]; done) | grind [mkN, tkS, tkF])
  refine v_to (ls' := [(0, .ref (u.2.1 19)), (1, .int (nI a)), (2, .int (nI (mkN (tkS σ G kd a) 0))), (3, .int (nI 0))]) (by first | rfl | rw [g1, g2] | simp_all) ?_
  refine L_B_talkers_4 hA F hb ha ?_ _ 0 (Nat.zero_le _) (Nat.lt_succ_self _)
  refine v_iload_n F d_B_talkers_70 rfl 2 rfl ?_
  refine v_iret F hr rfl d_B_talkers_71 ?_
  exact ⟨rfl, rfl⟩
abbrev b_B_wouldBeTried : ByteArray := prog_2_method_14_code
abbrev y_B_wouldBeTried : MethodName := ⟨"TakerBook$Band", "wouldBeTried", "(I)Z"⟩
theorem d_B_wouldBeTried_0 : decode b_B_wouldBeTried 0 = .ok (.aload_n 0, 1) := by decide +kernel
theorem d_B_wouldBeTried_1 : decode b_B_wouldBeTried 1 = .ok (.iload_n 1, 1) := by decide +kernel
theorem d_B_wouldBeTried_2 : decode b_B_wouldBeTried 2 = .ok (.invokevirtual 138, 3) := by decide +kernel
theorem d_B_wouldBeTried_5 : decode b_B_wouldBeTried 5 = .ok (.invokestatic 115, 3) := by decide +kernel
theorem d_B_wouldBeTried_8 : decode b_B_wouldBeTried 8 = .ok (.aload_n 0, 1) := by decide +kernel
theorem d_B_wouldBeTried_9 : decode b_B_wouldBeTried 9 = .ok (.getfield 74, 3) := by decide +kernel
theorem d_B_wouldBeTried_12 : decode b_B_wouldBeTried 12 = .ok (.if_icmp .lt 7, 3) := by decide +kernel
theorem d_B_wouldBeTried_15 : decode b_B_wouldBeTried 15 = .ok (.iconst 1, 1) := by decide +kernel
theorem d_B_wouldBeTried_16 : decode b_B_wouldBeTried 16 = .ok (.goto 4, 3) := by decide +kernel
theorem d_B_wouldBeTried_19 : decode b_B_wouldBeTried 19 = .ok (.iconst 0, 1) := by decide +kernel
theorem d_B_wouldBeTried_20 : decode b_B_wouldBeTried 20 = .ok (.ireturn, 1) := by decide +kernel
theorem mo_B_wouldBeTried : mok y_B_wouldBeTried b_B_wouldBeTried 2 (some .boolean) 1 := ⟨List.mem_of_getElem? (i := 720) (by decide +kernel), ⟨by decide +kernel, by decide +kernel, by decide +kernel⟩, List.mem_of_getElem? (i := 76) (by decide +kernel), by decide⟩
set_option maxHeartbeats 4000000 in
theorem c_B_wouldBeTried (l : Launch) (u : Un) (hA : Ap u) (σ : St) {n G : Nat} {kd : Nat → Nat} (hb : bkOk σ n G kd) (a : Nat) (ha : a < 64) : MTi l u y_B_wouldBeTried b_B_wouldBeTried 2 .boolean 6 [.ref (u.2.1 19), .int (nI a)] σ (fun ans σ' => bI (σ.1 19 12 ≤ nI (pcN (mkN (tkS σ G kd a) n))) = ans ∧ σ = σ') := by
  refine MT_of hA rfl (by decide) (Nat.le_of_ble_eq_true rfl) (fun X hl F hr => ?_)
  subst hl
  refine v_to (ls' := [(0, .ref (u.2.1 19)), (1, .int (nI a))]) rfl ?_
  obtain ⟨hn, hn6, hG, hG64, hkd, hk6⟩ := id hb
  refine v_aload_n F d_B_wouldBeTried_0 rfl 0 rfl ?_
  refine v_iload_n F d_B_wouldBeTried_1 rfl 1 rfl ?_
  refine v_runi (r_V F (c_B_talkers X.2.1 u hA σ hb a (by omega)) mo_B_talkers st_B_138 rc_19 (by decide) rfl (Nat.le_of_ble_eq_true rfl) d_B_wouldBeTried_2) (fun r1 σ2 q3 => ?_)
  obtain ⟨rfl, rfl⟩ := q3
  refine v_runi (r_S F (c_I_bitCount X.2.1 u hA σ (mkN (tkS σ G kd a) n) (mkN_64 _ hn6)) mo_I_bitCount st_B_115 (by decide) rfl (Nat.le_of_ble_eq_true rfl) d_B_wouldBeTried_5) (fun r4 σ5 q6 => ?_)
  obtain ⟨rfl, rfl⟩ := q6
  refine v_aload_n F d_B_wouldBeTried_8 rfl 0 rfl ?_
  refine v_geti F fk_B_74 G19 rfl d_B_wouldBeTried_9 ?_
  refine v_icmp_lt F 19 d_B_wouldBeTried_12 rfl (fun h12 => ?_) (fun h12 => ?_)
  · skip
    refine v_iconst (v := 0) F d_B_wouldBeTried_19 ki_0 ?_
    refine v_iret F hr rfl d_B_wouldBeTried_20 ?_
    exact ⟨(bI_f (by first | (simp_all [inR]; done) | grind)), rfl⟩
  · skip
    refine v_iconst (v := 1) F d_B_wouldBeTried_15 ki_1 ?_
    refine v_goto F 20 d_B_wouldBeTried_16 rfl ?_
    refine v_iret F hr rfl d_B_wouldBeTried_20 ?_
    exact ⟨(bI_t (by first | (simp_all [inR]; done) | grind)), rfl⟩
