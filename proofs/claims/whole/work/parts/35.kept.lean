theorem st_T_287 : siteS "TakerBook" 287 ⟨"TakerBook", "isChance", "(I)Z"⟩ := ⟨List.mem_of_getElem? (i := 904) (by decide +kernel), List.mem_of_getElem? (i := 905) (by decide +kernel)⟩
theorem st_T_290 : siteV "TakerBook" 290 ⟨"TakerBook$Band", "untriedOfAll", "(I)J"⟩ := ⟨List.mem_of_getElem? (i := 907) (by decide +kernel), List.mem_of_getElem? (i := 908) (by decide +kernel), List.mem_of_getElem? (i := 909) (by decide +kernel)⟩
theorem st_T_294 : siteV "TakerBook" 294 ⟨"TakerBook$Band", "allOf", "()J"⟩ := ⟨List.mem_of_getElem? (i := 914) (by decide +kernel), List.mem_of_getElem? (i := 915) (by decide +kernel), List.mem_of_getElem? (i := 916) (by decide +kernel)⟩
theorem st_T_298 : siteV "TakerBook" 298 ⟨"TakerBook$Band", "lootOfAll", "(I)I"⟩ := ⟨List.mem_of_getElem? (i := 922) (by decide +kernel), List.mem_of_getElem? (i := 671) (by decide +kernel), List.mem_of_getElem? (i := 672) (by decide +kernel)⟩
theorem fk_T_61 : fok "TakerBook" 61 0 9 := ⟨(R_T, F_T, 15), rfl, by decide, List.mem_of_getElem? (i := 364) (by decide +kernel), rfl⟩
theorem G52 : Gam[52]? = some (.inr (.inl ((.object "TakerBook$Deeds"), 3, fun j => 53 + 3 * j))) := rfl
theorem fk_T_315 : fok "TakerBook" 315 1 15 := ⟨(R_B, F_B, 19), rfl, by decide, List.mem_of_getElem? (i := 211) (by decide +kernel), rfl⟩
theorem fk_T_318 : fok "TakerBook" 318 1 13 := ⟨(R_B, F_B, 19), rfl, by decide, List.mem_of_getElem? (i := 205) (by decide +kernel), rfl⟩
theorem st_T_321 : siteS "TakerBook" 321 ⟨"TakerBook", "present", "([II)I"⟩ := ⟨List.mem_of_getElem? (i := 951) (by decide +kernel), List.mem_of_getElem? (i := 952) (by decide +kernel)⟩
theorem st_T_325 : siteV "TakerBook" 325 ⟨"TakerBook", "keptBooks", "()I"⟩ := ⟨List.mem_of_getElem? (i := 954) (by decide +kernel), List.mem_of_getElem? (i := 956) (by decide +kernel), List.mem_of_getElem? (i := 27) (by decide +kernel)⟩
theorem st_T_173 : siteV "TakerBook" 173 ⟨"TakerBook", "replay", "()V"⟩ := ⟨List.mem_of_getElem? (i := 695) (by decide +kernel), List.mem_of_getElem? (i := 697) (by decide +kernel), List.mem_of_getElem? (i := 9) (by decide +kernel)⟩
theorem st_T_176 : siteV "TakerBook" 176 ⟨"TakerBook$Deeds", "become", "(LTakerBook$Deeds;)V"⟩ := ⟨List.mem_of_getElem? (i := 704) (by decide +kernel), List.mem_of_getElem? (i := 705) (by decide +kernel), List.mem_of_getElem? (i := 706) (by decide +kernel)⟩
abbrev b_T_odds : ByteArray := prog_1_method_36_code
abbrev y_T_odds : MethodName := ⟨"TakerBook", "odds", "(I)I"⟩
theorem d_T_odds_0 : decode b_T_odds 0 = .ok (.iload_n 1, 1) := by decide +kernel
theorem d_T_odds_1 : decode b_T_odds 1 = .ok (.invokestatic 287, 3) := by decide +kernel
theorem d_T_odds_4 : decode b_T_odds 4 = .ok (.ifCond .ne 5, 3) := by decide +kernel
theorem d_T_odds_7 : decode b_T_odds 7 = .ok (.iconst (-1), 1) := by decide +kernel
theorem d_T_odds_8 : decode b_T_odds 8 = .ok (.ireturn, 1) := by decide +kernel
theorem d_T_odds_9 : decode b_T_odds 9 = .ok (.aload_n 0, 1) := by decide +kernel
theorem d_T_odds_10 : decode b_T_odds 10 = .ok (.getfield 36, 3) := by decide +kernel
theorem d_T_odds_13 : decode b_T_odds 13 = .ok (.getfield 118, 3) := by decide +kernel
theorem d_T_odds_16 : decode b_T_odds 16 = .ok (.ifCond .ne 6, 3) := by decide +kernel
theorem d_T_odds_19 : decode b_T_odds 19 = .ok (.bipush (-4), 2) := by decide +kernel
theorem d_T_odds_21 : decode b_T_odds 21 = .ok (.ireturn, 1) := by decide +kernel
theorem d_T_odds_22 : decode b_T_odds 22 = .ok (.aload_n 0, 1) := by decide +kernel
theorem d_T_odds_23 : decode b_T_odds 23 = .ok (.aload_n 0, 1) := by decide +kernel
theorem d_T_odds_24 : decode b_T_odds 24 = .ok (.getfield 36, 3) := by decide +kernel
theorem d_T_odds_27 : decode b_T_odds 27 = .ok (.iload_n 1, 1) := by decide +kernel
theorem d_T_odds_28 : decode b_T_odds 28 = .ok (.invokevirtual 290, 3) := by decide +kernel
theorem d_T_odds_31 : decode b_T_odds 31 = .ok (.aload_n 0, 1) := by decide +kernel
theorem d_T_odds_32 : decode b_T_odds 32 = .ok (.getfield 36, 3) := by decide +kernel
theorem d_T_odds_35 : decode b_T_odds 35 = .ok (.invokevirtual 294, 3) := by decide +kernel
theorem d_T_odds_38 : decode b_T_odds 38 = .ok (.invokevirtual 233, 3) := by decide +kernel
theorem d_T_odds_41 : decode b_T_odds 41 = .ok (.iconst 1, 1) := by decide +kernel
theorem d_T_odds_42 : decode b_T_odds 42 = .ok (.ireturn, 1) := by decide +kernel
theorem mo_T_odds : mok y_T_odds b_T_odds 2 (some .int) 1 := ⟨List.mem_of_getElem? (i := 903) (by decide +kernel), ⟨by decide +kernel, by decide +kernel, by decide +kernel⟩, List.mem_of_getElem? (i := 74) (by decide +kernel), by decide⟩
set_option maxHeartbeats 4000000 in
theorem c_T_odds (l : Launch) (u : Un) (hA : Ap u) (σ : St) {n G : Nat} {kd : Nat → Nat} (hb : bkOk σ n G kd) {L : Nat} (hL : σ.1 19 14 = nI L) (hL64 : L < 64) (v : Int32) : MTi l u y_T_odds b_T_odds 2 .int 8 [.ref (u.2.1 0), .int v] σ (fun ans σ' => (ans, σ') = tOdds σ G kd n L v) := by
  refine MT_of hA rfl (by decide) (Nat.le_of_ble_eq_true rfl) (fun X hl F hr => ?_)
  subst hl
  refine v_to (ls' := [(0, .ref (u.2.1 0)), (1, .int v)]) rfl ?_
  obtain ⟨hn, hn6, hG, hG64, hkd, hk6⟩ := id hb
  refine v_iload_n F d_T_odds_0 rfl 1 rfl ?_
  refine v_runi (r_S F (c_T_isChance X.2.1 u hA σ v ) mo_T_isChance st_T_287 (by decide) rfl (Nat.le_of_ble_eq_true rfl) d_T_odds_1) (fun r1 σ2 q3 => ?_)
  obtain ⟨rfl, rfl⟩ := q3
  refine v_bf F 9 d_T_odds_4 rfl (fun h4 => ?_) (fun h4 => ?_)
  · skip
    obtain ⟨p, hp, xp, rfl⟩ := nat_of (M := 12) h4.1 h4.2 rfl (by decide)
    have ht6 := pc_le _ (mkN_64 (tkS σ G kd L) hn6)
    have hA1 := utN_b2 (b := σ.1 19 12) hp ht6
    have hA3 := p12_b ht6
    refine v_aload_n F d_T_odds_9 rfl 0 rfl ?_
    refine v_getr (r := 19) F fk_T_36 G0 rfl d_T_odds_10 ?_
    refine v_geti F fk_T_118 G19 rfl d_T_odds_13 ?_
    refine v_if_ne F 22 d_T_odds_16 rfl (fun h16 => ?_) (fun h16 => ?_)
    · skip
      refine v_aload_n F d_T_odds_22 rfl 0 rfl ?_
      refine v_aload_n F d_T_odds_23 rfl 0 rfl ?_
      refine v_getr (r := 19) F fk_T_36 G0 rfl d_T_odds_24 ?_
      refine v_iload_n F d_T_odds_27 rfl 1 rfl ?_
      refine v_runl (r_V F (c_B_untriedOfAll X.2.1 u hA σ hb hL hL64 (nI p)) mo_B_untriedOfAll st_T_290 rc_19 (by decide) rfl (Nat.le_of_ble_eq_true rfl) d_T_odds_28) (fun r4 σ5 q6 => ?_)
      obtain ⟨rfl, rfl⟩ := q6
      refine v_tl (y := (lN (utN (σ.1 19 12) p (pcN (mkN (tkS σ G kd L) n)) (2 ^ pcN (mkN (tkS σ G kd L) n))))) (utL_N hp _) ?_
      refine v_aload_n F d_T_odds_31 rfl 0 rfl ?_
      refine v_getr (r := 19) F fk_T_36 G0 rfl d_T_odds_32 ?_
      refine v_runl (r_V F (c_B_allOf X.2.1 u hA σ hb hL hL64) mo_B_allOf st_T_294 rc_19 (by decide) rfl (Nat.le_of_ble_eq_true rfl) d_T_odds_35) (fun r7 σ8 q9 => ?_)
      obtain ⟨rfl, rfl⟩ := q9
      refine v_tl (y := (lN (12 ^ pcN (mkN (tkS σ G kd L) n)))) (pwL_N (p := 12) (by decide) _) ?_
      refine v_runv (r_V F (c_T_tellNumbers X.2.1 u hA σ (utN (σ.1 19 12) p (pcN (mkN (tkS σ G kd L) n)) (2 ^ pcN (mkN (tkS σ G kd L) n))) (12 ^ pcN (mkN (tkS σ G kd L) n)) (ut_lt hA1) (p12_lt hA3) (p12_p _)) mo_T_tellNumbers st_T_233 rc_0 (by decide) rfl (Nat.le_of_ble_eq_true rfl) d_T_odds_38) (fun σ11 q12 => ?_)
      refine v_iconst (v := 1) F d_T_odds_41 ki_1 ?_
      refine v_iret F hr rfl d_T_odds_42 ?_
      unfold tOdds
      rw [if_neg (fun q => q h4), if_neg h16, xp]
      subst_vars
      rfl
    · skip
      refine v_bipush (v := (-4)) F d_T_odds_19 kb_m4 ?_
      refine v_iret F hr rfl d_T_odds_21 ?_
      unfold tOdds
      (repeat' split) <;> first | rfl | (exfalso; grind) | (subst_vars; rfl) | grind
  · skip
    refine v_iconst (v := (-1)) F d_T_odds_7 ki_m1 ?_
    refine v_iret F hr rfl d_T_odds_8 ?_
    unfold tOdds
    (repeat' split) <;> first | rfl | (exfalso; grind) | (subst_vars; rfl) | grind
abbrev b_T_mid : ByteArray := prog_1_method_37_code
abbrev y_T_mid : MethodName := ⟨"TakerBook", "mid", "(I)I"⟩
theorem d_T_mid_0 : decode b_T_mid 0 = .ok (.iload_n 1, 1) := by decide +kernel
theorem d_T_mid_1 : decode b_T_mid 1 = .ok (.invokestatic 287, 3) := by decide +kernel
theorem d_T_mid_4 : decode b_T_mid 4 = .ok (.ifCond .ne 5, 3) := by decide +kernel
theorem d_T_mid_7 : decode b_T_mid 7 = .ok (.iconst (-1), 1) := by decide +kernel
theorem d_T_mid_8 : decode b_T_mid 8 = .ok (.ireturn, 1) := by decide +kernel
theorem d_T_mid_9 : decode b_T_mid 9 = .ok (.aload_n 0, 1) := by decide +kernel
theorem d_T_mid_10 : decode b_T_mid 10 = .ok (.getfield 36, 3) := by decide +kernel
theorem d_T_mid_13 : decode b_T_mid 13 = .ok (.getfield 118, 3) := by decide +kernel
theorem d_T_mid_16 : decode b_T_mid 16 = .ok (.ifCond .ne 6, 3) := by decide +kernel
theorem d_T_mid_19 : decode b_T_mid 19 = .ok (.bipush (-4), 2) := by decide +kernel
theorem d_T_mid_21 : decode b_T_mid 21 = .ok (.ireturn, 1) := by decide +kernel
theorem d_T_mid_22 : decode b_T_mid 22 = .ok (.aload_n 0, 1) := by decide +kernel
theorem d_T_mid_23 : decode b_T_mid 23 = .ok (.aload_n 0, 1) := by decide +kernel
theorem d_T_mid_24 : decode b_T_mid 24 = .ok (.getfield 36, 3) := by decide +kernel
theorem d_T_mid_27 : decode b_T_mid 27 = .ok (.iload_n 1, 1) := by decide +kernel
theorem d_T_mid_28 : decode b_T_mid 28 = .ok (.invokevirtual 290, 3) := by decide +kernel
theorem d_T_mid_31 : decode b_T_mid 31 = .ok (.aload_n 0, 1) := by decide +kernel
theorem d_T_mid_32 : decode b_T_mid 32 = .ok (.getfield 36, 3) := by decide +kernel
theorem d_T_mid_35 : decode b_T_mid 35 = .ok (.aload_n 0, 1) := by decide +kernel
theorem d_T_mid_36 : decode b_T_mid 36 = .ok (.getfield 36, 3) := by decide +kernel
theorem d_T_mid_39 : decode b_T_mid 39 = .ok (.getfield 166, 3) := by decide +kernel
theorem d_T_mid_42 : decode b_T_mid 42 = .ok (.invokevirtual 298, 3) := by decide +kernel
theorem d_T_mid_45 : decode b_T_mid 45 = .ok (.i2l, 1) := by decide +kernel
theorem d_T_mid_46 : decode b_T_mid 46 = .ok (.lmul, 1) := by decide +kernel
theorem d_T_mid_47 : decode b_T_mid 47 = .ok (.aload_n 0, 1) := by decide +kernel
theorem d_T_mid_48 : decode b_T_mid 48 = .ok (.getfield 36, 3) := by decide +kernel
theorem d_T_mid_51 : decode b_T_mid 51 = .ok (.invokevirtual 294, 3) := by decide +kernel
theorem d_T_mid_54 : decode b_T_mid 54 = .ok (.invokevirtual 233, 3) := by decide +kernel
theorem d_T_mid_57 : decode b_T_mid 57 = .ok (.iconst 1, 1) := by decide +kernel
theorem d_T_mid_58 : decode b_T_mid 58 = .ok (.ireturn, 1) := by decide +kernel
theorem mo_T_mid : mok y_T_mid b_T_mid 2 (some .int) 1 := ⟨List.mem_of_getElem? (i := 921) (by decide +kernel), ⟨by decide +kernel, by decide +kernel, by decide +kernel⟩, List.mem_of_getElem? (i := 74) (by decide +kernel), by decide⟩
set_option maxHeartbeats 4000000 in
theorem c_T_mid (l : Launch) (u : Un) (hA : Ap u) (σ : St) {n G : Nat} {kd : Nat → Nat} (hb : bkOk σ n G kd) {L : Nat} (hL : σ.1 19 14 = nI L) (hL64 : L < 64) {lo : Nat} (hlo : sumI (ltA kd (σ.1 28) G L) n = nI lo) (hlo1 : lo ≤ 1000) (v : Int32) : MTi l u y_T_mid b_T_mid 2 .int 8 [.ref (u.2.1 0), .int v] σ (fun ans σ' => (ans, σ') = tMid σ G kd n L lo v) := by
  refine MT_of hA rfl (by decide) (Nat.le_of_ble_eq_true rfl) (fun X hl F hr => ?_)
  subst hl
  refine v_to (ls' := [(0, .ref (u.2.1 0)), (1, .int v)]) rfl ?_
  obtain ⟨hn, hn6, hG, hG64, hkd, hk6⟩ := id hb
  refine v_iload_n F d_T_mid_0 rfl 1 rfl ?_
  refine v_runi (r_S F (c_T_isChance X.2.1 u hA σ v ) mo_T_isChance st_T_287 (by decide) rfl (Nat.le_of_ble_eq_true rfl) d_T_mid_1) (fun r1 σ2 q3 => ?_)
  obtain ⟨rfl, rfl⟩ := q3
  refine v_bf F 9 d_T_mid_4 rfl (fun h4 => ?_) (fun h4 => ?_)
  · skip
    obtain ⟨p, hp, xp, rfl⟩ := nat_of (M := 12) h4.1 h4.2 rfl (by decide)
    have ht6 := pc_le _ (mkN_64 (tkS σ G kd L) hn6)
    have hA1 := utN_b2 (b := σ.1 19 12) hp ht6
    have hA3 := p12_b ht6
    refine v_aload_n F d_T_mid_9 rfl 0 rfl ?_
    refine v_getr (r := 19) F fk_T_36 G0 rfl d_T_mid_10 ?_
    refine v_geti F fk_T_118 G19 rfl d_T_mid_13 ?_
    refine v_if_ne F 22 d_T_mid_16 rfl (fun h16 => ?_) (fun h16 => ?_)
    · skip
      refine v_aload_n F d_T_mid_22 rfl 0 rfl ?_
      refine v_aload_n F d_T_mid_23 rfl 0 rfl ?_
      refine v_getr (r := 19) F fk_T_36 G0 rfl d_T_mid_24 ?_
      refine v_iload_n F d_T_mid_27 rfl 1 rfl ?_
      refine v_runl (r_V F (c_B_untriedOfAll X.2.1 u hA σ hb hL hL64 (nI p)) mo_B_untriedOfAll st_T_290 rc_19 (by decide) rfl (Nat.le_of_ble_eq_true rfl) d_T_mid_28) (fun r4 σ5 q6 => ?_)
      obtain ⟨rfl, rfl⟩ := q6
      refine v_tl (y := (lN (utN (σ.1 19 12) p (pcN (mkN (tkS σ G kd L) n)) (2 ^ pcN (mkN (tkS σ G kd L) n))))) (utL_N hp _) ?_
      refine v_aload_n F d_T_mid_31 rfl 0 rfl ?_
      refine v_getr (r := 19) F fk_T_36 G0 rfl d_T_mid_32 ?_
      refine v_aload_n F d_T_mid_35 rfl 0 rfl ?_
      refine v_getr (r := 19) F fk_T_36 G0 rfl d_T_mid_36 ?_
      refine v_geti F fk_T_166 G19 rfl d_T_mid_39 ?_
      refine v_te (y := nI L) hL ?_
      refine v_runi (r_V F (c_B_lootOfAll X.2.1 u hA σ hb L (by omega)) mo_B_lootOfAll st_T_298 rc_19 (by decide) rfl (Nat.le_of_ble_eq_true rfl) d_T_mid_42) (fun r7 σ8 q9 => ?_)
      obtain ⟨rfl, rfl⟩ := q9
      refine v_te (y := nI lo) hlo ?_
      refine v_i2l F d_T_mid_45 ?_
      refine v_tl (y := (lN lo)) (nI_l (by omega)) ?_
      refine v_lmul F d_T_mid_46 ?_
      refine v_tl (y := (lN ((utN (σ.1 19 12) p (pcN (mkN (tkS σ G kd L) n)) (2 ^ pcN (mkN (tkS σ G kd L) n))) * lo))) (lN_mul _ _) ?_
      refine v_aload_n F d_T_mid_47 rfl 0 rfl ?_
      refine v_getr (r := 19) F fk_T_36 G0 rfl d_T_mid_48 ?_
      refine v_runl (r_V F (c_B_allOf X.2.1 u hA σ hb hL hL64) mo_B_allOf st_T_294 rc_19 (by decide) rfl (Nat.le_of_ble_eq_true rfl) d_T_mid_51) (fun r10 σ11 q12 => ?_)
      obtain ⟨rfl, rfl⟩ := q12
      refine v_tl (y := (lN (12 ^ pcN (mkN (tkS σ G kd L) n)))) (pwL_N (p := 12) (by decide) _) ?_
      refine v_runv (r_V F (c_T_tellNumbers X.2.1 u hA σ ((utN (σ.1 19 12) p (pcN (mkN (tkS σ G kd L) n)) (2 ^ pcN (mkN (tkS σ G kd L) n))) * lo) (12 ^ pcN (mkN (tkS σ G kd L) n)) (mul_b hA1 hlo1) (p12_lt hA3) (p12_p _)) mo_T_tellNumbers st_T_233 rc_0 (by decide) rfl (Nat.le_of_ble_eq_true rfl) d_T_mid_54) (fun σ14 q15 => ?_)
      refine v_iconst (v := 1) F d_T_mid_57 ki_1 ?_
      refine v_iret F hr rfl d_T_mid_58 ?_
      unfold tMid
      rw [if_neg (fun q => q h4), if_neg h16, xp]
      subst_vars
      rfl
    · skip
      refine v_bipush (v := (-4)) F d_T_mid_19 kb_m4 ?_
      refine v_iret F hr rfl d_T_mid_21 ?_
      unfold tMid
      (repeat' split) <;> first | rfl | (exfalso; grind) | (subst_vars; rfl) | grind
  · skip
    refine v_iconst (v := (-1)) F d_T_mid_7 ki_m1 ?_
    refine v_iret F hr rfl d_T_mid_8 ?_
    unfold tMid
    (repeat' split) <;> first | rfl | (exfalso; grind) | (subst_vars; rfl) | grind
abbrev b_T_present : ByteArray := prog_1_method_74_code
abbrev y_T_present : MethodName := ⟨"TakerBook", "present", "([II)I"⟩
theorem d_T_present_0 : decode b_T_present 0 = .ok (.iconst 0, 1) := by decide +kernel
theorem d_T_present_1 : decode b_T_present 1 = .ok (.istore_n 2, 1) := by decide +kernel
theorem d_T_present_2 : decode b_T_present 2 = .ok (.iconst 0, 1) := by decide +kernel
theorem d_T_present_3 : decode b_T_present 3 = .ok (.istore_n 3, 1) := by decide +kernel
theorem d_T_present_4 : decode b_T_present 4 = .ok (.iload_n 3, 1) := by decide +kernel
theorem d_T_present_5 : decode b_T_present 5 = .ok (.iload_n 1, 1) := by decide +kernel
theorem d_T_present_6 : decode b_T_present 6 = .ok (.if_icmp .ge 18, 3) := by decide +kernel
theorem d_T_present_9 : decode b_T_present 9 = .ok (.aload_n 0, 1) := by decide +kernel
theorem d_T_present_10 : decode b_T_present 10 = .ok (.iload_n 3, 1) := by decide +kernel
theorem d_T_present_11 : decode b_T_present 11 = .ok (.iaload, 1) := by decide +kernel
theorem d_T_present_12 : decode b_T_present 12 = .ok (.ifCond .lt 6, 3) := by decide +kernel
theorem d_T_present_15 : decode b_T_present 15 = .ok (.iinc 2 1, 3) := by decide +kernel
theorem d_T_present_18 : decode b_T_present 18 = .ok (.iinc 3 1, 3) := by decide +kernel
theorem d_T_present_21 : decode b_T_present 21 = .ok (.goto (-17), 3) := by decide +kernel
theorem d_T_present_24 : decode b_T_present 24 = .ok (.iload_n 2, 1) := by decide +kernel
theorem d_T_present_25 : decode b_T_present 25 = .ok (.ireturn, 1) := by decide +kernel
theorem mo_T_present : mok y_T_present b_T_present 4 (some .int) 2 := ⟨List.mem_of_getElem? (i := 953) (by decide +kernel), ⟨by decide +kernel, by decide +kernel, by decide +kernel⟩, List.mem_of_getElem? (i := 74) (by decide +kernel), by decide⟩
set_option maxHeartbeats 4000000 in
theorem L_T_present_4 {X : FX} {u : Un} (hA : Ap u) {Q : State → Prop} (F : Fr X u "TakerBook" b_T_present 4) {σ : St} {kc N e : Nat} (hk : Gam[kc]? = some (.inl (.int, N))) (he : e ≤ N) (hN : N < 2147483648) (k : V X u 0 4 Q 24 [(0, .ref (u.2.1 kc)), (1, .int (nI e)), (2, .int (nI (cntN (prB σ kc) e))), (3, .int (nI e))] [] (σ)) : ∀ (nn i : Nat), i ≤ e → e - i < nn → V X u 0 4 Q 4 [(0, .ref (u.2.1 kc)), (1, .int (nI e)), (2, .int (nI (cntN (prB σ kc) i))), (3, .int (nI i))] [] (σ) := by
  intro nn
  induction nn with
  | zero =>
    intro i h1 h2
    exact absurd h2 (Nat.not_lt_zero _)
  | succ nn ih =>
    intro i hii hnn
    refine v_iload_n F d_T_present_4 rfl 3 rfl ?_
    refine v_iload_n F d_T_present_5 rfl 1 rfl ?_
    refine v_icmp_ge F 24 d_T_present_6 rfl (fun h6 => ?_) (fun h6 => ?_)
    · skip
      have h6 : e ≤ i := (nI_leI (a := e) (b := i) (by omega) (by omega)).mp h6
      have he : i = e := by omega
      subst he
      exact k
    · skip
      have h6 : ¬ e ≤ i := fun q => h6 ((nI_leI (a := e) (b := i) (by omega) (by omega)).mpr q)
      refine v_aload_n F d_T_present_9 rfl 0 rfl ?_
      refine v_iload_n F d_T_present_10 rfl 3 rfl ?_
      refine v_ial F i hk rfl (by omega) d_T_present_11 ?_ hN
      refine v_if_lt F 18 d_T_present_12 rfl (fun h12 => ?_) (fun h12 => ?_)
      · skip
        refine v_iinc (v := nI (i + 1)) (ls' := [(3, .int (nI (i + 1))), (0, .ref (u.2.1 kc)), (1, .int (nI e)), (2, .int (nI (cntN (prB σ kc) i)))]) F d_T_present_18 (j := 3) rfl (nI_inc _) (by decide) rfl ?_
        refine v_goto F 4 d_T_present_21 rfl ?_
        refine v_sub [1, 2, 3, 0] (ls' := [(0, .ref (u.2.1 kc)), (1, .int (nI e)), (2, .int (nI (cntN (prB σ kc) i))), (3, .int (nI (i + 1)))]) rfl ?_
        have g1 : (nI (cntN (prB σ kc) i)) = (nI (cntN (prB σ kc) (i + 1))) := (by first | rfl | (rw [cntN_t (decide_eq_true (p := 0 ≤ σ.1 kc i) (i_nlt.mp (by assumption)))]; done) | (rw [cntN_f (fun q => absurd (of_decide_eq_true (p := 0 ≤ σ.1 kc i) q) (lt_le_i (by assumption)))]; done))
        refine v_to (ls' := [(0, .ref (u.2.1 kc)), (1, .int (nI e)), (2, .int (nI (cntN (prB σ kc) (i + 1)))), (3, .int (nI (i + 1)))]) (by first | rfl | rw [g1] | simp_all) ?_
        exact ih (i + 1) (by omega) (by omega)
      · skip
        refine v_iinc (v := nI (cntN (prB σ kc) i + 1)) (ls' := [(2, .int (nI (cntN (prB σ kc) i + 1))), (0, .ref (u.2.1 kc)), (1, .int (nI e)), (3, .int (nI i))]) F d_T_present_15 (j := 2) rfl (nI_inc _) (by decide) rfl ?_
        refine v_iinc (v := nI (i + 1)) (ls' := [(3, .int (nI (i + 1))), (2, .int (nI (cntN (prB σ kc) i + 1))), (0, .ref (u.2.1 kc)), (1, .int (nI e))]) F d_T_present_18 (j := 3) rfl (nI_inc _) (by decide) rfl ?_
        refine v_goto F 4 d_T_present_21 rfl ?_
        refine v_sub [2, 3, 1, 0] (ls' := [(0, .ref (u.2.1 kc)), (1, .int (nI e)), (2, .int (nI (cntN (prB σ kc) i + 1))), (3, .int (nI (i + 1)))]) rfl ?_
        have g2 : (nI (cntN (prB σ kc) i + 1)) = (nI (cntN (prB σ kc) (i + 1))) := (by first | rfl | (rw [cntN_t (decide_eq_true (p := 0 ≤ σ.1 kc i) (i_nlt.mp (by assumption)))]; done) | (rw [cntN_f (fun q => absurd (of_decide_eq_true (p := 0 ≤ σ.1 kc i) q) (lt_le_i (by assumption)))]; done))
        refine v_to (ls' := [(0, .ref (u.2.1 kc)), (1, .int (nI e)), (2, .int (nI (cntN (prB σ kc) (i + 1)))), (3, .int (nI (i + 1)))]) (by first | rfl | rw [g2] | simp_all) ?_
        exact ih (i + 1) (by omega) (by omega)
set_option maxHeartbeats 4000000 in
theorem c_T_present (l : Launch) (u : Un) (hA : Ap u) (σ : St) {kc N : Nat} (hk : Gam[kc]? = some (.inl (.int, N))) (e : Nat) (he : e ≤ N) (hN : N < 2147483648) : MTi l u y_T_present b_T_present 4 .int 0 [.ref (u.2.1 kc), .int (nI e)] σ (fun ans σ' => nI (cntN (prB σ kc) e) = ans ∧ σ = σ') := by
  refine MT_of hA rfl (by decide) (Nat.le_of_ble_eq_true rfl) (fun X hl F hr => ?_)
  subst hl
  refine v_to (ls' := [(0, .ref (u.2.1 kc)), (1, .int (nI e))]) rfl ?_
  refine v_iconst (v := 0) F d_T_present_0 ki_0 ?_
  refine v_istore_n (ls' := [(2, .int 0), (0, .ref (u.2.1 kc)), (1, .int (nI e))]) F d_T_present_1 rfl (by decide) rfl ?_
  refine v_iconst (v := 0) F d_T_present_2 ki_0 ?_
  refine v_istore_n (ls' := [(3, .int 0), (2, .int 0), (0, .ref (u.2.1 kc)), (1, .int (nI e))]) F d_T_present_3 rfl (by decide) rfl ?_
  refine v_sub [2, 3, 1, 0] (ls' := [(0, .ref (u.2.1 kc)), (1, .int (nI e)), (2, .int 0), (3, .int 0)]) rfl ?_
  have g1 : 0 = (nI (cntN (prB σ kc) 0)) := (by first | rfl | (rw [cntN_t (decide_eq_true (p := 0 ≤ σ.1 kc i) (i_nlt.mp (by assumption)))]; done) | (rw [cntN_f (fun q => absurd (of_decide_eq_true (p := 0 ≤ σ.1 kc i) q) (lt_le_i (by assumption)))]; done))
  have g2 : 0 = (nI 0) := (by first | rfl | (rw [cntN_t (decide_eq_true (p := 0 ≤ σ.1 kc i) (i_nlt.mp (by assumption)))]; done) | (rw [cntN_f (fun q => absurd (of_decide_eq_true (p := 0 ≤ σ.1 kc i) q) (lt_le_i (by assumption)))]; done))
  refine v_to (ls' := [(0, .ref (u.2.1 kc)), (1, .int (nI e)), (2, .int (nI (cntN (prB σ kc) 0))), (3, .int (nI 0))]) (by first | rfl | rw [g1, g2] | simp_all) ?_
  refine L_T_present_4 hA F hk he hN ?_ _ 0 (Nat.zero_le _) (Nat.lt_succ_self _)
  refine v_iload_n F d_T_present_24 rfl 2 rfl ?_
  refine v_iret F hr rfl d_T_present_25 ?_
  exact ⟨rfl, rfl⟩
abbrev b_T_keptBooks : ByteArray := prog_1_method_75_code
abbrev y_T_keptBooks : MethodName := ⟨"TakerBook", "keptBooks", "()I"⟩
theorem d_T_keptBooks_0 : decode b_T_keptBooks 0 = .ok (.iconst 0, 1) := by decide +kernel
theorem d_T_keptBooks_1 : decode b_T_keptBooks 1 = .ok (.istore_n 1, 1) := by decide +kernel
theorem d_T_keptBooks_2 : decode b_T_keptBooks 2 = .ok (.iconst 0, 1) := by decide +kernel
theorem d_T_keptBooks_3 : decode b_T_keptBooks 3 = .ok (.istore_n 2, 1) := by decide +kernel
theorem d_T_keptBooks_4 : decode b_T_keptBooks 4 = .ok (.iload_n 2, 1) := by decide +kernel
theorem d_T_keptBooks_5 : decode b_T_keptBooks 5 = .ok (.iconst 3, 1) := by decide +kernel
theorem d_T_keptBooks_6 : decode b_T_keptBooks 6 = .ok (.if_icmp .ge 24, 3) := by decide +kernel
theorem d_T_keptBooks_9 : decode b_T_keptBooks 9 = .ok (.aload_n 0, 1) := by decide +kernel
theorem d_T_keptBooks_10 : decode b_T_keptBooks 10 = .ok (.getfield 61, 3) := by decide +kernel
theorem d_T_keptBooks_13 : decode b_T_keptBooks 13 = .ok (.iload_n 2, 1) := by decide +kernel
theorem d_T_keptBooks_14 : decode b_T_keptBooks 14 = .ok (.aaload, 1) := by decide +kernel
theorem d_T_keptBooks_15 : decode b_T_keptBooks 15 = .ok (.getfield 72, 3) := by decide +kernel
theorem d_T_keptBooks_18 : decode b_T_keptBooks 18 = .ok (.ifCond .lt 6, 3) := by decide +kernel
theorem d_T_keptBooks_21 : decode b_T_keptBooks 21 = .ok (.iinc 1 1, 3) := by decide +kernel
theorem d_T_keptBooks_24 : decode b_T_keptBooks 24 = .ok (.iinc 2 1, 3) := by decide +kernel
theorem d_T_keptBooks_27 : decode b_T_keptBooks 27 = .ok (.goto (-23), 3) := by decide +kernel
theorem d_T_keptBooks_30 : decode b_T_keptBooks 30 = .ok (.iload_n 1, 1) := by decide +kernel
theorem d_T_keptBooks_31 : decode b_T_keptBooks 31 = .ok (.ireturn, 1) := by decide +kernel
theorem mo_T_keptBooks : mok y_T_keptBooks b_T_keptBooks 3 (some .int) 0 := ⟨List.mem_of_getElem? (i := 957) (by decide +kernel), ⟨by decide +kernel, by decide +kernel, by decide +kernel⟩, List.mem_of_getElem? (i := 74) (by decide +kernel), by decide⟩
set_option maxHeartbeats 4000000 in
theorem L_T_keptBooks_4 {X : FX} {u : Un} (hA : Ap u) {Q : State → Prop} (F : Fr X u "TakerBook" b_T_keptBooks 3) {σ : St} (k : V X u 0 3 Q 30 [(0, .ref (u.2.1 0)), (1, .int (nI (cntN (kpB σ) 3))), (2, .int (nI 3))] [] (σ)) : ∀ (nn i : Nat), i ≤ 3 → 3 - i < nn → V X u 0 3 Q 4 [(0, .ref (u.2.1 0)), (1, .int (nI (cntN (kpB σ) i))), (2, .int (nI i))] [] (σ) := by
  intro nn
  induction nn with
  | zero =>
    intro i h1 h2
    exact absurd h2 (Nat.not_lt_zero _)
  | succ nn ih =>
    intro i hii hnn
    refine v_iload_n F d_T_keptBooks_4 rfl 2 rfl ?_
    refine v_iconst (v := 3) F d_T_keptBooks_5 ki_3 ?_
    refine v_icmp_ge F 30 d_T_keptBooks_6 rfl (fun h6 => ?_) (fun h6 => ?_)
    · skip
      have h6 : 3 ≤ i := (nI_leI (a := 3) (b := i) (by omega) (by omega)).mp h6
      have he : i = 3 := by omega
      subst he
      exact k
    · skip
      have h6 : ¬ 3 ≤ i := fun q => h6 ((nI_leI (a := 3) (b := i) (by omega) (by omega)).mpr q)
      refine v_aload_n F d_T_keptBooks_9 rfl 0 rfl ?_
      refine v_getr (r := 52) F fk_T_61 G0 rfl d_T_keptBooks_10 ?_
      refine v_iload_n F d_T_keptBooks_13 rfl 2 rfl ?_
      refine v_aal F i G52 rfl rfl (by omega) d_T_keptBooks_14 ?_
      refine v_geti F fk_T_72 (gam_d (dOk_k (j := i) (by omega))) rfl d_T_keptBooks_15 ?_
      refine v_if_lt F 24 d_T_keptBooks_18 rfl (fun h18 => ?_) (fun h18 => ?_)
      · skip
        refine v_iinc (v := nI (i + 1)) (ls' := [(2, .int (nI (i + 1))), (0, .ref (u.2.1 0)), (1, .int (nI (cntN (kpB σ) i)))]) F d_T_keptBooks_24 (j := 2) rfl (nI_inc _) (by decide) rfl ?_
        refine v_goto F 4 d_T_keptBooks_27 rfl ?_
        refine v_sub [1, 2, 0] (ls' := [(0, .ref (u.2.1 0)), (1, .int (nI (cntN (kpB σ) i))), (2, .int (nI (i + 1)))]) rfl ?_
        have g1 : (nI (cntN (kpB σ) i)) = (nI (cntN (kpB σ) (i + 1))) := (by first | rfl | (rw [cntN_t (decide_eq_true (p := 0 ≤ σ.1 (53 + 3 * i) 2) (i_nlt.mp (by assumption)))]; done) | (rw [cntN_f (fun q => absurd (of_decide_eq_true (p := 0 ≤ σ.1 (53 + 3 * i) 2) q) (lt_le_i (by assumption)))]; done))
        refine v_to (ls' := [(0, .ref (u.2.1 0)), (1, .int (nI (cntN (kpB σ) (i + 1)))), (2, .int (nI (i + 1)))]) (by first | rfl | rw [g1] | simp_all) ?_
        exact ih (i + 1) (by omega) (by omega)
      · skip
        refine v_iinc (v := nI (cntN (kpB σ) i + 1)) (ls' := [(1, .int (nI (cntN (kpB σ) i + 1))), (0, .ref (u.2.1 0)), (2, .int (nI i))]) F d_T_keptBooks_21 (j := 1) rfl (nI_inc _) (by decide) rfl ?_
        refine v_iinc (v := nI (i + 1)) (ls' := [(2, .int (nI (i + 1))), (1, .int (nI (cntN (kpB σ) i + 1))), (0, .ref (u.2.1 0))]) F d_T_keptBooks_24 (j := 2) rfl (nI_inc _) (by decide) rfl ?_
        refine v_goto F 4 d_T_keptBooks_27 rfl ?_
        refine v_sub [2, 1, 0] (ls' := [(0, .ref (u.2.1 0)), (1, .int (nI (cntN (kpB σ) i + 1))), (2, .int (nI (i + 1)))]) rfl ?_
        have g2 : (nI (cntN (kpB σ) i + 1)) = (nI (cntN (kpB σ) (i + 1))) := (by first | rfl | (rw [cntN_t (decide_eq_true (p := 0 ≤ σ.1 (53 + 3 * i) 2) (i_nlt.mp (by assumption)))]; done) | (rw [cntN_f (fun q => absurd (of_decide_eq_true (p := 0 ≤ σ.1 (53 + 3 * i) 2) q) (lt_le_i (by assumption)))]; done))
        refine v_to (ls' := [(0, .ref (u.2.1 0)), (1, .int (nI (cntN (kpB σ) (i + 1)))), (2, .int (nI (i + 1)))]) (by first | rfl | rw [g2] | simp_all) ?_
        exact ih (i + 1) (by omega) (by omega)
set_option maxHeartbeats 4000000 in
theorem c_T_keptBooks (l : Launch) (u : Un) (hA : Ap u) (σ : St) : MTi l u y_T_keptBooks b_T_keptBooks 3 .int 0 [.ref (u.2.1 0)] σ (fun ans σ' => nI (cntN (kpB σ) 3) = ans ∧ σ = σ') := by
  refine MT_of hA rfl (by decide) (Nat.le_of_ble_eq_true rfl) (fun X hl F hr => ?_)
  subst hl
  refine v_to (ls' := [(0, .ref (u.2.1 0))]) rfl ?_
  refine v_iconst (v := 0) F d_T_keptBooks_0 ki_0 ?_
  refine v_istore_n (ls' := [(1, .int 0), (0, .ref (u.2.1 0))]) F d_T_keptBooks_1 rfl (by decide) rfl ?_
  refine v_iconst (v := 0) F d_T_keptBooks_2 ki_0 ?_
  refine v_istore_n (ls' := [(2, .int 0), (1, .int 0), (0, .ref (u.2.1 0))]) F d_T_keptBooks_3 rfl (by decide) rfl ?_
  refine v_sub [2, 1, 0] (ls' := [(0, .ref (u.2.1 0)), (1, .int 0), (2, .int 0)]) rfl ?_
  have g1 : 0 = (nI (cntN (kpB σ) 0)) := (by first | rfl | (rw [cntN_t (decide_eq_true (p := 0 ≤ σ.1 (53 + 3 * i) 2) (i_nlt.mp (by assumption)))]; done) | (rw [cntN_f (fun q => absurd (of_decide_eq_true (p := 0 ≤ σ.1 (53 + 3 * i) 2) q) (lt_le_i (by assumption)))]; done))
  have g2 : 0 = (nI 0) := (by first | rfl | (rw [cntN_t (decide_eq_true (p := 0 ≤ σ.1 (53 + 3 * i) 2) (i_nlt.mp (by assumption)))]; done) | (rw [cntN_f (fun q => absurd (of_decide_eq_true (p := 0 ≤ σ.1 (53 + 3 * i) 2) q) (lt_le_i (by assumption)))]; done))
  refine v_to (ls' := [(0, .ref (u.2.1 0)), (1, .int (nI (cntN (kpB σ) 0))), (2, .int (nI 0))]) (by first | rfl | rw [g1, g2] | simp_all) ?_
  refine L_T_keptBooks_4 hA F  ?_ _ 0 (Nat.zero_le _) (Nat.lt_succ_self _)
  refine v_iload_n F d_T_keptBooks_30 rfl 1 rfl ?_
  refine v_iret F hr rfl d_T_keptBooks_31 ?_
  exact ⟨rfl, rfl⟩
abbrev b_T_count : ByteArray := prog_1_method_42_code
abbrev y_T_count : MethodName := ⟨"TakerBook", "count", "(I)I"⟩
theorem d_T_count_0 : decode b_T_count 0 = .ok (.iload_n 1, 1) := by decide +kernel
theorem d_T_count_1 : decode b_T_count 1 = .ok (.tableswitch 158 0 10 #[59, 67, 75, 83, 91, 99, 107, 123, 134, 144, 153], 59) := by decide +kernel
theorem d_T_count_60 : decode b_T_count 60 = .ok (.aload_n 0, 1) := by decide +kernel
theorem d_T_count_61 : decode b_T_count 61 = .ok (.getfield 36, 3) := by decide +kernel
theorem d_T_count_64 : decode b_T_count 64 = .ok (.getfield 118, 3) := by decide +kernel
theorem d_T_count_67 : decode b_T_count 67 = .ok (.ireturn, 1) := by decide +kernel
theorem d_T_count_68 : decode b_T_count 68 = .ok (.aload_n 0, 1) := by decide +kernel
theorem d_T_count_69 : decode b_T_count 69 = .ok (.getfield 36, 3) := by decide +kernel
theorem d_T_count_72 : decode b_T_count 72 = .ok (.getfield 315, 3) := by decide +kernel
theorem d_T_count_75 : decode b_T_count 75 = .ok (.ireturn, 1) := by decide +kernel
theorem d_T_count_76 : decode b_T_count 76 = .ok (.aload_n 0, 1) := by decide +kernel
theorem d_T_count_77 : decode b_T_count 77 = .ok (.getfield 57, 3) := by decide +kernel
theorem d_T_count_80 : decode b_T_count 80 = .ok (.getfield 72, 3) := by decide +kernel
theorem d_T_count_83 : decode b_T_count 83 = .ok (.ireturn, 1) := by decide +kernel
theorem d_T_count_84 : decode b_T_count 84 = .ok (.aload_n 0, 1) := by decide +kernel
theorem d_T_count_85 : decode b_T_count 85 = .ok (.getfield 36, 3) := by decide +kernel
theorem d_T_count_88 : decode b_T_count 88 = .ok (.getfield 157, 3) := by decide +kernel
theorem d_T_count_91 : decode b_T_count 91 = .ok (.ireturn, 1) := by decide +kernel
theorem d_T_count_92 : decode b_T_count 92 = .ok (.aload_n 0, 1) := by decide +kernel
theorem d_T_count_93 : decode b_T_count 93 = .ok (.getfield 36, 3) := by decide +kernel
theorem d_T_count_96 : decode b_T_count 96 = .ok (.getfield 154, 3) := by decide +kernel
theorem d_T_count_99 : decode b_T_count 99 = .ok (.ireturn, 1) := by decide +kernel
theorem d_T_count_100 : decode b_T_count 100 = .ok (.aload_n 0, 1) := by decide +kernel
theorem d_T_count_101 : decode b_T_count 101 = .ok (.getfield 36, 3) := by decide +kernel
theorem d_T_count_104 : decode b_T_count 104 = .ok (.getfield 166, 3) := by decide +kernel
theorem d_T_count_107 : decode b_T_count 107 = .ok (.ireturn, 1) := by decide +kernel
theorem d_T_count_108 : decode b_T_count 108 = .ok (.aload_n 0, 1) := by decide +kernel
theorem d_T_count_109 : decode b_T_count 109 = .ok (.getfield 36, 3) := by decide +kernel
theorem d_T_count_112 : decode b_T_count 112 = .ok (.getfield 150, 3) := by decide +kernel
theorem d_T_count_115 : decode b_T_count 115 = .ok (.ifCond .eq 7, 3) := by decide +kernel
theorem d_T_count_118 : decode b_T_count 118 = .ok (.iconst 1, 1) := by decide +kernel
theorem d_T_count_119 : decode b_T_count 119 = .ok (.goto 4, 3) := by decide +kernel
theorem d_T_count_122 : decode b_T_count 122 = .ok (.iconst 0, 1) := by decide +kernel
theorem d_T_count_123 : decode b_T_count 123 = .ok (.ireturn, 1) := by decide +kernel
theorem d_T_count_124 : decode b_T_count 124 = .ok (.aload_n 0, 1) := by decide +kernel
theorem d_T_count_125 : decode b_T_count 125 = .ok (.getfield 36, 3) := by decide +kernel
theorem d_T_count_128 : decode b_T_count 128 = .ok (.getfield 318, 3) := by decide +kernel
theorem d_T_count_131 : decode b_T_count 131 = .ok (.invokestatic 189, 3) := by decide +kernel
theorem d_T_count_134 : decode b_T_count 134 = .ok (.ireturn, 1) := by decide +kernel
theorem d_T_count_135 : decode b_T_count 135 = .ok (.aload_n 0, 1) := by decide +kernel
theorem d_T_count_136 : decode b_T_count 136 = .ok (.getfield 14, 3) := by decide +kernel
theorem d_T_count_139 : decode b_T_count 139 = .ok (.bipush 6, 2) := by decide +kernel
theorem d_T_count_141 : decode b_T_count 141 = .ok (.invokestatic 321, 3) := by decide +kernel
theorem d_T_count_144 : decode b_T_count 144 = .ok (.ireturn, 1) := by decide +kernel
theorem d_T_count_145 : decode b_T_count 145 = .ok (.aload_n 0, 1) := by decide +kernel
theorem d_T_count_146 : decode b_T_count 146 = .ok (.getfield 23, 3) := by decide +kernel
theorem d_T_count_149 : decode b_T_count 149 = .ok (.iconst 4, 1) := by decide +kernel
theorem d_T_count_150 : decode b_T_count 150 = .ok (.invokestatic 321, 3) := by decide +kernel
theorem d_T_count_153 : decode b_T_count 153 = .ok (.ireturn, 1) := by decide +kernel
theorem d_T_count_154 : decode b_T_count 154 = .ok (.aload_n 0, 1) := by decide +kernel
theorem d_T_count_155 : decode b_T_count 155 = .ok (.invokevirtual 325, 3) := by decide +kernel
theorem d_T_count_158 : decode b_T_count 158 = .ok (.ireturn, 1) := by decide +kernel
theorem d_T_count_159 : decode b_T_count 159 = .ok (.iconst (-1), 1) := by decide +kernel
theorem d_T_count_160 : decode b_T_count 160 = .ok (.ireturn, 1) := by decide +kernel
theorem mo_T_count : mok y_T_count b_T_count 2 (some .int) 1 := ⟨List.mem_of_getElem? (i := 950) (by decide +kernel), ⟨by decide +kernel, by decide +kernel, by decide +kernel⟩, List.mem_of_getElem? (i := 74) (by decide +kernel), by decide⟩
set_option maxHeartbeats 4000000 in
theorem c_T_count (l : Launch) (u : Un) (hA : Ap u) (σ : St) {G : Nat} (hG : σ.1 19 13 = nI G) (hG64 : G < 64) (x : Int32) : MTi l u y_T_count b_T_count 2 .int 2 [.ref (u.2.1 0), .int x] σ (fun ans σ' => (if inR x 11 then ctT σ G (ix x) else -1) = ans ∧ σ = σ') := by
  refine MT_of hA rfl (by decide) (Nat.le_of_ble_eq_true rfl) (fun X hl F hr => ?_)
  subst hl
  refine v_to (ls' := [(0, .ref (u.2.1 0)), (1, .int x)]) rfl ?_
  refine v_iload_n F d_T_count_0 rfl 1 rfl ?_
  by_cases hin : inR x 11
  · obtain ⟨w, hw, xw, rfl⟩ := inR_nat (N := 11) hin rfl (by decide)
    rcases (show w = 0 ∨ w = 1 ∨ w = 2 ∨ w = 3 ∨ w = 4 ∨ w = 5 ∨ w = 6 ∨ w = 7 ∨ w = 8 ∨ w = 9 ∨ w = 10 from by omega) with hs | hs | hs | hs | hs | hs | hs | hs | hs | hs | hs
    · refine v_te (y := 0) (show nI w = 0 from by rw [hs]; rfl) ?_
      refine v_tableIn (off := 59) F 60 d_T_count_1 (by decide) (by decide) (by decide) rfl ?_
      refine v_aload_n F d_T_count_60 rfl 0 rfl ?_
      refine v_getr (r := 19) F fk_T_36 G0 rfl d_T_count_61 ?_
      refine v_geti F fk_T_118 G19 rfl d_T_count_64 ?_
      refine v_iret F hr rfl d_T_count_67 ?_
      refine ⟨?_, rfl⟩
      rw [if_pos hin, xw, hs]
      first | rfl | (simp only [ctT]; first | (rw [if_pos (by assumption)]; done) | (rw [if_neg (by assumption)]; done))
    · refine v_te (y := 1) (show nI w = 1 from by rw [hs]; rfl) ?_
      refine v_tableIn (off := 67) F 68 d_T_count_1 (by decide) (by decide) (by decide) rfl ?_
      refine v_aload_n F d_T_count_68 rfl 0 rfl ?_
      refine v_getr (r := 19) F fk_T_36 G0 rfl d_T_count_69 ?_
      refine v_geti F fk_T_315 G19 rfl d_T_count_72 ?_
      refine v_iret F hr rfl d_T_count_75 ?_
      refine ⟨?_, rfl⟩
      rw [if_pos hin, xw, hs]
      first | rfl | (simp only [ctT]; first | (rw [if_pos (by assumption)]; done) | (rw [if_neg (by assumption)]; done))
    · refine v_te (y := 2) (show nI w = 2 from by rw [hs]; rfl) ?_
      refine v_tableIn (off := 75) F 76 d_T_count_1 (by decide) (by decide) (by decide) rfl ?_
      refine v_aload_n F d_T_count_76 rfl 0 rfl ?_
      refine v_getr (r := 49) F fk_T_57 G0 rfl d_T_count_77 ?_
      refine v_geti F fk_T_72 G49 rfl d_T_count_80 ?_
      refine v_iret F hr rfl d_T_count_83 ?_
      refine ⟨?_, rfl⟩
      rw [if_pos hin, xw, hs]
      first | rfl | (simp only [ctT]; first | (rw [if_pos (by assumption)]; done) | (rw [if_neg (by assumption)]; done))
    · refine v_te (y := 3) (show nI w = 3 from by rw [hs]; rfl) ?_
      refine v_tableIn (off := 83) F 84 d_T_count_1 (by decide) (by decide) (by decide) rfl ?_
      refine v_aload_n F d_T_count_84 rfl 0 rfl ?_
      refine v_getr (r := 19) F fk_T_36 G0 rfl d_T_count_85 ?_
      refine v_geti F fk_T_157 G19 rfl d_T_count_88 ?_
      refine v_iret F hr rfl d_T_count_91 ?_
      refine ⟨?_, rfl⟩
      rw [if_pos hin, xw, hs]
      first | rfl | (simp only [ctT]; first | (rw [if_pos (by assumption)]; done) | (rw [if_neg (by assumption)]; done))
    · refine v_te (y := 4) (show nI w = 4 from by rw [hs]; rfl) ?_
      refine v_tableIn (off := 91) F 92 d_T_count_1 (by decide) (by decide) (by decide) rfl ?_
      refine v_aload_n F d_T_count_92 rfl 0 rfl ?_
      refine v_getr (r := 19) F fk_T_36 G0 rfl d_T_count_93 ?_
      refine v_geti F fk_T_154 G19 rfl d_T_count_96 ?_
      refine v_iret F hr rfl d_T_count_99 ?_
      refine ⟨?_, rfl⟩
      rw [if_pos hin, xw, hs]
      first | rfl | (simp only [ctT]; first | (rw [if_pos (by assumption)]; done) | (rw [if_neg (by assumption)]; done))
    · refine v_te (y := 5) (show nI w = 5 from by rw [hs]; rfl) ?_
      refine v_tableIn (off := 99) F 100 d_T_count_1 (by decide) (by decide) (by decide) rfl ?_
      refine v_aload_n F d_T_count_100 rfl 0 rfl ?_
      refine v_getr (r := 19) F fk_T_36 G0 rfl d_T_count_101 ?_
      refine v_geti F fk_T_166 G19 rfl d_T_count_104 ?_
      refine v_iret F hr rfl d_T_count_107 ?_
      refine ⟨?_, rfl⟩
      rw [if_pos hin, xw, hs]
      first | rfl | (simp only [ctT]; first | (rw [if_pos (by assumption)]; done) | (rw [if_neg (by assumption)]; done))
    · refine v_te (y := 6) (show nI w = 6 from by rw [hs]; rfl) ?_
      refine v_tableIn (off := 107) F 108 d_T_count_1 (by decide) (by decide) (by decide) rfl ?_
      refine v_aload_n F d_T_count_108 rfl 0 rfl ?_
      refine v_getr (r := 19) F fk_T_36 G0 rfl d_T_count_109 ?_
      refine v_geti F fk_T_150 G19 rfl d_T_count_112 ?_
      refine v_if_eq F 122 d_T_count_115 rfl (fun h115 => ?_) (fun h115 => ?_)
      · skip
        refine v_iconst (v := 0) F d_T_count_122 ki_0 ?_
        refine v_iret F hr rfl d_T_count_123 ?_
        refine ⟨?_, rfl⟩
        rw [if_pos hin, xw, hs]
        first | rfl | (simp only [ctT]; first | (rw [if_pos (by assumption)]; done) | (rw [if_neg (by assumption)]; done))
      · skip
        refine v_iconst (v := 1) F d_T_count_118 ki_1 ?_
        refine v_goto F 123 d_T_count_119 rfl ?_
        refine v_iret F hr rfl d_T_count_123 ?_
        refine ⟨?_, rfl⟩
        rw [if_pos hin, xw, hs]
        first | rfl | (simp only [ctT]; first | (rw [if_pos (by assumption)]; done) | (rw [if_neg (by assumption)]; done))
    · refine v_te (y := 7) (show nI w = 7 from by rw [hs]; rfl) ?_
      refine v_tableIn (off := 123) F 124 d_T_count_1 (by decide) (by decide) (by decide) rfl ?_
      refine v_aload_n F d_T_count_124 rfl 0 rfl ?_
      refine v_getr (r := 19) F fk_T_36 G0 rfl d_T_count_125 ?_
      refine v_geti F fk_T_318 G19 rfl d_T_count_128 ?_
      refine v_te (y := nI G) hG ?_
      refine v_runi (r_S F (c_I_bitCount X.2.1 u hA σ G (by omega)) mo_I_bitCount st_T_189 (by decide) rfl (Nat.le_of_ble_eq_true rfl) d_T_count_131) (fun r1 σ2 q3 => ?_)
      obtain ⟨rfl, rfl⟩ := q3
      refine v_iret F hr rfl d_T_count_134 ?_
      refine ⟨?_, rfl⟩
      rw [if_pos hin, xw, hs]
      first | rfl | (simp only [ctT]; first | (rw [if_pos (by assumption)]; done) | (rw [if_neg (by assumption)]; done))
    · refine v_te (y := 8) (show nI w = 8 from by rw [hs]; rfl) ?_
      refine v_tableIn (off := 134) F 135 d_T_count_1 (by decide) (by decide) (by decide) rfl ?_
      refine v_aload_n F d_T_count_135 rfl 0 rfl ?_
      refine v_getr (r := 8) F fk_T_14 G0 rfl d_T_count_136 ?_
      refine v_bipush (v := 6) F d_T_count_139 kb_6 ?_
      refine v_runi (r_S F (c_T_present X.2.1 u hA σ G8 6 (by decide) (by decide)) mo_T_present st_T_321 (by decide) rfl (Nat.le_of_ble_eq_true rfl) d_T_count_141) (fun r4 σ5 q6 => ?_)
      obtain ⟨rfl, rfl⟩ := q6
      refine v_iret F hr rfl d_T_count_144 ?_
      refine ⟨?_, rfl⟩
      rw [if_pos hin, xw, hs]
      first | rfl | (simp only [ctT]; first | (rw [if_pos (by assumption)]; done) | (rw [if_neg (by assumption)]; done))
    · refine v_te (y := 9) (show nI w = 9 from by rw [hs]; rfl) ?_
      refine v_tableIn (off := 144) F 145 d_T_count_1 (by decide) (by decide) (by decide) rfl ?_
      refine v_aload_n F d_T_count_145 rfl 0 rfl ?_
      refine v_getr (r := 14) F fk_T_23 G0 rfl d_T_count_146 ?_
      refine v_iconst (v := 4) F d_T_count_149 ki_4 ?_
      refine v_runi (r_S F (c_T_present X.2.1 u hA σ G14 4 (by decide) (by decide)) mo_T_present st_T_321 (by decide) rfl (Nat.le_of_ble_eq_true rfl) d_T_count_150) (fun r7 σ8 q9 => ?_)
      obtain ⟨rfl, rfl⟩ := q9
      refine v_iret F hr rfl d_T_count_153 ?_
      refine ⟨?_, rfl⟩
      rw [if_pos hin, xw, hs]
      first | rfl | (simp only [ctT]; first | (rw [if_pos (by assumption)]; done) | (rw [if_neg (by assumption)]; done))
    · refine v_te (y := 10) (show nI w = 10 from by rw [hs]; rfl) ?_
      refine v_tableIn (off := 153) F 154 d_T_count_1 (by decide) (by decide) (by decide) rfl ?_
      refine v_aload_n F d_T_count_154 rfl 0 rfl ?_
      refine v_runi (r_V F (c_T_keptBooks X.2.1 u hA σ) mo_T_keptBooks st_T_325 rc_0 (by decide) rfl (Nat.le_of_ble_eq_true rfl) d_T_count_155) (fun r10 σ11 q12 => ?_)
      obtain ⟨rfl, rfl⟩ := q12
      refine v_iret F hr rfl d_T_count_158 ?_
      refine ⟨?_, rfl⟩
      rw [if_pos hin, xw, hs]
      first | rfl | (simp only [ctT]; first | (rw [if_pos (by assumption)]; done) | (rw [if_neg (by assumption)]; done))
  · refine v_tableOut F 159 d_T_count_1 (sw_out (N := 11) hin rfl (by decide)) rfl ?_
    refine v_iconst (v := (-1)) F d_T_count_159 ki_m1 ?_
    refine v_iret F hr rfl d_T_count_160 ?_
    exact ⟨if_neg hin, rfl⟩
abbrev b_T_undo : ByteArray := prog_1_method_18_code
abbrev y_T_undo : MethodName := ⟨"TakerBook", "undo", "(I)I"⟩
theorem d_T_undo_0 : decode b_T_undo 0 = .ok (.iload_n 1, 1) := by decide +kernel
theorem d_T_undo_1 : decode b_T_undo 1 = .ok (.ifCond .lt 14, 3) := by decide +kernel
theorem d_T_undo_4 : decode b_T_undo 4 = .ok (.iload_n 1, 1) := by decide +kernel
theorem d_T_undo_5 : decode b_T_undo 5 = .ok (.aload_n 0, 1) := by decide +kernel
theorem d_T_undo_6 : decode b_T_undo 6 = .ok (.getfield 57, 3) := by decide +kernel
theorem d_T_undo_9 : decode b_T_undo 9 = .ok (.getfield 72, 3) := by decide +kernel
theorem d_T_undo_12 : decode b_T_undo 12 = .ok (.if_icmp .le 5, 3) := by decide +kernel
theorem d_T_undo_15 : decode b_T_undo 15 = .ok (.iconst (-1), 1) := by decide +kernel
theorem d_T_undo_16 : decode b_T_undo 16 = .ok (.ireturn, 1) := by decide +kernel
theorem d_T_undo_17 : decode b_T_undo 17 = .ok (.aload_n 0, 1) := by decide +kernel
theorem d_T_undo_18 : decode b_T_undo 18 = .ok (.getfield 57, 3) := by decide +kernel
theorem d_T_undo_21 : decode b_T_undo 21 = .ok (.getfield 72, 3) := by decide +kernel
theorem d_T_undo_24 : decode b_T_undo 24 = .ok (.iload_n 1, 1) := by decide +kernel
theorem d_T_undo_25 : decode b_T_undo 25 = .ok (.isub, 1) := by decide +kernel
theorem d_T_undo_26 : decode b_T_undo 26 = .ok (.istore_n 2, 1) := by decide +kernel
theorem d_T_undo_27 : decode b_T_undo 27 = .ok (.aload_n 0, 1) := by decide +kernel
theorem d_T_undo_28 : decode b_T_undo 28 = .ok (.getfield 57, 3) := by decide +kernel
theorem d_T_undo_31 : decode b_T_undo 31 = .ok (.iload_n 1, 1) := by decide +kernel
theorem d_T_undo_32 : decode b_T_undo 32 = .ok (.putfield 72, 3) := by decide +kernel
theorem d_T_undo_35 : decode b_T_undo 35 = .ok (.aload_n 0, 1) := by decide +kernel
theorem d_T_undo_36 : decode b_T_undo 36 = .ok (.invokevirtual 173, 3) := by decide +kernel
theorem d_T_undo_39 : decode b_T_undo 39 = .ok (.iload_n 2, 1) := by decide +kernel
theorem d_T_undo_40 : decode b_T_undo 40 = .ok (.ireturn, 1) := by decide +kernel
theorem mo_T_undo : mok y_T_undo b_T_undo 3 (some .int) 1 := ⟨List.mem_of_getElem? (i := 694) (by decide +kernel), ⟨by decide +kernel, by decide +kernel, by decide +kernel⟩, List.mem_of_getElem? (i := 74) (by decide +kernel), by decide⟩
set_option maxHeartbeats 4000000 in
theorem c_T_undo (l : Launch) (u : Un) (hA : Ap u) (σ : St) {n G : Nat} {kd : Nat → Nat} (hb : bkOk σ n G kd) {D : Nat} (hD : σ.1 49 2 = nI D) {wN aN : Nat → Nat} (hw : dwOk σ n D wN aN) (hD1 : D ≤ 40) (x : Int32) : MTi l u y_T_undo b_T_undo 3 .int 9 [.ref (u.2.1 0), .int x] σ (fun ans σ' => (ans, σ') = tUndo σ G kd n D wN aN x) := by
  refine MT_of hA rfl (by decide) (Nat.le_of_ble_eq_true rfl) (fun X hl F hr => ?_)
  subst hl
  refine v_to (ls' := [(0, .ref (u.2.1 0)), (1, .int x)]) rfl ?_
  obtain ⟨hn, hn6, hG, hG64, hkd, hk6⟩ := id hb
  refine v_iload_n F d_T_undo_0 rfl 1 rfl ?_
  refine v_if_lt F 15 d_T_undo_1 rfl (fun h1 => ?_) (fun h1 => ?_)
  · skip
    refine v_iconst (v := (-1)) F d_T_undo_15 ki_m1 ?_
    refine v_iret F hr rfl d_T_undo_16 ?_
    unfold tUndo
    (repeat' split) <;> first | rfl | (exfalso; grind) | (subst_vars; rfl) | grind
  · skip
    refine v_iload_n F d_T_undo_4 rfl 1 rfl ?_
    refine v_aload_n F d_T_undo_5 rfl 0 rfl ?_
    refine v_getr (r := 49) F fk_T_57 G0 rfl d_T_undo_6 ?_
    refine v_geti F fk_T_72 G49 rfl d_T_undo_9 ?_
    refine v_te (y := nI D) hD ?_
    refine v_icmp_le F 17 d_T_undo_12 rfl (fun h12 => ?_) (fun h12 => ?_)
    · skip
      obtain ⟨N, hN, xN, rfl⟩ := nat_of (M := D) (i_nlt.mp h1) h12 rfl (by omega)
      refine v_aload_n F d_T_undo_17 rfl 0 rfl ?_
      refine v_getr (r := 49) F fk_T_57 G0 rfl d_T_undo_18 ?_
      refine v_geti F fk_T_72 G49 rfl d_T_undo_21 ?_
      refine v_te (y := nI D) hD ?_
      refine v_iload_n F d_T_undo_24 rfl 1 rfl ?_
      refine v_isub F d_T_undo_25 ?_
      refine v_ni (fun x1 ex1 => ?_)
      refine v_istore_n (ls' := [(2, .int x1), (0, .ref (u.2.1 0)), (1, .int (nI N))]) F d_T_undo_26 rfl (by decide) rfl ?_
      refine v_aload_n F d_T_undo_27 rfl 1 rfl ?_
      refine v_getr (r := 49) F fk_T_57 G0 rfl d_T_undo_28 ?_
      refine v_iload_n F d_T_undo_31 rfl 2 rfl ?_
      refine v_puti F fk_T_72 pk_D_size G49 rfl d_T_undo_32 ?_
      refine v_ns (fun σ2 eσ2 => ?_)
      refine v_aload_n F d_T_undo_35 rfl 1 rfl ?_
      refine v_runv (r_V F (c_T_replay X.2.1 u hA σ2 (n := n) (G := G) (kd := kd) (D := N) (wN := wN) (aN := aN) (by rw [eσ2]; exact bkOk_of hb (by rw [uI_o _ _ _ _ (by decide)]) (by rw [uI_o _ _ _ _ (by decide)]) (by rw [uI_o _ _ _ _ (by decide)])) (by rw [eσ2]; exact uI_s _ _ _ _) (by rw [eσ2]; exact un_dw hw hN) (by omega)) mo_T_replay st_T_173 rc_0 (by decide) rfl (Nat.le_of_ble_eq_true rfl) d_T_undo_36) (fun σ4 q5 => ?_)
      refine v_iload_n F d_T_undo_39 rfl 0 rfl ?_
      refine v_iret F hr rfl d_T_undo_40 ?_
      unfold tUndo
      rw [if_neg (by rintro (q | q); exact absurd q (by assumption); exact absurd h12 (i_lt_le.mpr q)), xN]
      subst_vars
      rfl
    · skip
      refine v_iconst (v := (-1)) F d_T_undo_15 ki_m1 ?_
      refine v_iret F hr rfl d_T_undo_16 ?_
      unfold tUndo
      (repeat' split) <;> first | rfl | (exfalso; grind) | (subst_vars; rfl) | grind
abbrev b_T_keep : ByteArray := prog_1_method_19_code
abbrev y_T_keep : MethodName := ⟨"TakerBook", "keep", "(I)I"⟩
theorem d_T_keep_0 : decode b_T_keep 0 = .ok (.iload_n 1, 1) := by decide +kernel
theorem d_T_keep_1 : decode b_T_keep 1 = .ok (.ifCond .lt 8, 3) := by decide +kernel
theorem d_T_keep_4 : decode b_T_keep 4 = .ok (.iload_n 1, 1) := by decide +kernel
theorem d_T_keep_5 : decode b_T_keep 5 = .ok (.iconst 3, 1) := by decide +kernel
theorem d_T_keep_6 : decode b_T_keep 6 = .ok (.if_icmp .lt 5, 3) := by decide +kernel
theorem d_T_keep_9 : decode b_T_keep 9 = .ok (.iconst (-1), 1) := by decide +kernel
theorem d_T_keep_10 : decode b_T_keep 10 = .ok (.ireturn, 1) := by decide +kernel
theorem d_T_keep_11 : decode b_T_keep 11 = .ok (.aload_n 0, 1) := by decide +kernel
theorem d_T_keep_12 : decode b_T_keep 12 = .ok (.getfield 36, 3) := by decide +kernel
theorem d_T_keep_15 : decode b_T_keep 15 = .ok (.getfield 118, 3) := by decide +kernel
theorem d_T_keep_18 : decode b_T_keep 18 = .ok (.ifCond .ne 6, 3) := by decide +kernel
theorem d_T_keep_21 : decode b_T_keep 21 = .ok (.bipush (-4), 2) := by decide +kernel
theorem d_T_keep_23 : decode b_T_keep 23 = .ok (.ireturn, 1) := by decide +kernel
theorem d_T_keep_24 : decode b_T_keep 24 = .ok (.aload_n 0, 1) := by decide +kernel
theorem d_T_keep_25 : decode b_T_keep 25 = .ok (.getfield 61, 3) := by decide +kernel
theorem d_T_keep_28 : decode b_T_keep 28 = .ok (.iload_n 1, 1) := by decide +kernel
theorem d_T_keep_29 : decode b_T_keep 29 = .ok (.aaload, 1) := by decide +kernel
theorem d_T_keep_30 : decode b_T_keep 30 = .ok (.aload_n 0, 1) := by decide +kernel
theorem d_T_keep_31 : decode b_T_keep 31 = .ok (.getfield 57, 3) := by decide +kernel
theorem d_T_keep_34 : decode b_T_keep 34 = .ok (.invokevirtual 176, 3) := by decide +kernel
theorem d_T_keep_37 : decode b_T_keep 37 = .ok (.aload_n 0, 1) := by decide +kernel
theorem d_T_keep_38 : decode b_T_keep 38 = .ok (.getfield 57, 3) := by decide +kernel
theorem d_T_keep_41 : decode b_T_keep 41 = .ok (.getfield 72, 3) := by decide +kernel
theorem d_T_keep_44 : decode b_T_keep 44 = .ok (.ireturn, 1) := by decide +kernel
theorem mo_T_keep : mok y_T_keep b_T_keep 2 (some .int) 1 := ⟨List.mem_of_getElem? (i := 703) (by decide +kernel), ⟨by decide +kernel, by decide +kernel, by decide +kernel⟩, List.mem_of_getElem? (i := 74) (by decide +kernel), by decide⟩
set_option maxHeartbeats 4000000 in
theorem c_T_keep (l : Launch) (u : Un) (hA : Ap u) (σ : St) (k : Int32) : MTi l u y_T_keep b_T_keep 2 .int 3 [.ref (u.2.1 0), .int k] σ (fun ans σ' => (ans, σ') = tKeep σ k) := by
  refine MT_of hA rfl (by decide) (Nat.le_of_ble_eq_true rfl) (fun X hl F hr => ?_)
  subst hl
  refine v_to (ls' := [(0, .ref (u.2.1 0)), (1, .int k)]) rfl ?_
  refine v_iload_n F d_T_keep_0 rfl 1 rfl ?_
  refine v_if_lt F 9 d_T_keep_1 rfl (fun h1 => ?_) (fun h1 => ?_)
  · skip
    refine v_iconst (v := (-1)) F d_T_keep_9 ki_m1 ?_
    refine v_iret F hr rfl d_T_keep_10 ?_
    unfold tKeep
    (repeat' split) <;> first | rfl | (exfalso; grind) | (subst_vars; rfl) | grind
  · skip
    refine v_iload_n F d_T_keep_4 rfl 1 rfl ?_
    refine v_iconst (v := 3) F d_T_keep_5 ki_3 ?_
    refine v_icmp_lt F 11 d_T_keep_6 rfl (fun h6 => ?_) (fun h6 => ?_)
    · skip
      obtain ⟨j, hj, xj, rfl⟩ := inR_nat (N := 3) ⟨i_nlt.mp h1, h6⟩ rfl (by decide)
      refine v_aload_n F d_T_keep_11 rfl 0 rfl ?_
      refine v_getr (r := 19) F fk_T_36 G0 rfl d_T_keep_12 ?_
      refine v_geti F fk_T_118 G19 rfl d_T_keep_15 ?_
      refine v_if_ne F 24 d_T_keep_18 rfl (fun h18 => ?_) (fun h18 => ?_)
      · skip
        refine v_aload_n F d_T_keep_24 rfl 0 rfl ?_
        refine v_getr (r := 52) F fk_T_61 G0 rfl d_T_keep_25 ?_
        refine v_iload_n F d_T_keep_28 rfl 1 rfl ?_
        refine v_aal F j G52 rfl rfl hj d_T_keep_29 ?_
        refine v_aload_n F d_T_keep_30 rfl 0 rfl ?_
        refine v_getr (r := 49) F fk_T_57 G0 rfl d_T_keep_31 ?_
        refine v_runv (r_V F (c_D_become X.2.1 u hA σ ((53 + 3 * j)) 49 (dOk_k hj) dOk_0 (by omega)) mo_D_become st_T_176 (recv_d (dOk_k hj)) (by decide) rfl (Nat.le_of_ble_eq_true rfl) d_T_keep_34) (fun σ2 q3 => ?_)
        refine v_aload_n F d_T_keep_37 rfl 0 rfl ?_
        refine v_getr (r := 49) F fk_T_57 G0 rfl d_T_keep_38 ?_
        refine v_geti F fk_T_72 G49 rfl d_T_keep_41 ?_
        refine v_iret F hr rfl d_T_keep_44 ?_
        unfold tKeep
        rw [if_neg (by rintro (q | q); exact absurd q (by assumption); exact absurd h6 (i_nlt.mpr q)), if_neg (by assumption), xj]
        subst_vars
        simp only [bcS, uI, uA]
        rw [if_neg (by omega), if_neg (by omega), if_neg (by omega)]
      · skip
        refine v_bipush (v := (-4)) F d_T_keep_21 kb_m4 ?_
        refine v_iret F hr rfl d_T_keep_23 ?_
        unfold tKeep
        (repeat' split) <;> first | rfl | (exfalso; grind) | (subst_vars; rfl) | grind
    · skip
      refine v_iconst (v := (-1)) F d_T_keep_9 ki_m1 ?_
      refine v_iret F hr rfl d_T_keep_10 ?_
      unfold tKeep
      (repeat' split) <;> first | rfl | (exfalso; grind) | (subst_vars; rfl) | grind
abbrev b_T_on : ByteArray := prog_1_method_20_code
abbrev y_T_on : MethodName := ⟨"TakerBook", "on", "(I)I"⟩
theorem d_T_on_0 : decode b_T_on 0 = .ok (.iload_n 1, 1) := by decide +kernel
theorem d_T_on_1 : decode b_T_on 1 = .ok (.ifCond .lt 8, 3) := by decide +kernel
theorem d_T_on_4 : decode b_T_on 4 = .ok (.iload_n 1, 1) := by decide +kernel
theorem d_T_on_5 : decode b_T_on 5 = .ok (.iconst 3, 1) := by decide +kernel
theorem d_T_on_6 : decode b_T_on 6 = .ok (.if_icmp .lt 5, 3) := by decide +kernel
theorem d_T_on_9 : decode b_T_on 9 = .ok (.iconst (-1), 1) := by decide +kernel
theorem d_T_on_10 : decode b_T_on 10 = .ok (.ireturn, 1) := by decide +kernel
theorem d_T_on_11 : decode b_T_on 11 = .ok (.aload_n 0, 1) := by decide +kernel
theorem d_T_on_12 : decode b_T_on 12 = .ok (.getfield 61, 3) := by decide +kernel
theorem d_T_on_15 : decode b_T_on 15 = .ok (.iload_n 1, 1) := by decide +kernel
theorem d_T_on_16 : decode b_T_on 16 = .ok (.aaload, 1) := by decide +kernel
theorem d_T_on_17 : decode b_T_on 17 = .ok (.getfield 72, 3) := by decide +kernel
theorem d_T_on_20 : decode b_T_on 20 = .ok (.ifCond .ge 9, 3) := by decide +kernel
theorem d_T_on_23 : decode b_T_on 23 = .ok (.aload_n 0, 1) := by decide +kernel
theorem d_T_on_24 : decode b_T_on 24 = .ok (.iconst 1, 1) := by decide +kernel
theorem d_T_on_25 : decode b_T_on 25 = .ok (.invokevirtual 80, 3) := by decide +kernel
theorem d_T_on_28 : decode b_T_on 28 = .ok (.ireturn, 1) := by decide +kernel
theorem d_T_on_29 : decode b_T_on 29 = .ok (.aload_n 0, 1) := by decide +kernel
theorem d_T_on_30 : decode b_T_on 30 = .ok (.getfield 57, 3) := by decide +kernel
theorem d_T_on_33 : decode b_T_on 33 = .ok (.aload_n 0, 1) := by decide +kernel
theorem d_T_on_34 : decode b_T_on 34 = .ok (.getfield 61, 3) := by decide +kernel
theorem d_T_on_37 : decode b_T_on 37 = .ok (.iload_n 1, 1) := by decide +kernel
theorem d_T_on_38 : decode b_T_on 38 = .ok (.aaload, 1) := by decide +kernel
theorem d_T_on_39 : decode b_T_on 39 = .ok (.invokevirtual 176, 3) := by decide +kernel
theorem d_T_on_42 : decode b_T_on 42 = .ok (.aload_n 0, 1) := by decide +kernel
theorem d_T_on_43 : decode b_T_on 43 = .ok (.invokevirtual 173, 3) := by decide +kernel
theorem d_T_on_46 : decode b_T_on 46 = .ok (.aload_n 0, 1) := by decide +kernel
theorem d_T_on_47 : decode b_T_on 47 = .ok (.getfield 57, 3) := by decide +kernel
theorem d_T_on_50 : decode b_T_on 50 = .ok (.getfield 72, 3) := by decide +kernel
theorem d_T_on_53 : decode b_T_on 53 = .ok (.ireturn, 1) := by decide +kernel
theorem mo_T_on : mok y_T_on b_T_on 2 (some .int) 1 := ⟨List.mem_of_getElem? (i := 712) (by decide +kernel), ⟨by decide +kernel, by decide +kernel, by decide +kernel⟩, List.mem_of_getElem? (i := 74) (by decide +kernel), by decide⟩
set_option maxHeartbeats 4000000 in
theorem c_T_on (l : Launch) (u : Un) (hA : Ap u) (σ : St) {n G : Nat} {kd : Nat → Nat} (hb : bkOk σ n G kd) {DK : Nat → Nat} {wK aK : Nat → Nat → Nat} (hk : ksOk σ n DK wK aK) (k : Int32) : MTi l u y_T_on b_T_on 2 .int 9 [.ref (u.2.1 0), .int k] σ (fun ans σ' => (ans, σ') = tOn σ G kd n DK wK aK k) := by
  refine MT_of hA rfl (by decide) (Nat.le_of_ble_eq_true rfl) (fun X hl F hr => ?_)
  subst hl
  refine v_to (ls' := [(0, .ref (u.2.1 0)), (1, .int k)]) rfl ?_
  obtain ⟨hn, hn6, hG, hG64, hkd, hk6⟩ := id hb
  refine v_iload_n F d_T_on_0 rfl 1 rfl ?_
  refine v_if_lt F 9 d_T_on_1 rfl (fun h1 => ?_) (fun h1 => ?_)
  · skip
    refine v_iconst (v := (-1)) F d_T_on_9 ki_m1 ?_
    refine v_iret F hr rfl d_T_on_10 ?_
    unfold tOn
    (repeat' split) <;> first | rfl | (exfalso; grind) | (subst_vars; rfl) | grind
  · skip
    refine v_iload_n F d_T_on_4 rfl 1 rfl ?_
    refine v_iconst (v := 3) F d_T_on_5 ki_3 ?_
    refine v_icmp_lt F 11 d_T_on_6 rfl (fun h6 => ?_) (fun h6 => ?_)
    · skip
      obtain ⟨j, hj, xj, rfl⟩ := inR_nat (N := 3) ⟨i_nlt.mp h1, h6⟩ rfl (by decide)
      refine v_aload_n F d_T_on_11 rfl 0 rfl ?_
      refine v_getr (r := 52) F fk_T_61 G0 rfl d_T_on_12 ?_
      refine v_iload_n F d_T_on_15 rfl 1 rfl ?_
      refine v_aal F j G52 rfl rfl hj d_T_on_16 ?_
      refine v_geti F fk_T_72 (gam_d (dOk_k hj)) rfl d_T_on_17 ?_
      refine v_if_ge F 29 d_T_on_20 rfl (fun h20 => ?_) (fun h20 => ?_)
      · skip
        obtain ⟨b1, b2, b3⟩ := bcS_dw hk hj h20
        refine v_aload_n F d_T_on_29 rfl 0 rfl ?_
        refine v_getr (r := 49) F fk_T_57 G0 rfl d_T_on_30 ?_
        refine v_aload_n F d_T_on_33 rfl 0 rfl ?_
        refine v_getr (r := 52) F fk_T_61 G0 rfl d_T_on_34 ?_
        refine v_iload_n F d_T_on_37 rfl 1 rfl ?_
        refine v_aal F j G52 rfl rfl hj d_T_on_38 ?_
        refine v_runv (r_V F (c_D_become X.2.1 u hA σ 49 ((53 + 3 * j)) dOk_0 (dOk_k hj) (by omega)) mo_D_become st_T_176 rc_49 (by decide) rfl (Nat.le_of_ble_eq_true rfl) d_T_on_39) (fun σ2 q3 => ?_)
        refine v_aload_n F d_T_on_42 rfl 0 rfl ?_
        refine v_runv (r_V F (c_T_replay X.2.1 u hA σ2 (n := n) (G := G) (kd := kd) (D := DK j) (wN := wK j) (aN := aK j) (by rw [q3]; exact bcS_ok hb) (by rw [q3]; exact b2) (by rw [q3]; exact b1) b3) mo_T_replay st_T_173 rc_0 (by decide) rfl (Nat.le_of_ble_eq_true rfl) d_T_on_43) (fun σ5 q6 => ?_)
        refine v_aload_n F d_T_on_46 rfl 0 rfl ?_
        refine v_getr (r := 49) F fk_T_57 G0 rfl d_T_on_47 ?_
        refine v_geti F fk_T_72 G49 rfl d_T_on_50 ?_
        refine v_iret F hr rfl d_T_on_53 ?_
        unfold tOn
        rw [if_neg (by rintro (q | q); exact absurd q (by assumption); exact absurd h6 (i_nlt.mpr q)), xj, if_neg (i_nlt.mpr h20)]
        subst_vars
        rw [(rpS_facts (bcS_ok hb) _ _ _).2.2.2 49 (by decide) (by decide), b2]
      · skip
        refine v_aload_n F d_T_on_23 rfl 0 rfl ?_
        refine v_iconst (v := 1) F d_T_on_24 ki_1 ?_
        refine v_runi (r_V F (c_T_refuse X.2.1 u hA σ 1 (by decide)) mo_T_refuse st_T_80 rc_0 (by decide) rfl (Nat.le_of_ble_eq_true rfl) d_T_on_25) (fun r7 σ8 q9 => ?_)
        obtain ⟨rfl, eσ8⟩ := q9
        refine v_iret F hr rfl d_T_on_28 ?_
        unfold tOn
        (repeat' split) <;> first | rfl | (exfalso; grind) | (subst_vars; rfl) | grind
    · skip
      refine v_iconst (v := (-1)) F d_T_on_9 ki_m1 ?_
      refine v_iret F hr rfl d_T_on_10 ?_
      unfold tOn
      (repeat' split) <;> first | rfl | (exfalso; grind) | (subst_vars; rfl) | grind
