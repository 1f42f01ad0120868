theorem st_T_142 : siteV "TakerBook" 142 ⟨"TakerBook", "isOpen", "()Z"⟩ := ⟨List.mem_of_getElem? (i := 654) (by decide +kernel), List.mem_of_getElem? (i := 656) (by decide +kernel), List.mem_of_getElem? (i := 7) (by decide +kernel)⟩
theorem st_T_146 : siteV "TakerBook" 146 ⟨"TakerBook", "enact", "(II)V"⟩ := ⟨List.mem_of_getElem? (i := 658) (by decide +kernel), List.mem_of_getElem? (i := 660) (by decide +kernel), List.mem_of_getElem? (i := 8) (by decide +kernel)⟩
theorem fk_T_154 : fok "TakerBook" 154 1 17 := ⟨(R_B, F_B, 19), rfl, by decide, List.mem_of_getElem? (i := 216) (by decide +kernel), rfl⟩
theorem kb_m2 : (Int8.ofInt (-2)).toInt32 = ((-2) : Int32) := by decide
theorem kb_m4 : (Int8.ofInt (-4)).toInt32 = ((-4) : Int32) := by decide
theorem fk_T_157 : fok "TakerBook" 157 1 16 := ⟨(R_B, F_B, 19), rfl, by decide, List.mem_of_getElem? (i := 213) (by decide +kernel), rfl⟩
theorem kb_m6 : (Int8.ofInt (-6)).toInt32 = ((-6) : Int32) := by decide
theorem st_T_121 : siteV "TakerBook" 121 ⟨"TakerBook$Band", "has", "(I)Z"⟩ := ⟨List.mem_of_getElem? (i := 539) (by decide +kernel), List.mem_of_getElem? (i := 540) (by decide +kernel), List.mem_of_getElem? (i := 541) (by decide +kernel)⟩
theorem st_T_160 : siteV "TakerBook" 160 ⟨"TakerBook$Band", "canBeCrossed", "(I)Z"⟩ := ⟨List.mem_of_getElem? (i := 682) (by decide +kernel), List.mem_of_getElem? (i := 683) (by decide +kernel), List.mem_of_getElem? (i := 684) (by decide +kernel)⟩
theorem fk_T_163 : fok "TakerBook" 163 1 5 := ⟨(R_B, F_B, 19), rfl, by decide, List.mem_of_getElem? (i := 188) (by decide +kernel), rfl⟩
theorem fk_T_166 : fok "TakerBook" 166 1 14 := ⟨(R_B, F_B, 19), rfl, by decide, List.mem_of_getElem? (i := 209) (by decide +kernel), rfl⟩
theorem st_T_169 : siteS "TakerBook" 169 ⟨"TakerBook", "isIn", "(II)Z"⟩ := ⟨List.mem_of_getElem? (i := 690) (by decide +kernel), List.mem_of_getElem? (i := 608) (by decide +kernel)⟩
theorem kb_7 : (Int8.ofInt 7).toInt32 = (7 : Int32) := by decide
theorem st_T_124 : siteV "TakerBook" 124 ⟨"TakerBook$Band", "tell", "(II)I"⟩ := ⟨List.mem_of_getElem? (i := 543) (by decide +kernel), List.mem_of_getElem? (i := 544) (by decide +kernel), List.mem_of_getElem? (i := 545) (by decide +kernel)⟩
theorem fk_T_127 : fok "TakerBook" 127 1 1 := ⟨(R_B, F_B, 19), rfl, by decide, List.mem_of_getElem? (i := 181) (by decide +kernel), rfl⟩
theorem st_T_130 : siteV "TakerBook" 130 ⟨"TakerBook$Band", "nature", "(I)LTakerBook$Thief;"⟩ := ⟨List.mem_of_getElem? (i := 639) (by decide +kernel), List.mem_of_getElem? (i := 503) (by decide +kernel), List.mem_of_getElem? (i := 504) (by decide +kernel)⟩
theorem st_T_139 : siteV "TakerBook" 139 ⟨"TakerBook$Band", "markOf", "(II)I"⟩ := ⟨List.mem_of_getElem? (i := 641) (by decide +kernel), List.mem_of_getElem? (i := 642) (by decide +kernel), List.mem_of_getElem? (i := 643) (by decide +kernel)⟩
abbrev b_T_week : ByteArray := prog_1_method_14_code
abbrev y_T_week : MethodName := ⟨"TakerBook", "week", "()I"⟩
theorem d_T_week_0 : decode b_T_week 0 = .ok (.aload_n 0, 1) := by decide +kernel
theorem d_T_week_1 : decode b_T_week 1 = .ok (.invokevirtual 142, 3) := by decide +kernel
theorem d_T_week_4 : decode b_T_week 4 = .ok (.ifCond .ne 6, 3) := by decide +kernel
theorem d_T_week_7 : decode b_T_week 7 = .ok (.bipush (-4), 2) := by decide +kernel
theorem d_T_week_9 : decode b_T_week 9 = .ok (.ireturn, 1) := by decide +kernel
theorem d_T_week_10 : decode b_T_week 10 = .ok (.aload_n 0, 1) := by decide +kernel
theorem d_T_week_11 : decode b_T_week 11 = .ok (.getfield 57, 3) := by decide +kernel
theorem d_T_week_14 : decode b_T_week 14 = .ok (.getfield 72, 3) := by decide +kernel
theorem d_T_week_17 : decode b_T_week 17 = .ok (.bipush 40, 2) := by decide +kernel
theorem d_T_week_19 : decode b_T_week 19 = .ok (.if_icmp .lt 6, 3) := by decide +kernel
theorem d_T_week_22 : decode b_T_week 22 = .ok (.bipush (-2), 2) := by decide +kernel
theorem d_T_week_24 : decode b_T_week 24 = .ok (.ireturn, 1) := by decide +kernel
theorem d_T_week_25 : decode b_T_week 25 = .ok (.aload_n 0, 1) := by decide +kernel
theorem d_T_week_26 : decode b_T_week 26 = .ok (.iconst 0, 1) := by decide +kernel
theorem d_T_week_27 : decode b_T_week 27 = .ok (.iconst 0, 1) := by decide +kernel
theorem d_T_week_28 : decode b_T_week 28 = .ok (.invokevirtual 146, 3) := by decide +kernel
theorem d_T_week_31 : decode b_T_week 31 = .ok (.aload_n 0, 1) := by decide +kernel
theorem d_T_week_32 : decode b_T_week 32 = .ok (.aload_n 0, 1) := by decide +kernel
theorem d_T_week_33 : decode b_T_week 33 = .ok (.getfield 36, 3) := by decide +kernel
theorem d_T_week_36 : decode b_T_week 36 = .ok (.getfield 150, 3) := by decide +kernel
theorem d_T_week_39 : decode b_T_week 39 = .ok (.ifCond .eq 7, 3) := by decide +kernel
theorem d_T_week_42 : decode b_T_week 42 = .ok (.iconst 1, 1) := by decide +kernel
theorem d_T_week_43 : decode b_T_week 43 = .ok (.goto 4, 3) := by decide +kernel
theorem d_T_week_46 : decode b_T_week 46 = .ok (.iconst 0, 1) := by decide +kernel
theorem d_T_week_47 : decode b_T_week 47 = .ok (.putfield 88, 3) := by decide +kernel
theorem d_T_week_50 : decode b_T_week 50 = .ok (.aload_n 0, 1) := by decide +kernel
theorem d_T_week_51 : decode b_T_week 51 = .ok (.getfield 36, 3) := by decide +kernel
theorem d_T_week_54 : decode b_T_week 54 = .ok (.getfield 154, 3) := by decide +kernel
theorem d_T_week_57 : decode b_T_week 57 = .ok (.ireturn, 1) := by decide +kernel
theorem mo_T_week : mok y_T_week b_T_week 1 (some .int) 0 := ⟨List.mem_of_getElem? (i := 653) (by decide +kernel), ⟨by decide +kernel, by decide +kernel, by decide +kernel⟩, List.mem_of_getElem? (i := 74) (by decide +kernel), by decide⟩
set_option maxHeartbeats 4000000 in
theorem c_T_week (l : Launch) (u : Un) (hA : Ap u) (σ : St) {n G : Nat} {kd : Nat → Nat} (hb : bkOk σ n G kd) {L : Nat} (hL : σ.1 19 14 = nI L) (hL64 : L < 64) {D : Nat} (hD : σ.1 49 2 = nI D) (hDle : D ≤ 40)  : MTi l u y_T_week b_T_week 1 .int 9 [.ref (u.2.1 0)] σ (fun ans σ' => (ans, σ') = tWeek σ G kd n L D) := by
  refine MT_of hA rfl (by decide) (Nat.le_of_ble_eq_true rfl) (fun X hl F hr => ?_)
  subst hl
  refine v_to (ls' := [(0, .ref (u.2.1 0))]) rfl ?_
  obtain ⟨hn, hn6, hG, hG64, hkd, hk6⟩ := id hb
  refine v_aload_n F d_T_week_0 rfl 0 rfl ?_
  refine v_runi (r_V F (c_T_isOpen X.2.1 u hA σ  ) mo_T_isOpen st_T_142 rc_0 (by decide) rfl (Nat.le_of_ble_eq_true rfl) d_T_week_1) (fun r1 σ2 q3 => ?_)
  obtain ⟨rfl, rfl⟩ := q3
  refine v_bf F 10 d_T_week_4 rfl (fun h4 => ?_) (fun h4 => ?_)
  · skip
    refine v_aload_n F d_T_week_10 rfl 0 rfl ?_
    refine v_getr (r := 49) F fk_T_57 G0 rfl d_T_week_11 ?_
    refine v_geti F fk_T_72 G49 rfl d_T_week_14 ?_
    refine v_te (y := nI D) hD ?_
    refine v_bipush (v := 40) F d_T_week_17 kb_40 ?_
    refine v_icmp_lt F 25 d_T_week_19 rfl (fun h19 => ?_) (fun h19 => ?_)
    · skip
      have h19 : D < 40 := (nI_ltI (a := D) (b := 40) (by omega) (by omega)).mp h19
      have hD40 := h19
      refine v_aload_n F d_T_week_25 rfl 0 rfl ?_
      refine v_iconst (v := 0) F d_T_week_26 ki_0 ?_
      refine v_iconst (v := 0) F d_T_week_27 ki_0 ?_
      refine v_runv (r_V F (c_T_enact X.2.1 u hA σ hb hL hL64 hD hD40 0 0 (by omega) (by omega)) mo_T_enact st_T_146 rc_0 (by decide) rfl (Nat.le_of_ble_eq_true rfl) d_T_week_28) (fun σ5 q6 => ?_)
      refine v_aload_n F d_T_week_31 rfl 0 rfl ?_
      refine v_aload_n F d_T_week_32 rfl 0 rfl ?_
      refine v_getr (r := 19) F fk_T_36 G0 rfl d_T_week_33 ?_
      refine v_geti F fk_T_150 G19 rfl d_T_week_36 ?_
      refine v_if_eq F 46 d_T_week_39 rfl (fun h39 => ?_) (fun h39 => ?_)
      · skip
        refine v_iconst (v := 0) F d_T_week_46 ki_0 ?_
        refine v_puti F fk_T_88 pk_T_told G0 rfl d_T_week_47 ?_
        refine v_ns (fun σ7 eσ7 => ?_)
        refine v_aload_n F d_T_week_50 rfl 0 rfl ?_
        refine v_getr (r := 19) F fk_T_36 G0 rfl d_T_week_51 ?_
        refine v_geti F fk_T_154 G19 rfl d_T_week_54 ?_
        refine v_iret F hr rfl d_T_week_57 ?_
        first | (simp_all [tWeek, stS, nI_0, n1l, n2l, n3l, uI_o]; done) | (simp_all [tWeek, stS, nI_0, n1l, n2l, n3l, uI_o]; grind)
      · skip
        refine v_iconst (v := 1) F d_T_week_42 ki_1 ?_
        refine v_goto F 47 d_T_week_43 rfl ?_
        refine v_puti F fk_T_88 pk_T_told G0 rfl d_T_week_47 ?_
        refine v_ns (fun σ8 eσ8 => ?_)
        refine v_aload_n F d_T_week_50 rfl 0 rfl ?_
        refine v_getr (r := 19) F fk_T_36 G0 rfl d_T_week_51 ?_
        refine v_geti F fk_T_154 G19 rfl d_T_week_54 ?_
        refine v_iret F hr rfl d_T_week_57 ?_
        first | (simp_all [tWeek, stS, nI_0, n1l, n2l, n3l, uI_o]; done) | (simp_all [tWeek, stS, nI_0, n1l, n2l, n3l, uI_o]; grind)
    · skip
      have h19 : ¬ D < 40 := fun q => h19 ((nI_ltI (a := D) (b := 40) (by omega) (by omega)).mpr q)
      refine v_bipush (v := (-2)) F d_T_week_22 kb_m2 ?_
      refine v_iret F hr rfl d_T_week_24 ?_
      first | (simp_all [tWeek, stS, nI_0, n1l, n2l, n3l, uI_o]; done) | (simp_all [tWeek, stS, nI_0, n1l, n2l, n3l, uI_o]; grind)
  · skip
    refine v_bipush (v := (-4)) F d_T_week_7 kb_m4 ?_
    refine v_iret F hr rfl d_T_week_9 ?_
    first | (simp_all [tWeek, stS, nI_0, n1l, n2l, n3l, uI_o]; done) | (simp_all [tWeek, stS, nI_0, n1l, n2l, n3l, uI_o]; grind)
abbrev b_T_back : ByteArray := prog_1_method_15_code
abbrev y_T_back : MethodName := ⟨"TakerBook", "back", "(I)I"⟩
theorem d_T_back_0 : decode b_T_back 0 = .ok (.iload_n 1, 1) := by decide +kernel
theorem d_T_back_1 : decode b_T_back 1 = .ok (.iconst 1, 1) := by decide +kernel
theorem d_T_back_2 : decode b_T_back 2 = .ok (.if_icmp .lt 9, 3) := by decide +kernel
theorem d_T_back_5 : decode b_T_back 5 = .ok (.iload_n 1, 1) := by decide +kernel
theorem d_T_back_6 : decode b_T_back 6 = .ok (.bipush 99, 2) := by decide +kernel
theorem d_T_back_8 : decode b_T_back 8 = .ok (.if_icmp .le 5, 3) := by decide +kernel
theorem d_T_back_11 : decode b_T_back 11 = .ok (.iconst (-1), 1) := by decide +kernel
theorem d_T_back_12 : decode b_T_back 12 = .ok (.ireturn, 1) := by decide +kernel
theorem d_T_back_13 : decode b_T_back 13 = .ok (.aload_n 0, 1) := by decide +kernel
theorem d_T_back_14 : decode b_T_back 14 = .ok (.invokevirtual 142, 3) := by decide +kernel
theorem d_T_back_17 : decode b_T_back 17 = .ok (.ifCond .ne 6, 3) := by decide +kernel
theorem d_T_back_20 : decode b_T_back 20 = .ok (.bipush (-4), 2) := by decide +kernel
theorem d_T_back_22 : decode b_T_back 22 = .ok (.ireturn, 1) := by decide +kernel
theorem d_T_back_23 : decode b_T_back 23 = .ok (.iload_n 1, 1) := by decide +kernel
theorem d_T_back_24 : decode b_T_back 24 = .ok (.aload_n 0, 1) := by decide +kernel
theorem d_T_back_25 : decode b_T_back 25 = .ok (.getfield 36, 3) := by decide +kernel
theorem d_T_back_28 : decode b_T_back 28 = .ok (.getfield 154, 3) := by decide +kernel
theorem d_T_back_31 : decode b_T_back 31 = .ok (.if_icmp .le 6, 3) := by decide +kernel
theorem d_T_back_34 : decode b_T_back 34 = .ok (.bipush (-6), 2) := by decide +kernel
theorem d_T_back_36 : decode b_T_back 36 = .ok (.ireturn, 1) := by decide +kernel
theorem d_T_back_37 : decode b_T_back 37 = .ok (.aload_n 0, 1) := by decide +kernel
theorem d_T_back_38 : decode b_T_back 38 = .ok (.getfield 57, 3) := by decide +kernel
theorem d_T_back_41 : decode b_T_back 41 = .ok (.getfield 72, 3) := by decide +kernel
theorem d_T_back_44 : decode b_T_back 44 = .ok (.bipush 40, 2) := by decide +kernel
theorem d_T_back_46 : decode b_T_back 46 = .ok (.if_icmp .lt 6, 3) := by decide +kernel
theorem d_T_back_49 : decode b_T_back 49 = .ok (.bipush (-2), 2) := by decide +kernel
theorem d_T_back_51 : decode b_T_back 51 = .ok (.ireturn, 1) := by decide +kernel
theorem d_T_back_52 : decode b_T_back 52 = .ok (.aload_n 0, 1) := by decide +kernel
theorem d_T_back_53 : decode b_T_back 53 = .ok (.iconst 1, 1) := by decide +kernel
theorem d_T_back_54 : decode b_T_back 54 = .ok (.iload_n 1, 1) := by decide +kernel
theorem d_T_back_55 : decode b_T_back 55 = .ok (.invokevirtual 146, 3) := by decide +kernel
theorem d_T_back_58 : decode b_T_back 58 = .ok (.aload_n 0, 1) := by decide +kernel
theorem d_T_back_59 : decode b_T_back 59 = .ok (.getfield 36, 3) := by decide +kernel
theorem d_T_back_62 : decode b_T_back 62 = .ok (.getfield 157, 3) := by decide +kernel
theorem d_T_back_65 : decode b_T_back 65 = .ok (.ireturn, 1) := by decide +kernel
theorem mo_T_back : mok y_T_back b_T_back 2 (some .int) 1 := ⟨List.mem_of_getElem? (i := 677) (by decide +kernel), ⟨by decide +kernel, by decide +kernel, by decide +kernel⟩, List.mem_of_getElem? (i := 74) (by decide +kernel), by decide⟩
set_option maxHeartbeats 4000000 in
theorem c_T_back (l : Launch) (u : Un) (hA : Ap u) (σ : St) {n G : Nat} {kd : Nat → Nat} (hb : bkOk σ n G kd) {L : Nat} (hL : σ.1 19 14 = nI L) (hL64 : L < 64) {D : Nat} (hD : σ.1 49 2 = nI D) (hDle : D ≤ 40) (m : Int32) : MTi l u y_T_back b_T_back 2 .int 9 [.ref (u.2.1 0), .int m] σ (fun ans σ' => (ans, σ') = tBack σ D m) := by
  refine MT_of hA rfl (by decide) (Nat.le_of_ble_eq_true rfl) (fun X hl F hr => ?_)
  subst hl
  refine v_to (ls' := [(0, .ref (u.2.1 0)), (1, .int m)]) rfl ?_
  obtain ⟨hn, hn6, hG, hG64, hkd, hk6⟩ := id hb
  refine v_iload_n F d_T_back_0 rfl 1 rfl ?_
  refine v_iconst (v := 1) F d_T_back_1 ki_1 ?_
  refine v_icmp_lt F 11 d_T_back_2 rfl (fun h2 => ?_) (fun h2 => ?_)
  · skip
    refine v_iconst (v := (-1)) F d_T_back_11 ki_m1 ?_
    refine v_iret F hr rfl d_T_back_12 ?_
    first | (simp_all [tBack, stS, nI_0, n1l, n2l, n3l, uI_o]; done) | (simp_all [tBack, stS, nI_0, n1l, n2l, n3l, uI_o]; grind)
  · skip
    refine v_iload_n F d_T_back_5 rfl 1 rfl ?_
    refine v_bipush (v := 99) F d_T_back_6 kb_99 ?_
    refine v_icmp_le F 13 d_T_back_8 rfl (fun h8 => ?_) (fun h8 => ?_)
    · skip
      obtain ⟨a, ha, xa, rfl⟩ := nat_of (M := 99) (le_trans1 h2) h8 rfl (by decide)
      refine v_aload_n F d_T_back_13 rfl 0 rfl ?_
      refine v_runi (r_V F (c_T_isOpen X.2.1 u hA σ  ) mo_T_isOpen st_T_142 rc_0 (by decide) rfl (Nat.le_of_ble_eq_true rfl) d_T_back_14) (fun r1 σ2 q3 => ?_)
      obtain ⟨rfl, rfl⟩ := q3
      refine v_bf F 23 d_T_back_17 rfl (fun h17 => ?_) (fun h17 => ?_)
      · skip
        refine v_iload_n F d_T_back_23 rfl 1 rfl ?_
        refine v_aload_n F d_T_back_24 rfl 0 rfl ?_
        refine v_getr (r := 19) F fk_T_36 G0 rfl d_T_back_25 ?_
        refine v_geti F fk_T_154 G19 rfl d_T_back_28 ?_
        refine v_icmp_le F 37 d_T_back_31 rfl (fun h31 => ?_) (fun h31 => ?_)
        · skip
          refine v_aload_n F d_T_back_37 rfl 0 rfl ?_
          refine v_getr (r := 49) F fk_T_57 G0 rfl d_T_back_38 ?_
          refine v_geti F fk_T_72 G49 rfl d_T_back_41 ?_
          refine v_te (y := nI D) hD ?_
          refine v_bipush (v := 40) F d_T_back_44 kb_40 ?_
          refine v_icmp_lt F 52 d_T_back_46 rfl (fun h46 => ?_) (fun h46 => ?_)
          · skip
            have h46 : D < 40 := (nI_ltI (a := D) (b := 40) (by omega) (by omega)).mp h46
            have hD40 := h46
            refine v_aload_n F d_T_back_52 rfl 0 rfl ?_
            refine v_iconst (v := 1) F d_T_back_53 ki_1 ?_
            refine v_iload_n F d_T_back_54 rfl 1 rfl ?_
            refine v_runv (r_V F (c_T_enact X.2.1 u hA σ hb hL hL64 hD hD40 1 a (by omega) (by omega)) mo_T_enact st_T_146 rc_0 (by decide) rfl (Nat.le_of_ble_eq_true rfl) d_T_back_55) (fun σ5 q6 => ?_)
            refine v_aload_n F d_T_back_58 rfl 0 rfl ?_
            refine v_getr (r := 19) F fk_T_36 G0 rfl d_T_back_59 ?_
            refine v_geti F fk_T_157 G19 rfl d_T_back_62 ?_
            refine v_iret F hr rfl d_T_back_65 ?_
            first | (simp_all [tBack, stS, nI_0, n1l, n2l, n3l, uI_o]; done) | (simp_all [tBack, stS, nI_0, n1l, n2l, n3l, uI_o]; grind)
          · skip
            have h46 : ¬ D < 40 := fun q => h46 ((nI_ltI (a := D) (b := 40) (by omega) (by omega)).mpr q)
            refine v_bipush (v := (-2)) F d_T_back_49 kb_m2 ?_
            refine v_iret F hr rfl d_T_back_51 ?_
            first | (simp_all [tBack, stS, nI_0, n1l, n2l, n3l, uI_o]; done) | (simp_all [tBack, stS, nI_0, n1l, n2l, n3l, uI_o]; grind)
        · skip
          refine v_bipush (v := (-6)) F d_T_back_34 kb_m6 ?_
          refine v_iret F hr rfl d_T_back_36 ?_
          first | (simp_all [tBack, stS, nI_0, n1l, n2l, n3l, uI_o]; done) | (simp_all [tBack, stS, nI_0, n1l, n2l, n3l, uI_o]; grind)
      · skip
        refine v_bipush (v := (-4)) F d_T_back_20 kb_m4 ?_
        refine v_iret F hr rfl d_T_back_22 ?_
        first | (simp_all [tBack, stS, nI_0, n1l, n2l, n3l, uI_o]; done) | (simp_all [tBack, stS, nI_0, n1l, n2l, n3l, uI_o]; grind)
    · skip
      refine v_iconst (v := (-1)) F d_T_back_11 ki_m1 ?_
      refine v_iret F hr rfl d_T_back_12 ?_
      first | (simp_all [tBack, stS, nI_0, n1l, n2l, n3l, uI_o]; done) | (simp_all [tBack, stS, nI_0, n1l, n2l, n3l, uI_o]; grind)
abbrev b_T_cross : ByteArray := prog_1_method_16_code
abbrev y_T_cross : MethodName := ⟨"TakerBook", "cross", "(I)I"⟩
theorem d_T_cross_0 : decode b_T_cross 0 = .ok (.aload_n 0, 1) := by decide +kernel
theorem d_T_cross_1 : decode b_T_cross 1 = .ok (.getfield 36, 3) := by decide +kernel
theorem d_T_cross_4 : decode b_T_cross 4 = .ok (.iload_n 1, 1) := by decide +kernel
theorem d_T_cross_5 : decode b_T_cross 5 = .ok (.invokevirtual 121, 3) := by decide +kernel
theorem d_T_cross_8 : decode b_T_cross 8 = .ok (.ifCond .ne 5, 3) := by decide +kernel
theorem d_T_cross_11 : decode b_T_cross 11 = .ok (.iconst (-1), 1) := by decide +kernel
theorem d_T_cross_12 : decode b_T_cross 12 = .ok (.ireturn, 1) := by decide +kernel
theorem d_T_cross_13 : decode b_T_cross 13 = .ok (.aload_n 0, 1) := by decide +kernel
theorem d_T_cross_14 : decode b_T_cross 14 = .ok (.getfield 36, 3) := by decide +kernel
theorem d_T_cross_17 : decode b_T_cross 17 = .ok (.getfield 150, 3) := by decide +kernel
theorem d_T_cross_20 : decode b_T_cross 20 = .ok (.ifCond .ne 14, 3) := by decide +kernel
theorem d_T_cross_23 : decode b_T_cross 23 = .ok (.aload_n 0, 1) := by decide +kernel
theorem d_T_cross_24 : decode b_T_cross 24 = .ok (.getfield 36, 3) := by decide +kernel
theorem d_T_cross_27 : decode b_T_cross 27 = .ok (.iload_n 1, 1) := by decide +kernel
theorem d_T_cross_28 : decode b_T_cross 28 = .ok (.invokevirtual 160, 3) := by decide +kernel
theorem d_T_cross_31 : decode b_T_cross 31 = .ok (.ifCond .ne 6, 3) := by decide +kernel
theorem d_T_cross_34 : decode b_T_cross 34 = .ok (.bipush (-4), 2) := by decide +kernel
theorem d_T_cross_36 : decode b_T_cross 36 = .ok (.ireturn, 1) := by decide +kernel
theorem d_T_cross_37 : decode b_T_cross 37 = .ok (.aload_n 0, 1) := by decide +kernel
theorem d_T_cross_38 : decode b_T_cross 38 = .ok (.getfield 57, 3) := by decide +kernel
theorem d_T_cross_41 : decode b_T_cross 41 = .ok (.getfield 72, 3) := by decide +kernel
theorem d_T_cross_44 : decode b_T_cross 44 = .ok (.bipush 40, 2) := by decide +kernel
theorem d_T_cross_46 : decode b_T_cross 46 = .ok (.if_icmp .lt 6, 3) := by decide +kernel
theorem d_T_cross_49 : decode b_T_cross 49 = .ok (.bipush (-2), 2) := by decide +kernel
theorem d_T_cross_51 : decode b_T_cross 51 = .ok (.ireturn, 1) := by decide +kernel
theorem d_T_cross_52 : decode b_T_cross 52 = .ok (.aload_n 0, 1) := by decide +kernel
theorem d_T_cross_53 : decode b_T_cross 53 = .ok (.iconst 2, 1) := by decide +kernel
theorem d_T_cross_54 : decode b_T_cross 54 = .ok (.iload_n 1, 1) := by decide +kernel
theorem d_T_cross_55 : decode b_T_cross 55 = .ok (.invokevirtual 146, 3) := by decide +kernel
theorem d_T_cross_58 : decode b_T_cross 58 = .ok (.aload_n 0, 1) := by decide +kernel
theorem d_T_cross_59 : decode b_T_cross 59 = .ok (.getfield 36, 3) := by decide +kernel
theorem d_T_cross_62 : decode b_T_cross 62 = .ok (.getfield 163, 3) := by decide +kernel
theorem d_T_cross_65 : decode b_T_cross 65 = .ok (.iload_n 1, 1) := by decide +kernel
theorem d_T_cross_66 : decode b_T_cross 66 = .ok (.iaload, 1) := by decide +kernel
theorem d_T_cross_67 : decode b_T_cross 67 = .ok (.ireturn, 1) := by decide +kernel
theorem mo_T_cross : mok y_T_cross b_T_cross 2 (some .int) 1 := ⟨List.mem_of_getElem? (i := 681) (by decide +kernel), ⟨by decide +kernel, by decide +kernel, by decide +kernel⟩, List.mem_of_getElem? (i := 74) (by decide +kernel), by decide⟩
set_option maxHeartbeats 4000000 in
theorem c_T_cross (l : Launch) (u : Un) (hA : Ap u) (σ : St) {n G : Nat} {kd : Nat → Nat} (hb : bkOk σ n G kd) {L : Nat} (hL : σ.1 19 14 = nI L) (hL64 : L < 64) {D : Nat} (hD : σ.1 49 2 = nI D) (hDle : D ≤ 40) (i : Int32) : MTi l u y_T_cross b_T_cross 2 .int 9 [.ref (u.2.1 0), .int i] σ (fun ans σ' => (ans, σ') = tCross σ L D i) := by
  refine MT_of hA rfl (by decide) (Nat.le_of_ble_eq_true rfl) (fun X hl F hr => ?_)
  subst hl
  refine v_to (ls' := [(0, .ref (u.2.1 0)), (1, .int i)]) rfl ?_
  obtain ⟨hn, hn6, hG, hG64, hkd, hk6⟩ := id hb
  refine v_aload_n F d_T_cross_0 rfl 0 rfl ?_
  refine v_getr (r := 19) F fk_T_36 G0 rfl d_T_cross_1 ?_
  refine v_iload_n F d_T_cross_4 rfl 1 rfl ?_
  refine v_runi (r_V F (c_B_has X.2.1 u hA σ i ) mo_B_has st_T_121 rc_19 (by decide) rfl (Nat.le_of_ble_eq_true rfl) d_T_cross_5) (fun r1 σ2 q3 => ?_)
  obtain ⟨rfl, rfl⟩ := q3
  refine v_bf F 13 d_T_cross_8 rfl (fun h8 => ?_) (fun h8 => ?_)
  · skip
    obtain ⟨j, hj, xj, rfl⟩ := has_nat h8 hn hn6
    refine v_aload_n F d_T_cross_13 rfl 0 rfl ?_
    refine v_getr (r := 19) F fk_T_36 G0 rfl d_T_cross_14 ?_
    refine v_geti F fk_T_150 G19 rfl d_T_cross_17 ?_
    refine v_if_ne F 34 d_T_cross_20 rfl (fun h20 => ?_) (fun h20 => ?_)
    · skip
      refine v_bipush (v := (-4)) F d_T_cross_34 kb_m4 ?_
      refine v_iret F hr rfl d_T_cross_36 ?_
      first | (simp_all [tCross, stS, nI_0, n1l, n2l, n3l, uI_o]; done) | (simp_all [tCross, stS, nI_0, n1l, n2l, n3l, uI_o]; grind)
    · skip
      refine v_aload_n F d_T_cross_23 rfl 0 rfl ?_
      refine v_getr (r := 19) F fk_T_36 G0 rfl d_T_cross_24 ?_
      refine v_iload_n F d_T_cross_27 rfl 1 rfl ?_
      refine v_runi (r_V F (c_B_canBeCrossed X.2.1 u hA σ hL hL64 j (by omega)) mo_B_canBeCrossed st_T_160 rc_19 (by decide) rfl (Nat.le_of_ble_eq_true rfl) d_T_cross_28) (fun r4 σ5 q6 => ?_)
      obtain ⟨rfl, rfl⟩ := q6
      refine v_bf F 37 d_T_cross_31 rfl (fun h31 => ?_) (fun h31 => ?_)
      · skip
        refine v_aload_n F d_T_cross_37 rfl 0 rfl ?_
        refine v_getr (r := 49) F fk_T_57 G0 rfl d_T_cross_38 ?_
        refine v_geti F fk_T_72 G49 rfl d_T_cross_41 ?_
        refine v_te (y := nI D) hD ?_
        refine v_bipush (v := 40) F d_T_cross_44 kb_40 ?_
        refine v_icmp_lt F 52 d_T_cross_46 rfl (fun h46 => ?_) (fun h46 => ?_)
        · skip
          have h46 : D < 40 := (nI_ltI (a := D) (b := 40) (by omega) (by omega)).mp h46
          have hD40 := h46
          refine v_aload_n F d_T_cross_52 rfl 0 rfl ?_
          refine v_iconst (v := 2) F d_T_cross_53 ki_2 ?_
          refine v_iload_n F d_T_cross_54 rfl 1 rfl ?_
          refine v_runv (r_V F (c_T_enact X.2.1 u hA σ hb hL hL64 hD hD40 2 j (by omega) (by omega)) mo_T_enact st_T_146 rc_0 (by decide) rfl (Nat.le_of_ble_eq_true rfl) d_T_cross_55) (fun σ8 q9 => ?_)
          refine v_aload_n F d_T_cross_58 rfl 0 rfl ?_
          refine v_getr (r := 19) F fk_T_36 G0 rfl d_T_cross_59 ?_
          refine v_getr (r := 31) F fk_T_163 G19 rfl d_T_cross_62 ?_
          refine v_iload_n F d_T_cross_65 rfl 1 rfl ?_
          refine v_ial F j G31 rfl (by omega) d_T_cross_66 ?_
          refine v_iret F hr rfl d_T_cross_67 ?_
          first | (simp_all [tCross, stS, nI_0, n1l, n2l, n3l, uI_o]; done) | (simp_all [tCross, stS, nI_0, n1l, n2l, n3l, uI_o]; grind)
        · skip
          have h46 : ¬ D < 40 := fun q => h46 ((nI_ltI (a := D) (b := 40) (by omega) (by omega)).mpr q)
          refine v_bipush (v := (-2)) F d_T_cross_49 kb_m2 ?_
          refine v_iret F hr rfl d_T_cross_51 ?_
          first | (simp_all [tCross, stS, nI_0, n1l, n2l, n3l, uI_o]; done) | (simp_all [tCross, stS, nI_0, n1l, n2l, n3l, uI_o]; grind)
      · skip
        refine v_bipush (v := (-4)) F d_T_cross_34 kb_m4 ?_
        refine v_iret F hr rfl d_T_cross_36 ?_
        first | (simp_all [tCross, stS, nI_0, n1l, n2l, n3l, uI_o]; done) | (simp_all [tCross, stS, nI_0, n1l, n2l, n3l, uI_o]; grind)
  · skip
    refine v_iconst (v := (-1)) F d_T_cross_11 ki_m1 ?_
    refine v_iret F hr rfl d_T_cross_12 ?_
    first | (simp_all [tCross, stS, nI_0, n1l, n2l, n3l, uI_o]; done) | (simp_all [tCross, stS, nI_0, n1l, n2l, n3l, uI_o]; grind)
abbrev b_T_give : ByteArray := prog_1_method_17_code
abbrev y_T_give : MethodName := ⟨"TakerBook", "give", "(I)I"⟩
theorem d_T_give_0 : decode b_T_give 0 = .ok (.aload_n 0, 1) := by decide +kernel
theorem d_T_give_1 : decode b_T_give 1 = .ok (.getfield 36, 3) := by decide +kernel
theorem d_T_give_4 : decode b_T_give 4 = .ok (.iload_n 1, 1) := by decide +kernel
theorem d_T_give_5 : decode b_T_give 5 = .ok (.invokevirtual 121, 3) := by decide +kernel
theorem d_T_give_8 : decode b_T_give 8 = .ok (.ifCond .ne 5, 3) := by decide +kernel
theorem d_T_give_11 : decode b_T_give 11 = .ok (.iconst (-1), 1) := by decide +kernel
theorem d_T_give_12 : decode b_T_give 12 = .ok (.ireturn, 1) := by decide +kernel
theorem d_T_give_13 : decode b_T_give 13 = .ok (.aload_n 0, 1) := by decide +kernel
theorem d_T_give_14 : decode b_T_give 14 = .ok (.getfield 36, 3) := by decide +kernel
theorem d_T_give_17 : decode b_T_give 17 = .ok (.getfield 150, 3) := by decide +kernel
theorem d_T_give_20 : decode b_T_give 20 = .ok (.ifCond .ne 17, 3) := by decide +kernel
theorem d_T_give_23 : decode b_T_give 23 = .ok (.iload_n 1, 1) := by decide +kernel
theorem d_T_give_24 : decode b_T_give 24 = .ok (.aload_n 0, 1) := by decide +kernel
theorem d_T_give_25 : decode b_T_give 25 = .ok (.getfield 36, 3) := by decide +kernel
theorem d_T_give_28 : decode b_T_give 28 = .ok (.getfield 166, 3) := by decide +kernel
theorem d_T_give_31 : decode b_T_give 31 = .ok (.invokestatic 169, 3) := by decide +kernel
theorem d_T_give_34 : decode b_T_give 34 = .ok (.ifCond .ne 6, 3) := by decide +kernel
theorem d_T_give_37 : decode b_T_give 37 = .ok (.bipush (-4), 2) := by decide +kernel
theorem d_T_give_39 : decode b_T_give 39 = .ok (.ireturn, 1) := by decide +kernel
theorem d_T_give_40 : decode b_T_give 40 = .ok (.aload_n 0, 1) := by decide +kernel
theorem d_T_give_41 : decode b_T_give 41 = .ok (.getfield 57, 3) := by decide +kernel
theorem d_T_give_44 : decode b_T_give 44 = .ok (.getfield 72, 3) := by decide +kernel
theorem d_T_give_47 : decode b_T_give 47 = .ok (.bipush 40, 2) := by decide +kernel
theorem d_T_give_49 : decode b_T_give 49 = .ok (.if_icmp .lt 6, 3) := by decide +kernel
theorem d_T_give_52 : decode b_T_give 52 = .ok (.bipush (-2), 2) := by decide +kernel
theorem d_T_give_54 : decode b_T_give 54 = .ok (.ireturn, 1) := by decide +kernel
theorem d_T_give_55 : decode b_T_give 55 = .ok (.aload_n 0, 1) := by decide +kernel
theorem d_T_give_56 : decode b_T_give 56 = .ok (.iconst 3, 1) := by decide +kernel
theorem d_T_give_57 : decode b_T_give 57 = .ok (.iload_n 1, 1) := by decide +kernel
theorem d_T_give_58 : decode b_T_give 58 = .ok (.invokevirtual 146, 3) := by decide +kernel
theorem d_T_give_61 : decode b_T_give 61 = .ok (.aload_n 0, 1) := by decide +kernel
theorem d_T_give_62 : decode b_T_give 62 = .ok (.getfield 36, 3) := by decide +kernel
theorem d_T_give_65 : decode b_T_give 65 = .ok (.getfield 157, 3) := by decide +kernel
theorem d_T_give_68 : decode b_T_give 68 = .ok (.ireturn, 1) := by decide +kernel
theorem mo_T_give : mok y_T_give b_T_give 2 (some .int) 1 := ⟨List.mem_of_getElem? (i := 689) (by decide +kernel), ⟨by decide +kernel, by decide +kernel, by decide +kernel⟩, List.mem_of_getElem? (i := 74) (by decide +kernel), by decide⟩
set_option maxHeartbeats 4000000 in
theorem c_T_give (l : Launch) (u : Un) (hA : Ap u) (σ : St) {n G : Nat} {kd : Nat → Nat} (hb : bkOk σ n G kd) {L : Nat} (hL : σ.1 19 14 = nI L) (hL64 : L < 64) {D : Nat} (hD : σ.1 49 2 = nI D) (hDle : D ≤ 40) (i : Int32) : MTi l u y_T_give b_T_give 2 .int 9 [.ref (u.2.1 0), .int i] σ (fun ans σ' => (ans, σ') = tGive σ kd L D i) := by
  refine MT_of hA rfl (by decide) (Nat.le_of_ble_eq_true rfl) (fun X hl F hr => ?_)
  subst hl
  refine v_to (ls' := [(0, .ref (u.2.1 0)), (1, .int i)]) rfl ?_
  obtain ⟨hn, hn6, hG, hG64, hkd, hk6⟩ := id hb
  refine v_aload_n F d_T_give_0 rfl 0 rfl ?_
  refine v_getr (r := 19) F fk_T_36 G0 rfl d_T_give_1 ?_
  refine v_iload_n F d_T_give_4 rfl 1 rfl ?_
  refine v_runi (r_V F (c_B_has X.2.1 u hA σ i ) mo_B_has st_T_121 rc_19 (by decide) rfl (Nat.le_of_ble_eq_true rfl) d_T_give_5) (fun r1 σ2 q3 => ?_)
  obtain ⟨rfl, rfl⟩ := q3
  refine v_bf F 13 d_T_give_8 rfl (fun h8 => ?_) (fun h8 => ?_)
  · skip
    obtain ⟨j, hj, xj, rfl⟩ := has_nat h8 hn hn6
    refine v_aload_n F d_T_give_13 rfl 0 rfl ?_
    refine v_getr (r := 19) F fk_T_36 G0 rfl d_T_give_14 ?_
    refine v_geti F fk_T_150 G19 rfl d_T_give_17 ?_
    refine v_if_ne F 37 d_T_give_20 rfl (fun h20 => ?_) (fun h20 => ?_)
    · skip
      refine v_bipush (v := (-4)) F d_T_give_37 kb_m4 ?_
      refine v_iret F hr rfl d_T_give_39 ?_
      first | (simp_all [tGive, stS, nI_0, n1l, n2l, n3l, uI_o]; done) | (simp_all [tGive, stS, nI_0, n1l, n2l, n3l, uI_o]; grind)
    · skip
      refine v_iload_n F d_T_give_23 rfl 1 rfl ?_
      refine v_aload_n F d_T_give_24 rfl 0 rfl ?_
      refine v_getr (r := 19) F fk_T_36 G0 rfl d_T_give_25 ?_
      refine v_geti F fk_T_166 G19 rfl d_T_give_28 ?_
      refine v_te (y := nI L) hL ?_
      refine v_runi (r_S F (c_T_isIn2 X.2.1 u hA σ j L (by omega) (by omega)) mo_T_isIn st_T_169 (by decide) rfl (Nat.le_of_ble_eq_true rfl) d_T_give_31) (fun r4 σ5 q6 => ?_)
      obtain ⟨rfl, rfl⟩ := q6
      refine v_bf F 40 d_T_give_34 rfl (fun h34 => ?_) (fun h34 => ?_)
      · skip
        refine v_aload_n F d_T_give_40 rfl 0 rfl ?_
        refine v_getr (r := 49) F fk_T_57 G0 rfl d_T_give_41 ?_
        refine v_geti F fk_T_72 G49 rfl d_T_give_44 ?_
        refine v_te (y := nI D) hD ?_
        refine v_bipush (v := 40) F d_T_give_47 kb_40 ?_
        refine v_icmp_lt F 55 d_T_give_49 rfl (fun h49 => ?_) (fun h49 => ?_)
        · skip
          have h49 : D < 40 := (nI_ltI (a := D) (b := 40) (by omega) (by omega)).mp h49
          have hD40 := h49
          refine v_aload_n F d_T_give_55 rfl 0 rfl ?_
          refine v_iconst (v := 3) F d_T_give_56 ki_3 ?_
          refine v_iload_n F d_T_give_57 rfl 1 rfl ?_
          refine v_runv (r_V F (c_T_enact X.2.1 u hA σ hb hL hL64 hD hD40 3 j (by omega) (by omega)) mo_T_enact st_T_146 rc_0 (by decide) rfl (Nat.le_of_ble_eq_true rfl) d_T_give_58) (fun σ8 q9 => ?_)
          refine v_aload_n F d_T_give_61 rfl 0 rfl ?_
          refine v_getr (r := 19) F fk_T_36 G0 rfl d_T_give_62 ?_
          refine v_geti F fk_T_157 G19 rfl d_T_give_65 ?_
          refine v_iret F hr rfl d_T_give_68 ?_
          first | (simp_all [tGive, stS, nI_0, n1l, n2l, n3l, uI_o]; done) | (simp_all [tGive, stS, nI_0, n1l, n2l, n3l, uI_o]; grind)
        · skip
          have h49 : ¬ D < 40 := fun q => h49 ((nI_ltI (a := D) (b := 40) (by omega) (by omega)).mpr q)
          refine v_bipush (v := (-2)) F d_T_give_52 kb_m2 ?_
          refine v_iret F hr rfl d_T_give_54 ?_
          first | (simp_all [tGive, stS, nI_0, n1l, n2l, n3l, uI_o]; done) | (simp_all [tGive, stS, nI_0, n1l, n2l, n3l, uI_o]; grind)
      · skip
        refine v_bipush (v := (-4)) F d_T_give_37 kb_m4 ?_
        refine v_iret F hr rfl d_T_give_39 ?_
        first | (simp_all [tGive, stS, nI_0, n1l, n2l, n3l, uI_o]; done) | (simp_all [tGive, stS, nI_0, n1l, n2l, n3l, uI_o]; grind)
  · skip
    refine v_iconst (v := (-1)) F d_T_give_11 ki_m1 ?_
    refine v_iret F hr rfl d_T_give_12 ?_
    first | (simp_all [tGive, stS, nI_0, n1l, n2l, n3l, uI_o]; done) | (simp_all [tGive, stS, nI_0, n1l, n2l, n3l, uI_o]; grind)
abbrev b_T_thief : ByteArray := prog_1_method_12_code
abbrev y_T_thief : MethodName := ⟨"TakerBook", "thief", "(II)I"⟩
theorem d_T_thief_0 : decode b_T_thief 0 = .ok (.aload_n 0, 1) := by decide +kernel
theorem d_T_thief_1 : decode b_T_thief 1 = .ok (.getfield 36, 3) := by decide +kernel
theorem d_T_thief_4 : decode b_T_thief 4 = .ok (.iload_n 1, 1) := by decide +kernel
theorem d_T_thief_5 : decode b_T_thief 5 = .ok (.invokevirtual 121, 3) := by decide +kernel
theorem d_T_thief_8 : decode b_T_thief 8 = .ok (.ifCond .eq 13, 3) := by decide +kernel
theorem d_T_thief_11 : decode b_T_thief 11 = .ok (.iload_n 2, 1) := by decide +kernel
theorem d_T_thief_12 : decode b_T_thief 12 = .ok (.ifCond .lt 9, 3) := by decide +kernel
theorem d_T_thief_15 : decode b_T_thief 15 = .ok (.iload_n 2, 1) := by decide +kernel
theorem d_T_thief_16 : decode b_T_thief 16 = .ok (.bipush 7, 2) := by decide +kernel
theorem d_T_thief_18 : decode b_T_thief 18 = .ok (.if_icmp .le 5, 3) := by decide +kernel
theorem d_T_thief_21 : decode b_T_thief 21 = .ok (.iconst (-1), 1) := by decide +kernel
theorem d_T_thief_22 : decode b_T_thief 22 = .ok (.ireturn, 1) := by decide +kernel
theorem d_T_thief_23 : decode b_T_thief 23 = .ok (.aload_n 0, 1) := by decide +kernel
theorem d_T_thief_24 : decode b_T_thief 24 = .ok (.aload_n 0, 1) := by decide +kernel
theorem d_T_thief_25 : decode b_T_thief 25 = .ok (.getfield 36, 3) := by decide +kernel
theorem d_T_thief_28 : decode b_T_thief 28 = .ok (.iload_n 1, 1) := by decide +kernel
theorem d_T_thief_29 : decode b_T_thief 29 = .ok (.iload_n 2, 1) := by decide +kernel
theorem d_T_thief_30 : decode b_T_thief 30 = .ok (.invokevirtual 124, 3) := by decide +kernel
theorem d_T_thief_33 : decode b_T_thief 33 = .ok (.putfield 88, 3) := by decide +kernel
theorem d_T_thief_36 : decode b_T_thief 36 = .ok (.iconst 1, 1) := by decide +kernel
theorem d_T_thief_37 : decode b_T_thief 37 = .ok (.ireturn, 1) := by decide +kernel
theorem mo_T_thief : mok y_T_thief b_T_thief 3 (some .int) 2 := ⟨List.mem_of_getElem? (i := 538) (by decide +kernel), ⟨by decide +kernel, by decide +kernel, by decide +kernel⟩, List.mem_of_getElem? (i := 74) (by decide +kernel), by decide⟩
set_option maxHeartbeats 4000000 in
theorem c_T_thief (l : Launch) (u : Un) (hA : Ap u) (σ : St) {n G : Nat} {kd : Nat → Nat} (hb : bkOk σ n G kd) {L : Nat} (hL : σ.1 19 14 = nI L) (hL64 : L < 64) {D : Nat} (hD : σ.1 49 2 = nI D) (hDle : D ≤ 40) (i w : Int32) : MTi l u y_T_thief b_T_thief 3 .int 7 [.ref (u.2.1 0), .int i, .int w] σ (fun ans σ' => (ans, σ') = tThief σ G kd L i w) := by
  refine MT_of hA rfl (by decide) (Nat.le_of_ble_eq_true rfl) (fun X hl F hr => ?_)
  subst hl
  refine v_to (ls' := [(0, .ref (u.2.1 0)), (1, .int i), (2, .int w)]) rfl ?_
  obtain ⟨hn, hn6, hG, hG64, hkd, hk6⟩ := id hb
  refine v_aload_n F d_T_thief_0 rfl 0 rfl ?_
  refine v_getr (r := 19) F fk_T_36 G0 rfl d_T_thief_1 ?_
  refine v_iload_n F d_T_thief_4 rfl 1 rfl ?_
  refine v_runi (r_V F (c_B_has X.2.1 u hA σ i ) mo_B_has st_T_121 rc_19 (by decide) rfl (Nat.le_of_ble_eq_true rfl) d_T_thief_5) (fun r1 σ2 q3 => ?_)
  obtain ⟨rfl, rfl⟩ := q3
  refine v_bt F 21 d_T_thief_8 rfl (fun h8 => ?_) (fun h8 => ?_)
  · skip
    refine v_iconst (v := (-1)) F d_T_thief_21 ki_m1 ?_
    refine v_iret F hr rfl d_T_thief_22 ?_
    first | (simp_all [tThief, stS, nI_0, n1l, n2l, n3l, uI_o]; done) | (simp_all [tThief, stS, nI_0, n1l, n2l, n3l, uI_o]; grind)
  · skip
    obtain ⟨j, hj, xj, rfl⟩ := has_nat h8 hn hn6
    refine v_iload_n F d_T_thief_11 rfl 2 rfl ?_
    refine v_if_lt F 21 d_T_thief_12 rfl (fun h12 => ?_) (fun h12 => ?_)
    · skip
      refine v_iconst (v := (-1)) F d_T_thief_21 ki_m1 ?_
      refine v_iret F hr rfl d_T_thief_22 ?_
      first | (simp_all [tThief, stS, nI_0, n1l, n2l, n3l, uI_o]; done) | (simp_all [tThief, stS, nI_0, n1l, n2l, n3l, uI_o]; grind)
    · skip
      refine v_iload_n F d_T_thief_15 rfl 2 rfl ?_
      refine v_bipush (v := 7) F d_T_thief_16 kb_7 ?_
      refine v_icmp_le F 23 d_T_thief_18 rfl (fun h18 => ?_) (fun h18 => ?_)
      · skip
        obtain ⟨v, hv, xv, rfl⟩ := nat_of (M := 7) (i_nlt.mp h12) h18 rfl (by decide)
        refine v_aload_n F d_T_thief_23 rfl 0 rfl ?_
        refine v_aload_n F d_T_thief_24 rfl 0 rfl ?_
        refine v_getr (r := 19) F fk_T_36 G0 rfl d_T_thief_25 ?_
        refine v_iload_n F d_T_thief_28 rfl 1 rfl ?_
        refine v_iload_n F d_T_thief_29 rfl 2 rfl ?_
        refine v_runi (r_V F (c_B_tell X.2.1 u hA σ hb hL hL64 j v (by omega) (by omega)) mo_B_tell st_T_124 rc_19 (by decide) rfl (Nat.le_of_ble_eq_true rfl) d_T_thief_30) (fun r4 σ5 q6 => ?_)
        obtain ⟨rfl, rfl⟩ := q6
        refine v_puti F fk_T_88 pk_T_told G0 rfl d_T_thief_33 ?_
        refine v_ns (fun σ7 eσ7 => ?_)
        refine v_iconst (v := 1) F d_T_thief_36 ki_1 ?_
        refine v_iret F hr rfl d_T_thief_37 ?_
        first | (simp_all [tThief, stS, nI_0, n1l, n2l, n3l, uI_o]; done) | (simp_all [tThief, stS, nI_0, n1l, n2l, n3l, uI_o]; grind)
      · skip
        refine v_iconst (v := (-1)) F d_T_thief_21 ki_m1 ?_
        refine v_iret F hr rfl d_T_thief_22 ?_
        first | (simp_all [tThief, stS, nI_0, n1l, n2l, n3l, uI_o]; done) | (simp_all [tThief, stS, nI_0, n1l, n2l, n3l, uI_o]; grind)
abbrev b_T_mark : ByteArray := prog_1_method_13_code
abbrev y_T_mark : MethodName := ⟨"TakerBook", "mark", "(II)I"⟩
theorem d_T_mark_0 : decode b_T_mark 0 = .ok (.aload_n 0, 1) := by decide +kernel
theorem d_T_mark_1 : decode b_T_mark 1 = .ok (.getfield 36, 3) := by decide +kernel
theorem d_T_mark_4 : decode b_T_mark 4 = .ok (.iload_n 1, 1) := by decide +kernel
theorem d_T_mark_5 : decode b_T_mark 5 = .ok (.invokevirtual 121, 3) := by decide +kernel
theorem d_T_mark_8 : decode b_T_mark 8 = .ok (.ifCond .eq 13, 3) := by decide +kernel
theorem d_T_mark_11 : decode b_T_mark 11 = .ok (.iload_n 2, 1) := by decide +kernel
theorem d_T_mark_12 : decode b_T_mark 12 = .ok (.ifCond .le 9, 3) := by decide +kernel
theorem d_T_mark_15 : decode b_T_mark 15 = .ok (.iload_n 2, 1) := by decide +kernel
theorem d_T_mark_16 : decode b_T_mark 16 = .ok (.bipush 6, 2) := by decide +kernel
theorem d_T_mark_18 : decode b_T_mark 18 = .ok (.if_icmp .lt 5, 3) := by decide +kernel
theorem d_T_mark_21 : decode b_T_mark 21 = .ok (.iconst (-1), 1) := by decide +kernel
theorem d_T_mark_22 : decode b_T_mark 22 = .ok (.ireturn, 1) := by decide +kernel
theorem d_T_mark_23 : decode b_T_mark 23 = .ok (.aload_n 0, 1) := by decide +kernel
theorem d_T_mark_24 : decode b_T_mark 24 = .ok (.getfield 36, 3) := by decide +kernel
theorem d_T_mark_27 : decode b_T_mark 27 = .ok (.aload_n 0, 1) := by decide +kernel
theorem d_T_mark_28 : decode b_T_mark 28 = .ok (.getfield 36, 3) := by decide +kernel
theorem d_T_mark_31 : decode b_T_mark 31 = .ok (.getfield 127, 3) := by decide +kernel
theorem d_T_mark_34 : decode b_T_mark 34 = .ok (.iload_n 1, 1) := by decide +kernel
theorem d_T_mark_35 : decode b_T_mark 35 = .ok (.iaload, 1) := by decide +kernel
theorem d_T_mark_36 : decode b_T_mark 36 = .ok (.invokevirtual 130, 3) := by decide +kernel
theorem d_T_mark_39 : decode b_T_mark 39 = .ok (.iload_n 2, 1) := by decide +kernel
theorem d_T_mark_40 : decode b_T_mark 40 = .ok (.invokevirtual 134, 3) := by decide +kernel
theorem d_T_mark_43 : decode b_T_mark 43 = .ok (.ifCond .eq 15, 3) := by decide +kernel
theorem d_T_mark_46 : decode b_T_mark 46 = .ok (.aload_n 0, 1) := by decide +kernel
theorem d_T_mark_47 : decode b_T_mark 47 = .ok (.getfield 36, 3) := by decide +kernel
theorem d_T_mark_50 : decode b_T_mark 50 = .ok (.iload_n 1, 1) := by decide +kernel
theorem d_T_mark_51 : decode b_T_mark 51 = .ok (.iload_n 2, 1) := by decide +kernel
theorem d_T_mark_52 : decode b_T_mark 52 = .ok (.invokevirtual 139, 3) := by decide +kernel
theorem d_T_mark_55 : decode b_T_mark 55 = .ok (.goto 8, 3) := by decide +kernel
theorem d_T_mark_58 : decode b_T_mark 58 = .ok (.aload_n 0, 1) := by decide +kernel
theorem d_T_mark_59 : decode b_T_mark 59 = .ok (.iconst 3, 1) := by decide +kernel
theorem d_T_mark_60 : decode b_T_mark 60 = .ok (.invokevirtual 80, 3) := by decide +kernel
theorem d_T_mark_63 : decode b_T_mark 63 = .ok (.ireturn, 1) := by decide +kernel
theorem mo_T_mark : mok y_T_mark b_T_mark 3 (some .int) 2 := ⟨List.mem_of_getElem? (i := 638) (by decide +kernel), ⟨by decide +kernel, by decide +kernel, by decide +kernel⟩, List.mem_of_getElem? (i := 74) (by decide +kernel), by decide⟩
set_option maxHeartbeats 4000000 in
theorem c_T_mark (l : Launch) (u : Un) (hA : Ap u) (σ : St) {n G : Nat} {kd : Nat → Nat} (hb : bkOk σ n G kd) {L : Nat} (hL : σ.1 19 14 = nI L) (hL64 : L < 64) {D : Nat} (hD : σ.1 49 2 = nI D) (hDle : D ≤ 40) (i w : Int32) : MTi l u y_T_mark b_T_mark 3 .int 7 [.ref (u.2.1 0), .int i, .int w] σ (fun ans σ' => (ans, σ') = tMark σ G kd n L i w) := by
  refine MT_of hA rfl (by decide) (Nat.le_of_ble_eq_true rfl) (fun X hl F hr => ?_)
  subst hl
  refine v_to (ls' := [(0, .ref (u.2.1 0)), (1, .int i), (2, .int w)]) rfl ?_
  obtain ⟨hn, hn6, hG, hG64, hkd, hk6⟩ := id hb
  refine v_aload_n F d_T_mark_0 rfl 0 rfl ?_
  refine v_getr (r := 19) F fk_T_36 G0 rfl d_T_mark_1 ?_
  refine v_iload_n F d_T_mark_4 rfl 1 rfl ?_
  refine v_runi (r_V F (c_B_has X.2.1 u hA σ i ) mo_B_has st_T_121 rc_19 (by decide) rfl (Nat.le_of_ble_eq_true rfl) d_T_mark_5) (fun r1 σ2 q3 => ?_)
  obtain ⟨rfl, rfl⟩ := q3
  refine v_bt F 21 d_T_mark_8 rfl (fun h8 => ?_) (fun h8 => ?_)
  · skip
    refine v_iconst (v := (-1)) F d_T_mark_21 ki_m1 ?_
    refine v_iret F hr rfl d_T_mark_22 ?_
    first | (simp_all [tMark, stS, nI_0, n1l, n2l, n3l, uI_o]; done) | (simp_all [tMark, stS, nI_0, n1l, n2l, n3l, uI_o]; grind)
  · skip
    obtain ⟨j, hj, xj, rfl⟩ := has_nat h8 hn hn6
    refine v_iload_n F d_T_mark_11 rfl 2 rfl ?_
    refine v_if_le F 21 d_T_mark_12 rfl (fun h12 => ?_) (fun h12 => ?_)
    · skip
      refine v_iconst (v := (-1)) F d_T_mark_21 ki_m1 ?_
      refine v_iret F hr rfl d_T_mark_22 ?_
      first | (simp_all [tMark, stS, nI_0, n1l, n2l, n3l, uI_o]; done) | (simp_all [tMark, stS, nI_0, n1l, n2l, n3l, uI_o]; grind)
    · skip
      refine v_iload_n F d_T_mark_15 rfl 2 rfl ?_
      refine v_bipush (v := 6) F d_T_mark_16 kb_6 ?_
      refine v_icmp_lt F 23 d_T_mark_18 rfl (fun h18 => ?_) (fun h18 => ?_)
      · skip
        obtain ⟨v, hv, xv, rfl⟩ := inR_nat (N := 6) ⟨pos_le h12, h18⟩ rfl (by decide)
        have hv0 : 0 < v := by
          rcases v with _ | v
          · exact absurd (show nI 0 ≤ 0 by decide) h12
          · omega
        refine v_aload_n F d_T_mark_23 rfl 0 rfl ?_
        refine v_getr (r := 19) F fk_T_36 G0 rfl d_T_mark_24 ?_
        refine v_aload_n F d_T_mark_27 rfl 0 rfl ?_
        refine v_getr (r := 19) F fk_T_36 G0 rfl d_T_mark_28 ?_
        refine v_getr (r := 27) F fk_T_127 G19 rfl d_T_mark_31 ?_
        refine v_iload_n F d_T_mark_34 rfl 1 rfl ?_
        refine v_ial F j G27 rfl (by omega) d_T_mark_35 ?_
        refine v_te (y := nI (kd j)) (hkd _ (by omega)) ?_
        refine v_runr (r_V F (c_B_nature X.2.1 u hA σ (kd j) (hk6 _ (by omega))) mo_B_nature st_T_130 rc_19 (by decide) rfl (Nat.le_of_ble_eq_true rfl) d_T_mark_36) ?_
        refine v_iload_n F d_T_mark_39 rfl 2 rfl ?_
        refine vs_T_134 hA F (k := kd j) (hk6 _ (by omega)) (by decide) (Nat.le_of_ble_eq_true rfl) d_T_mark_40 ?_
        refine v_bt F 58 d_T_mark_43 rfl (fun h43 => ?_) (fun h43 => ?_)
        · skip
          refine v_aload_n F d_T_mark_58 rfl 0 rfl ?_
          refine v_iconst (v := 3) F d_T_mark_59 ki_3 ?_
          refine v_runi (r_V F (c_T_refuse X.2.1 u hA σ 3 (by decide)) mo_T_refuse st_T_80 rc_0 (by decide) rfl (Nat.le_of_ble_eq_true rfl) d_T_mark_60) (fun r4 σ5 q6 => ?_)
          obtain ⟨rfl, eσ5⟩ := q6
          refine v_iret F hr rfl d_T_mark_63 ?_
          first | (simp_all [tMark, stS, nI_0, n1l, n2l, n3l, uI_o]; done) | (simp_all [tMark, stS, nI_0, n1l, n2l, n3l, uI_o]; grind)
        · skip
          refine v_aload_n F d_T_mark_46 rfl 0 rfl ?_
          refine v_getr (r := 19) F fk_T_36 G0 rfl d_T_mark_47 ?_
          refine v_iload_n F d_T_mark_50 rfl 1 rfl ?_
          refine v_iload_n F d_T_mark_51 rfl 2 rfl ?_
          refine v_runi (r_V F (c_B_markOf X.2.1 u hA σ hb hL hL64 j v (by omega) (by omega) (by omega)) mo_B_markOf st_T_139 rc_19 (by decide) rfl (Nat.le_of_ble_eq_true rfl) d_T_mark_52) (fun r7 σ8 q9 => ?_)
          obtain ⟨rfl, rfl⟩ := q9
          refine v_goto F 63 d_T_mark_55 rfl ?_
          refine v_iret F hr rfl d_T_mark_63 ?_
          first | (simp_all [tMark, stS, nI_0, n1l, n2l, n3l, uI_o]; done) | (simp_all [tMark, stS, nI_0, n1l, n2l, n3l, uI_o]; grind)
      · skip
        refine v_iconst (v := (-1)) F d_T_mark_21 ki_m1 ?_
        refine v_iret F hr rfl d_T_mark_22 ?_
        first | (simp_all [tMark, stS, nI_0, n1l, n2l, n3l, uI_o]; done) | (simp_all [tMark, stS, nI_0, n1l, n2l, n3l, uI_o]; grind)
