theorem st_P_28 : siteV "TakerBook$Plans" 28 ⟨"TakerBook$Band", "isOfLeft", "(I)Z"⟩ := ⟨List.mem_of_getElem? (i := 774) (by decide +kernel), List.mem_of_getElem? (i := 727) (by decide +kernel), List.mem_of_getElem? (i := 728) (by decide +kernel)⟩
theorem st_P_34 : siteV "TakerBook$Plans" 34 ⟨"TakerBook$Band", "wouldBeTried", "(I)Z"⟩ := ⟨List.mem_of_getElem? (i := 775) (by decide +kernel), List.mem_of_getElem? (i := 718) (by decide +kernel), List.mem_of_getElem? (i := 719) (by decide +kernel)⟩
theorem st_P_37 : siteV "TakerBook$Plans" 37 ⟨"TakerBook$Band", "lootOfAll", "(I)I"⟩ := ⟨List.mem_of_getElem? (i := 776) (by decide +kernel), List.mem_of_getElem? (i := 671) (by decide +kernel), List.mem_of_getElem? (i := 672) (by decide +kernel)⟩
theorem fk_P_41 : fok "TakerBook$Plans" 41 1 8 := ⟨(R_B, F_B, 19), rfl, by decide, List.mem_of_getElem? (i := 195) (by decide +kernel), rfl⟩
theorem st_P_45 : siteV "TakerBook$Plans" 45 ⟨"TakerBook$Band", "priceOf", "(I)I"⟩ := ⟨List.mem_of_getElem? (i := 777) (by decide +kernel), List.mem_of_getElem? (i := 611) (by decide +kernel), List.mem_of_getElem? (i := 612) (by decide +kernel)⟩
theorem fk_P_48 : fok "TakerBook$Plans" 48 1 10 := ⟨(R_B, F_B, 19), rfl, by decide, List.mem_of_getElem? (i := 199) (by decide +kernel), rfl⟩
theorem pk_P_fee : pok 2 6 .int := ⟨(R_P, F_P, 12), rfl, rfl, by decide +kernel⟩
theorem fk_P_52 : fok "TakerBook$Plans" 52 1 14 := ⟨(R_B, F_B, 19), rfl, by decide, List.mem_of_getElem? (i := 207) (by decide +kernel), rfl⟩
theorem pk_P_leftAtFirst : pok 2 7 .int := ⟨(R_P, F_P, 12), rfl, rfl, by decide +kernel⟩
theorem pk_P_weeks : pok 2 5 .int := ⟨(R_P, F_P, 12), rfl, rfl, by decide +kernel⟩
theorem fk_P_70 : fok "TakerBook$Plans" 70 1 17 := ⟨(R_B, F_B, 19), rfl, by decide, List.mem_of_getElem? (i := 214) (by decide +kernel), rfl⟩
abbrev b_P_goThrough : ByteArray := prog_8_method_2_code
abbrev y_P_goThrough : MethodName := ⟨"TakerBook$Plans", "goThrough", "(LTakerBook$Band;I)V"⟩
theorem d_P_goThrough_0 : decode b_P_goThrough 0 = .ok (.iconst 0, 1) := by decide +kernel
theorem d_P_goThrough_1 : decode b_P_goThrough 1 = .ok (.istore_n 3, 1) := by decide +kernel
theorem d_P_goThrough_2 : decode b_P_goThrough 2 = .ok (.iload_n 3, 1) := by decide +kernel
theorem d_P_goThrough_3 : decode b_P_goThrough 3 = .ok (.bipush 64, 2) := by decide +kernel
theorem d_P_goThrough_5 : decode b_P_goThrough 5 = .ok (.if_icmp .ge 39, 3) := by decide +kernel
theorem d_P_goThrough_8 : decode b_P_goThrough 8 = .ok (.aload_n 1, 1) := by decide +kernel
theorem d_P_goThrough_9 : decode b_P_goThrough 9 = .ok (.iload_n 3, 1) := by decide +kernel
theorem d_P_goThrough_10 : decode b_P_goThrough 10 = .ok (.invokevirtual 28, 3) := by decide +kernel
theorem d_P_goThrough_13 : decode b_P_goThrough 13 = .ok (.ifCond .eq 25, 3) := by decide +kernel
theorem d_P_goThrough_16 : decode b_P_goThrough 16 = .ok (.aload_n 0, 1) := by decide +kernel
theorem d_P_goThrough_17 : decode b_P_goThrough 17 = .ok (.getfield 9, 3) := by decide +kernel
theorem d_P_goThrough_20 : decode b_P_goThrough 20 = .ok (.iload_n 3, 1) := by decide +kernel
theorem d_P_goThrough_21 : decode b_P_goThrough 21 = .ok (.aload_n 1, 1) := by decide +kernel
theorem d_P_goThrough_22 : decode b_P_goThrough 22 = .ok (.iload_n 3, 1) := by decide +kernel
theorem d_P_goThrough_23 : decode b_P_goThrough 23 = .ok (.invokevirtual 34, 3) := by decide +kernel
theorem d_P_goThrough_26 : decode b_P_goThrough 26 = .ok (.bastore, 1) := by decide +kernel
theorem d_P_goThrough_27 : decode b_P_goThrough 27 = .ok (.aload_n 0, 1) := by decide +kernel
theorem d_P_goThrough_28 : decode b_P_goThrough 28 = .ok (.getfield 15, 3) := by decide +kernel
theorem d_P_goThrough_31 : decode b_P_goThrough 31 = .ok (.iload_n 3, 1) := by decide +kernel
theorem d_P_goThrough_32 : decode b_P_goThrough 32 = .ok (.aload_n 1, 1) := by decide +kernel
theorem d_P_goThrough_33 : decode b_P_goThrough 33 = .ok (.iload_n 3, 1) := by decide +kernel
theorem d_P_goThrough_34 : decode b_P_goThrough 34 = .ok (.invokevirtual 37, 3) := by decide +kernel
theorem d_P_goThrough_37 : decode b_P_goThrough 37 = .ok (.iastore, 1) := by decide +kernel
theorem d_P_goThrough_38 : decode b_P_goThrough 38 = .ok (.iinc 3 1, 3) := by decide +kernel
theorem d_P_goThrough_41 : decode b_P_goThrough 41 = .ok (.goto (-39), 3) := by decide +kernel
theorem d_P_goThrough_44 : decode b_P_goThrough 44 = .ok (.iconst 0, 1) := by decide +kernel
theorem d_P_goThrough_45 : decode b_P_goThrough 45 = .ok (.istore_n 3, 1) := by decide +kernel
theorem d_P_goThrough_46 : decode b_P_goThrough 46 = .ok (.iload_n 3, 1) := by decide +kernel
theorem d_P_goThrough_47 : decode b_P_goThrough 47 = .ok (.aload_n 1, 1) := by decide +kernel
theorem d_P_goThrough_48 : decode b_P_goThrough 48 = .ok (.getfield 41, 3) := by decide +kernel
theorem d_P_goThrough_51 : decode b_P_goThrough 51 = .ok (.if_icmp .ge 20, 3) := by decide +kernel
theorem d_P_goThrough_54 : decode b_P_goThrough 54 = .ok (.aload_n 0, 1) := by decide +kernel
theorem d_P_goThrough_55 : decode b_P_goThrough 55 = .ok (.getfield 19, 3) := by decide +kernel
theorem d_P_goThrough_58 : decode b_P_goThrough 58 = .ok (.iload_n 3, 1) := by decide +kernel
theorem d_P_goThrough_59 : decode b_P_goThrough 59 = .ok (.aload_n 1, 1) := by decide +kernel
theorem d_P_goThrough_60 : decode b_P_goThrough 60 = .ok (.iload_n 3, 1) := by decide +kernel
theorem d_P_goThrough_61 : decode b_P_goThrough 61 = .ok (.invokevirtual 45, 3) := by decide +kernel
theorem d_P_goThrough_64 : decode b_P_goThrough 64 = .ok (.iastore, 1) := by decide +kernel
theorem d_P_goThrough_65 : decode b_P_goThrough 65 = .ok (.iinc 3 1, 3) := by decide +kernel
theorem d_P_goThrough_68 : decode b_P_goThrough 68 = .ok (.goto (-22), 3) := by decide +kernel
theorem d_P_goThrough_71 : decode b_P_goThrough 71 = .ok (.aload_n 0, 1) := by decide +kernel
theorem d_P_goThrough_72 : decode b_P_goThrough 72 = .ok (.aload_n 1, 1) := by decide +kernel
theorem d_P_goThrough_73 : decode b_P_goThrough 73 = .ok (.getfield 48, 3) := by decide +kernel
theorem d_P_goThrough_76 : decode b_P_goThrough 76 = .ok (.putfield 51, 3) := by decide +kernel
theorem d_P_goThrough_79 : decode b_P_goThrough 79 = .ok (.aload_n 0, 1) := by decide +kernel
theorem d_P_goThrough_80 : decode b_P_goThrough 80 = .ok (.aload_n 1, 1) := by decide +kernel
theorem d_P_goThrough_81 : decode b_P_goThrough 81 = .ok (.getfield 52, 3) := by decide +kernel
theorem d_P_goThrough_84 : decode b_P_goThrough 84 = .ok (.putfield 55, 3) := by decide +kernel
theorem d_P_goThrough_87 : decode b_P_goThrough 87 = .ok (.aload_n 0, 1) := by decide +kernel
theorem d_P_goThrough_88 : decode b_P_goThrough 88 = .ok (.iload_n 2, 1) := by decide +kernel
theorem d_P_goThrough_89 : decode b_P_goThrough 89 = .ok (.putfield 58, 3) := by decide +kernel
theorem d_P_goThrough_92 : decode b_P_goThrough 92 = .ok (.aload_n 0, 1) := by decide +kernel
theorem d_P_goThrough_93 : decode b_P_goThrough 93 = .ok (.iconst (-1), 1) := by decide +kernel
theorem d_P_goThrough_94 : decode b_P_goThrough 94 = .ok (.putfield 61, 3) := by decide +kernel
theorem d_P_goThrough_97 : decode b_P_goThrough 97 = .ok (.aload_n 0, 1) := by decide +kernel
theorem d_P_goThrough_98 : decode b_P_goThrough 98 = .ok (.iconst 0, 1) := by decide +kernel
theorem d_P_goThrough_99 : decode b_P_goThrough 99 = .ok (.putfield 64, 3) := by decide +kernel
theorem d_P_goThrough_102 : decode b_P_goThrough 102 = .ok (.aload_n 0, 1) := by decide +kernel
theorem d_P_goThrough_103 : decode b_P_goThrough 103 = .ok (.bipush 63, 2) := by decide +kernel
theorem d_P_goThrough_105 : decode b_P_goThrough 105 = .ok (.putfield 67, 3) := by decide +kernel
theorem d_P_goThrough_108 : decode b_P_goThrough 108 = .ok (.aload_n 0, 1) := by decide +kernel
theorem d_P_goThrough_109 : decode b_P_goThrough 109 = .ok (.iconst 0, 1) := by decide +kernel
theorem d_P_goThrough_110 : decode b_P_goThrough 110 = .ok (.aload_n 0, 1) := by decide +kernel
theorem d_P_goThrough_111 : decode b_P_goThrough 111 = .ok (.getfield 55, 3) := by decide +kernel
theorem d_P_goThrough_114 : decode b_P_goThrough 114 = .ok (.aload_n 1, 1) := by decide +kernel
theorem d_P_goThrough_115 : decode b_P_goThrough 115 = .ok (.getfield 70, 3) := by decide +kernel
theorem d_P_goThrough_118 : decode b_P_goThrough 118 = .ok (.iconst 0, 1) := by decide +kernel
theorem d_P_goThrough_119 : decode b_P_goThrough 119 = .ok (.invokevirtual 73, 3) := by decide +kernel
theorem d_P_goThrough_122 : decode b_P_goThrough 122 = .ok (.return_, 1) := by decide +kernel
theorem mo_P_goThrough : mok y_P_goThrough b_P_goThrough 4 none 2 := ⟨List.mem_of_getElem? (i := 773) (by decide +kernel), ⟨by decide +kernel, by decide +kernel, by decide +kernel⟩, List.mem_of_getElem? (i := 83) (by decide +kernel), by decide⟩
set_option maxHeartbeats 4000000 in
theorem L_P_goThrough_2 {X : FX} {u : Un} (hA : Ap u) {Q : State → Prop} (F : Fr X u "TakerBook$Plans" b_P_goThrough 4) {σ : St} {n G : Nat} {kd : Nat → Nat} (hb : bkOk σ n G kd) {L : Nat} (hL : σ.1 19 14 = nI L) (hL64 : L < 64) {m : Nat} (k : V X u 14 4 Q 44 [(0, .ref (u.2.1 34)), (1, .ref (u.2.1 19)), (2, .int (nI m)), (3, .int (nI 64))] [] ((tryS σ G kd n L 64))) : ∀ (nn s : Nat), s ≤ 64 → 64 - s < nn → V X u 14 4 Q 2 [(0, .ref (u.2.1 34)), (1, .ref (u.2.1 19)), (2, .int (nI m)), (3, .int (nI s))] [] ((tryS σ G kd n L s)) := by
  intro nn
  induction nn with
  | zero =>
    intro s h1 h2
    exact absurd h2 (Nat.not_lt_zero _)
  | succ nn ih =>
    intro s hii hnn
    refine v_iload_n F d_P_goThrough_2 rfl 3 rfl ?_
    refine v_bipush (v := 64) F d_P_goThrough_3 kb_64 ?_
    refine v_icmp_ge F 44 d_P_goThrough_5 rfl (fun h5 => ?_) (fun h5 => ?_)
    · skip
      have h5 : 64 ≤ s := (nI_leI (a := 64) (b := s) (by omega) (by omega)).mp h5
      have he : s = 64 := by omega
      subst he
      exact k
    · skip
      have h5 : ¬ 64 ≤ s := fun q => h5 ((nI_leI (a := 64) (b := s) (by omega) (by omega)).mpr q)
      refine v_aload_n F d_P_goThrough_8 rfl 1 rfl ?_
      refine v_iload_n F d_P_goThrough_9 rfl 3 rfl ?_
      refine v_runi (r_V F (c_B_isOfLeft X.2.1 u hA (tryS σ G kd n L s) (by rw [tryS_k _ _ _ _ _ (by decide) (by decide)]; exact hL) hL64 s (by omega)) mo_B_isOfLeft st_P_28 rc_19 (by decide) rfl (Nat.le_of_ble_eq_true rfl) d_P_goThrough_10) (fun r1 σ2 q3 => ?_)
      obtain ⟨rfl, rfl⟩ := q3
      refine v_bt F 38 d_P_goThrough_13 rfl (fun h13 => ?_) (fun h13 => ?_)
      · skip
        refine v_iinc (v := nI (s + 1)) (ls' := [(3, .int (nI (s + 1))), (0, .ref (u.2.1 34)), (1, .ref (u.2.1 19)), (2, .int (nI m))]) F d_P_goThrough_38 (j := 3) rfl (nI_inc _) (by decide) rfl ?_
        refine v_goto F 2 d_P_goThrough_41 rfl ?_
        refine v_sub [1, 2, 3, 0] (ls' := [(0, .ref (u.2.1 34)), (1, .ref (u.2.1 19)), (2, .int (nI m)), (3, .int (nI (s + 1)))]) rfl ?_
        refine v_st (show (tryS σ G kd n L s) = (tryS σ G kd n L (s + 1)) from (by first | rfl | (subst_vars; simp only [tryS]; rw [if_pos (by assumption)]; simp only [trT, tkS_tr, bI_vp, uI_o _ _ _ _ (show (28 : Nat) ≠ 35 by decide), uI_o _ _ _ _ (show (19 : Nat) ≠ 35 by decide), tryS_k _ _ _ _ _ (show (28 : Nat) ≠ 35 by decide) (show (28 : Nat) ≠ 36 by decide), tryS_k _ _ _ _ _ (show (19 : Nat) ≠ 35 by decide) (show (19 : Nat) ≠ 36 by decide)]; done) | (simp only [tryS]; rw [if_neg (by assumption)]; done))) ?_
        exact ih (s + 1) (by omega) (by omega)
      · skip
        refine v_aload_n F d_P_goThrough_16 rfl 0 rfl ?_
        refine v_getr (r := 35) F fk_P_9 G34 rfl d_P_goThrough_17 ?_
        refine v_iload_n F d_P_goThrough_20 rfl 3 rfl ?_
        refine v_aload_n F d_P_goThrough_21 rfl 1 rfl ?_
        refine v_iload_n F d_P_goThrough_22 rfl 3 rfl ?_
        refine v_runi (r_V F (c_B_wouldBeTried X.2.1 u hA (tryS σ G kd n L s) (tryS_ok hb s) s (by omega)) mo_B_wouldBeTried st_P_34 rc_19 (by decide) rfl (Nat.le_of_ble_eq_true rfl) d_P_goThrough_23) (fun r4 σ5 q6 => ?_)
        obtain ⟨rfl, rfl⟩ := q6
        refine v_zas F s G35 rfl (by omega) d_P_goThrough_26 ?_
        refine v_ns (fun σ7 eσ7 => ?_)
        refine v_aload_n F d_P_goThrough_27 rfl 0 rfl ?_
        refine v_getr (r := 36) F fk_P_15 G34 rfl d_P_goThrough_28 ?_
        refine v_iload_n F d_P_goThrough_31 rfl 3 rfl ?_
        refine v_aload_n F d_P_goThrough_32 rfl 1 rfl ?_
        refine v_iload_n F d_P_goThrough_33 rfl 3 rfl ?_
        refine v_runi (r_V F (c_B_lootOfAll X.2.1 u hA σ7 (by subst_vars; exact bkOk_of (tryS_ok hb s) (by rw [uI_o _ _ _ _ (by decide)]) (by rw [uI_o _ _ _ _ (by decide)]) (by rw [uI_o _ _ _ _ (by decide)])) s (by omega)) mo_B_lootOfAll st_P_37 rc_19 (by decide) rfl (Nat.le_of_ble_eq_true rfl) d_P_goThrough_34) (fun r8 σ9 q10 => ?_)
        obtain ⟨rfl, rfl⟩ := q10
        refine v_ias F s G36 rfl (by omega) d_P_goThrough_37 ?_
        refine v_ns (fun σ11 eσ11 => ?_)
        refine v_iinc (v := nI (s + 1)) (ls' := [(3, .int (nI (s + 1))), (0, .ref (u.2.1 34)), (1, .ref (u.2.1 19)), (2, .int (nI m))]) F d_P_goThrough_38 (j := 3) rfl (nI_inc _) (by decide) rfl ?_
        refine v_goto F 2 d_P_goThrough_41 rfl ?_
        refine v_sub [1, 2, 3, 0] (ls' := [(0, .ref (u.2.1 34)), (1, .ref (u.2.1 19)), (2, .int (nI m)), (3, .int (nI (s + 1)))]) rfl ?_
        refine v_st (show σ11 = (tryS σ G kd n L (s + 1)) from (by first | rfl | (subst_vars; simp only [tryS]; rw [if_pos (by assumption)]; simp only [trT, tkS_tr, bI_vp, uI_o _ _ _ _ (show (28 : Nat) ≠ 35 by decide), uI_o _ _ _ _ (show (19 : Nat) ≠ 35 by decide), tryS_k _ _ _ _ _ (show (28 : Nat) ≠ 35 by decide) (show (28 : Nat) ≠ 36 by decide), tryS_k _ _ _ _ _ (show (19 : Nat) ≠ 35 by decide) (show (19 : Nat) ≠ 36 by decide)]; done) | (simp only [tryS]; rw [if_neg (by assumption)]; done))) ?_
        exact ih (s + 1) (by omega) (by omega)
set_option maxHeartbeats 4000000 in
theorem L_P_goThrough_46 {X : FX} {u : Un} (hA : Ap u) {Q : State → Prop} (F : Fr X u "TakerBook$Plans" b_P_goThrough 4) {σ : St} {n G : Nat} {kd : Nat → Nat} (hb : bkOk σ n G kd) {m : Nat} (k : V X u 14 4 Q 71 [(0, .ref (u.2.1 34)), (1, .ref (u.2.1 19)), (2, .int (nI m)), (3, .int (nI n))] [] ((cpF σ 37 0 (fun i => priceS (kd i) (σ.1 19 9) (σ.1 31 i)) n))) : ∀ (nn i : Nat), i ≤ n → n - i < nn → V X u 14 4 Q 46 [(0, .ref (u.2.1 34)), (1, .ref (u.2.1 19)), (2, .int (nI m)), (3, .int (nI i))] [] ((cpF σ 37 0 (fun i => priceS (kd i) (σ.1 19 9) (σ.1 31 i)) i)) := by
  intro nn
  induction nn with
  | zero =>
    intro i h1 h2
    exact absurd h2 (Nat.not_lt_zero _)
  | succ nn ih =>
    intro i hii hnn
    obtain ⟨hn, hn6, hG, hG64, hkd, hk6⟩ := id hb
    refine v_iload_n F d_P_goThrough_46 rfl 3 rfl ?_
    refine v_aload_n F d_P_goThrough_47 rfl 1 rfl ?_
    refine v_geti F fk_P_41 G19 rfl d_P_goThrough_48 ?_
    refine v_te (y := nI n) (bkOk_of hb (by rw [cpF_other _ _ _ _ (by decide)]) (by rw [cpF_other _ _ _ _ (by decide)]) (by rw [cpF_other _ _ _ _ (by decide)])).1 ?_
    refine v_icmp_ge F 71 d_P_goThrough_51 rfl (fun h51 => ?_) (fun h51 => ?_)
    · skip
      have h51 : n ≤ i := (nI_leI (a := n) (b := i) (by omega) (by omega)).mp h51
      have he : i = n := by omega
      subst he
      exact k
    · skip
      have h51 : ¬ n ≤ i := fun q => h51 ((nI_leI (a := n) (b := i) (by omega) (by omega)).mpr q)
      refine v_aload_n F d_P_goThrough_54 rfl 0 rfl ?_
      refine v_getr (r := 37) F fk_P_19 G34 rfl d_P_goThrough_55 ?_
      refine v_iload_n F d_P_goThrough_58 rfl 3 rfl ?_
      refine v_aload_n F d_P_goThrough_59 rfl 1 rfl ?_
      refine v_iload_n F d_P_goThrough_60 rfl 3 rfl ?_
      refine v_runi (r_V F (c_B_priceOf X.2.1 u hA (cpF σ 37 0 (fun i => priceS (kd i) (σ.1 19 9) (σ.1 31 i)) i) (bkOk_of hb (by rw [cpF_other _ _ _ _ (by decide)]) (by rw [cpF_other _ _ _ _ (by decide)]) (by rw [cpF_other _ _ _ _ (by decide)])) i (by omega)) mo_B_priceOf st_P_45 rc_19 (by decide) rfl (Nat.le_of_ble_eq_true rfl) d_P_goThrough_61) (fun r1 σ2 q3 => ?_)
      obtain ⟨rfl, rfl⟩ := q3
      refine v_ias F i G37 rfl (by omega) d_P_goThrough_64 ?_
      refine v_ns (fun σ4 eσ4 => ?_)
      refine v_iinc (v := nI (i + 1)) (ls' := [(3, .int (nI (i + 1))), (0, .ref (u.2.1 34)), (1, .ref (u.2.1 19)), (2, .int (nI m))]) F d_P_goThrough_65 (j := 3) rfl (nI_inc _) (by decide) rfl ?_
      refine v_goto F 46 d_P_goThrough_68 rfl ?_
      refine v_sub [1, 2, 3, 0] (ls' := [(0, .ref (u.2.1 34)), (1, .ref (u.2.1 19)), (2, .int (nI m)), (3, .int (nI (i + 1)))]) rfl ?_
      refine v_st (show σ4 = (cpF σ 37 0 (fun i => priceS (kd i) (σ.1 19 9) (σ.1 31 i)) (i + 1)) from (by first | rfl | (subst_vars; simp only [cpF, Nat.zero_add]; rw [cpF_other _ _ _ _ (show (19 : Nat) ≠ 37 by decide), cpF_other _ _ _ _ (show (31 : Nat) ≠ 37 by decide)]; done))) ?_
      exact ih (i + 1) (by omega) (by omega)
set_option maxHeartbeats 4000000 in
theorem c_P_goThrough (l : Launch) (u : Un) (hA : Ap u) (σ : St) {n G : Nat} {kd : Nat → Nat} (hb : bkOk σ n G kd) {L : Nat} (hL : σ.1 19 14 = nI L) (hL64 : L < 64) {m : Nat} (hm4 : m ≤ 4) : MTv l u y_P_goThrough b_P_goThrough 4 14 [.ref (u.2.1 34), .ref (u.2.1 19), .int (nI m)] σ (fun σ' => σ' = plnS σ G kd n L m) := by
  refine MT_of hA rfl (by decide) (Nat.le_of_ble_eq_true rfl) (fun X hl F hr => ?_)
  subst hl
  refine v_to (ls' := [(0, .ref (u.2.1 34)), (1, .ref (u.2.1 19)), (2, .int (nI m))]) rfl ?_
  obtain ⟨hn, hn6, hG, hG64, hkd, hk6⟩ := id hb
  refine v_iconst (v := 0) F d_P_goThrough_0 ki_0 ?_
  refine v_istore_n (ls' := [(3, .int 0), (0, .ref (u.2.1 34)), (1, .ref (u.2.1 19)), (2, .int (nI m))]) F d_P_goThrough_1 rfl (by decide) rfl ?_
  refine v_sub [1, 2, 3, 0] (ls' := [(0, .ref (u.2.1 34)), (1, .ref (u.2.1 19)), (2, .int (nI m)), (3, .int 0)]) rfl ?_
  have g1 : 0 = (nI 0) := (by first | rfl | (subst_vars; simp only [tryS]; rw [if_pos (by assumption)]; simp only [trT, tkS_tr, bI_vp, uI_o _ _ _ _ (show (28 : Nat) ≠ 35 by decide), uI_o _ _ _ _ (show (19 : Nat) ≠ 35 by decide), tryS_k _ _ _ _ _ (show (28 : Nat) ≠ 35 by decide) (show (28 : Nat) ≠ 36 by decide), tryS_k _ _ _ _ _ (show (19 : Nat) ≠ 35 by decide) (show (19 : Nat) ≠ 36 by decide)]; done) | (simp only [tryS]; rw [if_neg (by assumption)]; done))
  refine v_to (ls' := [(0, .ref (u.2.1 34)), (1, .ref (u.2.1 19)), (2, .int (nI m)), (3, .int (nI 0))]) (by first | rfl | rw [g1] | simp_all) ?_
  refine v_st (show σ = (tryS σ G kd n L 0) from (by first | rfl | (subst_vars; simp only [tryS]; rw [if_pos (by assumption)]; simp only [trT, tkS_tr, bI_vp, uI_o _ _ _ _ (show (28 : Nat) ≠ 35 by decide), uI_o _ _ _ _ (show (19 : Nat) ≠ 35 by decide), tryS_k _ _ _ _ _ (show (28 : Nat) ≠ 35 by decide) (show (28 : Nat) ≠ 36 by decide), tryS_k _ _ _ _ _ (show (19 : Nat) ≠ 35 by decide) (show (19 : Nat) ≠ 36 by decide)]; done) | (simp only [tryS]; rw [if_neg (by assumption)]; done))) ?_
  refine L_P_goThrough_2 hA F hb hL hL64 (m := m) ?_ _ 0 (Nat.zero_le _) (Nat.lt_succ_self _)
  refine v_iconst (v := 0) F d_P_goThrough_44 ki_0 ?_
  refine v_istore_n (ls' := [(3, .int 0), (0, .ref (u.2.1 34)), (1, .ref (u.2.1 19)), (2, .int (nI m))]) F d_P_goThrough_45 rfl (by decide) rfl ?_
  refine v_sub [1, 2, 3, 0] (ls' := [(0, .ref (u.2.1 34)), (1, .ref (u.2.1 19)), (2, .int (nI m)), (3, .int 0)]) rfl ?_
  have g2 : 0 = (nI 0) := (by first | rfl)
  refine v_to (ls' := [(0, .ref (u.2.1 34)), (1, .ref (u.2.1 19)), (2, .int (nI m)), (3, .int (nI 0))]) (by first | rfl | rw [g2] | simp_all) ?_
  refine v_st (show (tryS σ G kd n L 64) = (cpF (tryS σ G kd n L 64) 37 0 (fun i => priceS (kd i) ((tryS σ G kd n L 64).1 19 9) ((tryS σ G kd n L 64).1 31 i)) 0) from (by first | rfl)) ?_
  refine L_P_goThrough_46 hA F (tryS_ok hb 64) (m := m) ?_ _ 0 (Nat.zero_le _) (Nat.lt_succ_self _)
  refine v_aload_n F d_P_goThrough_71 rfl 0 rfl ?_
  refine v_aload_n F d_P_goThrough_72 rfl 1 rfl ?_
  refine v_geti F fk_P_48 G19 rfl d_P_goThrough_73 ?_
  refine v_te (y := σ.1 19 10) (by subst_vars; simp only [uI_o _ _ _ _ (show (19 : Nat) ≠ 34 by decide), cpF_other _ _ _ _ (show (19 : Nat) ≠ 37 by decide), tryS_k _ _ _ _ _ (show (19 : Nat) ≠ 35 by decide) (show (19 : Nat) ≠ 36 by decide)]; first | done | assumption) ?_
  refine v_puti F fk_P_51 pk_P_fee G34 rfl d_P_goThrough_76 ?_
  refine v_ns (fun σ3 eσ3 => ?_)
  refine v_aload_n F d_P_goThrough_79 rfl 0 rfl ?_
  refine v_aload_n F d_P_goThrough_80 rfl 1 rfl ?_
  refine v_geti F fk_P_52 G19 rfl d_P_goThrough_81 ?_
  refine v_te (y := nI L) (by subst_vars; simp only [uI_o _ _ _ _ (show (19 : Nat) ≠ 34 by decide), cpF_other _ _ _ _ (show (19 : Nat) ≠ 37 by decide), tryS_k _ _ _ _ _ (show (19 : Nat) ≠ 35 by decide) (show (19 : Nat) ≠ 36 by decide)]; first | done | assumption) ?_
  refine v_puti F fk_P_55 pk_P_leftAtFirst G34 rfl d_P_goThrough_84 ?_
  refine v_ns (fun σ4 eσ4 => ?_)
  refine v_aload_n F d_P_goThrough_87 rfl 0 rfl ?_
  refine v_iload_n F d_P_goThrough_88 rfl 2 rfl ?_
  refine v_puti F fk_P_58 pk_P_weeks G34 rfl d_P_goThrough_89 ?_
  refine v_ns (fun σ5 eσ5 => ?_)
  refine v_aload_n F d_P_goThrough_92 rfl 0 rfl ?_
  refine v_iconst (v := (-1)) F d_P_goThrough_93 ki_m1 ?_
  refine v_puti F fk_P_61 pk_P_most G34 rfl d_P_goThrough_94 ?_
  refine v_ns (fun σ6 eσ6 => ?_)
  refine v_aload_n F d_P_goThrough_97 rfl 0 rfl ?_
  refine v_iconst (v := 0) F d_P_goThrough_98 ki_0 ?_
  refine v_puti F fk_P_64 pk_P_untried G34 rfl d_P_goThrough_99 ?_
  refine v_ns (fun σ7 eσ7 => ?_)
  refine v_aload_n F d_P_goThrough_102 rfl 0 rfl ?_
  refine v_bipush (v := 63) F d_P_goThrough_103 kb_63 ?_
  refine v_puti F fk_P_67 pk_P_givenInAll G34 rfl d_P_goThrough_105 ?_
  refine v_ns (fun σ8 eσ8 => ?_)
  refine v_aload_n F d_P_goThrough_108 rfl 0 rfl ?_
  refine v_iconst (v := 0) F d_P_goThrough_109 ki_0 ?_
  refine v_aload_n F d_P_goThrough_110 rfl 0 rfl ?_
  refine v_geti F fk_P_55 G34 rfl d_P_goThrough_111 ?_
  refine v_te (y := nI L) (by subst_vars; simp [uI, upd]) ?_
  refine v_aload_n F d_P_goThrough_114 rfl 1 rfl ?_
  refine v_geti F fk_P_70 G19 rfl d_P_goThrough_115 ?_
  refine v_te (y := σ.1 19 17) (by subst_vars; simp only [uI_o _ _ _ _ (show (19 : Nat) ≠ 34 by decide), cpF_other _ _ _ _ (show (19 : Nat) ≠ 37 by decide), tryS_k _ _ _ _ _ (show (19 : Nat) ≠ 35 by decide) (show (19 : Nat) ≠ 36 by decide)]; first | done | assumption) ?_
  refine v_iconst (v := 0) F d_P_goThrough_118 ki_0 ?_
  refine v_runv (r_V F (c_P_goOnFrom X.2.1 u hA hm4 m σ8 (w := 0) (left := L) (by subst_vars; simp [uI, upd]) (by omega) hL64 (σ.1 19 17) 0) mo_P_goOnFrom st_P_73 rc_34 (by omega) rfl (Nat.le_of_ble_eq_true rfl) d_P_goThrough_119) (fun σ10 q11 => ?_)
  refine v_vret F hr d_P_goThrough_122 ?_
  subst_vars
  rfl
