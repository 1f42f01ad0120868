theorem G40 : Gam[40]? = some (.inr (.inr (3, [.inl 41, .inl 48, .inr false, .inr false, .inr false, .inr false]))) := rfl
theorem rc_40 : recv 40 "TakerBook$Marks" := ⟨3, _, (R_K, F_K, 6), G40, rfl, rfl⟩
theorem fk_K_11 : fok "TakerBook$Marks" 11 3 0 := ⟨(R_K, F_K, 6), rfl, by decide, List.mem_of_getElem? (i := 314) (by decide +kernel), rfl⟩
theorem G41 : Gam[41]? = some (.inr (.inl ((.array .int), 6, fun j => 42 + j))) := rfl
theorem fk_K_26 : fok "TakerBook$Marks" 26 3 2 := ⟨(R_K, F_K, 6), rfl, by decide, List.mem_of_getElem? (i := 316) (by decide +kernel), rfl⟩
theorem st_K_35 : siteV "TakerBook$Marks" 35 ⟨"TakerBook$Band", "talksWith", "(III)Z"⟩ := ⟨List.mem_of_getElem? (i := 743) (by decide +kernel), List.mem_of_getElem? (i := 581) (by decide +kernel), List.mem_of_getElem? (i := 582) (by decide +kernel)⟩
theorem fk_K_31 : fok "TakerBook$Marks" 31 1 8 := ⟨(R_B, F_B, 19), rfl, by decide, List.mem_of_getElem? (i := 194) (by decide +kernel), rfl⟩
theorem fk_K_16 : fok "TakerBook$Marks" 16 3 1 := ⟨(R_K, F_K, 6), rfl, by decide, List.mem_of_getElem? (i := 315) (by decide +kernel), rfl⟩
theorem fk_K_34 : fok "TakerBook$Marks" 34 1 5 := ⟨(R_B, F_B, 19), rfl, by decide, List.mem_of_getElem? (i := 187) (by decide +kernel), rfl⟩
theorem G48 : Gam[48]? = some (.inl (.int, 6)) := rfl
theorem fk_K_20 : fok "TakerBook$Marks" 20 1 14 := ⟨(R_B, F_B, 19), rfl, by decide, List.mem_of_getElem? (i := 206) (by decide +kernel), rfl⟩
theorem pk_K_left : pok 3 2 .int := ⟨(R_K, F_K, 6), rfl, rfl, by decide +kernel⟩
theorem fk_K_27 : fok "TakerBook$Marks" 27 1 12 := ⟨(R_B, F_B, 19), rfl, by decide, List.mem_of_getElem? (i := 202) (by decide +kernel), rfl⟩
theorem fk_K_30 : fok "TakerBook$Marks" 30 3 3 := ⟨(R_K, F_K, 6), rfl, by decide, List.mem_of_getElem? (i := 317) (by decide +kernel), rfl⟩
theorem pk_K_bench : pok 3 3 .int := ⟨(R_K, F_K, 6), rfl, rfl, by decide +kernel⟩
theorem fk_K_43 : fok "TakerBook$Marks" 43 3 4 := ⟨(R_K, F_K, 6), rfl, by decide, List.mem_of_getElem? (i := 318) (by decide +kernel), rfl⟩
theorem fk_K_46 : fok "TakerBook$Marks" 46 3 5 := ⟨(R_K, F_K, 6), rfl, by decide, List.mem_of_getElem? (i := 320) (by decide +kernel), rfl⟩
theorem st_K_53 : siteN "TakerBook$Marks" 53 ⟨"TakerBook", "isBetter", "(IIII)Z"⟩ "TakerBook" := ⟨by decide +kernel, List.mem_of_getElem? (i := 749) (by decide +kernel)⟩
theorem pk_K_fewest : pok 3 4 .int := ⟨(R_K, F_K, 6), rfl, rfl, by decide +kernel⟩
theorem pk_K_withTwo : pok 3 5 .int := ⟨(R_K, F_K, 6), rfl, rfl, by decide +kernel⟩
theorem st_K_49 : siteV "TakerBook$Marks" 49 ⟨"TakerBook$Marks", "seekFrom", "(IIII)V"⟩ := ⟨List.mem_of_getElem? (i := 744) (by decide +kernel), List.mem_of_getElem? (i := 746) (by decide +kernel), List.mem_of_getElem? (i := 11) (by decide +kernel)⟩
theorem st_K_57 : siteN "TakerBook$Marks" 57 ⟨"TakerBook", "isIn", "(II)Z"⟩ "TakerBook" := ⟨by decide +kernel, List.mem_of_getElem? (i := 608) (by decide +kernel)⟩
abbrev b_K_begin : ByteArray := prog_7_method_2_code
abbrev y_K_begin : MethodName := ⟨"TakerBook$Marks", "begin", "(LTakerBook$Band;)V"⟩
theorem d_K_begin_0 : decode b_K_begin 0 = .ok (.aload_n 0, 1) := by decide +kernel
theorem d_K_begin_1 : decode b_K_begin 1 = .ok (.aload_n 1, 1) := by decide +kernel
theorem d_K_begin_2 : decode b_K_begin 2 = .ok (.getfield 20, 3) := by decide +kernel
theorem d_K_begin_5 : decode b_K_begin 5 = .ok (.putfield 26, 3) := by decide +kernel
theorem d_K_begin_8 : decode b_K_begin 8 = .ok (.aload_n 0, 1) := by decide +kernel
theorem d_K_begin_9 : decode b_K_begin 9 = .ok (.aload_n 1, 1) := by decide +kernel
theorem d_K_begin_10 : decode b_K_begin 10 = .ok (.getfield 27, 3) := by decide +kernel
theorem d_K_begin_13 : decode b_K_begin 13 = .ok (.putfield 30, 3) := by decide +kernel
theorem d_K_begin_16 : decode b_K_begin 16 = .ok (.iconst 0, 1) := by decide +kernel
theorem d_K_begin_17 : decode b_K_begin 17 = .ok (.istore_n 2, 1) := by decide +kernel
theorem d_K_begin_18 : decode b_K_begin 18 = .ok (.iload_n 2, 1) := by decide +kernel
theorem d_K_begin_19 : decode b_K_begin 19 = .ok (.aload_n 1, 1) := by decide +kernel
theorem d_K_begin_20 : decode b_K_begin 20 = .ok (.getfield 31, 3) := by decide +kernel
theorem d_K_begin_23 : decode b_K_begin 23 = .ok (.if_icmp .ge 60, 3) := by decide +kernel
theorem d_K_begin_26 : decode b_K_begin 26 = .ok (.aload_n 0, 1) := by decide +kernel
theorem d_K_begin_27 : decode b_K_begin 27 = .ok (.getfield 16, 3) := by decide +kernel
theorem d_K_begin_30 : decode b_K_begin 30 = .ok (.iload_n 2, 1) := by decide +kernel
theorem d_K_begin_31 : decode b_K_begin 31 = .ok (.aload_n 1, 1) := by decide +kernel
theorem d_K_begin_32 : decode b_K_begin 32 = .ok (.getfield 34, 3) := by decide +kernel
theorem d_K_begin_35 : decode b_K_begin 35 = .ok (.iload_n 2, 1) := by decide +kernel
theorem d_K_begin_36 : decode b_K_begin 36 = .ok (.iaload, 1) := by decide +kernel
theorem d_K_begin_37 : decode b_K_begin 37 = .ok (.iastore, 1) := by decide +kernel
theorem d_K_begin_38 : decode b_K_begin 38 = .ok (.iconst 0, 1) := by decide +kernel
theorem d_K_begin_39 : decode b_K_begin 39 = .ok (.istore_n 3, 1) := by decide +kernel
theorem d_K_begin_40 : decode b_K_begin 40 = .ok (.iload_n 3, 1) := by decide +kernel
theorem d_K_begin_41 : decode b_K_begin 41 = .ok (.iconst 2, 1) := by decide +kernel
theorem d_K_begin_42 : decode b_K_begin 42 = .ok (.if_icmp .gt 35, 3) := by decide +kernel
theorem d_K_begin_45 : decode b_K_begin 45 = .ok (.aload_n 0, 1) := by decide +kernel
theorem d_K_begin_46 : decode b_K_begin 46 = .ok (.getfield 11, 3) := by decide +kernel
theorem d_K_begin_49 : decode b_K_begin 49 = .ok (.iload_n 2, 1) := by decide +kernel
theorem d_K_begin_50 : decode b_K_begin 50 = .ok (.aaload, 1) := by decide +kernel
theorem d_K_begin_51 : decode b_K_begin 51 = .ok (.iload_n 3, 1) := by decide +kernel
theorem d_K_begin_52 : decode b_K_begin 52 = .ok (.aload_n 1, 1) := by decide +kernel
theorem d_K_begin_53 : decode b_K_begin 53 = .ok (.iload_n 2, 1) := by decide +kernel
theorem d_K_begin_54 : decode b_K_begin 54 = .ok (.iload_n 3, 1) := by decide +kernel
theorem d_K_begin_55 : decode b_K_begin 55 = .ok (.aload_n 0, 1) := by decide +kernel
theorem d_K_begin_56 : decode b_K_begin 56 = .ok (.getfield 26, 3) := by decide +kernel
theorem d_K_begin_59 : decode b_K_begin 59 = .ok (.invokevirtual 35, 3) := by decide +kernel
theorem d_K_begin_62 : decode b_K_begin 62 = .ok (.ifCond .eq 7, 3) := by decide +kernel
theorem d_K_begin_65 : decode b_K_begin 65 = .ok (.iconst 1, 1) := by decide +kernel
theorem d_K_begin_66 : decode b_K_begin 66 = .ok (.goto 4, 3) := by decide +kernel
theorem d_K_begin_69 : decode b_K_begin 69 = .ok (.iconst 0, 1) := by decide +kernel
theorem d_K_begin_70 : decode b_K_begin 70 = .ok (.iastore, 1) := by decide +kernel
theorem d_K_begin_71 : decode b_K_begin 71 = .ok (.iinc 3 1, 3) := by decide +kernel
theorem d_K_begin_74 : decode b_K_begin 74 = .ok (.goto (-34), 3) := by decide +kernel
theorem d_K_begin_77 : decode b_K_begin 77 = .ok (.iinc 2 1, 3) := by decide +kernel
theorem d_K_begin_80 : decode b_K_begin 80 = .ok (.goto (-62), 3) := by decide +kernel
theorem d_K_begin_83 : decode b_K_begin 83 = .ok (.return_, 1) := by decide +kernel
theorem mo_K_begin : mok y_K_begin b_K_begin 4 none 1 := ⟨List.mem_of_getElem? (i := 742) (by decide +kernel), ⟨by decide +kernel, by decide +kernel, by decide +kernel⟩, List.mem_of_getElem? (i := 84) (by decide +kernel), by decide⟩
set_option maxHeartbeats 4000000 in
theorem L_K_begin_40 {X : FX} {u : Un} (hA : Ap u) {Q : State → Prop} (F : Fr X u "TakerBook$Marks" b_K_begin 4) {σ : St} {n G : Nat} {kd : Nat → Nat} (hb : bkOk σ n G kd) {L : Nat} (hL : σ.1 19 14 = nI L) (hL64 : L < 64) {i : Nat} (hi : i < n) (k : V X u 6 4 Q 77 [(0, .ref (u.2.1 40)), (1, .ref (u.2.1 19)), (2, .int (nI i)), (3, .int (nI 3))] [] (((cpF (uI (bgS σ G kd L i) 48 i (σ.1 31 i)) (42 + i) 0 (tcF σ G kd L i) 3)))) : ∀ (nn c : Nat), c ≤ 3 → 3 - c < nn → V X u 6 4 Q 40 [(0, .ref (u.2.1 40)), (1, .ref (u.2.1 19)), (2, .int (nI i)), (3, .int (nI c))] [] (((cpF (uI (bgS σ G kd L i) 48 i (σ.1 31 i)) (42 + i) 0 (tcF σ G kd L i) c))) := by
  intro nn
  induction nn with
  | zero =>
    intro c h1 h2
    exact absurd h2 (Nat.not_lt_zero _)
  | succ nn ih =>
    intro c hii hnn
    obtain ⟨hn, hn6, hG, hG64, hkd, hk6⟩ := id hb
    refine v_iload_n F d_K_begin_40 rfl 3 rfl ?_
    refine v_iconst (v := 2) F d_K_begin_41 ki_2 ?_
    refine v_icmp_gt F 77 d_K_begin_42 rfl (fun h42 => ?_) (fun h42 => ?_)
    · skip
      have h42 : 2 < c := (nI_ltI (a := 2) (b := c) (by omega) (by omega)).mp h42
      have he : c = 3 := by omega
      subst he
      exact k
    · skip
      have h42 : ¬ 2 < c := fun q => h42 ((nI_ltI (a := 2) (b := c) (by omega) (by omega)).mpr q)
      refine v_aload_n F d_K_begin_45 rfl 0 rfl ?_
      refine v_getr (r := 41) F fk_K_11 G40 rfl d_K_begin_46 ?_
      refine v_iload_n F d_K_begin_49 rfl 2 rfl ?_
      refine v_aal F i G41 rfl rfl (by omega) d_K_begin_50 ?_
      refine v_iload_n F d_K_begin_51 rfl 3 rfl ?_
      refine v_aload_n F d_K_begin_52 rfl 1 rfl ?_
      refine v_iload_n F d_K_begin_53 rfl 2 rfl ?_
      refine v_iload_n F d_K_begin_54 rfl 3 rfl ?_
      refine v_aload_n F d_K_begin_55 rfl 0 rfl ?_
      refine v_geti F fk_K_26 G40 rfl d_K_begin_56 ?_
      refine v_te (y := nI L) (by rw [cpF_other _ _ _ _ (by omega), uI_o _ _ _ _ (by decide), bgS_l _ _ _ _ _ (by omega)]) ?_
      refine v_runi (r_V F (c_B_talksWith X.2.1 u hA ((cpF (uI (bgS σ G kd L i) 48 i (σ.1 31 i)) (42 + i) 0 (tcF σ G kd L i) c)) (bkOk_of hb (by rw [cpF_other _ _ _ _ (by omega), uI_o _ _ _ _ (by decide), bgS_k _ _ _ _ (by decide) _ (by omega)]) (by rw [cpF_other _ _ _ _ (by omega), uI_o _ _ _ _ (by decide), bgS_k _ _ _ _ (by decide) _ (by omega)]) (by rw [cpF_other _ _ _ _ (by omega), uI_o _ _ _ _ (by decide), bgS_k _ _ _ _ (by decide) _ (by omega)])) i L (nI c) (by omega) (by omega)) mo_B_talksWith st_K_35 rc_19 (by decide) rfl (Nat.le_of_ble_eq_true rfl) d_K_begin_59) (fun r1 σ2 q3 => ?_)
      obtain ⟨rfl, rfl⟩ := q3
      refine v_bt F 69 d_K_begin_62 rfl (fun h62 => ?_) (fun h62 => ?_)
      · skip
        rw [show (cpF (uI (bgS σ G kd L i) 48 i (σ.1 31 i)) (42 + i) 0 (tcF σ G kd L i) c).1 29 = σ.1 29 from (by rw [cpF_other _ _ _ _ (by omega), uI_o _ _ _ _ (by decide), bgS_k _ _ _ _ (by decide) _ (by omega)]), show (cpF (uI (bgS σ G kd L i) 48 i (σ.1 31 i)) (42 + i) 0 (tcF σ G kd L i) c).1 19 = σ.1 19 from (by rw [cpF_other _ _ _ _ (by omega), uI_o _ _ _ _ (by decide), bgS_k _ _ _ _ (by decide) _ (by omega)])] at h62
        refine v_iconst (v := 0) F d_K_begin_69 ki_0 ?_
        refine v_ias F c (gam_talk _ (by omega)) rfl (by omega) d_K_begin_70 ?_
        refine v_ns (fun σ4 eσ4 => ?_)
        refine v_iinc (v := nI (c + 1)) (ls' := [(3, .int (nI (c + 1))), (0, .ref (u.2.1 40)), (1, .ref (u.2.1 19)), (2, .int (nI i))]) F d_K_begin_71 (j := 3) rfl (nI_inc _) (by decide) rfl ?_
        refine v_goto F 40 d_K_begin_74 rfl ?_
        refine v_sub [1, 2, 3, 0] (ls' := [(0, .ref (u.2.1 40)), (1, .ref (u.2.1 19)), (2, .int (nI i)), (3, .int (nI (c + 1)))]) rfl ?_
        refine v_st (show σ4 = ((cpF (uI (bgS σ G kd L i) 48 i (σ.1 31 i)) (42 + i) 0 (tcF σ G kd L i) (c + 1))) from (by first | rfl | (subst_vars; rfl) | (subst_vars; simp only [cpF, Nat.zero_add]; unfold tcF; first | (rw [bI_t (by assumption)]; done) | (rw [bI_f (by assumption)]; done)))) ?_
        exact ih (c + 1) (by omega) (by omega)
      · skip
        rw [show (cpF (uI (bgS σ G kd L i) 48 i (σ.1 31 i)) (42 + i) 0 (tcF σ G kd L i) c).1 29 = σ.1 29 from (by rw [cpF_other _ _ _ _ (by omega), uI_o _ _ _ _ (by decide), bgS_k _ _ _ _ (by decide) _ (by omega)]), show (cpF (uI (bgS σ G kd L i) 48 i (σ.1 31 i)) (42 + i) 0 (tcF σ G kd L i) c).1 19 = σ.1 19 from (by rw [cpF_other _ _ _ _ (by omega), uI_o _ _ _ _ (by decide), bgS_k _ _ _ _ (by decide) _ (by omega)])] at h62
        refine v_iconst (v := 1) F d_K_begin_65 ki_1 ?_
        refine v_goto F 70 d_K_begin_66 rfl ?_
        refine v_ias F c (gam_talk _ (by omega)) rfl (by omega) d_K_begin_70 ?_
        refine v_ns (fun σ5 eσ5 => ?_)
        refine v_iinc (v := nI (c + 1)) (ls' := [(3, .int (nI (c + 1))), (0, .ref (u.2.1 40)), (1, .ref (u.2.1 19)), (2, .int (nI i))]) F d_K_begin_71 (j := 3) rfl (nI_inc _) (by decide) rfl ?_
        refine v_goto F 40 d_K_begin_74 rfl ?_
        refine v_sub [1, 2, 3, 0] (ls' := [(0, .ref (u.2.1 40)), (1, .ref (u.2.1 19)), (2, .int (nI i)), (3, .int (nI (c + 1)))]) rfl ?_
        refine v_st (show σ5 = ((cpF (uI (bgS σ G kd L i) 48 i (σ.1 31 i)) (42 + i) 0 (tcF σ G kd L i) (c + 1))) from (by first | rfl | (subst_vars; rfl) | (subst_vars; simp only [cpF, Nat.zero_add]; unfold tcF; first | (rw [bI_t (by assumption)]; done) | (rw [bI_f (by assumption)]; done)))) ?_
        exact ih (c + 1) (by omega) (by omega)
set_option maxHeartbeats 4000000 in
theorem L_K_begin_18 {X : FX} {u : Un} (hA : Ap u) {Q : State → Prop} (F : Fr X u "TakerBook$Marks" b_K_begin 4) {σ : St} {n G : Nat} {kd : Nat → Nat} (hb : bkOk σ n G kd) {L : Nat} (hL : σ.1 19 14 = nI L) (hL64 : L < 64) (k : V X u 6 4 Q 83 [(0, .ref (u.2.1 40)), (1, .ref (u.2.1 19)), (2, .int (nI n))] [] (((bgS σ G kd L n)))) : ∀ (nn i : Nat), i ≤ n → n - i < nn → V X u 6 4 Q 18 [(0, .ref (u.2.1 40)), (1, .ref (u.2.1 19)), (2, .int (nI i))] [] (((bgS σ G kd L i))) := by
  intro nn
  induction nn with
  | zero =>
    intro i h1 h2
    exact absurd h2 (Nat.not_lt_zero _)
  | succ nn ih =>
    intro i hii hnn
    obtain ⟨hn, hn6, hG, hG64, hkd, hk6⟩ := id hb
    refine v_iload_n F d_K_begin_18 rfl 2 rfl ?_
    refine v_aload_n F d_K_begin_19 rfl 1 rfl ?_
    refine v_geti F fk_K_31 G19 rfl d_K_begin_20 ?_
    refine v_te (y := nI n) ((bkOk_of hb (by rw [bgS_k _ _ _ _ (by decide) _ (by omega)]) (by rw [bgS_k _ _ _ _ (by decide) _ (by omega)]) (by rw [bgS_k _ _ _ _ (by decide) _ (by omega)])).1) ?_
    refine v_icmp_ge F 83 d_K_begin_23 rfl (fun h23 => ?_) (fun h23 => ?_)
    · skip
      have h23 : n ≤ i := (nI_leI (a := n) (b := i) (by omega) (by omega)).mp h23
      have he : i = n := by omega
      subst he
      exact k
    · skip
      have h23 : ¬ n ≤ i := fun q => h23 ((nI_leI (a := n) (b := i) (by omega) (by omega)).mpr q)
      refine v_aload_n F d_K_begin_26 rfl 0 rfl ?_
      refine v_getr (r := 48) F fk_K_16 G40 rfl d_K_begin_27 ?_
      refine v_iload_n F d_K_begin_30 rfl 2 rfl ?_
      refine v_aload_n F d_K_begin_31 rfl 1 rfl ?_
      refine v_getr (r := 31) F fk_K_34 G19 rfl d_K_begin_32 ?_
      refine v_iload_n F d_K_begin_35 rfl 2 rfl ?_
      refine v_ial F i G31 rfl (by omega) d_K_begin_36 ?_
      refine v_te (y := σ.1 31 i) (by rw [bgS_k _ _ _ _ (by decide) _ (by omega)]) ?_
      refine v_ias F i G48 rfl (by omega) d_K_begin_37 ?_
      refine v_ns (fun σ1 eσ1 => ?_)
      refine v_iconst (v := 0) F d_K_begin_38 ki_0 ?_
      refine v_istore_n (ls' := [(3, .int 0), (0, .ref (u.2.1 40)), (1, .ref (u.2.1 19)), (2, .int (nI i))]) F d_K_begin_39 rfl (by decide) rfl ?_
      refine v_sub [1, 2, 3, 0] (ls' := [(0, .ref (u.2.1 40)), (1, .ref (u.2.1 19)), (2, .int (nI i)), (3, .int 0)]) rfl ?_
      have g2 : 0 = (nI 0) := (by first | rfl | (subst_vars; rfl) | (subst_vars; simp only [cpF, Nat.zero_add]; unfold tcF; first | (rw [bI_t (by assumption)]; done) | (rw [bI_f (by assumption)]; done)))
      refine v_to (ls' := [(0, .ref (u.2.1 40)), (1, .ref (u.2.1 19)), (2, .int (nI i)), (3, .int (nI 0))]) (by first | rfl | rw [g2] | simp_all) ?_
      refine v_st (show σ1 = ((cpF (uI (bgS σ G kd L i) 48 i (σ.1 31 i)) (42 + i) 0 (tcF σ G kd L i) 0)) from (by first | rfl | (subst_vars; rfl) | (subst_vars; simp only [cpF, Nat.zero_add]; unfold tcF; first | (rw [bI_t (by assumption)]; done) | (rw [bI_f (by assumption)]; done)))) ?_
      refine L_K_begin_40 hA F hb hL hL64 (by omega) ?_ _ 0 (Nat.zero_le _) (Nat.lt_succ_self _)
      refine v_iinc (v := nI (i + 1)) (ls' := [(2, .int (nI (i + 1))), (0, .ref (u.2.1 40)), (1, .ref (u.2.1 19)), (3, .int (nI 3))]) F d_K_begin_77 (j := 2) rfl (nI_inc _) (by decide) rfl ?_
      refine v_goto F 18 d_K_begin_80 rfl ?_
      refine v_sub [1, 2, 0] (ls' := [(0, .ref (u.2.1 40)), (1, .ref (u.2.1 19)), (2, .int (nI (i + 1)))]) rfl ?_
      refine v_st (show ((cpF (uI (bgS σ G kd L i) 48 i (σ.1 31 i)) (42 + i) 0 (tcF σ G kd L i) 3)) = ((bgS σ G kd L (i + 1))) from (by first | rfl | (subst_vars; rfl) | (subst_vars; done))) ?_
      exact ih (i + 1) (by omega) (by omega)
set_option maxHeartbeats 4000000 in
theorem c_K_begin (l : Launch) (u : Un) (hA : Ap u) (σ : St) {n G : Nat} {kd : Nat → Nat} (hb : bkOk σ n G kd) {L : Nat} (hL : σ.1 19 14 = nI L) (hL64 : L < 64) : MTv l u y_K_begin b_K_begin 4 6 [.ref (u.2.1 40), .ref (u.2.1 19)] σ (fun σ' => σ' = bgS σ G kd L n) := by
  refine MT_of hA rfl (by decide) (Nat.le_of_ble_eq_true rfl) (fun X hl F hr => ?_)
  subst hl
  refine v_to (ls' := [(0, .ref (u.2.1 40)), (1, .ref (u.2.1 19))]) rfl ?_
  obtain ⟨hn, hn6, hG, hG64, hkd, hk6⟩ := id hb
  refine v_aload_n F d_K_begin_0 rfl 0 rfl ?_
  refine v_aload_n F d_K_begin_1 rfl 1 rfl ?_
  refine v_geti F fk_K_20 G19 rfl d_K_begin_2 ?_
  refine v_te (y := nI L) hL ?_
  refine v_puti F fk_K_26 pk_K_left G40 rfl d_K_begin_5 ?_
  refine v_ns (fun σ1 eσ1 => ?_)
  refine v_aload_n F d_K_begin_8 rfl 0 rfl ?_
  refine v_aload_n F d_K_begin_9 rfl 1 rfl ?_
  refine v_geti F fk_K_27 G19 rfl d_K_begin_10 ?_
  refine v_te (y := σ.1 19 12) (by subst_vars; rfl) ?_
  refine v_puti F fk_K_30 pk_K_bench G40 rfl d_K_begin_13 ?_
  refine v_ns (fun σ2 eσ2 => ?_)
  refine v_iconst (v := 0) F d_K_begin_16 ki_0 ?_
  refine v_istore_n (ls' := [(2, .int 0), (0, .ref (u.2.1 40)), (1, .ref (u.2.1 19))]) F d_K_begin_17 rfl (by decide) rfl ?_
  refine v_sub [1, 2, 0] (ls' := [(0, .ref (u.2.1 40)), (1, .ref (u.2.1 19)), (2, .int 0)]) rfl ?_
  have g3 : 0 = (nI 0) := (by first | rfl | (subst_vars; rfl) | (subst_vars; done))
  refine v_to (ls' := [(0, .ref (u.2.1 40)), (1, .ref (u.2.1 19)), (2, .int (nI 0))]) (by first | rfl | rw [g3] | simp_all) ?_
  refine v_st (show σ2 = ((bgS σ G kd L 0)) from (by first | rfl | (subst_vars; rfl) | (subst_vars; done))) ?_
  refine L_K_begin_18 hA F hb hL hL64 ?_ _ 0 (Nat.zero_le _) (Nat.lt_succ_self _)
  refine v_vret F hr d_K_begin_83 ?_
  rfl
abbrev b_K_seekFrom : ByteArray := prog_7_method_4_code
abbrev y_K_seekFrom : MethodName := ⟨"TakerBook$Marks", "seekFrom", "(IIII)V"⟩
theorem d_K_seekFrom_0 : decode b_K_seekFrom 0 = .ok (.iload_n 1, 1) := by decide +kernel
theorem d_K_seekFrom_1 : decode b_K_seekFrom 1 = .ok (.bipush 6, 2) := by decide +kernel
theorem d_K_seekFrom_3 : decode b_K_seekFrom 3 = .ok (.if_icmp .lt 42, 3) := by decide +kernel
theorem d_K_seekFrom_6 : decode b_K_seekFrom 6 = .ok (.iload_n 3, 1) := by decide +kernel
theorem d_K_seekFrom_7 : decode b_K_seekFrom 7 = .ok (.aload_n 0, 1) := by decide +kernel
theorem d_K_seekFrom_8 : decode b_K_seekFrom 8 = .ok (.getfield 30, 3) := by decide +kernel
theorem d_K_seekFrom_11 : decode b_K_seekFrom 11 = .ok (.if_icmp .ge 123, 3) := by decide +kernel
theorem d_K_seekFrom_14 : decode b_K_seekFrom 14 = .ok (.iload_n 2, 1) := by decide +kernel
theorem d_K_seekFrom_15 : decode b_K_seekFrom 15 = .ok (.iload 4, 2) := by decide +kernel
theorem d_K_seekFrom_17 : decode b_K_seekFrom 17 = .ok (.aload_n 0, 1) := by decide +kernel
theorem d_K_seekFrom_18 : decode b_K_seekFrom 18 = .ok (.getfield 43, 3) := by decide +kernel
theorem d_K_seekFrom_21 : decode b_K_seekFrom 21 = .ok (.aload_n 0, 1) := by decide +kernel
theorem d_K_seekFrom_22 : decode b_K_seekFrom 22 = .ok (.getfield 46, 3) := by decide +kernel
theorem d_K_seekFrom_25 : decode b_K_seekFrom 25 = .ok (.invokestatic 53, 3) := by decide +kernel
theorem d_K_seekFrom_28 : decode b_K_seekFrom 28 = .ok (.ifCond .eq 106, 3) := by decide +kernel
theorem d_K_seekFrom_31 : decode b_K_seekFrom 31 = .ok (.aload_n 0, 1) := by decide +kernel
theorem d_K_seekFrom_32 : decode b_K_seekFrom 32 = .ok (.iload_n 2, 1) := by decide +kernel
theorem d_K_seekFrom_33 : decode b_K_seekFrom 33 = .ok (.putfield 43, 3) := by decide +kernel
theorem d_K_seekFrom_36 : decode b_K_seekFrom 36 = .ok (.aload_n 0, 1) := by decide +kernel
theorem d_K_seekFrom_37 : decode b_K_seekFrom 37 = .ok (.iload 4, 2) := by decide +kernel
theorem d_K_seekFrom_39 : decode b_K_seekFrom 39 = .ok (.putfield 46, 3) := by decide +kernel
theorem d_K_seekFrom_42 : decode b_K_seekFrom 42 = .ok (.goto 92, 3) := by decide +kernel
theorem d_K_seekFrom_45 : decode b_K_seekFrom 45 = .ok (.iload_n 1, 1) := by decide +kernel
theorem d_K_seekFrom_46 : decode b_K_seekFrom 46 = .ok (.aload_n 0, 1) := by decide +kernel
theorem d_K_seekFrom_47 : decode b_K_seekFrom 47 = .ok (.getfield 26, 3) := by decide +kernel
theorem d_K_seekFrom_50 : decode b_K_seekFrom 50 = .ok (.invokestatic 57, 3) := by decide +kernel
theorem d_K_seekFrom_53 : decode b_K_seekFrom 53 = .ok (.ifCond .ne 17, 3) := by decide +kernel
theorem d_K_seekFrom_56 : decode b_K_seekFrom 56 = .ok (.aload_n 0, 1) := by decide +kernel
theorem d_K_seekFrom_57 : decode b_K_seekFrom 57 = .ok (.iload_n 1, 1) := by decide +kernel
theorem d_K_seekFrom_58 : decode b_K_seekFrom 58 = .ok (.iconst 1, 1) := by decide +kernel
theorem d_K_seekFrom_59 : decode b_K_seekFrom 59 = .ok (.iadd, 1) := by decide +kernel
theorem d_K_seekFrom_60 : decode b_K_seekFrom 60 = .ok (.iload_n 2, 1) := by decide +kernel
theorem d_K_seekFrom_61 : decode b_K_seekFrom 61 = .ok (.iload_n 3, 1) := by decide +kernel
theorem d_K_seekFrom_62 : decode b_K_seekFrom 62 = .ok (.iload 4, 2) := by decide +kernel
theorem d_K_seekFrom_64 : decode b_K_seekFrom 64 = .ok (.invokevirtual 49, 3) := by decide +kernel
theorem d_K_seekFrom_67 : decode b_K_seekFrom 67 = .ok (.goto 67, 3) := by decide +kernel
theorem d_K_seekFrom_70 : decode b_K_seekFrom 70 = .ok (.aload_n 0, 1) := by decide +kernel
theorem d_K_seekFrom_71 : decode b_K_seekFrom 71 = .ok (.getfield 16, 3) := by decide +kernel
theorem d_K_seekFrom_74 : decode b_K_seekFrom 74 = .ok (.iload_n 1, 1) := by decide +kernel
theorem d_K_seekFrom_75 : decode b_K_seekFrom 75 = .ok (.iaload, 1) := by decide +kernel
theorem d_K_seekFrom_76 : decode b_K_seekFrom 76 = .ok (.istore 5, 2) := by decide +kernel
theorem d_K_seekFrom_78 : decode b_K_seekFrom 78 = .ok (.iload 5, 2) := by decide +kernel
theorem d_K_seekFrom_80 : decode b_K_seekFrom 80 = .ok (.iconst 2, 1) := by decide +kernel
theorem d_K_seekFrom_81 : decode b_K_seekFrom 81 = .ok (.if_icmp .gt 53, 3) := by decide +kernel
theorem d_K_seekFrom_84 : decode b_K_seekFrom 84 = .ok (.aload_n 0, 1) := by decide +kernel
theorem d_K_seekFrom_85 : decode b_K_seekFrom 85 = .ok (.iload_n 1, 1) := by decide +kernel
theorem d_K_seekFrom_86 : decode b_K_seekFrom 86 = .ok (.iconst 1, 1) := by decide +kernel
theorem d_K_seekFrom_87 : decode b_K_seekFrom 87 = .ok (.iadd, 1) := by decide +kernel
theorem d_K_seekFrom_88 : decode b_K_seekFrom 88 = .ok (.iload_n 2, 1) := by decide +kernel
theorem d_K_seekFrom_89 : decode b_K_seekFrom 89 = .ok (.iload 5, 2) := by decide +kernel
theorem d_K_seekFrom_91 : decode b_K_seekFrom 91 = .ok (.iadd, 1) := by decide +kernel
theorem d_K_seekFrom_92 : decode b_K_seekFrom 92 = .ok (.aload_n 0, 1) := by decide +kernel
theorem d_K_seekFrom_93 : decode b_K_seekFrom 93 = .ok (.getfield 16, 3) := by decide +kernel
theorem d_K_seekFrom_96 : decode b_K_seekFrom 96 = .ok (.iload_n 1, 1) := by decide +kernel
theorem d_K_seekFrom_97 : decode b_K_seekFrom 97 = .ok (.iaload, 1) := by decide +kernel
theorem d_K_seekFrom_98 : decode b_K_seekFrom 98 = .ok (.isub, 1) := by decide +kernel
theorem d_K_seekFrom_99 : decode b_K_seekFrom 99 = .ok (.iload_n 3, 1) := by decide +kernel
theorem d_K_seekFrom_100 : decode b_K_seekFrom 100 = .ok (.aload_n 0, 1) := by decide +kernel
theorem d_K_seekFrom_101 : decode b_K_seekFrom 101 = .ok (.getfield 11, 3) := by decide +kernel
theorem d_K_seekFrom_104 : decode b_K_seekFrom 104 = .ok (.iload_n 1, 1) := by decide +kernel
theorem d_K_seekFrom_105 : decode b_K_seekFrom 105 = .ok (.aaload, 1) := by decide +kernel
theorem d_K_seekFrom_106 : decode b_K_seekFrom 106 = .ok (.iload 5, 2) := by decide +kernel
theorem d_K_seekFrom_108 : decode b_K_seekFrom 108 = .ok (.iaload, 1) := by decide +kernel
theorem d_K_seekFrom_109 : decode b_K_seekFrom 109 = .ok (.iadd, 1) := by decide +kernel
theorem d_K_seekFrom_110 : decode b_K_seekFrom 110 = .ok (.iload 5, 2) := by decide +kernel
theorem d_K_seekFrom_112 : decode b_K_seekFrom 112 = .ok (.iconst 2, 1) := by decide +kernel
theorem d_K_seekFrom_113 : decode b_K_seekFrom 113 = .ok (.if_icmp .ne 10, 3) := by decide +kernel
theorem d_K_seekFrom_116 : decode b_K_seekFrom 116 = .ok (.iload 4, 2) := by decide +kernel
theorem d_K_seekFrom_118 : decode b_K_seekFrom 118 = .ok (.iconst 1, 1) := by decide +kernel
theorem d_K_seekFrom_119 : decode b_K_seekFrom 119 = .ok (.iadd, 1) := by decide +kernel
theorem d_K_seekFrom_120 : decode b_K_seekFrom 120 = .ok (.goto 5, 3) := by decide +kernel
theorem d_K_seekFrom_123 : decode b_K_seekFrom 123 = .ok (.iload 4, 2) := by decide +kernel
theorem d_K_seekFrom_125 : decode b_K_seekFrom 125 = .ok (.invokevirtual 49, 3) := by decide +kernel
theorem d_K_seekFrom_128 : decode b_K_seekFrom 128 = .ok (.iinc 5 1, 3) := by decide +kernel
theorem d_K_seekFrom_131 : decode b_K_seekFrom 131 = .ok (.goto (-53), 3) := by decide +kernel
theorem d_K_seekFrom_134 : decode b_K_seekFrom 134 = .ok (.return_, 1) := by decide +kernel
theorem mo_K_seekFrom : mok y_K_seekFrom b_K_seekFrom 6 none 4 := ⟨List.mem_of_getElem? (i := 747) (by decide +kernel), ⟨by decide +kernel, by decide +kernel, by decide +kernel⟩, List.mem_of_getElem? (i := 84) (by decide +kernel), by decide⟩
set_option maxHeartbeats 4000000 in
theorem c_K_seekFrom0 (l : Launch) (u : Un) (hA : Ap u) {L : Nat} {cr : Nat → Nat} {b : Int32} {τ : St} (hl : τ.1 40 2 = nI L) (hL64 : L < 64) (hbn : τ.1 40 3 = b) (hcr : ∀ i, i < 6 → L.testBit i = true → τ.1 48 i = nI (cr i) ∧ cr i ≤ 2) {i : Nat} (hi : i = 6) (p : Int32 × Int32) (mk sp tw : Int32) : MTv l u y_K_seekFrom b_K_seekFrom 6 (1) [.ref (u.2.1 40), .int (nI i), .int mk, .int sp, .int tw] (kS τ p) (fun σ' => σ' = kS τ (skF L cr (tkC τ) b 0 mk sp tw p)) := by
  refine MT_of hA rfl (by decide) (Nat.le_of_ble_eq_true rfl) (fun X hl F hr => ?_)
  subst hl
  refine v_to (ls' := [(0, .ref (u.2.1 40)), (1, .int (nI i)), (2, .int mk), (3, .int sp), (4, .int tw)]) rfl ?_
  refine v_iload_n F d_K_seekFrom_0 rfl 1 rfl ?_
  refine v_bipush (v := 6) F d_K_seekFrom_1 kb_6 ?_
  refine v_icmp_lt F 45 d_K_seekFrom_3 rfl (fun h3 => ?_) (fun h3 => ?_)
  · exact absurd h3 (by rw [hi]; decide)
  · skip
    refine v_iload_n F d_K_seekFrom_6 rfl 3 rfl ?_
    refine v_aload_n F d_K_seekFrom_7 rfl 0 rfl ?_
    refine v_geti F fk_K_30 G40 rfl d_K_seekFrom_8 ?_
    refine v_te (y := b) (by rw [kS_f _ _ (by decide)]; exact hbn) ?_
    refine v_icmp_ge F 134 d_K_seekFrom_11 rfl (fun h11 => ?_) (fun h11 => ?_)
    · skip
      refine v_vret F hr d_K_seekFrom_134 ?_
      simp only [skF]
      first | (rw [if_pos ⟨i_lt_le.mp (by assumption), by assumption⟩]; subst_vars; exact kS_kS _ _ (mk, tw)) | (rw [if_neg (fun q => absurd q.1 (i_nlt.mpr (by assumption)))]; done) | (rw [if_neg (fun q => absurd q.2 (by assumption))]; done)
    · skip
      refine v_iload_n F d_K_seekFrom_14 rfl 2 rfl ?_
      refine v_iload F d_K_seekFrom_15 4 rfl ?_
      refine v_aload_n F d_K_seekFrom_17 rfl 0 rfl ?_
      refine v_geti F fk_K_43 G40 rfl d_K_seekFrom_18 ?_
      refine v_te (y := p.1) (by simp [kS, uI, upd]) ?_
      refine v_aload_n F d_K_seekFrom_21 rfl 0 rfl ?_
      refine v_geti F fk_K_46 G40 rfl d_K_seekFrom_22 ?_
      refine v_te (y := p.2) (by simp [kS, uI, upd]) ?_
      refine v_runi (r_N F (c_T_isBetter X.2.1 u hA (kS τ p) mk tw p.1 p.2 ) mo_T_isBetter st_K_53 (by decide) rfl (Nat.le_of_ble_eq_true rfl) d_K_seekFrom_25) (fun r1 σ2 q3 => ?_)
      obtain ⟨rfl, rfl⟩ := q3
      refine v_bt F 134 d_K_seekFrom_28 rfl (fun h28 => ?_) (fun h28 => ?_)
      · skip
        refine v_vret F hr d_K_seekFrom_134 ?_
        simp only [skF]
        first | (rw [if_pos ⟨i_lt_le.mp (by assumption), by assumption⟩]; subst_vars; exact kS_kS _ _ (mk, tw)) | (rw [if_neg (fun q => absurd q.1 (i_nlt.mpr (by assumption)))]; done) | (rw [if_neg (fun q => absurd q.2 (by assumption))]; done)
      · skip
        refine v_aload_n F d_K_seekFrom_31 rfl 0 rfl ?_
        refine v_iload_n F d_K_seekFrom_32 rfl 2 rfl ?_
        refine v_puti F fk_K_43 pk_K_fewest G40 rfl d_K_seekFrom_33 ?_
        refine v_ns (fun σ4 eσ4 => ?_)
        refine v_aload_n F d_K_seekFrom_36 rfl 0 rfl ?_
        refine v_iload F d_K_seekFrom_37 4 rfl ?_
        refine v_puti F fk_K_46 pk_K_withTwo G40 rfl d_K_seekFrom_39 ?_
        refine v_ns (fun σ5 eσ5 => ?_)
        refine v_goto F 134 d_K_seekFrom_42 rfl ?_
        refine v_vret F hr d_K_seekFrom_134 ?_
        simp only [skF]
        first | (rw [if_pos ⟨i_lt_le.mp (by assumption), by assumption⟩]; subst_vars; exact kS_kS _ _ (mk, tw)) | (rw [if_neg (fun q => absurd q.1 (i_nlt.mpr (by assumption)))]; done) | (rw [if_neg (fun q => absurd q.2 (by assumption))]; done)
set_option maxHeartbeats 4000000 in
theorem L_K_seekFrom_78 {X : FX} {u : Un} (hA : Ap u) {Q : State → Prop} (F : Fr X u "TakerBook$Marks" b_K_seekFrom 6) {L : Nat} {cr : Nat → Nat} {b : Int32} {τ : St} (hl : τ.1 40 2 = nI L) (hL64 : L < 64) (hbn : τ.1 40 3 = b) (hcr : ∀ i, i < 6 → L.testBit i = true → τ.1 48 i = nI (cr i) ∧ cr i ≤ 2) {i kk : Nat} (hi : i < 6) (hLi : L.testBit i = true) {p : Int32 × Int32} {mk sp tw : Int32} (ihk : ∀ (p : Int32 × Int32) (mk sp tw : Int32), MTv X.2.1 u y_K_seekFrom b_K_seekFrom 6 (kk + 1) [.ref (u.2.1 40), .int (nI (i + 1)), .int mk, .int sp, .int tw] (kS τ p) (fun σ' => σ' = kS τ (skF L cr (tkC τ) b kk mk sp tw p))) (k : V X u (kk + 2) 6 Q 134 [(0, .ref (u.2.1 40)), (1, .int (nI i)), (2, .int mk), (3, .int sp), (4, .int tw), (5, .int (nI (cr i + ((3 - cr i)))))] [] ((kS τ (itr (fun d q => skF L cr (tkC τ) b kk (mk + nI (cr i + d) - nI (cr i)) (sp + tkC τ i (cr i + d)) (if cr i + d = 2 then tw + 1 else tw) q) p ((3 - cr i)))))) : ∀ (nn d : Nat), d ≤ (3 - cr i) → (3 - cr i) - d < nn → V X u (kk + 2) 6 Q 78 [(0, .ref (u.2.1 40)), (1, .int (nI i)), (2, .int mk), (3, .int sp), (4, .int tw), (5, .int (nI (cr i + d)))] [] ((kS τ (itr (fun d q => skF L cr (tkC τ) b kk (mk + nI (cr i + d) - nI (cr i)) (sp + tkC τ i (cr i + d)) (if cr i + d = 2 then tw + 1 else tw) q) p d))) := by
  intro nn
  induction nn with
  | zero =>
    intro d h1 h2
    exact absurd h2 (Nat.not_lt_zero _)
  | succ nn ih =>
    intro d hii hnn
    have hc2 := (hcr i hi hLi).2
    refine v_iload F d_K_seekFrom_78 5 rfl ?_
    refine v_iconst (v := 2) F d_K_seekFrom_80 ki_2 ?_
    refine v_icmp_gt F 134 d_K_seekFrom_81 rfl (fun h81 => ?_) (fun h81 => ?_)
    · skip
      have h81 : 2 < cr i + d := (nI_ltI (a := 2) (b := cr i + d) (by omega) (by omega)).mp h81
      have he : d = (3 - cr i) := by omega
      subst he
      exact k
    · skip
      have h81 : ¬ 2 < cr i + d := fun q => h81 ((nI_ltI (a := 2) (b := cr i + d) (by omega) (by omega)).mpr q)
      refine v_aload_n F d_K_seekFrom_84 rfl 0 rfl ?_
      refine v_iload_n F d_K_seekFrom_85 rfl 1 rfl ?_
      refine v_iconst (v := 1) F d_K_seekFrom_86 ki_1 ?_
      refine v_iadd F d_K_seekFrom_87 ?_
      refine v_te (y := nI (i + 1)) (nI_add _ _) ?_
      refine v_iload_n F d_K_seekFrom_88 rfl 2 rfl ?_
      refine v_iload F d_K_seekFrom_89 5 rfl ?_
      refine v_iadd F d_K_seekFrom_91 ?_
      refine v_aload_n F d_K_seekFrom_92 rfl 0 rfl ?_
      refine v_getr (r := 48) F fk_K_16 G40 rfl d_K_seekFrom_93 ?_
      refine v_iload_n F d_K_seekFrom_96 rfl 1 rfl ?_
      refine v_ial F i G48 rfl (by omega) d_K_seekFrom_97 ?_
      refine v_te (y := nI (cr i)) (by rw [kS_k _ _ (by decide)]; exact (hcr i hi hLi).1) ?_
      refine v_isub F d_K_seekFrom_98 ?_
      refine v_iload_n F d_K_seekFrom_99 rfl 3 rfl ?_
      refine v_aload_n F d_K_seekFrom_100 rfl 0 rfl ?_
      refine v_getr (r := 41) F fk_K_11 G40 rfl d_K_seekFrom_101 ?_
      refine v_iload_n F d_K_seekFrom_104 rfl 1 rfl ?_
      refine v_aal F i G41 rfl rfl hi d_K_seekFrom_105 ?_
      refine v_iload F d_K_seekFrom_106 5 rfl ?_
      refine v_ial F (cr i + d) (gam_talk _ hi) rfl (by omega) d_K_seekFrom_108 ?_
      refine v_te (y := tkC τ i (cr i + d)) (by rw [kS_k _ _ (by omega)]; rfl) ?_
      refine v_iadd F d_K_seekFrom_109 ?_
      refine v_iload F d_K_seekFrom_110 5 rfl ?_
      refine v_iconst (v := 2) F d_K_seekFrom_112 ki_2 ?_
      refine v_icmp_ne F 123 d_K_seekFrom_113 rfl (fun h113 => ?_) (fun h113 => ?_)
      · skip
        have h113 : ¬ cr i + d = 2 := fun q => h113 ((nI_eq (a := cr i + d) (b := 2) (by omega) (by omega)).mpr q)
        refine v_iload F d_K_seekFrom_123 4 rfl ?_
        refine v_runv (r_V F (ihk (itr (fun d q => skF L cr (tkC τ) b kk (mk + nI (cr i + d) - nI (cr i)) (sp + tkC τ i (cr i + d)) (if cr i + d = 2 then tw + 1 else tw) q) p d) ((mk + (nI (cr i + d))) - (nI (cr i))) (sp + (tkC τ i (cr i + d))) tw) mo_K_seekFrom st_K_49 rc_40 (by omega) rfl (Nat.le_of_ble_eq_true rfl) d_K_seekFrom_125) (fun σ2 q3 => ?_)
        refine v_iinc (v := nI (cr i + d + 1)) (ls' := [(5, .int (nI (cr i + d + 1))), (0, .ref (u.2.1 40)), (1, .int (nI i)), (2, .int mk), (3, .int sp), (4, .int tw)]) F d_K_seekFrom_128 (j := 5) rfl (nI_inc _) (by decide) rfl ?_
        refine v_goto F 78 d_K_seekFrom_131 rfl ?_
        refine v_sub [1, 2, 3, 4, 5, 0] (ls' := [(0, .ref (u.2.1 40)), (1, .int (nI i)), (2, .int mk), (3, .int sp), (4, .int tw), (5, .int (nI (cr i + d + 1)))]) rfl ?_
        have g4 : (nI (cr i + d + 1)) = (nI (cr i + (d + 1))) := (by first | rfl | (simp only [itr]; rw [if_pos (by assumption)]; assumption) | (simp only [itr]; rw [if_neg (by assumption)]; assumption))
        refine v_to (ls' := [(0, .ref (u.2.1 40)), (1, .int (nI i)), (2, .int mk), (3, .int sp), (4, .int tw), (5, .int (nI (cr i + (d + 1))))]) (by first | rfl | rw [g4] | simp_all) ?_
        refine v_st (show σ2 = (kS τ (itr (fun d q => skF L cr (tkC τ) b kk (mk + nI (cr i + d) - nI (cr i)) (sp + tkC τ i (cr i + d)) (if cr i + d = 2 then tw + 1 else tw) q) p (d + 1))) from (by first | rfl | (simp only [itr]; rw [if_pos (by assumption)]; assumption) | (simp only [itr]; rw [if_neg (by assumption)]; assumption))) ?_
        exact ih (d + 1) (by omega) (by omega)
      · skip
        have h113 : cr i + d = 2 := (nI_eq (a := cr i + d) (b := 2) (by omega) (by omega)).mp h113
        refine v_iload F d_K_seekFrom_116 4 rfl ?_
        refine v_iconst (v := 1) F d_K_seekFrom_118 ki_1 ?_
        refine v_iadd F d_K_seekFrom_119 ?_
        refine v_goto F 125 d_K_seekFrom_120 rfl ?_
        refine v_runv (r_V F (ihk (itr (fun d q => skF L cr (tkC τ) b kk (mk + nI (cr i + d) - nI (cr i)) (sp + tkC τ i (cr i + d)) (if cr i + d = 2 then tw + 1 else tw) q) p d) ((mk + (nI (cr i + d))) - (nI (cr i))) (sp + (tkC τ i (cr i + d))) (tw + 1)) mo_K_seekFrom st_K_49 rc_40 (by omega) rfl (Nat.le_of_ble_eq_true rfl) d_K_seekFrom_125) (fun σ6 q7 => ?_)
        refine v_iinc (v := nI (cr i + d + 1)) (ls' := [(5, .int (nI (cr i + d + 1))), (0, .ref (u.2.1 40)), (1, .int (nI i)), (2, .int mk), (3, .int sp), (4, .int tw)]) F d_K_seekFrom_128 (j := 5) rfl (nI_inc _) (by decide) rfl ?_
        refine v_goto F 78 d_K_seekFrom_131 rfl ?_
        refine v_sub [1, 2, 3, 4, 5, 0] (ls' := [(0, .ref (u.2.1 40)), (1, .int (nI i)), (2, .int mk), (3, .int sp), (4, .int tw), (5, .int (nI (cr i + d + 1)))]) rfl ?_
        have g8 : (nI (cr i + d + 1)) = (nI (cr i + (d + 1))) := (by first | rfl | (simp only [itr]; rw [if_pos (by assumption)]; assumption) | (simp only [itr]; rw [if_neg (by assumption)]; assumption))
        refine v_to (ls' := [(0, .ref (u.2.1 40)), (1, .int (nI i)), (2, .int mk), (3, .int sp), (4, .int tw), (5, .int (nI (cr i + (d + 1))))]) (by first | rfl | rw [g8] | simp_all) ?_
        refine v_st (show σ6 = (kS τ (itr (fun d q => skF L cr (tkC τ) b kk (mk + nI (cr i + d) - nI (cr i)) (sp + tkC τ i (cr i + d)) (if cr i + d = 2 then tw + 1 else tw) q) p (d + 1))) from (by first | rfl | (simp only [itr]; rw [if_pos (by assumption)]; assumption) | (simp only [itr]; rw [if_neg (by assumption)]; assumption))) ?_
        exact ih (d + 1) (by omega) (by omega)
set_option maxHeartbeats 4000000 in
theorem c_K_seekFrom1 (l : Launch) (u : Un) (hA : Ap u) {L : Nat} {cr : Nat → Nat} {b : Int32} {τ : St} (hl : τ.1 40 2 = nI L) (hL64 : L < 64) (hbn : τ.1 40 3 = b) (hcr : ∀ i, i < 6 → L.testBit i = true → τ.1 48 i = nI (cr i) ∧ cr i ≤ 2) {i kk : Nat} (hi : i + (kk + 1) = 6) (p : Int32 × Int32) (mk sp tw : Int32) (ihk : ∀ (p : Int32 × Int32) (mk sp tw : Int32), MTv l u y_K_seekFrom b_K_seekFrom 6 (kk + 1) [.ref (u.2.1 40), .int (nI (i + 1)), .int mk, .int sp, .int tw] (kS τ p) (fun σ' => σ' = kS τ (skF L cr (tkC τ) b kk mk sp tw p))) : MTv l u y_K_seekFrom b_K_seekFrom 6 (kk + 2) [.ref (u.2.1 40), .int (nI i), .int mk, .int sp, .int tw] (kS τ p) (fun σ' => σ' = kS τ (skF L cr (tkC τ) b (kk + 1) mk sp tw p)) := by
  refine MT_of hA rfl (by decide) (Nat.le_of_ble_eq_true rfl) (fun X hl F hr => ?_)
  subst hl
  refine v_to (ls' := [(0, .ref (u.2.1 40)), (1, .int (nI i)), (2, .int mk), (3, .int sp), (4, .int tw)]) rfl ?_
  refine v_iload_n F d_K_seekFrom_0 rfl 1 rfl ?_
  refine v_bipush (v := 6) F d_K_seekFrom_1 kb_6 ?_
  refine v_icmp_lt F 45 d_K_seekFrom_3 rfl (fun h3 => ?_) (fun h3 => ?_)
  · skip
    refine v_iload_n F d_K_seekFrom_45 rfl 1 rfl ?_
    refine v_aload_n F d_K_seekFrom_46 rfl 0 rfl ?_
    refine v_geti F fk_K_26 G40 rfl d_K_seekFrom_47 ?_
    refine v_te (y := nI L) (by rw [kS_f _ _ (by decide)]; exact hl) ?_
    refine v_runi (r_N F (c_T_isIn2 X.2.1 u hA (kS τ p) i L (by omega) (by omega)) mo_T_isIn st_K_57 (by omega) rfl (Nat.le_of_ble_eq_true rfl) d_K_seekFrom_50) (fun r1 σ2 q3 => ?_)
    obtain ⟨rfl, rfl⟩ := q3
    refine v_bf F 70 d_K_seekFrom_53 rfl (fun h53 => ?_) (fun h53 => ?_)
    · skip
      refine v_aload_n F d_K_seekFrom_70 rfl 0 rfl ?_
      refine v_getr (r := 48) F fk_K_16 G40 rfl d_K_seekFrom_71 ?_
      refine v_iload_n F d_K_seekFrom_74 rfl 1 rfl ?_
      refine v_ial F i G48 rfl (by omega) d_K_seekFrom_75 ?_
      refine v_te (y := nI (cr i)) (by rw [kS_k _ _ (by decide)]; exact (hcr i (by omega) h53).1) ?_
      refine v_istore (ls' := [(5, .int (nI (cr i))), (0, .ref (u.2.1 40)), (1, .int (nI i)), (2, .int mk), (3, .int sp), (4, .int tw)]) F d_K_seekFrom_76 (by decide) rfl ?_
      have hLi := h53
      refine v_sub [1, 2, 3, 4, 5, 0] (ls' := [(0, .ref (u.2.1 40)), (1, .int (nI i)), (2, .int mk), (3, .int sp), (4, .int tw), (5, .int (nI (cr i)))]) rfl ?_
      have g4 : (nI (cr i)) = (nI (cr i + 0)) := (by first | rfl | (simp only [itr]; rw [if_pos (by assumption)]; assumption) | (simp only [itr]; rw [if_neg (by assumption)]; assumption))
      refine v_to (ls' := [(0, .ref (u.2.1 40)), (1, .int (nI i)), (2, .int mk), (3, .int sp), (4, .int tw), (5, .int (nI (cr i + 0)))]) (by first | rfl | rw [g4] | simp_all) ?_
      refine v_st (show (kS τ p) = (kS τ (itr (fun d q => skF L cr (tkC τ) b kk (mk + nI (cr i + d) - nI (cr i)) (sp + tkC τ i (cr i + d)) (if cr i + d = 2 then tw + 1 else tw) q) p 0)) from (by first | rfl | (simp only [itr]; rw [if_pos (by assumption)]; assumption) | (simp only [itr]; rw [if_neg (by assumption)]; assumption))) ?_
      refine L_K_seekFrom_78 hA F hl hL64 hbn hcr (by omega) hLi ihk ?_ _ 0 (Nat.zero_le _) (Nat.lt_succ_self _)
      refine v_vret F hr d_K_seekFrom_134 ?_
      have ei : 5 - kk = i := by omega
      simp only [skF]
      rw [ei]
      first | (rw [if_pos (by assumption)]; done) | (rw [if_neg (by assumption)]; assumption)
    · skip
      refine v_aload_n F d_K_seekFrom_56 rfl 0 rfl ?_
      refine v_iload_n F d_K_seekFrom_57 rfl 1 rfl ?_
      refine v_iconst (v := 1) F d_K_seekFrom_58 ki_1 ?_
      refine v_iadd F d_K_seekFrom_59 ?_
      refine v_te (y := nI (i + 1)) (nI_add _ _) ?_
      refine v_iload_n F d_K_seekFrom_60 rfl 2 rfl ?_
      refine v_iload_n F d_K_seekFrom_61 rfl 3 rfl ?_
      refine v_iload F d_K_seekFrom_62 4 rfl ?_
      refine v_runv (r_V F (ihk p mk sp tw) mo_K_seekFrom st_K_49 rc_40 (by omega) rfl (Nat.le_of_ble_eq_true rfl) d_K_seekFrom_64) (fun σ6 q7 => ?_)
      refine v_goto F 134 d_K_seekFrom_67 rfl ?_
      refine v_vret F hr d_K_seekFrom_134 ?_
      have ei : 5 - kk = i := by omega
      simp only [skF]
      rw [ei]
      first | (rw [if_pos (by assumption)]; done) | (rw [if_neg (by assumption)]; assumption)
  · exact absurd h3 (fun q => q ((nI_ltI (a := i) (b := 6) (by omega) (by omega)).mpr (by omega)))
