theorem st_R_46 : siteS "TakerBook$Reader" 46 ⟨"TakerBook$Reader", "kindBy", "(I)I"⟩ := ⟨List.mem_of_getElem? (i := 485) (by decide +kernel), List.mem_of_getElem? (i := 486) (by decide +kernel)⟩
theorem fk_R_18 : fok "TakerBook$Reader" 18 5 2 := ⟨(R_R, F_R, 5), rfl, by decide, List.mem_of_getElem? (i := 112) (by decide +kernel), rfl⟩
theorem fk_R_25 : fok "TakerBook$Reader" 25 5 3 := ⟨(R_R, F_R, 5), rfl, by decide, List.mem_of_getElem? (i := 115) (by decide +kernel), rfl⟩
theorem st_R_38 : siteV "TakerBook$Reader" 38 ⟨"TakerBook$Reader", "readFigures", "([BI[II[I[I)Z"⟩ := ⟨List.mem_of_getElem? (i := 477) (by decide +kernel), List.mem_of_getElem? (i := 479) (by decide +kernel), List.mem_of_getElem? (i := 5) (by decide +kernel)⟩
theorem fk_R_9 : fok "TakerBook$Reader" 9 5 0 := ⟨(R_R, F_R, 5), rfl, by decide, List.mem_of_getElem? (i := 108) (by decide +kernel), rfl⟩
theorem G16 : Gam[16]? = some (.inl (.int, 6)) := rfl
theorem pk_R_thieves : pok 5 3 .int := ⟨(R_R, F_R, 5), rfl, rfl, by decide +kernel⟩
theorem st_R_42 : siteV "TakerBook$Reader" 42 ⟨"TakerBook$Reader", "readThief", "([BI)Z"⟩ := ⟨List.mem_of_getElem? (i := 481) (by decide +kernel), List.mem_of_getElem? (i := 483) (by decide +kernel), List.mem_of_getElem? (i := 6) (by decide +kernel)⟩
theorem st_R_28 : siteV "TakerBook$Reader" 28 ⟨"TakerBook$Reader", "skipBlanks", "([BI)V"⟩ := ⟨List.mem_of_getElem? (i := 469) (by decide +kernel), List.mem_of_getElem? (i := 471) (by decide +kernel), List.mem_of_getElem? (i := 4) (by decide +kernel)⟩
theorem fk_R_15 : fok "TakerBook$Reader" 15 5 1 := ⟨(R_R, F_R, 5), rfl, by decide, List.mem_of_getElem? (i := 110) (by decide +kernel), rfl⟩
abbrev b_R_readThief : ByteArray := prog_9_method_4_code
abbrev y_R_readThief : MethodName := ⟨"TakerBook$Reader", "readThief", "([BI)Z"⟩
theorem d_R_readThief_0 : decode b_R_readThief 0 = .ok (.aload_n 1, 1) := by decide +kernel
theorem d_R_readThief_1 : decode b_R_readThief 1 = .ok (.aload_n 0, 1) := by decide +kernel
theorem d_R_readThief_2 : decode b_R_readThief 2 = .ok (.getfield 21, 3) := by decide +kernel
theorem d_R_readThief_5 : decode b_R_readThief 5 = .ok (.baload, 1) := by decide +kernel
theorem d_R_readThief_6 : decode b_R_readThief 6 = .ok (.invokestatic 46, 3) := by decide +kernel
theorem d_R_readThief_9 : decode b_R_readThief 9 = .ok (.istore_n 3, 1) := by decide +kernel
theorem d_R_readThief_10 : decode b_R_readThief 10 = .ok (.iload_n 3, 1) := by decide +kernel
theorem d_R_readThief_11 : decode b_R_readThief 11 = .ok (.bipush (-9), 2) := by decide +kernel
theorem d_R_readThief_13 : decode b_R_readThief 13 = .ok (.if_icmp .ne 5, 3) := by decide +kernel
theorem d_R_readThief_16 : decode b_R_readThief 16 = .ok (.iconst 0, 1) := by decide +kernel
theorem d_R_readThief_17 : decode b_R_readThief 17 = .ok (.ireturn, 1) := by decide +kernel
theorem d_R_readThief_18 : decode b_R_readThief 18 = .ok (.aload_n 0, 1) := by decide +kernel
theorem d_R_readThief_19 : decode b_R_readThief 19 = .ok (.dup, 1) := by decide +kernel
theorem d_R_readThief_20 : decode b_R_readThief 20 = .ok (.getfield 21, 3) := by decide +kernel
theorem d_R_readThief_23 : decode b_R_readThief 23 = .ok (.iconst 1, 1) := by decide +kernel
theorem d_R_readThief_24 : decode b_R_readThief 24 = .ok (.iadd, 1) := by decide +kernel
theorem d_R_readThief_25 : decode b_R_readThief 25 = .ok (.putfield 21, 3) := by decide +kernel
theorem d_R_readThief_28 : decode b_R_readThief 28 = .ok (.aload_n 0, 1) := by decide +kernel
theorem d_R_readThief_29 : decode b_R_readThief 29 = .ok (.aload_n 1, 1) := by decide +kernel
theorem d_R_readThief_30 : decode b_R_readThief 30 = .ok (.iload_n 2, 1) := by decide +kernel
theorem d_R_readThief_31 : decode b_R_readThief 31 = .ok (.aload_n 0, 1) := by decide +kernel
theorem d_R_readThief_32 : decode b_R_readThief 32 = .ok (.getfield 18, 3) := by decide +kernel
theorem d_R_readThief_35 : decode b_R_readThief 35 = .ok (.iconst 3, 1) := by decide +kernel
theorem d_R_readThief_36 : decode b_R_readThief 36 = .ok (.aload_n 0, 1) := by decide +kernel
theorem d_R_readThief_37 : decode b_R_readThief 37 = .ok (.getfield 25, 3) := by decide +kernel
theorem d_R_readThief_40 : decode b_R_readThief 40 = .ok (.imul, 1) := by decide +kernel
theorem d_R_readThief_41 : decode b_R_readThief 41 = .ok (.getstatic 50, 3) := by decide +kernel
theorem d_R_readThief_44 : decode b_R_readThief 44 = .ok (.getstatic 53, 3) := by decide +kernel
theorem d_R_readThief_47 : decode b_R_readThief 47 = .ok (.invokevirtual 38, 3) := by decide +kernel
theorem d_R_readThief_50 : decode b_R_readThief 50 = .ok (.ifCond .ne 5, 3) := by decide +kernel
theorem d_R_readThief_53 : decode b_R_readThief 53 = .ok (.iconst 0, 1) := by decide +kernel
theorem d_R_readThief_54 : decode b_R_readThief 54 = .ok (.ireturn, 1) := by decide +kernel
theorem d_R_readThief_55 : decode b_R_readThief 55 = .ok (.aload_n 0, 1) := by decide +kernel
theorem d_R_readThief_56 : decode b_R_readThief 56 = .ok (.getfield 9, 3) := by decide +kernel
theorem d_R_readThief_59 : decode b_R_readThief 59 = .ok (.aload_n 0, 1) := by decide +kernel
theorem d_R_readThief_60 : decode b_R_readThief 60 = .ok (.getfield 25, 3) := by decide +kernel
theorem d_R_readThief_63 : decode b_R_readThief 63 = .ok (.iload_n 3, 1) := by decide +kernel
theorem d_R_readThief_64 : decode b_R_readThief 64 = .ok (.iastore, 1) := by decide +kernel
theorem d_R_readThief_65 : decode b_R_readThief 65 = .ok (.aload_n 0, 1) := by decide +kernel
theorem d_R_readThief_66 : decode b_R_readThief 66 = .ok (.dup, 1) := by decide +kernel
theorem d_R_readThief_67 : decode b_R_readThief 67 = .ok (.getfield 25, 3) := by decide +kernel
theorem d_R_readThief_70 : decode b_R_readThief 70 = .ok (.iconst 1, 1) := by decide +kernel
theorem d_R_readThief_71 : decode b_R_readThief 71 = .ok (.iadd, 1) := by decide +kernel
theorem d_R_readThief_72 : decode b_R_readThief 72 = .ok (.putfield 25, 3) := by decide +kernel
theorem d_R_readThief_75 : decode b_R_readThief 75 = .ok (.iconst 1, 1) := by decide +kernel
theorem d_R_readThief_76 : decode b_R_readThief 76 = .ok (.ireturn, 1) := by decide +kernel
theorem mo_R_readThief : mok y_R_readThief b_R_readThief 4 (some .boolean) 2 := ⟨List.mem_of_getElem? (i := 484) (by decide +kernel), ⟨by decide +kernel, by decide +kernel, by decide +kernel⟩, List.mem_of_getElem? (i := 75) (by decide +kernel), by decide⟩
set_option maxHeartbeats 4000000 in
theorem c_R_readThief (l : Launch) (u : Un) (hA : Ap u) {σ τ : St} (fτ : frT σ τ) {t N : Nat} (ht : t < 4) (hN : N ≤ 60) {p m : Nat} (hpl : τ.1 15 4 = nI p) (hp : p < N) (htv : τ.1 15 3 = nI m) (hm : m < 6) : MTi l u y_R_readThief b_R_readThief 4 .boolean 1 [.ref (u.2.1 15), .ref (u.2.1 (10 + t)), .int (nI N)] τ (fun ans σ' => (kbF (bTf σ t N p) = -9 ∧ 0 = ans ∧ τ = σ') ∨ (¬ kbF (bTf σ t N p) = -9 ∧ ¬ ffk (bTf σ t N) loT hiT (p + 1) 3 = 3 ∧ 0 = ans ∧ σ' = rfS (uI τ 15 4 (nI (p + 1))) 18 (3 * m) (p + 1) (fun i => bTf σ t N (p + 1 + i) - 48) (ffk (bTf σ t N) loT hiT (p + 1) 3)) ∨ (¬ kbF (bTf σ t N p) = -9 ∧ ffk (bTf σ t N) loT hiT (p + 1) 3 = 3 ∧ 1 = ans ∧ σ' = rtS τ (bTf σ t N) p m)) := by
  refine MT_of hA rfl (by decide) (Nat.le_of_ble_eq_true rfl) (fun X hl F hr => ?_)
  subst hl
  refine v_to (ls' := [(0, .ref (u.2.1 15)), (1, .ref (u.2.1 (10 + t))), (2, .int (nI N))]) rfl ?_
  refine v_aload_n F d_R_readThief_0 rfl 1 rfl ?_
  refine v_aload_n F d_R_readThief_1 rfl 0 rfl ?_
  refine v_geti F fk_R_21 G15 rfl d_R_readThief_2 ?_
  refine v_te (y := nI (p)) hpl ?_
  refine v_bal F p (gam_text _ ht) rfl (by omega) d_R_readThief_5 ?_
  refine v_te (y := bTf σ t N p) (bT_r fτ ht hp) ?_
  refine v_runi (r_S F (c_R_kindBy X.2.1 u hA τ (bTf σ t N p) ) mo_R_kindBy st_R_46 (by decide) rfl (Nat.le_of_ble_eq_true rfl) d_R_readThief_6) (fun r1 σ2 q3 => ?_)
  obtain ⟨rfl, rfl⟩ := q3
  refine v_istore_n (ls' := [(3, .int (kbF (bTf σ t N p))), (0, .ref (u.2.1 15)), (1, .ref (u.2.1 (10 + t))), (2, .int (nI N))]) F d_R_readThief_9 rfl (by decide) rfl ?_
  refine v_iload_n F d_R_readThief_10 rfl 0 rfl ?_
  refine v_bipush (v := (-9)) F d_R_readThief_11 kb_m9 ?_
  refine v_icmp_ne F 18 d_R_readThief_13 rfl (fun h13 => ?_) (fun h13 => ?_)
  · skip
    refine v_aload_n F d_R_readThief_18 rfl 1 rfl ?_
    refine v_dup F d_R_readThief_19 rfl ?_
    refine v_geti F fk_R_21 G15 rfl d_R_readThief_20 ?_
    refine v_te (y := nI (p)) hpl ?_
    refine v_iconst (v := 1) F d_R_readThief_23 ki_1 ?_
    refine v_iadd F d_R_readThief_24 ?_
    refine v_te (y := nI (p + 1)) (nI_add _ _) ?_
    refine v_puti F fk_R_21 pk_R_place G15 rfl d_R_readThief_25 ?_
    refine v_ns (fun σ4 eσ4 => ?_)
    have fσ4 : frT σ σ4 := by rw [eσ4]; exact fτ.u rfl
    refine v_aload_n F d_R_readThief_28 rfl 1 rfl ?_
    refine v_aload_n F d_R_readThief_29 rfl 2 rfl ?_
    refine v_iload_n F d_R_readThief_30 rfl 3 rfl ?_
    refine v_aload_n F d_R_readThief_31 rfl 1 rfl ?_
    refine v_getr (r := 18) F fk_R_18 G15 rfl d_R_readThief_32 ?_
    refine v_iconst (v := 3) F d_R_readThief_35 ki_3 ?_
    refine v_aload_n F d_R_readThief_36 rfl 1 rfl ?_
    refine v_geti F fk_R_25 G15 rfl d_R_readThief_37 ?_
    refine v_te (y := nI m) (by subst_vars; (repeat (first | rw [uI_o _ _ _ _ (by decide)] | rw [uI_n _ _ _ _ (by decide)] | rw [cpF_other _ _ _ _ (by decide)] | unfold rfS)); exact htv) ?_
    refine v_imul F d_R_readThief_40 ?_
    refine v_te (y := nI (3 * m)) (pk_mul _ _) ?_
    refine v_gets F (i := 3) rfl (List.mem_of_getElem? (i := 490) (by decide +kernel)) d_R_readThief_41 ?_
    refine v_gets F (i := 4) rfl (List.mem_of_getElem? (i := 492) (by decide +kernel)) d_R_readThief_44 ?_
    refine v_runi (r_V F (c_R_readFigurest X.2.1 u hA fσ4 ht hN (p := p + 1) (3 * m) (by omega) (by omega) (by rw [eσ4, uI_s])) mo_R_readFigures st_R_38 rc_15 (by decide) rfl (Nat.le_of_ble_eq_true rfl) d_R_readThief_47) (fun r5 σ6 q7 => ?_)
    rcases q7 with ⟨hf, rfl, eσ6⟩ | ⟨hf, rfl, eσ6⟩
    · skip
      have fσ6 : frT σ σ6 := by rw [eσ6]; exact rf_fr fσ4 rfl
      refine v_if_ne F 55 d_R_readThief_50 rfl (fun h => absurd (by decide) h) (fun _ => ?_)
      refine v_iconst (v := 0) F d_R_readThief_53 ki_0 ?_
      refine v_iret F hr rfl d_R_readThief_54 ?_
      exact Or.inr (Or.inl ⟨by assumption, by assumption, rfl, by subst_vars; rfl⟩)
    · skip
      have fσ6 : frT σ σ6 := by rw [eσ6]; exact rf_fr fσ4 rfl
      refine v_if_ne F 55 d_R_readThief_50 rfl (fun _ => ?_) (fun h => absurd h (by decide))
      refine v_aload_n F d_R_readThief_55 rfl 1 rfl ?_
      refine v_getr (r := 16) F fk_R_9 G15 rfl d_R_readThief_56 ?_
      refine v_aload_n F d_R_readThief_59 rfl 1 rfl ?_
      refine v_geti F fk_R_25 G15 rfl d_R_readThief_60 ?_
      refine v_te (y := nI m) (by subst_vars; (repeat (first | rw [uI_o _ _ _ _ (by decide)] | rw [uI_n _ _ _ _ (by decide)] | rw [cpF_other _ _ _ _ (by decide)] | unfold rfS)); exact htv) ?_
      refine v_iload_n F d_R_readThief_63 rfl 0 rfl ?_
      refine v_ias F m G16 rfl (by omega) d_R_readThief_64 ?_
      refine v_ns (fun σ8 eσ8 => ?_)
      have fσ8 : frT σ σ8 := by rw [eσ8]; exact fσ6.u rfl
      refine v_aload_n F d_R_readThief_65 rfl 1 rfl ?_
      refine v_dup F d_R_readThief_66 rfl ?_
      refine v_geti F fk_R_25 G15 rfl d_R_readThief_67 ?_
      refine v_te (y := nI m) (by subst_vars; (repeat (first | rw [uI_o _ _ _ _ (by decide)] | rw [uI_n _ _ _ _ (by decide)] | rw [cpF_other _ _ _ _ (by decide)] | unfold rfS)); exact htv) ?_
      refine v_iconst (v := 1) F d_R_readThief_70 ki_1 ?_
      refine v_iadd F d_R_readThief_71 ?_
      refine v_te (y := nI (m + 1)) (nI_add _ _) ?_
      refine v_puti F fk_R_25 pk_R_thieves G15 rfl d_R_readThief_72 ?_
      refine v_ns (fun σ9 eσ9 => ?_)
      have fσ9 : frT σ σ9 := by rw [eσ9]; exact fσ8.u rfl
      refine v_iconst (v := 1) F d_R_readThief_75 ki_1 ?_
      refine v_iret F hr rfl d_R_readThief_76 ?_
      exact Or.inr (Or.inr ⟨by assumption, by assumption, rfl, by subst_vars; rfl⟩)
  · skip
    refine v_iconst (v := 0) F d_R_readThief_16 ki_0 ?_
    refine v_iret F hr rfl d_R_readThief_17 ?_
    exact Or.inl ⟨by assumption, rfl, rfl⟩
abbrev b_R_read : ByteArray := prog_9_method_2_code
abbrev y_R_read : MethodName := ⟨"TakerBook$Reader", "read", "([BI)I"⟩
theorem d_R_read_0 : decode b_R_read 0 = .ok (.aload_n 0, 1) := by decide +kernel
theorem d_R_read_1 : decode b_R_read 1 = .ok (.iconst 0, 1) := by decide +kernel
theorem d_R_read_2 : decode b_R_read 2 = .ok (.putfield 21, 3) := by decide +kernel
theorem d_R_read_5 : decode b_R_read 5 = .ok (.aload_n 0, 1) := by decide +kernel
theorem d_R_read_6 : decode b_R_read 6 = .ok (.iconst 0, 1) := by decide +kernel
theorem d_R_read_7 : decode b_R_read 7 = .ok (.putfield 25, 3) := by decide +kernel
theorem d_R_read_10 : decode b_R_read 10 = .ok (.aload_n 0, 1) := by decide +kernel
theorem d_R_read_11 : decode b_R_read 11 = .ok (.aload_n 1, 1) := by decide +kernel
theorem d_R_read_12 : decode b_R_read 12 = .ok (.iload_n 2, 1) := by decide +kernel
theorem d_R_read_13 : decode b_R_read 13 = .ok (.invokevirtual 28, 3) := by decide +kernel
theorem d_R_read_16 : decode b_R_read 16 = .ok (.aload_n 0, 1) := by decide +kernel
theorem d_R_read_17 : decode b_R_read 17 = .ok (.getfield 21, 3) := by decide +kernel
theorem d_R_read_20 : decode b_R_read 20 = .ok (.iload_n 2, 1) := by decide +kernel
theorem d_R_read_21 : decode b_R_read 21 = .ok (.if_icmp .ge 14, 3) := by decide +kernel
theorem d_R_read_24 : decode b_R_read 24 = .ok (.aload_n 1, 1) := by decide +kernel
theorem d_R_read_25 : decode b_R_read 25 = .ok (.aload_n 0, 1) := by decide +kernel
theorem d_R_read_26 : decode b_R_read 26 = .ok (.getfield 21, 3) := by decide +kernel
theorem d_R_read_29 : decode b_R_read 29 = .ok (.baload, 1) := by decide +kernel
theorem d_R_read_30 : decode b_R_read 30 = .ok (.bipush 107, 2) := by decide +kernel
theorem d_R_read_32 : decode b_R_read 32 = .ok (.if_icmp .eq 8, 3) := by decide +kernel
theorem d_R_read_35 : decode b_R_read 35 = .ok (.aload_n 0, 1) := by decide +kernel
theorem d_R_read_36 : decode b_R_read 36 = .ok (.getfield 21, 3) := by decide +kernel
theorem d_R_read_39 : decode b_R_read 39 = .ok (.ireturn, 1) := by decide +kernel
theorem d_R_read_40 : decode b_R_read 40 = .ok (.aload_n 0, 1) := by decide +kernel
theorem d_R_read_41 : decode b_R_read 41 = .ok (.dup, 1) := by decide +kernel
theorem d_R_read_42 : decode b_R_read 42 = .ok (.getfield 21, 3) := by decide +kernel
theorem d_R_read_45 : decode b_R_read 45 = .ok (.iconst 1, 1) := by decide +kernel
theorem d_R_read_46 : decode b_R_read 46 = .ok (.iadd, 1) := by decide +kernel
theorem d_R_read_47 : decode b_R_read 47 = .ok (.putfield 21, 3) := by decide +kernel
theorem d_R_read_50 : decode b_R_read 50 = .ok (.aload_n 0, 1) := by decide +kernel
theorem d_R_read_51 : decode b_R_read 51 = .ok (.aload_n 1, 1) := by decide +kernel
theorem d_R_read_52 : decode b_R_read 52 = .ok (.iload_n 2, 1) := by decide +kernel
theorem d_R_read_53 : decode b_R_read 53 = .ok (.aload_n 0, 1) := by decide +kernel
theorem d_R_read_54 : decode b_R_read 54 = .ok (.getfield 15, 3) := by decide +kernel
theorem d_R_read_57 : decode b_R_read 57 = .ok (.iconst 0, 1) := by decide +kernel
theorem d_R_read_58 : decode b_R_read 58 = .ok (.getstatic 32, 3) := by decide +kernel
theorem d_R_read_61 : decode b_R_read 61 = .ok (.getstatic 35, 3) := by decide +kernel
theorem d_R_read_64 : decode b_R_read 64 = .ok (.invokevirtual 38, 3) := by decide +kernel
theorem d_R_read_67 : decode b_R_read 67 = .ok (.ifCond .ne 8, 3) := by decide +kernel
theorem d_R_read_70 : decode b_R_read 70 = .ok (.aload_n 0, 1) := by decide +kernel
theorem d_R_read_71 : decode b_R_read 71 = .ok (.getfield 21, 3) := by decide +kernel
theorem d_R_read_74 : decode b_R_read 74 = .ok (.ireturn, 1) := by decide +kernel
theorem d_R_read_75 : decode b_R_read 75 = .ok (.aload_n 0, 1) := by decide +kernel
theorem d_R_read_76 : decode b_R_read 76 = .ok (.aload_n 1, 1) := by decide +kernel
theorem d_R_read_77 : decode b_R_read 77 = .ok (.iload_n 2, 1) := by decide +kernel
theorem d_R_read_78 : decode b_R_read 78 = .ok (.invokevirtual 28, 3) := by decide +kernel
theorem d_R_read_81 : decode b_R_read 81 = .ok (.iconst 0, 1) := by decide +kernel
theorem d_R_read_82 : decode b_R_read 82 = .ok (.istore_n 3, 1) := by decide +kernel
theorem d_R_read_83 : decode b_R_read 83 = .ok (.iload_n 3, 1) := by decide +kernel
theorem d_R_read_84 : decode b_R_read 84 = .ok (.bipush 6, 2) := by decide +kernel
theorem d_R_read_86 : decode b_R_read 86 = .ok (.if_icmp .ge 37, 3) := by decide +kernel
theorem d_R_read_89 : decode b_R_read 89 = .ok (.aload_n 0, 1) := by decide +kernel
theorem d_R_read_90 : decode b_R_read 90 = .ok (.getfield 21, 3) := by decide +kernel
theorem d_R_read_93 : decode b_R_read 93 = .ok (.iload_n 2, 1) := by decide +kernel
theorem d_R_read_94 : decode b_R_read 94 = .ok (.if_icmp .ge 29, 3) := by decide +kernel
theorem d_R_read_97 : decode b_R_read 97 = .ok (.aload_n 0, 1) := by decide +kernel
theorem d_R_read_98 : decode b_R_read 98 = .ok (.aload_n 1, 1) := by decide +kernel
theorem d_R_read_99 : decode b_R_read 99 = .ok (.iload_n 2, 1) := by decide +kernel
theorem d_R_read_100 : decode b_R_read 100 = .ok (.invokevirtual 42, 3) := by decide +kernel
theorem d_R_read_103 : decode b_R_read 103 = .ok (.ifCond .ne 8, 3) := by decide +kernel
theorem d_R_read_106 : decode b_R_read 106 = .ok (.aload_n 0, 1) := by decide +kernel
theorem d_R_read_107 : decode b_R_read 107 = .ok (.getfield 21, 3) := by decide +kernel
theorem d_R_read_110 : decode b_R_read 110 = .ok (.ireturn, 1) := by decide +kernel
theorem d_R_read_111 : decode b_R_read 111 = .ok (.aload_n 0, 1) := by decide +kernel
theorem d_R_read_112 : decode b_R_read 112 = .ok (.aload_n 1, 1) := by decide +kernel
theorem d_R_read_113 : decode b_R_read 113 = .ok (.iload_n 2, 1) := by decide +kernel
theorem d_R_read_114 : decode b_R_read 114 = .ok (.invokevirtual 28, 3) := by decide +kernel
theorem d_R_read_117 : decode b_R_read 117 = .ok (.iinc 3 1, 3) := by decide +kernel
theorem d_R_read_120 : decode b_R_read 120 = .ok (.goto (-37), 3) := by decide +kernel
theorem d_R_read_123 : decode b_R_read 123 = .ok (.aload_n 0, 1) := by decide +kernel
theorem d_R_read_124 : decode b_R_read 124 = .ok (.getfield 21, 3) := by decide +kernel
theorem d_R_read_127 : decode b_R_read 127 = .ok (.iload_n 2, 1) := by decide +kernel
theorem d_R_read_128 : decode b_R_read 128 = .ok (.if_icmp .lt 10, 3) := by decide +kernel
theorem d_R_read_131 : decode b_R_read 131 = .ok (.aload_n 0, 1) := by decide +kernel
theorem d_R_read_132 : decode b_R_read 132 = .ok (.getfield 25, 3) := by decide +kernel
theorem d_R_read_135 : decode b_R_read 135 = .ok (.ifCond .ne 10, 3) := by decide +kernel
theorem d_R_read_138 : decode b_R_read 138 = .ok (.aload_n 0, 1) := by decide +kernel
theorem d_R_read_139 : decode b_R_read 139 = .ok (.getfield 21, 3) := by decide +kernel
theorem d_R_read_142 : decode b_R_read 142 = .ok (.goto 5, 3) := by decide +kernel
theorem d_R_read_145 : decode b_R_read 145 = .ok (.bipush (-9), 2) := by decide +kernel
theorem d_R_read_147 : decode b_R_read 147 = .ok (.ireturn, 1) := by decide +kernel
theorem mo_R_read : mok y_R_read b_R_read 4 (some .int) 2 := ⟨List.mem_of_getElem? (i := 468) (by decide +kernel), ⟨by decide +kernel, by decide +kernel, by decide +kernel⟩, List.mem_of_getElem? (i := 75) (by decide +kernel), by decide⟩
set_option maxHeartbeats 4000000 in
theorem L_R_read_83 {X : FX} {u : Un} (hA : Ap u) {Q : State → Prop} (F : Fr X u "TakerBook$Reader" b_R_read 4) {σ : St} {t N : Nat} (ht : t < 4) (hN : N ≤ 60) (k0 : ∀ (i : Nat) (τ : St), frT σ τ → τ.1 15 4 = (rdF (bTf σ t N) N).1 → ¬ (rdF (bTf σ t N) N).1 = -9 → V X u 2 4 Q 106 [(0, .ref (u.2.1 15))] [] (τ)) (k1 : ∀ (i : Nat) (τ : St), frT σ τ → (QQ (bTf σ t N) N i) ≤ N → τ.1 15 4 = nI (QQ (bTf σ t N) N i) → τ.1 15 3 = nI i → i ≤ 6 → thd (bTf σ t N) (P0 (bTf σ t N) N) τ → tth (bTf σ t N) N i τ → (rdF (bTf σ t N) N) = (if (QQ (bTf σ t N) N i) < N ∨ i = 0 then nI (QQ (bTf σ t N) N i) else -9, i) → V X u 2 4 Q 123 [(0, .ref (u.2.1 15)), (2, .int (nI N))] [] (τ))  : ∀ (nn : Nat) (i : Nat) (τ : St), i ≤ 6 → (QQ (bTf σ t N) N i) ≤ N → frT σ τ → τ.1 15 4 = nI (QQ (bTf σ t N) N i) → τ.1 15 3 = nI i → thd (bTf σ t N) (P0 (bTf σ t N) N) τ → tth (bTf σ t N) N i τ → tgo (bTf σ t N) N (6 - i) i (QQ (bTf σ t N) N i) = (rdF (bTf σ t N) N) → 6 - i < nn → V X u 2 4 Q 83 [(0, .ref (u.2.1 15)), (1, .ref (u.2.1 (10 + t))), (2, .int (nI N)), (3, .int (nI i))] [] (τ) := by
  intro nn
  induction nn with
  | zero =>
    intro i τ hi hQ fτ hpl htv hd hth hR h2
    exact absurd h2 (Nat.not_lt_zero _)
  | succ nn ih =>
    intro i τ hi hQ fτ hpl htv hd hth hR hm
    refine v_iload_n F d_R_read_83 rfl 3 rfl ?_
    refine v_bipush (v := 6) F d_R_read_84 kb_6 ?_
    refine v_icmp_ge F 123 d_R_read_86 rfl (fun h86 => ?_) (fun h86 => ?_)
    · skip
      have h86 : 6 ≤ i := (nI_leI (a := 6) (b := i) (by omega) (by omega)).mp h86
      refine v_sub [0, 2] (ls' := [(0, .ref (u.2.1 15)), (2, .int (nI N))]) rfl ?_
      exact k1 i τ fτ hQ hpl htv hi hd hth (rdT_e hR hi (by omega))
    · skip
      have h86 : ¬ 6 ≤ i := fun q => h86 ((nI_leI (a := 6) (b := i) (by omega) (by omega)).mpr q)
      refine v_aload_n F d_R_read_89 rfl 0 rfl ?_
      refine v_geti F fk_R_21 G15 rfl d_R_read_90 ?_
      refine v_te (y := nI (QQ (bTf σ t N) N i)) hpl ?_
      refine v_iload_n F d_R_read_93 rfl 2 rfl ?_
      refine v_icmp_ge F 123 d_R_read_94 rfl (fun h94 => ?_) (fun h94 => ?_)
      · skip
        have h94 : N ≤ (QQ (bTf σ t N) N i) := (nI_leI (a := N) (b := (QQ (bTf σ t N) N i)) (by omega) (by omega)).mp h94
        refine v_sub [0, 2] (ls' := [(0, .ref (u.2.1 15)), (2, .int (nI N))]) rfl ?_
        exact k1 i τ fτ hQ hpl htv hi hd hth (rdT_e hR hi (by omega))
      · skip
        have h94 : ¬ N ≤ (QQ (bTf σ t N) N i) := fun q => h94 ((nI_leI (a := N) (b := (QQ (bTf σ t N) N i)) (by omega) (by omega)).mpr q)
        refine v_aload_n F d_R_read_97 rfl 0 rfl ?_
        refine v_aload_n F d_R_read_98 rfl 1 rfl ?_
        refine v_iload_n F d_R_read_99 rfl 2 rfl ?_
        refine v_runi (r_V F (c_R_readThief X.2.1 u hA fτ ht hN (p := (QQ (bTf σ t N) N i)) (m := i) hpl (by omega) htv (by omega)) mo_R_readThief st_R_42 rc_15 (by decide) rfl (Nat.le_of_ble_eq_true rfl) d_R_read_100) (fun r1 σ2 q3 => ?_)
        rcases q3 with ⟨hk, rfl, rfl⟩ | ⟨hk, hf3, rfl, eσ2⟩ | ⟨hk, hf3, rfl, eσ2⟩
        · skip
          refine v_if_ne F 111 d_R_read_103 rfl (fun h => absurd (by decide) h) (fun _ => ?_)
          refine v_sub [0] (ls' := [(0, .ref (u.2.1 15))]) rfl ?_
          exact k0 i τ fτ (by rw [hpl, ← hR, tgo_b (by omega) (by omega) (Or.inl hk)]) (by rw [← hR, tgo_b (by omega) (by omega) (Or.inl hk)]; exact nI_n9 (by omega))
        · skip
          have fσ2 : frT σ σ2 := by rw [eσ2]; exact rf_fr (fτ.u rfl) rfl
          refine v_if_ne F 111 d_R_read_103 rfl (fun h => absurd (by decide) h) (fun _ => ?_)
          refine v_sub [0] (ls' := [(0, .ref (u.2.1 15))]) rfl ?_
          exact k0 i σ2 fσ2 (by rw [← hR, tgo_f (by omega) (by omega) (fun q => q.elim hk (by omega)) hf3]; show σ2.1 15 4 = nI _; rw [eσ2]; exact uI_s _ _ _ _) (by rw [← hR, tgo_f (by omega) (by omega) (fun q => q.elim hk (by omega)) hf3]; exact nI_n9 (by have := ffk_le (f := (bTf σ t N)) (lo := loT) (hi := hiT) (p := (QQ (bTf σ t N) N i) + 1) 3; omega))
        · skip
          have fσ2 : frT σ σ2 := by rw [eσ2]; exact rt_fr fτ
          refine v_if_ne F 111 d_R_read_103 rfl (fun _ => ?_) (fun h => absurd h (by decide))
          refine v_aload_n F d_R_read_111 rfl 0 rfl ?_
          refine v_aload_n F d_R_read_112 rfl 1 rfl ?_
          refine v_iload_n F d_R_read_113 rfl 2 rfl ?_
          refine v_runv (r_V F (c_R_skipBlanks X.2.1 u hA fσ2 ht hN (p := (QQ (bTf σ t N) N i) + 4) (by rw [eσ2]; unfold rtS; rw [uI_n _ _ _ _ (by decide), uI_o _ _ _ _ (by decide)]; exact uI_s _ _ _ _) (by have := ffT_in (N := N) (fun q hq => bT_0 hq) hf3; omega)) mo_R_skipBlanks st_R_28 rc_15 (by decide) rfl (Nat.le_of_ble_eq_true rfl) d_R_read_114) (fun σ5 q6 => ?_)
          have eσ5 := q6
          have fσ5 : frT σ σ5 := by rw [eσ5]; exact fσ2.u rfl
          refine v_iinc (v := nI (i + 1)) (ls' := [(3, .int (nI (i + 1))), (0, .ref (u.2.1 15)), (1, .ref (u.2.1 (10 + t))), (2, .int (nI N))]) F d_R_read_117 (j := 3) rfl (nI_inc _) (by decide) rfl ?_
          refine v_goto F 83 d_R_read_120 rfl ?_
          refine v_sub [1, 2, 3, 0] (ls' := [(0, .ref (u.2.1 15)), (1, .ref (u.2.1 (10 + t))), (2, .int (nI N)), (3, .int (nI (i + 1)))]) rfl ?_
          exact ih (i + 1) (σ5) (by omega) (show skN (bTf σ t N) N ((QQ (bTf σ t N) N i) + 4) ≤ N from skN_le (by have := ffT_in (N := N) (fun q hq => bT_0 hq) hf3; omega)) fσ5 (by rw [eσ5, uI_s]; rfl) (by subst_vars; rw [uI_n _ _ _ _ (by decide)]; exact uI_s _ _ _ _) (fun k hk => by subst_vars; unfold rtS rfS; rw [uI_o _ _ _ _ (by decide), uI_o _ _ _ _ (by decide), uI_o _ _ _ _ (by decide), uI_o _ _ _ _ (by decide), cpF_other _ _ _ _ (by decide), uI_o _ _ _ _ (by decide)]; exact hd k hk) (by subst_vars; exact tth_s hth rfl hk hf3) (by rw [← hR, show 6 - i = 6 - (i + 1) + 1 by omega]; exact (tgo_s (by omega) hk hf3).symm) (by omega)
set_option maxHeartbeats 4000000 in
theorem c_R_read (l : Launch) (u : Un) (hA : Ap u) (σ : St) {t N : Nat} (ht : t < 4) (hN : N ≤ 60) (h0 : True) : MTi l u y_R_read b_R_read 4 .int 2 [.ref (u.2.1 15), .ref (u.2.1 (10 + t)), .int (nI N)] σ (fun ans σ' => frT σ σ' ∧ (rdF (bTf σ t N) N).1 = ans ∧ ((rdF (bTf σ t N) N).1 = -9 → σ'.1 15 3 = nI (rdF (bTf σ t N) N).2 ∧ bkT (bTf σ t N) N σ')) := by
  refine MT_of hA rfl (by decide) (Nat.le_of_ble_eq_true rfl) (fun X hl F hr => ?_)
  subst hl
  refine v_to (ls' := [(0, .ref (u.2.1 15)), (1, .ref (u.2.1 (10 + t))), (2, .int (nI N))]) rfl ?_
  refine v_aload_n F d_R_read_0 rfl 0 rfl ?_
  refine v_iconst (v := 0) F d_R_read_1 ki_0 ?_
  refine v_puti F fk_R_21 pk_R_place G15 rfl d_R_read_2 ?_
  refine v_ns (fun σ1 eσ1 => ?_)
  have fσ1 : frT σ σ1 := by rw [eσ1]; exact frT.rf.u rfl
  refine v_aload_n F d_R_read_5 rfl 0 rfl ?_
  refine v_iconst (v := 0) F d_R_read_6 ki_0 ?_
  refine v_puti F fk_R_25 pk_R_thieves G15 rfl d_R_read_7 ?_
  refine v_ns (fun σ2 eσ2 => ?_)
  have fσ2 : frT σ σ2 := by rw [eσ2]; exact fσ1.u rfl
  refine v_aload_n F d_R_read_10 rfl 0 rfl ?_
  refine v_aload_n F d_R_read_11 rfl 1 rfl ?_
  refine v_iload_n F d_R_read_12 rfl 2 rfl ?_
  refine v_runv (r_V F (c_R_skipBlanks X.2.1 u hA fσ2 ht hN (p := 0) (by rw [eσ2, uI_n _ _ _ _ (by decide), eσ1, uI_s]; rfl) (by omega)) mo_R_skipBlanks st_R_28 rc_15 (by decide) rfl (Nat.le_of_ble_eq_true rfl) d_R_read_13) (fun σ4 q5 => ?_)
  have eσ4 := q5
  have fσ4 : frT σ σ4 := by rw [eσ4]; exact fσ2.u rfl
  have hq0 : skN (bTf σ t N) N 0 ≤ N := skN_le (Nat.zero_le _)
  refine v_aload_n F d_R_read_16 rfl 0 rfl ?_
  refine v_geti F fk_R_21 G15 rfl d_R_read_17 ?_
  refine v_te (y := nI (skN (bTf σ t N) N 0)) (by rw [eσ4, uI_s]) ?_
  refine v_iload_n F d_R_read_20 rfl 2 rfl ?_
  refine v_icmp_ge F 35 d_R_read_21 rfl (fun h21 => ?_) (fun h21 => ?_)
  · skip
    have h21 : N ≤ skN (bTf σ t N) N 0 := (nI_leI (a := N) (b := skN (bTf σ t N) N 0) (by omega) (by omega)).mp h21
    refine v_aload_n F d_R_read_35 rfl 0 rfl ?_
    refine v_geti F fk_R_21 G15 rfl d_R_read_36 ?_
    refine v_te (y := nI (skN (bTf σ t N) N 0)) (by rw [eσ4, uI_s]) ?_
    refine v_iret F hr rfl d_R_read_39 ?_
    exact ⟨fσ4, by show (rdA _ _ _).1 = _; unfold rdA; first | (rw [if_neg (by assumption)]; done) | (rw [if_neg (by rw [bT_0 (by omega)]; decide)]; done), fun q => by have q2 : (rdF (bTf σ t N) N).1 = nI (skN (bTf σ t N) N 0) := (by show (rdA _ _ _).1 = _; unfold rdA; first | (rw [if_neg (by assumption)]; done) | (rw [if_neg (by rw [bT_0 (by omega)]; decide)]; done)); rw [q2] at q; exact absurd q (nI_n9 (by omega))⟩
  · skip
    have h21 : ¬ N ≤ skN (bTf σ t N) N 0 := fun q => h21 ((nI_leI (a := N) (b := skN (bTf σ t N) N 0) (by omega) (by omega)).mpr q)
    refine v_aload_n F d_R_read_24 rfl 1 rfl ?_
    refine v_aload_n F d_R_read_25 rfl 0 rfl ?_
    refine v_geti F fk_R_21 G15 rfl d_R_read_26 ?_
    refine v_te (y := nI (skN (bTf σ t N) N 0)) (by rw [eσ4, uI_s]) ?_
    refine v_bal F (skN (bTf σ t N) N 0) (gam_text _ ht) rfl (by omega) d_R_read_29 ?_
    refine v_te (y := bTf σ t N (skN (bTf σ t N) N 0)) (bT_r fσ4 ht (by omega)) ?_
    refine v_bipush (v := 107) F d_R_read_30 kb_107 ?_
    refine v_icmp_eq F 40 d_R_read_32 rfl (fun h32 => ?_) (fun h32 => ?_)
    · skip
      refine v_aload_n F d_R_read_40 rfl 0 rfl ?_
      refine v_dup F d_R_read_41 rfl ?_
      refine v_geti F fk_R_21 G15 rfl d_R_read_42 ?_
      refine v_te (y := nI (skN (bTf σ t N) N 0)) (by rw [eσ4, uI_s]) ?_
      refine v_iconst (v := 1) F d_R_read_45 ki_1 ?_
      refine v_iadd F d_R_read_46 ?_
      refine v_te (y := nI (skN (bTf σ t N) N 0 + 1)) (nI_add _ _) ?_
      refine v_puti F fk_R_21 pk_R_place G15 rfl d_R_read_47 ?_
      refine v_ns (fun σ6 eσ6 => ?_)
      have fσ6 : frT σ σ6 := by rw [eσ6]; exact fσ4.u rfl
      refine v_aload_n F d_R_read_50 rfl 0 rfl ?_
      refine v_aload_n F d_R_read_51 rfl 1 rfl ?_
      refine v_iload_n F d_R_read_52 rfl 2 rfl ?_
      refine v_aload_n F d_R_read_53 rfl 0 rfl ?_
      refine v_getr (r := 17) F fk_R_15 G15 rfl d_R_read_54 ?_
      refine v_iconst (v := 0) F d_R_read_57 ki_0 ?_
      refine v_gets F (i := 1) rfl (List.mem_of_getElem? (i := 473) (by decide +kernel)) d_R_read_58 ?_
      refine v_gets F (i := 2) rfl (List.mem_of_getElem? (i := 475) (by decide +kernel)) d_R_read_61 ?_
      refine v_runi (r_V F (c_R_readFiguresb X.2.1 u hA fσ6 ht hN (p := skN (bTf σ t N) N 0 + 1) 0 (by omega) (by omega) (by rw [eσ6, uI_s])) mo_R_readFigures st_R_38 rc_15 (by decide) rfl (Nat.le_of_ble_eq_true rfl) d_R_read_64) (fun r7 σ8 q9 => ?_)
      rcases q9 with ⟨hf, rfl, eσ8⟩ | ⟨hf, rfl, eσ8⟩
      · skip
        have fσ8 : frT σ σ8 := by rw [eσ8]; exact rf_fr fσ6 rfl
        refine v_if_ne F 75 d_R_read_67 rfl (fun h => absurd (by decide) h) (fun _ => ?_)
        refine v_aload_n F d_R_read_70 rfl 0 rfl ?_
        refine v_geti F fk_R_21 G15 rfl d_R_read_71 ?_
        refine v_te (y := nI (skN (bTf σ t N) N 0 + 1 + ffk (bTf σ t N) loB hiB (skN (bTf σ t N) N 0 + 1) 4)) (by rw [eσ8]; exact uI_s _ _ _ _) ?_
        refine v_iret F hr rfl d_R_read_74 ?_
        exact ⟨fσ8, by show (rdA _ _ _).1 = _; unfold rdA; rw [if_pos h32, if_neg hf], fun q => by have q2 : (rdF (bTf σ t N) N).1 = nI (skN (bTf σ t N) N 0 + 1 + ffk (bTf σ t N) loB hiB (skN (bTf σ t N) N 0 + 1) 4) := (by show (rdA _ _ _).1 = _; unfold rdA; rw [if_pos h32, if_neg hf]); rw [q2] at q; exact absurd q (nI_n9 (by have := ffk_le (f := (bTf σ t N)) (lo := loB) (hi := hiB) (p := skN (bTf σ t N) N 0 + 1) 4; omega))⟩
      · skip
        have fσ8 : frT σ σ8 := by rw [eσ8]; exact rf_fr fσ6 rfl
        refine v_if_ne F 75 d_R_read_67 rfl (fun _ => ?_) (fun h => absurd h (by decide))
        have hin := ffB_in (N := N) (fun q hq => bT_0 hq) hf
        refine v_aload_n F d_R_read_75 rfl 0 rfl ?_
        refine v_aload_n F d_R_read_76 rfl 1 rfl ?_
        refine v_iload_n F d_R_read_77 rfl 2 rfl ?_
        refine v_runv (r_V F (c_R_skipBlanks X.2.1 u hA fσ8 ht hN (p := skN (bTf σ t N) N 0 + 1 + 4) (by rw [eσ8]; exact uI_s _ _ _ _) (by omega)) mo_R_skipBlanks st_R_28 rc_15 (by decide) rfl (Nat.le_of_ble_eq_true rfl) d_R_read_78) (fun σ11 q12 => ?_)
        have eσ11 := q12
        have fσ11 : frT σ σ11 := by rw [eσ11]; exact fσ8.u rfl
        refine v_iconst (v := 0) F d_R_read_81 ki_0 ?_
        refine v_istore_n (ls' := [(3, .int 0), (0, .ref (u.2.1 15)), (1, .ref (u.2.1 (10 + t))), (2, .int (nI N))]) F d_R_read_82 rfl (by decide) rfl ?_
        refine v_sub [1, 2, 3, 0] (ls' := [(0, .ref (u.2.1 15)), (1, .ref (u.2.1 (10 + t))), (2, .int (nI N)), (3, .int 0)]) rfl ?_
        have g13 : 0 = (nI 0) := (by first | rfl | (simp_all; done) | grind)
        refine v_to (ls' := [(0, .ref (u.2.1 15)), (1, .ref (u.2.1 (10 + t))), (2, .int (nI N)), (3, .int (nI 0))]) (by first | rfl | rw [g13] | simp_all) ?_
        have hRd : tgo (bTf σ t N) N 6 0 (QQ (bTf σ t N) N 0) = (rdF (bTf σ t N) N) := by show _ = rdA _ _ _; unfold rdA; rw [if_pos h32, if_pos hf]; rfl
        have hsv : ∀ k, k < 4 → σ11.1 17 k = bTf σ t N (skN (bTf σ t N) N 0 + 1 + k) - 48 := fun k hk => by subst_vars; unfold rfS; rw [uI_o _ _ _ _ (by decide), uI_o _ _ _ _ (by decide)]; exact cpF_a0 _ _ _ hk
        refine L_R_read_83 hA F ht hN (fun i ρ fρ e15 e9 => ?_) (fun i ρ fρ qQ qpl qtv qi qd qth qR => ?_) _ 0 σ11 (Nat.zero_le _) (skN_le (by omega)) fσ11 (by rw [eσ11, uI_s]; rfl) (by subst_vars; unfold rfS; (repeat (first | rw [uI_n _ _ _ _ (by decide)] | rw [cpF_other _ _ _ _ (by decide)])); rw [uI_s]; rfl) hsv (fun i hi => absurd hi (Nat.not_lt_zero _)) hRd (Nat.lt_succ_self _)
        · skip
          refine v_aload_n F d_R_read_106 rfl 0 rfl ?_
          refine v_geti F fk_R_21 G15 rfl d_R_read_107 ?_
          refine v_te (y := (rdF (bTf σ t N) N).1) e15 ?_
          refine v_iret F hr rfl d_R_read_110 ?_
          exact ⟨fρ, rfl, fun q => absurd q e9⟩
        · skip
          refine v_aload_n F d_R_read_123 rfl 0 rfl ?_
          refine v_geti F fk_R_21 G15 rfl d_R_read_124 ?_
          refine v_te (y := nI ((QQ (bTf σ t N) N i))) qpl ?_
          refine v_iload_n F d_R_read_127 rfl 1 rfl ?_
          refine v_icmp_lt F 138 d_R_read_128 rfl (fun h128 => ?_) (fun h128 => ?_)
          · skip
            have h128 : (QQ (bTf σ t N) N i) < N := (nI_ltI (a := (QQ (bTf σ t N) N i)) (b := N) (by omega) (by omega)).mp h128
            refine v_aload_n F d_R_read_138 rfl 0 rfl ?_
            refine v_geti F fk_R_21 G15 rfl d_R_read_139 ?_
            refine v_te (y := nI ((QQ (bTf σ t N) N i))) qpl ?_
            refine v_goto F 147 d_R_read_142 rfl ?_
            refine v_iret F hr rfl d_R_read_147 ?_
            exact ⟨fρ, by rw [qR, if_pos (by first | exact Or.inl (by omega) | exact Or.inr (by assumption))], fun q => by rw [qR, if_pos (by first | exact Or.inl (by omega) | exact Or.inr (by assumption))] at q; exact absurd q (nI_n9 (by omega))⟩
          · skip
            have h128 : ¬ (QQ (bTf σ t N) N i) < N := fun q => h128 ((nI_ltI (a := (QQ (bTf σ t N) N i)) (b := N) (by omega) (by omega)).mpr q)
            refine v_aload_n F d_R_read_131 rfl 0 rfl ?_
            refine v_geti F fk_R_25 G15 rfl d_R_read_132 ?_
            refine v_te (y := nI i) qtv ?_
            refine v_if_ne F 145 d_R_read_135 rfl (fun h135 => ?_) (fun h135 => ?_)
            · skip
              have h135 : ¬ i = 0 := fun q => h135 ((nI_eq (a := i) (b := 0) (by omega) (by omega)).mpr q)
              refine v_bipush (v := (-9)) F d_R_read_145 kb_m9 ?_
              refine v_iret F hr rfl d_R_read_147 ?_
              exact ⟨fρ, by rw [qR, if_neg (fun r => r.elim (by omega) (by assumption))], fun q => ⟨by rw [qR]; exact qtv, by unfold bkT; rw [qR]; exact ⟨qi, Nat.pos_of_ne_zero (by assumption), qd, hf, qth⟩⟩⟩
            · skip
              have h135 : i = 0 := (nI_eq (a := i) (b := 0) (by omega) (by omega)).mp h135
              refine v_aload_n F d_R_read_138 rfl 0 rfl ?_
              refine v_geti F fk_R_21 G15 rfl d_R_read_139 ?_
              refine v_te (y := nI ((QQ (bTf σ t N) N i))) qpl ?_
              refine v_goto F 147 d_R_read_142 rfl ?_
              refine v_iret F hr rfl d_R_read_147 ?_
              exact ⟨fρ, by rw [qR, if_pos (by first | exact Or.inl (by omega) | exact Or.inr (by assumption))], fun q => by rw [qR, if_pos (by first | exact Or.inl (by omega) | exact Or.inr (by assumption))] at q; exact absurd q (nI_n9 (by omega))⟩
    · skip
      refine v_aload_n F d_R_read_35 rfl 0 rfl ?_
      refine v_geti F fk_R_21 G15 rfl d_R_read_36 ?_
      refine v_te (y := nI (skN (bTf σ t N) N 0)) (by rw [eσ4, uI_s]) ?_
      refine v_iret F hr rfl d_R_read_39 ?_
      exact ⟨fσ4, by show (rdA _ _ _).1 = _; unfold rdA; first | (rw [if_neg (by assumption)]; done) | (rw [if_neg (by rw [bT_0 (by omega)]; decide)]; done), fun q => by have q2 : (rdF (bTf σ t N) N).1 = nI (skN (bTf σ t N) N 0) := (by show (rdA _ _ _).1 = _; unfold rdA; first | (rw [if_neg (by assumption)]; done) | (rw [if_neg (by rw [bT_0 (by omega)]; decide)]; done)); rw [q2] at q; exact absurd q (nI_n9 (by omega))⟩
