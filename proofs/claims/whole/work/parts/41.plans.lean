theorem G34 : Gam[34]? = some (.inr (.inr (2, [.inl 35, .inl 36, .inl 37, .inl 38, .inl 39, .inr false, .inr false, .inr false, .inr false, .inr false, .inr false, .inr false]))) := rfl
theorem rc_34 : recv 34 "TakerBook$Plans" := ⟨2, _, (R_P, F_P, 12), G34, rfl, rfl⟩
theorem fk_P_58 : fok "TakerBook$Plans" 58 2 5 := ⟨(R_P, F_P, 12), rfl, by decide, List.mem_of_getElem? (i := 270) (by decide +kernel), rfl⟩
theorem fk_P_25 : fok "TakerBook$Plans" 25 2 4 := ⟨(R_P, F_P, 12), rfl, by decide, List.mem_of_getElem? (i := 268) (by decide +kernel), rfl⟩
theorem G39 : Gam[39]? = some (.inl (.int, 4)) := rfl
theorem fk_P_22 : fok "TakerBook$Plans" 22 2 3 := ⟨(R_P, F_P, 12), rfl, by decide, List.mem_of_getElem? (i := 267) (by decide +kernel), rfl⟩
theorem G38 : Gam[38]? = some (.inl (.int, 4)) := rfl
theorem fk_P_61 : fok "TakerBook$Plans" 61 2 8 := ⟨(R_P, F_P, 12), rfl, by decide, List.mem_of_getElem? (i := 273) (by decide +kernel), rfl⟩
theorem pk_P_most : pok 2 8 .int := ⟨(R_P, F_P, 12), rfl, rfl, by decide +kernel⟩
theorem fk_P_9 : fok "TakerBook$Plans" 9 2 0 := ⟨(R_P, F_P, 12), rfl, by decide, List.mem_of_getElem? (i := 264) (by decide +kernel), rfl⟩
theorem G35 : Gam[35]? = some (.inl (.boolean, 64)) := rfl
theorem fk_P_51 : fok "TakerBook$Plans" 51 2 6 := ⟨(R_P, F_P, 12), rfl, by decide, List.mem_of_getElem? (i := 271) (by decide +kernel), rfl⟩
theorem fk_P_15 : fok "TakerBook$Plans" 15 2 1 := ⟨(R_P, F_P, 12), rfl, by decide, List.mem_of_getElem? (i := 265) (by decide +kernel), rfl⟩
theorem G36 : Gam[36]? = some (.inl (.int, 64)) := rfl
theorem st_P_73 : siteV "TakerBook$Plans" 73 ⟨"TakerBook$Plans", "goOnFrom", "(IIII)V"⟩ := ⟨List.mem_of_getElem? (i := 778) (by decide +kernel), List.mem_of_getElem? (i := 780) (by decide +kernel), List.mem_of_getElem? (i := 12) (by decide +kernel)⟩
theorem st_P_77 : siteV "TakerBook$Plans" 77 ⟨"TakerBook$Plans", "end", "(II)V"⟩ := ⟨List.mem_of_getElem? (i := 782) (by decide +kernel), List.mem_of_getElem? (i := 784) (by decide +kernel), List.mem_of_getElem? (i := 13) (by decide +kernel)⟩
abbrev b_P_end : ByteArray := prog_8_method_5_code
abbrev y_P_end : MethodName := ⟨"TakerBook$Plans", "end", "(II)V"⟩
theorem d_P_end_0 : decode b_P_end 0 = .ok (.iload_n 2, 1) := by decide +kernel
theorem d_P_end_1 : decode b_P_end 1 = .ok (.aload_n 0, 1) := by decide +kernel
theorem d_P_end_2 : decode b_P_end 2 = .ok (.getfield 61, 3) := by decide +kernel
theorem d_P_end_5 : decode b_P_end 5 = .ok (.if_icmp .gt 4, 3) := by decide +kernel
theorem d_P_end_8 : decode b_P_end 8 = .ok (.return_, 1) := by decide +kernel
theorem d_P_end_9 : decode b_P_end 9 = .ok (.aload_n 0, 1) := by decide +kernel
theorem d_P_end_10 : decode b_P_end 10 = .ok (.iload_n 2, 1) := by decide +kernel
theorem d_P_end_11 : decode b_P_end 11 = .ok (.putfield 61, 3) := by decide +kernel
theorem d_P_end_14 : decode b_P_end 14 = .ok (.iconst 0, 1) := by decide +kernel
theorem d_P_end_15 : decode b_P_end 15 = .ok (.istore_n 3, 1) := by decide +kernel
theorem d_P_end_16 : decode b_P_end 16 = .ok (.iload_n 3, 1) := by decide +kernel
theorem d_P_end_17 : decode b_P_end 17 = .ok (.aload_n 0, 1) := by decide +kernel
theorem d_P_end_18 : decode b_P_end 18 = .ok (.getfield 58, 3) := by decide +kernel
theorem d_P_end_21 : decode b_P_end 21 = .ok (.if_icmp .ge 31, 3) := by decide +kernel
theorem d_P_end_24 : decode b_P_end 24 = .ok (.aload_n 0, 1) := by decide +kernel
theorem d_P_end_25 : decode b_P_end 25 = .ok (.getfield 25, 3) := by decide +kernel
theorem d_P_end_28 : decode b_P_end 28 = .ok (.iload_n 3, 1) := by decide +kernel
theorem d_P_end_29 : decode b_P_end 29 = .ok (.iload_n 3, 1) := by decide +kernel
theorem d_P_end_30 : decode b_P_end 30 = .ok (.iload_n 1, 1) := by decide +kernel
theorem d_P_end_31 : decode b_P_end 31 = .ok (.if_icmp .ge 12, 3) := by decide +kernel
theorem d_P_end_34 : decode b_P_end 34 = .ok (.aload_n 0, 1) := by decide +kernel
theorem d_P_end_35 : decode b_P_end 35 = .ok (.getfield 22, 3) := by decide +kernel
theorem d_P_end_38 : decode b_P_end 38 = .ok (.iload_n 3, 1) := by decide +kernel
theorem d_P_end_39 : decode b_P_end 39 = .ok (.iaload, 1) := by decide +kernel
theorem d_P_end_40 : decode b_P_end 40 = .ok (.goto 5, 3) := by decide +kernel
theorem d_P_end_43 : decode b_P_end 43 = .ok (.bipush (-9), 2) := by decide +kernel
theorem d_P_end_45 : decode b_P_end 45 = .ok (.iastore, 1) := by decide +kernel
theorem d_P_end_46 : decode b_P_end 46 = .ok (.iinc 3 1, 3) := by decide +kernel
theorem d_P_end_49 : decode b_P_end 49 = .ok (.goto (-33), 3) := by decide +kernel
theorem d_P_end_52 : decode b_P_end 52 = .ok (.return_, 1) := by decide +kernel
theorem mo_P_end : mok y_P_end b_P_end 4 none 2 := ⟨List.mem_of_getElem? (i := 785) (by decide +kernel), ⟨by decide +kernel, by decide +kernel, by decide +kernel⟩, List.mem_of_getElem? (i := 83) (by decide +kernel), by decide⟩
set_option maxHeartbeats 4000000 in
theorem L_P_end_16 {X : FX} {u : Un} (hA : Ap u) {Q : State → Prop} (F : Fr X u "TakerBook$Plans" b_P_end 4) {σ : St} {W w : Nat} {m : Int32} (hW : σ.1 34 5 = nI W) (hW4 : W ≤ 4) (hw : w ≤ 4) (k : V X u 0 4 Q 52 [(0, .ref (u.2.1 34)), (1, .int (nI w)), (2, .int m), (3, .int (nI W))] [] (((cpF σ 39 0 (fun i => if i < w then σ.1 38 i else -9) W)))) : ∀ (nn i : Nat), i ≤ W → W - i < nn → V X u 0 4 Q 16 [(0, .ref (u.2.1 34)), (1, .int (nI w)), (2, .int m), (3, .int (nI i))] [] (((cpF σ 39 0 (fun i => if i < w then σ.1 38 i else -9) i))) := by
  intro nn
  induction nn with
  | zero =>
    intro i h1 h2
    exact absurd h2 (Nat.not_lt_zero _)
  | succ nn ih =>
    intro i hii hnn
    refine v_iload_n F d_P_end_16 rfl 3 rfl ?_
    refine v_aload_n F d_P_end_17 rfl 0 rfl ?_
    refine v_geti F fk_P_58 G34 rfl d_P_end_18 ?_
    refine v_te (y := nI W) (by rw [cpF_other _ _ _ _ (by decide)]; exact hW) ?_
    refine v_icmp_ge F 52 d_P_end_21 rfl (fun h21 => ?_) (fun h21 => ?_)
    · skip
      have h21 : W ≤ i := (nI_leI (a := W) (b := i) (by omega) (by omega)).mp h21
      have he : i = W := by omega
      subst he
      exact k
    · skip
      have h21 : ¬ W ≤ i := fun q => h21 ((nI_leI (a := W) (b := i) (by omega) (by omega)).mpr q)
      refine v_aload_n F d_P_end_24 rfl 0 rfl ?_
      refine v_getr (r := 39) F fk_P_25 G34 rfl d_P_end_25 ?_
      refine v_iload_n F d_P_end_28 rfl 3 rfl ?_
      refine v_iload_n F d_P_end_29 rfl 3 rfl ?_
      refine v_iload_n F d_P_end_30 rfl 1 rfl ?_
      refine v_icmp_ge F 43 d_P_end_31 rfl (fun h31 => ?_) (fun h31 => ?_)
      · skip
        have h31 : w ≤ i := (nI_leI (a := w) (b := i) (by omega) (by omega)).mp h31
        refine v_bipush (v := (-9)) F d_P_end_43 kb_m9 ?_
        refine v_ias F i G39 rfl (by omega) d_P_end_45 ?_
        refine v_ns (fun σ1 eσ1 => ?_)
        refine v_iinc (v := nI (i + 1)) (ls' := [(3, .int (nI (i + 1))), (0, .ref (u.2.1 34)), (1, .int (nI w)), (2, .int m)]) F d_P_end_46 (j := 3) rfl (nI_inc _) (by decide) rfl ?_
        refine v_goto F 16 d_P_end_49 rfl ?_
        refine v_sub [1, 2, 3, 0] (ls' := [(0, .ref (u.2.1 34)), (1, .int (nI w)), (2, .int m), (3, .int (nI (i + 1)))]) rfl ?_
        refine v_st (show σ1 = ((cpF σ 39 0 (fun i => if i < w then σ.1 38 i else -9) (i + 1))) from (by first | rfl | (subst_vars; simp only [cpF, Nat.zero_add]; rw [if_pos (by omega)]; first | done | rfl | (rw [cpF_other _ _ _ _ (by decide)])) | (subst_vars; simp only [cpF, Nat.zero_add]; rw [if_neg (by omega)]))) ?_
        exact ih (i + 1) (by omega) (by omega)
      · skip
        have h31 : ¬ w ≤ i := fun q => h31 ((nI_leI (a := w) (b := i) (by omega) (by omega)).mpr q)
        refine v_aload_n F d_P_end_34 rfl 0 rfl ?_
        refine v_getr (r := 38) F fk_P_22 G34 rfl d_P_end_35 ?_
        refine v_iload_n F d_P_end_38 rfl 3 rfl ?_
        refine v_ial F i G38 rfl (by omega) d_P_end_39 ?_
        refine v_goto F 45 d_P_end_40 rfl ?_
        refine v_ias F i G39 rfl (by omega) d_P_end_45 ?_
        refine v_ns (fun σ2 eσ2 => ?_)
        refine v_iinc (v := nI (i + 1)) (ls' := [(3, .int (nI (i + 1))), (0, .ref (u.2.1 34)), (1, .int (nI w)), (2, .int m)]) F d_P_end_46 (j := 3) rfl (nI_inc _) (by decide) rfl ?_
        refine v_goto F 16 d_P_end_49 rfl ?_
        refine v_sub [1, 2, 3, 0] (ls' := [(0, .ref (u.2.1 34)), (1, .int (nI w)), (2, .int m), (3, .int (nI (i + 1)))]) rfl ?_
        refine v_st (show σ2 = ((cpF σ 39 0 (fun i => if i < w then σ.1 38 i else -9) (i + 1))) from (by first | rfl | (subst_vars; simp only [cpF, Nat.zero_add]; rw [if_pos (by omega)]; first | done | rfl | (rw [cpF_other _ _ _ _ (by decide)])) | (subst_vars; simp only [cpF, Nat.zero_add]; rw [if_neg (by omega)]))) ?_
        exact ih (i + 1) (by omega) (by omega)
set_option maxHeartbeats 4000000 in
theorem c_P_end (l : Launch) (u : Un) (hA : Ap u) (σ : St) {W w : Nat} (hW : σ.1 34 5 = nI W) (hW4 : W ≤ 4) (hw : w ≤ 4) (m : Int32) : MTv l u y_P_end b_P_end 4 0 [.ref (u.2.1 34), .int (nI w), .int m] σ (fun σ' => σ' = endS W w m σ) := by
  refine MT_of hA rfl (by decide) (Nat.le_of_ble_eq_true rfl) (fun X hl F hr => ?_)
  subst hl
  refine v_to (ls' := [(0, .ref (u.2.1 34)), (1, .int (nI w)), (2, .int m)]) rfl ?_
  refine v_iload_n F d_P_end_0 rfl 2 rfl ?_
  refine v_aload_n F d_P_end_1 rfl 0 rfl ?_
  refine v_geti F fk_P_61 G34 rfl d_P_end_2 ?_
  refine v_icmp_gt F 9 d_P_end_5 rfl (fun h5 => ?_) (fun h5 => ?_)
  · skip
    refine v_aload_n F d_P_end_9 rfl 0 rfl ?_
    refine v_iload_n F d_P_end_10 rfl 2 rfl ?_
    refine v_puti F fk_P_61 pk_P_most G34 rfl d_P_end_11 ?_
    refine v_ns (fun σ1 eσ1 => ?_)
    refine v_iconst (v := 0) F d_P_end_14 ki_0 ?_
    refine v_istore_n (ls' := [(3, .int 0), (0, .ref (u.2.1 34)), (1, .int (nI w)), (2, .int m)]) F d_P_end_15 rfl (by decide) rfl ?_
    have W0 : σ1.1 34 5 = nI W := by rw [eσ1, uI_n _ _ _ _ (by decide)]; exact hW
    refine v_sub [1, 2, 3, 0] (ls' := [(0, .ref (u.2.1 34)), (1, .int (nI w)), (2, .int m), (3, .int 0)]) rfl ?_
    have g2 : 0 = (nI 0) := (by first | rfl | (subst_vars; simp only [cpF, Nat.zero_add]; rw [if_pos (by omega)]; first | done | rfl | (rw [cpF_other _ _ _ _ (by decide)])) | (subst_vars; simp only [cpF, Nat.zero_add]; rw [if_neg (by omega)]))
    refine v_to (ls' := [(0, .ref (u.2.1 34)), (1, .int (nI w)), (2, .int m), (3, .int (nI 0))]) (by first | rfl | rw [g2] | simp_all) ?_
    refine v_st (show σ1 = ((cpF σ1 39 0 (fun i => if i < w then σ1.1 38 i else -9) 0)) from (by first | rfl | (subst_vars; simp only [cpF, Nat.zero_add]; rw [if_pos (by omega)]; first | done | rfl | (rw [cpF_other _ _ _ _ (by decide)])) | (subst_vars; simp only [cpF, Nat.zero_add]; rw [if_neg (by omega)]))) ?_
    refine L_P_end_16 hA F W0 hW4 hw ?_ _ 0 (Nat.zero_le _) (Nat.lt_succ_self _)
    refine v_vret F hr d_P_end_52 ?_
    unfold endS
    rw [if_pos (by assumption)]
    subst_vars
    rfl
  · skip
    refine v_vret F hr d_P_end_8 ?_
    unfold endS
    rw [if_neg (by assumption)]
abbrev b_P_goOnFrom : ByteArray := prog_8_method_3_code
abbrev y_P_goOnFrom : MethodName := ⟨"TakerBook$Plans", "goOnFrom", "(IIII)V"⟩
theorem d_P_goOnFrom_0 : decode b_P_goOnFrom 0 = .ok (.iload_n 1, 1) := by decide +kernel
theorem d_P_goOnFrom_1 : decode b_P_goOnFrom 1 = .ok (.aload_n 0, 1) := by decide +kernel
theorem d_P_goOnFrom_2 : decode b_P_goOnFrom 2 = .ok (.getfield 58, 3) := by decide +kernel
theorem d_P_goOnFrom_5 : decode b_P_goOnFrom 5 = .ok (.if_icmp .lt 38, 3) := by decide +kernel
theorem d_P_goOnFrom_8 : decode b_P_goOnFrom 8 = .ok (.aload_n 0, 1) := by decide +kernel
theorem d_P_goOnFrom_9 : decode b_P_goOnFrom 9 = .ok (.dup, 1) := by decide +kernel
theorem d_P_goOnFrom_10 : decode b_P_goOnFrom 10 = .ok (.getfield 64, 3) := by decide +kernel
theorem d_P_goOnFrom_13 : decode b_P_goOnFrom 13 = .ok (.iconst 1, 1) := by decide +kernel
theorem d_P_goOnFrom_14 : decode b_P_goOnFrom 14 = .ok (.iadd, 1) := by decide +kernel
theorem d_P_goOnFrom_15 : decode b_P_goOnFrom 15 = .ok (.putfield 64, 3) := by decide +kernel
theorem d_P_goOnFrom_18 : decode b_P_goOnFrom 18 = .ok (.aload_n 0, 1) := by decide +kernel
theorem d_P_goOnFrom_19 : decode b_P_goOnFrom 19 = .ok (.dup, 1) := by decide +kernel
theorem d_P_goOnFrom_20 : decode b_P_goOnFrom 20 = .ok (.getfield 67, 3) := by decide +kernel
theorem d_P_goOnFrom_23 : decode b_P_goOnFrom 23 = .ok (.aload_n 0, 1) := by decide +kernel
theorem d_P_goOnFrom_24 : decode b_P_goOnFrom 24 = .ok (.getfield 55, 3) := by decide +kernel
theorem d_P_goOnFrom_27 : decode b_P_goOnFrom 27 = .ok (.iload_n 2, 1) := by decide +kernel
theorem d_P_goOnFrom_28 : decode b_P_goOnFrom 28 = .ok (.iconst (-1), 1) := by decide +kernel
theorem d_P_goOnFrom_29 : decode b_P_goOnFrom 29 = .ok (.ixor, 1) := by decide +kernel
theorem d_P_goOnFrom_30 : decode b_P_goOnFrom 30 = .ok (.iand, 1) := by decide +kernel
theorem d_P_goOnFrom_31 : decode b_P_goOnFrom 31 = .ok (.iand, 1) := by decide +kernel
theorem d_P_goOnFrom_32 : decode b_P_goOnFrom 32 = .ok (.putfield 67, 3) := by decide +kernel
theorem d_P_goOnFrom_35 : decode b_P_goOnFrom 35 = .ok (.aload_n 0, 1) := by decide +kernel
theorem d_P_goOnFrom_36 : decode b_P_goOnFrom 36 = .ok (.iload_n 1, 1) := by decide +kernel
theorem d_P_goOnFrom_37 : decode b_P_goOnFrom 37 = .ok (.iload 4, 2) := by decide +kernel
theorem d_P_goOnFrom_39 : decode b_P_goOnFrom 39 = .ok (.invokevirtual 77, 3) := by decide +kernel
theorem d_P_goOnFrom_42 : decode b_P_goOnFrom 42 = .ok (.return_, 1) := by decide +kernel
theorem d_P_goOnFrom_43 : decode b_P_goOnFrom 43 = .ok (.aload_n 0, 1) := by decide +kernel
theorem d_P_goOnFrom_44 : decode b_P_goOnFrom 44 = .ok (.iload_n 1, 1) := by decide +kernel
theorem d_P_goOnFrom_45 : decode b_P_goOnFrom 45 = .ok (.bipush (-9), 2) := by decide +kernel
theorem d_P_goOnFrom_47 : decode b_P_goOnFrom 47 = .ok (.iload_n 2, 1) := by decide +kernel
theorem d_P_goOnFrom_48 : decode b_P_goOnFrom 48 = .ok (.iload_n 3, 1) := by decide +kernel
theorem d_P_goOnFrom_49 : decode b_P_goOnFrom 49 = .ok (.iload 4, 2) := by decide +kernel
theorem d_P_goOnFrom_51 : decode b_P_goOnFrom 51 = .ok (.invokevirtual 81, 3) := by decide +kernel
theorem d_P_goOnFrom_54 : decode b_P_goOnFrom 54 = .ok (.iconst 0, 1) := by decide +kernel
theorem d_P_goOnFrom_55 : decode b_P_goOnFrom 55 = .ok (.istore 5, 2) := by decide +kernel
theorem d_P_goOnFrom_57 : decode b_P_goOnFrom 57 = .ok (.iload 5, 2) := by decide +kernel
theorem d_P_goOnFrom_59 : decode b_P_goOnFrom 59 = .ok (.bipush 6, 2) := by decide +kernel
theorem d_P_goOnFrom_61 : decode b_P_goOnFrom 61 = .ok (.if_icmp .ge 44, 3) := by decide +kernel
theorem d_P_goOnFrom_64 : decode b_P_goOnFrom 64 = .ok (.iload 5, 2) := by decide +kernel
theorem d_P_goOnFrom_66 : decode b_P_goOnFrom 66 = .ok (.iload_n 2, 1) := by decide +kernel
theorem d_P_goOnFrom_67 : decode b_P_goOnFrom 67 = .ok (.invokestatic 85, 3) := by decide +kernel
theorem d_P_goOnFrom_70 : decode b_P_goOnFrom 70 = .ok (.ifCond .eq 29, 3) := by decide +kernel
theorem d_P_goOnFrom_73 : decode b_P_goOnFrom 73 = .ok (.aload_n 0, 1) := by decide +kernel
theorem d_P_goOnFrom_74 : decode b_P_goOnFrom 74 = .ok (.iload_n 1, 1) := by decide +kernel
theorem d_P_goOnFrom_75 : decode b_P_goOnFrom 75 = .ok (.iload 5, 2) := by decide +kernel
theorem d_P_goOnFrom_77 : decode b_P_goOnFrom 77 = .ok (.iload_n 2, 1) := by decide +kernel
theorem d_P_goOnFrom_78 : decode b_P_goOnFrom 78 = .ok (.iconst 1, 1) := by decide +kernel
theorem d_P_goOnFrom_79 : decode b_P_goOnFrom 79 = .ok (.iload 5, 2) := by decide +kernel
theorem d_P_goOnFrom_81 : decode b_P_goOnFrom 81 = .ok (.ishl, 1) := by decide +kernel
theorem d_P_goOnFrom_82 : decode b_P_goOnFrom 82 = .ok (.iconst (-1), 1) := by decide +kernel
theorem d_P_goOnFrom_83 : decode b_P_goOnFrom 83 = .ok (.ixor, 1) := by decide +kernel
theorem d_P_goOnFrom_84 : decode b_P_goOnFrom 84 = .ok (.iand, 1) := by decide +kernel
theorem d_P_goOnFrom_85 : decode b_P_goOnFrom 85 = .ok (.iload_n 3, 1) := by decide +kernel
theorem d_P_goOnFrom_86 : decode b_P_goOnFrom 86 = .ok (.iload 4, 2) := by decide +kernel
theorem d_P_goOnFrom_88 : decode b_P_goOnFrom 88 = .ok (.aload_n 0, 1) := by decide +kernel
theorem d_P_goOnFrom_89 : decode b_P_goOnFrom 89 = .ok (.getfield 19, 3) := by decide +kernel
theorem d_P_goOnFrom_92 : decode b_P_goOnFrom 92 = .ok (.iload 5, 2) := by decide +kernel
theorem d_P_goOnFrom_94 : decode b_P_goOnFrom 94 = .ok (.iaload, 1) := by decide +kernel
theorem d_P_goOnFrom_95 : decode b_P_goOnFrom 95 = .ok (.iadd, 1) := by decide +kernel
theorem d_P_goOnFrom_96 : decode b_P_goOnFrom 96 = .ok (.invokevirtual 81, 3) := by decide +kernel
theorem d_P_goOnFrom_99 : decode b_P_goOnFrom 99 = .ok (.iinc 5 1, 3) := by decide +kernel
theorem d_P_goOnFrom_102 : decode b_P_goOnFrom 102 = .ok (.goto (-45), 3) := by decide +kernel
theorem d_P_goOnFrom_105 : decode b_P_goOnFrom 105 = .ok (.return_, 1) := by decide +kernel
theorem mo_P_goOnFrom : mok y_P_goOnFrom b_P_goOnFrom 6 none 4 := ⟨List.mem_of_getElem? (i := 781) (by decide +kernel), ⟨by decide +kernel, by decide +kernel, by decide +kernel⟩, List.mem_of_getElem? (i := 83) (by decide +kernel), by decide⟩
abbrev b_P_passWeek : ByteArray := prog_8_method_4_code
abbrev y_P_passWeek : MethodName := ⟨"TakerBook$Plans", "passWeek", "(IIIII)V"⟩
theorem d_P_passWeek_0 : decode b_P_passWeek 0 = .ok (.aload_n 0, 1) := by decide +kernel
theorem d_P_passWeek_1 : decode b_P_passWeek 1 = .ok (.getfield 22, 3) := by decide +kernel
theorem d_P_passWeek_4 : decode b_P_passWeek 4 = .ok (.iload_n 1, 1) := by decide +kernel
theorem d_P_passWeek_5 : decode b_P_passWeek 5 = .ok (.iload_n 2, 1) := by decide +kernel
theorem d_P_passWeek_6 : decode b_P_passWeek 6 = .ok (.iastore, 1) := by decide +kernel
theorem d_P_passWeek_7 : decode b_P_passWeek 7 = .ok (.aload_n 0, 1) := by decide +kernel
theorem d_P_passWeek_8 : decode b_P_passWeek 8 = .ok (.getfield 9, 3) := by decide +kernel
theorem d_P_passWeek_11 : decode b_P_passWeek 11 = .ok (.iload_n 3, 1) := by decide +kernel
theorem d_P_passWeek_12 : decode b_P_passWeek 12 = .ok (.baload, 1) := by decide +kernel
theorem d_P_passWeek_13 : decode b_P_passWeek 13 = .ok (.ifCond .eq 15, 3) := by decide +kernel
theorem d_P_passWeek_16 : decode b_P_passWeek 16 = .ok (.aload_n 0, 1) := by decide +kernel
theorem d_P_passWeek_17 : decode b_P_passWeek 17 = .ok (.iload_n 1, 1) := by decide +kernel
theorem d_P_passWeek_18 : decode b_P_passWeek 18 = .ok (.iconst 1, 1) := by decide +kernel
theorem d_P_passWeek_19 : decode b_P_passWeek 19 = .ok (.iadd, 1) := by decide +kernel
theorem d_P_passWeek_20 : decode b_P_passWeek 20 = .ok (.iload 5, 2) := by decide +kernel
theorem d_P_passWeek_22 : decode b_P_passWeek 22 = .ok (.invokevirtual 77, 3) := by decide +kernel
theorem d_P_passWeek_25 : decode b_P_passWeek 25 = .ok (.goto 29, 3) := by decide +kernel
theorem d_P_passWeek_28 : decode b_P_passWeek 28 = .ok (.aload_n 0, 1) := by decide +kernel
theorem d_P_passWeek_29 : decode b_P_passWeek 29 = .ok (.iload_n 1, 1) := by decide +kernel
theorem d_P_passWeek_30 : decode b_P_passWeek 30 = .ok (.iconst 1, 1) := by decide +kernel
theorem d_P_passWeek_31 : decode b_P_passWeek 31 = .ok (.iadd, 1) := by decide +kernel
theorem d_P_passWeek_32 : decode b_P_passWeek 32 = .ok (.iload_n 3, 1) := by decide +kernel
theorem d_P_passWeek_33 : decode b_P_passWeek 33 = .ok (.iconst 0, 1) := by decide +kernel
theorem d_P_passWeek_34 : decode b_P_passWeek 34 = .ok (.iload 5, 2) := by decide +kernel
theorem d_P_passWeek_36 : decode b_P_passWeek 36 = .ok (.aload_n 0, 1) := by decide +kernel
theorem d_P_passWeek_37 : decode b_P_passWeek 37 = .ok (.getfield 51, 3) := by decide +kernel
theorem d_P_passWeek_40 : decode b_P_passWeek 40 = .ok (.iload 4, 2) := by decide +kernel
theorem d_P_passWeek_42 : decode b_P_passWeek 42 = .ok (.aload_n 0, 1) := by decide +kernel
theorem d_P_passWeek_43 : decode b_P_passWeek 43 = .ok (.getfield 15, 3) := by decide +kernel
theorem d_P_passWeek_46 : decode b_P_passWeek 46 = .ok (.iload_n 3, 1) := by decide +kernel
theorem d_P_passWeek_47 : decode b_P_passWeek 47 = .ok (.iaload, 1) := by decide +kernel
theorem d_P_passWeek_48 : decode b_P_passWeek 48 = .ok (.iadd, 1) := by decide +kernel
theorem d_P_passWeek_49 : decode b_P_passWeek 49 = .ok (.imul, 1) := by decide +kernel
theorem d_P_passWeek_50 : decode b_P_passWeek 50 = .ok (.iadd, 1) := by decide +kernel
theorem d_P_passWeek_51 : decode b_P_passWeek 51 = .ok (.invokevirtual 73, 3) := by decide +kernel
theorem d_P_passWeek_54 : decode b_P_passWeek 54 = .ok (.return_, 1) := by decide +kernel
theorem mo_P_passWeek : mok y_P_passWeek b_P_passWeek 6 none 5 := ⟨List.mem_of_getElem? (i := 789) (by decide +kernel), ⟨by decide +kernel, by decide +kernel, by decide +kernel⟩, List.mem_of_getElem? (i := 83) (by decide +kernel), by decide⟩
set_option maxHeartbeats 4000000 in
theorem c_P_passWeek (l : Launch) (u : Un) (hA : Ap u) (σ : St) {W w left k : Nat} (hW : σ.1 34 5 = nI W) (hW4 : W ≤ 4) (hw : w < 4) (hl : left < 64) (given stock money : Int32) (ih : ∀ (σ : St) {left : Nat} (hW : σ.1 34 5 = nI W) (hl : left < 64) (stock money : Int32), MTv l u y_P_goOnFrom b_P_goOnFrom 6 (3 * k + 1) [.ref (u.2.1 34), .int (nI (w + 1)), .int (nI left), .int stock, .int money] σ (fun σ' => σ' = gofS W k (w + 1) left stock money σ)) : MTv l u y_P_passWeek b_P_passWeek 6 (3 * k + 2) [.ref (u.2.1 34), .int (nI w), .int given, .int (nI left), .int stock, .int money] σ (fun σ' => σ' = paS W (gofS W k (w + 1)) w given left stock money σ) := by
  refine MT_of hA rfl (by decide) (Nat.le_of_ble_eq_true rfl) (fun X hl F hr => ?_)
  subst hl
  refine v_to (ls' := [(0, .ref (u.2.1 34)), (1, .int (nI w)), (2, .int given), (3, .int (nI left)), (4, .int stock), (5, .int money)]) rfl ?_
  refine v_aload_n F d_P_passWeek_0 rfl 0 rfl ?_
  refine v_getr (r := 38) F fk_P_22 G34 rfl d_P_passWeek_1 ?_
  refine v_iload_n F d_P_passWeek_4 rfl 1 rfl ?_
  refine v_iload_n F d_P_passWeek_5 rfl 2 rfl ?_
  refine v_ias F w G38 rfl hw d_P_passWeek_6 ?_
  refine v_ns (fun σ1 eσ1 => ?_)
  refine v_aload_n F d_P_passWeek_7 rfl 0 rfl ?_
  refine v_getr (r := 35) F fk_P_9 G34 rfl d_P_passWeek_8 ?_
  refine v_iload_n F d_P_passWeek_11 rfl 3 rfl ?_
  refine v_zal F left G35 rfl (by omega) d_P_passWeek_12 ?_
  refine v_if_eq F 28 d_P_passWeek_13 rfl (fun h13 => ?_) (fun h13 => ?_)
  · skip
    skip
    refine v_aload_n F d_P_passWeek_28 rfl 0 rfl ?_
    refine v_iload_n F d_P_passWeek_29 rfl 1 rfl ?_
    refine v_iconst (v := 1) F d_P_passWeek_30 ki_1 ?_
    refine v_iadd F d_P_passWeek_31 ?_
    refine v_te (y := nI (w + 1)) (nI_add _ _) ?_
    refine v_iload_n F d_P_passWeek_32 rfl 3 rfl ?_
    refine v_iconst (v := 0) F d_P_passWeek_33 ki_0 ?_
    refine v_iload F d_P_passWeek_34 5 rfl ?_
    refine v_aload_n F d_P_passWeek_36 rfl 0 rfl ?_
    refine v_geti F fk_P_51 G34 rfl d_P_passWeek_37 ?_
    refine v_iload F d_P_passWeek_40 4 rfl ?_
    refine v_aload_n F d_P_passWeek_42 rfl 0 rfl ?_
    refine v_getr (r := 36) F fk_P_15 G34 rfl d_P_passWeek_43 ?_
    refine v_iload_n F d_P_passWeek_46 rfl 3 rfl ?_
    refine v_ial F left G36 rfl (by omega) d_P_passWeek_47 ?_
    refine v_iadd F d_P_passWeek_48 ?_
    refine v_imul F d_P_passWeek_49 ?_
    refine v_iadd F d_P_passWeek_50 ?_
    refine v_runv (r_V F (ih σ1 (by rw [eσ1, uI_o _ _ _ _ (by decide)]; exact hW) hl 0 (money + ((σ1.1 34 6) * (stock + (σ1.1 36 left))))) mo_P_goOnFrom st_P_73 rc_34 (by omega) rfl (Nat.le_of_ble_eq_true rfl) d_P_passWeek_51) (fun σ3 q4 => ?_)
    refine v_vret F hr d_P_passWeek_54 ?_
    unfold paS
    first | (rw [if_pos (by subst_vars; assumption)]; subst_vars; assumption) | (rw [if_neg (by subst_vars; assumption)]; subst_vars; assumption) | (rw [if_pos (by subst_vars; assumption)]; subst_vars; rfl) | (rw [if_neg (by subst_vars; assumption)]; subst_vars; rfl)
  · skip
    refine v_aload_n F d_P_passWeek_16 rfl 0 rfl ?_
    refine v_iload_n F d_P_passWeek_17 rfl 1 rfl ?_
    refine v_iconst (v := 1) F d_P_passWeek_18 ki_1 ?_
    refine v_iadd F d_P_passWeek_19 ?_
    refine v_te (y := nI (w + 1)) (nI_add _ _) ?_
    refine v_iload F d_P_passWeek_20 5 rfl ?_
    refine v_runv (r_V F (c_P_end X.2.1 u hA σ1 (by rw [eσ1, uI_o _ _ _ _ (by decide)]; exact hW) hW4 (by omega) money) mo_P_end st_P_77 rc_34 (by omega) rfl (Nat.le_of_ble_eq_true rfl) d_P_passWeek_22) (fun σ6 q7 => ?_)
    refine v_goto F 54 d_P_passWeek_25 rfl ?_
    refine v_vret F hr d_P_passWeek_54 ?_
    unfold paS
    first | (rw [if_pos (by subst_vars; assumption)]; subst_vars; assumption) | (rw [if_neg (by subst_vars; assumption)]; subst_vars; assumption) | (rw [if_pos (by subst_vars; assumption)]; subst_vars; rfl) | (rw [if_neg (by subst_vars; assumption)]; subst_vars; rfl)
