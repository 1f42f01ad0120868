theorem G15 : Gam[15]? = some (.inr (.inr (5, [.inl 16, .inl 17, .inl 18, .inr false, .inr false]))) := rfl
theorem rc_15 : recv 15 "TakerBook$Reader" := ⟨5, _, (R_R, F_R, 5), G15, rfl, rfl⟩
theorem fk_R_21 : fok "TakerBook$Reader" 21 5 4 := ⟨(R_R, F_R, 5), rfl, by decide, List.mem_of_getElem? (i := 116) (by decide +kernel), rfl⟩
theorem pk_R_place : pok 5 4 .int := ⟨(R_R, F_R, 5), rfl, rfl, by decide +kernel⟩
theorem G17 : Gam[17]? = some (.inl (.int, 4)) := rfl
theorem G18 : Gam[18]? = some (.inl (.int, 18)) := rfl
abbrev b_R_kindBy : ByteArray := prog_9_method_5_code
abbrev y_R_kindBy : MethodName := ⟨"TakerBook$Reader", "kindBy", "(I)I"⟩
theorem d_R_kindBy_0 : decode b_R_kindBy 0 = .ok (.iconst 0, 1) := by decide +kernel
theorem d_R_kindBy_1 : decode b_R_kindBy 1 = .ok (.istore_n 1, 1) := by decide +kernel
theorem d_R_kindBy_2 : decode b_R_kindBy 2 = .ok (.iload_n 1, 1) := by decide +kernel
theorem d_R_kindBy_3 : decode b_R_kindBy 3 = .ok (.bipush 6, 2) := by decide +kernel
theorem d_R_kindBy_5 : decode b_R_kindBy 5 = .ok (.if_icmp .ge 20, 3) := by decide +kernel
theorem d_R_kindBy_8 : decode b_R_kindBy 8 = .ok (.getstatic 56, 3) := by decide +kernel
theorem d_R_kindBy_11 : decode b_R_kindBy 11 = .ok (.iload_n 1, 1) := by decide +kernel
theorem d_R_kindBy_12 : decode b_R_kindBy 12 = .ok (.caload, 1) := by decide +kernel
theorem d_R_kindBy_13 : decode b_R_kindBy 13 = .ok (.iload_n 0, 1) := by decide +kernel
theorem d_R_kindBy_14 : decode b_R_kindBy 14 = .ok (.if_icmp .ne 5, 3) := by decide +kernel
theorem d_R_kindBy_17 : decode b_R_kindBy 17 = .ok (.iload_n 1, 1) := by decide +kernel
theorem d_R_kindBy_18 : decode b_R_kindBy 18 = .ok (.ireturn, 1) := by decide +kernel
theorem d_R_kindBy_19 : decode b_R_kindBy 19 = .ok (.iinc 1 1, 3) := by decide +kernel
theorem d_R_kindBy_22 : decode b_R_kindBy 22 = .ok (.goto (-20), 3) := by decide +kernel
theorem d_R_kindBy_25 : decode b_R_kindBy 25 = .ok (.bipush (-9), 2) := by decide +kernel
theorem d_R_kindBy_27 : decode b_R_kindBy 27 = .ok (.ireturn, 1) := by decide +kernel
theorem mo_R_kindBy : mok y_R_kindBy b_R_kindBy 2 (some .int) 1 := ⟨List.mem_of_getElem? (i := 487) (by decide +kernel), ⟨by decide +kernel, by decide +kernel, by decide +kernel⟩, List.mem_of_getElem? (i := 75) (by decide +kernel), by decide⟩
set_option maxHeartbeats 4000000 in
theorem c_R_kindBy (l : Launch) (u : Un) (hA : Ap u) (σ : St) (b : Int32) : MTi l u y_R_kindBy b_R_kindBy 2 .int 0 [.int b] σ (fun ans σ' => kbF b = ans ∧ σ = σ') := by
  refine MT_of hA rfl (by decide) (Nat.le_of_ble_eq_true rfl) (fun X hl F hr => ?_)
  subst hl
  refine v_to (ls' := [(0, .int b)]) rfl ?_
  refine v_iconst (v := 0) F d_R_kindBy_0 ki_0 ?_
  refine v_istore_n (ls' := [(1, .int 0), (0, .int b)]) F d_R_kindBy_1 rfl (by decide) rfl ?_
  refine v_iload_n F d_R_kindBy_2 rfl 0 rfl ?_
  refine v_bipush (v := 6) F d_R_kindBy_3 kb_6 ?_
  refine v_icmp_ge F 25 d_R_kindBy_5 rfl (fun h => absurd h (by decide)) (fun _ => ?_)
  refine v_gets F (i := 0) rfl (List.mem_of_getElem? (i := 488) (by decide +kernel)) d_R_kindBy_8 ?_
  refine v_iload_n F d_R_kindBy_11 rfl 0 rfl ?_
  refine v_tac F (i := 0) 0 rfl rfl rfl (by decide) (by decide) d_R_kindBy_12 ?_
  refine v_te (y := 116) rfl ?_
  refine v_iload_n F d_R_kindBy_13 rfl 1 rfl ?_
  refine v_icmp_ne F 19 d_R_kindBy_14 rfl (fun h14 => ?_) (fun h14 => ?_)
  · skip
    refine v_iinc (v := 1) (ls' := [(1, .int 1), (0, .int b)]) F d_R_kindBy_19 (j := 0) rfl rfl (by decide) rfl ?_
    refine v_goto F 2 d_R_kindBy_22 rfl ?_
    refine v_iload_n F d_R_kindBy_2 rfl 0 rfl ?_
    refine v_bipush (v := 6) F d_R_kindBy_3 kb_6 ?_
    refine v_icmp_ge F 25 d_R_kindBy_5 rfl (fun h => absurd h (by decide)) (fun _ => ?_)
    refine v_gets F (i := 0) rfl (List.mem_of_getElem? (i := 488) (by decide +kernel)) d_R_kindBy_8 ?_
    refine v_iload_n F d_R_kindBy_11 rfl 0 rfl ?_
    refine v_tac F (i := 0) 1 rfl rfl rfl (by decide) (by decide) d_R_kindBy_12 ?_
    refine v_te (y := 114) rfl ?_
    refine v_iload_n F d_R_kindBy_13 rfl 1 rfl ?_
    refine v_icmp_ne F 19 d_R_kindBy_14 rfl (fun h14 => ?_) (fun h14 => ?_)
    · skip
      refine v_iinc (v := 2) (ls' := [(1, .int 2), (0, .int b)]) F d_R_kindBy_19 (j := 0) rfl rfl (by decide) rfl ?_
      refine v_goto F 2 d_R_kindBy_22 rfl ?_
      refine v_iload_n F d_R_kindBy_2 rfl 0 rfl ?_
      refine v_bipush (v := 6) F d_R_kindBy_3 kb_6 ?_
      refine v_icmp_ge F 25 d_R_kindBy_5 rfl (fun h => absurd h (by decide)) (fun _ => ?_)
      refine v_gets F (i := 0) rfl (List.mem_of_getElem? (i := 488) (by decide +kernel)) d_R_kindBy_8 ?_
      refine v_iload_n F d_R_kindBy_11 rfl 0 rfl ?_
      refine v_tac F (i := 0) 2 rfl rfl rfl (by decide) (by decide) d_R_kindBy_12 ?_
      refine v_te (y := 99) rfl ?_
      refine v_iload_n F d_R_kindBy_13 rfl 1 rfl ?_
      refine v_icmp_ne F 19 d_R_kindBy_14 rfl (fun h14 => ?_) (fun h14 => ?_)
      · skip
        refine v_iinc (v := 3) (ls' := [(1, .int 3), (0, .int b)]) F d_R_kindBy_19 (j := 0) rfl rfl (by decide) rfl ?_
        refine v_goto F 2 d_R_kindBy_22 rfl ?_
        refine v_iload_n F d_R_kindBy_2 rfl 0 rfl ?_
        refine v_bipush (v := 6) F d_R_kindBy_3 kb_6 ?_
        refine v_icmp_ge F 25 d_R_kindBy_5 rfl (fun h => absurd h (by decide)) (fun _ => ?_)
        refine v_gets F (i := 0) rfl (List.mem_of_getElem? (i := 488) (by decide +kernel)) d_R_kindBy_8 ?_
        refine v_iload_n F d_R_kindBy_11 rfl 0 rfl ?_
        refine v_tac F (i := 0) 3 rfl rfl rfl (by decide) (by decide) d_R_kindBy_12 ?_
        refine v_te (y := 103) rfl ?_
        refine v_iload_n F d_R_kindBy_13 rfl 1 rfl ?_
        refine v_icmp_ne F 19 d_R_kindBy_14 rfl (fun h14 => ?_) (fun h14 => ?_)
        · skip
          refine v_iinc (v := 4) (ls' := [(1, .int 4), (0, .int b)]) F d_R_kindBy_19 (j := 0) rfl rfl (by decide) rfl ?_
          refine v_goto F 2 d_R_kindBy_22 rfl ?_
          refine v_iload_n F d_R_kindBy_2 rfl 0 rfl ?_
          refine v_bipush (v := 6) F d_R_kindBy_3 kb_6 ?_
          refine v_icmp_ge F 25 d_R_kindBy_5 rfl (fun h => absurd h (by decide)) (fun _ => ?_)
          refine v_gets F (i := 0) rfl (List.mem_of_getElem? (i := 488) (by decide +kernel)) d_R_kindBy_8 ?_
          refine v_iload_n F d_R_kindBy_11 rfl 0 rfl ?_
          refine v_tac F (i := 0) 4 rfl rfl rfl (by decide) (by decide) d_R_kindBy_12 ?_
          refine v_te (y := 108) rfl ?_
          refine v_iload_n F d_R_kindBy_13 rfl 1 rfl ?_
          refine v_icmp_ne F 19 d_R_kindBy_14 rfl (fun h14 => ?_) (fun h14 => ?_)
          · skip
            refine v_iinc (v := 5) (ls' := [(1, .int 5), (0, .int b)]) F d_R_kindBy_19 (j := 0) rfl rfl (by decide) rfl ?_
            refine v_goto F 2 d_R_kindBy_22 rfl ?_
            refine v_iload_n F d_R_kindBy_2 rfl 0 rfl ?_
            refine v_bipush (v := 6) F d_R_kindBy_3 kb_6 ?_
            refine v_icmp_ge F 25 d_R_kindBy_5 rfl (fun h => absurd h (by decide)) (fun _ => ?_)
            refine v_gets F (i := 0) rfl (List.mem_of_getElem? (i := 488) (by decide +kernel)) d_R_kindBy_8 ?_
            refine v_iload_n F d_R_kindBy_11 rfl 0 rfl ?_
            refine v_tac F (i := 0) 5 rfl rfl rfl (by decide) (by decide) d_R_kindBy_12 ?_
            refine v_te (y := 121) rfl ?_
            refine v_iload_n F d_R_kindBy_13 rfl 1 rfl ?_
            refine v_icmp_ne F 19 d_R_kindBy_14 rfl (fun h14 => ?_) (fun h14 => ?_)
            · skip
              refine v_iinc (v := 6) (ls' := [(1, .int 6), (0, .int b)]) F d_R_kindBy_19 (j := 0) rfl rfl (by decide) rfl ?_
              refine v_goto F 2 d_R_kindBy_22 rfl ?_
              refine v_iload_n F d_R_kindBy_2 rfl 0 rfl ?_
              refine v_bipush (v := 6) F d_R_kindBy_3 kb_6 ?_
              refine v_icmp_ge F 25 d_R_kindBy_5 rfl (fun _ => ?_) (fun h => absurd (by decide) h)
              refine v_bipush (v := (-9)) F d_R_kindBy_25 kb_m9 ?_
              refine v_iret F hr rfl d_R_kindBy_27 ?_
              refine ⟨?_, rfl⟩
              unfold kbF
              first | (subst_vars; rfl) | grind
            · skip
              refine v_iload_n F d_R_kindBy_17 rfl 0 rfl ?_
              refine v_iret F hr rfl d_R_kindBy_18 ?_
              refine ⟨?_, rfl⟩
              unfold kbF
              first | (subst_vars; rfl) | grind
          · skip
            refine v_iload_n F d_R_kindBy_17 rfl 0 rfl ?_
            refine v_iret F hr rfl d_R_kindBy_18 ?_
            refine ⟨?_, rfl⟩
            unfold kbF
            first | (subst_vars; rfl) | grind
        · skip
          refine v_iload_n F d_R_kindBy_17 rfl 0 rfl ?_
          refine v_iret F hr rfl d_R_kindBy_18 ?_
          refine ⟨?_, rfl⟩
          unfold kbF
          first | (subst_vars; rfl) | grind
      · skip
        refine v_iload_n F d_R_kindBy_17 rfl 0 rfl ?_
        refine v_iret F hr rfl d_R_kindBy_18 ?_
        refine ⟨?_, rfl⟩
        unfold kbF
        first | (subst_vars; rfl) | grind
    · skip
      refine v_iload_n F d_R_kindBy_17 rfl 0 rfl ?_
      refine v_iret F hr rfl d_R_kindBy_18 ?_
      refine ⟨?_, rfl⟩
      unfold kbF
      first | (subst_vars; rfl) | grind
  · skip
    refine v_iload_n F d_R_kindBy_17 rfl 0 rfl ?_
    refine v_iret F hr rfl d_R_kindBy_18 ?_
    refine ⟨?_, rfl⟩
    unfold kbF
    first | (subst_vars; rfl) | grind
abbrev b_R_skipBlanks : ByteArray := prog_9_method_3_code
abbrev y_R_skipBlanks : MethodName := ⟨"TakerBook$Reader", "skipBlanks", "([BI)V"⟩
theorem d_R_skipBlanks_0 : decode b_R_skipBlanks 0 = .ok (.aload_n 0, 1) := by decide +kernel
theorem d_R_skipBlanks_1 : decode b_R_skipBlanks 1 = .ok (.getfield 21, 3) := by decide +kernel
theorem d_R_skipBlanks_4 : decode b_R_skipBlanks 4 = .ok (.iload_n 2, 1) := by decide +kernel
theorem d_R_skipBlanks_5 : decode b_R_skipBlanks 5 = .ok (.if_icmp .ge 27, 3) := by decide +kernel
theorem d_R_skipBlanks_8 : decode b_R_skipBlanks 8 = .ok (.aload_n 1, 1) := by decide +kernel
theorem d_R_skipBlanks_9 : decode b_R_skipBlanks 9 = .ok (.aload_n 0, 1) := by decide +kernel
theorem d_R_skipBlanks_10 : decode b_R_skipBlanks 10 = .ok (.getfield 21, 3) := by decide +kernel
theorem d_R_skipBlanks_13 : decode b_R_skipBlanks 13 = .ok (.baload, 1) := by decide +kernel
theorem d_R_skipBlanks_14 : decode b_R_skipBlanks 14 = .ok (.bipush 32, 2) := by decide +kernel
theorem d_R_skipBlanks_16 : decode b_R_skipBlanks 16 = .ok (.if_icmp .ne 16, 3) := by decide +kernel
theorem d_R_skipBlanks_19 : decode b_R_skipBlanks 19 = .ok (.aload_n 0, 1) := by decide +kernel
theorem d_R_skipBlanks_20 : decode b_R_skipBlanks 20 = .ok (.dup, 1) := by decide +kernel
theorem d_R_skipBlanks_21 : decode b_R_skipBlanks 21 = .ok (.getfield 21, 3) := by decide +kernel
theorem d_R_skipBlanks_24 : decode b_R_skipBlanks 24 = .ok (.iconst 1, 1) := by decide +kernel
theorem d_R_skipBlanks_25 : decode b_R_skipBlanks 25 = .ok (.iadd, 1) := by decide +kernel
theorem d_R_skipBlanks_26 : decode b_R_skipBlanks 26 = .ok (.putfield 21, 3) := by decide +kernel
theorem d_R_skipBlanks_29 : decode b_R_skipBlanks 29 = .ok (.goto (-29), 3) := by decide +kernel
theorem d_R_skipBlanks_32 : decode b_R_skipBlanks 32 = .ok (.return_, 1) := by decide +kernel
theorem mo_R_skipBlanks : mok y_R_skipBlanks b_R_skipBlanks 3 none 2 := ⟨List.mem_of_getElem? (i := 472) (by decide +kernel), ⟨by decide +kernel, by decide +kernel, by decide +kernel⟩, List.mem_of_getElem? (i := 75) (by decide +kernel), by decide⟩
set_option maxHeartbeats 4000000 in
theorem L_R_skipBlanks_0 {X : FX} {u : Un} (hA : Ap u) {Q : State → Prop} (F : Fr X u "TakerBook$Reader" b_R_skipBlanks 3) {σ τ : St} (fτ : frT σ τ) {t N : Nat} (ht : t < 4) (hN : N ≤ 60) {p0 : Nat} (k0 : ∀ (p : Nat), V X u 0 3 Q 32 [] [] (uI τ 15 4 (nI ((skN (bTf σ t N) N p0))))) : ∀ (nn : Nat) (p : Nat), p ≤ N → skN (bTf σ t N) N p = skN (bTf σ t N) N p0 → N - p < nn → V X u 0 3 Q 0 [(0, .ref (u.2.1 15)), (1, .ref (u.2.1 (10 + t))), (2, .int (nI N))] [] (uI τ 15 4 (nI p)) := by
  intro nn
  induction nn with
  | zero =>
    intro p hp hq h2
    exact absurd h2 (Nat.not_lt_zero _)
  | succ nn ih =>
    intro p hp hq hm
    refine v_aload_n F d_R_skipBlanks_0 rfl 0 rfl ?_
    refine v_geti F fk_R_21 G15 rfl d_R_skipBlanks_1 ?_
    refine v_te (y := nI p) (uI_s _ _ _ _) ?_
    refine v_iload_n F d_R_skipBlanks_4 rfl 2 rfl ?_
    refine v_icmp_ge F 32 d_R_skipBlanks_5 rfl (fun h5 => ?_) (fun h5 => ?_)
    · skip
      have h5 : N ≤ p := (nI_leI (a := N) (b := p) (by omega) (by omega)).mp h5
      refine v_sub [] (ls' := []) rfl ?_
      refine v_st (show uI τ 15 4 (nI p) = uI τ 15 4 (nI ((skN (bTf σ t N) N p0))) from (by first | (subst_vars; exact uI_uI _ _ _ _ _) | (rw [← hq, skN_n h16]; done) | (rw [← hq, skN_ge (by omega)]; done))) ?_
      exact k0 p 
    · skip
      have h5 : ¬ N ≤ p := fun q => h5 ((nI_leI (a := N) (b := p) (by omega) (by omega)).mpr q)
      refine v_aload_n F d_R_skipBlanks_8 rfl 1 rfl ?_
      refine v_aload_n F d_R_skipBlanks_9 rfl 0 rfl ?_
      refine v_geti F fk_R_21 G15 rfl d_R_skipBlanks_10 ?_
      refine v_te (y := nI p) (uI_s _ _ _ _) ?_
      refine v_bal F p (gam_text _ ht) rfl (by omega) d_R_skipBlanks_13 ?_
      refine v_te (y := bTf σ t N p) (bT_r (fτ.u rfl) ht (by omega)) ?_
      refine v_bipush (v := 32) F d_R_skipBlanks_14 kb_32 ?_
      refine v_icmp_ne F 32 d_R_skipBlanks_16 rfl (fun h16 => ?_) (fun h16 => ?_)
      · skip
        refine v_sub [] (ls' := []) rfl ?_
        refine v_st (show uI τ 15 4 (nI p) = uI τ 15 4 (nI ((skN (bTf σ t N) N p0))) from (by first | (subst_vars; exact uI_uI _ _ _ _ _) | (rw [← hq, skN_n h16]; done) | (rw [← hq, skN_ge (by omega)]; done))) ?_
        exact k0 p 
      · skip
        refine v_aload_n F d_R_skipBlanks_19 rfl 0 rfl ?_
        refine v_dup F d_R_skipBlanks_20 rfl ?_
        refine v_geti F fk_R_21 G15 rfl d_R_skipBlanks_21 ?_
        refine v_te (y := nI p) (uI_s _ _ _ _) ?_
        refine v_iconst (v := 1) F d_R_skipBlanks_24 ki_1 ?_
        refine v_iadd F d_R_skipBlanks_25 ?_
        refine v_te (y := nI (p + 1)) (nI_add _ _) ?_
        refine v_puti F fk_R_21 pk_R_place G15 rfl d_R_skipBlanks_26 ?_
        refine v_ns (fun σ1 eσ1 => ?_)
        refine v_goto F 0 d_R_skipBlanks_29 rfl ?_
        refine v_st (show σ1 = uI τ 15 4 (nI (p + 1)) from (by first | (subst_vars; exact uI_uI _ _ _ _ _) | (rw [← hq, skN_n h16]; done) | (rw [← hq, skN_ge (by omega)]; done))) ?_
        exact ih (p + 1) (by omega) ((skN_b h16 (by omega)).symm.trans hq) (by omega)
set_option maxHeartbeats 4000000 in
theorem c_R_skipBlanks (l : Launch) (u : Un) (hA : Ap u) {σ τ : St} (fτ : frT σ τ) {t N : Nat} (ht : t < 4) (hN : N ≤ 60) {p : Nat} (hpl : τ.1 15 4 = nI p) (hp : p ≤ N): MTv l u y_R_skipBlanks b_R_skipBlanks 3 0 [.ref (u.2.1 15), .ref (u.2.1 (10 + t)), .int (nI N)] τ (fun σ' => σ' = uI τ 15 4 (nI (skN (bTf σ t N) N p))) := by
  refine MT_of hA rfl (by decide) (Nat.le_of_ble_eq_true rfl) (fun X hl F hr => ?_)
  subst hl
  refine v_to (ls' := [(0, .ref (u.2.1 15)), (1, .ref (u.2.1 (10 + t))), (2, .int (nI N))]) rfl ?_
  refine v_st (show τ = uI τ 15 4 (nI p) from (uI_self _ _ _ _ hpl).symm) ?_
  refine L_R_skipBlanks_0 hA F fτ ht hN (p0 := p) (fun q => ?_) _ p hp rfl (Nat.lt_succ_self _)
  refine v_vret F hr d_R_skipBlanks_32 ?_
  rfl
abbrev b_R_readFigures : ByteArray := prog_9_method_6_code
abbrev y_R_readFigures : MethodName := ⟨"TakerBook$Reader", "readFigures", "([BI[II[I[I)Z"⟩
theorem d_R_readFigures_0 : decode b_R_readFigures 0 = .ok (.iconst 0, 1) := by decide +kernel
theorem d_R_readFigures_1 : decode b_R_readFigures 1 = .ok (.istore 7, 2) := by decide +kernel
theorem d_R_readFigures_3 : decode b_R_readFigures 3 = .ok (.iload 7, 2) := by decide +kernel
theorem d_R_readFigures_5 : decode b_R_readFigures 5 = .ok (.aload 5, 2) := by decide +kernel
theorem d_R_readFigures_7 : decode b_R_readFigures 7 = .ok (.arraylength, 1) := by decide +kernel
theorem d_R_readFigures_8 : decode b_R_readFigures 8 = .ok (.if_icmp .ge 74, 3) := by decide +kernel
theorem d_R_readFigures_11 : decode b_R_readFigures 11 = .ok (.aload_n 0, 1) := by decide +kernel
theorem d_R_readFigures_12 : decode b_R_readFigures 12 = .ok (.getfield 21, 3) := by decide +kernel
theorem d_R_readFigures_15 : decode b_R_readFigures 15 = .ok (.iload_n 2, 1) := by decide +kernel
theorem d_R_readFigures_16 : decode b_R_readFigures 16 = .ok (.if_icmp .ge 15, 3) := by decide +kernel
theorem d_R_readFigures_19 : decode b_R_readFigures 19 = .ok (.aload_n 1, 1) := by decide +kernel
theorem d_R_readFigures_20 : decode b_R_readFigures 20 = .ok (.aload_n 0, 1) := by decide +kernel
theorem d_R_readFigures_21 : decode b_R_readFigures 21 = .ok (.getfield 21, 3) := by decide +kernel
theorem d_R_readFigures_24 : decode b_R_readFigures 24 = .ok (.baload, 1) := by decide +kernel
theorem d_R_readFigures_25 : decode b_R_readFigures 25 = .ok (.bipush 48, 2) := by decide +kernel
theorem d_R_readFigures_27 : decode b_R_readFigures 27 = .ok (.isub, 1) := by decide +kernel
theorem d_R_readFigures_28 : decode b_R_readFigures 28 = .ok (.goto 5, 3) := by decide +kernel
theorem d_R_readFigures_31 : decode b_R_readFigures 31 = .ok (.bipush (-9), 2) := by decide +kernel
theorem d_R_readFigures_33 : decode b_R_readFigures 33 = .ok (.istore 8, 2) := by decide +kernel
theorem d_R_readFigures_35 : decode b_R_readFigures 35 = .ok (.iload 8, 2) := by decide +kernel
theorem d_R_readFigures_37 : decode b_R_readFigures 37 = .ok (.aload 5, 2) := by decide +kernel
theorem d_R_readFigures_39 : decode b_R_readFigures 39 = .ok (.iload 7, 2) := by decide +kernel
theorem d_R_readFigures_41 : decode b_R_readFigures 41 = .ok (.iaload, 1) := by decide +kernel
theorem d_R_readFigures_42 : decode b_R_readFigures 42 = .ok (.if_icmp .lt 13, 3) := by decide +kernel
theorem d_R_readFigures_45 : decode b_R_readFigures 45 = .ok (.iload 8, 2) := by decide +kernel
theorem d_R_readFigures_47 : decode b_R_readFigures 47 = .ok (.aload 6, 2) := by decide +kernel
theorem d_R_readFigures_49 : decode b_R_readFigures 49 = .ok (.iload 7, 2) := by decide +kernel
theorem d_R_readFigures_51 : decode b_R_readFigures 51 = .ok (.iaload, 1) := by decide +kernel
theorem d_R_readFigures_52 : decode b_R_readFigures 52 = .ok (.if_icmp .le 5, 3) := by decide +kernel
theorem d_R_readFigures_55 : decode b_R_readFigures 55 = .ok (.iconst 0, 1) := by decide +kernel
theorem d_R_readFigures_56 : decode b_R_readFigures 56 = .ok (.ireturn, 1) := by decide +kernel
theorem d_R_readFigures_57 : decode b_R_readFigures 57 = .ok (.aload_n 3, 1) := by decide +kernel
theorem d_R_readFigures_58 : decode b_R_readFigures 58 = .ok (.iload 4, 2) := by decide +kernel
theorem d_R_readFigures_60 : decode b_R_readFigures 60 = .ok (.iload 7, 2) := by decide +kernel
theorem d_R_readFigures_62 : decode b_R_readFigures 62 = .ok (.iadd, 1) := by decide +kernel
theorem d_R_readFigures_63 : decode b_R_readFigures 63 = .ok (.iload 8, 2) := by decide +kernel
theorem d_R_readFigures_65 : decode b_R_readFigures 65 = .ok (.iastore, 1) := by decide +kernel
theorem d_R_readFigures_66 : decode b_R_readFigures 66 = .ok (.aload_n 0, 1) := by decide +kernel
theorem d_R_readFigures_67 : decode b_R_readFigures 67 = .ok (.dup, 1) := by decide +kernel
theorem d_R_readFigures_68 : decode b_R_readFigures 68 = .ok (.getfield 21, 3) := by decide +kernel
theorem d_R_readFigures_71 : decode b_R_readFigures 71 = .ok (.iconst 1, 1) := by decide +kernel
theorem d_R_readFigures_72 : decode b_R_readFigures 72 = .ok (.iadd, 1) := by decide +kernel
theorem d_R_readFigures_73 : decode b_R_readFigures 73 = .ok (.putfield 21, 3) := by decide +kernel
theorem d_R_readFigures_76 : decode b_R_readFigures 76 = .ok (.iinc 7 1, 3) := by decide +kernel
theorem d_R_readFigures_79 : decode b_R_readFigures 79 = .ok (.goto (-76), 3) := by decide +kernel
theorem d_R_readFigures_82 : decode b_R_readFigures 82 = .ok (.iconst 1, 1) := by decide +kernel
theorem d_R_readFigures_83 : decode b_R_readFigures 83 = .ok (.ireturn, 1) := by decide +kernel
theorem mo_R_readFigures : mok y_R_readFigures b_R_readFigures 9 (some .boolean) 6 := ⟨List.mem_of_getElem? (i := 480) (by decide +kernel), ⟨by decide +kernel, by decide +kernel, by decide +kernel⟩, List.mem_of_getElem? (i := 75) (by decide +kernel), by decide⟩
set_option maxHeartbeats 4000000 in
theorem L_R_readFigures_b {X : FX} {u : Un} (hA : Ap u) {Q : State → Prop} (F : Fr X u "TakerBook$Reader" b_R_readFigures 9) {σ τ : St} (fτ : frT σ τ) {t N : Nat} (ht : t < 4) (hN : N ≤ 60) {p off : Nat} (hp : p < 100) (hof : off + 4 ≤ 4) (k0 : ∀ (k : Nat), ffk (bTf σ t N) loB hiB p 4 = k → ¬ ffk (bTf σ t N) loB hiB p 4 = 4 → V X u 0 9 Q 55 [] [] (rfS τ 17 off p (fun i => bTf σ t N (p + i) - 48) k)) (k1 : ∀ (k : Nat), ffk (bTf σ t N) loB hiB p 4 = 4 → V X u 0 9 Q 82 [] [] (rfS τ 17 off p (fun i => bTf σ t N (p + i) - 48) 4))  : ∀ (nn : Nat) (k : Nat), k ≤ 4 → ffk (bTf σ t N) loB hiB p k = k → 4 - k < nn → V X u 0 9 Q 3 [(0, .ref (u.2.1 15)), (1, .ref (u.2.1 (10 + t))), (2, .int (nI N)), (3, .ref (u.2.1 17)), (4, .int (nI off)), (5, .ref (u.2.1 (1000 + 1))), (6, .ref (u.2.1 (1000 + 2))), (7, .int (nI k))] [] (rfS τ 17 off p (fun i => bTf σ t N (p + i) - 48) k) := by
  intro nn
  induction nn with
  | zero =>
    intro k hk hff h2
    exact absurd h2 (Nat.not_lt_zero _)
  | succ nn ih =>
    intro k hk hff hm
    refine v_iload F d_R_readFigures_3 7 rfl ?_
    refine v_aload F d_R_readFigures_5 5 rfl ?_
    refine v_tablen F (i := 1) rfl (v := 4) rfl d_R_readFigures_7 ?_
    refine v_icmp_ge F 82 d_R_readFigures_8 rfl (fun h8 => ?_) (fun h8 => ?_)
    · skip
      have h8 : 4 ≤ k := (nI_leI (a := 4) (b := k) (by omega) (by omega)).mp h8
      refine v_st (show rfS τ 17 off p (fun i => bTf σ t N (p + i) - 48) k = rfS τ 17 off p (fun i => bTf σ t N (p + i) - 48) 4 from (by first | (subst_vars; exact rf_s (by decide)) | (have e : k = 4 := (by omega); subst e; rfl) | rfl)) ?_
      refine v_sub [] (ls' := []) rfl ?_
      exact k1 k (by have e : k = 4 := (by omega); subst e; exact hff)
    · skip
      have h8 : ¬ 4 ≤ k := fun q => h8 ((nI_leI (a := 4) (b := k) (by omega) (by omega)).mpr q)
      refine v_aload_n F d_R_readFigures_11 rfl 0 rfl ?_
      refine v_geti F fk_R_21 G15 rfl d_R_readFigures_12 ?_
      refine v_te (y := nI (p + k)) (uI_s _ _ _ _) ?_
      refine v_iload_n F d_R_readFigures_15 rfl 2 rfl ?_
      refine v_icmp_ge F 31 d_R_readFigures_16 rfl (fun h16 => ?_) (fun h16 => ?_)
      · skip
        have h16 : N ≤ p + k := (nI_leI (a := N) (b := p + k) (by omega) (by omega)).mp h16
        refine v_bipush (v := (-9)) F d_R_readFigures_31 kb_m9 ?_
        refine v_istore (ls' := [(8, .int (-9)), (0, .ref (u.2.1 15)), (1, .ref (u.2.1 (10 + t))), (2, .int (nI N)), (3, .ref (u.2.1 17)), (4, .int (nI off)), (5, .ref (u.2.1 (1000 + 1))), (6, .ref (u.2.1 (1000 + 2))), (7, .int (nI k))]) F d_R_readFigures_33 (by decide) rfl ?_
        refine v_iload F d_R_readFigures_35 0 rfl ?_
        refine v_aload F d_R_readFigures_37 6 rfl ?_
        refine v_iload F d_R_readFigures_39 8 rfl ?_
        refine v_tai F (i := 1) k rfl rfl rfl (show k < 4 from by omega) (by decide) d_R_readFigures_41 ?_
        refine v_te (y := loB k) rfl ?_
        refine v_icmp_lt F 55 d_R_readFigures_42 rfl (fun h42 => ?_) (fun h42 => ?_)
        · skip
          refine v_sub [] (ls' := []) rfl ?_
          exact k0 k (ffk_n hff (fun q => by have := fig_in (N := N) (fun q hq => bT_0 hq) q (loB_0 k (by omega)); omega) (by omega)) (by rw [ffk_n hff (fun q => by have := fig_in (N := N) (fun q hq => bT_0 hq) q (loB_0 k (by omega)); omega) (by omega)]; omega)
        · (exfalso; exact h42 (loB_9 k (by omega)))
      · skip
        have h16 : ¬ N ≤ p + k := fun q => h16 ((nI_leI (a := N) (b := p + k) (by omega) (by omega)).mpr q)
        refine v_aload_n F d_R_readFigures_19 rfl 1 rfl ?_
        refine v_aload_n F d_R_readFigures_20 rfl 0 rfl ?_
        refine v_geti F fk_R_21 G15 rfl d_R_readFigures_21 ?_
        refine v_te (y := nI (p + k)) (uI_s _ _ _ _) ?_
        refine v_bal F (p + k) (gam_text _ ht) rfl (by omega) d_R_readFigures_24 ?_
        refine v_te (y := bTf σ t N (p + k)) (bT_r (rf_fr fτ rfl) ht (by omega)) ?_
        refine v_bipush (v := 48) F d_R_readFigures_25 kb_48 ?_
        refine v_isub F d_R_readFigures_27 ?_
        refine v_goto F 33 d_R_readFigures_28 rfl ?_
        refine v_istore (ls' := [(8, .int ((bTf σ t N (p + k)) - 48)), (0, .ref (u.2.1 15)), (1, .ref (u.2.1 (10 + t))), (2, .int (nI N)), (3, .ref (u.2.1 17)), (4, .int (nI off)), (5, .ref (u.2.1 (1000 + 1))), (6, .ref (u.2.1 (1000 + 2))), (7, .int (nI k))]) F d_R_readFigures_33 (by decide) rfl ?_
        refine v_iload F d_R_readFigures_35 0 rfl ?_
        refine v_aload F d_R_readFigures_37 6 rfl ?_
        refine v_iload F d_R_readFigures_39 8 rfl ?_
        refine v_tai F (i := 1) k rfl rfl rfl (show k < 4 from by omega) (by decide) d_R_readFigures_41 ?_
        refine v_te (y := loB k) rfl ?_
        refine v_icmp_lt F 55 d_R_readFigures_42 rfl (fun h42 => ?_) (fun h42 => ?_)
        · skip
          refine v_sub [] (ls' := []) rfl ?_
          exact k0 k (ffk_n hff (fun q => by first | exact absurd q.1 (lt_le_i h42) | exact absurd q.2 h52) (by omega)) (by rw [ffk_n hff (fun q => by first | exact absurd q.1 (lt_le_i h42) | exact absurd q.2 h52) (by omega)]; omega)
        · skip
          refine v_iload F d_R_readFigures_45 0 rfl ?_
          refine v_aload F d_R_readFigures_47 7 rfl ?_
          refine v_iload F d_R_readFigures_49 8 rfl ?_
          refine v_tai F (i := 2) k rfl rfl rfl (show k < 4 from by omega) (by decide) d_R_readFigures_51 ?_
          refine v_te (y := hiB k) rfl ?_
          refine v_icmp_le F 57 d_R_readFigures_52 rfl (fun h52 => ?_) (fun h52 => ?_)
          · skip
            refine v_aload_n F d_R_readFigures_57 rfl 4 rfl ?_
            refine v_iload F d_R_readFigures_58 5 rfl ?_
            refine v_iload F d_R_readFigures_60 8 rfl ?_
            refine v_iadd F d_R_readFigures_62 ?_
            refine v_te (y := nI (off + k)) (nI_add _ _) ?_
            refine v_iload F d_R_readFigures_63 0 rfl ?_
            refine v_ias F (off + k) G17 rfl (by omega) d_R_readFigures_65 ?_
            refine v_ns (fun σ1 eσ1 => ?_)
            refine v_aload_n F d_R_readFigures_66 rfl 1 rfl ?_
            refine v_dup F d_R_readFigures_67 rfl ?_
            refine v_geti F fk_R_21 G15 rfl d_R_readFigures_68 ?_
            refine v_te (y := nI (p + k)) (by rw [eσ1, uI_o _ _ _ _ (by decide)]; exact uI_s _ _ _ _) ?_
            refine v_iconst (v := 1) F d_R_readFigures_71 ki_1 ?_
            refine v_iadd F d_R_readFigures_72 ?_
            refine v_te (y := nI (p + k + 1)) (nI_add _ _) ?_
            refine v_puti F fk_R_21 pk_R_place G15 rfl d_R_readFigures_73 ?_
            refine v_ns (fun σ2 eσ2 => ?_)
            refine v_iinc (v := nI (k + 1)) (ls' := [(7, .int (nI (k + 1))), (8, .int ((bTf σ t N (p + k)) - 48)), (0, .ref (u.2.1 15)), (1, .ref (u.2.1 (10 + t))), (2, .int (nI N)), (3, .ref (u.2.1 17)), (4, .int (nI off)), (5, .ref (u.2.1 (1000 + 1))), (6, .ref (u.2.1 (1000 + 2)))]) F d_R_readFigures_76 (j := 8) rfl (nI_inc _) (by decide) rfl ?_
            refine v_goto F 3 d_R_readFigures_79 rfl ?_
            refine v_sub [2, 3, 4, 5, 6, 7, 8, 0] (ls' := [(0, .ref (u.2.1 15)), (1, .ref (u.2.1 (10 + t))), (2, .int (nI N)), (3, .ref (u.2.1 17)), (4, .int (nI off)), (5, .ref (u.2.1 (1000 + 1))), (6, .ref (u.2.1 (1000 + 2))), (7, .int (nI (k + 1)))]) rfl ?_
            refine v_st (show σ2 = rfS τ 17 off p (fun i => bTf σ t N (p + i) - 48) (k + 1) from (by first | (subst_vars; exact rf_s (by decide)) | (have e : k = 4 := (by omega); subst e; rfl) | rfl)) ?_
            exact ih (k + 1) (by omega) (ffk_t hff ⟨i_nlt.mp h42, h52⟩) (by omega)
          · skip
            refine v_sub [] (ls' := []) rfl ?_
            exact k0 k (ffk_n hff (fun q => by first | exact absurd q.1 (lt_le_i h42) | exact absurd q.2 h52) (by omega)) (by rw [ffk_n hff (fun q => by first | exact absurd q.1 (lt_le_i h42) | exact absurd q.2 h52) (by omega)]; omega)
set_option maxHeartbeats 4000000 in
theorem c_R_readFiguresb (l : Launch) (u : Un) (hA : Ap u) {σ τ : St} (fτ : frT σ τ) {t N : Nat} (ht : t < 4) (hN : N ≤ 60) {p : Nat} (off : Nat) (hp : p < 100) (hof : off + 4 ≤ 4) (hpl : τ.1 15 4 = nI p) : MTi l u y_R_readFigures b_R_readFigures 9 .boolean 0 [.ref (u.2.1 15), .ref (u.2.1 (10 + t)), .int (nI N), .ref (u.2.1 17), .int (nI off), .ref (u.2.1 (1000 + 1)), .ref (u.2.1 (1000 + 2))] τ (fun ans σ' => (¬ ffk (bTf σ t N) loB hiB p 4 = 4 ∧ 0 = ans ∧ σ' = rfS τ 17 off p (fun i => bTf σ t N (p + i) - 48) (ffk (bTf σ t N) loB hiB p 4)) ∨ (ffk (bTf σ t N) loB hiB p 4 = 4 ∧ 1 = ans ∧ σ' = rfS τ 17 off p (fun i => bTf σ t N (p + i) - 48) 4)) := by
  refine MT_of hA rfl (by decide) (Nat.le_of_ble_eq_true rfl) (fun X hl F hr => ?_)
  subst hl
  refine v_to (ls' := [(0, .ref (u.2.1 15)), (1, .ref (u.2.1 (10 + t))), (2, .int (nI N)), (3, .ref (u.2.1 17)), (4, .int (nI off)), (5, .ref (u.2.1 (1000 + 1))), (6, .ref (u.2.1 (1000 + 2)))]) rfl ?_
  refine v_iconst (v := 0) F d_R_readFigures_0 ki_0 ?_
  refine v_istore (ls' := [(7, .int 0), (0, .ref (u.2.1 15)), (1, .ref (u.2.1 (10 + t))), (2, .int (nI N)), (3, .ref (u.2.1 17)), (4, .int (nI off)), (5, .ref (u.2.1 (1000 + 1))), (6, .ref (u.2.1 (1000 + 2)))]) F d_R_readFigures_1 (by decide) rfl ?_
  refine v_sub [1, 2, 3, 4, 5, 6, 7, 0] (ls' := [(0, .ref (u.2.1 15)), (1, .ref (u.2.1 (10 + t))), (2, .int (nI N)), (3, .ref (u.2.1 17)), (4, .int (nI off)), (5, .ref (u.2.1 (1000 + 1))), (6, .ref (u.2.1 (1000 + 2))), (7, .int 0)]) rfl ?_
  have g1 : 0 = (nI 0) := (by first | rfl | (simp_all; done) | grind)
  refine v_to (ls' := [(0, .ref (u.2.1 15)), (1, .ref (u.2.1 (10 + t))), (2, .int (nI N)), (3, .ref (u.2.1 17)), (4, .int (nI off)), (5, .ref (u.2.1 (1000 + 1))), (6, .ref (u.2.1 (1000 + 2))), (7, .int (nI 0))]) (by first | rfl | rw [g1] | simp_all) ?_
  refine v_st (show τ = rfS τ 17 off p (fun i => bTf σ t N (p + i) - 48) 0 from (rf_0 hpl).symm) ?_
  refine L_R_readFigures_b hA F fτ ht hN hp hof (fun k ek hk => ?_) (fun k hk => ?_) _ 0 (Nat.zero_le _) rfl (Nat.lt_succ_self _)
  · skip
    refine v_iconst (v := 0) F d_R_readFigures_55 ki_0 ?_
    refine v_iret F hr rfl d_R_readFigures_56 ?_
    exact Or.inl ⟨hk, rfl, by rw [ek]⟩
  · skip
    refine v_iconst (v := 1) F d_R_readFigures_82 ki_1 ?_
    refine v_iret F hr rfl d_R_readFigures_83 ?_
    exact Or.inr ⟨hk, rfl, rfl⟩
set_option maxHeartbeats 4000000 in
theorem L_R_readFigures_t {X : FX} {u : Un} (hA : Ap u) {Q : State → Prop} (F : Fr X u "TakerBook$Reader" b_R_readFigures 9) {σ τ : St} (fτ : frT σ τ) {t N : Nat} (ht : t < 4) (hN : N ≤ 60) {p off : Nat} (hp : p < 100) (hof : off + 3 ≤ 18) (k0 : ∀ (k : Nat), ffk (bTf σ t N) loT hiT p 3 = k → ¬ ffk (bTf σ t N) loT hiT p 3 = 3 → V X u 0 9 Q 55 [] [] (rfS τ 18 off p (fun i => bTf σ t N (p + i) - 48) k)) (k1 : ∀ (k : Nat), ffk (bTf σ t N) loT hiT p 3 = 3 → V X u 0 9 Q 82 [] [] (rfS τ 18 off p (fun i => bTf σ t N (p + i) - 48) 3))  : ∀ (nn : Nat) (k : Nat), k ≤ 3 → ffk (bTf σ t N) loT hiT p k = k → 3 - k < nn → V X u 0 9 Q 3 [(0, .ref (u.2.1 15)), (1, .ref (u.2.1 (10 + t))), (2, .int (nI N)), (3, .ref (u.2.1 18)), (4, .int (nI off)), (5, .ref (u.2.1 (1000 + 3))), (6, .ref (u.2.1 (1000 + 4))), (7, .int (nI k))] [] (rfS τ 18 off p (fun i => bTf σ t N (p + i) - 48) k) := by
  intro nn
  induction nn with
  | zero =>
    intro k hk hff h2
    exact absurd h2 (Nat.not_lt_zero _)
  | succ nn ih =>
    intro k hk hff hm
    refine v_iload F d_R_readFigures_3 7 rfl ?_
    refine v_aload F d_R_readFigures_5 5 rfl ?_
    refine v_tablen F (i := 3) rfl (v := 3) rfl d_R_readFigures_7 ?_
    refine v_icmp_ge F 82 d_R_readFigures_8 rfl (fun h8 => ?_) (fun h8 => ?_)
    · skip
      have h8 : 3 ≤ k := (nI_leI (a := 3) (b := k) (by omega) (by omega)).mp h8
      refine v_st (show rfS τ 18 off p (fun i => bTf σ t N (p + i) - 48) k = rfS τ 18 off p (fun i => bTf σ t N (p + i) - 48) 3 from (by first | (subst_vars; exact rf_s (by decide)) | (have e : k = 3 := (by omega); subst e; rfl) | rfl)) ?_
      refine v_sub [] (ls' := []) rfl ?_
      exact k1 k (by have e : k = 3 := (by omega); subst e; exact hff)
    · skip
      have h8 : ¬ 3 ≤ k := fun q => h8 ((nI_leI (a := 3) (b := k) (by omega) (by omega)).mpr q)
      refine v_aload_n F d_R_readFigures_11 rfl 0 rfl ?_
      refine v_geti F fk_R_21 G15 rfl d_R_readFigures_12 ?_
      refine v_te (y := nI (p + k)) (uI_s _ _ _ _) ?_
      refine v_iload_n F d_R_readFigures_15 rfl 2 rfl ?_
      refine v_icmp_ge F 31 d_R_readFigures_16 rfl (fun h16 => ?_) (fun h16 => ?_)
      · skip
        have h16 : N ≤ p + k := (nI_leI (a := N) (b := p + k) (by omega) (by omega)).mp h16
        refine v_bipush (v := (-9)) F d_R_readFigures_31 kb_m9 ?_
        refine v_istore (ls' := [(8, .int (-9)), (0, .ref (u.2.1 15)), (1, .ref (u.2.1 (10 + t))), (2, .int (nI N)), (3, .ref (u.2.1 18)), (4, .int (nI off)), (5, .ref (u.2.1 (1000 + 3))), (6, .ref (u.2.1 (1000 + 4))), (7, .int (nI k))]) F d_R_readFigures_33 (by decide) rfl ?_
        refine v_iload F d_R_readFigures_35 0 rfl ?_
        refine v_aload F d_R_readFigures_37 6 rfl ?_
        refine v_iload F d_R_readFigures_39 8 rfl ?_
        refine v_tai F (i := 3) k rfl rfl rfl (show k < 3 from by omega) (by decide) d_R_readFigures_41 ?_
        refine v_te (y := loT k) rfl ?_
        refine v_icmp_lt F 55 d_R_readFigures_42 rfl (fun h42 => ?_) (fun h42 => ?_)
        · skip
          refine v_sub [] (ls' := []) rfl ?_
          exact k0 k (ffk_n hff (fun q => by have := fig_in (N := N) (fun q hq => bT_0 hq) q (loT_0 k (by omega)); omega) (by omega)) (by rw [ffk_n hff (fun q => by have := fig_in (N := N) (fun q hq => bT_0 hq) q (loT_0 k (by omega)); omega) (by omega)]; omega)
        · (exfalso; exact h42 (loT_9 k (by omega)))
      · skip
        have h16 : ¬ N ≤ p + k := fun q => h16 ((nI_leI (a := N) (b := p + k) (by omega) (by omega)).mpr q)
        refine v_aload_n F d_R_readFigures_19 rfl 1 rfl ?_
        refine v_aload_n F d_R_readFigures_20 rfl 0 rfl ?_
        refine v_geti F fk_R_21 G15 rfl d_R_readFigures_21 ?_
        refine v_te (y := nI (p + k)) (uI_s _ _ _ _) ?_
        refine v_bal F (p + k) (gam_text _ ht) rfl (by omega) d_R_readFigures_24 ?_
        refine v_te (y := bTf σ t N (p + k)) (bT_r (rf_fr fτ rfl) ht (by omega)) ?_
        refine v_bipush (v := 48) F d_R_readFigures_25 kb_48 ?_
        refine v_isub F d_R_readFigures_27 ?_
        refine v_goto F 33 d_R_readFigures_28 rfl ?_
        refine v_istore (ls' := [(8, .int ((bTf σ t N (p + k)) - 48)), (0, .ref (u.2.1 15)), (1, .ref (u.2.1 (10 + t))), (2, .int (nI N)), (3, .ref (u.2.1 18)), (4, .int (nI off)), (5, .ref (u.2.1 (1000 + 3))), (6, .ref (u.2.1 (1000 + 4))), (7, .int (nI k))]) F d_R_readFigures_33 (by decide) rfl ?_
        refine v_iload F d_R_readFigures_35 0 rfl ?_
        refine v_aload F d_R_readFigures_37 6 rfl ?_
        refine v_iload F d_R_readFigures_39 8 rfl ?_
        refine v_tai F (i := 3) k rfl rfl rfl (show k < 3 from by omega) (by decide) d_R_readFigures_41 ?_
        refine v_te (y := loT k) rfl ?_
        refine v_icmp_lt F 55 d_R_readFigures_42 rfl (fun h42 => ?_) (fun h42 => ?_)
        · skip
          refine v_sub [] (ls' := []) rfl ?_
          exact k0 k (ffk_n hff (fun q => by first | exact absurd q.1 (lt_le_i h42) | exact absurd q.2 h52) (by omega)) (by rw [ffk_n hff (fun q => by first | exact absurd q.1 (lt_le_i h42) | exact absurd q.2 h52) (by omega)]; omega)
        · skip
          refine v_iload F d_R_readFigures_45 0 rfl ?_
          refine v_aload F d_R_readFigures_47 7 rfl ?_
          refine v_iload F d_R_readFigures_49 8 rfl ?_
          refine v_tai F (i := 4) k rfl rfl rfl (show k < 3 from by omega) (by decide) d_R_readFigures_51 ?_
          refine v_te (y := hiT k) rfl ?_
          refine v_icmp_le F 57 d_R_readFigures_52 rfl (fun h52 => ?_) (fun h52 => ?_)
          · skip
            refine v_aload_n F d_R_readFigures_57 rfl 4 rfl ?_
            refine v_iload F d_R_readFigures_58 5 rfl ?_
            refine v_iload F d_R_readFigures_60 8 rfl ?_
            refine v_iadd F d_R_readFigures_62 ?_
            refine v_te (y := nI (off + k)) (nI_add _ _) ?_
            refine v_iload F d_R_readFigures_63 0 rfl ?_
            refine v_ias F (off + k) G18 rfl (by omega) d_R_readFigures_65 ?_
            refine v_ns (fun σ1 eσ1 => ?_)
            refine v_aload_n F d_R_readFigures_66 rfl 1 rfl ?_
            refine v_dup F d_R_readFigures_67 rfl ?_
            refine v_geti F fk_R_21 G15 rfl d_R_readFigures_68 ?_
            refine v_te (y := nI (p + k)) (by rw [eσ1, uI_o _ _ _ _ (by decide)]; exact uI_s _ _ _ _) ?_
            refine v_iconst (v := 1) F d_R_readFigures_71 ki_1 ?_
            refine v_iadd F d_R_readFigures_72 ?_
            refine v_te (y := nI (p + k + 1)) (nI_add _ _) ?_
            refine v_puti F fk_R_21 pk_R_place G15 rfl d_R_readFigures_73 ?_
            refine v_ns (fun σ2 eσ2 => ?_)
            refine v_iinc (v := nI (k + 1)) (ls' := [(7, .int (nI (k + 1))), (8, .int ((bTf σ t N (p + k)) - 48)), (0, .ref (u.2.1 15)), (1, .ref (u.2.1 (10 + t))), (2, .int (nI N)), (3, .ref (u.2.1 18)), (4, .int (nI off)), (5, .ref (u.2.1 (1000 + 3))), (6, .ref (u.2.1 (1000 + 4)))]) F d_R_readFigures_76 (j := 8) rfl (nI_inc _) (by decide) rfl ?_
            refine v_goto F 3 d_R_readFigures_79 rfl ?_
            refine v_sub [2, 3, 4, 5, 6, 7, 8, 0] (ls' := [(0, .ref (u.2.1 15)), (1, .ref (u.2.1 (10 + t))), (2, .int (nI N)), (3, .ref (u.2.1 18)), (4, .int (nI off)), (5, .ref (u.2.1 (1000 + 3))), (6, .ref (u.2.1 (1000 + 4))), (7, .int (nI (k + 1)))]) rfl ?_
            refine v_st (show σ2 = rfS τ 18 off p (fun i => bTf σ t N (p + i) - 48) (k + 1) from (by first | (subst_vars; exact rf_s (by decide)) | (have e : k = 3 := (by omega); subst e; rfl) | rfl)) ?_
            exact ih (k + 1) (by omega) (ffk_t hff ⟨i_nlt.mp h42, h52⟩) (by omega)
          · skip
            refine v_sub [] (ls' := []) rfl ?_
            exact k0 k (ffk_n hff (fun q => by first | exact absurd q.1 (lt_le_i h42) | exact absurd q.2 h52) (by omega)) (by rw [ffk_n hff (fun q => by first | exact absurd q.1 (lt_le_i h42) | exact absurd q.2 h52) (by omega)]; omega)
set_option maxHeartbeats 4000000 in
theorem c_R_readFigurest (l : Launch) (u : Un) (hA : Ap u) {σ τ : St} (fτ : frT σ τ) {t N : Nat} (ht : t < 4) (hN : N ≤ 60) {p : Nat} (off : Nat) (hp : p < 100) (hof : off + 3 ≤ 18) (hpl : τ.1 15 4 = nI p) : MTi l u y_R_readFigures b_R_readFigures 9 .boolean 0 [.ref (u.2.1 15), .ref (u.2.1 (10 + t)), .int (nI N), .ref (u.2.1 18), .int (nI off), .ref (u.2.1 (1000 + 3)), .ref (u.2.1 (1000 + 4))] τ (fun ans σ' => (¬ ffk (bTf σ t N) loT hiT p 3 = 3 ∧ 0 = ans ∧ σ' = rfS τ 18 off p (fun i => bTf σ t N (p + i) - 48) (ffk (bTf σ t N) loT hiT p 3)) ∨ (ffk (bTf σ t N) loT hiT p 3 = 3 ∧ 1 = ans ∧ σ' = rfS τ 18 off p (fun i => bTf σ t N (p + i) - 48) 3)) := by
  refine MT_of hA rfl (by decide) (Nat.le_of_ble_eq_true rfl) (fun X hl F hr => ?_)
  subst hl
  refine v_to (ls' := [(0, .ref (u.2.1 15)), (1, .ref (u.2.1 (10 + t))), (2, .int (nI N)), (3, .ref (u.2.1 18)), (4, .int (nI off)), (5, .ref (u.2.1 (1000 + 3))), (6, .ref (u.2.1 (1000 + 4)))]) rfl ?_
  refine v_iconst (v := 0) F d_R_readFigures_0 ki_0 ?_
  refine v_istore (ls' := [(7, .int 0), (0, .ref (u.2.1 15)), (1, .ref (u.2.1 (10 + t))), (2, .int (nI N)), (3, .ref (u.2.1 18)), (4, .int (nI off)), (5, .ref (u.2.1 (1000 + 3))), (6, .ref (u.2.1 (1000 + 4)))]) F d_R_readFigures_1 (by decide) rfl ?_
  refine v_sub [1, 2, 3, 4, 5, 6, 7, 0] (ls' := [(0, .ref (u.2.1 15)), (1, .ref (u.2.1 (10 + t))), (2, .int (nI N)), (3, .ref (u.2.1 18)), (4, .int (nI off)), (5, .ref (u.2.1 (1000 + 3))), (6, .ref (u.2.1 (1000 + 4))), (7, .int 0)]) rfl ?_
  have g1 : 0 = (nI 0) := (by first | rfl | (simp_all; done) | grind)
  refine v_to (ls' := [(0, .ref (u.2.1 15)), (1, .ref (u.2.1 (10 + t))), (2, .int (nI N)), (3, .ref (u.2.1 18)), (4, .int (nI off)), (5, .ref (u.2.1 (1000 + 3))), (6, .ref (u.2.1 (1000 + 4))), (7, .int (nI 0))]) (by first | rfl | rw [g1] | simp_all) ?_
  refine v_st (show τ = rfS τ 18 off p (fun i => bTf σ t N (p + i) - 48) 0 from (rf_0 hpl).symm) ?_
  refine L_R_readFigures_t hA F fτ ht hN hp hof (fun k ek hk => ?_) (fun k hk => ?_) _ 0 (Nat.zero_le _) rfl (Nat.lt_succ_self _)
  · skip
    refine v_iconst (v := 0) F d_R_readFigures_55 ki_0 ?_
    refine v_iret F hr rfl d_R_readFigures_56 ?_
    exact Or.inl ⟨hk, rfl, by rw [ek]⟩
  · skip
    refine v_iconst (v := 1) F d_R_readFigures_82 ki_1 ?_
    refine v_iret F hr rfl d_R_readFigures_83 ?_
    exact Or.inr ⟨hk, rfl, rfl⟩
