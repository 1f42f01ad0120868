theorem kc_I_265 : Cond.constant "java/lang/Integer" 265 (1431655765) ∈ lw_tbl := List.mem_of_getElem? (i := 558) (by decide +kernel)
theorem kc_I_266 : Cond.constant "java/lang/Integer" 266 (858993459) ∈ lw_tbl := List.mem_of_getElem? (i := 559) (by decide +kernel)
theorem kc_I_267 : Cond.constant "java/lang/Integer" 267 (252645135) ∈ lw_tbl := List.mem_of_getElem? (i := 560) (by decide +kernel)
theorem kb_8 : (Int8.ofInt 8).toInt32 = (8 : Int32) := by decide
theorem kb_16 : (Int8.ofInt 16).toInt32 = (16 : Int32) := by decide
theorem kb_63 : (Int8.ofInt 63).toInt32 = (63 : Int32) := by decide
abbrev b_I_bitCount : ByteArray := prog_15_method_49_code
abbrev y_I_bitCount : MethodName := ⟨"java/lang/Integer", "bitCount", "(I)I"⟩
theorem d_I_bitCount_0 : decode b_I_bitCount 0 = .ok (.iload_n 0, 1) := by decide +kernel
theorem d_I_bitCount_1 : decode b_I_bitCount 1 = .ok (.iload_n 0, 1) := by decide +kernel
theorem d_I_bitCount_2 : decode b_I_bitCount 2 = .ok (.iconst 1, 1) := by decide +kernel
theorem d_I_bitCount_3 : decode b_I_bitCount 3 = .ok (.iushr, 1) := by decide +kernel
theorem d_I_bitCount_4 : decode b_I_bitCount 4 = .ok (.ldc_w 265, 3) := by decide +kernel
theorem d_I_bitCount_7 : decode b_I_bitCount 7 = .ok (.iand, 1) := by decide +kernel
theorem d_I_bitCount_8 : decode b_I_bitCount 8 = .ok (.isub, 1) := by decide +kernel
theorem d_I_bitCount_9 : decode b_I_bitCount 9 = .ok (.istore_n 0, 1) := by decide +kernel
theorem d_I_bitCount_10 : decode b_I_bitCount 10 = .ok (.iload_n 0, 1) := by decide +kernel
theorem d_I_bitCount_11 : decode b_I_bitCount 11 = .ok (.ldc_w 266, 3) := by decide +kernel
theorem d_I_bitCount_14 : decode b_I_bitCount 14 = .ok (.iand, 1) := by decide +kernel
theorem d_I_bitCount_15 : decode b_I_bitCount 15 = .ok (.iload_n 0, 1) := by decide +kernel
theorem d_I_bitCount_16 : decode b_I_bitCount 16 = .ok (.iconst 2, 1) := by decide +kernel
theorem d_I_bitCount_17 : decode b_I_bitCount 17 = .ok (.iushr, 1) := by decide +kernel
theorem d_I_bitCount_18 : decode b_I_bitCount 18 = .ok (.ldc_w 266, 3) := by decide +kernel
theorem d_I_bitCount_21 : decode b_I_bitCount 21 = .ok (.iand, 1) := by decide +kernel
theorem d_I_bitCount_22 : decode b_I_bitCount 22 = .ok (.iadd, 1) := by decide +kernel
theorem d_I_bitCount_23 : decode b_I_bitCount 23 = .ok (.istore_n 0, 1) := by decide +kernel
theorem d_I_bitCount_24 : decode b_I_bitCount 24 = .ok (.iload_n 0, 1) := by decide +kernel
theorem d_I_bitCount_25 : decode b_I_bitCount 25 = .ok (.iload_n 0, 1) := by decide +kernel
theorem d_I_bitCount_26 : decode b_I_bitCount 26 = .ok (.iconst 4, 1) := by decide +kernel
theorem d_I_bitCount_27 : decode b_I_bitCount 27 = .ok (.iushr, 1) := by decide +kernel
theorem d_I_bitCount_28 : decode b_I_bitCount 28 = .ok (.iadd, 1) := by decide +kernel
theorem d_I_bitCount_29 : decode b_I_bitCount 29 = .ok (.ldc_w 267, 3) := by decide +kernel
theorem d_I_bitCount_32 : decode b_I_bitCount 32 = .ok (.iand, 1) := by decide +kernel
theorem d_I_bitCount_33 : decode b_I_bitCount 33 = .ok (.istore_n 0, 1) := by decide +kernel
theorem d_I_bitCount_34 : decode b_I_bitCount 34 = .ok (.iload_n 0, 1) := by decide +kernel
theorem d_I_bitCount_35 : decode b_I_bitCount 35 = .ok (.iload_n 0, 1) := by decide +kernel
theorem d_I_bitCount_36 : decode b_I_bitCount 36 = .ok (.bipush 8, 2) := by decide +kernel
theorem d_I_bitCount_38 : decode b_I_bitCount 38 = .ok (.iushr, 1) := by decide +kernel
theorem d_I_bitCount_39 : decode b_I_bitCount 39 = .ok (.iadd, 1) := by decide +kernel
theorem d_I_bitCount_40 : decode b_I_bitCount 40 = .ok (.istore_n 0, 1) := by decide +kernel
theorem d_I_bitCount_41 : decode b_I_bitCount 41 = .ok (.iload_n 0, 1) := by decide +kernel
theorem d_I_bitCount_42 : decode b_I_bitCount 42 = .ok (.iload_n 0, 1) := by decide +kernel
theorem d_I_bitCount_43 : decode b_I_bitCount 43 = .ok (.bipush 16, 2) := by decide +kernel
theorem d_I_bitCount_45 : decode b_I_bitCount 45 = .ok (.iushr, 1) := by decide +kernel
theorem d_I_bitCount_46 : decode b_I_bitCount 46 = .ok (.iadd, 1) := by decide +kernel
theorem d_I_bitCount_47 : decode b_I_bitCount 47 = .ok (.istore_n 0, 1) := by decide +kernel
theorem d_I_bitCount_48 : decode b_I_bitCount 48 = .ok (.iload_n 0, 1) := by decide +kernel
theorem d_I_bitCount_49 : decode b_I_bitCount 49 = .ok (.bipush 63, 2) := by decide +kernel
theorem d_I_bitCount_51 : decode b_I_bitCount 51 = .ok (.iand, 1) := by decide +kernel
theorem d_I_bitCount_52 : decode b_I_bitCount 52 = .ok (.ireturn, 1) := by decide +kernel
theorem mo_I_bitCount : mok y_I_bitCount b_I_bitCount 1 (some .int) 1 := ⟨List.mem_of_getElem? (i := 557) (by decide +kernel), ⟨by decide +kernel, by decide +kernel, by decide +kernel⟩, List.mem_of_getElem? (i := 88) (by decide +kernel), by decide⟩
set_option maxHeartbeats 4000000 in
theorem c_I_bitCount (l : Launch) (u : Un) (hA : Ap u) (σ : St) (n : Nat) (hn : n < 64) : MTi l u y_I_bitCount b_I_bitCount 1 .int 0 [.int (nI n)] σ (fun ans σ' => nI (pcN n) = ans ∧ σ = σ') := by
  refine MT_of hA rfl (by decide) (Nat.le_of_ble_eq_true rfl) (fun X hl F hr => ?_)
  subst hl
  refine v_to (ls' := [(0, .int (nI n))]) rfl ?_
  refine v_iload_n F d_I_bitCount_0 rfl 0 rfl ?_
  refine v_iload_n F d_I_bitCount_1 rfl 0 rfl ?_
  refine v_iconst (v := 1) F d_I_bitCount_2 ki_1 ?_
  refine v_iushr F d_I_bitCount_3 ?_
  refine v_ldcw (v := 1431655765) F kc_I_265 d_I_bitCount_4 ?_
  refine v_iand F d_I_bitCount_7 ?_
  refine v_isub F d_I_bitCount_8 ?_
  refine v_ni (fun x1 ex1 => ?_)
  refine v_istore_n (ls' := [(0, .int x1)]) F d_I_bitCount_9 rfl (by decide) rfl ?_
  refine v_iload_n F d_I_bitCount_10 rfl 0 rfl ?_
  refine v_ldcw (v := 858993459) F kc_I_266 d_I_bitCount_11 ?_
  refine v_iand F d_I_bitCount_14 ?_
  refine v_iload_n F d_I_bitCount_15 rfl 0 rfl ?_
  refine v_iconst (v := 2) F d_I_bitCount_16 ki_2 ?_
  refine v_iushr F d_I_bitCount_17 ?_
  refine v_ldcw (v := 858993459) F kc_I_266 d_I_bitCount_18 ?_
  refine v_iand F d_I_bitCount_21 ?_
  refine v_iadd F d_I_bitCount_22 ?_
  refine v_ni (fun x2 ex2 => ?_)
  refine v_istore_n (ls' := [(0, .int x2)]) F d_I_bitCount_23 rfl (by decide) rfl ?_
  refine v_iload_n F d_I_bitCount_24 rfl 0 rfl ?_
  refine v_iload_n F d_I_bitCount_25 rfl 0 rfl ?_
  refine v_iconst (v := 4) F d_I_bitCount_26 ki_4 ?_
  refine v_iushr F d_I_bitCount_27 ?_
  refine v_iadd F d_I_bitCount_28 ?_
  refine v_ldcw (v := 252645135) F kc_I_267 d_I_bitCount_29 ?_
  refine v_iand F d_I_bitCount_32 ?_
  refine v_ni (fun x3 ex3 => ?_)
  refine v_istore_n (ls' := [(0, .int x3)]) F d_I_bitCount_33 rfl (by decide) rfl ?_
  refine v_iload_n F d_I_bitCount_34 rfl 0 rfl ?_
  refine v_iload_n F d_I_bitCount_35 rfl 0 rfl ?_
  refine v_bipush (v := 8) F d_I_bitCount_36 kb_8 ?_
  refine v_iushr F d_I_bitCount_38 ?_
  refine v_iadd F d_I_bitCount_39 ?_
  refine v_ni (fun x4 ex4 => ?_)
  refine v_istore_n (ls' := [(0, .int x4)]) F d_I_bitCount_40 rfl (by decide) rfl ?_
  refine v_iload_n F d_I_bitCount_41 rfl 0 rfl ?_
  refine v_iload_n F d_I_bitCount_42 rfl 0 rfl ?_
  refine v_bipush (v := 16) F d_I_bitCount_43 kb_16 ?_
  refine v_iushr F d_I_bitCount_45 ?_
  refine v_iadd F d_I_bitCount_46 ?_
  refine v_ni (fun x5 ex5 => ?_)
  refine v_istore_n (ls' := [(0, .int x5)]) F d_I_bitCount_47 rfl (by decide) rfl ?_
  refine v_iload_n F d_I_bitCount_48 rfl 0 rfl ?_
  refine v_bipush (v := 63) F d_I_bitCount_49 kb_63 ?_
  refine v_iand F d_I_bitCount_51 ?_
  refine v_iret F hr rfl d_I_bitCount_52 ?_
  refine ⟨?_, rfl⟩
  subst_vars
  clear hr F hA
  revert hn
  revert n
  decide +kernel
abbrev b_M_bits : ByteArray := prog_14_method_4_code
abbrev y_M_bits : MethodName := ⟨"TakerBookModel", "bits", "(I)I"⟩
theorem d_M_bits_0 : decode b_M_bits 0 = .ok (.iconst 0, 1) := by decide +kernel
theorem d_M_bits_1 : decode b_M_bits 1 = .ok (.istore_n 1, 1) := by decide +kernel
theorem d_M_bits_2 : decode b_M_bits 2 = .ok (.iload_n 0, 1) := by decide +kernel
theorem d_M_bits_3 : decode b_M_bits 3 = .ok (.istore_n 2, 1) := by decide +kernel
theorem d_M_bits_4 : decode b_M_bits 4 = .ok (.iload_n 2, 1) := by decide +kernel
theorem d_M_bits_5 : decode b_M_bits 5 = .ok (.ifCond .eq 15, 3) := by decide +kernel
theorem d_M_bits_8 : decode b_M_bits 8 = .ok (.iinc 1 1, 3) := by decide +kernel
theorem d_M_bits_11 : decode b_M_bits 11 = .ok (.iload_n 2, 1) := by decide +kernel
theorem d_M_bits_12 : decode b_M_bits 12 = .ok (.iload_n 2, 1) := by decide +kernel
theorem d_M_bits_13 : decode b_M_bits 13 = .ok (.iconst 1, 1) := by decide +kernel
theorem d_M_bits_14 : decode b_M_bits 14 = .ok (.isub, 1) := by decide +kernel
theorem d_M_bits_15 : decode b_M_bits 15 = .ok (.iand, 1) := by decide +kernel
theorem d_M_bits_16 : decode b_M_bits 16 = .ok (.istore_n 2, 1) := by decide +kernel
theorem d_M_bits_17 : decode b_M_bits 17 = .ok (.goto (-13), 3) := by decide +kernel
theorem d_M_bits_20 : decode b_M_bits 20 = .ok (.iload_n 1, 1) := by decide +kernel
theorem d_M_bits_21 : decode b_M_bits 21 = .ok (.ireturn, 1) := by decide +kernel
theorem mo_M_bits : mok y_M_bits b_M_bits 3 (some .int) 1 := ⟨List.mem_of_getElem? (i := 1252) (by decide +kernel), ⟨by decide +kernel, by decide +kernel, by decide +kernel⟩, List.mem_of_getElem? (i := 86) (by decide +kernel), by decide⟩
set_option maxHeartbeats 4000000 in
theorem L_M_bits_4 {X : FX} {u : Un} (hA : Ap u) {Q : State → Prop} (F : Fr X u "TakerBookModel" b_M_bits 3) {σ : St} {z : Int32} {t : Nat} (k0 : ∀ (s : Nat) (c : Nat), c = t → V X u 0 3 Q 20 [(1, .int (nI c))] [] (σ)) : ∀ (nn : Nat) (s : Nat) (c : Nat), s < 64 → pcN s + c = t → s < nn → V X u 0 3 Q 4 [(0, .int z), (1, .int (nI c)), (2, .int (nI s))] [] (σ) := by
  intro nn
  induction nn with
  | zero =>
    intro s c hs hc h2
    exact absurd h2 (Nat.not_lt_zero _)
  | succ nn ih =>
    intro s c hs hc hm
    refine v_iload_n F d_M_bits_4 rfl 2 rfl ?_
    refine v_if_eq F 20 d_M_bits_5 rfl (fun h5 => ?_) (fun h5 => ?_)
    · skip
      have h5 : s = 0 := (nI_eq (a := s) (b := 0) (by omega) (by omega)).mp h5
      refine v_sub [1] (ls' := [(1, .int (nI c))]) rfl ?_
      exact k0 s c (pc0 (by omega) hc)
    · skip
      have h5 : ¬ s = 0 := fun q => h5 ((nI_eq (a := s) (b := 0) (by omega) (by omega)).mpr q)
      refine v_iinc (v := nI (c + 1)) (ls' := [(1, .int (nI (c + 1))), (0, .int z), (2, .int (nI s))]) F d_M_bits_8 (j := 1) rfl (nI_inc _) (by decide) rfl ?_
      refine v_iload_n F d_M_bits_11 rfl 2 rfl ?_
      refine v_iload_n F d_M_bits_12 rfl 2 rfl ?_
      refine v_iconst (v := 1) F d_M_bits_13 ki_1 ?_
      refine v_isub F d_M_bits_14 ?_
      refine v_iand F d_M_bits_15 ?_
      refine v_te (y := nI (s &&& (s - 1))) (bits_step (by omega)) ?_
      refine v_ni (fun x1 ex1 => ?_)
      refine v_istore_n (ls' := [(2, .int x1), (1, .int (nI (c + 1))), (0, .int z)]) F d_M_bits_16 rfl (by decide) rfl ?_
      refine v_goto F 4 d_M_bits_17 rfl ?_
      refine v_sub [2, 1, 0] (ls' := [(0, .int z), (1, .int (nI (c + 1))), (2, .int x1)]) rfl ?_
      have g2 : x1 = (nI (s &&& (s - 1))) := (by first | rfl | (simp_all; done) | grind)
      refine v_to (ls' := [(0, .int z), (1, .int (nI (c + 1))), (2, .int (nI (s &&& (s - 1))))]) (by first | rfl | rw [g2] | simp_all) ?_
      exact ih (s &&& (s - 1)) (c + 1) (by have := (pc_and s hs (by omega)).1; omega) (by have := (pc_and s hs (by omega)).2; omega) (by have := (pc_and s hs (by omega)).1; omega)
set_option maxHeartbeats 4000000 in
theorem c_M_bits (l : Launch) (u : Un) (hA : Ap u) (σ : St) (n : Nat) (hn : n < 64) : MTi l u y_M_bits b_M_bits 3 .int 0 [.int (nI n)] σ (fun ans σ' => nI (pcN n) = ans ∧ σ = σ') := by
  refine MT_of hA rfl (by decide) (Nat.le_of_ble_eq_true rfl) (fun X hl F hr => ?_)
  subst hl
  refine v_to (ls' := [(0, .int (nI n))]) rfl ?_
  refine v_iconst (v := 0) F d_M_bits_0 ki_0 ?_
  refine v_istore_n (ls' := [(1, .int 0), (0, .int (nI n))]) F d_M_bits_1 rfl (by decide) rfl ?_
  refine v_iload_n F d_M_bits_2 rfl 1 rfl ?_
  refine v_istore_n (ls' := [(2, .int (nI n)), (1, .int 0), (0, .int (nI n))]) F d_M_bits_3 rfl (by decide) rfl ?_
  refine v_sub [2, 1, 0] (ls' := [(0, .int (nI n)), (1, .int (nI 0)), (2, .int (nI n))]) rfl ?_
  refine L_M_bits_4 (t := pcN n) hA F (fun s c hct => ?_) _ n 0 hn (by omega) (Nat.lt_succ_self _)
  subst hct
  refine v_iload_n F d_M_bits_20 rfl 0 rfl ?_
  refine v_iret F hr rfl d_M_bits_21 ?_
  exact ⟨rfl, rfl⟩
