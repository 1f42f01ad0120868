theorem kb_9 : (Int8.ofInt 9).toInt32 = (9 : Int32) := by decide
theorem st_T_339 : siteS "TakerBook" 339 ⟨"TakerBook", "areTriples", "([II)Z"⟩ := ⟨List.mem_of_getElem? (i := 848) (by decide +kernel), List.mem_of_getElem? (i := 849) (by decide +kernel)⟩
theorem st_T_363 : siteV "TakerBook" 363 ⟨"TakerBook$Band", "others", "(II)I"⟩ := ⟨List.mem_of_getElem? (i := 855) (by decide +kernel), List.mem_of_getElem? (i := 552) (by decide +kernel), List.mem_of_getElem? (i := 553) (by decide +kernel)⟩
abbrev b_T_areTriples : ByteArray := prog_1_method_59_code
abbrev y_T_areTriples : MethodName := ⟨"TakerBook", "areTriples", "([II)Z"⟩
theorem d_T_areTriples_0 : decode b_T_areTriples 0 = .ok (.iconst 0, 1) := by decide +kernel
theorem d_T_areTriples_1 : decode b_T_areTriples 1 = .ok (.istore_n 2, 1) := by decide +kernel
theorem d_T_areTriples_2 : decode b_T_areTriples 2 = .ok (.iload_n 2, 1) := by decide +kernel
theorem d_T_areTriples_3 : decode b_T_areTriples 3 = .ok (.iconst 2, 1) := by decide +kernel
theorem d_T_areTriples_4 : decode b_T_areTriples 4 = .ok (.iadd, 1) := by decide +kernel
theorem d_T_areTriples_5 : decode b_T_areTriples 5 = .ok (.iload_n 1, 1) := by decide +kernel
theorem d_T_areTriples_6 : decode b_T_areTriples 6 = .ok (.if_icmp .ge 59, 3) := by decide +kernel
theorem d_T_areTriples_9 : decode b_T_areTriples 9 = .ok (.aload_n 0, 1) := by decide +kernel
theorem d_T_areTriples_10 : decode b_T_areTriples 10 = .ok (.iload_n 2, 1) := by decide +kernel
theorem d_T_areTriples_11 : decode b_T_areTriples 11 = .ok (.iaload, 1) := by decide +kernel
theorem d_T_areTriples_12 : decode b_T_areTriples 12 = .ok (.ifCond .lt 45, 3) := by decide +kernel
theorem d_T_areTriples_15 : decode b_T_areTriples 15 = .ok (.aload_n 0, 1) := by decide +kernel
theorem d_T_areTriples_16 : decode b_T_areTriples 16 = .ok (.iload_n 2, 1) := by decide +kernel
theorem d_T_areTriples_17 : decode b_T_areTriples 17 = .ok (.iaload, 1) := by decide +kernel
theorem d_T_areTriples_18 : decode b_T_areTriples 18 = .ok (.bipush 9, 2) := by decide +kernel
theorem d_T_areTriples_20 : decode b_T_areTriples 20 = .ok (.if_icmp .gt 37, 3) := by decide +kernel
theorem d_T_areTriples_23 : decode b_T_areTriples 23 = .ok (.aload_n 0, 1) := by decide +kernel
theorem d_T_areTriples_24 : decode b_T_areTriples 24 = .ok (.iload_n 2, 1) := by decide +kernel
theorem d_T_areTriples_25 : decode b_T_areTriples 25 = .ok (.iconst 1, 1) := by decide +kernel
theorem d_T_areTriples_26 : decode b_T_areTriples 26 = .ok (.iadd, 1) := by decide +kernel
theorem d_T_areTriples_27 : decode b_T_areTriples 27 = .ok (.iaload, 1) := by decide +kernel
theorem d_T_areTriples_28 : decode b_T_areTriples 28 = .ok (.ifCond .lt 29, 3) := by decide +kernel
theorem d_T_areTriples_31 : decode b_T_areTriples 31 = .ok (.aload_n 0, 1) := by decide +kernel
theorem d_T_areTriples_32 : decode b_T_areTriples 32 = .ok (.iload_n 2, 1) := by decide +kernel
theorem d_T_areTriples_33 : decode b_T_areTriples 33 = .ok (.iconst 1, 1) := by decide +kernel
theorem d_T_areTriples_34 : decode b_T_areTriples 34 = .ok (.iadd, 1) := by decide +kernel
theorem d_T_areTriples_35 : decode b_T_areTriples 35 = .ok (.iaload, 1) := by decide +kernel
theorem d_T_areTriples_36 : decode b_T_areTriples 36 = .ok (.iconst 2, 1) := by decide +kernel
theorem d_T_areTriples_37 : decode b_T_areTriples 37 = .ok (.if_icmp .gt 20, 3) := by decide +kernel
theorem d_T_areTriples_40 : decode b_T_areTriples 40 = .ok (.aload_n 0, 1) := by decide +kernel
theorem d_T_areTriples_41 : decode b_T_areTriples 41 = .ok (.iload_n 2, 1) := by decide +kernel
theorem d_T_areTriples_42 : decode b_T_areTriples 42 = .ok (.iconst 2, 1) := by decide +kernel
theorem d_T_areTriples_43 : decode b_T_areTriples 43 = .ok (.iadd, 1) := by decide +kernel
theorem d_T_areTriples_44 : decode b_T_areTriples 44 = .ok (.iaload, 1) := by decide +kernel
theorem d_T_areTriples_45 : decode b_T_areTriples 45 = .ok (.ifCond .lt 12, 3) := by decide +kernel
theorem d_T_areTriples_48 : decode b_T_areTriples 48 = .ok (.aload_n 0, 1) := by decide +kernel
theorem d_T_areTriples_49 : decode b_T_areTriples 49 = .ok (.iload_n 2, 1) := by decide +kernel
theorem d_T_areTriples_50 : decode b_T_areTriples 50 = .ok (.iconst 2, 1) := by decide +kernel
theorem d_T_areTriples_51 : decode b_T_areTriples 51 = .ok (.iadd, 1) := by decide +kernel
theorem d_T_areTriples_52 : decode b_T_areTriples 52 = .ok (.iaload, 1) := by decide +kernel
theorem d_T_areTriples_53 : decode b_T_areTriples 53 = .ok (.iconst 1, 1) := by decide +kernel
theorem d_T_areTriples_54 : decode b_T_areTriples 54 = .ok (.if_icmp .le 5, 3) := by decide +kernel
theorem d_T_areTriples_57 : decode b_T_areTriples 57 = .ok (.iconst 0, 1) := by decide +kernel
theorem d_T_areTriples_58 : decode b_T_areTriples 58 = .ok (.ireturn, 1) := by decide +kernel
theorem d_T_areTriples_59 : decode b_T_areTriples 59 = .ok (.iinc 2 3, 3) := by decide +kernel
theorem d_T_areTriples_62 : decode b_T_areTriples 62 = .ok (.goto (-60), 3) := by decide +kernel
theorem d_T_areTriples_65 : decode b_T_areTriples 65 = .ok (.iconst 1, 1) := by decide +kernel
theorem d_T_areTriples_66 : decode b_T_areTriples 66 = .ok (.ireturn, 1) := by decide +kernel
theorem mo_T_areTriples : mok y_T_areTriples b_T_areTriples 3 (some .boolean) 2 := ⟨List.mem_of_getElem? (i := 850) (by decide +kernel), ⟨by decide +kernel, by decide +kernel, by decide +kernel⟩, List.mem_of_getElem? (i := 74) (by decide +kernel), by decide⟩
set_option maxHeartbeats 4000000 in
theorem L_T_areTriples_2 {X : FX} {u : Un} (hA : Ap u) {Q : State → Prop} (F : Fr X u "TakerBook" b_T_areTriples 3) {σ : St} {a N : Nat} (ha : a < 6) (hN : N ≤ 40) (k0 : ∀ (t : Nat), ¬ allB (triB σ (2 + a)) (N / 3) = true → V X u 0 3 Q 57 [(0, .ref (u.2.1 (2 + a))), (1, .int (nI N)), (2, .int (nI (3 * t)))] [] (σ)) (k1 : ∀ (t : Nat), allB (triB σ (2 + a)) (N / 3) = true → V X u 0 3 Q 65 [(0, .ref (u.2.1 (2 + a))), (1, .int (nI N)), (2, .int (nI (3 * t)))] [] (σ)) : ∀ (nn : Nat) (t : Nat), t ≤ N / 3 → allB (triB σ (2 + a)) t = true → N / 3 - t < nn → V X u 0 3 Q 2 [(0, .ref (u.2.1 (2 + a))), (1, .int (nI N)), (2, .int (nI (3 * t)))] [] (σ) := by
  intro nn
  induction nn with
  | zero =>
    intro t ht hal h2
    exact absurd h2 (Nat.not_lt_zero _)
  | succ nn ih =>
    intro t ht hal hm
    refine v_iload_n F d_T_areTriples_2 rfl 2 rfl ?_
    refine v_iconst (v := 2) F d_T_areTriples_3 ki_2 ?_
    refine v_iadd F d_T_areTriples_4 ?_
    refine v_te (y := nI (3 * t + 2)) (nI_add _ _) ?_
    refine v_iload_n F d_T_areTriples_5 rfl 1 rfl ?_
    refine v_icmp_ge F 65 d_T_areTriples_6 rfl (fun h6 => ?_) (fun h6 => ?_)
    · skip
      have h6 : N ≤ 3 * t + 2 := (nI_leI (a := N) (b := 3 * t + 2) (by omega) (by omega)).mp h6
      exact k1 t (by have e : t = N / 3 := (by omega); rw [← e]; exact hal)
    · skip
      have h6 : ¬ N ≤ 3 * t + 2 := fun q => h6 ((nI_leI (a := N) (b := 3 * t + 2) (by omega) (by omega)).mpr q)
      refine v_aload_n F d_T_areTriples_9 rfl 0 rfl ?_
      refine v_iload_n F d_T_areTriples_10 rfl 2 rfl ?_
      refine v_ial F (3 * t) (gam_row _ ha) rfl (by omega) d_T_areTriples_11 ?_
      refine v_if_lt F 57 d_T_areTriples_12 rfl (fun h12 => ?_) (fun h12 => ?_)
      · skip
        exact k0 t (allB_no (t := t) (by omega) (fun q => by rw [triB_t] at q; obtain ⟨q1, q2, q3, q4, q5, q6⟩ := q; first | exact absurd q1 (lt_le_i (by assumption)) | exact absurd q3 (lt_le_i (by assumption)) | exact absurd q5 (lt_le_i (by assumption)) | exact absurd q2 (lt_le_i (by assumption)) | exact absurd q4 (lt_le_i (by assumption)) | exact q6 (by assumption) | exact absurd q6 (by assumption) | exact absurd q6 (lt_le_i (by assumption))))
      · skip
        refine v_aload_n F d_T_areTriples_15 rfl 0 rfl ?_
        refine v_iload_n F d_T_areTriples_16 rfl 2 rfl ?_
        refine v_ial F (3 * t) (gam_row _ ha) rfl (by omega) d_T_areTriples_17 ?_
        refine v_bipush (v := 9) F d_T_areTriples_18 kb_9 ?_
        refine v_icmp_gt F 57 d_T_areTriples_20 rfl (fun h20 => ?_) (fun h20 => ?_)
        · skip
          exact k0 t (allB_no (t := t) (by omega) (fun q => by rw [triB_t] at q; obtain ⟨q1, q2, q3, q4, q5, q6⟩ := q; first | exact absurd q1 (lt_le_i (by assumption)) | exact absurd q3 (lt_le_i (by assumption)) | exact absurd q5 (lt_le_i (by assumption)) | exact absurd q2 (lt_le_i (by assumption)) | exact absurd q4 (lt_le_i (by assumption)) | exact q6 (by assumption) | exact absurd q6 (by assumption) | exact absurd q6 (lt_le_i (by assumption))))
        · skip
          refine v_aload_n F d_T_areTriples_23 rfl 0 rfl ?_
          refine v_iload_n F d_T_areTriples_24 rfl 2 rfl ?_
          refine v_iconst (v := 1) F d_T_areTriples_25 ki_1 ?_
          refine v_iadd F d_T_areTriples_26 ?_
          refine v_te (y := nI (3 * t + 1)) (nI_add _ _) ?_
          refine v_ial F (3 * t + 1) (gam_row _ ha) rfl (by omega) d_T_areTriples_27 ?_
          refine v_if_lt F 57 d_T_areTriples_28 rfl (fun h28 => ?_) (fun h28 => ?_)
          · skip
            exact k0 t (allB_no (t := t) (by omega) (fun q => by rw [triB_t] at q; obtain ⟨q1, q2, q3, q4, q5, q6⟩ := q; first | exact absurd q1 (lt_le_i (by assumption)) | exact absurd q3 (lt_le_i (by assumption)) | exact absurd q5 (lt_le_i (by assumption)) | exact absurd q2 (lt_le_i (by assumption)) | exact absurd q4 (lt_le_i (by assumption)) | exact q6 (by assumption) | exact absurd q6 (by assumption) | exact absurd q6 (lt_le_i (by assumption))))
          · skip
            refine v_aload_n F d_T_areTriples_31 rfl 0 rfl ?_
            refine v_iload_n F d_T_areTriples_32 rfl 2 rfl ?_
            refine v_iconst (v := 1) F d_T_areTriples_33 ki_1 ?_
            refine v_iadd F d_T_areTriples_34 ?_
            refine v_te (y := nI (3 * t + 1)) (nI_add _ _) ?_
            refine v_ial F (3 * t + 1) (gam_row _ ha) rfl (by omega) d_T_areTriples_35 ?_
            refine v_iconst (v := 2) F d_T_areTriples_36 ki_2 ?_
            refine v_icmp_gt F 57 d_T_areTriples_37 rfl (fun h37 => ?_) (fun h37 => ?_)
            · skip
              exact k0 t (allB_no (t := t) (by omega) (fun q => by rw [triB_t] at q; obtain ⟨q1, q2, q3, q4, q5, q6⟩ := q; first | exact absurd q1 (lt_le_i (by assumption)) | exact absurd q3 (lt_le_i (by assumption)) | exact absurd q5 (lt_le_i (by assumption)) | exact absurd q2 (lt_le_i (by assumption)) | exact absurd q4 (lt_le_i (by assumption)) | exact q6 (by assumption) | exact absurd q6 (by assumption) | exact absurd q6 (lt_le_i (by assumption))))
            · skip
              refine v_aload_n F d_T_areTriples_40 rfl 0 rfl ?_
              refine v_iload_n F d_T_areTriples_41 rfl 2 rfl ?_
              refine v_iconst (v := 2) F d_T_areTriples_42 ki_2 ?_
              refine v_iadd F d_T_areTriples_43 ?_
              refine v_te (y := nI (3 * t + 2)) (nI_add _ _) ?_
              refine v_ial F (3 * t + 2) (gam_row _ ha) rfl (by omega) d_T_areTriples_44 ?_
              refine v_if_lt F 57 d_T_areTriples_45 rfl (fun h45 => ?_) (fun h45 => ?_)
              · skip
                exact k0 t (allB_no (t := t) (by omega) (fun q => by rw [triB_t] at q; obtain ⟨q1, q2, q3, q4, q5, q6⟩ := q; first | exact absurd q1 (lt_le_i (by assumption)) | exact absurd q3 (lt_le_i (by assumption)) | exact absurd q5 (lt_le_i (by assumption)) | exact absurd q2 (lt_le_i (by assumption)) | exact absurd q4 (lt_le_i (by assumption)) | exact q6 (by assumption) | exact absurd q6 (by assumption) | exact absurd q6 (lt_le_i (by assumption))))
              · skip
                refine v_aload_n F d_T_areTriples_48 rfl 0 rfl ?_
                refine v_iload_n F d_T_areTriples_49 rfl 2 rfl ?_
                refine v_iconst (v := 2) F d_T_areTriples_50 ki_2 ?_
                refine v_iadd F d_T_areTriples_51 ?_
                refine v_te (y := nI (3 * t + 2)) (nI_add _ _) ?_
                refine v_ial F (3 * t + 2) (gam_row _ ha) rfl (by omega) d_T_areTriples_52 ?_
                refine v_iconst (v := 1) F d_T_areTriples_53 ki_1 ?_
                refine v_icmp_le F 59 d_T_areTriples_54 rfl (fun h54 => ?_) (fun h54 => ?_)
                · skip
                  refine v_iinc (v := nI (3 * t + 3)) (ls' := [(2, .int (nI (3 * t + 3))), (0, .ref (u.2.1 (2 + a))), (1, .int (nI N))]) F d_T_areTriples_59 (j := 2) rfl (nI_inc3 _) (by decide) rfl ?_
                  refine v_goto F 2 d_T_areTriples_62 rfl ?_
                  refine v_sub [1, 2, 0] (ls' := [(0, .ref (u.2.1 (2 + a))), (1, .int (nI N)), (2, .int (nI (3 * t + 3)))]) rfl ?_
                  have g1 : (nI (3 * t + 3)) = (nI (3 * (t + 1))) := (by first | rfl | (simp_all; done) | grind)
                  refine v_to (ls' := [(0, .ref (u.2.1 (2 + a))), (1, .int (nI N)), (2, .int (nI (3 * (t + 1))))]) (by first | rfl | rw [g1] | simp_all) ?_
                  exact ih (t + 1) (by omega) (allB_s hal (triB_t.mpr ⟨i_nlt.mp h12, i_nlt.mp h20, i_nlt.mp h28, i_nlt.mp h37, i_nlt.mp h45, h54⟩)) (by omega)
                · skip
                  exact k0 t (allB_no (t := t) (by omega) (fun q => by rw [triB_t] at q; obtain ⟨q1, q2, q3, q4, q5, q6⟩ := q; first | exact absurd q1 (lt_le_i (by assumption)) | exact absurd q3 (lt_le_i (by assumption)) | exact absurd q5 (lt_le_i (by assumption)) | exact absurd q2 (lt_le_i (by assumption)) | exact absurd q4 (lt_le_i (by assumption)) | exact q6 (by assumption) | exact absurd q6 (by assumption) | exact absurd q6 (lt_le_i (by assumption))))
set_option maxHeartbeats 4000000 in
theorem c_T_areTriples (l : Launch) (u : Un) (hA : Ap u) (σ : St) (a N : Nat) (ha : a < 6) (hN : N ≤ 40) : MTi l u y_T_areTriples b_T_areTriples 3 .boolean 0 [.ref (u.2.1 (2 + a)), .int (nI N)] σ (fun ans σ' => bI (allB (triB σ (2 + a)) (N / 3) = true) = ans ∧ σ = σ') := by
  refine MT_of hA rfl (by decide) (Nat.le_of_ble_eq_true rfl) (fun X hl F hr => ?_)
  subst hl
  refine v_to (ls' := [(0, .ref (u.2.1 (2 + a))), (1, .int (nI N))]) rfl ?_
  refine v_iconst (v := 0) F d_T_areTriples_0 ki_0 ?_
  refine v_istore_n (ls' := [(2, .int 0), (0, .ref (u.2.1 (2 + a))), (1, .int (nI N))]) F d_T_areTriples_1 rfl (by decide) rfl ?_
  refine v_sub [1, 2, 0] (ls' := [(0, .ref (u.2.1 (2 + a))), (1, .int (nI N)), (2, .int 0)]) rfl ?_
  have g1 : 0 = (nI (3 * 0)) := (by first | rfl | (simp_all; done) | grind)
  refine v_to (ls' := [(0, .ref (u.2.1 (2 + a))), (1, .int (nI N)), (2, .int (nI (3 * 0)))]) (by first | rfl | rw [g1] | simp_all) ?_
  refine L_T_areTriples_2 hA F ha hN (fun t hno => ?_) (fun t hyes => ?_) _ 0 (Nat.zero_le _) rfl (Nat.lt_succ_self _)
  · skip
    refine v_iconst (v := 0) F d_T_areTriples_57 ki_0 ?_
    refine v_iret F hr rfl d_T_areTriples_58 ?_
    exact ⟨bI_f hno, rfl⟩
  · skip
    refine v_iconst (v := 1) F d_T_areTriples_65 ki_1 ?_
    refine v_iret F hr rfl d_T_areTriples_66 ?_
    exact ⟨bI_t hyes, rfl⟩
abbrev b_T_refusedTriples : ByteArray := prog_1_method_51_code
abbrev y_T_refusedTriples : MethodName := ⟨"TakerBook", "refusedTriples", "(II)I"⟩
theorem d_T_refusedTriples_0 : decode b_T_refusedTriples 0 = .ok (.aload_n 0, 1) := by decide +kernel
theorem d_T_refusedTriples_1 : decode b_T_refusedTriples 1 = .ok (.getfield 36, 3) := by decide +kernel
theorem d_T_refusedTriples_4 : decode b_T_refusedTriples 4 = .ok (.iload_n 1, 1) := by decide +kernel
theorem d_T_refusedTriples_5 : decode b_T_refusedTriples 5 = .ok (.invokevirtual 121, 3) := by decide +kernel
theorem d_T_refusedTriples_8 : decode b_T_refusedTriples 8 = .ok (.ifCond .eq 10, 3) := by decide +kernel
theorem d_T_refusedTriples_11 : decode b_T_refusedTriples 11 = .ok (.iload_n 2, 1) := by decide +kernel
theorem d_T_refusedTriples_12 : decode b_T_refusedTriples 12 = .ok (.invokestatic 76, 3) := by decide +kernel
theorem d_T_refusedTriples_15 : decode b_T_refusedTriples 15 = .ok (.ifCond .ne 5, 3) := by decide +kernel
theorem d_T_refusedTriples_18 : decode b_T_refusedTriples 18 = .ok (.iconst (-1), 1) := by decide +kernel
theorem d_T_refusedTriples_19 : decode b_T_refusedTriples 19 = .ok (.ireturn, 1) := by decide +kernel
theorem d_T_refusedTriples_20 : decode b_T_refusedTriples 20 = .ok (.aload_n 0, 1) := by decide +kernel
theorem d_T_refusedTriples_21 : decode b_T_refusedTriples 21 = .ok (.getfield 14, 3) := by decide +kernel
theorem d_T_refusedTriples_24 : decode b_T_refusedTriples 24 = .ok (.iload_n 2, 1) := by decide +kernel
theorem d_T_refusedTriples_25 : decode b_T_refusedTriples 25 = .ok (.iaload, 1) := by decide +kernel
theorem d_T_refusedTriples_26 : decode b_T_refusedTriples 26 = .ok (.ifCond .ge 9, 3) := by decide +kernel
theorem d_T_refusedTriples_29 : decode b_T_refusedTriples 29 = .ok (.aload_n 0, 1) := by decide +kernel
theorem d_T_refusedTriples_30 : decode b_T_refusedTriples 30 = .ok (.iconst 1, 1) := by decide +kernel
theorem d_T_refusedTriples_31 : decode b_T_refusedTriples 31 = .ok (.invokevirtual 80, 3) := by decide +kernel
theorem d_T_refusedTriples_34 : decode b_T_refusedTriples 34 = .ok (.ireturn, 1) := by decide +kernel
theorem d_T_refusedTriples_35 : decode b_T_refusedTriples 35 = .ok (.aload_n 0, 1) := by decide +kernel
theorem d_T_refusedTriples_36 : decode b_T_refusedTriples 36 = .ok (.getfield 14, 3) := by decide +kernel
theorem d_T_refusedTriples_39 : decode b_T_refusedTriples 39 = .ok (.iload_n 2, 1) := by decide +kernel
theorem d_T_refusedTriples_40 : decode b_T_refusedTriples 40 = .ok (.iaload, 1) := by decide +kernel
theorem d_T_refusedTriples_41 : decode b_T_refusedTriples 41 = .ok (.iconst 3, 1) := by decide +kernel
theorem d_T_refusedTriples_42 : decode b_T_refusedTriples 42 = .ok (.irem, 1) := by decide +kernel
theorem d_T_refusedTriples_43 : decode b_T_refusedTriples 43 = .ok (.ifCond .eq 9, 3) := by decide +kernel
theorem d_T_refusedTriples_46 : decode b_T_refusedTriples 46 = .ok (.aload_n 0, 1) := by decide +kernel
theorem d_T_refusedTriples_47 : decode b_T_refusedTriples 47 = .ok (.iconst 5, 1) := by decide +kernel
theorem d_T_refusedTriples_48 : decode b_T_refusedTriples 48 = .ok (.invokevirtual 80, 3) := by decide +kernel
theorem d_T_refusedTriples_51 : decode b_T_refusedTriples 51 = .ok (.ireturn, 1) := by decide +kernel
theorem d_T_refusedTriples_52 : decode b_T_refusedTriples 52 = .ok (.aload_n 0, 1) := by decide +kernel
theorem d_T_refusedTriples_53 : decode b_T_refusedTriples 53 = .ok (.getfield 11, 3) := by decide +kernel
theorem d_T_refusedTriples_56 : decode b_T_refusedTriples 56 = .ok (.iload_n 2, 1) := by decide +kernel
theorem d_T_refusedTriples_57 : decode b_T_refusedTriples 57 = .ok (.aaload, 1) := by decide +kernel
theorem d_T_refusedTriples_58 : decode b_T_refusedTriples 58 = .ok (.aload_n 0, 1) := by decide +kernel
theorem d_T_refusedTriples_59 : decode b_T_refusedTriples 59 = .ok (.getfield 14, 3) := by decide +kernel
theorem d_T_refusedTriples_62 : decode b_T_refusedTriples 62 = .ok (.iload_n 2, 1) := by decide +kernel
theorem d_T_refusedTriples_63 : decode b_T_refusedTriples 63 = .ok (.iaload, 1) := by decide +kernel
theorem d_T_refusedTriples_64 : decode b_T_refusedTriples 64 = .ok (.invokestatic 339, 3) := by decide +kernel
theorem d_T_refusedTriples_67 : decode b_T_refusedTriples 67 = .ok (.ifCond .eq 7, 3) := by decide +kernel
theorem d_T_refusedTriples_70 : decode b_T_refusedTriples 70 = .ok (.iconst 0, 1) := by decide +kernel
theorem d_T_refusedTriples_71 : decode b_T_refusedTriples 71 = .ok (.goto 8, 3) := by decide +kernel
theorem d_T_refusedTriples_74 : decode b_T_refusedTriples 74 = .ok (.aload_n 0, 1) := by decide +kernel
theorem d_T_refusedTriples_75 : decode b_T_refusedTriples 75 = .ok (.iconst 3, 1) := by decide +kernel
theorem d_T_refusedTriples_76 : decode b_T_refusedTriples 76 = .ok (.invokevirtual 80, 3) := by decide +kernel
theorem d_T_refusedTriples_79 : decode b_T_refusedTriples 79 = .ok (.ireturn, 1) := by decide +kernel
theorem mo_T_refusedTriples : mok y_T_refusedTriples b_T_refusedTriples 3 (some .int) 2 := ⟨List.mem_of_getElem? (i := 847) (by decide +kernel), ⟨by decide +kernel, by decide +kernel, by decide +kernel⟩, List.mem_of_getElem? (i := 74) (by decide +kernel), by decide⟩
set_option maxHeartbeats 4000000 in
theorem c_T_refusedTriples (l : Launch) (u : Un) (hA : Ap u) (σ : St) (i r : Int32) (hI : rowsOk σ) : MTi l u y_T_refusedTriples b_T_refusedTriples 3 .int 2 [.ref (u.2.1 0), .int i, .int r] σ (fun x σ' => (¬ ((0 ≤ i ∧ i < σ.1 19 8) ∧ inR r 6) ∧ -1 = x ∧ σ = σ') ∨ (((0 ≤ i ∧ i < σ.1 19 8) ∧ inR r 6) ∧ ((σ.1 8 (ix r) < 0 ∧ -3 = x ∧ σ' = tRef σ 1) ∨ (0 ≤ σ.1 8 (ix r) ∧ ¬ rdS σ (ix r) % 3 = 0 ∧ -3 = x ∧ σ' = tRef σ 5) ∨ (0 ≤ σ.1 8 (ix r) ∧ rdS σ (ix r) % 3 = 0 ∧ allB (triB σ (2 + ix r)) (rdS σ (ix r) / 3) = true ∧ 0 = x ∧ σ = σ') ∨ (0 ≤ σ.1 8 (ix r) ∧ rdS σ (ix r) % 3 = 0 ∧ ¬ allB (triB σ (2 + ix r)) (rdS σ (ix r) / 3) = true ∧ -3 = x ∧ σ' = tRef σ 3)))) := by
  refine MT_of hA rfl (by decide) (Nat.le_of_ble_eq_true rfl) (fun X hl F hr => ?_)
  subst hl
  refine v_to (ls' := [(0, .ref (u.2.1 0)), (1, .int i), (2, .int r)]) rfl ?_
  refine v_aload_n F d_T_refusedTriples_0 rfl 0 rfl ?_
  refine v_getr (r := 19) F fk_T_36 G0 rfl d_T_refusedTriples_1 ?_
  refine v_iload_n F d_T_refusedTriples_4 rfl 1 rfl ?_
  refine v_runi (r_V F (c_B_has X.2.1 u hA σ i ) mo_B_has st_T_121 rc_19 (by decide) rfl (Nat.le_of_ble_eq_true rfl) d_T_refusedTriples_5) (fun r1 σ2 q3 => ?_)
  obtain ⟨rfl, rfl⟩ := q3
  refine v_bt F 18 d_T_refusedTriples_8 rfl (fun h8 => ?_) (fun h8 => ?_)
  · skip
    refine v_iconst (v := (-1)) F d_T_refusedTriples_18 ki_m1 ?_
    refine v_iret F hr rfl d_T_refusedTriples_19 ?_
    exact Or.inl ⟨by first | exact fun q => h8 q.1 | exact fun q => h15 q.2, rfl, rfl⟩
  · skip
    refine v_iload_n F d_T_refusedTriples_11 rfl 2 rfl ?_
    refine v_runi (r_S F (c_T_isRow X.2.1 u hA σ r ) mo_T_isRow st_T_76 (by decide) rfl (Nat.le_of_ble_eq_true rfl) d_T_refusedTriples_12) (fun r4 σ5 q6 => ?_)
    obtain ⟨rfl, rfl⟩ := q6
    refine v_bf F 20 d_T_refusedTriples_15 rfl (fun h15 => ?_) (fun h15 => ?_)
    · skip
      obtain ⟨a, ha, xa, rfl⟩ := inR_nat (N := 6) h15 rfl (by decide)
      refine v_aload_n F d_T_refusedTriples_20 rfl 0 rfl ?_
      refine v_getr (r := 8) F fk_T_14 G0 rfl d_T_refusedTriples_21 ?_
      refine v_iload_n F d_T_refusedTriples_24 rfl 2 rfl ?_
      refine v_ial F a G8 rfl (by omega) d_T_refusedTriples_25 ?_
      refine v_if_ge F 35 d_T_refusedTriples_26 rfl (fun h26 => ?_) (fun h26 => ?_)
      · skip
        obtain ⟨N, hN, xN, eN⟩ := nat_of (M := 40) h26 (hI _ ha) rfl (by decide)
        have eR : rdS σ a = N := by unfold rdS; rw [eN]; exact ix_nI (by omega)
        refine v_aload_n F d_T_refusedTriples_35 rfl 0 rfl ?_
        refine v_getr (r := 8) F fk_T_14 G0 rfl d_T_refusedTriples_36 ?_
        refine v_iload_n F d_T_refusedTriples_39 rfl 2 rfl ?_
        refine v_ial F a G8 rfl (by omega) d_T_refusedTriples_40 ?_
        refine v_te (y := nI N) eN ?_
        refine v_iconst (v := 3) F d_T_refusedTriples_41 ki_3 ?_
        refine v_irem F d_T_refusedTriples_42 (by decide) ?_
        refine v_te (y := nI (N % 3)) (rem3 hN) ?_
        refine v_if_eq F 52 d_T_refusedTriples_43 rfl (fun h43 => ?_) (fun h43 => ?_)
        · skip
          have h43 : N % 3 = 0 := (nI_eq (a := N % 3) (b := 0) (by omega) (by omega)).mp h43
          refine v_aload_n F d_T_refusedTriples_52 rfl 0 rfl ?_
          refine v_getr (r := 1) F fk_T_11 G0 rfl d_T_refusedTriples_53 ?_
          refine v_iload_n F d_T_refusedTriples_56 rfl 2 rfl ?_
          refine v_aal F a G1 rfl rfl (by omega) d_T_refusedTriples_57 ?_
          refine v_aload_n F d_T_refusedTriples_58 rfl 0 rfl ?_
          refine v_getr (r := 8) F fk_T_14 G0 rfl d_T_refusedTriples_59 ?_
          refine v_iload_n F d_T_refusedTriples_62 rfl 2 rfl ?_
          refine v_ial F a G8 rfl (by omega) d_T_refusedTriples_63 ?_
          refine v_te (y := nI N) eN ?_
          refine v_runi (r_S F (c_T_areTriples X.2.1 u hA σ a N ha (by omega)) mo_T_areTriples st_T_339 (by decide) rfl (Nat.le_of_ble_eq_true rfl) d_T_refusedTriples_64) (fun r7 σ8 q9 => ?_)
          obtain ⟨rfl, rfl⟩ := q9
          refine v_bt F 74 d_T_refusedTriples_67 rfl (fun h67 => ?_) (fun h67 => ?_)
          · skip
            refine v_aload_n F d_T_refusedTriples_74 rfl 0 rfl ?_
            refine v_iconst (v := 3) F d_T_refusedTriples_75 ki_3 ?_
            refine v_runi (r_V F (c_T_refuse X.2.1 u hA σ 3 (by decide)) mo_T_refuse st_T_80 rc_0 (by decide) rfl (Nat.le_of_ble_eq_true rfl) d_T_refusedTriples_76) (fun r10 σ11 q12 => ?_)
            obtain ⟨rfl, eσ11⟩ := q12
            refine v_iret F hr rfl d_T_refusedTriples_79 ?_
            refine Or.inr ⟨⟨h8, by assumption⟩, Or.inr (Or.inr ?_)⟩
            rw [xa, eR]
            exact Or.inr ⟨h26, h43, h67, rfl, by assumption⟩
          · skip
            refine v_iconst (v := 0) F d_T_refusedTriples_70 ki_0 ?_
            refine v_goto F 79 d_T_refusedTriples_71 rfl ?_
            refine v_iret F hr rfl d_T_refusedTriples_79 ?_
            refine Or.inr ⟨⟨h8, by assumption⟩, Or.inr (Or.inr ?_)⟩
            rw [xa, eR]
            exact Or.inl ⟨h26, h43, h67, rfl, rfl⟩
        · skip
          have h43 : ¬ N % 3 = 0 := fun q => h43 ((nI_eq (a := N % 3) (b := 0) (by omega) (by omega)).mpr q)
          refine v_aload_n F d_T_refusedTriples_46 rfl 0 rfl ?_
          refine v_iconst (v := 5) F d_T_refusedTriples_47 ki_5 ?_
          refine v_runi (r_V F (c_T_refuse X.2.1 u hA σ 5 (by decide)) mo_T_refuse st_T_80 rc_0 (by decide) rfl (Nat.le_of_ble_eq_true rfl) d_T_refusedTriples_48) (fun r13 σ14 q15 => ?_)
          obtain ⟨rfl, eσ14⟩ := q15
          refine v_iret F hr rfl d_T_refusedTriples_51 ?_
          exact Or.inr ⟨⟨h8, by assumption⟩, Or.inr (Or.inl ⟨by rw [xa]; exact h26, by rw [xa, eR]; exact h43, rfl, by assumption⟩)⟩
      · skip
        refine v_aload_n F d_T_refusedTriples_29 rfl 0 rfl ?_
        refine v_iconst (v := 1) F d_T_refusedTriples_30 ki_1 ?_
        refine v_runi (r_V F (c_T_refuse X.2.1 u hA σ 1 (by decide)) mo_T_refuse st_T_80 rc_0 (by decide) rfl (Nat.le_of_ble_eq_true rfl) d_T_refusedTriples_31) (fun r16 σ17 q18 => ?_)
        obtain ⟨rfl, eσ17⟩ := q18
        refine v_iret F hr rfl d_T_refusedTriples_34 ?_
        exact Or.inr ⟨⟨h8, by assumption⟩, Or.inl ⟨by rw [xa]; exact i_lt_le.mp h26, rfl, by assumption⟩⟩
    · skip
      refine v_iconst (v := (-1)) F d_T_refusedTriples_18 ki_m1 ?_
      refine v_iret F hr rfl d_T_refusedTriples_19 ?_
      exact Or.inl ⟨by first | exact fun q => h8 q.1 | exact fun q => h15 q.2, rfl, rfl⟩
abbrev b_T_spokeSo : ByteArray := prog_1_method_68_code
abbrev y_T_spokeSo : MethodName := ⟨"TakerBook", "spokeSo", "(IIII)Z"⟩
theorem d_T_spokeSo_0 : decode b_T_spokeSo 0 = .ok (.aload_n 0, 1) := by decide +kernel
theorem d_T_spokeSo_1 : decode b_T_spokeSo 1 = .ok (.getfield 36, 3) := by decide +kernel
theorem d_T_spokeSo_4 : decode b_T_spokeSo 4 = .ok (.iload_n 1, 1) := by decide +kernel
theorem d_T_spokeSo_5 : decode b_T_spokeSo 5 = .ok (.aload_n 0, 1) := by decide +kernel
theorem d_T_spokeSo_6 : decode b_T_spokeSo 6 = .ok (.getfield 36, 3) := by decide +kernel
theorem d_T_spokeSo_9 : decode b_T_spokeSo 9 = .ok (.getfield 166, 3) := by decide +kernel
theorem d_T_spokeSo_12 : decode b_T_spokeSo 12 = .ok (.invokevirtual 363, 3) := by decide +kernel
theorem d_T_spokeSo_15 : decode b_T_spokeSo 15 = .ok (.istore 5, 2) := by decide +kernel
theorem d_T_spokeSo_17 : decode b_T_spokeSo 17 = .ok (.iconst 0, 1) := by decide +kernel
theorem d_T_spokeSo_18 : decode b_T_spokeSo 18 = .ok (.istore 6, 2) := by decide +kernel
theorem d_T_spokeSo_20 : decode b_T_spokeSo 20 = .ok (.iload 6, 2) := by decide +kernel
theorem d_T_spokeSo_22 : decode b_T_spokeSo 22 = .ok (.iconst 2, 1) := by decide +kernel
theorem d_T_spokeSo_23 : decode b_T_spokeSo 23 = .ok (.iadd, 1) := by decide +kernel
theorem d_T_spokeSo_24 : decode b_T_spokeSo 24 = .ok (.aload_n 0, 1) := by decide +kernel
theorem d_T_spokeSo_25 : decode b_T_spokeSo 25 = .ok (.getfield 14, 3) := by decide +kernel
theorem d_T_spokeSo_28 : decode b_T_spokeSo 28 = .ok (.iload 4, 2) := by decide +kernel
theorem d_T_spokeSo_30 : decode b_T_spokeSo 30 = .ok (.iaload, 1) := by decide +kernel
theorem d_T_spokeSo_31 : decode b_T_spokeSo 31 = .ok (.if_icmp .ge 75, 3) := by decide +kernel
theorem d_T_spokeSo_34 : decode b_T_spokeSo 34 = .ok (.aload_n 0, 1) := by decide +kernel
theorem d_T_spokeSo_35 : decode b_T_spokeSo 35 = .ok (.getfield 11, 3) := by decide +kernel
theorem d_T_spokeSo_38 : decode b_T_spokeSo 38 = .ok (.iload 4, 2) := by decide +kernel
theorem d_T_spokeSo_40 : decode b_T_spokeSo 40 = .ok (.aaload, 1) := by decide +kernel
theorem d_T_spokeSo_41 : decode b_T_spokeSo 41 = .ok (.iload 6, 2) := by decide +kernel
theorem d_T_spokeSo_43 : decode b_T_spokeSo 43 = .ok (.iconst 2, 1) := by decide +kernel
theorem d_T_spokeSo_44 : decode b_T_spokeSo 44 = .ok (.iadd, 1) := by decide +kernel
theorem d_T_spokeSo_45 : decode b_T_spokeSo 45 = .ok (.iaload, 1) := by decide +kernel
theorem d_T_spokeSo_46 : decode b_T_spokeSo 46 = .ok (.iconst 1, 1) := by decide +kernel
theorem d_T_spokeSo_47 : decode b_T_spokeSo 47 = .ok (.if_icmp .ne 7, 3) := by decide +kernel
theorem d_T_spokeSo_50 : decode b_T_spokeSo 50 = .ok (.iconst 1, 1) := by decide +kernel
theorem d_T_spokeSo_51 : decode b_T_spokeSo 51 = .ok (.goto 4, 3) := by decide +kernel
theorem d_T_spokeSo_54 : decode b_T_spokeSo 54 = .ok (.iconst 0, 1) := by decide +kernel
theorem d_T_spokeSo_55 : decode b_T_spokeSo 55 = .ok (.istore 7, 2) := by decide +kernel
theorem d_T_spokeSo_57 : decode b_T_spokeSo 57 = .ok (.aload_n 0, 1) := by decide +kernel
theorem d_T_spokeSo_58 : decode b_T_spokeSo 58 = .ok (.getfield 36, 3) := by decide +kernel
theorem d_T_spokeSo_61 : decode b_T_spokeSo 61 = .ok (.iload_n 2, 1) := by decide +kernel
theorem d_T_spokeSo_62 : decode b_T_spokeSo 62 = .ok (.invokevirtual 130, 3) := by decide +kernel
theorem d_T_spokeSo_65 : decode b_T_spokeSo 65 = .ok (.iload_n 3, 1) := by decide +kernel
theorem d_T_spokeSo_66 : decode b_T_spokeSo 66 = .ok (.aload_n 0, 1) := by decide +kernel
theorem d_T_spokeSo_67 : decode b_T_spokeSo 67 = .ok (.getfield 11, 3) := by decide +kernel
theorem d_T_spokeSo_70 : decode b_T_spokeSo 70 = .ok (.iload 4, 2) := by decide +kernel
theorem d_T_spokeSo_72 : decode b_T_spokeSo 72 = .ok (.aaload, 1) := by decide +kernel
theorem d_T_spokeSo_73 : decode b_T_spokeSo 73 = .ok (.iload 6, 2) := by decide +kernel
theorem d_T_spokeSo_75 : decode b_T_spokeSo 75 = .ok (.iaload, 1) := by decide +kernel
theorem d_T_spokeSo_76 : decode b_T_spokeSo 76 = .ok (.aload_n 0, 1) := by decide +kernel
theorem d_T_spokeSo_77 : decode b_T_spokeSo 77 = .ok (.getfield 11, 3) := by decide +kernel
theorem d_T_spokeSo_80 : decode b_T_spokeSo 80 = .ok (.iload 4, 2) := by decide +kernel
theorem d_T_spokeSo_82 : decode b_T_spokeSo 82 = .ok (.aaload, 1) := by decide +kernel
theorem d_T_spokeSo_83 : decode b_T_spokeSo 83 = .ok (.iload 6, 2) := by decide +kernel
theorem d_T_spokeSo_85 : decode b_T_spokeSo 85 = .ok (.iconst 1, 1) := by decide +kernel
theorem d_T_spokeSo_86 : decode b_T_spokeSo 86 = .ok (.iadd, 1) := by decide +kernel
theorem d_T_spokeSo_87 : decode b_T_spokeSo 87 = .ok (.iaload, 1) := by decide +kernel
theorem d_T_spokeSo_88 : decode b_T_spokeSo 88 = .ok (.iload 5, 2) := by decide +kernel
theorem d_T_spokeSo_90 : decode b_T_spokeSo 90 = .ok (.invokevirtual 366, 3) := by decide +kernel
theorem d_T_spokeSo_93 : decode b_T_spokeSo 93 = .ok (.iload 7, 2) := by decide +kernel
theorem d_T_spokeSo_95 : decode b_T_spokeSo 95 = .ok (.if_icmp .eq 5, 3) := by decide +kernel
theorem d_T_spokeSo_98 : decode b_T_spokeSo 98 = .ok (.iconst 0, 1) := by decide +kernel
theorem d_T_spokeSo_99 : decode b_T_spokeSo 99 = .ok (.ireturn, 1) := by decide +kernel
theorem d_T_spokeSo_100 : decode b_T_spokeSo 100 = .ok (.iinc 6 3, 3) := by decide +kernel
theorem d_T_spokeSo_103 : decode b_T_spokeSo 103 = .ok (.goto (-83), 3) := by decide +kernel
theorem d_T_spokeSo_106 : decode b_T_spokeSo 106 = .ok (.iconst 1, 1) := by decide +kernel
theorem d_T_spokeSo_107 : decode b_T_spokeSo 107 = .ok (.ireturn, 1) := by decide +kernel
theorem mo_T_spokeSo : mok y_T_spokeSo b_T_spokeSo 8 (some .boolean) 4 := ⟨List.mem_of_getElem? (i := 854) (by decide +kernel), ⟨by decide +kernel, by decide +kernel, by decide +kernel⟩, List.mem_of_getElem? (i := 74) (by decide +kernel), by decide⟩
set_option maxHeartbeats 4000000 in
theorem L_T_spokeSo_20 {X : FX} {u : Un} (hA : Ap u) {Q : State → Prop} (F : Fr X u "TakerBook" b_T_spokeSo 8) {σ : St} {n G : Nat} {kd : Nat → Nat} (hb : bkOk σ n G kd) {L : Nat} (hL : σ.1 19 14 = nI L) (hL64 : L < 64) {a N kN i : Nat} {b : Int32} (ha : a < 6) (hN : N ≤ 40) (eN : σ.1 8 a = nI N) (hk : kN < 6) (k0 : ∀ (t : Nat), ¬ allB (spB σ (2 + a) kN b (nI (othN L G i))) (N / 3) = true → V X u 5 8 Q 98 [(0, .ref (u.2.1 0)), (1, .int (nI i)), (2, .int (nI kN)), (3, .int b), (4, .int (nI a)), (5, .int (nI (othN L G i))), (6, .int (nI (3 * t)))] [] (σ)) (k1 : ∀ (t : Nat), allB (spB σ (2 + a) kN b (nI (othN L G i))) (N / 3) = true → V X u 5 8 Q 106 [(0, .ref (u.2.1 0)), (1, .int (nI i)), (2, .int (nI kN)), (3, .int b), (4, .int (nI a)), (5, .int (nI (othN L G i))), (6, .int (nI (3 * t)))] [] (σ)) : ∀ (nn : Nat) (t : Nat), t ≤ N / 3 → allB (spB σ (2 + a) kN b (nI (othN L G i))) t = true → N / 3 - t < nn → V X u 5 8 Q 20 [(0, .ref (u.2.1 0)), (1, .int (nI i)), (2, .int (nI kN)), (3, .int b), (4, .int (nI a)), (5, .int (nI (othN L G i))), (6, .int (nI (3 * t)))] [] (σ) := by
  intro nn
  induction nn with
  | zero =>
    intro t ht hal h2
    exact absurd h2 (Nat.not_lt_zero _)
  | succ nn ih =>
    intro t ht hal hm
    refine v_iload F d_T_spokeSo_20 6 rfl ?_
    refine v_iconst (v := 2) F d_T_spokeSo_22 ki_2 ?_
    refine v_iadd F d_T_spokeSo_23 ?_
    refine v_te (y := nI (3 * t + 2)) (nI_add _ _) ?_
    refine v_aload_n F d_T_spokeSo_24 rfl 0 rfl ?_
    refine v_getr (r := 8) F fk_T_14 G0 rfl d_T_spokeSo_25 ?_
    refine v_iload F d_T_spokeSo_28 4 rfl ?_
    refine v_ial F a G8 rfl (by omega) d_T_spokeSo_30 ?_
    refine v_te (y := nI N) eN ?_
    refine v_icmp_ge F 106 d_T_spokeSo_31 rfl (fun h31 => ?_) (fun h31 => ?_)
    · skip
      have h31 : N ≤ 3 * t + 2 := (nI_leI (a := N) (b := 3 * t + 2) (by omega) (by omega)).mp h31
      exact k1 t (by have e : t = N / 3 := (by omega); rw [← e]; exact hal)
    · skip
      have h31 : ¬ N ≤ 3 * t + 2 := fun q => h31 ((nI_leI (a := N) (b := 3 * t + 2) (by omega) (by omega)).mpr q)
      refine v_aload_n F d_T_spokeSo_34 rfl 0 rfl ?_
      refine v_getr (r := 1) F fk_T_11 G0 rfl d_T_spokeSo_35 ?_
      refine v_iload F d_T_spokeSo_38 4 rfl ?_
      refine v_aal F a G1 rfl rfl ha d_T_spokeSo_40 ?_
      refine v_iload F d_T_spokeSo_41 6 rfl ?_
      refine v_iconst (v := 2) F d_T_spokeSo_43 ki_2 ?_
      refine v_iadd F d_T_spokeSo_44 ?_
      refine v_te (y := nI (3 * t + 2)) (nI_add _ _) ?_
      refine v_ial F (3 * t + 2) (gam_row _ ha) rfl (by omega) d_T_spokeSo_45 ?_
      refine v_iconst (v := 1) F d_T_spokeSo_46 ki_1 ?_
      refine v_icmp_ne F 54 d_T_spokeSo_47 rfl (fun h47 => ?_) (fun h47 => ?_)
      · skip
        refine v_iconst (v := 0) F d_T_spokeSo_54 ki_0 ?_
        refine v_istore (ls' := [(7, .int 0), (0, .ref (u.2.1 0)), (1, .int (nI i)), (2, .int (nI kN)), (3, .int b), (4, .int (nI a)), (5, .int (nI (othN L G i))), (6, .int (nI (3 * t)))]) F d_T_spokeSo_55 (by decide) rfl ?_
        refine v_aload_n F d_T_spokeSo_57 rfl 1 rfl ?_
        refine v_getr (r := 19) F fk_T_36 G0 rfl d_T_spokeSo_58 ?_
        refine v_iload_n F d_T_spokeSo_61 rfl 3 rfl ?_
        refine v_runr (r_V F (c_B_nature X.2.1 u hA σ kN hk) mo_B_nature st_T_130 rc_19 (by decide) rfl (Nat.le_of_ble_eq_true rfl) d_T_spokeSo_62) ?_
        refine v_iload_n F d_T_spokeSo_65 rfl 4 rfl ?_
        refine v_aload_n F d_T_spokeSo_66 rfl 1 rfl ?_
        refine v_getr (r := 1) F fk_T_11 G0 rfl d_T_spokeSo_67 ?_
        refine v_iload F d_T_spokeSo_70 5 rfl ?_
        refine v_aal F a G1 rfl rfl ha d_T_spokeSo_72 ?_
        refine v_iload F d_T_spokeSo_73 7 rfl ?_
        refine v_ial F (3 * t) (gam_row _ ha) rfl (by omega) d_T_spokeSo_75 ?_
        refine v_aload_n F d_T_spokeSo_76 rfl 1 rfl ?_
        refine v_getr (r := 1) F fk_T_11 G0 rfl d_T_spokeSo_77 ?_
        refine v_iload F d_T_spokeSo_80 5 rfl ?_
        refine v_aal F a G1 rfl rfl ha d_T_spokeSo_82 ?_
        refine v_iload F d_T_spokeSo_83 7 rfl ?_
        refine v_iconst (v := 1) F d_T_spokeSo_85 ki_1 ?_
        refine v_iadd F d_T_spokeSo_86 ?_
        refine v_te (y := nI (3 * t + 1)) (nI_add _ _) ?_
        refine v_ial F (3 * t + 1) (gam_row _ ha) rfl (by omega) d_T_spokeSo_87 ?_
        refine v_iload F d_T_spokeSo_88 6 rfl ?_
        refine vs_T_366 hA F (k := kN) hk (by decide) (Nat.le_of_ble_eq_true rfl) d_T_spokeSo_90 ?_
        refine v_iload F d_T_spokeSo_93 0 rfl ?_
        refine v_icmp_eq F 100 d_T_spokeSo_95 rfl (fun h95 => ?_) (fun h95 => ?_)
        · skip
          refine v_iinc (v := nI (3 * t + 3)) (ls' := [(6, .int (nI (3 * t + 3))), (7, .int 0), (0, .ref (u.2.1 0)), (1, .int (nI i)), (2, .int (nI kN)), (3, .int b), (4, .int (nI a)), (5, .int (nI (othN L G i)))]) F d_T_spokeSo_100 (j := 7) rfl (nI_inc3 _) (by decide) rfl ?_
          refine v_goto F 20 d_T_spokeSo_103 rfl ?_
          refine v_sub [2, 3, 4, 5, 6, 7, 0] (ls' := [(0, .ref (u.2.1 0)), (1, .int (nI i)), (2, .int (nI kN)), (3, .int b), (4, .int (nI a)), (5, .int (nI (othN L G i))), (6, .int (nI (3 * t + 3)))]) rfl ?_
          have g1 : (nI (3 * t + 3)) = (nI (3 * (t + 1))) := (by first | rfl | (simp_all; done) | grind)
          refine v_to (ls' := [(0, .ref (u.2.1 0)), (1, .int (nI i)), (2, .int (nI kN)), (3, .int b), (4, .int (nI a)), (5, .int (nI (othN L G i))), (6, .int (nI (3 * (t + 1))))]) (by first | rfl | rw [g1] | simp_all) ?_
          exact ih (t + 1) (by omega) (allB_s hal (by first | exact sp_ok1 (by assumption) h95 | exact sp_ok0 (by assumption) h95)) (by omega)
        · skip
          refine v_sub [1, 2, 3, 4, 5, 6, 7] (ls' := [(0, .ref (u.2.1 0)), (1, .int (nI i)), (2, .int (nI kN)), (3, .int b), (4, .int (nI a)), (5, .int (nI (othN L G i))), (6, .int (nI (3 * t)))]) rfl ?_
          exact k0 t (allB_no (t := t) (by omega) (fun q => by first | exact sp_no1 q (by assumption) h95 | exact sp_no0 q (by assumption) h95))
      · skip
        refine v_iconst (v := 1) F d_T_spokeSo_50 ki_1 ?_
        refine v_goto F 55 d_T_spokeSo_51 rfl ?_
        refine v_istore (ls' := [(7, .int 1), (0, .ref (u.2.1 0)), (1, .int (nI i)), (2, .int (nI kN)), (3, .int b), (4, .int (nI a)), (5, .int (nI (othN L G i))), (6, .int (nI (3 * t)))]) F d_T_spokeSo_55 (by decide) rfl ?_
        refine v_aload_n F d_T_spokeSo_57 rfl 1 rfl ?_
        refine v_getr (r := 19) F fk_T_36 G0 rfl d_T_spokeSo_58 ?_
        refine v_iload_n F d_T_spokeSo_61 rfl 3 rfl ?_
        refine v_runr (r_V F (c_B_nature X.2.1 u hA σ kN hk) mo_B_nature st_T_130 rc_19 (by decide) rfl (Nat.le_of_ble_eq_true rfl) d_T_spokeSo_62) ?_
        refine v_iload_n F d_T_spokeSo_65 rfl 4 rfl ?_
        refine v_aload_n F d_T_spokeSo_66 rfl 1 rfl ?_
        refine v_getr (r := 1) F fk_T_11 G0 rfl d_T_spokeSo_67 ?_
        refine v_iload F d_T_spokeSo_70 5 rfl ?_
        refine v_aal F a G1 rfl rfl ha d_T_spokeSo_72 ?_
        refine v_iload F d_T_spokeSo_73 7 rfl ?_
        refine v_ial F (3 * t) (gam_row _ ha) rfl (by omega) d_T_spokeSo_75 ?_
        refine v_aload_n F d_T_spokeSo_76 rfl 1 rfl ?_
        refine v_getr (r := 1) F fk_T_11 G0 rfl d_T_spokeSo_77 ?_
        refine v_iload F d_T_spokeSo_80 5 rfl ?_
        refine v_aal F a G1 rfl rfl ha d_T_spokeSo_82 ?_
        refine v_iload F d_T_spokeSo_83 7 rfl ?_
        refine v_iconst (v := 1) F d_T_spokeSo_85 ki_1 ?_
        refine v_iadd F d_T_spokeSo_86 ?_
        refine v_te (y := nI (3 * t + 1)) (nI_add _ _) ?_
        refine v_ial F (3 * t + 1) (gam_row _ ha) rfl (by omega) d_T_spokeSo_87 ?_
        refine v_iload F d_T_spokeSo_88 6 rfl ?_
        refine vs_T_366 hA F (k := kN) hk (by decide) (Nat.le_of_ble_eq_true rfl) d_T_spokeSo_90 ?_
        refine v_iload F d_T_spokeSo_93 0 rfl ?_
        refine v_icmp_eq F 100 d_T_spokeSo_95 rfl (fun h95 => ?_) (fun h95 => ?_)
        · skip
          refine v_iinc (v := nI (3 * t + 3)) (ls' := [(6, .int (nI (3 * t + 3))), (7, .int 1), (0, .ref (u.2.1 0)), (1, .int (nI i)), (2, .int (nI kN)), (3, .int b), (4, .int (nI a)), (5, .int (nI (othN L G i)))]) F d_T_spokeSo_100 (j := 7) rfl (nI_inc3 _) (by decide) rfl ?_
          refine v_goto F 20 d_T_spokeSo_103 rfl ?_
          refine v_sub [2, 3, 4, 5, 6, 7, 0] (ls' := [(0, .ref (u.2.1 0)), (1, .int (nI i)), (2, .int (nI kN)), (3, .int b), (4, .int (nI a)), (5, .int (nI (othN L G i))), (6, .int (nI (3 * t + 3)))]) rfl ?_
          have g2 : (nI (3 * t + 3)) = (nI (3 * (t + 1))) := (by first | rfl | (simp_all; done) | grind)
          refine v_to (ls' := [(0, .ref (u.2.1 0)), (1, .int (nI i)), (2, .int (nI kN)), (3, .int b), (4, .int (nI a)), (5, .int (nI (othN L G i))), (6, .int (nI (3 * (t + 1))))]) (by first | rfl | rw [g2] | simp_all) ?_
          exact ih (t + 1) (by omega) (allB_s hal (by first | exact sp_ok1 (by assumption) h95 | exact sp_ok0 (by assumption) h95)) (by omega)
        · skip
          refine v_sub [1, 2, 3, 4, 5, 6, 7] (ls' := [(0, .ref (u.2.1 0)), (1, .int (nI i)), (2, .int (nI kN)), (3, .int b), (4, .int (nI a)), (5, .int (nI (othN L G i))), (6, .int (nI (3 * t)))]) rfl ?_
          exact k0 t (allB_no (t := t) (by omega) (fun q => by first | exact sp_no1 q (by assumption) h95 | exact sp_no0 q (by assumption) h95))
set_option maxHeartbeats 4000000 in
theorem c_T_spokeSo (l : Launch) (u : Un) (hA : Ap u) (σ : St) {n G : Nat} {kd : Nat → Nat} (hb : bkOk σ n G kd) {L : Nat} (hL : σ.1 19 14 = nI L) (hL64 : L < 64) {a N : Nat} (ha : a < 6) (hN : N ≤ 40) (eN : σ.1 8 a = nI N) (i kN : Nat) (b : Int32) (hi : i < 6) (hk : kN < 6) : MTi l u y_T_spokeSo b_T_spokeSo 8 .boolean 5 [.ref (u.2.1 0), .int (nI i), .int (nI kN), .int b, .int (nI a)] σ (fun ans σ' => bI (allB (spB σ (2 + a) kN b (nI (othN L G i))) (N / 3) = true) = ans ∧ σ = σ') := by
  refine MT_of hA rfl (by decide) (Nat.le_of_ble_eq_true rfl) (fun X hl F hr => ?_)
  subst hl
  refine v_to (ls' := [(0, .ref (u.2.1 0)), (1, .int (nI i)), (2, .int (nI kN)), (3, .int b), (4, .int (nI a))]) rfl ?_
  obtain ⟨hn, hn6, hG, hG64, hkd, hk6⟩ := id hb
  refine v_aload_n F d_T_spokeSo_0 rfl 0 rfl ?_
  refine v_getr (r := 19) F fk_T_36 G0 rfl d_T_spokeSo_1 ?_
  refine v_iload_n F d_T_spokeSo_4 rfl 1 rfl ?_
  refine v_aload_n F d_T_spokeSo_5 rfl 0 rfl ?_
  refine v_getr (r := 19) F fk_T_36 G0 rfl d_T_spokeSo_6 ?_
  refine v_geti F fk_T_166 G19 rfl d_T_spokeSo_9 ?_
  refine v_te (y := nI L) hL ?_
  refine v_runi (r_V F (c_B_others X.2.1 u hA σ hb i L (by omega) (by omega)) mo_B_others st_T_363 rc_19 (by decide) rfl (Nat.le_of_ble_eq_true rfl) d_T_spokeSo_12) (fun r1 σ2 q3 => ?_)
  obtain ⟨rfl, rfl⟩ := q3
  refine v_istore (ls' := [(5, .int (nI (othN L G i))), (0, .ref (u.2.1 0)), (1, .int (nI i)), (2, .int (nI kN)), (3, .int b), (4, .int (nI a))]) F d_T_spokeSo_15 (by decide) rfl ?_
  refine v_iconst (v := 0) F d_T_spokeSo_17 ki_0 ?_
  refine v_istore (ls' := [(6, .int 0), (5, .int (nI (othN L G i))), (0, .ref (u.2.1 0)), (1, .int (nI i)), (2, .int (nI kN)), (3, .int b), (4, .int (nI a))]) F d_T_spokeSo_18 (by decide) rfl ?_
  refine v_sub [2, 3, 4, 5, 6, 1, 0] (ls' := [(0, .ref (u.2.1 0)), (1, .int (nI i)), (2, .int (nI kN)), (3, .int b), (4, .int (nI a)), (5, .int (nI (othN L G i))), (6, .int 0)]) rfl ?_
  have g4 : 0 = (nI (3 * 0)) := (by first | rfl | (simp_all; done) | grind)
  refine v_to (ls' := [(0, .ref (u.2.1 0)), (1, .int (nI i)), (2, .int (nI kN)), (3, .int b), (4, .int (nI a)), (5, .int (nI (othN L G i))), (6, .int (nI (3 * 0)))]) (by first | rfl | rw [g4] | simp_all) ?_
  refine L_T_spokeSo_20 hA F hb hL hL64 ha hN eN hk (fun t hno => ?_) (fun t hyes => ?_) _ 0 (Nat.zero_le _) rfl (Nat.lt_succ_self _)
  · skip
    refine v_iconst (v := 0) F d_T_spokeSo_98 ki_0 ?_
    refine v_iret F hr rfl d_T_spokeSo_99 ?_
    exact ⟨bI_f hno, rfl⟩
  · skip
    refine v_iconst (v := 1) F d_T_spokeSo_106 ki_1 ?_
    refine v_iret F hr rfl d_T_spokeSo_107 ?_
    exact ⟨bI_t hyes, rfl⟩
