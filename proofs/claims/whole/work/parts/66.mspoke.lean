theorem st_M_277 : siteV "TakerBookModel" 277 ⟨"TakerBookModel", "isTold", "(IIII)Z"⟩ := ⟨List.mem_of_getElem? (i := 1410) (by decide +kernel), List.mem_of_getElem? (i := 1412) (by decide +kernel), List.mem_of_getElem? (i := 65) (by decide +kernel)⟩
theorem st_M_274 : siteV "TakerBookModel" 274 ⟨"TakerBookModel", "needTriples", "(II)I"⟩ := ⟨List.mem_of_getElem? (i := 1406) (by decide +kernel), List.mem_of_getElem? (i := 1408) (by decide +kernel), List.mem_of_getElem? (i := 64) (by decide +kernel)⟩
theorem st_M_281 : siteV "TakerBookModel" 281 ⟨"TakerBookModel", "kindSet", "(II)I"⟩ := ⟨List.mem_of_getElem? (i := 1418) (by decide +kernel), List.mem_of_getElem? (i := 1420) (by decide +kernel), List.mem_of_getElem? (i := 66) (by decide +kernel)⟩
theorem kb_30 : (Int8.ofInt 30).toInt32 = (30 : Int32) := by decide
abbrev b_M_needTriples : ByteArray := prog_14_method_79_code
abbrev y_M_needTriples : MethodName := ⟨"TakerBookModel", "needTriples", "(II)I"⟩
theorem d_M_needTriples_0 : decode b_M_needTriples 0 = .ok (.aload_n 0, 1) := by decide +kernel
theorem d_M_needTriples_1 : decode b_M_needTriples 1 = .ok (.iload_n 1, 1) := by decide +kernel
theorem d_M_needTriples_2 : decode b_M_needTriples 2 = .ok (.invokevirtual 191, 3) := by decide +kernel
theorem d_M_needTriples_5 : decode b_M_needTriples 5 = .ok (.ifCond .eq 10, 3) := by decide +kernel
theorem d_M_needTriples_8 : decode b_M_needTriples 8 = .ok (.iload_n 2, 1) := by decide +kernel
theorem d_M_needTriples_9 : decode b_M_needTriples 9 = .ok (.invokestatic 99, 3) := by decide +kernel
theorem d_M_needTriples_12 : decode b_M_needTriples 12 = .ok (.ifCond .ne 5, 3) := by decide +kernel
theorem d_M_needTriples_15 : decode b_M_needTriples 15 = .ok (.iconst (-1), 1) := by decide +kernel
theorem d_M_needTriples_16 : decode b_M_needTriples 16 = .ok (.ireturn, 1) := by decide +kernel
theorem d_M_needTriples_17 : decode b_M_needTriples 17 = .ok (.aload_n 0, 1) := by decide +kernel
theorem d_M_needTriples_18 : decode b_M_needTriples 18 = .ok (.getfield 17, 3) := by decide +kernel
theorem d_M_needTriples_21 : decode b_M_needTriples 21 = .ok (.iload_n 2, 1) := by decide +kernel
theorem d_M_needTriples_22 : decode b_M_needTriples 22 = .ok (.iaload, 1) := by decide +kernel
theorem d_M_needTriples_23 : decode b_M_needTriples 23 = .ok (.ifCond .ge 9, 3) := by decide +kernel
theorem d_M_needTriples_26 : decode b_M_needTriples 26 = .ok (.aload_n 0, 1) := by decide +kernel
theorem d_M_needTriples_27 : decode b_M_needTriples 27 = .ok (.iconst 1, 1) := by decide +kernel
theorem d_M_needTriples_28 : decode b_M_needTriples 28 = .ok (.invokevirtual 103, 3) := by decide +kernel
theorem d_M_needTriples_31 : decode b_M_needTriples 31 = .ok (.ireturn, 1) := by decide +kernel
theorem d_M_needTriples_32 : decode b_M_needTriples 32 = .ok (.aload_n 0, 1) := by decide +kernel
theorem d_M_needTriples_33 : decode b_M_needTriples 33 = .ok (.getfield 17, 3) := by decide +kernel
theorem d_M_needTriples_36 : decode b_M_needTriples 36 = .ok (.iload_n 2, 1) := by decide +kernel
theorem d_M_needTriples_37 : decode b_M_needTriples 37 = .ok (.iaload, 1) := by decide +kernel
theorem d_M_needTriples_38 : decode b_M_needTriples 38 = .ok (.iconst 3, 1) := by decide +kernel
theorem d_M_needTriples_39 : decode b_M_needTriples 39 = .ok (.irem, 1) := by decide +kernel
theorem d_M_needTriples_40 : decode b_M_needTriples 40 = .ok (.ifCond .eq 9, 3) := by decide +kernel
theorem d_M_needTriples_43 : decode b_M_needTriples 43 = .ok (.aload_n 0, 1) := by decide +kernel
theorem d_M_needTriples_44 : decode b_M_needTriples 44 = .ok (.iconst 5, 1) := by decide +kernel
theorem d_M_needTriples_45 : decode b_M_needTriples 45 = .ok (.invokevirtual 103, 3) := by decide +kernel
theorem d_M_needTriples_48 : decode b_M_needTriples 48 = .ok (.ireturn, 1) := by decide +kernel
theorem d_M_needTriples_49 : decode b_M_needTriples 49 = .ok (.iconst 1, 1) := by decide +kernel
theorem d_M_needTriples_50 : decode b_M_needTriples 50 = .ok (.istore_n 3, 1) := by decide +kernel
theorem d_M_needTriples_51 : decode b_M_needTriples 51 = .ok (.iconst 0, 1) := by decide +kernel
theorem d_M_needTriples_52 : decode b_M_needTriples 52 = .ok (.istore 4, 2) := by decide +kernel
theorem d_M_needTriples_54 : decode b_M_needTriples 54 = .ok (.iload 4, 2) := by decide +kernel
theorem d_M_needTriples_56 : decode b_M_needTriples 56 = .ok (.aload_n 0, 1) := by decide +kernel
theorem d_M_needTriples_57 : decode b_M_needTriples 57 = .ok (.getfield 17, 3) := by decide +kernel
theorem d_M_needTriples_60 : decode b_M_needTriples 60 = .ok (.iload_n 2, 1) := by decide +kernel
theorem d_M_needTriples_61 : decode b_M_needTriples 61 = .ok (.iaload, 1) := by decide +kernel
theorem d_M_needTriples_62 : decode b_M_needTriples 62 = .ok (.if_icmp .ge 58, 3) := by decide +kernel
theorem d_M_needTriples_65 : decode b_M_needTriples 65 = .ok (.iload_n 3, 1) := by decide +kernel
theorem d_M_needTriples_66 : decode b_M_needTriples 66 = .ok (.ifCond .eq 46, 3) := by decide +kernel
theorem d_M_needTriples_69 : decode b_M_needTriples 69 = .ok (.aload_n 0, 1) := by decide +kernel
theorem d_M_needTriples_70 : decode b_M_needTriples 70 = .ok (.iload_n 2, 1) := by decide +kernel
theorem d_M_needTriples_71 : decode b_M_needTriples 71 = .ok (.iload 4, 2) := by decide +kernel
theorem d_M_needTriples_73 : decode b_M_needTriples 73 = .ok (.invokevirtual 107, 3) := by decide +kernel
theorem d_M_needTriples_76 : decode b_M_needTriples 76 = .ok (.iconst 0, 1) := by decide +kernel
theorem d_M_needTriples_77 : decode b_M_needTriples 77 = .ok (.iload 4, 2) := by decide +kernel
theorem d_M_needTriples_79 : decode b_M_needTriples 79 = .ok (.iconst 3, 1) := by decide +kernel
theorem d_M_needTriples_80 : decode b_M_needTriples 80 = .ok (.irem, 1) := by decide +kernel
theorem d_M_needTriples_81 : decode b_M_needTriples 81 = .ok (.ifCond .ne 8, 3) := by decide +kernel
theorem d_M_needTriples_84 : decode b_M_needTriples 84 = .ok (.bipush 9, 2) := by decide +kernel
theorem d_M_needTriples_86 : decode b_M_needTriples 86 = .ok (.goto 16, 3) := by decide +kernel
theorem d_M_needTriples_89 : decode b_M_needTriples 89 = .ok (.iload 4, 2) := by decide +kernel
theorem d_M_needTriples_91 : decode b_M_needTriples 91 = .ok (.iconst 3, 1) := by decide +kernel
theorem d_M_needTriples_92 : decode b_M_needTriples 92 = .ok (.irem, 1) := by decide +kernel
theorem d_M_needTriples_93 : decode b_M_needTriples 93 = .ok (.iconst 1, 1) := by decide +kernel
theorem d_M_needTriples_94 : decode b_M_needTriples 94 = .ok (.if_icmp .ne 7, 3) := by decide +kernel
theorem d_M_needTriples_97 : decode b_M_needTriples 97 = .ok (.iconst 2, 1) := by decide +kernel
theorem d_M_needTriples_98 : decode b_M_needTriples 98 = .ok (.goto 4, 3) := by decide +kernel
theorem d_M_needTriples_101 : decode b_M_needTriples 101 = .ok (.iconst 1, 1) := by decide +kernel
theorem d_M_needTriples_102 : decode b_M_needTriples 102 = .ok (.invokestatic 89, 3) := by decide +kernel
theorem d_M_needTriples_105 : decode b_M_needTriples 105 = .ok (.ifCond .eq 7, 3) := by decide +kernel
theorem d_M_needTriples_108 : decode b_M_needTriples 108 = .ok (.iconst 1, 1) := by decide +kernel
theorem d_M_needTriples_109 : decode b_M_needTriples 109 = .ok (.goto 4, 3) := by decide +kernel
theorem d_M_needTriples_112 : decode b_M_needTriples 112 = .ok (.iconst 0, 1) := by decide +kernel
theorem d_M_needTriples_113 : decode b_M_needTriples 113 = .ok (.istore_n 3, 1) := by decide +kernel
theorem d_M_needTriples_114 : decode b_M_needTriples 114 = .ok (.iinc 4 1, 3) := by decide +kernel
theorem d_M_needTriples_117 : decode b_M_needTriples 117 = .ok (.goto (-63), 3) := by decide +kernel
theorem d_M_needTriples_120 : decode b_M_needTriples 120 = .ok (.iload_n 3, 1) := by decide +kernel
theorem d_M_needTriples_121 : decode b_M_needTriples 121 = .ok (.ifCond .eq 7, 3) := by decide +kernel
theorem d_M_needTriples_124 : decode b_M_needTriples 124 = .ok (.iconst 0, 1) := by decide +kernel
theorem d_M_needTriples_125 : decode b_M_needTriples 125 = .ok (.goto 8, 3) := by decide +kernel
theorem d_M_needTriples_128 : decode b_M_needTriples 128 = .ok (.aload_n 0, 1) := by decide +kernel
theorem d_M_needTriples_129 : decode b_M_needTriples 129 = .ok (.iconst 3, 1) := by decide +kernel
theorem d_M_needTriples_130 : decode b_M_needTriples 130 = .ok (.invokevirtual 103, 3) := by decide +kernel
theorem d_M_needTriples_133 : decode b_M_needTriples 133 = .ok (.ireturn, 1) := by decide +kernel
theorem mo_M_needTriples : mok y_M_needTriples b_M_needTriples 5 (some .int) 2 := ⟨List.mem_of_getElem? (i := 1409) (by decide +kernel), ⟨by decide +kernel, by decide +kernel, by decide +kernel⟩, List.mem_of_getElem? (i := 86) (by decide +kernel), by decide⟩
set_option maxHeartbeats 4000000 in
theorem L_M_needTriples_54 {X : FX} {u : Un} (hA : Ap u) {Q : State → Prop} (F : Fr X u "TakerBookModel" b_M_needTriples 5) {σ : St} {ro N : Nat} (hro : ro < 6) (hN : N ≤ 40) (eN : σ.1 65 ro = nI N) (k : V X u 2 5 Q 120 [(0, .ref (u.2.1 63)), (2, .int (nI ro)), (3, .int (bI (allB (tgB σ ro) N = true))), (4, .int (nI N))] [] (σ)) : ∀ (nn k : Nat), k ≤ N → N - k < nn → V X u 2 5 Q 54 [(0, .ref (u.2.1 63)), (2, .int (nI ro)), (3, .int (bI (allB (tgB σ ro) k = true))), (4, .int (nI k))] [] (σ) := by
  intro nn
  induction nn with
  | zero =>
    intro k h1 h2
    exact absurd h2 (Nat.not_lt_zero _)
  | succ nn ih =>
    intro k hii hnn
    refine v_iload F d_M_needTriples_54 3 rfl ?_
    refine v_aload_n F d_M_needTriples_56 rfl 0 rfl ?_
    refine v_getr (r := 65) F fk_M_17 G63 rfl d_M_needTriples_57 ?_
    refine v_iload_n F d_M_needTriples_60 rfl 1 rfl ?_
    refine v_ial F ro G65 rfl (by omega) d_M_needTriples_61 ?_
    refine v_te (y := nI N) eN ?_
    refine v_icmp_ge F 120 d_M_needTriples_62 rfl (fun h62 => ?_) (fun h62 => ?_)
    · skip
      have h62 : N ≤ k := (nI_leI (a := N) (b := k) (by omega) (by omega)).mp h62
      have he : k = N := by omega
      subst he
      exact k
    · skip
      have h62 : ¬ N ≤ k := fun q => h62 ((nI_leI (a := N) (b := k) (by omega) (by omega)).mpr q)
      refine v_iload_n F d_M_needTriples_65 rfl 2 rfl ?_
      refine v_bt F 112 d_M_needTriples_66 rfl (fun h66 => ?_) (fun h66 => ?_)
      · skip
        refine v_iconst (v := 0) F d_M_needTriples_112 ki_0 ?_
        refine v_istore_n (ls' := [(3, .int 0), (0, .ref (u.2.1 63)), (2, .int (nI ro)), (4, .int (nI k))]) F d_M_needTriples_113 rfl (by decide) rfl ?_
        refine v_iinc (v := nI (k + 1)) (ls' := [(4, .int (nI (k + 1))), (3, .int 0), (0, .ref (u.2.1 63)), (2, .int (nI ro))]) F d_M_needTriples_114 (j := 3) rfl (nI_inc _) (by decide) rfl ?_
        refine v_goto F 54 d_M_needTriples_117 rfl ?_
        refine v_sub [2, 3, 1, 0] (ls' := [(0, .ref (u.2.1 63)), (2, .int (nI ro)), (3, .int 0), (4, .int (nI (k + 1)))]) rfl ?_
        have g1 : 0 = (bI (allB (tgB σ ro) (k + 1) = true)) := (by first | rfl | exact (bI_t (allB_s (by assumption) (tg_0 (by assumption) (by assumption)))).symm | exact (bI_t (allB_s (by assumption) (tg_1 (by assumption) (by assumption) (by assumption)))).symm | exact (bI_t (allB_s (by assumption) (tg_2 (by assumption) (by assumption) (by assumption)))).symm | exact (bI_f (allB_f (by assumption))).symm | exact (bI_f (allB_f2 (tg_n0 (by assumption) (by assumption)))).symm | exact (bI_f (allB_f2 (tg_n1 (by assumption) (by assumption) (by assumption)))).symm | exact (bI_f (allB_f2 (tg_n2 (by assumption) (by assumption) (by assumption)))).symm)
        refine v_to (ls' := [(0, .ref (u.2.1 63)), (2, .int (nI ro)), (3, .int (bI (allB (tgB σ ro) (k + 1) = true))), (4, .int (nI (k + 1)))]) (by first | rfl | rw [g1] | simp_all) ?_
        exact ih (k + 1) (by omega) (by omega)
      · skip
        refine v_aload_n F d_M_needTriples_69 rfl 0 rfl ?_
        refine v_iload_n F d_M_needTriples_70 rfl 1 rfl ?_
        refine v_iload F d_M_needTriples_71 3 rfl ?_
        refine v_runi (r_V F (c_M_rowAt X.2.1 u hA σ ro k (by omega)) mo_M_rowAt st_M_107 rc_63 (by decide) rfl (Nat.le_of_ble_eq_true rfl) d_M_needTriples_73) (fun r2 σ3 q4 => ?_)
        obtain ⟨rfl, rfl⟩ := q4
        refine v_iconst (v := 0) F d_M_needTriples_76 ki_0 ?_
        refine v_iload F d_M_needTriples_77 3 rfl ?_
        refine v_iconst (v := 3) F d_M_needTriples_79 ki_3 ?_
        refine v_irem F d_M_needTriples_80 (by decide) ?_
        refine v_te (y := nI (k % 3)) (pk_rem (by omega) (by decide) (by decide)) ?_
        refine v_if_ne F 89 d_M_needTriples_81 rfl (fun h81 => ?_) (fun h81 => ?_)
        · skip
          have h81 : ¬ k % 3 = 0 := fun q => h81 ((nI_eq (a := k % 3) (b := 0) (by omega) (by omega)).mpr q)
          refine v_iload F d_M_needTriples_89 3 rfl ?_
          refine v_iconst (v := 3) F d_M_needTriples_91 ki_3 ?_
          refine v_irem F d_M_needTriples_92 (by decide) ?_
          refine v_te (y := nI (k % 3)) (pk_rem (by omega) (by decide) (by decide)) ?_
          refine v_iconst (v := 1) F d_M_needTriples_93 ki_1 ?_
          refine v_icmp_ne F 101 d_M_needTriples_94 rfl (fun h94 => ?_) (fun h94 => ?_)
          · skip
            have h94 : ¬ k % 3 = 1 := fun q => h94 ((nI_eq (a := k % 3) (b := 1) (by omega) (by omega)).mpr q)
            refine v_iconst (v := 1) F d_M_needTriples_101 ki_1 ?_
            refine v_runi (r_S F (c_M_in X.2.1 u hA σ (σ.1 66 (40 * ro + k)) 0 1 ) mo_M_in st_M_89 (by decide) rfl (Nat.le_of_ble_eq_true rfl) d_M_needTriples_102) (fun r5 σ6 q7 => ?_)
            obtain ⟨rfl, rfl⟩ := q7
            refine v_bt F 112 d_M_needTriples_105 rfl (fun h105 => ?_) (fun h105 => ?_)
            · skip
              refine v_iconst (v := 0) F d_M_needTriples_112 ki_0 ?_
              refine v_istore_n (ls' := [(3, .int 0), (0, .ref (u.2.1 63)), (2, .int (nI ro)), (4, .int (nI k))]) F d_M_needTriples_113 rfl (by decide) rfl ?_
              refine v_iinc (v := nI (k + 1)) (ls' := [(4, .int (nI (k + 1))), (3, .int 0), (0, .ref (u.2.1 63)), (2, .int (nI ro))]) F d_M_needTriples_114 (j := 3) rfl (nI_inc _) (by decide) rfl ?_
              refine v_goto F 54 d_M_needTriples_117 rfl ?_
              refine v_sub [2, 3, 1, 0] (ls' := [(0, .ref (u.2.1 63)), (2, .int (nI ro)), (3, .int 0), (4, .int (nI (k + 1)))]) rfl ?_
              have g8 : 0 = (bI (allB (tgB σ ro) (k + 1) = true)) := (by first | rfl | exact (bI_t (allB_s (by assumption) (tg_0 (by assumption) (by assumption)))).symm | exact (bI_t (allB_s (by assumption) (tg_1 (by assumption) (by assumption) (by assumption)))).symm | exact (bI_t (allB_s (by assumption) (tg_2 (by assumption) (by assumption) (by assumption)))).symm | exact (bI_f (allB_f (by assumption))).symm | exact (bI_f (allB_f2 (tg_n0 (by assumption) (by assumption)))).symm | exact (bI_f (allB_f2 (tg_n1 (by assumption) (by assumption) (by assumption)))).symm | exact (bI_f (allB_f2 (tg_n2 (by assumption) (by assumption) (by assumption)))).symm)
              refine v_to (ls' := [(0, .ref (u.2.1 63)), (2, .int (nI ro)), (3, .int (bI (allB (tgB σ ro) (k + 1) = true))), (4, .int (nI (k + 1)))]) (by first | rfl | rw [g8] | simp_all) ?_
              exact ih (k + 1) (by omega) (by omega)
            · skip
              refine v_iconst (v := 1) F d_M_needTriples_108 ki_1 ?_
              refine v_goto F 113 d_M_needTriples_109 rfl ?_
              refine v_istore_n (ls' := [(3, .int 1), (0, .ref (u.2.1 63)), (2, .int (nI ro)), (4, .int (nI k))]) F d_M_needTriples_113 rfl (by decide) rfl ?_
              refine v_iinc (v := nI (k + 1)) (ls' := [(4, .int (nI (k + 1))), (3, .int 1), (0, .ref (u.2.1 63)), (2, .int (nI ro))]) F d_M_needTriples_114 (j := 3) rfl (nI_inc _) (by decide) rfl ?_
              refine v_goto F 54 d_M_needTriples_117 rfl ?_
              refine v_sub [2, 3, 1, 0] (ls' := [(0, .ref (u.2.1 63)), (2, .int (nI ro)), (3, .int 1), (4, .int (nI (k + 1)))]) rfl ?_
              have g9 : 1 = (bI (allB (tgB σ ro) (k + 1) = true)) := (by first | rfl | exact (bI_t (allB_s (by assumption) (tg_0 (by assumption) (by assumption)))).symm | exact (bI_t (allB_s (by assumption) (tg_1 (by assumption) (by assumption) (by assumption)))).symm | exact (bI_t (allB_s (by assumption) (tg_2 (by assumption) (by assumption) (by assumption)))).symm | exact (bI_f (allB_f (by assumption))).symm | exact (bI_f (allB_f2 (tg_n0 (by assumption) (by assumption)))).symm | exact (bI_f (allB_f2 (tg_n1 (by assumption) (by assumption) (by assumption)))).symm | exact (bI_f (allB_f2 (tg_n2 (by assumption) (by assumption) (by assumption)))).symm)
              refine v_to (ls' := [(0, .ref (u.2.1 63)), (2, .int (nI ro)), (3, .int (bI (allB (tgB σ ro) (k + 1) = true))), (4, .int (nI (k + 1)))]) (by first | rfl | rw [g9] | simp_all) ?_
              exact ih (k + 1) (by omega) (by omega)
          · skip
            have h94 : k % 3 = 1 := (nI_eq (a := k % 3) (b := 1) (by omega) (by omega)).mp h94
            refine v_iconst (v := 2) F d_M_needTriples_97 ki_2 ?_
            refine v_goto F 102 d_M_needTriples_98 rfl ?_
            refine v_runi (r_S F (c_M_in X.2.1 u hA σ (σ.1 66 (40 * ro + k)) 0 2 ) mo_M_in st_M_89 (by decide) rfl (Nat.le_of_ble_eq_true rfl) d_M_needTriples_102) (fun r10 σ11 q12 => ?_)
            obtain ⟨rfl, rfl⟩ := q12
            refine v_bt F 112 d_M_needTriples_105 rfl (fun h105 => ?_) (fun h105 => ?_)
            · skip
              refine v_iconst (v := 0) F d_M_needTriples_112 ki_0 ?_
              refine v_istore_n (ls' := [(3, .int 0), (0, .ref (u.2.1 63)), (2, .int (nI ro)), (4, .int (nI k))]) F d_M_needTriples_113 rfl (by decide) rfl ?_
              refine v_iinc (v := nI (k + 1)) (ls' := [(4, .int (nI (k + 1))), (3, .int 0), (0, .ref (u.2.1 63)), (2, .int (nI ro))]) F d_M_needTriples_114 (j := 3) rfl (nI_inc _) (by decide) rfl ?_
              refine v_goto F 54 d_M_needTriples_117 rfl ?_
              refine v_sub [2, 3, 1, 0] (ls' := [(0, .ref (u.2.1 63)), (2, .int (nI ro)), (3, .int 0), (4, .int (nI (k + 1)))]) rfl ?_
              have g13 : 0 = (bI (allB (tgB σ ro) (k + 1) = true)) := (by first | rfl | exact (bI_t (allB_s (by assumption) (tg_0 (by assumption) (by assumption)))).symm | exact (bI_t (allB_s (by assumption) (tg_1 (by assumption) (by assumption) (by assumption)))).symm | exact (bI_t (allB_s (by assumption) (tg_2 (by assumption) (by assumption) (by assumption)))).symm | exact (bI_f (allB_f (by assumption))).symm | exact (bI_f (allB_f2 (tg_n0 (by assumption) (by assumption)))).symm | exact (bI_f (allB_f2 (tg_n1 (by assumption) (by assumption) (by assumption)))).symm | exact (bI_f (allB_f2 (tg_n2 (by assumption) (by assumption) (by assumption)))).symm)
              refine v_to (ls' := [(0, .ref (u.2.1 63)), (2, .int (nI ro)), (3, .int (bI (allB (tgB σ ro) (k + 1) = true))), (4, .int (nI (k + 1)))]) (by first | rfl | rw [g13] | simp_all) ?_
              exact ih (k + 1) (by omega) (by omega)
            · skip
              refine v_iconst (v := 1) F d_M_needTriples_108 ki_1 ?_
              refine v_goto F 113 d_M_needTriples_109 rfl ?_
              refine v_istore_n (ls' := [(3, .int 1), (0, .ref (u.2.1 63)), (2, .int (nI ro)), (4, .int (nI k))]) F d_M_needTriples_113 rfl (by decide) rfl ?_
              refine v_iinc (v := nI (k + 1)) (ls' := [(4, .int (nI (k + 1))), (3, .int 1), (0, .ref (u.2.1 63)), (2, .int (nI ro))]) F d_M_needTriples_114 (j := 3) rfl (nI_inc _) (by decide) rfl ?_
              refine v_goto F 54 d_M_needTriples_117 rfl ?_
              refine v_sub [2, 3, 1, 0] (ls' := [(0, .ref (u.2.1 63)), (2, .int (nI ro)), (3, .int 1), (4, .int (nI (k + 1)))]) rfl ?_
              have g14 : 1 = (bI (allB (tgB σ ro) (k + 1) = true)) := (by first | rfl | exact (bI_t (allB_s (by assumption) (tg_0 (by assumption) (by assumption)))).symm | exact (bI_t (allB_s (by assumption) (tg_1 (by assumption) (by assumption) (by assumption)))).symm | exact (bI_t (allB_s (by assumption) (tg_2 (by assumption) (by assumption) (by assumption)))).symm | exact (bI_f (allB_f (by assumption))).symm | exact (bI_f (allB_f2 (tg_n0 (by assumption) (by assumption)))).symm | exact (bI_f (allB_f2 (tg_n1 (by assumption) (by assumption) (by assumption)))).symm | exact (bI_f (allB_f2 (tg_n2 (by assumption) (by assumption) (by assumption)))).symm)
              refine v_to (ls' := [(0, .ref (u.2.1 63)), (2, .int (nI ro)), (3, .int (bI (allB (tgB σ ro) (k + 1) = true))), (4, .int (nI (k + 1)))]) (by first | rfl | rw [g14] | simp_all) ?_
              exact ih (k + 1) (by omega) (by omega)
        · skip
          have h81 : k % 3 = 0 := (nI_eq (a := k % 3) (b := 0) (by omega) (by omega)).mp h81
          refine v_bipush (v := 9) F d_M_needTriples_84 kb_9 ?_
          refine v_goto F 102 d_M_needTriples_86 rfl ?_
          refine v_runi (r_S F (c_M_in X.2.1 u hA σ (σ.1 66 (40 * ro + k)) 0 9 ) mo_M_in st_M_89 (by decide) rfl (Nat.le_of_ble_eq_true rfl) d_M_needTriples_102) (fun r15 σ16 q17 => ?_)
          obtain ⟨rfl, rfl⟩ := q17
          refine v_bt F 112 d_M_needTriples_105 rfl (fun h105 => ?_) (fun h105 => ?_)
          · skip
            refine v_iconst (v := 0) F d_M_needTriples_112 ki_0 ?_
            refine v_istore_n (ls' := [(3, .int 0), (0, .ref (u.2.1 63)), (2, .int (nI ro)), (4, .int (nI k))]) F d_M_needTriples_113 rfl (by decide) rfl ?_
            refine v_iinc (v := nI (k + 1)) (ls' := [(4, .int (nI (k + 1))), (3, .int 0), (0, .ref (u.2.1 63)), (2, .int (nI ro))]) F d_M_needTriples_114 (j := 3) rfl (nI_inc _) (by decide) rfl ?_
            refine v_goto F 54 d_M_needTriples_117 rfl ?_
            refine v_sub [2, 3, 1, 0] (ls' := [(0, .ref (u.2.1 63)), (2, .int (nI ro)), (3, .int 0), (4, .int (nI (k + 1)))]) rfl ?_
            have g18 : 0 = (bI (allB (tgB σ ro) (k + 1) = true)) := (by first | rfl | exact (bI_t (allB_s (by assumption) (tg_0 (by assumption) (by assumption)))).symm | exact (bI_t (allB_s (by assumption) (tg_1 (by assumption) (by assumption) (by assumption)))).symm | exact (bI_t (allB_s (by assumption) (tg_2 (by assumption) (by assumption) (by assumption)))).symm | exact (bI_f (allB_f (by assumption))).symm | exact (bI_f (allB_f2 (tg_n0 (by assumption) (by assumption)))).symm | exact (bI_f (allB_f2 (tg_n1 (by assumption) (by assumption) (by assumption)))).symm | exact (bI_f (allB_f2 (tg_n2 (by assumption) (by assumption) (by assumption)))).symm)
            refine v_to (ls' := [(0, .ref (u.2.1 63)), (2, .int (nI ro)), (3, .int (bI (allB (tgB σ ro) (k + 1) = true))), (4, .int (nI (k + 1)))]) (by first | rfl | rw [g18] | simp_all) ?_
            exact ih (k + 1) (by omega) (by omega)
          · skip
            refine v_iconst (v := 1) F d_M_needTriples_108 ki_1 ?_
            refine v_goto F 113 d_M_needTriples_109 rfl ?_
            refine v_istore_n (ls' := [(3, .int 1), (0, .ref (u.2.1 63)), (2, .int (nI ro)), (4, .int (nI k))]) F d_M_needTriples_113 rfl (by decide) rfl ?_
            refine v_iinc (v := nI (k + 1)) (ls' := [(4, .int (nI (k + 1))), (3, .int 1), (0, .ref (u.2.1 63)), (2, .int (nI ro))]) F d_M_needTriples_114 (j := 3) rfl (nI_inc _) (by decide) rfl ?_
            refine v_goto F 54 d_M_needTriples_117 rfl ?_
            refine v_sub [2, 3, 1, 0] (ls' := [(0, .ref (u.2.1 63)), (2, .int (nI ro)), (3, .int 1), (4, .int (nI (k + 1)))]) rfl ?_
            have g19 : 1 = (bI (allB (tgB σ ro) (k + 1) = true)) := (by first | rfl | exact (bI_t (allB_s (by assumption) (tg_0 (by assumption) (by assumption)))).symm | exact (bI_t (allB_s (by assumption) (tg_1 (by assumption) (by assumption) (by assumption)))).symm | exact (bI_t (allB_s (by assumption) (tg_2 (by assumption) (by assumption) (by assumption)))).symm | exact (bI_f (allB_f (by assumption))).symm | exact (bI_f (allB_f2 (tg_n0 (by assumption) (by assumption)))).symm | exact (bI_f (allB_f2 (tg_n1 (by assumption) (by assumption) (by assumption)))).symm | exact (bI_f (allB_f2 (tg_n2 (by assumption) (by assumption) (by assumption)))).symm)
            refine v_to (ls' := [(0, .ref (u.2.1 63)), (2, .int (nI ro)), (3, .int (bI (allB (tgB σ ro) (k + 1) = true))), (4, .int (nI (k + 1)))]) (by first | rfl | rw [g19] | simp_all) ?_
            exact ih (k + 1) (by omega) (by omega)
set_option maxHeartbeats 4000000 in
theorem c_M_needTriples (l : Launch) (u : Un) (hA : Ap u) (σ : St) {n : Nat} {kd : Nat → Nat} (hb : mkOk σ n kd) (i r : Int32) (hI : mRowsOk σ) : MTi l u y_M_needTriples b_M_needTriples 5 .int 2 [.ref (u.2.1 63), .int i, .int r] σ (fun x σ' => trM1 σ n i r x σ' 0 σ) := by
  refine MT_of hA rfl (by decide) (Nat.le_of_ble_eq_true rfl) (fun X hl F hr => ?_)
  subst hl
  refine v_to (ls' := [(0, .ref (u.2.1 63)), (1, .int i), (2, .int r)]) rfl ?_
  obtain ⟨hn, hn6, hkd, hk6⟩ := id hb
  refine v_aload_n F d_M_needTriples_0 rfl 0 rfl ?_
  refine v_iload_n F d_M_needTriples_1 rfl 1 rfl ?_
  refine v_runi (r_V F (c_M_isThief X.2.1 u hA σ (fr.rf.mk hb) i) mo_M_isThief st_M_191 rc_63 (by decide) rfl (Nat.le_of_ble_eq_true rfl) d_M_needTriples_2) (fun r1 σ2 q3 => ?_)
  obtain ⟨rfl, rfl⟩ := q3
  refine v_bt F 15 d_M_needTriples_5 rfl (fun h5 => ?_) (fun h5 => ?_)
  · skip
    refine v_iconst (v := (-1)) F d_M_needTriples_15 ki_m1 ?_
    refine v_iret F hr rfl d_M_needTriples_16 ?_
    exact Or.inl ⟨by first | exact fun q => h5 q.1 | exact fun q => h12 q.2, rfl, rfl⟩
  · skip
    refine v_iload_n F d_M_needTriples_8 rfl 2 rfl ?_
    refine v_runi (r_S F (c_M_isRow X.2.1 u hA σ r ) mo_M_isRow st_M_99 (by decide) rfl (Nat.le_of_ble_eq_true rfl) d_M_needTriples_9) (fun r4 σ5 q6 => ?_)
    obtain ⟨rfl, rfl⟩ := q6
    refine v_bf F 17 d_M_needTriples_12 rfl (fun h12 => ?_) (fun h12 => ?_)
    · skip
      obtain ⟨ro, hro, xr, rfl⟩ := inR_nat (N := 6) h12 rfl (by decide)
      refine v_aload_n F d_M_needTriples_17 rfl 0 rfl ?_
      refine v_getr (r := 65) F fk_M_17 G63 rfl d_M_needTriples_18 ?_
      refine v_iload_n F d_M_needTriples_21 rfl 2 rfl ?_
      refine v_ial F ro G65 rfl (by omega) d_M_needTriples_22 ?_
      refine v_if_ge F 32 d_M_needTriples_23 rfl (fun h23 => ?_) (fun h23 => ?_)
      · skip
        obtain ⟨N, hN, xN, eN⟩ := nat_of (M := 40) h23 (hI _ hro) rfl (by decide)
        have eR : rdM σ ro = N := xN
        refine v_aload_n F d_M_needTriples_32 rfl 0 rfl ?_
        refine v_getr (r := 65) F fk_M_17 G63 rfl d_M_needTriples_33 ?_
        refine v_iload_n F d_M_needTriples_36 rfl 2 rfl ?_
        refine v_ial F ro G65 rfl (by omega) d_M_needTriples_37 ?_
        refine v_te (y := nI N) eN ?_
        refine v_iconst (v := 3) F d_M_needTriples_38 ki_3 ?_
        refine v_irem F d_M_needTriples_39 (by decide) ?_
        refine v_te (y := nI (N % 3)) (rem3 hN) ?_
        refine v_if_eq F 49 d_M_needTriples_40 rfl (fun h40 => ?_) (fun h40 => ?_)
        · skip
          have h40 : N % 3 = 0 := (nI_eq (a := N % 3) (b := 0) (by omega) (by omega)).mp h40
          refine v_iconst (v := 1) F d_M_needTriples_49 ki_1 ?_
          refine v_istore_n (ls' := [(3, .int 1), (0, .ref (u.2.1 63)), (1, .int i), (2, .int (nI ro))]) F d_M_needTriples_50 rfl (by decide) rfl ?_
          refine v_iconst (v := 0) F d_M_needTriples_51 ki_0 ?_
          refine v_istore (ls' := [(4, .int 0), (3, .int 1), (0, .ref (u.2.1 63)), (1, .int i), (2, .int (nI ro))]) F d_M_needTriples_52 (by decide) rfl ?_
          refine v_sub [2, 4, 1, 0] (ls' := [(0, .ref (u.2.1 63)), (2, .int (nI ro)), (3, .int 1), (4, .int 0)]) rfl ?_
          have g7 : 1 = (bI (allB (tgB σ ro) 0 = true)) := (by first | rfl | exact (bI_t (allB_s (by assumption) (tg_0 (by assumption) (by assumption)))).symm | exact (bI_t (allB_s (by assumption) (tg_1 (by assumption) (by assumption) (by assumption)))).symm | exact (bI_t (allB_s (by assumption) (tg_2 (by assumption) (by assumption) (by assumption)))).symm | exact (bI_f (allB_f (by assumption))).symm | exact (bI_f (allB_f2 (tg_n0 (by assumption) (by assumption)))).symm | exact (bI_f (allB_f2 (tg_n1 (by assumption) (by assumption) (by assumption)))).symm | exact (bI_f (allB_f2 (tg_n2 (by assumption) (by assumption) (by assumption)))).symm)
          have g8 : 0 = (nI 0) := (by first | rfl | exact (bI_t (allB_s (by assumption) (tg_0 (by assumption) (by assumption)))).symm | exact (bI_t (allB_s (by assumption) (tg_1 (by assumption) (by assumption) (by assumption)))).symm | exact (bI_t (allB_s (by assumption) (tg_2 (by assumption) (by assumption) (by assumption)))).symm | exact (bI_f (allB_f (by assumption))).symm | exact (bI_f (allB_f2 (tg_n0 (by assumption) (by assumption)))).symm | exact (bI_f (allB_f2 (tg_n1 (by assumption) (by assumption) (by assumption)))).symm | exact (bI_f (allB_f2 (tg_n2 (by assumption) (by assumption) (by assumption)))).symm)
          refine v_to (ls' := [(0, .ref (u.2.1 63)), (2, .int (nI ro)), (3, .int (bI (allB (tgB σ ro) 0 = true))), (4, .int (nI 0))]) (by first | rfl | rw [g7, g8] | simp_all) ?_
          refine L_M_needTriples_54 hA F hro hN eN ?_ _ 0 (Nat.zero_le _) (Nat.lt_succ_self _)
          refine v_iload_n F d_M_needTriples_120 rfl 2 rfl ?_
          refine v_bt F 128 d_M_needTriples_121 rfl (fun h121 => ?_) (fun h121 => ?_)
          · skip
            refine v_aload_n F d_M_needTriples_128 rfl 0 rfl ?_
            refine v_iconst (v := 3) F d_M_needTriples_129 ki_3 ?_
            refine v_runi (r_V F (c_M_meets X.2.1 u hA σ 3 (by decide)) mo_M_meets st_M_103 rc_63 (by decide) rfl (Nat.le_of_ble_eq_true rfl) d_M_needTriples_130) (fun r9 σ10 q11 => ?_)
            obtain ⟨rfl, eσ10⟩ := q11
            refine v_iret F hr rfl d_M_needTriples_133 ?_
            refine Or.inr ⟨⟨h5, by assumption⟩, Or.inr (Or.inr ?_)⟩
            rw [xr, eR]
            exact Or.inr ⟨h23, h40, h121, rfl, by assumption⟩
          · skip
            refine v_iconst (v := 0) F d_M_needTriples_124 ki_0 ?_
            refine v_goto F 133 d_M_needTriples_125 rfl ?_
            refine v_iret F hr rfl d_M_needTriples_133 ?_
            refine Or.inr ⟨⟨h5, by assumption⟩, Or.inr (Or.inr ?_)⟩
            rw [xr, eR]
            exact Or.inl ⟨h23, h40, h121, rfl, rfl⟩
        · skip
          have h40 : ¬ N % 3 = 0 := fun q => h40 ((nI_eq (a := N % 3) (b := 0) (by omega) (by omega)).mpr q)
          refine v_aload_n F d_M_needTriples_43 rfl 0 rfl ?_
          refine v_iconst (v := 5) F d_M_needTriples_44 ki_5 ?_
          refine v_runi (r_V F (c_M_meets X.2.1 u hA σ 5 (by decide)) mo_M_meets st_M_103 rc_63 (by decide) rfl (Nat.le_of_ble_eq_true rfl) d_M_needTriples_45) (fun r12 σ13 q14 => ?_)
          obtain ⟨rfl, eσ13⟩ := q14
          refine v_iret F hr rfl d_M_needTriples_48 ?_
          exact Or.inr ⟨⟨h5, by assumption⟩, Or.inr (Or.inl ⟨by rw [xr]; exact h23, by rw [xr, eR]; exact h40, rfl, by assumption⟩)⟩
      · skip
        refine v_aload_n F d_M_needTriples_26 rfl 0 rfl ?_
        refine v_iconst (v := 1) F d_M_needTriples_27 ki_1 ?_
        refine v_runi (r_V F (c_M_meets X.2.1 u hA σ 1 (by decide)) mo_M_meets st_M_103 rc_63 (by decide) rfl (Nat.le_of_ble_eq_true rfl) d_M_needTriples_28) (fun r15 σ16 q17 => ?_)
        obtain ⟨rfl, eσ16⟩ := q17
        refine v_iret F hr rfl d_M_needTriples_31 ?_
        exact Or.inr ⟨⟨h5, by assumption⟩, Or.inl ⟨by rw [xr]; exact i_lt_le.mp h23, rfl, by assumption⟩⟩
    · skip
      refine v_iconst (v := (-1)) F d_M_needTriples_15 ki_m1 ?_
      refine v_iret F hr rfl d_M_needTriples_16 ?_
      exact Or.inl ⟨by first | exact fun q => h5 q.1 | exact fun q => h12 q.2, rfl, rfl⟩
abbrev b_M_isTold : ByteArray := prog_14_method_80_code
abbrev y_M_isTold : MethodName := ⟨"TakerBookModel", "isTold", "(IIII)Z"⟩
theorem d_M_isTold_0 : decode b_M_isTold 0 = .ok (.iconst 1, 1) := by decide +kernel
theorem d_M_isTold_1 : decode b_M_isTold 1 = .ok (.istore 5, 2) := by decide +kernel
theorem d_M_isTold_3 : decode b_M_isTold 3 = .ok (.iconst 0, 1) := by decide +kernel
theorem d_M_isTold_4 : decode b_M_isTold 4 = .ok (.istore 6, 2) := by decide +kernel
theorem d_M_isTold_6 : decode b_M_isTold 6 = .ok (.iload 6, 2) := by decide +kernel
theorem d_M_isTold_8 : decode b_M_isTold 8 = .ok (.aload_n 0, 1) := by decide +kernel
theorem d_M_isTold_9 : decode b_M_isTold 9 = .ok (.getfield 17, 3) := by decide +kernel
theorem d_M_isTold_12 : decode b_M_isTold 12 = .ok (.iload 4, 2) := by decide +kernel
theorem d_M_isTold_14 : decode b_M_isTold 14 = .ok (.iaload, 1) := by decide +kernel
theorem d_M_isTold_15 : decode b_M_isTold 15 = .ok (.if_icmp .ge 75, 3) := by decide +kernel
theorem d_M_isTold_18 : decode b_M_isTold 18 = .ok (.iload 5, 2) := by decide +kernel
theorem d_M_isTold_20 : decode b_M_isTold 20 = .ok (.ifCond .eq 61, 3) := by decide +kernel
theorem d_M_isTold_23 : decode b_M_isTold 23 = .ok (.iload_n 2, 1) := by decide +kernel
theorem d_M_isTold_24 : decode b_M_isTold 24 = .ok (.iload_n 3, 1) := by decide +kernel
theorem d_M_isTold_25 : decode b_M_isTold 25 = .ok (.aload_n 0, 1) := by decide +kernel
theorem d_M_isTold_26 : decode b_M_isTold 26 = .ok (.iload 4, 2) := by decide +kernel
theorem d_M_isTold_28 : decode b_M_isTold 28 = .ok (.iload 6, 2) := by decide +kernel
theorem d_M_isTold_30 : decode b_M_isTold 30 = .ok (.invokevirtual 107, 3) := by decide +kernel
theorem d_M_isTold_33 : decode b_M_isTold 33 = .ok (.aload_n 0, 1) := by decide +kernel
theorem d_M_isTold_34 : decode b_M_isTold 34 = .ok (.iload 4, 2) := by decide +kernel
theorem d_M_isTold_36 : decode b_M_isTold 36 = .ok (.iload 6, 2) := by decide +kernel
theorem d_M_isTold_38 : decode b_M_isTold 38 = .ok (.iconst 1, 1) := by decide +kernel
theorem d_M_isTold_39 : decode b_M_isTold 39 = .ok (.iadd, 1) := by decide +kernel
theorem d_M_isTold_40 : decode b_M_isTold 40 = .ok (.invokevirtual 107, 3) := by decide +kernel
theorem d_M_isTold_43 : decode b_M_isTold 43 = .ok (.aload_n 0, 1) := by decide +kernel
theorem d_M_isTold_44 : decode b_M_isTold 44 = .ok (.aload_n 0, 1) := by decide +kernel
theorem d_M_isTold_45 : decode b_M_isTold 45 = .ok (.getfield 51, 3) := by decide +kernel
theorem d_M_isTold_48 : decode b_M_isTold 48 = .ok (.iload_n 1, 1) := by decide +kernel
theorem d_M_isTold_49 : decode b_M_isTold 49 = .ok (.invokevirtual 159, 3) := by decide +kernel
theorem d_M_isTold_52 : decode b_M_isTold 52 = .ok (.invokestatic 163, 3) := by decide +kernel
theorem d_M_isTold_55 : decode b_M_isTold 55 = .ok (.aload_n 0, 1) := by decide +kernel
theorem d_M_isTold_56 : decode b_M_isTold 56 = .ok (.iload 4, 2) := by decide +kernel
theorem d_M_isTold_58 : decode b_M_isTold 58 = .ok (.iload 6, 2) := by decide +kernel
theorem d_M_isTold_60 : decode b_M_isTold 60 = .ok (.iconst 2, 1) := by decide +kernel
theorem d_M_isTold_61 : decode b_M_isTold 61 = .ok (.iadd, 1) := by decide +kernel
theorem d_M_isTold_62 : decode b_M_isTold 62 = .ok (.invokevirtual 107, 3) := by decide +kernel
theorem d_M_isTold_65 : decode b_M_isTold 65 = .ok (.iconst 1, 1) := by decide +kernel
theorem d_M_isTold_66 : decode b_M_isTold 66 = .ok (.if_icmp .ne 7, 3) := by decide +kernel
theorem d_M_isTold_69 : decode b_M_isTold 69 = .ok (.iconst 1, 1) := by decide +kernel
theorem d_M_isTold_70 : decode b_M_isTold 70 = .ok (.goto 4, 3) := by decide +kernel
theorem d_M_isTold_73 : decode b_M_isTold 73 = .ok (.iconst 0, 1) := by decide +kernel
theorem d_M_isTold_74 : decode b_M_isTold 74 = .ok (.if_icmp .ne 7, 3) := by decide +kernel
theorem d_M_isTold_77 : decode b_M_isTold 77 = .ok (.iconst 1, 1) := by decide +kernel
theorem d_M_isTold_78 : decode b_M_isTold 78 = .ok (.goto 4, 3) := by decide +kernel
theorem d_M_isTold_81 : decode b_M_isTold 81 = .ok (.iconst 0, 1) := by decide +kernel
theorem d_M_isTold_82 : decode b_M_isTold 82 = .ok (.istore 5, 2) := by decide +kernel
theorem d_M_isTold_84 : decode b_M_isTold 84 = .ok (.iinc 6 3, 3) := by decide +kernel
theorem d_M_isTold_87 : decode b_M_isTold 87 = .ok (.goto (-81), 3) := by decide +kernel
theorem d_M_isTold_90 : decode b_M_isTold 90 = .ok (.iload 5, 2) := by decide +kernel
theorem d_M_isTold_92 : decode b_M_isTold 92 = .ok (.ireturn, 1) := by decide +kernel
theorem mo_M_isTold : mok y_M_isTold b_M_isTold 7 (some .boolean) 4 := ⟨List.mem_of_getElem? (i := 1413) (by decide +kernel), ⟨by decide +kernel, by decide +kernel, by decide +kernel⟩, List.mem_of_getElem? (i := 86) (by decide +kernel), by decide⟩
set_option maxHeartbeats 4000000 in
theorem L_M_isTold_6 {X : FX} {u : Un} (hA : Ap u) {Q : State → Prop} (F : Fr X u "TakerBookModel" b_M_isTold 7) {σ : St} {n : Nat} {kd : Nat → Nat} (hb : mkOk σ n kd) {a : Nat} (ha : a < 64) (h0 : σ.1 76 0 = nI a) {ro T i kN : Nat} {b : Int32} (hro : ro < 6) (hT : T ≤ 13) (eN : σ.1 65 ro = nI (3 * T)) (hi : i < n) (hk : kN < 6) (k : V X u 2 7 Q 90 [(0, .ref (u.2.1 63)), (1, .int (nI i)), (2, .int (nI kN)), (3, .int b), (4, .int (nI ro)), (5, .int (bI (allB (stB σ ro kN b (nI (othN a (gaN kd n) i))) T = true))), (6, .int (nI (3 * T)))] [] (σ)) : ∀ (nn t : Nat), t ≤ T → T - t < nn → V X u 2 7 Q 6 [(0, .ref (u.2.1 63)), (1, .int (nI i)), (2, .int (nI kN)), (3, .int b), (4, .int (nI ro)), (5, .int (bI (allB (stB σ ro kN b (nI (othN a (gaN kd n) i))) t = true))), (6, .int (nI (3 * t)))] [] (σ) := by
  intro nn
  induction nn with
  | zero =>
    intro t h1 h2
    exact absurd h2 (Nat.not_lt_zero _)
  | succ nn ih =>
    intro t hii hnn
    obtain ⟨hn, hn6, hkd, hk6⟩ := id hb
    refine v_iload F d_M_isTold_6 6 rfl ?_
    refine v_aload_n F d_M_isTold_8 rfl 0 rfl ?_
    refine v_getr (r := 65) F fk_M_17 G63 rfl d_M_isTold_9 ?_
    refine v_iload F d_M_isTold_12 4 rfl ?_
    refine v_ial F ro G65 rfl (by omega) d_M_isTold_14 ?_
    refine v_te (y := nI (3 * T)) eN ?_
    refine v_icmp_ge F 90 d_M_isTold_15 rfl (fun h15 => ?_) (fun h15 => ?_)
    · skip
      have h15 : 3 * T ≤ 3 * t := (nI_leI (a := 3 * T) (b := 3 * t) (by omega) (by omega)).mp h15
      have he : t = T := by omega
      subst he
      exact k
    · skip
      have h15 : ¬ 3 * T ≤ 3 * t := fun q => h15 ((nI_leI (a := 3 * T) (b := 3 * t) (by omega) (by omega)).mpr q)
      refine v_iload F d_M_isTold_18 5 rfl ?_
      refine v_bt F 81 d_M_isTold_20 rfl (fun h20 => ?_) (fun h20 => ?_)
      · skip
        refine v_iconst (v := 0) F d_M_isTold_81 ki_0 ?_
        refine v_istore (ls' := [(5, .int 0), (0, .ref (u.2.1 63)), (1, .int (nI i)), (2, .int (nI kN)), (3, .int b), (4, .int (nI ro)), (6, .int (nI (3 * t)))]) F d_M_isTold_82 (by decide) rfl ?_
        refine v_iinc (v := nI (3 * t + 3)) (ls' := [(6, .int (nI (3 * t + 3))), (5, .int 0), (0, .ref (u.2.1 63)), (1, .int (nI i)), (2, .int (nI kN)), (3, .int b), (4, .int (nI ro))]) F d_M_isTold_84 (j := 6) rfl (nI_inc3 _) (by decide) rfl ?_
        refine v_goto F 6 d_M_isTold_87 rfl ?_
        refine v_sub [2, 3, 4, 5, 6, 1, 0] (ls' := [(0, .ref (u.2.1 63)), (1, .int (nI i)), (2, .int (nI kN)), (3, .int b), (4, .int (nI ro)), (5, .int 0), (6, .int (nI (3 * t + 3)))]) rfl ?_
        have g1 : 0 = (bI (allB (stB σ ro kN b (nI (othN a (gaN kd n) i))) (t + 1) = true)) := (by first | rfl | exact (bI_t (allB_s (by assumption) (sp_ok1 (by assumption) (by assumption)))).symm | exact (bI_t (allB_s (by assumption) (sp_ok0 (by assumption) (by assumption)))).symm | exact (bI_f (allB_f (by assumption))).symm | exact (bI_f (allB_f2 (fun q => sp_no1 q (by assumption) (by assumption)))).symm | exact (bI_f (allB_f2 (fun q => sp_no0 q (by assumption) (by assumption)))).symm)
        have g2 : (nI (3 * t + 3)) = (nI (3 * (t + 1))) := (by first | rfl | exact (bI_t (allB_s (by assumption) (sp_ok1 (by assumption) (by assumption)))).symm | exact (bI_t (allB_s (by assumption) (sp_ok0 (by assumption) (by assumption)))).symm | exact (bI_f (allB_f (by assumption))).symm | exact (bI_f (allB_f2 (fun q => sp_no1 q (by assumption) (by assumption)))).symm | exact (bI_f (allB_f2 (fun q => sp_no0 q (by assumption) (by assumption)))).symm)
        refine v_to (ls' := [(0, .ref (u.2.1 63)), (1, .int (nI i)), (2, .int (nI kN)), (3, .int b), (4, .int (nI ro)), (5, .int (bI (allB (stB σ ro kN b (nI (othN a (gaN kd n) i))) (t + 1) = true))), (6, .int (nI (3 * (t + 1))))]) (by first | rfl | rw [g1, g2] | simp_all) ?_
        exact ih (t + 1) (by omega) (by omega)
      · skip
        refine v_iload_n F d_M_isTold_23 rfl 2 rfl ?_
        refine v_iload_n F d_M_isTold_24 rfl 3 rfl ?_
        refine v_aload_n F d_M_isTold_25 rfl 0 rfl ?_
        refine v_iload F d_M_isTold_26 4 rfl ?_
        refine v_iload F d_M_isTold_28 6 rfl ?_
        refine v_runi (r_V F (c_M_rowAt X.2.1 u hA σ ro (3 * t) (by omega)) mo_M_rowAt st_M_107 rc_63 (by decide) rfl (Nat.le_of_ble_eq_true rfl) d_M_isTold_30) (fun r3 σ4 q5 => ?_)
        obtain ⟨rfl, rfl⟩ := q5
        refine v_aload_n F d_M_isTold_33 rfl 0 rfl ?_
        refine v_iload F d_M_isTold_34 4 rfl ?_
        refine v_iload F d_M_isTold_36 6 rfl ?_
        refine v_iconst (v := 1) F d_M_isTold_38 ki_1 ?_
        refine v_iadd F d_M_isTold_39 ?_
        refine v_te (y := nI (3 * t + 1)) (nI_add _ _) ?_
        refine v_runi (r_V F (c_M_rowAt X.2.1 u hA σ ro (3 * t + 1) (by omega)) mo_M_rowAt st_M_107 rc_63 (by decide) rfl (Nat.le_of_ble_eq_true rfl) d_M_isTold_40) (fun r6 σ7 q8 => ?_)
        obtain ⟨rfl, rfl⟩ := q8
        refine v_aload_n F d_M_isTold_43 rfl 0 rfl ?_
        refine v_aload_n F d_M_isTold_44 rfl 0 rfl ?_
        refine v_getr (r := 76) F fk_M_51 G63 rfl d_M_isTold_45 ?_
        refine v_iload_n F d_M_isTold_48 rfl 1 rfl ?_
        refine v_runi (r_V F (c_M_others_f X.2.1 u hA fr.rf hb (kO := 76) (Or.inl rfl) ha h0  i (by omega)) mo_M_others st_M_159 rc_63 (by decide) rfl (Nat.le_of_ble_eq_true rfl) d_M_isTold_49) (fun r9 σ10 q11 => ?_)
        obtain ⟨rfl, rfl⟩ := q11
        refine v_runi (r_S F (c_M_isSpeakingBy X.2.1 u hA σ kN hk b (σ.1 66 (40 * ro + (3 * t))) (σ.1 66 (40 * ro + (3 * t + 1))) (nI (othN a (gaN kd n) i))) mo_M_isSpeakingBy st_M_163 (by decide) rfl (Nat.le_of_ble_eq_true rfl) d_M_isTold_52) (fun r12 σ13 q14 => ?_)
        obtain ⟨rfl, rfl⟩ := q14
        refine v_aload_n F d_M_isTold_55 rfl 0 rfl ?_
        refine v_iload F d_M_isTold_56 4 rfl ?_
        refine v_iload F d_M_isTold_58 6 rfl ?_
        refine v_iconst (v := 2) F d_M_isTold_60 ki_2 ?_
        refine v_iadd F d_M_isTold_61 ?_
        refine v_te (y := nI (3 * t + 2)) (nI_add _ _) ?_
        refine v_runi (r_V F (c_M_rowAt X.2.1 u hA σ ro (3 * t + 2) (by omega)) mo_M_rowAt st_M_107 rc_63 (by decide) rfl (Nat.le_of_ble_eq_true rfl) d_M_isTold_62) (fun r15 σ16 q17 => ?_)
        obtain ⟨rfl, rfl⟩ := q17
        refine v_iconst (v := 1) F d_M_isTold_65 ki_1 ?_
        refine v_icmp_ne F 73 d_M_isTold_66 rfl (fun h66 => ?_) (fun h66 => ?_)
        · skip
          refine v_iconst (v := 0) F d_M_isTold_73 ki_0 ?_
          refine v_icmp_ne F 81 d_M_isTold_74 rfl (fun h74 => ?_) (fun h74 => ?_)
          · skip
            refine v_iconst (v := 0) F d_M_isTold_81 ki_0 ?_
            refine v_istore (ls' := [(5, .int 0), (0, .ref (u.2.1 63)), (1, .int (nI i)), (2, .int (nI kN)), (3, .int b), (4, .int (nI ro)), (6, .int (nI (3 * t)))]) F d_M_isTold_82 (by decide) rfl ?_
            refine v_iinc (v := nI (3 * t + 3)) (ls' := [(6, .int (nI (3 * t + 3))), (5, .int 0), (0, .ref (u.2.1 63)), (1, .int (nI i)), (2, .int (nI kN)), (3, .int b), (4, .int (nI ro))]) F d_M_isTold_84 (j := 6) rfl (nI_inc3 _) (by decide) rfl ?_
            refine v_goto F 6 d_M_isTold_87 rfl ?_
            refine v_sub [2, 3, 4, 5, 6, 1, 0] (ls' := [(0, .ref (u.2.1 63)), (1, .int (nI i)), (2, .int (nI kN)), (3, .int b), (4, .int (nI ro)), (5, .int 0), (6, .int (nI (3 * t + 3)))]) rfl ?_
            have g18 : 0 = (bI (allB (stB σ ro kN b (nI (othN a (gaN kd n) i))) (t + 1) = true)) := (by first | rfl | exact (bI_t (allB_s (by assumption) (sp_ok1 (by assumption) (by assumption)))).symm | exact (bI_t (allB_s (by assumption) (sp_ok0 (by assumption) (by assumption)))).symm | exact (bI_f (allB_f (by assumption))).symm | exact (bI_f (allB_f2 (fun q => sp_no1 q (by assumption) (by assumption)))).symm | exact (bI_f (allB_f2 (fun q => sp_no0 q (by assumption) (by assumption)))).symm)
            have g19 : (nI (3 * t + 3)) = (nI (3 * (t + 1))) := (by first | rfl | exact (bI_t (allB_s (by assumption) (sp_ok1 (by assumption) (by assumption)))).symm | exact (bI_t (allB_s (by assumption) (sp_ok0 (by assumption) (by assumption)))).symm | exact (bI_f (allB_f (by assumption))).symm | exact (bI_f (allB_f2 (fun q => sp_no1 q (by assumption) (by assumption)))).symm | exact (bI_f (allB_f2 (fun q => sp_no0 q (by assumption) (by assumption)))).symm)
            refine v_to (ls' := [(0, .ref (u.2.1 63)), (1, .int (nI i)), (2, .int (nI kN)), (3, .int b), (4, .int (nI ro)), (5, .int (bI (allB (stB σ ro kN b (nI (othN a (gaN kd n) i))) (t + 1) = true))), (6, .int (nI (3 * (t + 1))))]) (by first | rfl | rw [g18, g19] | simp_all) ?_
            exact ih (t + 1) (by omega) (by omega)
          · skip
            refine v_iconst (v := 1) F d_M_isTold_77 ki_1 ?_
            refine v_goto F 82 d_M_isTold_78 rfl ?_
            refine v_istore (ls' := [(5, .int 1), (0, .ref (u.2.1 63)), (1, .int (nI i)), (2, .int (nI kN)), (3, .int b), (4, .int (nI ro)), (6, .int (nI (3 * t)))]) F d_M_isTold_82 (by decide) rfl ?_
            refine v_iinc (v := nI (3 * t + 3)) (ls' := [(6, .int (nI (3 * t + 3))), (5, .int 1), (0, .ref (u.2.1 63)), (1, .int (nI i)), (2, .int (nI kN)), (3, .int b), (4, .int (nI ro))]) F d_M_isTold_84 (j := 6) rfl (nI_inc3 _) (by decide) rfl ?_
            refine v_goto F 6 d_M_isTold_87 rfl ?_
            refine v_sub [2, 3, 4, 5, 6, 1, 0] (ls' := [(0, .ref (u.2.1 63)), (1, .int (nI i)), (2, .int (nI kN)), (3, .int b), (4, .int (nI ro)), (5, .int 1), (6, .int (nI (3 * t + 3)))]) rfl ?_
            have g20 : 1 = (bI (allB (stB σ ro kN b (nI (othN a (gaN kd n) i))) (t + 1) = true)) := (by first | rfl | exact (bI_t (allB_s (by assumption) (sp_ok1 (by assumption) (by assumption)))).symm | exact (bI_t (allB_s (by assumption) (sp_ok0 (by assumption) (by assumption)))).symm | exact (bI_f (allB_f (by assumption))).symm | exact (bI_f (allB_f2 (fun q => sp_no1 q (by assumption) (by assumption)))).symm | exact (bI_f (allB_f2 (fun q => sp_no0 q (by assumption) (by assumption)))).symm)
            have g21 : (nI (3 * t + 3)) = (nI (3 * (t + 1))) := (by first | rfl | exact (bI_t (allB_s (by assumption) (sp_ok1 (by assumption) (by assumption)))).symm | exact (bI_t (allB_s (by assumption) (sp_ok0 (by assumption) (by assumption)))).symm | exact (bI_f (allB_f (by assumption))).symm | exact (bI_f (allB_f2 (fun q => sp_no1 q (by assumption) (by assumption)))).symm | exact (bI_f (allB_f2 (fun q => sp_no0 q (by assumption) (by assumption)))).symm)
            refine v_to (ls' := [(0, .ref (u.2.1 63)), (1, .int (nI i)), (2, .int (nI kN)), (3, .int b), (4, .int (nI ro)), (5, .int (bI (allB (stB σ ro kN b (nI (othN a (gaN kd n) i))) (t + 1) = true))), (6, .int (nI (3 * (t + 1))))]) (by first | rfl | rw [g20, g21] | simp_all) ?_
            exact ih (t + 1) (by omega) (by omega)
        · skip
          refine v_iconst (v := 1) F d_M_isTold_69 ki_1 ?_
          refine v_goto F 74 d_M_isTold_70 rfl ?_
          refine v_icmp_ne F 81 d_M_isTold_74 rfl (fun h74 => ?_) (fun h74 => ?_)
          · skip
            refine v_iconst (v := 0) F d_M_isTold_81 ki_0 ?_
            refine v_istore (ls' := [(5, .int 0), (0, .ref (u.2.1 63)), (1, .int (nI i)), (2, .int (nI kN)), (3, .int b), (4, .int (nI ro)), (6, .int (nI (3 * t)))]) F d_M_isTold_82 (by decide) rfl ?_
            refine v_iinc (v := nI (3 * t + 3)) (ls' := [(6, .int (nI (3 * t + 3))), (5, .int 0), (0, .ref (u.2.1 63)), (1, .int (nI i)), (2, .int (nI kN)), (3, .int b), (4, .int (nI ro))]) F d_M_isTold_84 (j := 6) rfl (nI_inc3 _) (by decide) rfl ?_
            refine v_goto F 6 d_M_isTold_87 rfl ?_
            refine v_sub [2, 3, 4, 5, 6, 1, 0] (ls' := [(0, .ref (u.2.1 63)), (1, .int (nI i)), (2, .int (nI kN)), (3, .int b), (4, .int (nI ro)), (5, .int 0), (6, .int (nI (3 * t + 3)))]) rfl ?_
            have g22 : 0 = (bI (allB (stB σ ro kN b (nI (othN a (gaN kd n) i))) (t + 1) = true)) := (by first | rfl | exact (bI_t (allB_s (by assumption) (sp_ok1 (by assumption) (by assumption)))).symm | exact (bI_t (allB_s (by assumption) (sp_ok0 (by assumption) (by assumption)))).symm | exact (bI_f (allB_f (by assumption))).symm | exact (bI_f (allB_f2 (fun q => sp_no1 q (by assumption) (by assumption)))).symm | exact (bI_f (allB_f2 (fun q => sp_no0 q (by assumption) (by assumption)))).symm)
            have g23 : (nI (3 * t + 3)) = (nI (3 * (t + 1))) := (by first | rfl | exact (bI_t (allB_s (by assumption) (sp_ok1 (by assumption) (by assumption)))).symm | exact (bI_t (allB_s (by assumption) (sp_ok0 (by assumption) (by assumption)))).symm | exact (bI_f (allB_f (by assumption))).symm | exact (bI_f (allB_f2 (fun q => sp_no1 q (by assumption) (by assumption)))).symm | exact (bI_f (allB_f2 (fun q => sp_no0 q (by assumption) (by assumption)))).symm)
            refine v_to (ls' := [(0, .ref (u.2.1 63)), (1, .int (nI i)), (2, .int (nI kN)), (3, .int b), (4, .int (nI ro)), (5, .int (bI (allB (stB σ ro kN b (nI (othN a (gaN kd n) i))) (t + 1) = true))), (6, .int (nI (3 * (t + 1))))]) (by first | rfl | rw [g22, g23] | simp_all) ?_
            exact ih (t + 1) (by omega) (by omega)
          · skip
            refine v_iconst (v := 1) F d_M_isTold_77 ki_1 ?_
            refine v_goto F 82 d_M_isTold_78 rfl ?_
            refine v_istore (ls' := [(5, .int 1), (0, .ref (u.2.1 63)), (1, .int (nI i)), (2, .int (nI kN)), (3, .int b), (4, .int (nI ro)), (6, .int (nI (3 * t)))]) F d_M_isTold_82 (by decide) rfl ?_
            refine v_iinc (v := nI (3 * t + 3)) (ls' := [(6, .int (nI (3 * t + 3))), (5, .int 1), (0, .ref (u.2.1 63)), (1, .int (nI i)), (2, .int (nI kN)), (3, .int b), (4, .int (nI ro))]) F d_M_isTold_84 (j := 6) rfl (nI_inc3 _) (by decide) rfl ?_
            refine v_goto F 6 d_M_isTold_87 rfl ?_
            refine v_sub [2, 3, 4, 5, 6, 1, 0] (ls' := [(0, .ref (u.2.1 63)), (1, .int (nI i)), (2, .int (nI kN)), (3, .int b), (4, .int (nI ro)), (5, .int 1), (6, .int (nI (3 * t + 3)))]) rfl ?_
            have g24 : 1 = (bI (allB (stB σ ro kN b (nI (othN a (gaN kd n) i))) (t + 1) = true)) := (by first | rfl | exact (bI_t (allB_s (by assumption) (sp_ok1 (by assumption) (by assumption)))).symm | exact (bI_t (allB_s (by assumption) (sp_ok0 (by assumption) (by assumption)))).symm | exact (bI_f (allB_f (by assumption))).symm | exact (bI_f (allB_f2 (fun q => sp_no1 q (by assumption) (by assumption)))).symm | exact (bI_f (allB_f2 (fun q => sp_no0 q (by assumption) (by assumption)))).symm)
            have g25 : (nI (3 * t + 3)) = (nI (3 * (t + 1))) := (by first | rfl | exact (bI_t (allB_s (by assumption) (sp_ok1 (by assumption) (by assumption)))).symm | exact (bI_t (allB_s (by assumption) (sp_ok0 (by assumption) (by assumption)))).symm | exact (bI_f (allB_f (by assumption))).symm | exact (bI_f (allB_f2 (fun q => sp_no1 q (by assumption) (by assumption)))).symm | exact (bI_f (allB_f2 (fun q => sp_no0 q (by assumption) (by assumption)))).symm)
            refine v_to (ls' := [(0, .ref (u.2.1 63)), (1, .int (nI i)), (2, .int (nI kN)), (3, .int b), (4, .int (nI ro)), (5, .int (bI (allB (stB σ ro kN b (nI (othN a (gaN kd n) i))) (t + 1) = true))), (6, .int (nI (3 * (t + 1))))]) (by first | rfl | rw [g24, g25] | simp_all) ?_
            exact ih (t + 1) (by omega) (by omega)
set_option maxHeartbeats 4000000 in
theorem c_M_isTold (l : Launch) (u : Un) (hA : Ap u) (σ : St) {n : Nat} {kd : Nat → Nat} (hb : mkOk σ n kd) {a : Nat} (ha : a < 64) (h0 : σ.1 76 0 = nI a) {ro T : Nat} (hro : ro < 6) (hT : T ≤ 13) (eN : σ.1 65 ro = nI (3 * T)) (i kN : Nat) (b : Int32) (hi : i < n) (hk : kN < 6) : MTi l u y_M_isTold b_M_isTold 7 .boolean 2 [.ref (u.2.1 63), .int (nI i), .int (nI kN), .int b, .int (nI ro)] σ (fun ans σ' => bI (allB (stB σ ro kN b (nI (othN a (gaN kd n) i))) T = true) = ans ∧ σ = σ') := by
  refine MT_of hA rfl (by decide) (Nat.le_of_ble_eq_true rfl) (fun X hl F hr => ?_)
  subst hl
  refine v_to (ls' := [(0, .ref (u.2.1 63)), (1, .int (nI i)), (2, .int (nI kN)), (3, .int b), (4, .int (nI ro))]) rfl ?_
  obtain ⟨hn, hn6, hkd, hk6⟩ := id hb
  refine v_iconst (v := 1) F d_M_isTold_0 ki_1 ?_
  refine v_istore (ls' := [(5, .int 1), (0, .ref (u.2.1 63)), (1, .int (nI i)), (2, .int (nI kN)), (3, .int b), (4, .int (nI ro))]) F d_M_isTold_1 (by decide) rfl ?_
  refine v_iconst (v := 0) F d_M_isTold_3 ki_0 ?_
  refine v_istore (ls' := [(6, .int 0), (5, .int 1), (0, .ref (u.2.1 63)), (1, .int (nI i)), (2, .int (nI kN)), (3, .int b), (4, .int (nI ro))]) F d_M_isTold_4 (by decide) rfl ?_
  refine v_sub [2, 3, 4, 5, 6, 1, 0] (ls' := [(0, .ref (u.2.1 63)), (1, .int (nI i)), (2, .int (nI kN)), (3, .int b), (4, .int (nI ro)), (5, .int 1), (6, .int 0)]) rfl ?_
  have g1 : 1 = (bI (allB (stB σ ro kN b (nI (othN a (gaN kd n) i))) 0 = true)) := (by first | rfl | exact (bI_t (allB_s (by assumption) (sp_ok1 (by assumption) (by assumption)))).symm | exact (bI_t (allB_s (by assumption) (sp_ok0 (by assumption) (by assumption)))).symm | exact (bI_f (allB_f (by assumption))).symm | exact (bI_f (allB_f2 (fun q => sp_no1 q (by assumption) (by assumption)))).symm | exact (bI_f (allB_f2 (fun q => sp_no0 q (by assumption) (by assumption)))).symm)
  have g2 : 0 = (nI (3 * 0)) := (by first | rfl | exact (bI_t (allB_s (by assumption) (sp_ok1 (by assumption) (by assumption)))).symm | exact (bI_t (allB_s (by assumption) (sp_ok0 (by assumption) (by assumption)))).symm | exact (bI_f (allB_f (by assumption))).symm | exact (bI_f (allB_f2 (fun q => sp_no1 q (by assumption) (by assumption)))).symm | exact (bI_f (allB_f2 (fun q => sp_no0 q (by assumption) (by assumption)))).symm)
  refine v_to (ls' := [(0, .ref (u.2.1 63)), (1, .int (nI i)), (2, .int (nI kN)), (3, .int b), (4, .int (nI ro)), (5, .int (bI (allB (stB σ ro kN b (nI (othN a (gaN kd n) i))) 0 = true))), (6, .int (nI (3 * 0)))]) (by first | rfl | rw [g1, g2] | simp_all) ?_
  refine L_M_isTold_6 hA F hb ha h0 hro hT eN hi hk ?_ _ 0 (Nat.zero_le _) (Nat.lt_succ_self _)
  refine v_iload F d_M_isTold_90 5 rfl ?_
  refine v_iret F hr bI_nar d_M_isTold_92 ?_
  exact ⟨rfl, rfl⟩
abbrev b_M_bold : ByteArray := prog_14_method_81_code
abbrev y_M_bold : MethodName := ⟨"TakerBookModel", "bold", "(II)I"⟩
theorem d_M_bold_0 : decode b_M_bold 0 = .ok (.aload_n 0, 1) := by decide +kernel
theorem d_M_bold_1 : decode b_M_bold 1 = .ok (.iload_n 1, 1) := by decide +kernel
theorem d_M_bold_2 : decode b_M_bold 2 = .ok (.iload_n 2, 1) := by decide +kernel
theorem d_M_bold_3 : decode b_M_bold 3 = .ok (.invokevirtual 274, 3) := by decide +kernel
theorem d_M_bold_6 : decode b_M_bold 6 = .ok (.istore_n 3, 1) := by decide +kernel
theorem d_M_bold_7 : decode b_M_bold 7 = .ok (.iload_n 3, 1) := by decide +kernel
theorem d_M_bold_8 : decode b_M_bold 8 = .ok (.ifCond .ge 5, 3) := by decide +kernel
theorem d_M_bold_11 : decode b_M_bold 11 = .ok (.iload_n 3, 1) := by decide +kernel
theorem d_M_bold_12 : decode b_M_bold 12 = .ok (.ireturn, 1) := by decide +kernel
theorem d_M_bold_13 : decode b_M_bold 13 = .ok (.iconst 0, 1) := by decide +kernel
theorem d_M_bold_14 : decode b_M_bold 14 = .ok (.istore 4, 2) := by decide +kernel
theorem d_M_bold_16 : decode b_M_bold 16 = .ok (.iconst 0, 1) := by decide +kernel
theorem d_M_bold_17 : decode b_M_bold 17 = .ok (.istore 5, 2) := by decide +kernel
theorem d_M_bold_19 : decode b_M_bold 19 = .ok (.iload 5, 2) := by decide +kernel
theorem d_M_bold_21 : decode b_M_bold 21 = .ok (.bipush 9, 2) := by decide +kernel
theorem d_M_bold_23 : decode b_M_bold 23 = .ok (.if_icmp .gt 39, 3) := by decide +kernel
theorem d_M_bold_26 : decode b_M_bold 26 = .ok (.iload 4, 2) := by decide +kernel
theorem d_M_bold_28 : decode b_M_bold 28 = .ok (.aload_n 0, 1) := by decide +kernel
theorem d_M_bold_29 : decode b_M_bold 29 = .ok (.iload_n 1, 1) := by decide +kernel
theorem d_M_bold_30 : decode b_M_bold 30 = .ok (.aload_n 0, 1) := by decide +kernel
theorem d_M_bold_31 : decode b_M_bold 31 = .ok (.getfield 36, 3) := by decide +kernel
theorem d_M_bold_34 : decode b_M_bold 34 = .ok (.iload_n 1, 1) := by decide +kernel
theorem d_M_bold_35 : decode b_M_bold 35 = .ok (.iaload, 1) := by decide +kernel
theorem d_M_bold_36 : decode b_M_bold 36 = .ok (.iload 5, 2) := by decide +kernel
theorem d_M_bold_38 : decode b_M_bold 38 = .ok (.iload_n 2, 1) := by decide +kernel
theorem d_M_bold_39 : decode b_M_bold 39 = .ok (.invokevirtual 277, 3) := by decide +kernel
theorem d_M_bold_42 : decode b_M_bold 42 = .ok (.ifCond .eq 10, 3) := by decide +kernel
theorem d_M_bold_45 : decode b_M_bold 45 = .ok (.iconst 1, 1) := by decide +kernel
theorem d_M_bold_46 : decode b_M_bold 46 = .ok (.iload 5, 2) := by decide +kernel
theorem d_M_bold_48 : decode b_M_bold 48 = .ok (.ishl, 1) := by decide +kernel
theorem d_M_bold_49 : decode b_M_bold 49 = .ok (.goto 4, 3) := by decide +kernel
theorem d_M_bold_52 : decode b_M_bold 52 = .ok (.iconst 0, 1) := by decide +kernel
theorem d_M_bold_53 : decode b_M_bold 53 = .ok (.ior, 1) := by decide +kernel
theorem d_M_bold_54 : decode b_M_bold 54 = .ok (.istore 4, 2) := by decide +kernel
theorem d_M_bold_56 : decode b_M_bold 56 = .ok (.iinc 5 1, 3) := by decide +kernel
theorem d_M_bold_59 : decode b_M_bold 59 = .ok (.goto (-40), 3) := by decide +kernel
theorem d_M_bold_62 : decode b_M_bold 62 = .ok (.iload 4, 2) := by decide +kernel
theorem d_M_bold_64 : decode b_M_bold 64 = .ok (.ireturn, 1) := by decide +kernel
theorem mo_M_bold : mok y_M_bold b_M_bold 6 (some .int) 2 := ⟨List.mem_of_getElem? (i := 1405) (by decide +kernel), ⟨by decide +kernel, by decide +kernel, by decide +kernel⟩, List.mem_of_getElem? (i := 86) (by decide +kernel), by decide⟩
set_option maxHeartbeats 4000000 in
theorem L_M_bold_19 {X : FX} {u : Un} (hA : Ap u) {Q : State → Prop} (F : Fr X u "TakerBookModel" b_M_bold 6) {σ : St} {n : Nat} {kd : Nat → Nat} (hb : mkOk σ n kd) {a : Nat} (ha : a < 64) (h0 : σ.1 76 0 = nI a) {ro T i : Nat} (hro : ro < 6) (hT : T ≤ 13) (eN : σ.1 65 ro = nI (3 * T)) (hi : i < n) (k : V X u 3 6 Q 62 [(0, .ref (u.2.1 63)), (1, .int (nI i)), (2, .int (nI ro)), (4, .int (nI (mkN (fun b => allB (stB σ ro (kd i) (nI b) (nI (othN a (gaN kd n) i))) T) 10))), (5, .int (nI 10))] [] (σ)) : ∀ (nn bb : Nat), bb ≤ 10 → 10 - bb < nn → V X u 3 6 Q 19 [(0, .ref (u.2.1 63)), (1, .int (nI i)), (2, .int (nI ro)), (4, .int (nI (mkN (fun b => allB (stB σ ro (kd i) (nI b) (nI (othN a (gaN kd n) i))) T) bb))), (5, .int (nI bb))] [] (σ) := by
  intro nn
  induction nn with
  | zero =>
    intro bb h1 h2
    exact absurd h2 (Nat.not_lt_zero _)
  | succ nn ih =>
    intro bb hii hnn
    obtain ⟨hn, hn6, hkd, hk6⟩ := id hb
    refine v_iload F d_M_bold_19 4 rfl ?_
    refine v_bipush (v := 9) F d_M_bold_21 kb_9 ?_
    refine v_icmp_gt F 62 d_M_bold_23 rfl (fun h23 => ?_) (fun h23 => ?_)
    · skip
      have h23 : 9 < bb := (nI_ltI (a := 9) (b := bb) (by omega) (by omega)).mp h23
      have he : bb = 10 := by omega
      subst he
      exact k
    · skip
      have h23 : ¬ 9 < bb := fun q => h23 ((nI_ltI (a := 9) (b := bb) (by omega) (by omega)).mpr q)
      refine v_iload F d_M_bold_26 3 rfl ?_
      refine v_aload_n F d_M_bold_28 rfl 0 rfl ?_
      refine v_iload_n F d_M_bold_29 rfl 1 rfl ?_
      refine v_aload_n F d_M_bold_30 rfl 0 rfl ?_
      refine v_getr (r := 71) F fk_M_36 G63 rfl d_M_bold_31 ?_
      refine v_iload_n F d_M_bold_34 rfl 1 rfl ?_
      refine v_ial F i G71 rfl (by omega) d_M_bold_35 ?_
      refine v_te (y := nI (kd i)) (hkd _ (by omega)) ?_
      refine v_iload F d_M_bold_36 4 rfl ?_
      refine v_iload_n F d_M_bold_38 rfl 2 rfl ?_
      refine v_runi (r_V F (c_M_isTold X.2.1 u hA σ hb ha h0 hro hT eN i (kd i) (nI bb) (by omega) (hk6 _ hi)) mo_M_isTold st_M_277 rc_63 (by decide) rfl (Nat.le_of_ble_eq_true rfl) d_M_bold_39) (fun r1 σ2 q3 => ?_)
      obtain ⟨rfl, rfl⟩ := q3
      refine v_bt F 52 d_M_bold_42 rfl (fun h42 => ?_) (fun h42 => ?_)
      · skip
        refine v_iconst (v := 0) F d_M_bold_52 ki_0 ?_
        refine v_ior F d_M_bold_53 ?_
        refine v_te (y := nI ((mkN (fun b => allB (stB σ ro (kd i) (nI b) (nI (othN a (gaN kd n) i))) T) bb) ||| 0)) nI_or ?_
        refine v_istore (ls' := [(4, .int (nI ((mkN (fun b => allB (stB σ ro (kd i) (nI b) (nI (othN a (gaN kd n) i))) T) bb) ||| 0))), (0, .ref (u.2.1 63)), (1, .int (nI i)), (2, .int (nI ro)), (5, .int (nI bb))]) F d_M_bold_54 (by decide) rfl ?_
        refine v_iinc (v := nI (bb + 1)) (ls' := [(5, .int (nI (bb + 1))), (4, .int (nI ((mkN (fun b => allB (stB σ ro (kd i) (nI b) (nI (othN a (gaN kd n) i))) T) bb) ||| 0))), (0, .ref (u.2.1 63)), (1, .int (nI i)), (2, .int (nI ro))]) F d_M_bold_56 (j := 4) rfl (nI_inc _) (by decide) rfl ?_
        refine v_goto F 19 d_M_bold_59 rfl ?_
        refine v_sub [2, 3, 4, 1, 0] (ls' := [(0, .ref (u.2.1 63)), (1, .int (nI i)), (2, .int (nI ro)), (4, .int (nI ((mkN (fun b => allB (stB σ ro (kd i) (nI b) (nI (othN a (gaN kd n) i))) T) bb) ||| 0))), (5, .int (nI (bb + 1)))]) rfl ?_
        have g4 : (nI ((mkN (fun b => allB (stB σ ro (kd i) (nI b) (nI (othN a (gaN kd n) i))) T) bb) ||| 0)) = (nI (mkN (fun b => allB (stB σ ro (kd i) (nI b) (nI (othN a (gaN kd n) i))) T) (bb + 1))) := (by first | rfl | (rw [mkN_t (f := (fun b => allB (stB σ ro (kd i) (nI b) (nI (othN a (gaN kd n) i))) T)) (by assumption)]; first | done | assumption) | (rw [mkN_f (f := (fun b => allB (stB σ ro (kd i) (nI b) (nI (othN a (gaN kd n) i))) T)) (by assumption)]; first | done | assumption | (rw [Nat.or_zero]; done)))
        refine v_to (ls' := [(0, .ref (u.2.1 63)), (1, .int (nI i)), (2, .int (nI ro)), (4, .int (nI (mkN (fun b => allB (stB σ ro (kd i) (nI b) (nI (othN a (gaN kd n) i))) T) (bb + 1)))), (5, .int (nI (bb + 1)))]) (by first | rfl | rw [g4] | simp_all) ?_
        exact ih (bb + 1) (by omega) (by omega)
      · skip
        refine v_iconst (v := 1) F d_M_bold_45 ki_1 ?_
        refine v_iload F d_M_bold_46 4 rfl ?_
        refine v_ishl F d_M_bold_48 ?_
        refine v_te (y := nI (2 ^ bb)) (bit16 _ (by omega)) ?_
        refine v_goto F 53 d_M_bold_49 rfl ?_
        refine v_ior F d_M_bold_53 ?_
        refine v_te (y := nI ((mkN (fun b => allB (stB σ ro (kd i) (nI b) (nI (othN a (gaN kd n) i))) T) bb) ||| (2 ^ bb))) nI_or ?_
        refine v_istore (ls' := [(4, .int (nI ((mkN (fun b => allB (stB σ ro (kd i) (nI b) (nI (othN a (gaN kd n) i))) T) bb) ||| (2 ^ bb)))), (0, .ref (u.2.1 63)), (1, .int (nI i)), (2, .int (nI ro)), (5, .int (nI bb))]) F d_M_bold_54 (by decide) rfl ?_
        refine v_iinc (v := nI (bb + 1)) (ls' := [(5, .int (nI (bb + 1))), (4, .int (nI ((mkN (fun b => allB (stB σ ro (kd i) (nI b) (nI (othN a (gaN kd n) i))) T) bb) ||| (2 ^ bb)))), (0, .ref (u.2.1 63)), (1, .int (nI i)), (2, .int (nI ro))]) F d_M_bold_56 (j := 4) rfl (nI_inc _) (by decide) rfl ?_
        refine v_goto F 19 d_M_bold_59 rfl ?_
        refine v_sub [2, 3, 4, 1, 0] (ls' := [(0, .ref (u.2.1 63)), (1, .int (nI i)), (2, .int (nI ro)), (4, .int (nI ((mkN (fun b => allB (stB σ ro (kd i) (nI b) (nI (othN a (gaN kd n) i))) T) bb) ||| (2 ^ bb)))), (5, .int (nI (bb + 1)))]) rfl ?_
        have g5 : (nI ((mkN (fun b => allB (stB σ ro (kd i) (nI b) (nI (othN a (gaN kd n) i))) T) bb) ||| (2 ^ bb))) = (nI (mkN (fun b => allB (stB σ ro (kd i) (nI b) (nI (othN a (gaN kd n) i))) T) (bb + 1))) := (by first | rfl | (rw [mkN_t (f := (fun b => allB (stB σ ro (kd i) (nI b) (nI (othN a (gaN kd n) i))) T)) (by assumption)]; first | done | assumption) | (rw [mkN_f (f := (fun b => allB (stB σ ro (kd i) (nI b) (nI (othN a (gaN kd n) i))) T)) (by assumption)]; first | done | assumption | (rw [Nat.or_zero]; done)))
        refine v_to (ls' := [(0, .ref (u.2.1 63)), (1, .int (nI i)), (2, .int (nI ro)), (4, .int (nI (mkN (fun b => allB (stB σ ro (kd i) (nI b) (nI (othN a (gaN kd n) i))) T) (bb + 1)))), (5, .int (nI (bb + 1)))]) (by first | rfl | rw [g5] | simp_all) ?_
        exact ih (bb + 1) (by omega) (by omega)
set_option maxHeartbeats 4000000 in
theorem c_M_bold (l : Launch) (u : Un) (hA : Ap u) (σ : St) {n : Nat} {kd : Nat → Nat} (hb : mkOk σ n kd) {a : Nat} (ha : a < 64) (h0 : σ.1 76 0 = nI a) (hI : mRowsOk σ) (i r : Int32) : MTi l u y_M_bold b_M_bold 6 .int 3 [.ref (u.2.1 63), .int i, .int r] σ (fun x σ' => trM1 σ n i r x σ' (nI (blM σ kd n a (ix i) (ix r) (rdM σ (ix r) / 3))) σ) := by
  refine MT_of hA rfl (by decide) (Nat.le_of_ble_eq_true rfl) (fun X hl F hr => ?_)
  subst hl
  refine v_to (ls' := [(0, .ref (u.2.1 63)), (1, .int i), (2, .int r)]) rfl ?_
  obtain ⟨hn, hn6, hkd, hk6⟩ := id hb
  refine v_aload_n F d_M_bold_0 rfl 0 rfl ?_
  refine v_iload_n F d_M_bold_1 rfl 1 rfl ?_
  refine v_iload_n F d_M_bold_2 rfl 2 rfl ?_
  refine v_runi (r_V F (c_M_needTriples X.2.1 u hA σ hb i r hI) mo_M_needTriples st_M_274 rc_63 (by decide) rfl (Nat.le_of_ble_eq_true rfl) d_M_bold_3) (fun r1 σ2 q3 => ?_)
  rcases q3 with ⟨a1, rfl, rfl⟩ | ⟨a1, ⟨a2, rfl, eσ2⟩ | ⟨a2, a3, rfl, eσ2⟩ | ⟨a2, a3, a4, rfl, rfl⟩ | ⟨a2, a3, a4, rfl, eσ2⟩⟩
  · skip
    refine v_istore_n (ls' := [(3, .int (-1)), (0, .ref (u.2.1 63)), (1, .int i), (2, .int r)]) F d_M_bold_6 rfl (by decide) rfl ?_
    refine v_iload_n F d_M_bold_7 rfl 0 rfl ?_
    refine v_if_ge F 13 d_M_bold_8 rfl (fun h => absurd h (by decide)) (fun _ => ?_)
    refine v_iload_n F d_M_bold_11 rfl 0 rfl ?_
    refine v_iret F hr rfl d_M_bold_12 ?_
    exact Or.inl ⟨a1, rfl, rfl⟩
  · skip
    refine v_istore_n (ls' := [(3, .int (-3)), (0, .ref (u.2.1 63)), (1, .int i), (2, .int r)]) F d_M_bold_6 rfl (by decide) rfl ?_
    refine v_iload_n F d_M_bold_7 rfl 0 rfl ?_
    refine v_if_ge F 13 d_M_bold_8 rfl (fun h => absurd h (by decide)) (fun _ => ?_)
    refine v_iload_n F d_M_bold_11 rfl 0 rfl ?_
    refine v_iret F hr rfl d_M_bold_12 ?_
    first | exact Or.inr ⟨a1, Or.inl ⟨a2, rfl, by assumption⟩⟩ | exact Or.inr ⟨a1, Or.inr (Or.inl ⟨a2, by assumption, rfl, by assumption⟩)⟩ | exact Or.inr ⟨a1, Or.inr (Or.inr (Or.inr ⟨a2, by assumption, by assumption, rfl, by assumption⟩))⟩
  · skip
    refine v_istore_n (ls' := [(3, .int (-3)), (0, .ref (u.2.1 63)), (1, .int i), (2, .int r)]) F d_M_bold_6 rfl (by decide) rfl ?_
    refine v_iload_n F d_M_bold_7 rfl 0 rfl ?_
    refine v_if_ge F 13 d_M_bold_8 rfl (fun h => absurd h (by decide)) (fun _ => ?_)
    refine v_iload_n F d_M_bold_11 rfl 0 rfl ?_
    refine v_iret F hr rfl d_M_bold_12 ?_
    first | exact Or.inr ⟨a1, Or.inl ⟨a2, rfl, by assumption⟩⟩ | exact Or.inr ⟨a1, Or.inr (Or.inl ⟨a2, by assumption, rfl, by assumption⟩)⟩ | exact Or.inr ⟨a1, Or.inr (Or.inr (Or.inr ⟨a2, by assumption, by assumption, rfl, by assumption⟩))⟩
  · skip
    obtain ⟨ro, hro, xr, rfl⟩ := inR_nat (N := 6) a1.2 rfl (by decide)
    obtain ⟨i, hi, xi, rfl⟩ := has_nat a1.1 rfl hn6
    rw [xr] at a2 a3 a4
    obtain ⟨N, hN, xN, eN0⟩ := nat_of (M := 40) a2 (hI _ hro) rfl (by decide)
    have eR : rdM σ ro = N := xN
    rw [eR] at a3 a4
    obtain ⟨T, rfl⟩ : ∃ T, N = 3 * T := ⟨N / 3, by omega⟩
    have hT : T ≤ 13 := by omega
    have eN : σ.1 65 ro = nI (3 * T) := eN0
    have e3 : 3 * T / 3 = T := by omega
    refine v_istore_n (ls' := [(3, .int 0), (0, .ref (u.2.1 63)), (1, .int (nI i)), (2, .int (nI ro))]) F d_M_bold_6 rfl (by decide) rfl ?_
    refine v_iload_n F d_M_bold_7 rfl 0 rfl ?_
    refine v_if_ge F 13 d_M_bold_8 rfl (fun _ => ?_) (fun h => absurd (by decide) h)
    refine v_iconst (v := 0) F d_M_bold_13 ki_0 ?_
    refine v_istore (ls' := [(4, .int 0), (3, .int 0), (0, .ref (u.2.1 63)), (1, .int (nI i)), (2, .int (nI ro))]) F d_M_bold_14 (by decide) rfl ?_
    refine v_iconst (v := 0) F d_M_bold_16 ki_0 ?_
    refine v_istore (ls' := [(5, .int 0), (4, .int 0), (3, .int 0), (0, .ref (u.2.1 63)), (1, .int (nI i)), (2, .int (nI ro))]) F d_M_bold_17 (by decide) rfl ?_
    refine v_sub [3, 4, 5, 1, 0] (ls' := [(0, .ref (u.2.1 63)), (1, .int (nI i)), (2, .int (nI ro)), (4, .int 0), (5, .int 0)]) rfl ?_
    have g4 : 0 = (nI (mkN (fun b => allB (stB σ ro (kd i) (nI b) (nI (othN a (gaN kd n) i))) T) 0)) := (by first | rfl | (rw [mkN_t (f := (fun b => allB (stB σ ro (kd i) (nI b) (nI (othN a (gaN kd n) i))) T)) (by assumption)]; first | done | assumption) | (rw [mkN_f (f := (fun b => allB (stB σ ro (kd i) (nI b) (nI (othN a (gaN kd n) i))) T)) (by assumption)]; first | done | assumption | (rw [Nat.or_zero]; done)))
    have g5 : 0 = (nI 0) := (by first | rfl | (rw [mkN_t (f := (fun b => allB (stB σ ro (kd i) (nI b) (nI (othN a (gaN kd n) i))) T)) (by assumption)]; first | done | assumption) | (rw [mkN_f (f := (fun b => allB (stB σ ro (kd i) (nI b) (nI (othN a (gaN kd n) i))) T)) (by assumption)]; first | done | assumption | (rw [Nat.or_zero]; done)))
    refine v_to (ls' := [(0, .ref (u.2.1 63)), (1, .int (nI i)), (2, .int (nI ro)), (4, .int (nI (mkN (fun b => allB (stB σ ro (kd i) (nI b) (nI (othN a (gaN kd n) i))) T) 0))), (5, .int (nI 0))]) (by first | rfl | rw [g4, g5] | simp_all) ?_
    refine L_M_bold_19 hA F hb ha h0 hro hT eN hi ?_ _ 0 (Nat.zero_le _) (Nat.lt_succ_self _)
    refine v_iload F d_M_bold_62 3 rfl ?_
    refine v_iret F hr rfl d_M_bold_64 ?_
    exact Or.inr ⟨a1, Or.inr (Or.inr (Or.inl ⟨by rw [xr]; exact a2, by rw [xr, eR]; exact a3, by rw [xr, eR]; exact a4, by rw [xr, xi, eR, e3]; first | done | rfl, rfl⟩))⟩
  · skip
    refine v_istore_n (ls' := [(3, .int (-3)), (0, .ref (u.2.1 63)), (1, .int i), (2, .int r)]) F d_M_bold_6 rfl (by decide) rfl ?_
    refine v_iload_n F d_M_bold_7 rfl 0 rfl ?_
    refine v_if_ge F 13 d_M_bold_8 rfl (fun h => absurd h (by decide)) (fun _ => ?_)
    refine v_iload_n F d_M_bold_11 rfl 0 rfl ?_
    refine v_iret F hr rfl d_M_bold_12 ?_
    first | exact Or.inr ⟨a1, Or.inl ⟨a2, rfl, by assumption⟩⟩ | exact Or.inr ⟨a1, Or.inr (Or.inl ⟨a2, by assumption, rfl, by assumption⟩)⟩ | exact Or.inr ⟨a1, Or.inr (Or.inr (Or.inr ⟨a2, by assumption, by assumption, rfl, by assumption⟩))⟩
abbrev b_M_kindSet : ByteArray := prog_14_method_82_code
abbrev y_M_kindSet : MethodName := ⟨"TakerBookModel", "kindSet", "(II)I"⟩
theorem d_M_kindSet_0 : decode b_M_kindSet 0 = .ok (.iconst 0, 1) := by decide +kernel
theorem d_M_kindSet_1 : decode b_M_kindSet 1 = .ok (.istore_n 3, 1) := by decide +kernel
theorem d_M_kindSet_2 : decode b_M_kindSet 2 = .ok (.iconst 0, 1) := by decide +kernel
theorem d_M_kindSet_3 : decode b_M_kindSet 3 = .ok (.istore 4, 2) := by decide +kernel
theorem d_M_kindSet_5 : decode b_M_kindSet 5 = .ok (.iload 4, 2) := by decide +kernel
theorem d_M_kindSet_7 : decode b_M_kindSet 7 = .ok (.iconst 5, 1) := by decide +kernel
theorem d_M_kindSet_8 : decode b_M_kindSet 8 = .ok (.if_icmp .gt 37, 3) := by decide +kernel
theorem d_M_kindSet_11 : decode b_M_kindSet 11 = .ok (.iload_n 3, 1) := by decide +kernel
theorem d_M_kindSet_12 : decode b_M_kindSet 12 = .ok (.aload_n 0, 1) := by decide +kernel
theorem d_M_kindSet_13 : decode b_M_kindSet 13 = .ok (.iload_n 1, 1) := by decide +kernel
theorem d_M_kindSet_14 : decode b_M_kindSet 14 = .ok (.iload 4, 2) := by decide +kernel
theorem d_M_kindSet_16 : decode b_M_kindSet 16 = .ok (.aload_n 0, 1) := by decide +kernel
theorem d_M_kindSet_17 : decode b_M_kindSet 17 = .ok (.getfield 42, 3) := by decide +kernel
theorem d_M_kindSet_20 : decode b_M_kindSet 20 = .ok (.iload_n 1, 1) := by decide +kernel
theorem d_M_kindSet_21 : decode b_M_kindSet 21 = .ok (.iaload, 1) := by decide +kernel
theorem d_M_kindSet_22 : decode b_M_kindSet 22 = .ok (.iload_n 2, 1) := by decide +kernel
theorem d_M_kindSet_23 : decode b_M_kindSet 23 = .ok (.invokevirtual 277, 3) := by decide +kernel
theorem d_M_kindSet_26 : decode b_M_kindSet 26 = .ok (.ifCond .eq 10, 3) := by decide +kernel
theorem d_M_kindSet_29 : decode b_M_kindSet 29 = .ok (.iconst 1, 1) := by decide +kernel
theorem d_M_kindSet_30 : decode b_M_kindSet 30 = .ok (.iload 4, 2) := by decide +kernel
theorem d_M_kindSet_32 : decode b_M_kindSet 32 = .ok (.ishl, 1) := by decide +kernel
theorem d_M_kindSet_33 : decode b_M_kindSet 33 = .ok (.goto 4, 3) := by decide +kernel
theorem d_M_kindSet_36 : decode b_M_kindSet 36 = .ok (.iconst 0, 1) := by decide +kernel
theorem d_M_kindSet_37 : decode b_M_kindSet 37 = .ok (.ior, 1) := by decide +kernel
theorem d_M_kindSet_38 : decode b_M_kindSet 38 = .ok (.istore_n 3, 1) := by decide +kernel
theorem d_M_kindSet_39 : decode b_M_kindSet 39 = .ok (.iinc 4 1, 3) := by decide +kernel
theorem d_M_kindSet_42 : decode b_M_kindSet 42 = .ok (.goto (-37), 3) := by decide +kernel
theorem d_M_kindSet_45 : decode b_M_kindSet 45 = .ok (.iload_n 3, 1) := by decide +kernel
theorem d_M_kindSet_46 : decode b_M_kindSet 46 = .ok (.ireturn, 1) := by decide +kernel
theorem mo_M_kindSet : mok y_M_kindSet b_M_kindSet 5 (some .int) 2 := ⟨List.mem_of_getElem? (i := 1421) (by decide +kernel), ⟨by decide +kernel, by decide +kernel, by decide +kernel⟩, List.mem_of_getElem? (i := 86) (by decide +kernel), by decide⟩
set_option maxHeartbeats 4000000 in
theorem L_M_kindSet_5 {X : FX} {u : Un} (hA : Ap u) {Q : State → Prop} (F : Fr X u "TakerBookModel" b_M_kindSet 5) {σ : St} {n : Nat} {kd : Nat → Nat} (hb : mkOk σ n kd) {a : Nat} (ha : a < 64) (h0 : σ.1 76 0 = nI a) {ro T i : Nat} (hro : ro < 6) (hT : T ≤ 13) (eN : σ.1 65 ro = nI (3 * T)) (hi : i < n) (k : V X u 3 5 Q 45 [(0, .ref (u.2.1 63)), (1, .int (nI i)), (2, .int (nI ro)), (3, .int (nI (mkN (fun k => allB (stB σ ro k (σ.1 73 i) (nI (othN a (gaN kd n) i))) T) 6))), (4, .int (nI 6))] [] (σ)) : ∀ (nn kk : Nat), kk ≤ 6 → 6 - kk < nn → V X u 3 5 Q 5 [(0, .ref (u.2.1 63)), (1, .int (nI i)), (2, .int (nI ro)), (3, .int (nI (mkN (fun k => allB (stB σ ro k (σ.1 73 i) (nI (othN a (gaN kd n) i))) T) kk))), (4, .int (nI kk))] [] (σ) := by
  intro nn
  induction nn with
  | zero =>
    intro kk h1 h2
    exact absurd h2 (Nat.not_lt_zero _)
  | succ nn ih =>
    intro kk hii hnn
    obtain ⟨hn, hn6, hkd, hk6⟩ := id hb
    refine v_iload F d_M_kindSet_5 4 rfl ?_
    refine v_iconst (v := 5) F d_M_kindSet_7 ki_5 ?_
    refine v_icmp_gt F 45 d_M_kindSet_8 rfl (fun h8 => ?_) (fun h8 => ?_)
    · skip
      have h8 : 5 < kk := (nI_ltI (a := 5) (b := kk) (by omega) (by omega)).mp h8
      have he : kk = 6 := by omega
      subst he
      exact k
    · skip
      have h8 : ¬ 5 < kk := fun q => h8 ((nI_ltI (a := 5) (b := kk) (by omega) (by omega)).mpr q)
      refine v_iload_n F d_M_kindSet_11 rfl 3 rfl ?_
      refine v_aload_n F d_M_kindSet_12 rfl 0 rfl ?_
      refine v_iload_n F d_M_kindSet_13 rfl 1 rfl ?_
      refine v_iload F d_M_kindSet_14 4 rfl ?_
      refine v_aload_n F d_M_kindSet_16 rfl 0 rfl ?_
      refine v_getr (r := 73) F fk_M_42 G63 rfl d_M_kindSet_17 ?_
      refine v_iload_n F d_M_kindSet_20 rfl 1 rfl ?_
      refine v_ial F i G73 rfl (by omega) d_M_kindSet_21 ?_
      refine v_iload_n F d_M_kindSet_22 rfl 2 rfl ?_
      refine v_runi (r_V F (c_M_isTold X.2.1 u hA σ hb ha h0 hro hT eN i kk (σ.1 73 i) (by omega) (by omega)) mo_M_isTold st_M_277 rc_63 (by decide) rfl (Nat.le_of_ble_eq_true rfl) d_M_kindSet_23) (fun r1 σ2 q3 => ?_)
      obtain ⟨rfl, rfl⟩ := q3
      refine v_bt F 36 d_M_kindSet_26 rfl (fun h26 => ?_) (fun h26 => ?_)
      · skip
        refine v_iconst (v := 0) F d_M_kindSet_36 ki_0 ?_
        refine v_ior F d_M_kindSet_37 ?_
        refine v_te (y := nI ((mkN (fun k => allB (stB σ ro k (σ.1 73 i) (nI (othN a (gaN kd n) i))) T) kk) ||| 0)) nI_or ?_
        refine v_istore_n (ls' := [(3, .int (nI ((mkN (fun k => allB (stB σ ro k (σ.1 73 i) (nI (othN a (gaN kd n) i))) T) kk) ||| 0))), (0, .ref (u.2.1 63)), (1, .int (nI i)), (2, .int (nI ro)), (4, .int (nI kk))]) F d_M_kindSet_38 rfl (by decide) rfl ?_
        refine v_iinc (v := nI (kk + 1)) (ls' := [(4, .int (nI (kk + 1))), (3, .int (nI ((mkN (fun k => allB (stB σ ro k (σ.1 73 i) (nI (othN a (gaN kd n) i))) T) kk) ||| 0))), (0, .ref (u.2.1 63)), (1, .int (nI i)), (2, .int (nI ro))]) F d_M_kindSet_39 (j := 4) rfl (nI_inc _) (by decide) rfl ?_
        refine v_goto F 5 d_M_kindSet_42 rfl ?_
        refine v_sub [2, 3, 4, 1, 0] (ls' := [(0, .ref (u.2.1 63)), (1, .int (nI i)), (2, .int (nI ro)), (3, .int (nI ((mkN (fun k => allB (stB σ ro k (σ.1 73 i) (nI (othN a (gaN kd n) i))) T) kk) ||| 0))), (4, .int (nI (kk + 1)))]) rfl ?_
        have g4 : (nI ((mkN (fun k => allB (stB σ ro k (σ.1 73 i) (nI (othN a (gaN kd n) i))) T) kk) ||| 0)) = (nI (mkN (fun k => allB (stB σ ro k (σ.1 73 i) (nI (othN a (gaN kd n) i))) T) (kk + 1))) := (by first | rfl | (rw [mkN_t (f := (fun k => allB (stB σ ro k (σ.1 73 i) (nI (othN a (gaN kd n) i))) T)) (by assumption)]; first | done | assumption) | (rw [mkN_f (f := (fun k => allB (stB σ ro k (σ.1 73 i) (nI (othN a (gaN kd n) i))) T)) (by assumption)]; first | done | assumption | (rw [Nat.or_zero]; done)))
        refine v_to (ls' := [(0, .ref (u.2.1 63)), (1, .int (nI i)), (2, .int (nI ro)), (3, .int (nI (mkN (fun k => allB (stB σ ro k (σ.1 73 i) (nI (othN a (gaN kd n) i))) T) (kk + 1)))), (4, .int (nI (kk + 1)))]) (by first | rfl | rw [g4] | simp_all) ?_
        exact ih (kk + 1) (by omega) (by omega)
      · skip
        refine v_iconst (v := 1) F d_M_kindSet_29 ki_1 ?_
        refine v_iload F d_M_kindSet_30 4 rfl ?_
        refine v_ishl F d_M_kindSet_32 ?_
        refine v_te (y := nI (2 ^ kk)) (bit6 _ (by omega)) ?_
        refine v_goto F 37 d_M_kindSet_33 rfl ?_
        refine v_ior F d_M_kindSet_37 ?_
        refine v_te (y := nI ((mkN (fun k => allB (stB σ ro k (σ.1 73 i) (nI (othN a (gaN kd n) i))) T) kk) ||| (2 ^ kk))) nI_or ?_
        refine v_istore_n (ls' := [(3, .int (nI ((mkN (fun k => allB (stB σ ro k (σ.1 73 i) (nI (othN a (gaN kd n) i))) T) kk) ||| (2 ^ kk)))), (0, .ref (u.2.1 63)), (1, .int (nI i)), (2, .int (nI ro)), (4, .int (nI kk))]) F d_M_kindSet_38 rfl (by decide) rfl ?_
        refine v_iinc (v := nI (kk + 1)) (ls' := [(4, .int (nI (kk + 1))), (3, .int (nI ((mkN (fun k => allB (stB σ ro k (σ.1 73 i) (nI (othN a (gaN kd n) i))) T) kk) ||| (2 ^ kk)))), (0, .ref (u.2.1 63)), (1, .int (nI i)), (2, .int (nI ro))]) F d_M_kindSet_39 (j := 4) rfl (nI_inc _) (by decide) rfl ?_
        refine v_goto F 5 d_M_kindSet_42 rfl ?_
        refine v_sub [2, 3, 4, 1, 0] (ls' := [(0, .ref (u.2.1 63)), (1, .int (nI i)), (2, .int (nI ro)), (3, .int (nI ((mkN (fun k => allB (stB σ ro k (σ.1 73 i) (nI (othN a (gaN kd n) i))) T) kk) ||| (2 ^ kk)))), (4, .int (nI (kk + 1)))]) rfl ?_
        have g5 : (nI ((mkN (fun k => allB (stB σ ro k (σ.1 73 i) (nI (othN a (gaN kd n) i))) T) kk) ||| (2 ^ kk))) = (nI (mkN (fun k => allB (stB σ ro k (σ.1 73 i) (nI (othN a (gaN kd n) i))) T) (kk + 1))) := (by first | rfl | (rw [mkN_t (f := (fun k => allB (stB σ ro k (σ.1 73 i) (nI (othN a (gaN kd n) i))) T)) (by assumption)]; first | done | assumption) | (rw [mkN_f (f := (fun k => allB (stB σ ro k (σ.1 73 i) (nI (othN a (gaN kd n) i))) T)) (by assumption)]; first | done | assumption | (rw [Nat.or_zero]; done)))
        refine v_to (ls' := [(0, .ref (u.2.1 63)), (1, .int (nI i)), (2, .int (nI ro)), (3, .int (nI (mkN (fun k => allB (stB σ ro k (σ.1 73 i) (nI (othN a (gaN kd n) i))) T) (kk + 1)))), (4, .int (nI (kk + 1)))]) (by first | rfl | rw [g5] | simp_all) ?_
        exact ih (kk + 1) (by omega) (by omega)
set_option maxHeartbeats 4000000 in
theorem c_M_kindSet (l : Launch) (u : Un) (hA : Ap u) (σ : St) {n : Nat} {kd : Nat → Nat} (hb : mkOk σ n kd) {a : Nat} (ha : a < 64) (h0 : σ.1 76 0 = nI a) {ro T : Nat} (hro : ro < 6) (hT : T ≤ 13) (eN : σ.1 65 ro = nI (3 * T)) (i : Nat) (hi : i < n) : MTi l u y_M_kindSet b_M_kindSet 5 .int 3 [.ref (u.2.1 63), .int (nI i), .int (nI ro)] σ (fun ans σ' => nI (ksM σ kd n a i ro T) = ans ∧ σ = σ') := by
  refine MT_of hA rfl (by decide) (Nat.le_of_ble_eq_true rfl) (fun X hl F hr => ?_)
  subst hl
  refine v_to (ls' := [(0, .ref (u.2.1 63)), (1, .int (nI i)), (2, .int (nI ro))]) rfl ?_
  obtain ⟨hn, hn6, hkd, hk6⟩ := id hb
  refine v_iconst (v := 0) F d_M_kindSet_0 ki_0 ?_
  refine v_istore_n (ls' := [(3, .int 0), (0, .ref (u.2.1 63)), (1, .int (nI i)), (2, .int (nI ro))]) F d_M_kindSet_1 rfl (by decide) rfl ?_
  refine v_iconst (v := 0) F d_M_kindSet_2 ki_0 ?_
  refine v_istore (ls' := [(4, .int 0), (3, .int 0), (0, .ref (u.2.1 63)), (1, .int (nI i)), (2, .int (nI ro))]) F d_M_kindSet_3 (by decide) rfl ?_
  refine v_sub [2, 3, 4, 1, 0] (ls' := [(0, .ref (u.2.1 63)), (1, .int (nI i)), (2, .int (nI ro)), (3, .int 0), (4, .int 0)]) rfl ?_
  have g1 : 0 = (nI (mkN (fun k => allB (stB σ ro k (σ.1 73 i) (nI (othN a (gaN kd n) i))) T) 0)) := (by first | rfl | (rw [mkN_t (f := (fun k => allB (stB σ ro k (σ.1 73 i) (nI (othN a (gaN kd n) i))) T)) (by assumption)]; first | done | assumption) | (rw [mkN_f (f := (fun k => allB (stB σ ro k (σ.1 73 i) (nI (othN a (gaN kd n) i))) T)) (by assumption)]; first | done | assumption | (rw [Nat.or_zero]; done)))
  have g2 : 0 = (nI 0) := (by first | rfl | (rw [mkN_t (f := (fun k => allB (stB σ ro k (σ.1 73 i) (nI (othN a (gaN kd n) i))) T)) (by assumption)]; first | done | assumption) | (rw [mkN_f (f := (fun k => allB (stB σ ro k (σ.1 73 i) (nI (othN a (gaN kd n) i))) T)) (by assumption)]; first | done | assumption | (rw [Nat.or_zero]; done)))
  refine v_to (ls' := [(0, .ref (u.2.1 63)), (1, .int (nI i)), (2, .int (nI ro)), (3, .int (nI (mkN (fun k => allB (stB σ ro k (σ.1 73 i) (nI (othN a (gaN kd n) i))) T) 0))), (4, .int (nI 0))]) (by first | rfl | rw [g1, g2] | simp_all) ?_
  refine L_M_kindSet_5 hA F hb ha h0 hro hT eN hi ?_ _ 0 (Nat.zero_le _) (Nat.lt_succ_self _)
  refine v_iload_n F d_M_kindSet_45 rfl 3 rfl ?_
  refine v_iret F hr rfl d_M_kindSet_46 ?_
  exact ⟨rfl, rfl⟩
abbrev b_M_kinds : ByteArray := prog_14_method_83_code
abbrev y_M_kinds : MethodName := ⟨"TakerBookModel", "kinds", "(II)I"⟩
theorem d_M_kinds_0 : decode b_M_kinds 0 = .ok (.aload_n 0, 1) := by decide +kernel
theorem d_M_kinds_1 : decode b_M_kinds 1 = .ok (.iload_n 1, 1) := by decide +kernel
theorem d_M_kinds_2 : decode b_M_kinds 2 = .ok (.iload_n 2, 1) := by decide +kernel
theorem d_M_kinds_3 : decode b_M_kinds 3 = .ok (.invokevirtual 274, 3) := by decide +kernel
theorem d_M_kinds_6 : decode b_M_kinds 6 = .ok (.istore_n 3, 1) := by decide +kernel
theorem d_M_kinds_7 : decode b_M_kinds 7 = .ok (.iload_n 3, 1) := by decide +kernel
theorem d_M_kinds_8 : decode b_M_kinds 8 = .ok (.ifCond .ge 7, 3) := by decide +kernel
theorem d_M_kinds_11 : decode b_M_kinds 11 = .ok (.iload_n 3, 1) := by decide +kernel
theorem d_M_kinds_12 : decode b_M_kinds 12 = .ok (.goto 9, 3) := by decide +kernel
theorem d_M_kinds_15 : decode b_M_kinds 15 = .ok (.aload_n 0, 1) := by decide +kernel
theorem d_M_kinds_16 : decode b_M_kinds 16 = .ok (.iload_n 1, 1) := by decide +kernel
theorem d_M_kinds_17 : decode b_M_kinds 17 = .ok (.iload_n 2, 1) := by decide +kernel
theorem d_M_kinds_18 : decode b_M_kinds 18 = .ok (.invokevirtual 281, 3) := by decide +kernel
theorem d_M_kinds_21 : decode b_M_kinds 21 = .ok (.ireturn, 1) := by decide +kernel
theorem mo_M_kinds : mok y_M_kinds b_M_kinds 4 (some .int) 2 := ⟨List.mem_of_getElem? (i := 1417) (by decide +kernel), ⟨by decide +kernel, by decide +kernel, by decide +kernel⟩, List.mem_of_getElem? (i := 86) (by decide +kernel), by decide⟩
set_option maxHeartbeats 4000000 in
theorem c_M_kinds (l : Launch) (u : Un) (hA : Ap u) (σ : St) {n : Nat} {kd : Nat → Nat} (hb : mkOk σ n kd) {a : Nat} (ha : a < 64) (h0 : σ.1 76 0 = nI a) (hI : mRowsOk σ) (i r : Int32) : MTi l u y_M_kinds b_M_kinds 4 .int 4 [.ref (u.2.1 63), .int i, .int r] σ (fun x σ' => trM1 σ n i r x σ' (nI (ksM σ kd n a (ix i) (ix r) (rdM σ (ix r) / 3))) σ) := by
  refine MT_of hA rfl (by decide) (Nat.le_of_ble_eq_true rfl) (fun X hl F hr => ?_)
  subst hl
  refine v_to (ls' := [(0, .ref (u.2.1 63)), (1, .int i), (2, .int r)]) rfl ?_
  obtain ⟨hn, hn6, hkd, hk6⟩ := id hb
  refine v_aload_n F d_M_kinds_0 rfl 0 rfl ?_
  refine v_iload_n F d_M_kinds_1 rfl 1 rfl ?_
  refine v_iload_n F d_M_kinds_2 rfl 2 rfl ?_
  refine v_runi (r_V F (c_M_needTriples X.2.1 u hA σ hb i r hI) mo_M_needTriples st_M_274 rc_63 (by decide) rfl (Nat.le_of_ble_eq_true rfl) d_M_kinds_3) (fun r1 σ2 q3 => ?_)
  rcases q3 with ⟨a1, rfl, rfl⟩ | ⟨a1, ⟨a2, rfl, eσ2⟩ | ⟨a2, a3, rfl, eσ2⟩ | ⟨a2, a3, a4, rfl, rfl⟩ | ⟨a2, a3, a4, rfl, eσ2⟩⟩
  · skip
    refine v_istore_n (ls' := [(3, .int (-1)), (0, .ref (u.2.1 63)), (1, .int i), (2, .int r)]) F d_M_kinds_6 rfl (by decide) rfl ?_
    refine v_iload_n F d_M_kinds_7 rfl 0 rfl ?_
    refine v_if_ge F 15 d_M_kinds_8 rfl (fun h => absurd h (by decide)) (fun _ => ?_)
    refine v_iload_n F d_M_kinds_11 rfl 0 rfl ?_
    refine v_goto F 21 d_M_kinds_12 rfl ?_
    refine v_iret F hr rfl d_M_kinds_21 ?_
    exact Or.inl ⟨a1, rfl, rfl⟩
  · skip
    refine v_istore_n (ls' := [(3, .int (-3)), (0, .ref (u.2.1 63)), (1, .int i), (2, .int r)]) F d_M_kinds_6 rfl (by decide) rfl ?_
    refine v_iload_n F d_M_kinds_7 rfl 0 rfl ?_
    refine v_if_ge F 15 d_M_kinds_8 rfl (fun h => absurd h (by decide)) (fun _ => ?_)
    refine v_iload_n F d_M_kinds_11 rfl 0 rfl ?_
    refine v_goto F 21 d_M_kinds_12 rfl ?_
    refine v_iret F hr rfl d_M_kinds_21 ?_
    first | exact Or.inr ⟨a1, Or.inl ⟨a2, rfl, by assumption⟩⟩ | exact Or.inr ⟨a1, Or.inr (Or.inl ⟨a2, by assumption, rfl, by assumption⟩)⟩ | exact Or.inr ⟨a1, Or.inr (Or.inr (Or.inr ⟨a2, by assumption, by assumption, rfl, by assumption⟩))⟩
  · skip
    refine v_istore_n (ls' := [(3, .int (-3)), (0, .ref (u.2.1 63)), (1, .int i), (2, .int r)]) F d_M_kinds_6 rfl (by decide) rfl ?_
    refine v_iload_n F d_M_kinds_7 rfl 0 rfl ?_
    refine v_if_ge F 15 d_M_kinds_8 rfl (fun h => absurd h (by decide)) (fun _ => ?_)
    refine v_iload_n F d_M_kinds_11 rfl 0 rfl ?_
    refine v_goto F 21 d_M_kinds_12 rfl ?_
    refine v_iret F hr rfl d_M_kinds_21 ?_
    first | exact Or.inr ⟨a1, Or.inl ⟨a2, rfl, by assumption⟩⟩ | exact Or.inr ⟨a1, Or.inr (Or.inl ⟨a2, by assumption, rfl, by assumption⟩)⟩ | exact Or.inr ⟨a1, Or.inr (Or.inr (Or.inr ⟨a2, by assumption, by assumption, rfl, by assumption⟩))⟩
  · skip
    obtain ⟨ro, hro, xr, rfl⟩ := inR_nat (N := 6) a1.2 rfl (by decide)
    obtain ⟨i, hi, xi, rfl⟩ := has_nat a1.1 rfl hn6
    rw [xr] at a2 a3 a4
    obtain ⟨N, hN, xN, eN0⟩ := nat_of (M := 40) a2 (hI _ hro) rfl (by decide)
    have eR : rdM σ ro = N := xN
    rw [eR] at a3 a4
    obtain ⟨T, rfl⟩ : ∃ T, N = 3 * T := ⟨N / 3, by omega⟩
    have hT : T ≤ 13 := by omega
    have eN : σ.1 65 ro = nI (3 * T) := eN0
    have e3 : 3 * T / 3 = T := by omega
    refine v_istore_n (ls' := [(3, .int 0), (0, .ref (u.2.1 63)), (1, .int (nI i)), (2, .int (nI ro))]) F d_M_kinds_6 rfl (by decide) rfl ?_
    refine v_iload_n F d_M_kinds_7 rfl 0 rfl ?_
    refine v_if_ge F 15 d_M_kinds_8 rfl (fun _ => ?_) (fun h => absurd (by decide) h)
    refine v_aload_n F d_M_kinds_15 rfl 1 rfl ?_
    refine v_iload_n F d_M_kinds_16 rfl 2 rfl ?_
    refine v_iload_n F d_M_kinds_17 rfl 3 rfl ?_
    refine v_runi (r_V F (c_M_kindSet X.2.1 u hA σ hb ha h0 hro hT eN i (by omega)) mo_M_kindSet st_M_281 rc_63 (by decide) rfl (Nat.le_of_ble_eq_true rfl) d_M_kinds_18) (fun r4 σ5 q6 => ?_)
    obtain ⟨rfl, rfl⟩ := q6
    refine v_iret F hr rfl d_M_kinds_21 ?_
    exact Or.inr ⟨a1, Or.inr (Or.inr (Or.inl ⟨by rw [xr]; exact a2, by rw [xr, eR]; exact a3, by rw [xr, eR]; exact a4, by rw [xr, xi, eR, e3]; first | done | rfl, rfl⟩))⟩
  · skip
    refine v_istore_n (ls' := [(3, .int (-3)), (0, .ref (u.2.1 63)), (1, .int i), (2, .int r)]) F d_M_kinds_6 rfl (by decide) rfl ?_
    refine v_iload_n F d_M_kinds_7 rfl 0 rfl ?_
    refine v_if_ge F 15 d_M_kinds_8 rfl (fun h => absurd h (by decide)) (fun _ => ?_)
    refine v_iload_n F d_M_kinds_11 rfl 0 rfl ?_
    refine v_goto F 21 d_M_kinds_12 rfl ?_
    refine v_iret F hr rfl d_M_kinds_21 ?_
    first | exact Or.inr ⟨a1, Or.inl ⟨a2, rfl, by assumption⟩⟩ | exact Or.inr ⟨a1, Or.inr (Or.inl ⟨a2, by assumption, rfl, by assumption⟩)⟩ | exact Or.inr ⟨a1, Or.inr (Or.inr (Or.inr ⟨a2, by assumption, by assumption, rfl, by assumption⟩))⟩
abbrev b_M_test : ByteArray := prog_14_method_84_code
abbrev y_M_test : MethodName := ⟨"TakerBookModel", "test", "(II)I"⟩
theorem d_M_test_0 : decode b_M_test 0 = .ok (.aload_n 0, 1) := by decide +kernel
theorem d_M_test_1 : decode b_M_test 1 = .ok (.iload_n 1, 1) := by decide +kernel
theorem d_M_test_2 : decode b_M_test 2 = .ok (.iload_n 2, 1) := by decide +kernel
theorem d_M_test_3 : decode b_M_test 3 = .ok (.invokevirtual 274, 3) := by decide +kernel
theorem d_M_test_6 : decode b_M_test 6 = .ok (.istore_n 3, 1) := by decide +kernel
theorem d_M_test_7 : decode b_M_test 7 = .ok (.iload_n 3, 1) := by decide +kernel
theorem d_M_test_8 : decode b_M_test 8 = .ok (.ifCond .ge 5, 3) := by decide +kernel
theorem d_M_test_11 : decode b_M_test 11 = .ok (.iload_n 3, 1) := by decide +kernel
theorem d_M_test_12 : decode b_M_test 12 = .ok (.ireturn, 1) := by decide +kernel
theorem d_M_test_13 : decode b_M_test 13 = .ok (.aload_n 0, 1) := by decide +kernel
theorem d_M_test_14 : decode b_M_test 14 = .ok (.iload_n 1, 1) := by decide +kernel
theorem d_M_test_15 : decode b_M_test 15 = .ok (.iload_n 2, 1) := by decide +kernel
theorem d_M_test_16 : decode b_M_test 16 = .ok (.invokevirtual 281, 3) := by decide +kernel
theorem d_M_test_19 : decode b_M_test 19 = .ok (.istore 4, 2) := by decide +kernel
theorem d_M_test_21 : decode b_M_test 21 = .ok (.iload 4, 2) := by decide +kernel
theorem d_M_test_23 : decode b_M_test 23 = .ok (.ifCond .ne 6, 3) := by decide +kernel
theorem d_M_test_26 : decode b_M_test 26 = .ok (.bipush (-9), 2) := by decide +kernel
theorem d_M_test_28 : decode b_M_test 28 = .ok (.ireturn, 1) := by decide +kernel
theorem d_M_test_29 : decode b_M_test 29 = .ok (.iconst 0, 1) := by decide +kernel
theorem d_M_test_30 : decode b_M_test 30 = .ok (.istore 5, 2) := by decide +kernel
theorem d_M_test_32 : decode b_M_test 32 = .ok (.ldc 218, 2) := by decide +kernel
theorem d_M_test_34 : decode b_M_test 34 = .ok (.istore 6, 2) := by decide +kernel
theorem d_M_test_36 : decode b_M_test 36 = .ok (.iconst 0, 1) := by decide +kernel
theorem d_M_test_37 : decode b_M_test 37 = .ok (.istore 7, 2) := by decide +kernel
theorem d_M_test_39 : decode b_M_test 39 = .ok (.iload 7, 2) := by decide +kernel
theorem d_M_test_41 : decode b_M_test 41 = .ok (.bipush 30, 2) := by decide +kernel
theorem d_M_test_43 : decode b_M_test 43 = .ok (.if_icmp .ge 147, 3) := by decide +kernel
theorem d_M_test_46 : decode b_M_test 46 = .ok (.iconst 0, 1) := by decide +kernel
theorem d_M_test_47 : decode b_M_test 47 = .ok (.istore 8, 2) := by decide +kernel
theorem d_M_test_49 : decode b_M_test 49 = .ok (.iconst 0, 1) := by decide +kernel
theorem d_M_test_50 : decode b_M_test 50 = .ok (.istore 9, 2) := by decide +kernel
theorem d_M_test_52 : decode b_M_test 52 = .ok (.iload 9, 2) := by decide +kernel
theorem d_M_test_54 : decode b_M_test 54 = .ok (.iconst 5, 1) := by decide +kernel
theorem d_M_test_55 : decode b_M_test 55 = .ok (.if_icmp .gt 60, 3) := by decide +kernel
theorem d_M_test_58 : decode b_M_test 58 = .ok (.iload 8, 2) := by decide +kernel
theorem d_M_test_60 : decode b_M_test 60 = .ok (.iload 4, 2) := by decide +kernel
theorem d_M_test_62 : decode b_M_test 62 = .ok (.iload 9, 2) := by decide +kernel
theorem d_M_test_64 : decode b_M_test 64 = .ok (.invokestatic 155, 3) := by decide +kernel
theorem d_M_test_67 : decode b_M_test 67 = .ok (.ifCond .eq 38, 3) := by decide +kernel
theorem d_M_test_70 : decode b_M_test 70 = .ok (.iload 9, 2) := by decide +kernel
theorem d_M_test_72 : decode b_M_test 72 = .ok (.aload_n 0, 1) := by decide +kernel
theorem d_M_test_73 : decode b_M_test 73 = .ok (.getfield 42, 3) := by decide +kernel
theorem d_M_test_76 : decode b_M_test 76 = .ok (.iload_n 1, 1) := by decide +kernel
theorem d_M_test_77 : decode b_M_test 77 = .ok (.iaload, 1) := by decide +kernel
theorem d_M_test_78 : decode b_M_test 78 = .ok (.iload 7, 2) := by decide +kernel
theorem d_M_test_80 : decode b_M_test 80 = .ok (.iconst 3, 1) := by decide +kernel
theorem d_M_test_81 : decode b_M_test 81 = .ok (.idiv, 1) := by decide +kernel
theorem d_M_test_82 : decode b_M_test 82 = .ok (.iload 7, 2) := by decide +kernel
theorem d_M_test_84 : decode b_M_test 84 = .ok (.iconst 3, 1) := by decide +kernel
theorem d_M_test_85 : decode b_M_test 85 = .ok (.irem, 1) := by decide +kernel
theorem d_M_test_86 : decode b_M_test 86 = .ok (.aload_n 0, 1) := by decide +kernel
theorem d_M_test_87 : decode b_M_test 87 = .ok (.aload_n 0, 1) := by decide +kernel
theorem d_M_test_88 : decode b_M_test 88 = .ok (.getfield 51, 3) := by decide +kernel
theorem d_M_test_91 : decode b_M_test 91 = .ok (.iload_n 1, 1) := by decide +kernel
theorem d_M_test_92 : decode b_M_test 92 = .ok (.invokevirtual 159, 3) := by decide +kernel
theorem d_M_test_95 : decode b_M_test 95 = .ok (.invokestatic 163, 3) := by decide +kernel
theorem d_M_test_98 : decode b_M_test 98 = .ok (.ifCond .eq 7, 3) := by decide +kernel
theorem d_M_test_101 : decode b_M_test 101 = .ok (.iconst 1, 1) := by decide +kernel
theorem d_M_test_102 : decode b_M_test 102 = .ok (.goto 4, 3) := by decide +kernel
theorem d_M_test_105 : decode b_M_test 105 = .ok (.iconst 0, 1) := by decide +kernel
theorem d_M_test_106 : decode b_M_test 106 = .ok (.iadd, 1) := by decide +kernel
theorem d_M_test_107 : decode b_M_test 107 = .ok (.istore 8, 2) := by decide +kernel
theorem d_M_test_109 : decode b_M_test 109 = .ok (.iinc 9 1, 3) := by decide +kernel
theorem d_M_test_112 : decode b_M_test 112 = .ok (.goto (-60), 3) := by decide +kernel
theorem d_M_test_115 : decode b_M_test 115 = .ok (.iconst 2, 1) := by decide +kernel
theorem d_M_test_116 : decode b_M_test 116 = .ok (.iload 8, 2) := by decide +kernel
theorem d_M_test_118 : decode b_M_test 118 = .ok (.imul, 1) := by decide +kernel
theorem d_M_test_119 : decode b_M_test 119 = .ok (.iload 4, 2) := by decide +kernel
theorem d_M_test_121 : decode b_M_test 121 = .ok (.invokestatic 175, 3) := by decide +kernel
theorem d_M_test_124 : decode b_M_test 124 = .ok (.if_icmp .le 8, 3) := by decide +kernel
theorem d_M_test_127 : decode b_M_test 127 = .ok (.iload 8, 2) := by decide +kernel
theorem d_M_test_129 : decode b_M_test 129 = .ok (.goto 11, 3) := by decide +kernel
theorem d_M_test_132 : decode b_M_test 132 = .ok (.iload 4, 2) := by decide +kernel
theorem d_M_test_134 : decode b_M_test 134 = .ok (.invokestatic 175, 3) := by decide +kernel
theorem d_M_test_137 : decode b_M_test 137 = .ok (.iload 8, 2) := by decide +kernel
theorem d_M_test_139 : decode b_M_test 139 = .ok (.isub, 1) := by decide +kernel
theorem d_M_test_140 : decode b_M_test 140 = .ok (.istore 9, 2) := by decide +kernel
theorem d_M_test_142 : decode b_M_test 142 = .ok (.iload 9, 2) := by decide +kernel
theorem d_M_test_144 : decode b_M_test 144 = .ok (.iload 6, 2) := by decide +kernel
theorem d_M_test_146 : decode b_M_test 146 = .ok (.if_icmp .ge 18, 3) := by decide +kernel
theorem d_M_test_149 : decode b_M_test 149 = .ok (.bipush 10, 2) := by decide +kernel
theorem d_M_test_151 : decode b_M_test 151 = .ok (.iload 7, 2) := by decide +kernel
theorem d_M_test_153 : decode b_M_test 153 = .ok (.iconst 3, 1) := by decide +kernel
theorem d_M_test_154 : decode b_M_test 154 = .ok (.idiv, 1) := by decide +kernel
theorem d_M_test_155 : decode b_M_test 155 = .ok (.imul, 1) := by decide +kernel
theorem d_M_test_156 : decode b_M_test 156 = .ok (.iload 7, 2) := by decide +kernel
theorem d_M_test_158 : decode b_M_test 158 = .ok (.iconst 3, 1) := by decide +kernel
theorem d_M_test_159 : decode b_M_test 159 = .ok (.irem, 1) := by decide +kernel
theorem d_M_test_160 : decode b_M_test 160 = .ok (.iadd, 1) := by decide +kernel
theorem d_M_test_161 : decode b_M_test 161 = .ok (.goto 5, 3) := by decide +kernel
theorem d_M_test_164 : decode b_M_test 164 = .ok (.iload 5, 2) := by decide +kernel
theorem d_M_test_166 : decode b_M_test 166 = .ok (.istore 5, 2) := by decide +kernel
theorem d_M_test_168 : decode b_M_test 168 = .ok (.iload 9, 2) := by decide +kernel
theorem d_M_test_170 : decode b_M_test 170 = .ok (.iload 6, 2) := by decide +kernel
theorem d_M_test_172 : decode b_M_test 172 = .ok (.if_icmp .ge 8, 3) := by decide +kernel
theorem d_M_test_175 : decode b_M_test 175 = .ok (.iload 9, 2) := by decide +kernel
theorem d_M_test_177 : decode b_M_test 177 = .ok (.goto 5, 3) := by decide +kernel
theorem d_M_test_180 : decode b_M_test 180 = .ok (.iload 6, 2) := by decide +kernel
theorem d_M_test_182 : decode b_M_test 182 = .ok (.istore 6, 2) := by decide +kernel
theorem d_M_test_184 : decode b_M_test 184 = .ok (.iinc 7 1, 3) := by decide +kernel
theorem d_M_test_187 : decode b_M_test 187 = .ok (.goto (-148), 3) := by decide +kernel
theorem d_M_test_190 : decode b_M_test 190 = .ok (.aload_n 0, 1) := by decide +kernel
theorem d_M_test_191 : decode b_M_test 191 = .ok (.iload 6, 2) := by decide +kernel
theorem d_M_test_193 : decode b_M_test 193 = .ok (.iload 5, 2) := by decide +kernel
theorem d_M_test_195 : decode b_M_test 195 = .ok (.invokevirtual 111, 3) := by decide +kernel
theorem d_M_test_198 : decode b_M_test 198 = .ok (.ireturn, 1) := by decide +kernel
theorem mo_M_test : mok y_M_test b_M_test 10 (some .int) 2 := ⟨List.mem_of_getElem? (i := 1425) (by decide +kernel), ⟨by decide +kernel, by decide +kernel, by decide +kernel⟩, List.mem_of_getElem? (i := 86) (by decide +kernel), by decide⟩
set_option maxHeartbeats 4000000 in
theorem L_M_test_52 {X : FX} {u : Un} (hA : Ap u) {Q : State → Prop} (F : Fr X u "TakerBookModel" b_M_test 10) {σ : St} {n : Nat} {kd : Nat → Nat} (hb : mkOk σ n kd) {a : Nat} (ha : a < 64) (h0 : σ.1 76 0 = nI a) {i S : Nat} (hi : i < n) (hS : S < 64) {c bt le : Nat} (hc : c < 30) (k : V X u 4 10 Q 115 [(0, .ref (u.2.1 63)), (1, .int (nI i)), (4, .int (nI S)), (5, .int (nI bt)), (6, .int (nI le)), (7, .int (nI c)), (8, .int (nI (cntN (gqF σ i S c (nI (othN a (gaN kd n) i))) 6))), (9, .int (nI 6))] [] (σ)) : ∀ (nn kk : Nat), kk ≤ 6 → 6 - kk < nn → V X u 4 10 Q 52 [(0, .ref (u.2.1 63)), (1, .int (nI i)), (4, .int (nI S)), (5, .int (nI bt)), (6, .int (nI le)), (7, .int (nI c)), (8, .int (nI (cntN (gqF σ i S c (nI (othN a (gaN kd n) i))) kk))), (9, .int (nI kk))] [] (σ) := by
  intro nn
  induction nn with
  | zero =>
    intro kk h1 h2
    exact absurd h2 (Nat.not_lt_zero _)
  | succ nn ih =>
    intro kk hii hnn
    obtain ⟨hn, hn6, hkd, hk6⟩ := id hb
    refine v_iload F d_M_test_52 7 rfl ?_
    refine v_iconst (v := 5) F d_M_test_54 ki_5 ?_
    refine v_icmp_gt F 115 d_M_test_55 rfl (fun h55 => ?_) (fun h55 => ?_)
    · skip
      have h55 : 5 < kk := (nI_ltI (a := 5) (b := kk) (by omega) (by omega)).mp h55
      have he : kk = 6 := by omega
      subst he
      exact k
    · skip
      have h55 : ¬ 5 < kk := fun q => h55 ((nI_ltI (a := 5) (b := kk) (by omega) (by omega)).mpr q)
      refine v_iload F d_M_test_58 6 rfl ?_
      refine v_iload F d_M_test_60 2 rfl ?_
      refine v_iload F d_M_test_62 7 rfl ?_
      refine v_runi (r_S F (c_M_has2 X.2.1 u hA σ kk S (by omega) (by omega)) mo_M_has st_M_155 (by decide) rfl (Nat.le_of_ble_eq_true rfl) d_M_test_64) (fun r1 σ2 q3 => ?_)
      obtain ⟨rfl, rfl⟩ := q3
      refine v_bt F 105 d_M_test_67 rfl (fun h67 => ?_) (fun h67 => ?_)
      · skip
        refine v_iconst (v := 0) F d_M_test_105 ki_0 ?_
        refine v_iadd F d_M_test_106 ?_
        refine v_te (y := nI (cntN (gqF σ i S c (nI (othN a (gaN kd n) i))) kk + 0)) (nI_add _ _) ?_
        refine v_istore (ls' := [(8, .int (nI (cntN (gqF σ i S c (nI (othN a (gaN kd n) i))) kk + 0))), (0, .ref (u.2.1 63)), (1, .int (nI i)), (4, .int (nI S)), (5, .int (nI bt)), (6, .int (nI le)), (7, .int (nI c)), (9, .int (nI kk))]) F d_M_test_107 (by decide) rfl ?_
        refine v_iinc (v := nI (kk + 1)) (ls' := [(9, .int (nI (kk + 1))), (8, .int (nI (cntN (gqF σ i S c (nI (othN a (gaN kd n) i))) kk + 0))), (0, .ref (u.2.1 63)), (1, .int (nI i)), (4, .int (nI S)), (5, .int (nI bt)), (6, .int (nI le)), (7, .int (nI c))]) F d_M_test_109 (j := 7) rfl (nI_inc _) (by decide) rfl ?_
        refine v_goto F 52 d_M_test_112 rfl ?_
        refine v_sub [2, 3, 4, 5, 6, 7, 1, 0] (ls' := [(0, .ref (u.2.1 63)), (1, .int (nI i)), (4, .int (nI S)), (5, .int (nI bt)), (6, .int (nI le)), (7, .int (nI c)), (8, .int (nI (cntN (gqF σ i S c (nI (othN a (gaN kd n) i))) kk + 0))), (9, .int (nI (kk + 1)))]) rfl ?_
        have g4 : (nI (cntN (gqF σ i S c (nI (othN a (gaN kd n) i))) kk + 0)) = (nI (cntN (gqF σ i S c (nI (othN a (gaN kd n) i))) (kk + 1))) := (by first | rfl | (rw [cntN_t (f := (gqF σ i S c (nI (othN a (gaN kd n) i)))) (by simp only [gqF, Bool.and_eq_true]; exact ⟨by assumption, by assumption⟩)]; first | done | rfl) | (rw [cntN_f (f := (gqF σ i S c (nI (othN a (gaN kd n) i)))) (by simp only [gqF, Bool.and_eq_true]; rintro ⟨q1, q2⟩; first | exact absurd q1 (by assumption) | exact absurd q2 (by assumption))]; first | done | rfl))
        refine v_to (ls' := [(0, .ref (u.2.1 63)), (1, .int (nI i)), (4, .int (nI S)), (5, .int (nI bt)), (6, .int (nI le)), (7, .int (nI c)), (8, .int (nI (cntN (gqF σ i S c (nI (othN a (gaN kd n) i))) (kk + 1)))), (9, .int (nI (kk + 1)))]) (by first | rfl | rw [g4] | simp_all) ?_
        exact ih (kk + 1) (by omega) (by omega)
      · skip
        refine v_iload F d_M_test_70 7 rfl ?_
        refine v_aload_n F d_M_test_72 rfl 0 rfl ?_
        refine v_getr (r := 73) F fk_M_42 G63 rfl d_M_test_73 ?_
        refine v_iload_n F d_M_test_76 rfl 1 rfl ?_
        refine v_ial F i G73 rfl (by omega) d_M_test_77 ?_
        refine v_iload F d_M_test_78 5 rfl ?_
        refine v_iconst (v := 3) F d_M_test_80 ki_3 ?_
        refine v_idiv F d_M_test_81 (by decide) ?_
        refine v_te (y := nI (c / 3)) (pk_div (by omega) (by decide) (by decide)) ?_
        refine v_iload F d_M_test_82 5 rfl ?_
        refine v_iconst (v := 3) F d_M_test_84 ki_3 ?_
        refine v_irem F d_M_test_85 (by decide) ?_
        refine v_te (y := nI (c % 3)) (pk_rem (by omega) (by decide) (by decide)) ?_
        refine v_aload_n F d_M_test_86 rfl 0 rfl ?_
        refine v_aload_n F d_M_test_87 rfl 0 rfl ?_
        refine v_getr (r := 76) F fk_M_51 G63 rfl d_M_test_88 ?_
        refine v_iload_n F d_M_test_91 rfl 1 rfl ?_
        refine v_runi (r_V F (c_M_others_f X.2.1 u hA fr.rf hb (kO := 76) (Or.inl rfl) ha h0  i (by omega)) mo_M_others st_M_159 rc_63 (by decide) rfl (Nat.le_of_ble_eq_true rfl) d_M_test_92) (fun r5 σ6 q7 => ?_)
        obtain ⟨rfl, rfl⟩ := q7
        refine v_runi (r_S F (c_M_isSpeakingBy X.2.1 u hA σ kk (by omega) (σ.1 73 i) (nI (c / 3)) (nI (c % 3)) (nI (othN a (gaN kd n) i))) mo_M_isSpeakingBy st_M_163 (by decide) rfl (Nat.le_of_ble_eq_true rfl) d_M_test_95) (fun r8 σ9 q10 => ?_)
        obtain ⟨rfl, rfl⟩ := q10
        refine v_bt F 105 d_M_test_98 rfl (fun h98 => ?_) (fun h98 => ?_)
        · skip
          refine v_iconst (v := 0) F d_M_test_105 ki_0 ?_
          refine v_iadd F d_M_test_106 ?_
          refine v_te (y := nI (cntN (gqF σ i S c (nI (othN a (gaN kd n) i))) kk + 0)) (nI_add _ _) ?_
          refine v_istore (ls' := [(8, .int (nI (cntN (gqF σ i S c (nI (othN a (gaN kd n) i))) kk + 0))), (0, .ref (u.2.1 63)), (1, .int (nI i)), (4, .int (nI S)), (5, .int (nI bt)), (6, .int (nI le)), (7, .int (nI c)), (9, .int (nI kk))]) F d_M_test_107 (by decide) rfl ?_
          refine v_iinc (v := nI (kk + 1)) (ls' := [(9, .int (nI (kk + 1))), (8, .int (nI (cntN (gqF σ i S c (nI (othN a (gaN kd n) i))) kk + 0))), (0, .ref (u.2.1 63)), (1, .int (nI i)), (4, .int (nI S)), (5, .int (nI bt)), (6, .int (nI le)), (7, .int (nI c))]) F d_M_test_109 (j := 7) rfl (nI_inc _) (by decide) rfl ?_
          refine v_goto F 52 d_M_test_112 rfl ?_
          refine v_sub [2, 3, 4, 5, 6, 7, 1, 0] (ls' := [(0, .ref (u.2.1 63)), (1, .int (nI i)), (4, .int (nI S)), (5, .int (nI bt)), (6, .int (nI le)), (7, .int (nI c)), (8, .int (nI (cntN (gqF σ i S c (nI (othN a (gaN kd n) i))) kk + 0))), (9, .int (nI (kk + 1)))]) rfl ?_
          have g11 : (nI (cntN (gqF σ i S c (nI (othN a (gaN kd n) i))) kk + 0)) = (nI (cntN (gqF σ i S c (nI (othN a (gaN kd n) i))) (kk + 1))) := (by first | rfl | (rw [cntN_t (f := (gqF σ i S c (nI (othN a (gaN kd n) i)))) (by simp only [gqF, Bool.and_eq_true]; exact ⟨by assumption, by assumption⟩)]; first | done | rfl) | (rw [cntN_f (f := (gqF σ i S c (nI (othN a (gaN kd n) i)))) (by simp only [gqF, Bool.and_eq_true]; rintro ⟨q1, q2⟩; first | exact absurd q1 (by assumption) | exact absurd q2 (by assumption))]; first | done | rfl))
          refine v_to (ls' := [(0, .ref (u.2.1 63)), (1, .int (nI i)), (4, .int (nI S)), (5, .int (nI bt)), (6, .int (nI le)), (7, .int (nI c)), (8, .int (nI (cntN (gqF σ i S c (nI (othN a (gaN kd n) i))) (kk + 1)))), (9, .int (nI (kk + 1)))]) (by first | rfl | rw [g11] | simp_all) ?_
          exact ih (kk + 1) (by omega) (by omega)
        · skip
          refine v_iconst (v := 1) F d_M_test_101 ki_1 ?_
          refine v_goto F 106 d_M_test_102 rfl ?_
          refine v_iadd F d_M_test_106 ?_
          refine v_te (y := nI (cntN (gqF σ i S c (nI (othN a (gaN kd n) i))) kk + 1)) (nI_add _ _) ?_
          refine v_istore (ls' := [(8, .int (nI (cntN (gqF σ i S c (nI (othN a (gaN kd n) i))) kk + 1))), (0, .ref (u.2.1 63)), (1, .int (nI i)), (4, .int (nI S)), (5, .int (nI bt)), (6, .int (nI le)), (7, .int (nI c)), (9, .int (nI kk))]) F d_M_test_107 (by decide) rfl ?_
          refine v_iinc (v := nI (kk + 1)) (ls' := [(9, .int (nI (kk + 1))), (8, .int (nI (cntN (gqF σ i S c (nI (othN a (gaN kd n) i))) kk + 1))), (0, .ref (u.2.1 63)), (1, .int (nI i)), (4, .int (nI S)), (5, .int (nI bt)), (6, .int (nI le)), (7, .int (nI c))]) F d_M_test_109 (j := 7) rfl (nI_inc _) (by decide) rfl ?_
          refine v_goto F 52 d_M_test_112 rfl ?_
          refine v_sub [2, 3, 4, 5, 6, 7, 1, 0] (ls' := [(0, .ref (u.2.1 63)), (1, .int (nI i)), (4, .int (nI S)), (5, .int (nI bt)), (6, .int (nI le)), (7, .int (nI c)), (8, .int (nI (cntN (gqF σ i S c (nI (othN a (gaN kd n) i))) kk + 1))), (9, .int (nI (kk + 1)))]) rfl ?_
          have g12 : (nI (cntN (gqF σ i S c (nI (othN a (gaN kd n) i))) kk + 1)) = (nI (cntN (gqF σ i S c (nI (othN a (gaN kd n) i))) (kk + 1))) := (by first | rfl | (rw [cntN_t (f := (gqF σ i S c (nI (othN a (gaN kd n) i)))) (by simp only [gqF, Bool.and_eq_true]; exact ⟨by assumption, by assumption⟩)]; first | done | rfl) | (rw [cntN_f (f := (gqF σ i S c (nI (othN a (gaN kd n) i)))) (by simp only [gqF, Bool.and_eq_true]; rintro ⟨q1, q2⟩; first | exact absurd q1 (by assumption) | exact absurd q2 (by assumption))]; first | done | rfl))
          refine v_to (ls' := [(0, .ref (u.2.1 63)), (1, .int (nI i)), (4, .int (nI S)), (5, .int (nI bt)), (6, .int (nI le)), (7, .int (nI c)), (8, .int (nI (cntN (gqF σ i S c (nI (othN a (gaN kd n) i))) (kk + 1)))), (9, .int (nI (kk + 1)))]) (by first | rfl | rw [g12] | simp_all) ?_
          exact ih (kk + 1) (by omega) (by omega)
set_option maxHeartbeats 4000000 in
theorem L_M_test_39 {X : FX} {u : Un} (hA : Ap u) {Q : State → Prop} (F : Fr X u "TakerBookModel" b_M_test 10) {σ : St} {n : Nat} {kd : Nat → Nat} (hb : mkOk σ n kd) {a : Nat} (ha : a < 64) (h0 : σ.1 76 0 = nI a) {i S : Nat} (hi : i < n) (hS : S < 64) (k : V X u 4 10 Q 190 [(0, .ref (u.2.1 63)), (1, .int (nI i)), (4, .int (nI S)), (5, .int (nI ((tqS σ i S (nI (othN a (gaN kd n) i)) 30).1))), (6, .int (nI ((tqS σ i S (nI (othN a (gaN kd n) i)) 30).2))), (7, .int (nI 30))] [] (σ)) : ∀ (nn c : Nat), c ≤ 30 → 30 - c < nn → V X u 4 10 Q 39 [(0, .ref (u.2.1 63)), (1, .int (nI i)), (4, .int (nI S)), (5, .int (nI ((tqS σ i S (nI (othN a (gaN kd n) i)) c).1))), (6, .int (nI ((tqS σ i S (nI (othN a (gaN kd n) i)) c).2))), (7, .int (nI c))] [] (σ) := by
  intro nn
  induction nn with
  | zero =>
    intro c h1 h2
    exact absurd h2 (Nat.not_lt_zero _)
  | succ nn ih =>
    intro c hii hnn
    obtain ⟨hn, hn6, hkd, hk6⟩ := id hb
    have hpl := pc_le S hS
    have hgl : (cntN (gqF σ i S c (nI (othN a (gaN kd n) i))) 6) ≤ pcN S := gq_le hS
    have htb := tq_b (σ := σ) (i := i) (S := S) (o := (nI (othN a (gaN kd n) i))) c hii
    refine v_iload F d_M_test_39 5 rfl ?_
    refine v_bipush (v := 30) F d_M_test_41 kb_30 ?_
    refine v_icmp_ge F 190 d_M_test_43 rfl (fun h43 => ?_) (fun h43 => ?_)
    · skip
      have h43 : 30 ≤ c := (nI_leI (a := 30) (b := c) (by omega) (by omega)).mp h43
      have he : c = 30 := by omega
      subst he
      exact k
    · skip
      have h43 : ¬ 30 ≤ c := fun q => h43 ((nI_leI (a := 30) (b := c) (by omega) (by omega)).mpr q)
      refine v_iconst (v := 0) F d_M_test_46 ki_0 ?_
      refine v_istore (ls' := [(8, .int 0), (0, .ref (u.2.1 63)), (1, .int (nI i)), (4, .int (nI S)), (5, .int (nI ((tqS σ i S (nI (othN a (gaN kd n) i)) c).1))), (6, .int (nI ((tqS σ i S (nI (othN a (gaN kd n) i)) c).2))), (7, .int (nI c))]) F d_M_test_47 (by decide) rfl ?_
      refine v_iconst (v := 0) F d_M_test_49 ki_0 ?_
      refine v_istore (ls' := [(9, .int 0), (8, .int 0), (0, .ref (u.2.1 63)), (1, .int (nI i)), (4, .int (nI S)), (5, .int (nI ((tqS σ i S (nI (othN a (gaN kd n) i)) c).1))), (6, .int (nI ((tqS σ i S (nI (othN a (gaN kd n) i)) c).2))), (7, .int (nI c))]) F d_M_test_50 (by decide) rfl ?_
      refine v_sub [2, 3, 4, 5, 6, 7, 1, 0] (ls' := [(0, .ref (u.2.1 63)), (1, .int (nI i)), (4, .int (nI S)), (5, .int (nI ((tqS σ i S (nI (othN a (gaN kd n) i)) c).1))), (6, .int (nI ((tqS σ i S (nI (othN a (gaN kd n) i)) c).2))), (7, .int (nI c)), (8, .int 0), (9, .int 0)]) rfl ?_
      have g1 : 0 = (nI (cntN (gqF σ i S c (nI (othN a (gaN kd n) i))) 0)) := (by first | rfl | (rw [cntN_t (f := (gqF σ i S c (nI (othN a (gaN kd n) i)))) (by simp only [gqF, Bool.and_eq_true]; exact ⟨by assumption, by assumption⟩)]; first | done | rfl) | (rw [cntN_f (f := (gqF σ i S c (nI (othN a (gaN kd n) i)))) (by simp only [gqF, Bool.and_eq_true]; rintro ⟨q1, q2⟩; first | exact absurd q1 (by assumption) | exact absurd q2 (by assumption))]; first | done | rfl))
      have g2 : 0 = (nI 0) := (by first | rfl | (rw [cntN_t (f := (gqF σ i S c (nI (othN a (gaN kd n) i)))) (by simp only [gqF, Bool.and_eq_true]; exact ⟨by assumption, by assumption⟩)]; first | done | rfl) | (rw [cntN_f (f := (gqF σ i S c (nI (othN a (gaN kd n) i)))) (by simp only [gqF, Bool.and_eq_true]; rintro ⟨q1, q2⟩; first | exact absurd q1 (by assumption) | exact absurd q2 (by assumption))]; first | done | rfl))
      refine v_to (ls' := [(0, .ref (u.2.1 63)), (1, .int (nI i)), (4, .int (nI S)), (5, .int (nI ((tqS σ i S (nI (othN a (gaN kd n) i)) c).1))), (6, .int (nI ((tqS σ i S (nI (othN a (gaN kd n) i)) c).2))), (7, .int (nI c)), (8, .int (nI (cntN (gqF σ i S c (nI (othN a (gaN kd n) i))) 0))), (9, .int (nI 0))]) (by first | rfl | rw [g1, g2] | simp_all) ?_
      refine L_M_test_52 hA F hb ha h0 hi hS (by omega) ?_ _ 0 (Nat.zero_le _) (Nat.lt_succ_self _)
      refine v_iconst (v := 2) F d_M_test_115 ki_2 ?_
      refine v_iload F d_M_test_116 6 rfl ?_
      refine v_imul F d_M_test_118 ?_
      refine v_te (y := nI (2 * (cntN (gqF σ i S c (nI (othN a (gaN kd n) i))) 6))) (pk_mul _ _) ?_
      refine v_iload F d_M_test_119 2 rfl ?_
      refine v_runi (r_S F (c_M_bits X.2.1 u hA σ S (by omega)) mo_M_bits st_M_175 (by decide) rfl (Nat.le_of_ble_eq_true rfl) d_M_test_121) (fun r3 σ4 q5 => ?_)
      obtain ⟨rfl, rfl⟩ := q5
      refine v_icmp_le F 132 d_M_test_124 rfl (fun h124 => ?_) (fun h124 => ?_)
      · skip
        have h124 : 2 * (cntN (gqF σ i S c (nI (othN a (gaN kd n) i))) 6) ≤ pcN S := (nI_leI (a := 2 * (cntN (gqF σ i S c (nI (othN a (gaN kd n) i))) 6)) (b := pcN S) (by omega) (by omega)).mp h124
        have hp : pqN (pcN S) (cntN (gqF σ i S c (nI (othN a (gaN kd n) i))) 6) = pcN S - (cntN (gqF σ i S c (nI (othN a (gaN kd n) i))) 6) := if_neg (by omega)
        refine v_iload F d_M_test_132 2 rfl ?_
        refine v_runi (r_S F (c_M_bits X.2.1 u hA σ S (by omega)) mo_M_bits st_M_175 (by decide) rfl (Nat.le_of_ble_eq_true rfl) d_M_test_134) (fun r6 σ7 q8 => ?_)
        obtain ⟨rfl, rfl⟩ := q8
        refine v_iload F d_M_test_137 6 rfl ?_
        refine v_isub F d_M_test_139 ?_
        refine v_te (y := nI (pcN S - (cntN (gqF σ i S c (nI (othN a (gaN kd n) i))) 6))) (pk_sub (by omega)) ?_
        refine v_istore (ls' := [(9, .int (nI (pcN S - (cntN (gqF σ i S c (nI (othN a (gaN kd n) i))) 6)))), (0, .ref (u.2.1 63)), (1, .int (nI i)), (4, .int (nI S)), (5, .int (nI ((tqS σ i S (nI (othN a (gaN kd n) i)) c).1))), (6, .int (nI ((tqS σ i S (nI (othN a (gaN kd n) i)) c).2))), (7, .int (nI c)), (8, .int (nI (cntN (gqF σ i S c (nI (othN a (gaN kd n) i))) 6)))]) F d_M_test_140 (by decide) rfl ?_
        refine v_iload F d_M_test_142 0 rfl ?_
        refine v_iload F d_M_test_144 5 rfl ?_
        refine v_icmp_ge F 164 d_M_test_146 rfl (fun h146 => ?_) (fun h146 => ?_)
        · skip
          have h146 : (tqS σ i S (nI (othN a (gaN kd n) i)) c).2 ≤ pcN S - (cntN (gqF σ i S c (nI (othN a (gaN kd n) i))) 6) := (nI_leI (a := (tqS σ i S (nI (othN a (gaN kd n) i)) c).2) (b := pcN S - (cntN (gqF σ i S c (nI (othN a (gaN kd n) i))) 6)) (by omega) (by omega)).mp h146
          refine v_iload F d_M_test_164 4 rfl ?_
          refine v_istore (ls' := [(5, .int (nI ((tqS σ i S (nI (othN a (gaN kd n) i)) c).1))), (9, .int (nI (pcN S - (cntN (gqF σ i S c (nI (othN a (gaN kd n) i))) 6)))), (0, .ref (u.2.1 63)), (1, .int (nI i)), (4, .int (nI S)), (6, .int (nI ((tqS σ i S (nI (othN a (gaN kd n) i)) c).2))), (7, .int (nI c)), (8, .int (nI (cntN (gqF σ i S c (nI (othN a (gaN kd n) i))) 6)))]) F d_M_test_166 (by decide) rfl ?_
          refine v_iload F d_M_test_168 1 rfl ?_
          refine v_iload F d_M_test_170 5 rfl ?_
          refine v_icmp_ge F 180 d_M_test_172 rfl (fun h172 => ?_) (fun h172 => ?_)
          · skip
            have h172 : (tqS σ i S (nI (othN a (gaN kd n) i)) c).2 ≤ pcN S - (cntN (gqF σ i S c (nI (othN a (gaN kd n) i))) 6) := (nI_leI (a := (tqS σ i S (nI (othN a (gaN kd n) i)) c).2) (b := pcN S - (cntN (gqF σ i S c (nI (othN a (gaN kd n) i))) 6)) (by omega) (by omega)).mp h172
            refine v_iload F d_M_test_180 5 rfl ?_
            refine v_istore (ls' := [(6, .int (nI ((tqS σ i S (nI (othN a (gaN kd n) i)) c).2))), (5, .int (nI ((tqS σ i S (nI (othN a (gaN kd n) i)) c).1))), (9, .int (nI (pcN S - (cntN (gqF σ i S c (nI (othN a (gaN kd n) i))) 6)))), (0, .ref (u.2.1 63)), (1, .int (nI i)), (4, .int (nI S)), (7, .int (nI c)), (8, .int (nI (cntN (gqF σ i S c (nI (othN a (gaN kd n) i))) 6)))]) F d_M_test_182 (by decide) rfl ?_
            refine v_iinc (v := nI (c + 1)) (ls' := [(7, .int (nI (c + 1))), (6, .int (nI ((tqS σ i S (nI (othN a (gaN kd n) i)) c).2))), (5, .int (nI ((tqS σ i S (nI (othN a (gaN kd n) i)) c).1))), (9, .int (nI (pcN S - (cntN (gqF σ i S c (nI (othN a (gaN kd n) i))) 6)))), (0, .ref (u.2.1 63)), (1, .int (nI i)), (4, .int (nI S)), (8, .int (nI (cntN (gqF σ i S c (nI (othN a (gaN kd n) i))) 6)))]) F d_M_test_184 (j := 6) rfl (nI_inc _) (by decide) rfl ?_
            refine v_goto F 39 d_M_test_187 rfl ?_
            refine v_sub [4, 5, 6, 2, 1, 0] (ls' := [(0, .ref (u.2.1 63)), (1, .int (nI i)), (4, .int (nI S)), (5, .int (nI ((tqS σ i S (nI (othN a (gaN kd n) i)) c).1))), (6, .int (nI ((tqS σ i S (nI (othN a (gaN kd n) i)) c).2))), (7, .int (nI (c + 1)))]) rfl ?_
            have g9 : (nI ((tqS σ i S (nI (othN a (gaN kd n) i)) c).1)) = (nI ((tqS σ i S (nI (othN a (gaN kd n) i)) (c + 1)).1)) := (by first | rfl | (rw [tq_t (by rw [hp]; omega)]; first | done | rfl | (rw [hp]; done) | (simp only [hp]; done)) | (rw [tq_f (by rw [hp]; omega)]; done) | exact absurd h146 h172 | exact absurd h172 h146)
            have g10 : (nI ((tqS σ i S (nI (othN a (gaN kd n) i)) c).2)) = (nI ((tqS σ i S (nI (othN a (gaN kd n) i)) (c + 1)).2)) := (by first | rfl | (rw [tq_t (by rw [hp]; omega)]; first | done | rfl | (rw [hp]; done) | (simp only [hp]; done)) | (rw [tq_f (by rw [hp]; omega)]; done) | exact absurd h146 h172 | exact absurd h172 h146)
            refine v_to (ls' := [(0, .ref (u.2.1 63)), (1, .int (nI i)), (4, .int (nI S)), (5, .int (nI ((tqS σ i S (nI (othN a (gaN kd n) i)) (c + 1)).1))), (6, .int (nI ((tqS σ i S (nI (othN a (gaN kd n) i)) (c + 1)).2))), (7, .int (nI (c + 1)))]) (by first | rfl | rw [g9, g10] | simp_all) ?_
            exact ih (c + 1) (by omega) (by omega)
          · skip
            have h172 : ¬ (tqS σ i S (nI (othN a (gaN kd n) i)) c).2 ≤ pcN S - (cntN (gqF σ i S c (nI (othN a (gaN kd n) i))) 6) := fun q => h172 ((nI_leI (a := (tqS σ i S (nI (othN a (gaN kd n) i)) c).2) (b := pcN S - (cntN (gqF σ i S c (nI (othN a (gaN kd n) i))) 6)) (by omega) (by omega)).mpr q)
            refine v_iload F d_M_test_175 1 rfl ?_
            refine v_goto F 182 d_M_test_177 rfl ?_
            refine v_istore (ls' := [(6, .int (nI (pcN S - (cntN (gqF σ i S c (nI (othN a (gaN kd n) i))) 6)))), (5, .int (nI ((tqS σ i S (nI (othN a (gaN kd n) i)) c).1))), (9, .int (nI (pcN S - (cntN (gqF σ i S c (nI (othN a (gaN kd n) i))) 6)))), (0, .ref (u.2.1 63)), (1, .int (nI i)), (4, .int (nI S)), (7, .int (nI c)), (8, .int (nI (cntN (gqF σ i S c (nI (othN a (gaN kd n) i))) 6)))]) F d_M_test_182 (by decide) rfl ?_
            refine v_iinc (v := nI (c + 1)) (ls' := [(7, .int (nI (c + 1))), (6, .int (nI (pcN S - (cntN (gqF σ i S c (nI (othN a (gaN kd n) i))) 6)))), (5, .int (nI ((tqS σ i S (nI (othN a (gaN kd n) i)) c).1))), (9, .int (nI (pcN S - (cntN (gqF σ i S c (nI (othN a (gaN kd n) i))) 6)))), (0, .ref (u.2.1 63)), (1, .int (nI i)), (4, .int (nI S)), (8, .int (nI (cntN (gqF σ i S c (nI (othN a (gaN kd n) i))) 6)))]) F d_M_test_184 (j := 6) rfl (nI_inc _) (by decide) rfl ?_
            refine v_goto F 39 d_M_test_187 rfl ?_
            refine v_sub [4, 5, 6, 2, 1, 0] (ls' := [(0, .ref (u.2.1 63)), (1, .int (nI i)), (4, .int (nI S)), (5, .int (nI ((tqS σ i S (nI (othN a (gaN kd n) i)) c).1))), (6, .int (nI (pcN S - (cntN (gqF σ i S c (nI (othN a (gaN kd n) i))) 6)))), (7, .int (nI (c + 1)))]) rfl ?_
            have g11 : (nI ((tqS σ i S (nI (othN a (gaN kd n) i)) c).1)) = (nI ((tqS σ i S (nI (othN a (gaN kd n) i)) (c + 1)).1)) := (by first | rfl | (rw [tq_t (by rw [hp]; omega)]; first | done | rfl | (rw [hp]; done) | (simp only [hp]; done)) | (rw [tq_f (by rw [hp]; omega)]; done) | exact absurd h146 h172 | exact absurd h172 h146)
            have g12 : (nI (pcN S - (cntN (gqF σ i S c (nI (othN a (gaN kd n) i))) 6))) = (nI ((tqS σ i S (nI (othN a (gaN kd n) i)) (c + 1)).2)) := (by first | rfl | (rw [tq_t (by rw [hp]; omega)]; first | done | rfl | (rw [hp]; done) | (simp only [hp]; done)) | (rw [tq_f (by rw [hp]; omega)]; done) | exact absurd h146 h172 | exact absurd h172 h146)
            refine v_to (ls' := [(0, .ref (u.2.1 63)), (1, .int (nI i)), (4, .int (nI S)), (5, .int (nI ((tqS σ i S (nI (othN a (gaN kd n) i)) (c + 1)).1))), (6, .int (nI ((tqS σ i S (nI (othN a (gaN kd n) i)) (c + 1)).2))), (7, .int (nI (c + 1)))]) (by first | rfl | rw [g11, g12] | simp_all) ?_
            exact ih (c + 1) (by omega) (by omega)
        · skip
          have h146 : ¬ (tqS σ i S (nI (othN a (gaN kd n) i)) c).2 ≤ pcN S - (cntN (gqF σ i S c (nI (othN a (gaN kd n) i))) 6) := fun q => h146 ((nI_leI (a := (tqS σ i S (nI (othN a (gaN kd n) i)) c).2) (b := pcN S - (cntN (gqF σ i S c (nI (othN a (gaN kd n) i))) 6)) (by omega) (by omega)).mpr q)
          refine v_bipush (v := 10) F d_M_test_149 kb_10 ?_
          refine v_iload F d_M_test_151 6 rfl ?_
          refine v_iconst (v := 3) F d_M_test_153 ki_3 ?_
          refine v_idiv F d_M_test_154 (by decide) ?_
          refine v_te (y := nI (c / 3)) (pk_div (by omega) (by decide) (by decide)) ?_
          refine v_imul F d_M_test_155 ?_
          refine v_te (y := nI (10 * (c / 3))) (pk_mul _ _) ?_
          refine v_iload F d_M_test_156 6 rfl ?_
          refine v_iconst (v := 3) F d_M_test_158 ki_3 ?_
          refine v_irem F d_M_test_159 (by decide) ?_
          refine v_te (y := nI (c % 3)) (pk_rem (by omega) (by decide) (by decide)) ?_
          refine v_iadd F d_M_test_160 ?_
          refine v_te (y := nI (10 * (c / 3) + c % 3)) (nI_add _ _) ?_
          refine v_goto F 166 d_M_test_161 rfl ?_
          refine v_istore (ls' := [(5, .int (nI (10 * (c / 3) + c % 3))), (9, .int (nI (pcN S - (cntN (gqF σ i S c (nI (othN a (gaN kd n) i))) 6)))), (0, .ref (u.2.1 63)), (1, .int (nI i)), (4, .int (nI S)), (6, .int (nI ((tqS σ i S (nI (othN a (gaN kd n) i)) c).2))), (7, .int (nI c)), (8, .int (nI (cntN (gqF σ i S c (nI (othN a (gaN kd n) i))) 6)))]) F d_M_test_166 (by decide) rfl ?_
          refine v_iload F d_M_test_168 1 rfl ?_
          refine v_iload F d_M_test_170 5 rfl ?_
          refine v_icmp_ge F 180 d_M_test_172 rfl (fun h172 => ?_) (fun h172 => ?_)
          · skip
            have h172 : (tqS σ i S (nI (othN a (gaN kd n) i)) c).2 ≤ pcN S - (cntN (gqF σ i S c (nI (othN a (gaN kd n) i))) 6) := (nI_leI (a := (tqS σ i S (nI (othN a (gaN kd n) i)) c).2) (b := pcN S - (cntN (gqF σ i S c (nI (othN a (gaN kd n) i))) 6)) (by omega) (by omega)).mp h172
            refine v_iload F d_M_test_180 5 rfl ?_
            refine v_istore (ls' := [(6, .int (nI ((tqS σ i S (nI (othN a (gaN kd n) i)) c).2))), (5, .int (nI (10 * (c / 3) + c % 3))), (9, .int (nI (pcN S - (cntN (gqF σ i S c (nI (othN a (gaN kd n) i))) 6)))), (0, .ref (u.2.1 63)), (1, .int (nI i)), (4, .int (nI S)), (7, .int (nI c)), (8, .int (nI (cntN (gqF σ i S c (nI (othN a (gaN kd n) i))) 6)))]) F d_M_test_182 (by decide) rfl ?_
            refine v_iinc (v := nI (c + 1)) (ls' := [(7, .int (nI (c + 1))), (6, .int (nI ((tqS σ i S (nI (othN a (gaN kd n) i)) c).2))), (5, .int (nI (10 * (c / 3) + c % 3))), (9, .int (nI (pcN S - (cntN (gqF σ i S c (nI (othN a (gaN kd n) i))) 6)))), (0, .ref (u.2.1 63)), (1, .int (nI i)), (4, .int (nI S)), (8, .int (nI (cntN (gqF σ i S c (nI (othN a (gaN kd n) i))) 6)))]) F d_M_test_184 (j := 6) rfl (nI_inc _) (by decide) rfl ?_
            refine v_goto F 39 d_M_test_187 rfl ?_
            refine v_sub [4, 5, 6, 2, 1, 0] (ls' := [(0, .ref (u.2.1 63)), (1, .int (nI i)), (4, .int (nI S)), (5, .int (nI (10 * (c / 3) + c % 3))), (6, .int (nI ((tqS σ i S (nI (othN a (gaN kd n) i)) c).2))), (7, .int (nI (c + 1)))]) rfl ?_
            have g13 : (nI (10 * (c / 3) + c % 3)) = (nI ((tqS σ i S (nI (othN a (gaN kd n) i)) (c + 1)).1)) := (by first | rfl | (rw [tq_t (by rw [hp]; omega)]; first | done | rfl | (rw [hp]; done) | (simp only [hp]; done)) | (rw [tq_f (by rw [hp]; omega)]; done) | exact absurd h146 h172 | exact absurd h172 h146)
            have g14 : (nI ((tqS σ i S (nI (othN a (gaN kd n) i)) c).2)) = (nI ((tqS σ i S (nI (othN a (gaN kd n) i)) (c + 1)).2)) := (by first | rfl | (rw [tq_t (by rw [hp]; omega)]; first | done | rfl | (rw [hp]; done) | (simp only [hp]; done)) | (rw [tq_f (by rw [hp]; omega)]; done) | exact absurd h146 h172 | exact absurd h172 h146)
            refine v_to (ls' := [(0, .ref (u.2.1 63)), (1, .int (nI i)), (4, .int (nI S)), (5, .int (nI ((tqS σ i S (nI (othN a (gaN kd n) i)) (c + 1)).1))), (6, .int (nI ((tqS σ i S (nI (othN a (gaN kd n) i)) (c + 1)).2))), (7, .int (nI (c + 1)))]) (by first | rfl | rw [g13, g14] | simp_all) ?_
            exact ih (c + 1) (by omega) (by omega)
          · skip
            have h172 : ¬ (tqS σ i S (nI (othN a (gaN kd n) i)) c).2 ≤ pcN S - (cntN (gqF σ i S c (nI (othN a (gaN kd n) i))) 6) := fun q => h172 ((nI_leI (a := (tqS σ i S (nI (othN a (gaN kd n) i)) c).2) (b := pcN S - (cntN (gqF σ i S c (nI (othN a (gaN kd n) i))) 6)) (by omega) (by omega)).mpr q)
            refine v_iload F d_M_test_175 1 rfl ?_
            refine v_goto F 182 d_M_test_177 rfl ?_
            refine v_istore (ls' := [(6, .int (nI (pcN S - (cntN (gqF σ i S c (nI (othN a (gaN kd n) i))) 6)))), (5, .int (nI (10 * (c / 3) + c % 3))), (9, .int (nI (pcN S - (cntN (gqF σ i S c (nI (othN a (gaN kd n) i))) 6)))), (0, .ref (u.2.1 63)), (1, .int (nI i)), (4, .int (nI S)), (7, .int (nI c)), (8, .int (nI (cntN (gqF σ i S c (nI (othN a (gaN kd n) i))) 6)))]) F d_M_test_182 (by decide) rfl ?_
            refine v_iinc (v := nI (c + 1)) (ls' := [(7, .int (nI (c + 1))), (6, .int (nI (pcN S - (cntN (gqF σ i S c (nI (othN a (gaN kd n) i))) 6)))), (5, .int (nI (10 * (c / 3) + c % 3))), (9, .int (nI (pcN S - (cntN (gqF σ i S c (nI (othN a (gaN kd n) i))) 6)))), (0, .ref (u.2.1 63)), (1, .int (nI i)), (4, .int (nI S)), (8, .int (nI (cntN (gqF σ i S c (nI (othN a (gaN kd n) i))) 6)))]) F d_M_test_184 (j := 6) rfl (nI_inc _) (by decide) rfl ?_
            refine v_goto F 39 d_M_test_187 rfl ?_
            refine v_sub [4, 5, 6, 2, 1, 0] (ls' := [(0, .ref (u.2.1 63)), (1, .int (nI i)), (4, .int (nI S)), (5, .int (nI (10 * (c / 3) + c % 3))), (6, .int (nI (pcN S - (cntN (gqF σ i S c (nI (othN a (gaN kd n) i))) 6)))), (7, .int (nI (c + 1)))]) rfl ?_
            have g15 : (nI (10 * (c / 3) + c % 3)) = (nI ((tqS σ i S (nI (othN a (gaN kd n) i)) (c + 1)).1)) := (by first | rfl | (rw [tq_t (by rw [hp]; omega)]; first | done | rfl | (rw [hp]; done) | (simp only [hp]; done)) | (rw [tq_f (by rw [hp]; omega)]; done) | exact absurd h146 h172 | exact absurd h172 h146)
            have g16 : (nI (pcN S - (cntN (gqF σ i S c (nI (othN a (gaN kd n) i))) 6))) = (nI ((tqS σ i S (nI (othN a (gaN kd n) i)) (c + 1)).2)) := (by first | rfl | (rw [tq_t (by rw [hp]; omega)]; first | done | rfl | (rw [hp]; done) | (simp only [hp]; done)) | (rw [tq_f (by rw [hp]; omega)]; done) | exact absurd h146 h172 | exact absurd h172 h146)
            refine v_to (ls' := [(0, .ref (u.2.1 63)), (1, .int (nI i)), (4, .int (nI S)), (5, .int (nI ((tqS σ i S (nI (othN a (gaN kd n) i)) (c + 1)).1))), (6, .int (nI ((tqS σ i S (nI (othN a (gaN kd n) i)) (c + 1)).2))), (7, .int (nI (c + 1)))]) (by first | rfl | rw [g15, g16] | simp_all) ?_
            exact ih (c + 1) (by omega) (by omega)
      · skip
        have h124 : ¬ 2 * (cntN (gqF σ i S c (nI (othN a (gaN kd n) i))) 6) ≤ pcN S := fun q => h124 ((nI_leI (a := 2 * (cntN (gqF σ i S c (nI (othN a (gaN kd n) i))) 6)) (b := pcN S) (by omega) (by omega)).mpr q)
        have hp : pqN (pcN S) (cntN (gqF σ i S c (nI (othN a (gaN kd n) i))) 6) = (cntN (gqF σ i S c (nI (othN a (gaN kd n) i))) 6) := if_pos (by omega)
        refine v_iload F d_M_test_127 6 rfl ?_
        refine v_goto F 140 d_M_test_129 rfl ?_
        refine v_istore (ls' := [(9, .int (nI (cntN (gqF σ i S c (nI (othN a (gaN kd n) i))) 6))), (0, .ref (u.2.1 63)), (1, .int (nI i)), (4, .int (nI S)), (5, .int (nI ((tqS σ i S (nI (othN a (gaN kd n) i)) c).1))), (6, .int (nI ((tqS σ i S (nI (othN a (gaN kd n) i)) c).2))), (7, .int (nI c)), (8, .int (nI (cntN (gqF σ i S c (nI (othN a (gaN kd n) i))) 6)))]) F d_M_test_140 (by decide) rfl ?_
        refine v_iload F d_M_test_142 0 rfl ?_
        refine v_iload F d_M_test_144 5 rfl ?_
        refine v_icmp_ge F 164 d_M_test_146 rfl (fun h146 => ?_) (fun h146 => ?_)
        · skip
          have h146 : (tqS σ i S (nI (othN a (gaN kd n) i)) c).2 ≤ cntN (gqF σ i S c (nI (othN a (gaN kd n) i))) 6 := (nI_leI (a := (tqS σ i S (nI (othN a (gaN kd n) i)) c).2) (b := cntN (gqF σ i S c (nI (othN a (gaN kd n) i))) 6) (by omega) (by omega)).mp h146
          refine v_iload F d_M_test_164 4 rfl ?_
          refine v_istore (ls' := [(5, .int (nI ((tqS σ i S (nI (othN a (gaN kd n) i)) c).1))), (9, .int (nI (cntN (gqF σ i S c (nI (othN a (gaN kd n) i))) 6))), (0, .ref (u.2.1 63)), (1, .int (nI i)), (4, .int (nI S)), (6, .int (nI ((tqS σ i S (nI (othN a (gaN kd n) i)) c).2))), (7, .int (nI c)), (8, .int (nI (cntN (gqF σ i S c (nI (othN a (gaN kd n) i))) 6)))]) F d_M_test_166 (by decide) rfl ?_
          refine v_iload F d_M_test_168 1 rfl ?_
          refine v_iload F d_M_test_170 5 rfl ?_
          refine v_icmp_ge F 180 d_M_test_172 rfl (fun h172 => ?_) (fun h172 => ?_)
          · skip
            have h172 : (tqS σ i S (nI (othN a (gaN kd n) i)) c).2 ≤ cntN (gqF σ i S c (nI (othN a (gaN kd n) i))) 6 := (nI_leI (a := (tqS σ i S (nI (othN a (gaN kd n) i)) c).2) (b := cntN (gqF σ i S c (nI (othN a (gaN kd n) i))) 6) (by omega) (by omega)).mp h172
            refine v_iload F d_M_test_180 5 rfl ?_
            refine v_istore (ls' := [(6, .int (nI ((tqS σ i S (nI (othN a (gaN kd n) i)) c).2))), (5, .int (nI ((tqS σ i S (nI (othN a (gaN kd n) i)) c).1))), (9, .int (nI (cntN (gqF σ i S c (nI (othN a (gaN kd n) i))) 6))), (0, .ref (u.2.1 63)), (1, .int (nI i)), (4, .int (nI S)), (7, .int (nI c)), (8, .int (nI (cntN (gqF σ i S c (nI (othN a (gaN kd n) i))) 6)))]) F d_M_test_182 (by decide) rfl ?_
            refine v_iinc (v := nI (c + 1)) (ls' := [(7, .int (nI (c + 1))), (6, .int (nI ((tqS σ i S (nI (othN a (gaN kd n) i)) c).2))), (5, .int (nI ((tqS σ i S (nI (othN a (gaN kd n) i)) c).1))), (9, .int (nI (cntN (gqF σ i S c (nI (othN a (gaN kd n) i))) 6))), (0, .ref (u.2.1 63)), (1, .int (nI i)), (4, .int (nI S)), (8, .int (nI (cntN (gqF σ i S c (nI (othN a (gaN kd n) i))) 6)))]) F d_M_test_184 (j := 6) rfl (nI_inc _) (by decide) rfl ?_
            refine v_goto F 39 d_M_test_187 rfl ?_
            refine v_sub [4, 5, 6, 2, 1, 0] (ls' := [(0, .ref (u.2.1 63)), (1, .int (nI i)), (4, .int (nI S)), (5, .int (nI ((tqS σ i S (nI (othN a (gaN kd n) i)) c).1))), (6, .int (nI ((tqS σ i S (nI (othN a (gaN kd n) i)) c).2))), (7, .int (nI (c + 1)))]) rfl ?_
            have g17 : (nI ((tqS σ i S (nI (othN a (gaN kd n) i)) c).1)) = (nI ((tqS σ i S (nI (othN a (gaN kd n) i)) (c + 1)).1)) := (by first | rfl | (rw [tq_t (by rw [hp]; omega)]; first | done | rfl | (rw [hp]; done) | (simp only [hp]; done)) | (rw [tq_f (by rw [hp]; omega)]; done) | exact absurd h146 h172 | exact absurd h172 h146)
            have g18 : (nI ((tqS σ i S (nI (othN a (gaN kd n) i)) c).2)) = (nI ((tqS σ i S (nI (othN a (gaN kd n) i)) (c + 1)).2)) := (by first | rfl | (rw [tq_t (by rw [hp]; omega)]; first | done | rfl | (rw [hp]; done) | (simp only [hp]; done)) | (rw [tq_f (by rw [hp]; omega)]; done) | exact absurd h146 h172 | exact absurd h172 h146)
            refine v_to (ls' := [(0, .ref (u.2.1 63)), (1, .int (nI i)), (4, .int (nI S)), (5, .int (nI ((tqS σ i S (nI (othN a (gaN kd n) i)) (c + 1)).1))), (6, .int (nI ((tqS σ i S (nI (othN a (gaN kd n) i)) (c + 1)).2))), (7, .int (nI (c + 1)))]) (by first | rfl | rw [g17, g18] | simp_all) ?_
            exact ih (c + 1) (by omega) (by omega)
          · skip
            have h172 : ¬ (tqS σ i S (nI (othN a (gaN kd n) i)) c).2 ≤ cntN (gqF σ i S c (nI (othN a (gaN kd n) i))) 6 := fun q => h172 ((nI_leI (a := (tqS σ i S (nI (othN a (gaN kd n) i)) c).2) (b := cntN (gqF σ i S c (nI (othN a (gaN kd n) i))) 6) (by omega) (by omega)).mpr q)
            refine v_iload F d_M_test_175 1 rfl ?_
            refine v_goto F 182 d_M_test_177 rfl ?_
            refine v_istore (ls' := [(6, .int (nI (cntN (gqF σ i S c (nI (othN a (gaN kd n) i))) 6))), (5, .int (nI ((tqS σ i S (nI (othN a (gaN kd n) i)) c).1))), (9, .int (nI (cntN (gqF σ i S c (nI (othN a (gaN kd n) i))) 6))), (0, .ref (u.2.1 63)), (1, .int (nI i)), (4, .int (nI S)), (7, .int (nI c)), (8, .int (nI (cntN (gqF σ i S c (nI (othN a (gaN kd n) i))) 6)))]) F d_M_test_182 (by decide) rfl ?_
            refine v_iinc (v := nI (c + 1)) (ls' := [(7, .int (nI (c + 1))), (6, .int (nI (cntN (gqF σ i S c (nI (othN a (gaN kd n) i))) 6))), (5, .int (nI ((tqS σ i S (nI (othN a (gaN kd n) i)) c).1))), (9, .int (nI (cntN (gqF σ i S c (nI (othN a (gaN kd n) i))) 6))), (0, .ref (u.2.1 63)), (1, .int (nI i)), (4, .int (nI S)), (8, .int (nI (cntN (gqF σ i S c (nI (othN a (gaN kd n) i))) 6)))]) F d_M_test_184 (j := 6) rfl (nI_inc _) (by decide) rfl ?_
            refine v_goto F 39 d_M_test_187 rfl ?_
            refine v_sub [4, 5, 6, 2, 1, 0] (ls' := [(0, .ref (u.2.1 63)), (1, .int (nI i)), (4, .int (nI S)), (5, .int (nI ((tqS σ i S (nI (othN a (gaN kd n) i)) c).1))), (6, .int (nI (cntN (gqF σ i S c (nI (othN a (gaN kd n) i))) 6))), (7, .int (nI (c + 1)))]) rfl ?_
            have g19 : (nI ((tqS σ i S (nI (othN a (gaN kd n) i)) c).1)) = (nI ((tqS σ i S (nI (othN a (gaN kd n) i)) (c + 1)).1)) := (by first | rfl | (rw [tq_t (by rw [hp]; omega)]; first | done | rfl | (rw [hp]; done) | (simp only [hp]; done)) | (rw [tq_f (by rw [hp]; omega)]; done) | exact absurd h146 h172 | exact absurd h172 h146)
            have g20 : (nI (cntN (gqF σ i S c (nI (othN a (gaN kd n) i))) 6)) = (nI ((tqS σ i S (nI (othN a (gaN kd n) i)) (c + 1)).2)) := (by first | rfl | (rw [tq_t (by rw [hp]; omega)]; first | done | rfl | (rw [hp]; done) | (simp only [hp]; done)) | (rw [tq_f (by rw [hp]; omega)]; done) | exact absurd h146 h172 | exact absurd h172 h146)
            refine v_to (ls' := [(0, .ref (u.2.1 63)), (1, .int (nI i)), (4, .int (nI S)), (5, .int (nI ((tqS σ i S (nI (othN a (gaN kd n) i)) (c + 1)).1))), (6, .int (nI ((tqS σ i S (nI (othN a (gaN kd n) i)) (c + 1)).2))), (7, .int (nI (c + 1)))]) (by first | rfl | rw [g19, g20] | simp_all) ?_
            exact ih (c + 1) (by omega) (by omega)
        · skip
          have h146 : ¬ (tqS σ i S (nI (othN a (gaN kd n) i)) c).2 ≤ cntN (gqF σ i S c (nI (othN a (gaN kd n) i))) 6 := fun q => h146 ((nI_leI (a := (tqS σ i S (nI (othN a (gaN kd n) i)) c).2) (b := cntN (gqF σ i S c (nI (othN a (gaN kd n) i))) 6) (by omega) (by omega)).mpr q)
          refine v_bipush (v := 10) F d_M_test_149 kb_10 ?_
          refine v_iload F d_M_test_151 6 rfl ?_
          refine v_iconst (v := 3) F d_M_test_153 ki_3 ?_
          refine v_idiv F d_M_test_154 (by decide) ?_
          refine v_te (y := nI (c / 3)) (pk_div (by omega) (by decide) (by decide)) ?_
          refine v_imul F d_M_test_155 ?_
          refine v_te (y := nI (10 * (c / 3))) (pk_mul _ _) ?_
          refine v_iload F d_M_test_156 6 rfl ?_
          refine v_iconst (v := 3) F d_M_test_158 ki_3 ?_
          refine v_irem F d_M_test_159 (by decide) ?_
          refine v_te (y := nI (c % 3)) (pk_rem (by omega) (by decide) (by decide)) ?_
          refine v_iadd F d_M_test_160 ?_
          refine v_te (y := nI (10 * (c / 3) + c % 3)) (nI_add _ _) ?_
          refine v_goto F 166 d_M_test_161 rfl ?_
          refine v_istore (ls' := [(5, .int (nI (10 * (c / 3) + c % 3))), (9, .int (nI (cntN (gqF σ i S c (nI (othN a (gaN kd n) i))) 6))), (0, .ref (u.2.1 63)), (1, .int (nI i)), (4, .int (nI S)), (6, .int (nI ((tqS σ i S (nI (othN a (gaN kd n) i)) c).2))), (7, .int (nI c)), (8, .int (nI (cntN (gqF σ i S c (nI (othN a (gaN kd n) i))) 6)))]) F d_M_test_166 (by decide) rfl ?_
          refine v_iload F d_M_test_168 1 rfl ?_
          refine v_iload F d_M_test_170 5 rfl ?_
          refine v_icmp_ge F 180 d_M_test_172 rfl (fun h172 => ?_) (fun h172 => ?_)
          · skip
            have h172 : (tqS σ i S (nI (othN a (gaN kd n) i)) c).2 ≤ cntN (gqF σ i S c (nI (othN a (gaN kd n) i))) 6 := (nI_leI (a := (tqS σ i S (nI (othN a (gaN kd n) i)) c).2) (b := cntN (gqF σ i S c (nI (othN a (gaN kd n) i))) 6) (by omega) (by omega)).mp h172
            refine v_iload F d_M_test_180 5 rfl ?_
            refine v_istore (ls' := [(6, .int (nI ((tqS σ i S (nI (othN a (gaN kd n) i)) c).2))), (5, .int (nI (10 * (c / 3) + c % 3))), (9, .int (nI (cntN (gqF σ i S c (nI (othN a (gaN kd n) i))) 6))), (0, .ref (u.2.1 63)), (1, .int (nI i)), (4, .int (nI S)), (7, .int (nI c)), (8, .int (nI (cntN (gqF σ i S c (nI (othN a (gaN kd n) i))) 6)))]) F d_M_test_182 (by decide) rfl ?_
            refine v_iinc (v := nI (c + 1)) (ls' := [(7, .int (nI (c + 1))), (6, .int (nI ((tqS σ i S (nI (othN a (gaN kd n) i)) c).2))), (5, .int (nI (10 * (c / 3) + c % 3))), (9, .int (nI (cntN (gqF σ i S c (nI (othN a (gaN kd n) i))) 6))), (0, .ref (u.2.1 63)), (1, .int (nI i)), (4, .int (nI S)), (8, .int (nI (cntN (gqF σ i S c (nI (othN a (gaN kd n) i))) 6)))]) F d_M_test_184 (j := 6) rfl (nI_inc _) (by decide) rfl ?_
            refine v_goto F 39 d_M_test_187 rfl ?_
            refine v_sub [4, 5, 6, 2, 1, 0] (ls' := [(0, .ref (u.2.1 63)), (1, .int (nI i)), (4, .int (nI S)), (5, .int (nI (10 * (c / 3) + c % 3))), (6, .int (nI ((tqS σ i S (nI (othN a (gaN kd n) i)) c).2))), (7, .int (nI (c + 1)))]) rfl ?_
            have g21 : (nI (10 * (c / 3) + c % 3)) = (nI ((tqS σ i S (nI (othN a (gaN kd n) i)) (c + 1)).1)) := (by first | rfl | (rw [tq_t (by rw [hp]; omega)]; first | done | rfl | (rw [hp]; done) | (simp only [hp]; done)) | (rw [tq_f (by rw [hp]; omega)]; done) | exact absurd h146 h172 | exact absurd h172 h146)
            have g22 : (nI ((tqS σ i S (nI (othN a (gaN kd n) i)) c).2)) = (nI ((tqS σ i S (nI (othN a (gaN kd n) i)) (c + 1)).2)) := (by first | rfl | (rw [tq_t (by rw [hp]; omega)]; first | done | rfl | (rw [hp]; done) | (simp only [hp]; done)) | (rw [tq_f (by rw [hp]; omega)]; done) | exact absurd h146 h172 | exact absurd h172 h146)
            refine v_to (ls' := [(0, .ref (u.2.1 63)), (1, .int (nI i)), (4, .int (nI S)), (5, .int (nI ((tqS σ i S (nI (othN a (gaN kd n) i)) (c + 1)).1))), (6, .int (nI ((tqS σ i S (nI (othN a (gaN kd n) i)) (c + 1)).2))), (7, .int (nI (c + 1)))]) (by first | rfl | rw [g21, g22] | simp_all) ?_
            exact ih (c + 1) (by omega) (by omega)
          · skip
            have h172 : ¬ (tqS σ i S (nI (othN a (gaN kd n) i)) c).2 ≤ cntN (gqF σ i S c (nI (othN a (gaN kd n) i))) 6 := fun q => h172 ((nI_leI (a := (tqS σ i S (nI (othN a (gaN kd n) i)) c).2) (b := cntN (gqF σ i S c (nI (othN a (gaN kd n) i))) 6) (by omega) (by omega)).mpr q)
            refine v_iload F d_M_test_175 1 rfl ?_
            refine v_goto F 182 d_M_test_177 rfl ?_
            refine v_istore (ls' := [(6, .int (nI (cntN (gqF σ i S c (nI (othN a (gaN kd n) i))) 6))), (5, .int (nI (10 * (c / 3) + c % 3))), (9, .int (nI (cntN (gqF σ i S c (nI (othN a (gaN kd n) i))) 6))), (0, .ref (u.2.1 63)), (1, .int (nI i)), (4, .int (nI S)), (7, .int (nI c)), (8, .int (nI (cntN (gqF σ i S c (nI (othN a (gaN kd n) i))) 6)))]) F d_M_test_182 (by decide) rfl ?_
            refine v_iinc (v := nI (c + 1)) (ls' := [(7, .int (nI (c + 1))), (6, .int (nI (cntN (gqF σ i S c (nI (othN a (gaN kd n) i))) 6))), (5, .int (nI (10 * (c / 3) + c % 3))), (9, .int (nI (cntN (gqF σ i S c (nI (othN a (gaN kd n) i))) 6))), (0, .ref (u.2.1 63)), (1, .int (nI i)), (4, .int (nI S)), (8, .int (nI (cntN (gqF σ i S c (nI (othN a (gaN kd n) i))) 6)))]) F d_M_test_184 (j := 6) rfl (nI_inc _) (by decide) rfl ?_
            refine v_goto F 39 d_M_test_187 rfl ?_
            refine v_sub [4, 5, 6, 2, 1, 0] (ls' := [(0, .ref (u.2.1 63)), (1, .int (nI i)), (4, .int (nI S)), (5, .int (nI (10 * (c / 3) + c % 3))), (6, .int (nI (cntN (gqF σ i S c (nI (othN a (gaN kd n) i))) 6))), (7, .int (nI (c + 1)))]) rfl ?_
            have g23 : (nI (10 * (c / 3) + c % 3)) = (nI ((tqS σ i S (nI (othN a (gaN kd n) i)) (c + 1)).1)) := (by first | rfl | (rw [tq_t (by rw [hp]; omega)]; first | done | rfl | (rw [hp]; done) | (simp only [hp]; done)) | (rw [tq_f (by rw [hp]; omega)]; done) | exact absurd h146 h172 | exact absurd h172 h146)
            have g24 : (nI (cntN (gqF σ i S c (nI (othN a (gaN kd n) i))) 6)) = (nI ((tqS σ i S (nI (othN a (gaN kd n) i)) (c + 1)).2)) := (by first | rfl | (rw [tq_t (by rw [hp]; omega)]; first | done | rfl | (rw [hp]; done) | (simp only [hp]; done)) | (rw [tq_f (by rw [hp]; omega)]; done) | exact absurd h146 h172 | exact absurd h172 h146)
            refine v_to (ls' := [(0, .ref (u.2.1 63)), (1, .int (nI i)), (4, .int (nI S)), (5, .int (nI ((tqS σ i S (nI (othN a (gaN kd n) i)) (c + 1)).1))), (6, .int (nI ((tqS σ i S (nI (othN a (gaN kd n) i)) (c + 1)).2))), (7, .int (nI (c + 1)))]) (by first | rfl | rw [g23, g24] | simp_all) ?_
            exact ih (c + 1) (by omega) (by omega)
set_option maxHeartbeats 4000000 in
theorem c_M_test (l : Launch) (u : Un) (hA : Ap u) (σ : St) {n : Nat} {kd : Nat → Nat} (hb : mkOk σ n kd) {a : Nat} (ha : a < 64) (h0 : σ.1 76 0 = nI a) (hI : mRowsOk σ) (i r : Int32) : MTi l u y_M_test b_M_test 10 .int 4 [.ref (u.2.1 63), .int i, .int r] σ (fun x σ' => trM1 σ n i r x σ' (if ksM σ kd n a (ix i) (ix r) (rdM σ (ix r) / 3) = 0 then -9 else nI (tqS σ (ix i) (ksM σ kd n a (ix i) (ix r) (rdM σ (ix r) / 3)) (nI (othN a (gaN kd n) (ix i))) 30).1) (if ksM σ kd n a (ix i) (ix r) (rdM σ (ix r) / 3) = 0 then σ else uI σ 63 2 (nI (tqS σ (ix i) (ksM σ kd n a (ix i) (ix r) (rdM σ (ix r) / 3)) (nI (othN a (gaN kd n) (ix i))) 30).2))) := by
  refine MT_of hA rfl (by decide) (Nat.le_of_ble_eq_true rfl) (fun X hl F hr => ?_)
  subst hl
  refine v_to (ls' := [(0, .ref (u.2.1 63)), (1, .int i), (2, .int r)]) rfl ?_
  obtain ⟨hn, hn6, hkd, hk6⟩ := id hb
  refine v_aload_n F d_M_test_0 rfl 0 rfl ?_
  refine v_iload_n F d_M_test_1 rfl 1 rfl ?_
  refine v_iload_n F d_M_test_2 rfl 2 rfl ?_
  refine v_runi (r_V F (c_M_needTriples X.2.1 u hA σ hb i r hI) mo_M_needTriples st_M_274 rc_63 (by decide) rfl (Nat.le_of_ble_eq_true rfl) d_M_test_3) (fun r1 σ2 q3 => ?_)
  rcases q3 with ⟨a1, rfl, rfl⟩ | ⟨a1, ⟨a2, rfl, eσ2⟩ | ⟨a2, a3, rfl, eσ2⟩ | ⟨a2, a3, a4, rfl, rfl⟩ | ⟨a2, a3, a4, rfl, eσ2⟩⟩
  · skip
    refine v_istore_n (ls' := [(3, .int (-1)), (0, .ref (u.2.1 63)), (1, .int i), (2, .int r)]) F d_M_test_6 rfl (by decide) rfl ?_
    refine v_iload_n F d_M_test_7 rfl 0 rfl ?_
    refine v_if_ge F 13 d_M_test_8 rfl (fun h => absurd h (by decide)) (fun _ => ?_)
    refine v_iload_n F d_M_test_11 rfl 0 rfl ?_
    refine v_iret F hr rfl d_M_test_12 ?_
    exact Or.inl ⟨a1, rfl, rfl⟩
  · skip
    refine v_istore_n (ls' := [(3, .int (-3)), (0, .ref (u.2.1 63)), (1, .int i), (2, .int r)]) F d_M_test_6 rfl (by decide) rfl ?_
    refine v_iload_n F d_M_test_7 rfl 0 rfl ?_
    refine v_if_ge F 13 d_M_test_8 rfl (fun h => absurd h (by decide)) (fun _ => ?_)
    refine v_iload_n F d_M_test_11 rfl 0 rfl ?_
    refine v_iret F hr rfl d_M_test_12 ?_
    first | exact Or.inr ⟨a1, Or.inl ⟨a2, rfl, by assumption⟩⟩ | exact Or.inr ⟨a1, Or.inr (Or.inl ⟨a2, by assumption, rfl, by assumption⟩)⟩ | exact Or.inr ⟨a1, Or.inr (Or.inr (Or.inr ⟨a2, by assumption, by assumption, rfl, by assumption⟩))⟩
  · skip
    refine v_istore_n (ls' := [(3, .int (-3)), (0, .ref (u.2.1 63)), (1, .int i), (2, .int r)]) F d_M_test_6 rfl (by decide) rfl ?_
    refine v_iload_n F d_M_test_7 rfl 0 rfl ?_
    refine v_if_ge F 13 d_M_test_8 rfl (fun h => absurd h (by decide)) (fun _ => ?_)
    refine v_iload_n F d_M_test_11 rfl 0 rfl ?_
    refine v_iret F hr rfl d_M_test_12 ?_
    first | exact Or.inr ⟨a1, Or.inl ⟨a2, rfl, by assumption⟩⟩ | exact Or.inr ⟨a1, Or.inr (Or.inl ⟨a2, by assumption, rfl, by assumption⟩)⟩ | exact Or.inr ⟨a1, Or.inr (Or.inr (Or.inr ⟨a2, by assumption, by assumption, rfl, by assumption⟩))⟩
  · skip
    obtain ⟨ro, hro, xr, rfl⟩ := inR_nat (N := 6) a1.2 rfl (by decide)
    obtain ⟨i, hi, xi, rfl⟩ := has_nat a1.1 rfl hn6
    rw [xr] at a2 a3 a4
    obtain ⟨N, hN, xN, eN0⟩ := nat_of (M := 40) a2 (hI _ hro) rfl (by decide)
    have eR : rdM σ ro = N := xN
    rw [eR] at a3 a4
    obtain ⟨T, rfl⟩ : ∃ T, N = 3 * T := ⟨N / 3, by omega⟩
    have hT : T ≤ 13 := by omega
    have eN : σ.1 65 ro = nI (3 * T) := eN0
    have e3 : 3 * T / 3 = T := by omega
    refine v_istore_n (ls' := [(3, .int 0), (0, .ref (u.2.1 63)), (1, .int (nI i)), (2, .int (nI ro))]) F d_M_test_6 rfl (by decide) rfl ?_
    refine v_iload_n F d_M_test_7 rfl 0 rfl ?_
    refine v_if_ge F 13 d_M_test_8 rfl (fun _ => ?_) (fun h => absurd (by decide) h)
    refine v_aload_n F d_M_test_13 rfl 1 rfl ?_
    refine v_iload_n F d_M_test_14 rfl 2 rfl ?_
    refine v_iload_n F d_M_test_15 rfl 3 rfl ?_
    refine v_runi (r_V F (c_M_kindSet X.2.1 u hA σ hb ha h0 hro hT eN i (by omega)) mo_M_kindSet st_M_281 rc_63 (by decide) rfl (Nat.le_of_ble_eq_true rfl) d_M_test_16) (fun r4 σ5 q6 => ?_)
    obtain ⟨rfl, rfl⟩ := q6
    have hk64 := ksM_64 (σ := σ) (kd := kd) (n := n) (a := a) (i := i) (ro := ro) (T := T)
    refine v_istore (ls' := [(4, .int (nI (ksM σ kd n a i ro T))), (3, .int 0), (0, .ref (u.2.1 63)), (1, .int (nI i)), (2, .int (nI ro))]) F d_M_test_19 (by decide) rfl ?_
    refine v_iload F d_M_test_21 0 rfl ?_
    refine v_if_ne F 29 d_M_test_23 rfl (fun h23 => ?_) (fun h23 => ?_)
    · skip
      have h23 : ¬ ksM σ kd n a i ro T = 0 := fun q => h23 ((nI_eq (a := ksM σ kd n a i ro T) (b := 0) (by omega) (by omega)).mpr q)
      refine v_iconst (v := 0) F d_M_test_29 ki_0 ?_
      refine v_istore (ls' := [(5, .int 0), (4, .int (nI (ksM σ kd n a i ro T))), (3, .int 0), (0, .ref (u.2.1 63)), (1, .int (nI i)), (2, .int (nI ro))]) F d_M_test_30 (by decide) rfl ?_
      refine v_ldc (v := 1000000) F kc_M_218 d_M_test_32 ?_
      refine v_istore (ls' := [(6, .int 1000000), (5, .int 0), (4, .int (nI (ksM σ kd n a i ro T))), (3, .int 0), (0, .ref (u.2.1 63)), (1, .int (nI i)), (2, .int (nI ro))]) F d_M_test_34 (by decide) rfl ?_
      refine v_iconst (v := 0) F d_M_test_36 ki_0 ?_
      refine v_istore (ls' := [(7, .int 0), (6, .int 1000000), (5, .int 0), (4, .int (nI (ksM σ kd n a i ro T))), (3, .int 0), (0, .ref (u.2.1 63)), (1, .int (nI i)), (2, .int (nI ro))]) F d_M_test_37 (by decide) rfl ?_
      refine v_sub [5, 6, 3, 2, 1, 0] (ls' := [(0, .ref (u.2.1 63)), (1, .int (nI i)), (4, .int (nI (ksM σ kd n a i ro T))), (5, .int 0), (6, .int 1000000), (7, .int 0)]) rfl ?_
      have g7 : 0 = (nI ((tqS σ i (ksM σ kd n a i ro T) (nI (othN a (gaN kd n) i)) 0).1)) := (by first | rfl)
      have g8 : 1000000 = (nI ((tqS σ i (ksM σ kd n a i ro T) (nI (othN a (gaN kd n) i)) 0).2)) := (by first | rfl)
      have g9 : 0 = (nI 0) := (by first | rfl)
      refine v_to (ls' := [(0, .ref (u.2.1 63)), (1, .int (nI i)), (4, .int (nI (ksM σ kd n a i ro T))), (5, .int (nI ((tqS σ i (ksM σ kd n a i ro T) (nI (othN a (gaN kd n) i)) 0).1))), (6, .int (nI ((tqS σ i (ksM σ kd n a i ro T) (nI (othN a (gaN kd n) i)) 0).2))), (7, .int (nI 0))]) (by first | rfl | rw [g7, g8, g9] | simp_all) ?_
      refine L_M_test_39 hA F hb ha h0 hi ksM_64 ?_ _ 0 (Nat.zero_le _) (Nat.lt_succ_self _)
      refine v_aload_n F d_M_test_190 rfl 0 rfl ?_
      refine v_iload F d_M_test_191 4 rfl ?_
      refine v_iload F d_M_test_193 3 rfl ?_
      refine v_runi (r_V F (c_M_tells X.2.1 u hA σ (nI ((tqS σ i (ksM σ kd n a i ro T) (nI (othN a (gaN kd n) i)) 30).2)) (nI ((tqS σ i (ksM σ kd n a i ro T) (nI (othN a (gaN kd n) i)) 30).1))) mo_M_tells st_M_111 rc_63 (by decide) rfl (Nat.le_of_ble_eq_true rfl) d_M_test_195) (fun r10 σ11 q12 => ?_)
      obtain ⟨rfl, eσ11⟩ := q12
      refine v_iret F hr rfl d_M_test_198 ?_
      exact Or.inr ⟨a1, Or.inr (Or.inr (Or.inl ⟨by rw [xr]; exact a2, by rw [xr, eR]; exact a3, by rw [xr, eR]; exact a4, by rw [xr, xi, eR, e3, if_neg (by assumption)], by rw [xr, xi, eR, e3, if_neg (by assumption)]; subst_vars; rfl⟩))⟩
    · skip
      have h23 : ksM σ kd n a i ro T = 0 := (nI_eq (a := ksM σ kd n a i ro T) (b := 0) (by omega) (by omega)).mp h23
      refine v_bipush (v := (-9)) F d_M_test_26 kb_m9 ?_
      refine v_iret F hr rfl d_M_test_28 ?_
      exact Or.inr ⟨a1, Or.inr (Or.inr (Or.inl ⟨by rw [xr]; exact a2, by rw [xr, eR]; exact a3, by rw [xr, eR]; exact a4, by rw [xr, xi, eR, e3, if_pos (by assumption)], by rw [xr, xi, eR, e3, if_pos (by assumption)]⟩))⟩
  · skip
    refine v_istore_n (ls' := [(3, .int (-3)), (0, .ref (u.2.1 63)), (1, .int i), (2, .int r)]) F d_M_test_6 rfl (by decide) rfl ?_
    refine v_iload_n F d_M_test_7 rfl 0 rfl ?_
    refine v_if_ge F 13 d_M_test_8 rfl (fun h => absurd h (by decide)) (fun _ => ?_)
    refine v_iload_n F d_M_test_11 rfl 0 rfl ?_
    refine v_iret F hr rfl d_M_test_12 ?_
    first | exact Or.inr ⟨a1, Or.inl ⟨a2, rfl, by assumption⟩⟩ | exact Or.inr ⟨a1, Or.inr (Or.inl ⟨a2, by assumption, rfl, by assumption⟩)⟩ | exact Or.inr ⟨a1, Or.inr (Or.inr (Or.inr ⟨a2, by assumption, by assumption, rfl, by assumption⟩))⟩
