theorem fk_B_80 : fok "TakerBook$Band" 80 5 0 := ⟨(R_R, F_R, 5), rfl, by decide, List.mem_of_getElem? (i := 109) (by decide +kernel), rfl⟩
theorem fk_B_81 : fok "TakerBook$Band" 81 5 2 := ⟨(R_R, F_R, 5), rfl, by decide, List.mem_of_getElem? (i := 113) (by decide +kernel), rfl⟩
theorem pk_B_gang : pok 1 13 .int := ⟨(R_B, F_B, 19), rfl, rfl, by decide +kernel⟩
theorem fk_B_55 : fok "TakerBook$Band" 55 5 3 := ⟨(R_R, F_R, 5), rfl, by decide, List.mem_of_getElem? (i := 114) (by decide +kernel), rfl⟩
theorem pk_B_thieves : pok 1 8 .int := ⟨(R_B, F_B, 19), rfl, rfl, by decide +kernel⟩
theorem fk_B_62 : fok "TakerBook$Band" 62 5 1 := ⟨(R_R, F_R, 5), rfl, by decide, List.mem_of_getElem? (i := 111) (by decide +kernel), rfl⟩
theorem pk_B_bounty : pok 1 9 .int := ⟨(R_B, F_B, 19), rfl, rfl, by decide +kernel⟩
theorem pk_B_fee : pok 1 10 .int := ⟨(R_B, F_B, 19), rfl, rfl, by decide +kernel⟩
theorem pk_B_fear : pok 1 11 .int := ⟨(R_B, F_B, 19), rfl, rfl, by decide +kernel⟩
theorem pk_B_bench : pok 1 12 .int := ⟨(R_B, F_B, 19), rfl, rfl, by decide +kernel⟩
theorem st_B_92 : siteV "TakerBook$Band" 92 ⟨"TakerBook$Band", "restart", "()V"⟩ := ⟨List.mem_of_getElem? (i := 531) (by decide +kernel), List.mem_of_getElem? (i := 532) (by decide +kernel), List.mem_of_getElem? (i := 533) (by decide +kernel)⟩
theorem fk_T_29 : fok "TakerBook" 29 0 4 := ⟨(R_T, F_T, 15), rfl, by decide, List.mem_of_getElem? (i := 359) (by decide +kernel), rfl⟩
theorem st_T_110 : siteV "TakerBook" 110 ⟨"TakerBook$Reader", "read", "([BI)I"⟩ := ⟨List.mem_of_getElem? (i := 465) (by decide +kernel), List.mem_of_getElem? (i := 466) (by decide +kernel), List.mem_of_getElem? (i := 467) (by decide +kernel)⟩
theorem st_T_114 : siteV "TakerBook" 114 ⟨"TakerBook$Band", "load", "(LTakerBook$Reader;)V"⟩ := ⟨List.mem_of_getElem? (i := 498) (by decide +kernel), List.mem_of_getElem? (i := 499) (by decide +kernel), List.mem_of_getElem? (i := 500) (by decide +kernel)⟩
abbrev b_B_load : ByteArray := prog_2_method_2_code
abbrev y_B_load : MethodName := ⟨"TakerBook$Band", "load", "(LTakerBook$Reader;)V"⟩
theorem d_B_load_0 : decode b_B_load 0 = .ok (.aload_n 0, 1) := by decide +kernel
theorem d_B_load_1 : decode b_B_load 1 = .ok (.aload_n 1, 1) := by decide +kernel
theorem d_B_load_2 : decode b_B_load 2 = .ok (.getfield 55, 3) := by decide +kernel
theorem d_B_load_5 : decode b_B_load 5 = .ok (.putfield 61, 3) := by decide +kernel
theorem d_B_load_8 : decode b_B_load 8 = .ok (.aload_n 0, 1) := by decide +kernel
theorem d_B_load_9 : decode b_B_load 9 = .ok (.aload_n 1, 1) := by decide +kernel
theorem d_B_load_10 : decode b_B_load 10 = .ok (.getfield 62, 3) := by decide +kernel
theorem d_B_load_13 : decode b_B_load 13 = .ok (.iconst 0, 1) := by decide +kernel
theorem d_B_load_14 : decode b_B_load 14 = .ok (.iaload, 1) := by decide +kernel
theorem d_B_load_15 : decode b_B_load 15 = .ok (.putfield 65, 3) := by decide +kernel
theorem d_B_load_18 : decode b_B_load 18 = .ok (.aload_n 0, 1) := by decide +kernel
theorem d_B_load_19 : decode b_B_load 19 = .ok (.aload_n 1, 1) := by decide +kernel
theorem d_B_load_20 : decode b_B_load 20 = .ok (.getfield 62, 3) := by decide +kernel
theorem d_B_load_23 : decode b_B_load 23 = .ok (.iconst 1, 1) := by decide +kernel
theorem d_B_load_24 : decode b_B_load 24 = .ok (.iaload, 1) := by decide +kernel
theorem d_B_load_25 : decode b_B_load 25 = .ok (.putfield 68, 3) := by decide +kernel
theorem d_B_load_28 : decode b_B_load 28 = .ok (.aload_n 0, 1) := by decide +kernel
theorem d_B_load_29 : decode b_B_load 29 = .ok (.aload_n 1, 1) := by decide +kernel
theorem d_B_load_30 : decode b_B_load 30 = .ok (.getfield 62, 3) := by decide +kernel
theorem d_B_load_33 : decode b_B_load 33 = .ok (.iconst 2, 1) := by decide +kernel
theorem d_B_load_34 : decode b_B_load 34 = .ok (.iaload, 1) := by decide +kernel
theorem d_B_load_35 : decode b_B_load 35 = .ok (.putfield 71, 3) := by decide +kernel
theorem d_B_load_38 : decode b_B_load 38 = .ok (.aload_n 0, 1) := by decide +kernel
theorem d_B_load_39 : decode b_B_load 39 = .ok (.aload_n 1, 1) := by decide +kernel
theorem d_B_load_40 : decode b_B_load 40 = .ok (.getfield 62, 3) := by decide +kernel
theorem d_B_load_43 : decode b_B_load 43 = .ok (.iconst 3, 1) := by decide +kernel
theorem d_B_load_44 : decode b_B_load 44 = .ok (.iaload, 1) := by decide +kernel
theorem d_B_load_45 : decode b_B_load 45 = .ok (.putfield 74, 3) := by decide +kernel
theorem d_B_load_48 : decode b_B_load 48 = .ok (.aload_n 0, 1) := by decide +kernel
theorem d_B_load_49 : decode b_B_load 49 = .ok (.iconst 0, 1) := by decide +kernel
theorem d_B_load_50 : decode b_B_load 50 = .ok (.putfield 77, 3) := by decide +kernel
theorem d_B_load_53 : decode b_B_load 53 = .ok (.iconst 0, 1) := by decide +kernel
theorem d_B_load_54 : decode b_B_load 54 = .ok (.istore_n 2, 1) := by decide +kernel
theorem d_B_load_55 : decode b_B_load 55 = .ok (.iload_n 2, 1) := by decide +kernel
theorem d_B_load_56 : decode b_B_load 56 = .ok (.aload_n 0, 1) := by decide +kernel
theorem d_B_load_57 : decode b_B_load 57 = .ok (.getfield 61, 3) := by decide +kernel
theorem d_B_load_60 : decode b_B_load 60 = .ok (.if_icmp .ge 96, 3) := by decide +kernel
theorem d_B_load_63 : decode b_B_load 63 = .ok (.aload_n 0, 1) := by decide +kernel
theorem d_B_load_64 : decode b_B_load 64 = .ok (.getfield 33, 3) := by decide +kernel
theorem d_B_load_67 : decode b_B_load 67 = .ok (.iload_n 2, 1) := by decide +kernel
theorem d_B_load_68 : decode b_B_load 68 = .ok (.aload_n 1, 1) := by decide +kernel
theorem d_B_load_69 : decode b_B_load 69 = .ok (.getfield 80, 3) := by decide +kernel
theorem d_B_load_72 : decode b_B_load 72 = .ok (.iload_n 2, 1) := by decide +kernel
theorem d_B_load_73 : decode b_B_load 73 = .ok (.iaload, 1) := by decide +kernel
theorem d_B_load_74 : decode b_B_load 74 = .ok (.iastore, 1) := by decide +kernel
theorem d_B_load_75 : decode b_B_load 75 = .ok (.aload_n 0, 1) := by decide +kernel
theorem d_B_load_76 : decode b_B_load 76 = .ok (.getfield 37, 3) := by decide +kernel
theorem d_B_load_79 : decode b_B_load 79 = .ok (.iload_n 2, 1) := by decide +kernel
theorem d_B_load_80 : decode b_B_load 80 = .ok (.aload_n 1, 1) := by decide +kernel
theorem d_B_load_81 : decode b_B_load 81 = .ok (.getfield 81, 3) := by decide +kernel
theorem d_B_load_84 : decode b_B_load 84 = .ok (.iconst 3, 1) := by decide +kernel
theorem d_B_load_85 : decode b_B_load 85 = .ok (.iload_n 2, 1) := by decide +kernel
theorem d_B_load_86 : decode b_B_load 86 = .ok (.imul, 1) := by decide +kernel
theorem d_B_load_87 : decode b_B_load 87 = .ok (.iaload, 1) := by decide +kernel
theorem d_B_load_88 : decode b_B_load 88 = .ok (.iastore, 1) := by decide +kernel
theorem d_B_load_89 : decode b_B_load 89 = .ok (.aload_n 0, 1) := by decide +kernel
theorem d_B_load_90 : decode b_B_load 90 = .ok (.getfield 40, 3) := by decide +kernel
theorem d_B_load_93 : decode b_B_load 93 = .ok (.iload_n 2, 1) := by decide +kernel
theorem d_B_load_94 : decode b_B_load 94 = .ok (.aload_n 1, 1) := by decide +kernel
theorem d_B_load_95 : decode b_B_load 95 = .ok (.getfield 81, 3) := by decide +kernel
theorem d_B_load_98 : decode b_B_load 98 = .ok (.iconst 3, 1) := by decide +kernel
theorem d_B_load_99 : decode b_B_load 99 = .ok (.iload_n 2, 1) := by decide +kernel
theorem d_B_load_100 : decode b_B_load 100 = .ok (.imul, 1) := by decide +kernel
theorem d_B_load_101 : decode b_B_load 101 = .ok (.iconst 1, 1) := by decide +kernel
theorem d_B_load_102 : decode b_B_load 102 = .ok (.iadd, 1) := by decide +kernel
theorem d_B_load_103 : decode b_B_load 103 = .ok (.iaload, 1) := by decide +kernel
theorem d_B_load_104 : decode b_B_load 104 = .ok (.iastore, 1) := by decide +kernel
theorem d_B_load_105 : decode b_B_load 105 = .ok (.aload_n 0, 1) := by decide +kernel
theorem d_B_load_106 : decode b_B_load 106 = .ok (.getfield 43, 3) := by decide +kernel
theorem d_B_load_109 : decode b_B_load 109 = .ok (.iload_n 2, 1) := by decide +kernel
theorem d_B_load_110 : decode b_B_load 110 = .ok (.aload_n 1, 1) := by decide +kernel
theorem d_B_load_111 : decode b_B_load 111 = .ok (.getfield 81, 3) := by decide +kernel
theorem d_B_load_114 : decode b_B_load 114 = .ok (.iconst 3, 1) := by decide +kernel
theorem d_B_load_115 : decode b_B_load 115 = .ok (.iload_n 2, 1) := by decide +kernel
theorem d_B_load_116 : decode b_B_load 116 = .ok (.imul, 1) := by decide +kernel
theorem d_B_load_117 : decode b_B_load 117 = .ok (.iconst 2, 1) := by decide +kernel
theorem d_B_load_118 : decode b_B_load 118 = .ok (.iadd, 1) := by decide +kernel
theorem d_B_load_119 : decode b_B_load 119 = .ok (.iaload, 1) := by decide +kernel
theorem d_B_load_120 : decode b_B_load 120 = .ok (.iastore, 1) := by decide +kernel
theorem d_B_load_121 : decode b_B_load 121 = .ok (.aload_n 0, 1) := by decide +kernel
theorem d_B_load_122 : decode b_B_load 122 = .ok (.aload_n 0, 1) := by decide +kernel
theorem d_B_load_123 : decode b_B_load 123 = .ok (.getfield 33, 3) := by decide +kernel
theorem d_B_load_126 : decode b_B_load 126 = .ok (.iload_n 2, 1) := by decide +kernel
theorem d_B_load_127 : decode b_B_load 127 = .ok (.iaload, 1) := by decide +kernel
theorem d_B_load_128 : decode b_B_load 128 = .ok (.invokevirtual 84, 3) := by decide +kernel
theorem d_B_load_131 : decode b_B_load 131 = .ok (.iconst 3, 1) := by decide +kernel
theorem d_B_load_132 : decode b_B_load 132 = .ok (.invokevirtual 88, 3) := by decide +kernel
theorem d_B_load_135 : decode b_B_load 135 = .ok (.ifCond .eq 15, 3) := by decide +kernel
theorem d_B_load_138 : decode b_B_load 138 = .ok (.aload_n 0, 1) := by decide +kernel
theorem d_B_load_139 : decode b_B_load 139 = .ok (.dup, 1) := by decide +kernel
theorem d_B_load_140 : decode b_B_load 140 = .ok (.getfield 77, 3) := by decide +kernel
theorem d_B_load_143 : decode b_B_load 143 = .ok (.iconst 1, 1) := by decide +kernel
theorem d_B_load_144 : decode b_B_load 144 = .ok (.iload_n 2, 1) := by decide +kernel
theorem d_B_load_145 : decode b_B_load 145 = .ok (.ishl, 1) := by decide +kernel
theorem d_B_load_146 : decode b_B_load 146 = .ok (.ior, 1) := by decide +kernel
theorem d_B_load_147 : decode b_B_load 147 = .ok (.putfield 77, 3) := by decide +kernel
theorem d_B_load_150 : decode b_B_load 150 = .ok (.iinc 2 1, 3) := by decide +kernel
theorem d_B_load_153 : decode b_B_load 153 = .ok (.goto (-98), 3) := by decide +kernel
theorem d_B_load_156 : decode b_B_load 156 = .ok (.aload_n 0, 1) := by decide +kernel
theorem d_B_load_157 : decode b_B_load 157 = .ok (.invokevirtual 92, 3) := by decide +kernel
theorem d_B_load_160 : decode b_B_load 160 = .ok (.return_, 1) := by decide +kernel
theorem mo_B_load : mok y_B_load b_B_load 3 none 1 := ⟨List.mem_of_getElem? (i := 501) (by decide +kernel), ⟨by decide +kernel, by decide +kernel, by decide +kernel⟩, List.mem_of_getElem? (i := 76) (by decide +kernel), by decide⟩
set_option maxHeartbeats 4000000 in
theorem L_B_load_55 {X : FX} {u : Un} (hA : Ap u) {Q : State → Prop} (F : Fr X u "TakerBook$Band" b_B_load 3) {σ : St} {n : Nat} {kd : Nat → Nat} (hn6 : n ≤ 6) (hk : ∀ i, i < n → σ.1 16 i = nI (kd i) ∧ kd i < 6) (k0 : ∀ (i : Nat) (τ : St), ldB σ τ n → ldA σ τ kd n → V X u 5 3 Q 156 [(0, .ref (u.2.1 19))] [] (τ)) : ∀ (nn : Nat) (i : Nat) (τ : St), i ≤ n → ldB σ τ n → ldA σ τ kd i → n - i < nn → V X u 5 3 Q 55 [(0, .ref (u.2.1 19)), (1, .ref (u.2.1 15)), (2, .int (nI i))] [] (τ) := by
  intro nn
  induction nn with
  | zero =>
    intro i τ hi hB hA2 h2
    exact absurd h2 (Nat.not_lt_zero _)
  | succ nn ih =>
    intro i τ hi hB hA2 hm
    refine v_iload_n F d_B_load_55 rfl 2 rfl ?_
    refine v_aload_n F d_B_load_56 rfl 0 rfl ?_
    refine v_geti F fk_B_61 G19 rfl d_B_load_57 ?_
    refine v_te (y := nI n) hB.1 ?_
    refine v_icmp_ge F 156 d_B_load_60 rfl (fun h60 => ?_) (fun h60 => ?_)
    · skip
      have h60 : n ≤ i := (nI_leI (a := n) (b := i) (by omega) (by omega)).mp h60
      refine v_sub [0] (ls' := [(0, .ref (u.2.1 19))]) rfl ?_
      exact k0 i τ hB (by have e : i = n := (by omega); subst e; exact hA2)
    · skip
      have h60 : ¬ n ≤ i := fun q => h60 ((nI_leI (a := n) (b := i) (by omega) (by omega)).mpr q)
      refine v_aload_n F d_B_load_63 rfl 0 rfl ?_
      refine v_getr (r := 27) F fk_B_33 G19 rfl d_B_load_64 ?_
      refine v_iload_n F d_B_load_67 rfl 2 rfl ?_
      refine v_aload_n F d_B_load_68 rfl 1 rfl ?_
      refine v_getr (r := 16) F fk_B_80 G15 rfl d_B_load_69 ?_
      refine v_iload_n F d_B_load_72 rfl 2 rfl ?_
      refine v_ial F i G16 rfl (by omega) d_B_load_73 ?_
      refine v_te (y := nI (kd i)) ((hB.2.2.2.2.2.1 16 i (by decide) (by decide)).trans (hk i (by omega)).1) ?_
      refine v_ias F i G27 rfl (by omega) d_B_load_74 ?_
      refine v_ns (fun σ1 eσ1 => ?_)
      refine v_aload_n F d_B_load_75 rfl 0 rfl ?_
      refine v_getr (r := 28) F fk_B_37 G19 rfl d_B_load_76 ?_
      refine v_iload_n F d_B_load_79 rfl 2 rfl ?_
      refine v_aload_n F d_B_load_80 rfl 1 rfl ?_
      refine v_getr (r := 18) F fk_B_81 G15 rfl d_B_load_81 ?_
      refine v_iconst (v := 3) F d_B_load_84 ki_3 ?_
      refine v_iload_n F d_B_load_85 rfl 2 rfl ?_
      refine v_imul F d_B_load_86 ?_
      refine v_te (y := nI (3 * i)) (pk_mul _ _) ?_
      refine v_ial F (3 * i) G18 rfl (by omega) d_B_load_87 ?_
      refine v_te (y := σ.1 18 (3 * i)) (by subst_vars; (repeat rw [uI_o _ _ _ _ (by decide)]); exact hB.2.2.2.2.2.1 18 _ (by decide) (by decide)) ?_
      refine v_ias F i G28 rfl (by omega) d_B_load_88 ?_
      refine v_ns (fun σ2 eσ2 => ?_)
      refine v_aload_n F d_B_load_89 rfl 0 rfl ?_
      refine v_getr (r := 29) F fk_B_40 G19 rfl d_B_load_90 ?_
      refine v_iload_n F d_B_load_93 rfl 2 rfl ?_
      refine v_aload_n F d_B_load_94 rfl 1 rfl ?_
      refine v_getr (r := 18) F fk_B_81 G15 rfl d_B_load_95 ?_
      refine v_iconst (v := 3) F d_B_load_98 ki_3 ?_
      refine v_iload_n F d_B_load_99 rfl 2 rfl ?_
      refine v_imul F d_B_load_100 ?_
      refine v_te (y := nI (3 * i)) (pk_mul _ _) ?_
      refine v_iconst (v := 1) F d_B_load_101 ki_1 ?_
      refine v_iadd F d_B_load_102 ?_
      refine v_te (y := nI (3 * i + 1)) (nI_add _ _) ?_
      refine v_ial F (3 * i + 1) G18 rfl (by omega) d_B_load_103 ?_
      refine v_te (y := σ.1 18 (3 * i + 1)) (by subst_vars; (repeat rw [uI_o _ _ _ _ (by decide)]); exact hB.2.2.2.2.2.1 18 _ (by decide) (by decide)) ?_
      refine v_ias F i G29 rfl (by omega) d_B_load_104 ?_
      refine v_ns (fun σ3 eσ3 => ?_)
      refine v_aload_n F d_B_load_105 rfl 0 rfl ?_
      refine v_getr (r := 30) F fk_B_43 G19 rfl d_B_load_106 ?_
      refine v_iload_n F d_B_load_109 rfl 2 rfl ?_
      refine v_aload_n F d_B_load_110 rfl 1 rfl ?_
      refine v_getr (r := 18) F fk_B_81 G15 rfl d_B_load_111 ?_
      refine v_iconst (v := 3) F d_B_load_114 ki_3 ?_
      refine v_iload_n F d_B_load_115 rfl 2 rfl ?_
      refine v_imul F d_B_load_116 ?_
      refine v_te (y := nI (3 * i)) (pk_mul _ _) ?_
      refine v_iconst (v := 2) F d_B_load_117 ki_2 ?_
      refine v_iadd F d_B_load_118 ?_
      refine v_te (y := nI (3 * i + 2)) (nI_add _ _) ?_
      refine v_ial F (3 * i + 2) G18 rfl (by omega) d_B_load_119 ?_
      refine v_te (y := σ.1 18 (3 * i + 2)) (by subst_vars; (repeat rw [uI_o _ _ _ _ (by decide)]); exact hB.2.2.2.2.2.1 18 _ (by decide) (by decide)) ?_
      refine v_ias F i G30 rfl (by omega) d_B_load_120 ?_
      refine v_ns (fun σ4 eσ4 => ?_)
      refine v_aload_n F d_B_load_121 rfl 0 rfl ?_
      refine v_aload_n F d_B_load_122 rfl 0 rfl ?_
      refine v_getr (r := 27) F fk_B_33 G19 rfl d_B_load_123 ?_
      refine v_iload_n F d_B_load_126 rfl 2 rfl ?_
      refine v_ial F i G27 rfl (by omega) d_B_load_127 ?_
      refine v_te (y := nI (kd i)) (by subst_vars; rw [uI_o _ _ _ _ (by decide), uI_o _ _ _ _ (by decide), uI_o _ _ _ _ (by decide), uI_s]) ?_
      refine v_runr (r_V F (c_B_nature X.2.1 u hA σ4 (kd i) (hk i (by omega)).2) mo_B_nature st_B_84 rc_19 (by decide) rfl (Nat.le_of_ble_eq_true rfl) d_B_load_128) ?_
      refine v_iconst (v := 3) F d_B_load_131 ki_3 ?_
      refine vs_B_88 hA F (k := kd i) (hk i (by omega)).2 (by decide) (Nat.le_of_ble_eq_true rfl) d_B_load_132 ?_
      refine v_bt F 150 d_B_load_135 rfl (fun h135 => ?_) (fun h135 => ?_)
      · skip
        refine v_iinc (v := nI (i + 1)) (ls' := [(2, .int (nI (i + 1))), (0, .ref (u.2.1 19)), (1, .ref (u.2.1 15))]) F d_B_load_150 (j := 2) rfl (nI_inc _) (by decide) rfl ?_
        refine v_goto F 55 d_B_load_153 rfl ?_
        refine v_sub [1, 2, 0] (ls' := [(0, .ref (u.2.1 19)), (1, .ref (u.2.1 15)), (2, .int (nI (i + 1)))]) rfl ?_
        exact ih (i + 1) (σ4) (by omega) (by subst_vars; exact ld4_B hB) (by subst_vars; exact ldA_f hA2 (by assumption)) (by omega)
      · skip
        refine v_aload_n F d_B_load_138 rfl 0 rfl ?_
        refine v_dup F d_B_load_139 rfl ?_
        refine v_geti F fk_B_77 G19 rfl d_B_load_140 ?_
        refine v_te (y := nI (gnT kd i)) (by subst_vars; exact ld4_g hA2) ?_
        refine v_iconst (v := 1) F d_B_load_143 ki_1 ?_
        refine v_iload_n F d_B_load_144 rfl 2 rfl ?_
        refine v_ishl F d_B_load_145 ?_
        refine v_te (y := nI (2 ^ i)) (bit6 _ (by omega)) ?_
        refine v_ior F d_B_load_146 ?_
        refine v_te (y := nI ((gnT kd i) ||| (2 ^ i))) nI_or ?_
        refine v_puti F fk_B_77 pk_B_gang G19 rfl d_B_load_147 ?_
        refine v_ns (fun σ5 eσ5 => ?_)
        refine v_iinc (v := nI (i + 1)) (ls' := [(2, .int (nI (i + 1))), (0, .ref (u.2.1 19)), (1, .ref (u.2.1 15))]) F d_B_load_150 (j := 2) rfl (nI_inc _) (by decide) rfl ?_
        refine v_goto F 55 d_B_load_153 rfl ?_
        refine v_sub [1, 2, 0] (ls' := [(0, .ref (u.2.1 19)), (1, .ref (u.2.1 15)), (2, .int (nI (i + 1)))]) rfl ?_
        exact ih (i + 1) (σ5) (by omega) (by subst_vars; exact ldB_g (ld4_B hB)) (by subst_vars; exact ldA_t hA2 (by assumption)) (by omega)
set_option maxHeartbeats 4000000 in
theorem c_B_load (l : Launch) (u : Un) (hA : Ap u) (σ : St) {n : Nat} {kd : Nat → Nat} (hn : σ.1 15 3 = nI n) (hn6 : n ≤ 6) (hk : ∀ i, i < n → σ.1 16 i = nI (kd i) ∧ kd i < 6) : MTv l u y_B_load b_B_load 3 5 [.ref (u.2.1 19), .ref (u.2.1 15)] σ (fun σ' => ∃ ρ, ldB σ ρ n ∧ ldA σ ρ kd n ∧ σ' = rsS ρ n) := by
  refine MT_of hA rfl (by decide) (Nat.le_of_ble_eq_true rfl) (fun X hl F hr => ?_)
  subst hl
  refine v_to (ls' := [(0, .ref (u.2.1 19)), (1, .ref (u.2.1 15))]) rfl ?_
  refine v_aload_n F d_B_load_0 rfl 0 rfl ?_
  refine v_aload_n F d_B_load_1 rfl 1 rfl ?_
  refine v_geti F fk_B_55 G15 rfl d_B_load_2 ?_
  refine v_te (y := nI n) hn ?_
  refine v_puti F fk_B_61 pk_B_thieves G19 rfl d_B_load_5 ?_
  refine v_ns (fun σ1 eσ1 => ?_)
  refine v_aload_n F d_B_load_8 rfl 0 rfl ?_
  refine v_aload_n F d_B_load_9 rfl 1 rfl ?_
  refine v_getr (r := 17) F fk_B_62 G15 rfl d_B_load_10 ?_
  refine v_iconst (v := 0) F d_B_load_13 ki_0 ?_
  refine v_ial F 0 G17 rfl (by omega) d_B_load_14 ?_
  refine v_te (y := σ.1 17 0) (by subst_vars; (repeat rw [uI_o _ _ _ _ (by decide)])) ?_
  refine v_puti F fk_B_65 pk_B_bounty G19 rfl d_B_load_15 ?_
  refine v_ns (fun σ2 eσ2 => ?_)
  refine v_aload_n F d_B_load_18 rfl 0 rfl ?_
  refine v_aload_n F d_B_load_19 rfl 1 rfl ?_
  refine v_getr (r := 17) F fk_B_62 G15 rfl d_B_load_20 ?_
  refine v_iconst (v := 1) F d_B_load_23 ki_1 ?_
  refine v_ial F 1 G17 rfl (by omega) d_B_load_24 ?_
  refine v_te (y := σ.1 17 1) (by subst_vars; (repeat rw [uI_o _ _ _ _ (by decide)])) ?_
  refine v_puti F fk_B_68 pk_B_fee G19 rfl d_B_load_25 ?_
  refine v_ns (fun σ3 eσ3 => ?_)
  refine v_aload_n F d_B_load_28 rfl 0 rfl ?_
  refine v_aload_n F d_B_load_29 rfl 1 rfl ?_
  refine v_getr (r := 17) F fk_B_62 G15 rfl d_B_load_30 ?_
  refine v_iconst (v := 2) F d_B_load_33 ki_2 ?_
  refine v_ial F 2 G17 rfl (by omega) d_B_load_34 ?_
  refine v_te (y := σ.1 17 2) (by subst_vars; (repeat rw [uI_o _ _ _ _ (by decide)])) ?_
  refine v_puti F fk_B_71 pk_B_fear G19 rfl d_B_load_35 ?_
  refine v_ns (fun σ4 eσ4 => ?_)
  refine v_aload_n F d_B_load_38 rfl 0 rfl ?_
  refine v_aload_n F d_B_load_39 rfl 1 rfl ?_
  refine v_getr (r := 17) F fk_B_62 G15 rfl d_B_load_40 ?_
  refine v_iconst (v := 3) F d_B_load_43 ki_3 ?_
  refine v_ial F 3 G17 rfl (by omega) d_B_load_44 ?_
  refine v_te (y := σ.1 17 3) (by subst_vars; (repeat rw [uI_o _ _ _ _ (by decide)])) ?_
  refine v_puti F fk_B_74 pk_B_bench G19 rfl d_B_load_45 ?_
  refine v_ns (fun σ5 eσ5 => ?_)
  refine v_aload_n F d_B_load_48 rfl 0 rfl ?_
  refine v_iconst (v := 0) F d_B_load_49 ki_0 ?_
  refine v_puti F fk_B_77 pk_B_gang G19 rfl d_B_load_50 ?_
  refine v_ns (fun σ6 eσ6 => ?_)
  refine v_iconst (v := 0) F d_B_load_53 ki_0 ?_
  refine v_istore_n (ls' := [(2, .int 0), (0, .ref (u.2.1 19)), (1, .ref (u.2.1 15))]) F d_B_load_54 rfl (by decide) rfl ?_
  refine v_sub [1, 2, 0] (ls' := [(0, .ref (u.2.1 19)), (1, .ref (u.2.1 15)), (2, .int 0)]) rfl ?_
  have g7 : 0 = (nI 0) := (by first | rfl | (simp_all; done) | grind)
  refine v_to (ls' := [(0, .ref (u.2.1 19)), (1, .ref (u.2.1 15)), (2, .int (nI 0))]) (by first | rfl | rw [g7] | simp_all) ?_
  refine L_B_load_55 hA F hn6 hk (fun i ρ hB hA2 => ?_) _ 0 σ6 (Nat.zero_le _) (by subst_vars; exact (ld_0 (kd := kd)).1) (by subst_vars; exact ld_0.2) (Nat.lt_succ_self _)
  refine v_aload_n F d_B_load_156 rfl 0 rfl ?_
  refine v_runv (r_V F (c_B_restart X.2.1 u hA ρ (n := n) hB.1 hn6) mo_B_restart st_B_92 rc_19 (by decide) rfl (Nat.le_of_ble_eq_true rfl) d_B_load_157) (fun σ9 q10 => ?_)
  subst q10
  refine v_vret F hr d_B_load_160 ?_
  exact ⟨ρ, hB, hA2, rfl⟩
abbrev b_T_fault : ByteArray := prog_1_method_10_code
abbrev y_T_fault : MethodName := ⟨"TakerBook", "fault", "(I)I"⟩
theorem d_T_fault_0 : decode b_T_fault 0 = .ok (.aload_n 0, 1) := by decide +kernel
theorem d_T_fault_1 : decode b_T_fault 1 = .ok (.iload_n 1, 1) := by decide +kernel
theorem d_T_fault_2 : decode b_T_fault 2 = .ok (.invokevirtual 107, 3) := by decide +kernel
theorem d_T_fault_5 : decode b_T_fault 5 = .ok (.istore_n 2, 1) := by decide +kernel
theorem d_T_fault_6 : decode b_T_fault 6 = .ok (.iload_n 2, 1) := by decide +kernel
theorem d_T_fault_7 : decode b_T_fault 7 = .ok (.ifCond .eq 7, 3) := by decide +kernel
theorem d_T_fault_10 : decode b_T_fault 10 = .ok (.iload_n 2, 1) := by decide +kernel
theorem d_T_fault_11 : decode b_T_fault 11 = .ok (.goto 22, 3) := by decide +kernel
theorem d_T_fault_14 : decode b_T_fault 14 = .ok (.aload_n 0, 1) := by decide +kernel
theorem d_T_fault_15 : decode b_T_fault 15 = .ok (.getfield 29, 3) := by decide +kernel
theorem d_T_fault_18 : decode b_T_fault 18 = .ok (.aload_n 0, 1) := by decide +kernel
theorem d_T_fault_19 : decode b_T_fault 19 = .ok (.getfield 20, 3) := by decide +kernel
theorem d_T_fault_22 : decode b_T_fault 22 = .ok (.iload_n 1, 1) := by decide +kernel
theorem d_T_fault_23 : decode b_T_fault 23 = .ok (.aaload, 1) := by decide +kernel
theorem d_T_fault_24 : decode b_T_fault 24 = .ok (.aload_n 0, 1) := by decide +kernel
theorem d_T_fault_25 : decode b_T_fault 25 = .ok (.getfield 23, 3) := by decide +kernel
theorem d_T_fault_28 : decode b_T_fault 28 = .ok (.iload_n 1, 1) := by decide +kernel
theorem d_T_fault_29 : decode b_T_fault 29 = .ok (.iaload, 1) := by decide +kernel
theorem d_T_fault_30 : decode b_T_fault 30 = .ok (.invokevirtual 110, 3) := by decide +kernel
theorem d_T_fault_33 : decode b_T_fault 33 = .ok (.ireturn, 1) := by decide +kernel
theorem mo_T_fault : mok y_T_fault b_T_fault 3 (some .int) 1 := ⟨List.mem_of_getElem? (i := 464) (by decide +kernel), ⟨by decide +kernel, by decide +kernel, by decide +kernel⟩, List.mem_of_getElem? (i := 74) (by decide +kernel), by decide⟩
set_option maxHeartbeats 4000000 in
theorem c_T_fault (l : Launch) (u : Un) (hA : Ap u) (σ : St) (x : Int32) (hJ : textsOk σ) : MTi l u y_T_fault b_T_fault 3 .int 3 [.ref (u.2.1 0), .int x] σ (fun ans σ' => ∃ τ, frT σ τ ∧ (ans, σ') = tFault σ τ x) := by
  refine MT_of hA rfl (by decide) (Nat.le_of_ble_eq_true rfl) (fun X hl F hr => ?_)
  subst hl
  refine v_to (ls' := [(0, .ref (u.2.1 0)), (1, .int x)]) rfl ?_
  refine v_aload_n F d_T_fault_0 rfl 0 rfl ?_
  refine v_iload_n F d_T_fault_1 rfl 1 rfl ?_
  refine v_runi (r_V F (c_T_refusedText X.2.1 u hA σ x) mo_T_refusedText st_T_107 rc_0 (by decide) rfl (Nat.le_of_ble_eq_true rfl) d_T_fault_2) (fun r1 σ2 q3 => ?_)
  rcases q3 with ⟨a1, rfl, rfl⟩ | ⟨a1, a2, rfl, eσ2⟩ | ⟨a1, a2, rfl, rfl⟩
  · skip
    refine v_istore_n (ls' := [(2, .int (-1)), (0, .ref (u.2.1 0)), (1, .int x)]) F d_T_fault_5 rfl (by decide) rfl ?_
    refine v_iload_n F d_T_fault_6 rfl 0 rfl ?_
    refine v_if_eq F 14 d_T_fault_7 rfl (fun h => absurd h (by decide)) (fun _ => ?_)
    refine v_iload_n F d_T_fault_10 rfl 0 rfl ?_
    refine v_goto F 33 d_T_fault_11 rfl ?_
    refine v_iret F hr rfl d_T_fault_33 ?_
    refine ⟨σ, frT.rf, ?_⟩
    unfold tFault
    rw [if_pos (by assumption)]
  · skip
    refine v_istore_n (ls' := [(2, .int (-3)), (0, .ref (u.2.1 0)), (1, .int x)]) F d_T_fault_5 rfl (by decide) rfl ?_
    refine v_iload_n F d_T_fault_6 rfl 0 rfl ?_
    refine v_if_eq F 14 d_T_fault_7 rfl (fun h => absurd h (by decide)) (fun _ => ?_)
    refine v_iload_n F d_T_fault_10 rfl 0 rfl ?_
    refine v_goto F 33 d_T_fault_11 rfl ?_
    refine v_iret F hr rfl d_T_fault_33 ?_
    refine ⟨σ, frT.rf, ?_⟩
    unfold tFault
    rw [if_neg (fun q => q (by assumption)), if_pos (by assumption)]
    subst_vars
    rfl
  · skip
    obtain ⟨t, ht, xt, rfl⟩ := inR_nat (N := 4) a1 rfl (by decide)
    rw [xt] at a2
    obtain ⟨N, hN, xN, eN⟩ := nat_of (M := 60) a2 (hJ _ ht) rfl (by decide)
    refine v_istore_n (ls' := [(2, .int 0), (0, .ref (u.2.1 0)), (1, .int (nI t))]) F d_T_fault_5 rfl (by decide) rfl ?_
    refine v_iload_n F d_T_fault_6 rfl 0 rfl ?_
    refine v_if_eq F 14 d_T_fault_7 rfl (fun _ => ?_) (fun h => absurd (by decide) h)
    refine v_aload_n F d_T_fault_14 rfl 1 rfl ?_
    refine v_getr (r := 15) F fk_T_29 G0 rfl d_T_fault_15 ?_
    refine v_aload_n F d_T_fault_18 rfl 1 rfl ?_
    refine v_getr (r := 9) F fk_T_20 G0 rfl d_T_fault_19 ?_
    refine v_iload_n F d_T_fault_22 rfl 2 rfl ?_
    refine v_aal F t G9 rfl rfl (by omega) d_T_fault_23 ?_
    refine v_aload_n F d_T_fault_24 rfl 1 rfl ?_
    refine v_getr (r := 14) F fk_T_23 G0 rfl d_T_fault_25 ?_
    refine v_iload_n F d_T_fault_28 rfl 2 rfl ?_
    refine v_ial F t G14 rfl (by omega) d_T_fault_29 ?_
    refine v_te (y := nI N) eN ?_
    refine v_runi (r_V F (c_R_read X.2.1 u hA σ (t := t) (N := N) ht hN trivial) mo_R_read st_T_110 rc_15 (by decide) rfl (Nat.le_of_ble_eq_true rfl) d_T_fault_30) (fun r4 σ5 q6 => ?_)
    obtain ⟨fσ5, rfl, hbk⟩ := q6
    refine v_iret F hr rfl d_T_fault_33 ?_
    refine ⟨σ5, fσ5, ?_⟩
    unfold tFault
    rw [if_neg (fun q => q (by assumption)), xt, if_neg (i_nlt.mpr (by assumption)), xN]
abbrev b_T_book : ByteArray := prog_1_method_11_code
abbrev y_T_book : MethodName := ⟨"TakerBook", "book", "(I)I"⟩
theorem d_T_book_0 : decode b_T_book 0 = .ok (.aload_n 0, 1) := by decide +kernel
theorem d_T_book_1 : decode b_T_book 1 = .ok (.iload_n 1, 1) := by decide +kernel
theorem d_T_book_2 : decode b_T_book 2 = .ok (.invokevirtual 107, 3) := by decide +kernel
theorem d_T_book_5 : decode b_T_book 5 = .ok (.istore_n 2, 1) := by decide +kernel
theorem d_T_book_6 : decode b_T_book 6 = .ok (.iload_n 2, 1) := by decide +kernel
theorem d_T_book_7 : decode b_T_book 7 = .ok (.ifCond .eq 5, 3) := by decide +kernel
theorem d_T_book_10 : decode b_T_book 10 = .ok (.iload_n 2, 1) := by decide +kernel
theorem d_T_book_11 : decode b_T_book 11 = .ok (.ireturn, 1) := by decide +kernel
theorem d_T_book_12 : decode b_T_book 12 = .ok (.aload_n 0, 1) := by decide +kernel
theorem d_T_book_13 : decode b_T_book 13 = .ok (.getfield 29, 3) := by decide +kernel
theorem d_T_book_16 : decode b_T_book 16 = .ok (.aload_n 0, 1) := by decide +kernel
theorem d_T_book_17 : decode b_T_book 17 = .ok (.getfield 20, 3) := by decide +kernel
theorem d_T_book_20 : decode b_T_book 20 = .ok (.iload_n 1, 1) := by decide +kernel
theorem d_T_book_21 : decode b_T_book 21 = .ok (.aaload, 1) := by decide +kernel
theorem d_T_book_22 : decode b_T_book 22 = .ok (.aload_n 0, 1) := by decide +kernel
theorem d_T_book_23 : decode b_T_book 23 = .ok (.getfield 23, 3) := by decide +kernel
theorem d_T_book_26 : decode b_T_book 26 = .ok (.iload_n 1, 1) := by decide +kernel
theorem d_T_book_27 : decode b_T_book 27 = .ok (.iaload, 1) := by decide +kernel
theorem d_T_book_28 : decode b_T_book 28 = .ok (.invokevirtual 110, 3) := by decide +kernel
theorem d_T_book_31 : decode b_T_book 31 = .ok (.bipush (-9), 2) := by decide +kernel
theorem d_T_book_33 : decode b_T_book 33 = .ok (.if_icmp .eq 6, 3) := by decide +kernel
theorem d_T_book_36 : decode b_T_book 36 = .ok (.bipush (-4), 2) := by decide +kernel
theorem d_T_book_38 : decode b_T_book 38 = .ok (.ireturn, 1) := by decide +kernel
theorem d_T_book_39 : decode b_T_book 39 = .ok (.aload_n 0, 1) := by decide +kernel
theorem d_T_book_40 : decode b_T_book 40 = .ok (.getfield 36, 3) := by decide +kernel
theorem d_T_book_43 : decode b_T_book 43 = .ok (.aload_n 0, 1) := by decide +kernel
theorem d_T_book_44 : decode b_T_book 44 = .ok (.getfield 29, 3) := by decide +kernel
theorem d_T_book_47 : decode b_T_book 47 = .ok (.invokevirtual 114, 3) := by decide +kernel
theorem d_T_book_50 : decode b_T_book 50 = .ok (.aload_n 0, 1) := by decide +kernel
theorem d_T_book_51 : decode b_T_book 51 = .ok (.getfield 57, 3) := by decide +kernel
theorem d_T_book_54 : decode b_T_book 54 = .ok (.iconst 0, 1) := by decide +kernel
theorem d_T_book_55 : decode b_T_book 55 = .ok (.putfield 72, 3) := by decide +kernel
theorem d_T_book_58 : decode b_T_book 58 = .ok (.iconst 0, 1) := by decide +kernel
theorem d_T_book_59 : decode b_T_book 59 = .ok (.istore_n 3, 1) := by decide +kernel
theorem d_T_book_60 : decode b_T_book 60 = .ok (.iload_n 3, 1) := by decide +kernel
theorem d_T_book_61 : decode b_T_book 61 = .ok (.iconst 3, 1) := by decide +kernel
theorem d_T_book_62 : decode b_T_book 62 = .ok (.if_icmp .ge 19, 3) := by decide +kernel
theorem d_T_book_65 : decode b_T_book 65 = .ok (.aload_n 0, 1) := by decide +kernel
theorem d_T_book_66 : decode b_T_book 66 = .ok (.getfield 61, 3) := by decide +kernel
theorem d_T_book_69 : decode b_T_book 69 = .ok (.iload_n 3, 1) := by decide +kernel
theorem d_T_book_70 : decode b_T_book 70 = .ok (.aaload, 1) := by decide +kernel
theorem d_T_book_71 : decode b_T_book 71 = .ok (.iconst (-1), 1) := by decide +kernel
theorem d_T_book_72 : decode b_T_book 72 = .ok (.putfield 72, 3) := by decide +kernel
theorem d_T_book_75 : decode b_T_book 75 = .ok (.iinc 3 1, 3) := by decide +kernel
theorem d_T_book_78 : decode b_T_book 78 = .ok (.goto (-18), 3) := by decide +kernel
theorem d_T_book_81 : decode b_T_book 81 = .ok (.aload_n 0, 1) := by decide +kernel
theorem d_T_book_82 : decode b_T_book 82 = .ok (.getfield 36, 3) := by decide +kernel
theorem d_T_book_85 : decode b_T_book 85 = .ok (.getfield 118, 3) := by decide +kernel
theorem d_T_book_88 : decode b_T_book 88 = .ok (.ireturn, 1) := by decide +kernel
theorem mo_T_book : mok y_T_book b_T_book 4 (some .int) 1 := ⟨List.mem_of_getElem? (i := 497) (by decide +kernel), ⟨by decide +kernel, by decide +kernel, by decide +kernel⟩, List.mem_of_getElem? (i := 74) (by decide +kernel), by decide⟩
set_option maxHeartbeats 4000000 in
theorem L_T_book_60 {X : FX} {u : Un} (hA : Ap u) {Q : State → Prop} (F : Fr X u "TakerBook" b_T_book 4) {ρ : St} (k : V X u 7 4 Q 81 [(0, .ref (u.2.1 0)), (3, .int (nI 3))] [] ((kkS ρ 3))) : ∀ (nn i : Nat), i ≤ 3 → 3 - i < nn → V X u 7 4 Q 60 [(0, .ref (u.2.1 0)), (3, .int (nI i))] [] ((kkS ρ i)) := by
  intro nn
  induction nn with
  | zero =>
    intro i h1 h2
    exact absurd h2 (Nat.not_lt_zero _)
  | succ nn ih =>
    intro i hii hnn
    refine v_iload_n F d_T_book_60 rfl 1 rfl ?_
    refine v_iconst (v := 3) F d_T_book_61 ki_3 ?_
    refine v_icmp_ge F 81 d_T_book_62 rfl (fun h62 => ?_) (fun h62 => ?_)
    · skip
      have h62 : 3 ≤ i := (nI_leI (a := 3) (b := i) (by omega) (by omega)).mp h62
      have he : i = 3 := by omega
      subst he
      exact k
    · skip
      have h62 : ¬ 3 ≤ i := fun q => h62 ((nI_leI (a := 3) (b := i) (by omega) (by omega)).mpr q)
      refine v_aload_n F d_T_book_65 rfl 0 rfl ?_
      refine v_getr (r := 52) F fk_T_61 G0 rfl d_T_book_66 ?_
      refine v_iload_n F d_T_book_69 rfl 1 rfl ?_
      refine v_aal F i G52 rfl rfl (by omega) d_T_book_70 ?_
      refine v_iconst (v := (-1)) F d_T_book_71 ki_m1 ?_
      refine v_puti F fk_T_72 pk_D_size (gam_d (dOk_k (by omega))) rfl d_T_book_72 ?_
      refine v_ns (fun σ1 eσ1 => ?_)
      refine v_iinc (v := nI (i + 1)) (ls' := [(3, .int (nI (i + 1))), (0, .ref (u.2.1 0))]) F d_T_book_75 (j := 1) rfl (nI_inc _) (by decide) rfl ?_
      refine v_goto F 60 d_T_book_78 rfl ?_
      refine v_sub [1, 0] (ls' := [(0, .ref (u.2.1 0)), (3, .int (nI (i + 1)))]) rfl ?_
      refine v_st (show σ1 = (kkS ρ (i + 1)) from (by first | rfl | (subst_vars; rfl))) ?_
      exact ih (i + 1) (by omega) (by omega)
set_option maxHeartbeats 4000000 in
theorem c_T_book (l : Launch) (u : Un) (hA : Ap u) (σ : St) (x : Int32) (hJ : textsOk σ) : MTi l u y_T_book b_T_book 4 .int 7 [.ref (u.2.1 0), .int x] σ (fun ans σ' => (¬ inR x 4 ∧ (ans, σ') = (-1, σ)) ∨ (inR x 4 ∧ σ.1 14 (ix x) < 0 ∧ (ans, σ') = (-3, tRef σ 1)) ∨ (inR x 4 ∧ 0 ≤ σ.1 14 (ix x) ∧ ¬ (rdF (bTf σ (ix x) (ix (σ.1 14 (ix x)))) (ix (σ.1 14 (ix x)))).1 = -9 ∧ -4 = ans ∧ frT σ σ') ∨ (inR x 4 ∧ 0 ≤ σ.1 14 (ix x) ∧ (rdF (bTf σ (ix x) (ix (σ.1 14 (ix x)))) (ix (σ.1 14 (ix x)))).1 = -9 ∧ ∃ τ ρ, frT σ τ ∧ bkT (bTf σ (ix x) (ix (σ.1 14 (ix x)))) (ix (σ.1 14 (ix x))) τ ∧ ldB τ ρ (rdF (bTf σ (ix x) (ix (σ.1 14 (ix x)))) (ix (σ.1 14 (ix x)))).2 ∧ ldA τ ρ (kdF (bTf σ (ix x) (ix (σ.1 14 (ix x)))) (ix (σ.1 14 (ix x)))) (rdF (bTf σ (ix x) (ix (σ.1 14 (ix x)))) (ix (σ.1 14 (ix x)))).2 ∧ nI (rdF (bTf σ (ix x) (ix (σ.1 14 (ix x)))) (ix (σ.1 14 (ix x)))).2 = ans ∧ σ' = kkS (uI (rsS ρ (rdF (bTf σ (ix x) (ix (σ.1 14 (ix x)))) (ix (σ.1 14 (ix x)))).2) 49 2 0) 3)) := by
  refine MT_of hA rfl (by decide) (Nat.le_of_ble_eq_true rfl) (fun X hl F hr => ?_)
  subst hl
  refine v_to (ls' := [(0, .ref (u.2.1 0)), (1, .int x)]) rfl ?_
  refine v_aload_n F d_T_book_0 rfl 0 rfl ?_
  refine v_iload_n F d_T_book_1 rfl 1 rfl ?_
  refine v_runi (r_V F (c_T_refusedText X.2.1 u hA σ x) mo_T_refusedText st_T_107 rc_0 (by decide) rfl (Nat.le_of_ble_eq_true rfl) d_T_book_2) (fun r1 σ2 q3 => ?_)
  rcases q3 with ⟨a1, rfl, rfl⟩ | ⟨a1, a2, rfl, eσ2⟩ | ⟨a1, a2, rfl, rfl⟩
  · skip
    refine v_istore_n (ls' := [(2, .int (-1)), (0, .ref (u.2.1 0)), (1, .int x)]) F d_T_book_5 rfl (by decide) rfl ?_
    refine v_iload_n F d_T_book_6 rfl 0 rfl ?_
    refine v_if_eq F 12 d_T_book_7 rfl (fun h => absurd h (by decide)) (fun _ => ?_)
    refine v_iload_n F d_T_book_10 rfl 0 rfl ?_
    refine v_iret F hr rfl d_T_book_11 ?_
    exact Or.inl ⟨a1, rfl⟩
  · skip
    refine v_istore_n (ls' := [(2, .int (-3)), (0, .ref (u.2.1 0)), (1, .int x)]) F d_T_book_5 rfl (by decide) rfl ?_
    refine v_iload_n F d_T_book_6 rfl 0 rfl ?_
    refine v_if_eq F 12 d_T_book_7 rfl (fun h => absurd h (by decide)) (fun _ => ?_)
    refine v_iload_n F d_T_book_10 rfl 0 rfl ?_
    refine v_iret F hr rfl d_T_book_11 ?_
    exact Or.inr (Or.inl ⟨a1, a2, by subst_vars; rfl⟩)
  · skip
    obtain ⟨t, ht, xt, rfl⟩ := inR_nat (N := 4) a1 rfl (by decide)
    rw [xt] at a2
    obtain ⟨N, hN, xN, eN⟩ := nat_of (M := 60) a2 (hJ _ ht) rfl (by decide)
    refine v_istore_n (ls' := [(2, .int 0), (0, .ref (u.2.1 0)), (1, .int (nI t))]) F d_T_book_5 rfl (by decide) rfl ?_
    refine v_iload_n F d_T_book_6 rfl 0 rfl ?_
    refine v_if_eq F 12 d_T_book_7 rfl (fun _ => ?_) (fun h => absurd (by decide) h)
    refine v_aload_n F d_T_book_12 rfl 1 rfl ?_
    refine v_getr (r := 15) F fk_T_29 G0 rfl d_T_book_13 ?_
    refine v_aload_n F d_T_book_16 rfl 1 rfl ?_
    refine v_getr (r := 9) F fk_T_20 G0 rfl d_T_book_17 ?_
    refine v_iload_n F d_T_book_20 rfl 2 rfl ?_
    refine v_aal F t G9 rfl rfl (by omega) d_T_book_21 ?_
    refine v_aload_n F d_T_book_22 rfl 1 rfl ?_
    refine v_getr (r := 14) F fk_T_23 G0 rfl d_T_book_23 ?_
    refine v_iload_n F d_T_book_26 rfl 2 rfl ?_
    refine v_ial F t G14 rfl (by omega) d_T_book_27 ?_
    refine v_te (y := nI N) eN ?_
    refine v_runi (r_V F (c_R_read X.2.1 u hA σ (t := t) (N := N) ht hN trivial) mo_R_read st_T_110 rc_15 (by decide) rfl (Nat.le_of_ble_eq_true rfl) d_T_book_28) (fun r4 σ5 q6 => ?_)
    obtain ⟨fσ5, rfl, hbk⟩ := q6
    refine v_bipush (v := (-9)) F d_T_book_31 kb_m9 ?_
    refine v_icmp_eq F 39 d_T_book_33 rfl (fun h33 => ?_) (fun h33 => ?_)
    · skip
      refine v_aload_n F d_T_book_39 rfl 1 rfl ?_
      refine v_getr (r := 19) F fk_T_36 G0 rfl d_T_book_40 ?_
      refine v_aload_n F d_T_book_43 rfl 1 rfl ?_
      refine v_getr (r := 15) F fk_T_29 G0 rfl d_T_book_44 ?_
      refine v_runv (r_V F (c_B_load X.2.1 u hA σ5 (n := (rdF (bTf σ t N) N).2) (kd := (kdF (bTf σ t N) N)) (hbk h33).1 (hbk h33).2.1 (fun i hi => by obtain ⟨q1, q2, -, -⟩ := (hbk h33).2.2.2.2.2 i hi; exact ⟨q1.trans (kdF_eq q2).1, (kdF_eq q2).2⟩)) mo_B_load st_T_114 rc_19 (by decide) rfl (Nat.le_of_ble_eq_true rfl) d_T_book_47) (fun σ8 q9 => ?_)
      obtain ⟨ρ, hB, hA2, eσ8⟩ := q9
      refine v_aload_n F d_T_book_50 rfl 1 rfl ?_
      refine v_getr (r := 49) F fk_T_57 G0 rfl d_T_book_51 ?_
      refine v_iconst (v := 0) F d_T_book_54 ki_0 ?_
      refine v_puti F fk_T_72 pk_D_size G49 rfl d_T_book_55 ?_
      refine v_ns (fun σ10 eσ10 => ?_)
      refine v_iconst (v := 0) F d_T_book_58 ki_0 ?_
      refine v_istore_n (ls' := [(3, .int 0), (2, .int 0), (0, .ref (u.2.1 0)), (1, .int (nI t))]) F d_T_book_59 rfl (by decide) rfl ?_
      refine v_sub [2, 0] (ls' := [(0, .ref (u.2.1 0)), (3, .int 0)]) rfl ?_
      have g11 : 0 = (nI 0) := (by first | rfl | (subst_vars; rfl))
      refine v_to (ls' := [(0, .ref (u.2.1 0)), (3, .int (nI 0))]) (by first | rfl | rw [g11] | simp_all) ?_
      refine v_st (show σ10 = (kkS σ10 0) from (by first | rfl | (subst_vars; rfl))) ?_
      refine L_T_book_60 hA F  ?_ _ 0 (Nat.zero_le _) (Nat.lt_succ_self _)
      refine v_aload_n F d_T_book_81 rfl 0 rfl ?_
      refine v_getr (r := 19) F fk_T_36 G0 rfl d_T_book_82 ?_
      refine v_geti F fk_T_118 G19 rfl d_T_book_85 ?_
      refine v_te (y := nI (rdF (bTf σ t N) N).2) (by have e1 : (kkS σ10 3).1 19 8 = σ10.1 19 8 := (by show (uI (uI (uI σ10 _ _ _) _ _ _) _ _ _).1 19 8 = _; rw [uI_o _ _ _ _ (by decide), uI_o _ _ _ _ (by decide), uI_o _ _ _ _ (by decide)]); rw [e1]; subst_vars; rw [uI_o _ _ _ _ (by decide), rsS_f _ _ (by decide)]; exact hB.1) ?_
      refine v_iret F hr rfl d_T_book_88 ?_
      refine Or.inr (Or.inr (Or.inr ⟨a1, by rw [xt]; exact a2, by rw [xt, xN]; exact h33, ?_⟩))
      rw [xt, xN]
      exact ⟨σ5, ρ, fσ5, (hbk h33).2, hB, hA2, rfl, by subst_vars; rfl⟩
    · skip
      refine v_bipush (v := (-4)) F d_T_book_36 kb_m4 ?_
      refine v_iret F hr rfl d_T_book_38 ?_
      exact Or.inr (Or.inr (Or.inl ⟨a1, by rw [xt]; exact a2, by rw [xt, xN]; assumption, rfl, fσ5⟩))
