theorem fk_M_294 : fok "TakerBookModel" 294 12 38 := ⟨(R_M, F_M, 40), rfl, by decide, List.mem_of_getElem? (i := 1017) (by decide +kernel), rfl⟩
theorem pk_M_whole : pok 12 38 .long := ⟨(R_M, F_M, 40), rfl, rfl, by decide +kernel⟩
theorem kc_M_297 : Cond.constantLong "TakerBookModel" 297 (12) ∈ lw_tbl := List.mem_of_getElem? (i := 1450) (by decide +kernel)
theorem fk_M_291 : fok "TakerBookModel" 291 12 37 := ⟨(R_M, F_M, 40), rfl, by decide, List.mem_of_getElem? (i := 1016) (by decide +kernel), rfl⟩
theorem pk_M_partSum : pok 12 37 .long := ⟨(R_M, F_M, 40), rfl, rfl, by decide +kernel⟩
theorem st_M_299 : siteV "TakerBookModel" 299 ⟨"TakerBookModel", "layParts", "(I)V"⟩ := ⟨List.mem_of_getElem? (i := 1446) (by decide +kernel), List.mem_of_getElem? (i := 1448) (by decide +kernel), List.mem_of_getElem? (i := 69) (by decide +kernel)⟩
theorem kc_M_303 : Cond.constantLong "TakerBookModel" 303 (48271) ∈ lw_tbl := List.mem_of_getElem? (i := 1460) (by decide +kernel)
theorem kc_M_305 : Cond.constantLong "TakerBookModel" 305 (2147483647) ∈ lw_tbl := List.mem_of_getElem? (i := 1461) (by decide +kernel)
theorem kc_M_307 : Cond.constantLong "TakerBookModel" 307 (4) ∈ lw_tbl := List.mem_of_getElem? (i := 1462) (by decide +kernel)
theorem kc_M_309 : Cond.constantLong "TakerBookModel" 309 (8) ∈ lw_tbl := List.mem_of_getElem? (i := 1463) (by decide +kernel)
theorem kc_M_302 : Cond.constant "TakerBookModel" 302 (2147483646) ∈ lw_tbl := List.mem_of_getElem? (i := 1459) (by decide +kernel)
abbrev b_M_layParts : ByteArray := prog_14_method_89_code
abbrev y_M_layParts : MethodName := ⟨"TakerBookModel", "layParts", "(I)V"⟩
theorem d_M_layParts_0 : decode b_M_layParts 0 = .ok (.aload_n 0, 1) := by decide +kernel
theorem d_M_layParts_1 : decode b_M_layParts 1 = .ok (.aload_n 0, 1) := by decide +kernel
theorem d_M_layParts_2 : decode b_M_layParts 2 = .ok (.getfield 51, 3) := by decide +kernel
theorem d_M_layParts_5 : decode b_M_layParts 5 = .ok (.invokevirtual 171, 3) := by decide +kernel
theorem d_M_layParts_8 : decode b_M_layParts 8 = .ok (.istore_n 2, 1) := by decide +kernel
theorem d_M_layParts_9 : decode b_M_layParts 9 = .ok (.aload_n 0, 1) := by decide +kernel
theorem d_M_layParts_10 : decode b_M_layParts 10 = .ok (.lconst 0, 1) := by decide +kernel
theorem d_M_layParts_11 : decode b_M_layParts 11 = .ok (.putfield 291, 3) := by decide +kernel
theorem d_M_layParts_14 : decode b_M_layParts 14 = .ok (.aload_n 0, 1) := by decide +kernel
theorem d_M_layParts_15 : decode b_M_layParts 15 = .ok (.lconst 1, 1) := by decide +kernel
theorem d_M_layParts_16 : decode b_M_layParts 16 = .ok (.putfield 294, 3) := by decide +kernel
theorem d_M_layParts_19 : decode b_M_layParts 19 = .ok (.iconst 0, 1) := by decide +kernel
theorem d_M_layParts_20 : decode b_M_layParts 20 = .ok (.istore_n 3, 1) := by decide +kernel
theorem d_M_layParts_21 : decode b_M_layParts 21 = .ok (.iload_n 3, 1) := by decide +kernel
theorem d_M_layParts_22 : decode b_M_layParts 22 = .ok (.aload_n 0, 1) := by decide +kernel
theorem d_M_layParts_23 : decode b_M_layParts 23 = .ok (.getfield 146, 3) := by decide +kernel
theorem d_M_layParts_26 : decode b_M_layParts 26 = .ok (.if_icmp .ge 33, 3) := by decide +kernel
theorem d_M_layParts_29 : decode b_M_layParts 29 = .ok (.aload_n 0, 1) := by decide +kernel
theorem d_M_layParts_30 : decode b_M_layParts 30 = .ok (.dup, 1) := by decide +kernel
theorem d_M_layParts_31 : decode b_M_layParts 31 = .ok (.getfield 294, 3) := by decide +kernel
theorem d_M_layParts_34 : decode b_M_layParts 34 = .ok (.iload_n 2, 1) := by decide +kernel
theorem d_M_layParts_35 : decode b_M_layParts 35 = .ok (.iload_n 3, 1) := by decide +kernel
theorem d_M_layParts_36 : decode b_M_layParts 36 = .ok (.invokestatic 155, 3) := by decide +kernel
theorem d_M_layParts_39 : decode b_M_layParts 39 = .ok (.ifCond .eq 9, 3) := by decide +kernel
theorem d_M_layParts_42 : decode b_M_layParts 42 = .ok (.ldc2_w 297, 3) := by decide +kernel
theorem d_M_layParts_45 : decode b_M_layParts 45 = .ok (.goto 4, 3) := by decide +kernel
theorem d_M_layParts_48 : decode b_M_layParts 48 = .ok (.lconst 1, 1) := by decide +kernel
theorem d_M_layParts_49 : decode b_M_layParts 49 = .ok (.lmul, 1) := by decide +kernel
theorem d_M_layParts_50 : decode b_M_layParts 50 = .ok (.putfield 294, 3) := by decide +kernel
theorem d_M_layParts_53 : decode b_M_layParts 53 = .ok (.iinc 3 1, 3) := by decide +kernel
theorem d_M_layParts_56 : decode b_M_layParts 56 = .ok (.goto (-35), 3) := by decide +kernel
theorem d_M_layParts_59 : decode b_M_layParts 59 = .ok (.iconst 0, 1) := by decide +kernel
theorem d_M_layParts_60 : decode b_M_layParts 60 = .ok (.istore_n 3, 1) := by decide +kernel
theorem d_M_layParts_61 : decode b_M_layParts 61 = .ok (.iload_n 3, 1) := by decide +kernel
theorem d_M_layParts_62 : decode b_M_layParts 62 = .ok (.iload_n 2, 1) := by decide +kernel
theorem d_M_layParts_63 : decode b_M_layParts 63 = .ok (.if_icmp .gt 108, 3) := by decide +kernel
theorem d_M_layParts_66 : decode b_M_layParts 66 = .ok (.iload_n 3, 1) := by decide +kernel
theorem d_M_layParts_67 : decode b_M_layParts 67 = .ok (.iload_n 2, 1) := by decide +kernel
theorem d_M_layParts_68 : decode b_M_layParts 68 = .ok (.iconst (-1), 1) := by decide +kernel
theorem d_M_layParts_69 : decode b_M_layParts 69 = .ok (.ixor, 1) := by decide +kernel
theorem d_M_layParts_70 : decode b_M_layParts 70 = .ok (.iand, 1) := by decide +kernel
theorem d_M_layParts_71 : decode b_M_layParts 71 = .ok (.ifCond .ne 94, 3) := by decide +kernel
theorem d_M_layParts_74 : decode b_M_layParts 74 = .ok (.lconst 1, 1) := by decide +kernel
theorem d_M_layParts_75 : decode b_M_layParts 75 = .ok (.lstore 4, 2) := by decide +kernel
theorem d_M_layParts_77 : decode b_M_layParts 77 = .ok (.iconst 0, 1) := by decide +kernel
theorem d_M_layParts_78 : decode b_M_layParts 78 = .ok (.istore 6, 2) := by decide +kernel
theorem d_M_layParts_80 : decode b_M_layParts 80 = .ok (.iload 6, 2) := by decide +kernel
theorem d_M_layParts_82 : decode b_M_layParts 82 = .ok (.aload_n 0, 1) := by decide +kernel
theorem d_M_layParts_83 : decode b_M_layParts 83 = .ok (.getfield 146, 3) := by decide +kernel
theorem d_M_layParts_86 : decode b_M_layParts 86 = .ok (.if_icmp .ge 46, 3) := by decide +kernel
theorem d_M_layParts_89 : decode b_M_layParts 89 = .ok (.lload 4, 2) := by decide +kernel
theorem d_M_layParts_91 : decode b_M_layParts 91 = .ok (.iload_n 2, 1) := by decide +kernel
theorem d_M_layParts_92 : decode b_M_layParts 92 = .ok (.iload 6, 2) := by decide +kernel
theorem d_M_layParts_94 : decode b_M_layParts 94 = .ok (.invokestatic 155, 3) := by decide +kernel
theorem d_M_layParts_97 : decode b_M_layParts 97 = .ok (.ifCond .ne 7, 3) := by decide +kernel
theorem d_M_layParts_100 : decode b_M_layParts 100 = .ok (.lconst 1, 1) := by decide +kernel
theorem d_M_layParts_101 : decode b_M_layParts 101 = .ok (.goto 22, 3) := by decide +kernel
theorem d_M_layParts_104 : decode b_M_layParts 104 = .ok (.iload_n 3, 1) := by decide +kernel
theorem d_M_layParts_105 : decode b_M_layParts 105 = .ok (.iload 6, 2) := by decide +kernel
theorem d_M_layParts_107 : decode b_M_layParts 107 = .ok (.invokestatic 155, 3) := by decide +kernel
theorem d_M_layParts_110 : decode b_M_layParts 110 = .ok (.ifCond .eq 8, 3) := by decide +kernel
theorem d_M_layParts_113 : decode b_M_layParts 113 = .ok (.iload_n 1, 1) := by decide +kernel
theorem d_M_layParts_114 : decode b_M_layParts 114 = .ok (.i2l, 1) := by decide +kernel
theorem d_M_layParts_115 : decode b_M_layParts 115 = .ok (.goto 8, 3) := by decide +kernel
theorem d_M_layParts_118 : decode b_M_layParts 118 = .ok (.bipush 12, 2) := by decide +kernel
theorem d_M_layParts_120 : decode b_M_layParts 120 = .ok (.iload_n 1, 1) := by decide +kernel
theorem d_M_layParts_121 : decode b_M_layParts 121 = .ok (.isub, 1) := by decide +kernel
theorem d_M_layParts_122 : decode b_M_layParts 122 = .ok (.i2l, 1) := by decide +kernel
theorem d_M_layParts_123 : decode b_M_layParts 123 = .ok (.lmul, 1) := by decide +kernel
theorem d_M_layParts_124 : decode b_M_layParts 124 = .ok (.lstore 4, 2) := by decide +kernel
theorem d_M_layParts_126 : decode b_M_layParts 126 = .ok (.iinc 6 1, 3) := by decide +kernel
theorem d_M_layParts_129 : decode b_M_layParts 129 = .ok (.goto (-49), 3) := by decide +kernel
theorem d_M_layParts_132 : decode b_M_layParts 132 = .ok (.aload_n 0, 1) := by decide +kernel
theorem d_M_layParts_133 : decode b_M_layParts 133 = .ok (.dup, 1) := by decide +kernel
theorem d_M_layParts_134 : decode b_M_layParts 134 = .ok (.getfield 291, 3) := by decide +kernel
theorem d_M_layParts_137 : decode b_M_layParts 137 = .ok (.iload_n 2, 1) := by decide +kernel
theorem d_M_layParts_138 : decode b_M_layParts 138 = .ok (.invokestatic 175, 3) := by decide +kernel
theorem d_M_layParts_141 : decode b_M_layParts 141 = .ok (.iload_n 3, 1) := by decide +kernel
theorem d_M_layParts_142 : decode b_M_layParts 142 = .ok (.invokestatic 175, 3) := by decide +kernel
theorem d_M_layParts_145 : decode b_M_layParts 145 = .ok (.isub, 1) := by decide +kernel
theorem d_M_layParts_146 : decode b_M_layParts 146 = .ok (.aload_n 0, 1) := by decide +kernel
theorem d_M_layParts_147 : decode b_M_layParts 147 = .ok (.getfield 33, 3) := by decide +kernel
theorem d_M_layParts_150 : decode b_M_layParts 150 = .ok (.iconst 3, 1) := by decide +kernel
theorem d_M_layParts_151 : decode b_M_layParts 151 = .ok (.iaload, 1) := by decide +kernel
theorem d_M_layParts_152 : decode b_M_layParts 152 = .ok (.if_icmp .ge 8, 3) := by decide +kernel
theorem d_M_layParts_155 : decode b_M_layParts 155 = .ok (.lload 4, 2) := by decide +kernel
theorem d_M_layParts_157 : decode b_M_layParts 157 = .ok (.goto 4, 3) := by decide +kernel
theorem d_M_layParts_160 : decode b_M_layParts 160 = .ok (.lconst 0, 1) := by decide +kernel
theorem d_M_layParts_161 : decode b_M_layParts 161 = .ok (.ladd, 1) := by decide +kernel
theorem d_M_layParts_162 : decode b_M_layParts 162 = .ok (.putfield 291, 3) := by decide +kernel
theorem d_M_layParts_165 : decode b_M_layParts 165 = .ok (.iinc 3 1, 3) := by decide +kernel
theorem d_M_layParts_168 : decode b_M_layParts 168 = .ok (.goto (-107), 3) := by decide +kernel
theorem d_M_layParts_171 : decode b_M_layParts 171 = .ok (.return_, 1) := by decide +kernel
theorem mo_M_layParts : mok y_M_layParts b_M_layParts 7 none 1 := ⟨List.mem_of_getElem? (i := 1449) (by decide +kernel), ⟨by decide +kernel, by decide +kernel, by decide +kernel⟩, List.mem_of_getElem? (i := 86) (by decide +kernel), by decide⟩
set_option maxHeartbeats 4000000 in
theorem L_M_layParts_21 {X : FX} {u : Un} (hA : Ap u) {Q : State → Prop} (F : Fr X u "TakerBookModel" b_M_layParts 7) {σ : St} {n : Nat} {kd : Nat → Nat} (hb : mkOk σ n kd) {a : Nat} (ha : a < 64) (h0 : σ.1 76 0 = nI a) {p S : Nat} (hp : p ≤ 12) (hS : S < 64) (k0 : ∀ (i : Nat) (τ : St), fr σ τ → τ.2 63 37 = lN 0 → τ.2 63 38 = lN (whN S n) → V X u 4 7 Q 59 [(0, .ref (u.2.1 63)), (1, .int (nI p)), (2, .int (nI S))] [] (τ)) : ∀ (nn : Nat) (i : Nat) (τ : St), i ≤ n → fr σ τ → τ.2 63 37 = lN 0 → τ.2 63 38 = lN (whN S i) → n - i < nn → V X u 4 7 Q 21 [(0, .ref (u.2.1 63)), (1, .int (nI p)), (2, .int (nI S)), (3, .int (nI i))] [] (τ) := by
  intro nn
  induction nn with
  | zero =>
    intro i τ hi fτ hz hw h2
    exact absurd h2 (Nat.not_lt_zero _)
  | succ nn ih =>
    intro i τ hi fτ hz hw hm
    obtain ⟨hn, hn6, hkd, hk6⟩ := id hb
    refine v_iload_n F d_M_layParts_21 rfl 3 rfl ?_
    refine v_aload_n F d_M_layParts_22 rfl 0 rfl ?_
    refine v_geti F fk_M_146 G63 rfl d_M_layParts_23 ?_
    refine v_te (y := nI n) (fτ.v rfl hn) ?_
    refine v_icmp_ge F 59 d_M_layParts_26 rfl (fun h26 => ?_) (fun h26 => ?_)
    · skip
      have h26 : n ≤ i := (nI_leI (a := n) (b := i) (by omega) (by omega)).mp h26
      refine v_sub [0, 1, 2] (ls' := [(0, .ref (u.2.1 63)), (1, .int (nI p)), (2, .int (nI S))]) rfl ?_
      exact k0 i τ fτ hz (by have e : i = n := (by omega); subst e; exact hw)
    · skip
      have h26 : ¬ n ≤ i := fun q => h26 ((nI_leI (a := n) (b := i) (by omega) (by omega)).mpr q)
      refine v_aload_n F d_M_layParts_29 rfl 0 rfl ?_
      refine v_dup F d_M_layParts_30 rfl ?_
      refine v_getl F fk_M_294 G63 rfl d_M_layParts_31 ?_
      refine v_tl (y := (lN (whN S i))) hw ?_
      refine v_iload_n F d_M_layParts_34 rfl 2 rfl ?_
      refine v_iload_n F d_M_layParts_35 rfl 3 rfl ?_
      refine v_runi (r_S F (c_M_has2 X.2.1 u hA τ i S (by omega) (by omega)) mo_M_has st_M_155 (by decide) rfl (Nat.le_of_ble_eq_true rfl) d_M_layParts_36) (fun r1 σ2 q3 => ?_)
      obtain ⟨rfl, rfl⟩ := q3
      refine v_bt F 48 d_M_layParts_39 rfl (fun h39 => ?_) (fun h39 => ?_)
      · skip
        refine v_lconst (v := 1) F d_M_layParts_48 rfl ?_
        refine v_lmul F d_M_layParts_49 ?_
        refine v_putl F fk_M_294 pk_M_whole G63 rfl d_M_layParts_50 ?_
        refine v_ns (fun σ4 eσ4 => ?_)
        have fσ4 : fr σ σ4 := by rw [eσ4]; exact fτ.l rfl
        refine v_iinc (v := nI (i + 1)) (ls' := [(3, .int (nI (i + 1))), (0, .ref (u.2.1 63)), (1, .int (nI p)), (2, .int (nI S))]) F d_M_layParts_53 (j := 3) rfl (nI_inc _) (by decide) rfl ?_
        refine v_goto F 21 d_M_layParts_56 rfl ?_
        refine v_sub [1, 2, 3, 0] (ls' := [(0, .ref (u.2.1 63)), (1, .int (nI p)), (2, .int (nI S)), (3, .int (nI (i + 1)))]) rfl ?_
        exact ih (i + 1) (σ4) (by omega) fσ4 (by rw [eσ4, uL_n _ _ _ _ (by decide)]; exact hz) (by rw [eσ4, uL_s]; first | (rw [wh_t (by assumption)]; exact lN_mul _ 12) | (rw [wh_f (by assumption)]; exact lN_m1 _)) (by omega)
      · skip
        refine v_ldc2 (v := 12) F kc_M_297 d_M_layParts_42 ?_
        refine v_goto F 49 d_M_layParts_45 rfl ?_
        refine v_lmul F d_M_layParts_49 ?_
        refine v_putl F fk_M_294 pk_M_whole G63 rfl d_M_layParts_50 ?_
        refine v_ns (fun σ5 eσ5 => ?_)
        have fσ5 : fr σ σ5 := by rw [eσ5]; exact fτ.l rfl
        refine v_iinc (v := nI (i + 1)) (ls' := [(3, .int (nI (i + 1))), (0, .ref (u.2.1 63)), (1, .int (nI p)), (2, .int (nI S))]) F d_M_layParts_53 (j := 3) rfl (nI_inc _) (by decide) rfl ?_
        refine v_goto F 21 d_M_layParts_56 rfl ?_
        refine v_sub [1, 2, 3, 0] (ls' := [(0, .ref (u.2.1 63)), (1, .int (nI p)), (2, .int (nI S)), (3, .int (nI (i + 1)))]) rfl ?_
        exact ih (i + 1) (σ5) (by omega) fσ5 (by rw [eσ5, uL_n _ _ _ _ (by decide)]; exact hz) (by rw [eσ5, uL_s]; first | (rw [wh_t (by assumption)]; exact lN_mul _ 12) | (rw [wh_f (by assumption)]; exact lN_m1 _)) (by omega)
set_option maxHeartbeats 4000000 in
theorem L_M_layParts_80 {X : FX} {u : Un} (hA : Ap u) {Q : State → Prop} (F : Fr X u "TakerBookModel" b_M_layParts 7) {σ : St} {n : Nat} {kd : Nat → Nat} (hb : mkOk σ n kd) {a : Nat} (ha : a < 64) (h0 : σ.1 76 0 = nI a) {p S : Nat} (hp : p ≤ 12) (hS : S < 64) {s : Nat} (hs : s < 64) {τ : St} (fτ : fr σ τ) (k : V X u 4 7 Q 132 [(0, .ref (u.2.1 63)), (1, .int (nI p)), (2, .int (nI S)), (3, .int (nI s)), (4, .long (lN (prN p S s n))), (6, .int (nI n))] [] (τ)) : ∀ (nn i : Nat), i ≤ n → n - i < nn → V X u 4 7 Q 80 [(0, .ref (u.2.1 63)), (1, .int (nI p)), (2, .int (nI S)), (3, .int (nI s)), (4, .long (lN (prN p S s i))), (6, .int (nI i))] [] (τ) := by
  intro nn
  induction nn with
  | zero =>
    intro i h1 h2
    exact absurd h2 (Nat.not_lt_zero _)
  | succ nn ih =>
    intro i hii hnn
    obtain ⟨hn, hn6, hkd, hk6⟩ := id hb
    refine v_iload F d_M_layParts_80 5 rfl ?_
    refine v_aload_n F d_M_layParts_82 rfl 0 rfl ?_
    refine v_geti F fk_M_146 G63 rfl d_M_layParts_83 ?_
    refine v_te (y := nI n) (fτ.v rfl hn) ?_
    refine v_icmp_ge F 132 d_M_layParts_86 rfl (fun h86 => ?_) (fun h86 => ?_)
    · skip
      have h86 : n ≤ i := (nI_leI (a := n) (b := i) (by omega) (by omega)).mp h86
      have he : i = n := by omega
      subst he
      exact k
    · skip
      have h86 : ¬ n ≤ i := fun q => h86 ((nI_leI (a := n) (b := i) (by omega) (by omega)).mpr q)
      refine v_lload F d_M_layParts_89 4 rfl ?_
      refine v_iload_n F d_M_layParts_91 rfl 2 rfl ?_
      refine v_iload F d_M_layParts_92 5 rfl ?_
      refine v_runi (r_S F (c_M_has2 X.2.1 u hA τ i S (by omega) (by omega)) mo_M_has st_M_155 (by decide) rfl (Nat.le_of_ble_eq_true rfl) d_M_layParts_94) (fun r1 σ2 q3 => ?_)
      obtain ⟨rfl, rfl⟩ := q3
      refine v_bf F 104 d_M_layParts_97 rfl (fun h97 => ?_) (fun h97 => ?_)
      · skip
        refine v_iload_n F d_M_layParts_104 rfl 3 rfl ?_
        refine v_iload F d_M_layParts_105 5 rfl ?_
        refine v_runi (r_S F (c_M_has2 X.2.1 u hA τ i s (by omega) (by omega)) mo_M_has st_M_155 (by decide) rfl (Nat.le_of_ble_eq_true rfl) d_M_layParts_107) (fun r4 σ5 q6 => ?_)
        obtain ⟨rfl, rfl⟩ := q6
        refine v_bt F 118 d_M_layParts_110 rfl (fun h110 => ?_) (fun h110 => ?_)
        · skip
          refine v_bipush (v := 12) F d_M_layParts_118 kb_12 ?_
          refine v_iload_n F d_M_layParts_120 rfl 1 rfl ?_
          refine v_isub F d_M_layParts_121 ?_
          refine v_te (y := nI (12 - p)) (pk_sub (by omega)) ?_
          refine v_i2l F d_M_layParts_122 ?_
          refine v_tl (y := (lN (12 - p))) (nI_l (by omega)) ?_
          refine v_lmul F d_M_layParts_123 ?_
          refine v_lstore (ls' := [(4, .long ((lN (prN p S s i)) * (lN (12 - p)))), (0, .ref (u.2.1 63)), (1, .int (nI p)), (2, .int (nI S)), (3, .int (nI s)), (6, .int (nI i))]) F d_M_layParts_124 (by decide) rfl ?_
          refine v_iinc (v := nI (i + 1)) (ls' := [(6, .int (nI (i + 1))), (4, .long ((lN (prN p S s i)) * (lN (12 - p)))), (0, .ref (u.2.1 63)), (1, .int (nI p)), (2, .int (nI S)), (3, .int (nI s))]) F d_M_layParts_126 (j := 5) rfl (nI_inc _) (by decide) rfl ?_
          refine v_goto F 80 d_M_layParts_129 rfl ?_
          refine v_sub [2, 3, 4, 5, 1, 0] (ls' := [(0, .ref (u.2.1 63)), (1, .int (nI p)), (2, .int (nI S)), (3, .int (nI s)), (4, .long ((lN (prN p S s i)) * (lN (12 - p)))), (6, .int (nI (i + 1)))]) rfl ?_
          have g7 : ((lN (prN p S s i)) * (lN (12 - p))) = (lN (prN p S s (i + 1))) := (by first | rfl | (subst_vars; rw [pr_n (by assumption), ← lN_mul]; rfl) | (subst_vars; rw [pr_s (by assumption) (by assumption), ← lN_mul]) | (subst_vars; rw [pr_t (by assumption) (by assumption), ← lN_mul]))
          refine v_to (ls' := [(0, .ref (u.2.1 63)), (1, .int (nI p)), (2, .int (nI S)), (3, .int (nI s)), (4, .long (lN (prN p S s (i + 1)))), (6, .int (nI (i + 1)))]) (by first | rfl | rw [g7] | simp_all) ?_
          exact ih (i + 1) (by omega) (by omega)
        · skip
          refine v_iload_n F d_M_layParts_113 rfl 1 rfl ?_
          refine v_i2l F d_M_layParts_114 ?_
          refine v_tl (y := (lN p)) (nI_l (by omega)) ?_
          refine v_goto F 123 d_M_layParts_115 rfl ?_
          refine v_lmul F d_M_layParts_123 ?_
          refine v_lstore (ls' := [(4, .long ((lN (prN p S s i)) * (lN p))), (0, .ref (u.2.1 63)), (1, .int (nI p)), (2, .int (nI S)), (3, .int (nI s)), (6, .int (nI i))]) F d_M_layParts_124 (by decide) rfl ?_
          refine v_iinc (v := nI (i + 1)) (ls' := [(6, .int (nI (i + 1))), (4, .long ((lN (prN p S s i)) * (lN p))), (0, .ref (u.2.1 63)), (1, .int (nI p)), (2, .int (nI S)), (3, .int (nI s))]) F d_M_layParts_126 (j := 5) rfl (nI_inc _) (by decide) rfl ?_
          refine v_goto F 80 d_M_layParts_129 rfl ?_
          refine v_sub [2, 3, 4, 5, 1, 0] (ls' := [(0, .ref (u.2.1 63)), (1, .int (nI p)), (2, .int (nI S)), (3, .int (nI s)), (4, .long ((lN (prN p S s i)) * (lN p))), (6, .int (nI (i + 1)))]) rfl ?_
          have g8 : ((lN (prN p S s i)) * (lN p)) = (lN (prN p S s (i + 1))) := (by first | rfl | (subst_vars; rw [pr_n (by assumption), ← lN_mul]; rfl) | (subst_vars; rw [pr_s (by assumption) (by assumption), ← lN_mul]) | (subst_vars; rw [pr_t (by assumption) (by assumption), ← lN_mul]))
          refine v_to (ls' := [(0, .ref (u.2.1 63)), (1, .int (nI p)), (2, .int (nI S)), (3, .int (nI s)), (4, .long (lN (prN p S s (i + 1)))), (6, .int (nI (i + 1)))]) (by first | rfl | rw [g8] | simp_all) ?_
          exact ih (i + 1) (by omega) (by omega)
      · skip
        refine v_lconst (v := 1) F d_M_layParts_100 rfl ?_
        refine v_goto F 123 d_M_layParts_101 rfl ?_
        refine v_lmul F d_M_layParts_123 ?_
        refine v_nl (fun x9 ex9 => ?_)
        refine v_lstore (ls' := [(4, .long x9), (0, .ref (u.2.1 63)), (1, .int (nI p)), (2, .int (nI S)), (3, .int (nI s)), (6, .int (nI i))]) F d_M_layParts_124 (by decide) rfl ?_
        refine v_iinc (v := nI (i + 1)) (ls' := [(6, .int (nI (i + 1))), (4, .long x9), (0, .ref (u.2.1 63)), (1, .int (nI p)), (2, .int (nI S)), (3, .int (nI s))]) F d_M_layParts_126 (j := 5) rfl (nI_inc _) (by decide) rfl ?_
        refine v_goto F 80 d_M_layParts_129 rfl ?_
        refine v_sub [2, 3, 4, 5, 1, 0] (ls' := [(0, .ref (u.2.1 63)), (1, .int (nI p)), (2, .int (nI S)), (3, .int (nI s)), (4, .long x9), (6, .int (nI (i + 1)))]) rfl ?_
        have g10 : x9 = (lN (prN p S s (i + 1))) := (by first | rfl | (subst_vars; rw [pr_n (by assumption), ← lN_mul]; rfl) | (subst_vars; rw [pr_s (by assumption) (by assumption), ← lN_mul]) | (subst_vars; rw [pr_t (by assumption) (by assumption), ← lN_mul]))
        refine v_to (ls' := [(0, .ref (u.2.1 63)), (1, .int (nI p)), (2, .int (nI S)), (3, .int (nI s)), (4, .long (lN (prN p S s (i + 1)))), (6, .int (nI (i + 1)))]) (by first | rfl | rw [g10] | simp_all) ?_
        exact ih (i + 1) (by omega) (by omega)
set_option maxHeartbeats 4000000 in
theorem L_M_layParts_61 {X : FX} {u : Un} (hA : Ap u) {Q : State → Prop} (F : Fr X u "TakerBookModel" b_M_layParts 7) {σ : St} {n : Nat} {kd : Nat → Nat} (hb : mkOk σ n kd) {a : Nat} (ha : a < 64) (h0 : σ.1 76 0 = nI a) {p S : Nat} (hp : p ≤ 12) (hS : S < 64) (k0 : ∀ (s : Nat) (τ : St), fr σ τ → τ.2 63 37 = lN (psN (σ.1 70 3) p S n (S + 1)) → τ.2 63 38 = lN (whN S n) → V X u 4 7 Q 171 [(0, .ref (u.2.1 63))] [] (τ)) : ∀ (nn : Nat) (s : Nat) (τ : St), s ≤ S + 1 → fr σ τ → τ.2 63 37 = lN (psN (σ.1 70 3) p S n s) → τ.2 63 38 = lN (whN S n) → S + 1 - s < nn → V X u 4 7 Q 61 [(0, .ref (u.2.1 63)), (1, .int (nI p)), (2, .int (nI S)), (3, .int (nI s))] [] (τ) := by
  intro nn
  induction nn with
  | zero =>
    intro s τ hs fτ hq hw h2
    exact absurd h2 (Nat.not_lt_zero _)
  | succ nn ih =>
    intro s τ hs fτ hq hw hm
    obtain ⟨hn, hn6, hkd, hk6⟩ := id hb
    have hsL : s &&& (63 ^^^ S) ≤ s := Nat.and_le_left
    refine v_iload_n F d_M_layParts_61 rfl 3 rfl ?_
    refine v_iload_n F d_M_layParts_62 rfl 2 rfl ?_
    refine v_icmp_gt F 171 d_M_layParts_63 rfl (fun h63 => ?_) (fun h63 => ?_)
    · skip
      have h63 : S < s := (nI_ltI (a := S) (b := s) (by omega) (by omega)).mp h63
      refine v_sub [0] (ls' := [(0, .ref (u.2.1 63))]) rfl ?_
      exact k0 s τ fτ (by have e : s = S + 1 := (by omega); subst e; exact hq) hw
    · skip
      have h63 : ¬ S < s := fun q => h63 ((nI_ltI (a := S) (b := s) (by omega) (by omega)).mpr q)
      refine v_iload_n F d_M_layParts_66 rfl 3 rfl ?_
      refine v_iload_n F d_M_layParts_67 rfl 2 rfl ?_
      refine v_iconst (v := (-1)) F d_M_layParts_68 ki_m1 ?_
      refine v_ixor F d_M_layParts_69 ?_
      refine v_iand F d_M_layParts_70 ?_
      refine v_te (y := nI (s &&& (63 ^^^ S))) (sub6 (by omega) hS) ?_
      refine v_if_ne F 165 d_M_layParts_71 rfl (fun h71 => ?_) (fun h71 => ?_)
      · skip
        have h71 : ¬ s &&& (63 ^^^ S) = 0 := fun q => h71 ((nI_eq (a := s &&& (63 ^^^ S)) (b := 0) (by omega) (by omega)).mpr q)
        refine v_iinc (v := nI (s + 1)) (ls' := [(3, .int (nI (s + 1))), (0, .ref (u.2.1 63)), (1, .int (nI p)), (2, .int (nI S))]) F d_M_layParts_165 (j := 3) rfl (nI_inc _) (by decide) rfl ?_
        refine v_goto F 61 d_M_layParts_168 rfl ?_
        refine v_sub [1, 2, 3, 0] (ls' := [(0, .ref (u.2.1 63)), (1, .int (nI p)), (2, .int (nI S)), (3, .int (nI (s + 1)))]) rfl ?_
        exact ih (s + 1) (τ) (by omega) fτ (by rw [ps_f (by assumption)]; exact hq) hw (by omega)
      · skip
        have h71 : s &&& (63 ^^^ S) = 0 := (nI_eq (a := s &&& (63 ^^^ S)) (b := 0) (by omega) (by omega)).mp h71
        refine v_lconst (v := 1) F d_M_layParts_74 rfl ?_
        refine v_lstore (ls' := [(4, .long 1), (0, .ref (u.2.1 63)), (1, .int (nI p)), (2, .int (nI S)), (3, .int (nI s))]) F d_M_layParts_75 (by decide) rfl ?_
        refine v_iconst (v := 0) F d_M_layParts_77 ki_0 ?_
        refine v_istore (ls' := [(6, .int 0), (4, .long 1), (0, .ref (u.2.1 63)), (1, .int (nI p)), (2, .int (nI S)), (3, .int (nI s))]) F d_M_layParts_78 (by decide) rfl ?_
        refine v_sub [2, 3, 4, 5, 1, 0] (ls' := [(0, .ref (u.2.1 63)), (1, .int (nI p)), (2, .int (nI S)), (3, .int (nI s)), (4, .long 1), (6, .int 0)]) rfl ?_
        have g1 : 1 = (lN (prN p S s 0)) := (by first | rfl | (subst_vars; rw [pr_n (by assumption), ← lN_mul]; rfl) | (subst_vars; rw [pr_s (by assumption) (by assumption), ← lN_mul]) | (subst_vars; rw [pr_t (by assumption) (by assumption), ← lN_mul]))
        have g2 : 0 = (nI 0) := (by first | rfl | (subst_vars; rw [pr_n (by assumption), ← lN_mul]; rfl) | (subst_vars; rw [pr_s (by assumption) (by assumption), ← lN_mul]) | (subst_vars; rw [pr_t (by assumption) (by assumption), ← lN_mul]))
        refine v_to (ls' := [(0, .ref (u.2.1 63)), (1, .int (nI p)), (2, .int (nI S)), (3, .int (nI s)), (4, .long (lN (prN p S s 0))), (6, .int (nI 0))]) (by first | rfl | rw [g1, g2] | simp_all) ?_
        refine L_M_layParts_80 hA F hb ha h0 hp hS (by omega) fτ ?_ _ 0 (Nat.zero_le _) (Nat.lt_succ_self _)
        refine v_aload_n F d_M_layParts_132 rfl 0 rfl ?_
        refine v_dup F d_M_layParts_133 rfl ?_
        refine v_getl F fk_M_291 G63 rfl d_M_layParts_134 ?_
        refine v_tl (y := (lN (psN (σ.1 70 3) p S n s))) hq ?_
        refine v_iload_n F d_M_layParts_137 rfl 2 rfl ?_
        refine v_runi (r_S F (c_M_bits X.2.1 u hA τ S hS) mo_M_bits st_M_175 (by decide) rfl (Nat.le_of_ble_eq_true rfl) d_M_layParts_138) (fun r3 σ4 q5 => ?_)
        obtain ⟨rfl, rfl⟩ := q5
        refine v_iload_n F d_M_layParts_141 rfl 3 rfl ?_
        refine v_runi (r_S F (c_M_bits X.2.1 u hA τ s (by omega)) mo_M_bits st_M_175 (by decide) rfl (Nat.le_of_ble_eq_true rfl) d_M_layParts_142) (fun r6 σ7 q8 => ?_)
        obtain ⟨rfl, rfl⟩ := q8
        refine v_isub F d_M_layParts_145 ?_
        refine v_te (y := nI (pcN S - pcN s)) (pk_sub (pc_sub hS (by omega) (by assumption))) ?_
        refine v_aload_n F d_M_layParts_146 rfl 0 rfl ?_
        refine v_getr (r := 70) F fk_M_33 G63 rfl d_M_layParts_147 ?_
        refine v_iconst (v := 3) F d_M_layParts_150 ki_3 ?_
        refine v_ial F 3 G70 rfl (by omega) d_M_layParts_151 ?_
        refine v_te (y := σ.1 70 3) (fτ.1 70 3 rfl) ?_
        refine v_icmp_ge F 160 d_M_layParts_152 rfl (fun h152 => ?_) (fun h152 => ?_)
        · skip
          refine v_lconst (v := 0) F d_M_layParts_160 rfl ?_
          refine v_ladd F d_M_layParts_161 ?_
          refine v_putl F fk_M_291 pk_M_partSum G63 rfl d_M_layParts_162 ?_
          refine v_ns (fun σ9 eσ9 => ?_)
          have fσ9 : fr σ σ9 := by rw [eσ9]; exact fτ.l rfl
          refine v_iinc (v := nI (s + 1)) (ls' := [(3, .int (nI (s + 1))), (0, .ref (u.2.1 63)), (1, .int (nI p)), (2, .int (nI S)), (4, .long (lN (prN p S s n))), (6, .int (nI n))]) F d_M_layParts_165 (j := 3) rfl (nI_inc _) (by decide) rfl ?_
          refine v_goto F 61 d_M_layParts_168 rfl ?_
          refine v_sub [1, 2, 3, 0] (ls' := [(0, .ref (u.2.1 63)), (1, .int (nI p)), (2, .int (nI S)), (3, .int (nI (s + 1)))]) rfl ?_
          exact ih (s + 1) (σ9) (by omega) fσ9 (by rw [eσ9, uL_s]; first | (rw [ps_t (by assumption) (by first | assumption | exact i_lt_le.mp (by assumption))]; exact lN_add _ _) | (rw [ps_f2 (i_nlt.mpr (by assumption))]; exact lN_a0 _)) (by rw [eσ9, uL_n _ _ _ _ (by decide)]; exact hw) (by omega)
        · skip
          refine v_lload F d_M_layParts_155 4 rfl ?_
          refine v_goto F 161 d_M_layParts_157 rfl ?_
          refine v_ladd F d_M_layParts_161 ?_
          refine v_putl F fk_M_291 pk_M_partSum G63 rfl d_M_layParts_162 ?_
          refine v_ns (fun σ10 eσ10 => ?_)
          have fσ10 : fr σ σ10 := by rw [eσ10]; exact fτ.l rfl
          refine v_iinc (v := nI (s + 1)) (ls' := [(3, .int (nI (s + 1))), (0, .ref (u.2.1 63)), (1, .int (nI p)), (2, .int (nI S)), (4, .long (lN (prN p S s n))), (6, .int (nI n))]) F d_M_layParts_165 (j := 3) rfl (nI_inc _) (by decide) rfl ?_
          refine v_goto F 61 d_M_layParts_168 rfl ?_
          refine v_sub [1, 2, 3, 0] (ls' := [(0, .ref (u.2.1 63)), (1, .int (nI p)), (2, .int (nI S)), (3, .int (nI (s + 1)))]) rfl ?_
          exact ih (s + 1) (σ10) (by omega) fσ10 (by rw [eσ10, uL_s]; first | (rw [ps_t (by assumption) (by first | assumption | exact i_lt_le.mp (by assumption))]; exact lN_add _ _) | (rw [ps_f2 (i_nlt.mpr (by assumption))]; exact lN_a0 _)) (by rw [eσ10, uL_n _ _ _ _ (by decide)]; exact hw) (by omega)
set_option maxHeartbeats 4000000 in
theorem c_M_layParts (l : Launch) (u : Un) (hA : Ap u) (σ : St) {n : Nat} {kd : Nat → Nat} (hb : mkOk σ n kd) {a : Nat} (ha : a < 64) (h0 : σ.1 76 0 = nI a) (p : Nat) (hp : p ≤ 12) : MTv l u y_M_layParts b_M_layParts 7 4 [.ref (u.2.1 63), .int (nI p)] σ (fun σ' => fr σ σ' ∧ σ'.2 63 37 = lN (psN (σ.1 70 3) p (spX σ kd n (nwC σ) a) n ((spX σ kd n (nwC σ) a) + 1)) ∧ σ'.2 63 38 = lN (whN (spX σ kd n (nwC σ) a) n)) := by
  refine MT_of hA rfl (by decide) (Nat.le_of_ble_eq_true rfl) (fun X hl F hr => ?_)
  subst hl
  refine v_to (ls' := [(0, .ref (u.2.1 63)), (1, .int (nI p))]) rfl ?_
  obtain ⟨hn, hn6, hkd, hk6⟩ := id hb
  refine v_aload_n F d_M_layParts_0 rfl 0 rfl ?_
  refine v_aload_n F d_M_layParts_1 rfl 0 rfl ?_
  refine v_getr (r := 76) F fk_M_51 G63 rfl d_M_layParts_2 ?_
  refine v_runi (r_V F (c_M_speakers_f X.2.1 u hA fr.rf hb (kO := 76) (Or.inl rfl) ha h0 (cr := (nwC σ)) (fun i hi => rfl)  ) mo_M_speakers st_M_171 rc_63 (by decide) rfl (Nat.le_of_ble_eq_true rfl) d_M_layParts_5) (fun r1 σ2 q3 => ?_)
  obtain ⟨rfl, rfl⟩ := q3
  refine v_istore_n (ls' := [(2, .int (nI (spX σ kd n (nwC σ) a))), (0, .ref (u.2.1 63)), (1, .int (nI p))]) F d_M_layParts_8 rfl (by decide) rfl ?_
  refine v_aload_n F d_M_layParts_9 rfl 1 rfl ?_
  refine v_lconst (v := 0) F d_M_layParts_10 rfl ?_
  refine v_putl F fk_M_291 pk_M_partSum G63 rfl d_M_layParts_11 ?_
  refine v_ns (fun σ4 eσ4 => ?_)
  have fσ4 : fr σ σ4 := by rw [eσ4]; exact fr.rf.l rfl
  refine v_aload_n F d_M_layParts_14 rfl 1 rfl ?_
  refine v_lconst (v := 1) F d_M_layParts_15 rfl ?_
  refine v_putl F fk_M_294 pk_M_whole G63 rfl d_M_layParts_16 ?_
  refine v_ns (fun σ5 eσ5 => ?_)
  have fσ5 : fr σ σ5 := by rw [eσ5]; exact fσ4.l rfl
  refine v_iconst (v := 0) F d_M_layParts_19 ki_0 ?_
  refine v_istore_n (ls' := [(3, .int 0), (2, .int (nI (spX σ kd n (nwC σ) a))), (0, .ref (u.2.1 63)), (1, .int (nI p))]) F d_M_layParts_20 rfl (by decide) rfl ?_
  have hS : (spX σ kd n (nwC σ) a) < 64 := spX_64 hn6
  refine v_sub [2, 3, 1, 0] (ls' := [(0, .ref (u.2.1 63)), (1, .int (nI p)), (2, .int (nI (spX σ kd n (nwC σ) a))), (3, .int 0)]) rfl ?_
  have g6 : (nI (spX σ kd n (nwC σ) a)) = (nI ((spX σ kd n (nwC σ) a))) := (by first | rfl | (simp_all; done) | grind)
  have g7 : 0 = (nI 0) := (by first | rfl | (simp_all; done) | grind)
  refine v_to (ls' := [(0, .ref (u.2.1 63)), (1, .int (nI p)), (2, .int (nI ((spX σ kd n (nwC σ) a)))), (3, .int (nI 0))]) (by first | rfl | rw [g6, g7] | simp_all) ?_
  refine L_M_layParts_21 hA F hb ha h0 hp hS (fun i τ fτ hz hw => ?_) _ 0 σ5 (Nat.zero_le _) fσ5 (by subst_vars; rw [uL_n _ _ _ _ (by decide), uL_s]; rfl) (by subst_vars; rw [uL_s]; rfl) (Nat.lt_succ_self _)
  refine v_iconst (v := 0) F d_M_layParts_59 ki_0 ?_
  refine v_istore_n (ls' := [(3, .int 0), (0, .ref (u.2.1 63)), (1, .int (nI p)), (2, .int (nI ((spX σ kd n (nwC σ) a))))]) F d_M_layParts_60 rfl (by decide) rfl ?_
  refine v_sub [1, 2, 3, 0] (ls' := [(0, .ref (u.2.1 63)), (1, .int (nI p)), (2, .int (nI ((spX σ kd n (nwC σ) a)))), (3, .int 0)]) rfl ?_
  have g8 : 0 = (nI 0) := (by first | rfl | (simp_all; done) | grind)
  refine v_to (ls' := [(0, .ref (u.2.1 63)), (1, .int (nI p)), (2, .int (nI ((spX σ kd n (nwC σ) a)))), (3, .int (nI 0))]) (by first | rfl | rw [g8] | simp_all) ?_
  refine L_M_layParts_61 hA F hb ha h0 hp hS (fun s τ2 fτ2 hq2 hw2 => ?_) _ 0 τ (Nat.zero_le _) fτ hz hw (Nat.lt_succ_self _)
  refine v_vret F hr d_M_layParts_171 ?_
  exact ⟨fτ2, hq2, hw2⟩
abbrev b_M_odds : ByteArray := prog_14_method_90_code
abbrev y_M_odds : MethodName := ⟨"TakerBookModel", "odds", "(I)I"⟩
theorem d_M_odds_0 : decode b_M_odds 0 = .ok (.aload_n 0, 1) := by decide +kernel
theorem d_M_odds_1 : decode b_M_odds 1 = .ok (.iload_n 1, 1) := by decide +kernel
theorem d_M_odds_2 : decode b_M_odds 2 = .ok (.iconst 0, 1) := by decide +kernel
theorem d_M_odds_3 : decode b_M_odds 3 = .ok (.bipush 12, 2) := by decide +kernel
theorem d_M_odds_5 : decode b_M_odds 5 = .ok (.invokestatic 89, 3) := by decide +kernel
theorem d_M_odds_8 : decode b_M_odds 8 = .ok (.invokevirtual 229, 3) := by decide +kernel
theorem d_M_odds_11 : decode b_M_odds 11 = .ok (.istore_n 2, 1) := by decide +kernel
theorem d_M_odds_12 : decode b_M_odds 12 = .ok (.iload_n 2, 1) := by decide +kernel
theorem d_M_odds_13 : decode b_M_odds 13 = .ok (.ifCond .ge 5, 3) := by decide +kernel
theorem d_M_odds_16 : decode b_M_odds 16 = .ok (.iload_n 2, 1) := by decide +kernel
theorem d_M_odds_17 : decode b_M_odds 17 = .ok (.ireturn, 1) := by decide +kernel
theorem d_M_odds_18 : decode b_M_odds 18 = .ok (.aload_n 0, 1) := by decide +kernel
theorem d_M_odds_19 : decode b_M_odds 19 = .ok (.iload_n 1, 1) := by decide +kernel
theorem d_M_odds_20 : decode b_M_odds 20 = .ok (.invokevirtual 299, 3) := by decide +kernel
theorem d_M_odds_23 : decode b_M_odds 23 = .ok (.aload_n 0, 1) := by decide +kernel
theorem d_M_odds_24 : decode b_M_odds 24 = .ok (.aload_n 0, 1) := by decide +kernel
theorem d_M_odds_25 : decode b_M_odds 25 = .ok (.getfield 291, 3) := by decide +kernel
theorem d_M_odds_28 : decode b_M_odds 28 = .ok (.aload_n 0, 1) := by decide +kernel
theorem d_M_odds_29 : decode b_M_odds 29 = .ok (.getfield 294, 3) := by decide +kernel
theorem d_M_odds_32 : decode b_M_odds 32 = .ok (.invokevirtual 251, 3) := by decide +kernel
theorem d_M_odds_35 : decode b_M_odds 35 = .ok (.ireturn, 1) := by decide +kernel
theorem mo_M_odds : mok y_M_odds b_M_odds 3 (some .int) 1 := ⟨List.mem_of_getElem? (i := 1445) (by decide +kernel), ⟨by decide +kernel, by decide +kernel, by decide +kernel⟩, List.mem_of_getElem? (i := 86) (by decide +kernel), by decide⟩
set_option maxHeartbeats 4000000 in
theorem c_M_odds (l : Launch) (u : Un) (hA : Ap u) (σ : St) {n : Nat} {kd : Nat → Nat} (hb : mkOk σ n kd) {a : Nat} (ha : a < 64) (h0 : σ.1 76 0 = nI a) (x : Int32) : MTi l u y_M_odds b_M_odds 3 .int 5 [.ref (u.2.1 63), .int x] σ (fun ans σ' => ∃ τ, fr σ τ ∧ (ans, σ') = mOdds σ τ kd n a x) := by
  refine MT_of hA rfl (by decide) (Nat.le_of_ble_eq_true rfl) (fun X hl F hr => ?_)
  subst hl
  refine v_to (ls' := [(0, .ref (u.2.1 63)), (1, .int x)]) rfl ?_
  obtain ⟨hn, hn6, hkd, hk6⟩ := id hb
  refine v_aload_n F d_M_odds_0 rfl 0 rfl ?_
  refine v_iload_n F d_M_odds_1 rfl 1 rfl ?_
  refine v_iconst (v := 0) F d_M_odds_2 ki_0 ?_
  refine v_bipush (v := 12) F d_M_odds_3 kb_12 ?_
  refine v_runi (r_S F (c_M_in X.2.1 u hA σ x 0 12 ) mo_M_in st_M_89 (by decide) rfl (Nat.le_of_ble_eq_true rfl) d_M_odds_5) (fun r1 σ2 q3 => ?_)
  obtain ⟨rfl, rfl⟩ := q3
  refine v_runi (r_V F (c_M_need X.2.1 u hA σ hb (0 ≤ x ∧ x ≤ 12)) mo_M_need st_M_229 rc_63 (by decide) rfl (Nat.le_of_ble_eq_true rfl) d_M_odds_8) (fun r4 σ5 q6 => ?_)
  rcases q6 with ⟨a1, rfl, rfl⟩ | ⟨a1, a2, rfl, rfl⟩ | ⟨a1, a2, rfl, rfl⟩
  · skip
    refine v_istore_n (ls' := [(2, .int (-1)), (0, .ref (u.2.1 63)), (1, .int x)]) F d_M_odds_11 rfl (by decide) rfl ?_
    refine v_iload_n F d_M_odds_12 rfl 0 rfl ?_
    refine v_if_ge F 18 d_M_odds_13 rfl (fun h => absurd h (by decide)) (fun _ => ?_)
    refine v_iload_n F d_M_odds_16 rfl 0 rfl ?_
    refine v_iret F hr rfl d_M_odds_17 ?_
    refine ⟨σ, fr.rf, ?_⟩
    unfold mOdds
    first | (rw [if_pos (by assumption)]; done) | (rw [if_neg (fun q => q (by assumption)), if_pos (by assumption)]; done)
  · skip
    refine v_istore_n (ls' := [(2, .int (-4)), (0, .ref (u.2.1 63)), (1, .int x)]) F d_M_odds_11 rfl (by decide) rfl ?_
    refine v_iload_n F d_M_odds_12 rfl 0 rfl ?_
    refine v_if_ge F 18 d_M_odds_13 rfl (fun h => absurd h (by decide)) (fun _ => ?_)
    refine v_iload_n F d_M_odds_16 rfl 0 rfl ?_
    refine v_iret F hr rfl d_M_odds_17 ?_
    refine ⟨σ, fr.rf, ?_⟩
    unfold mOdds
    first | (rw [if_pos (by assumption)]; done) | (rw [if_neg (fun q => q (by assumption)), if_pos (by assumption)]; done)
  · skip
    refine v_istore_n (ls' := [(2, .int 0), (0, .ref (u.2.1 63)), (1, .int x)]) F d_M_odds_11 rfl (by decide) rfl ?_
    refine v_iload_n F d_M_odds_12 rfl 0 rfl ?_
    refine v_if_ge F 18 d_M_odds_13 rfl (fun _ => ?_) (fun h => absurd (by decide) h)
    obtain ⟨p, hp, xp, rfl⟩ := nat_of (M := 12) a1.1 a1.2 rfl (by decide)
    refine v_aload_n F d_M_odds_18 rfl 1 rfl ?_
    refine v_iload_n F d_M_odds_19 rfl 2 rfl ?_
    refine v_runv (r_V F (c_M_layParts X.2.1 u hA σ hb ha h0 p hp) mo_M_layParts st_M_299 rc_63 (by decide) rfl (Nat.le_of_ble_eq_true rfl) d_M_odds_20) (fun σ8 q9 => ?_)
    obtain ⟨fσ8, hq, hw⟩ := q9
    have hS : (spX σ kd n (nwC σ) a) < 64 := spX_64 hn6
    have hpb := ps_lt (b := (σ.1 70 3)) (n := n) hp hn6 hS
    have hwb := wh_lt (S := (spX σ kd n (nwC σ) a)) hn6
    have hw0 := (wh_b (S := (spX σ kd n (nwC σ) a)) n).1
    refine v_aload_n F d_M_odds_23 rfl 1 rfl ?_
    refine v_aload_n F d_M_odds_24 rfl 1 rfl ?_
    refine v_getl F fk_M_291 G63 rfl d_M_odds_25 ?_
    refine v_tl (y := (lN (psN (σ.1 70 3) p (spX σ kd n (nwC σ) a) n ((spX σ kd n (nwC σ) a) + 1)))) hq ?_
    refine v_aload_n F d_M_odds_28 rfl 1 rfl ?_
    refine v_getl F fk_M_294 G63 rfl d_M_odds_29 ?_
    refine v_tl (y := (lN (whN (spX σ kd n (nwC σ) a) n))) hw ?_
    refine v_runi (r_V F (c_M_fraction X.2.1 u hA σ8 (psN (σ.1 70 3) p (spX σ kd n (nwC σ) a) n ((spX σ kd n (nwC σ) a) + 1)) (whN (spX σ kd n (nwC σ) a) n) (by omega) (by omega) hw0) mo_M_fraction st_M_251 rc_63 (by decide) rfl (Nat.le_of_ble_eq_true rfl) d_M_odds_32) (fun r10 σ11 q12 => ?_)
    obtain ⟨rfl, eσ11⟩ := q12
    refine v_iret F hr rfl d_M_odds_35 ?_
    refine ⟨_, fσ8, ?_⟩
    unfold mOdds
    rw [if_neg (fun q => q (by assumption)), if_neg (by assumption), xp]
    subst_vars
    rfl
abbrev b_M_mid : ByteArray := prog_14_method_91_code
abbrev y_M_mid : MethodName := ⟨"TakerBookModel", "mid", "(I)I"⟩
theorem d_M_mid_0 : decode b_M_mid 0 = .ok (.aload_n 0, 1) := by decide +kernel
theorem d_M_mid_1 : decode b_M_mid 1 = .ok (.iload_n 1, 1) := by decide +kernel
theorem d_M_mid_2 : decode b_M_mid 2 = .ok (.iconst 0, 1) := by decide +kernel
theorem d_M_mid_3 : decode b_M_mid 3 = .ok (.bipush 12, 2) := by decide +kernel
theorem d_M_mid_5 : decode b_M_mid 5 = .ok (.invokestatic 89, 3) := by decide +kernel
theorem d_M_mid_8 : decode b_M_mid 8 = .ok (.invokevirtual 229, 3) := by decide +kernel
theorem d_M_mid_11 : decode b_M_mid 11 = .ok (.istore_n 2, 1) := by decide +kernel
theorem d_M_mid_12 : decode b_M_mid 12 = .ok (.iload_n 2, 1) := by decide +kernel
theorem d_M_mid_13 : decode b_M_mid 13 = .ok (.ifCond .ge 5, 3) := by decide +kernel
theorem d_M_mid_16 : decode b_M_mid 16 = .ok (.iload_n 2, 1) := by decide +kernel
theorem d_M_mid_17 : decode b_M_mid 17 = .ok (.ireturn, 1) := by decide +kernel
theorem d_M_mid_18 : decode b_M_mid 18 = .ok (.aload_n 0, 1) := by decide +kernel
theorem d_M_mid_19 : decode b_M_mid 19 = .ok (.iload_n 1, 1) := by decide +kernel
theorem d_M_mid_20 : decode b_M_mid 20 = .ok (.invokevirtual 299, 3) := by decide +kernel
theorem d_M_mid_23 : decode b_M_mid 23 = .ok (.aload_n 0, 1) := by decide +kernel
theorem d_M_mid_24 : decode b_M_mid 24 = .ok (.aload_n 0, 1) := by decide +kernel
theorem d_M_mid_25 : decode b_M_mid 25 = .ok (.getfield 291, 3) := by decide +kernel
theorem d_M_mid_28 : decode b_M_mid 28 = .ok (.aload_n 0, 1) := by decide +kernel
theorem d_M_mid_29 : decode b_M_mid 29 = .ok (.aload_n 0, 1) := by decide +kernel
theorem d_M_mid_30 : decode b_M_mid 30 = .ok (.getfield 51, 3) := by decide +kernel
theorem d_M_mid_33 : decode b_M_mid 33 = .ok (.invokevirtual 185, 3) := by decide +kernel
theorem d_M_mid_36 : decode b_M_mid 36 = .ok (.i2l, 1) := by decide +kernel
theorem d_M_mid_37 : decode b_M_mid 37 = .ok (.lmul, 1) := by decide +kernel
theorem d_M_mid_38 : decode b_M_mid 38 = .ok (.aload_n 0, 1) := by decide +kernel
theorem d_M_mid_39 : decode b_M_mid 39 = .ok (.getfield 294, 3) := by decide +kernel
theorem d_M_mid_42 : decode b_M_mid 42 = .ok (.invokevirtual 251, 3) := by decide +kernel
theorem d_M_mid_45 : decode b_M_mid 45 = .ok (.ireturn, 1) := by decide +kernel
theorem mo_M_mid : mok y_M_mid b_M_mid 3 (some .int) 1 := ⟨List.mem_of_getElem? (i := 1454) (by decide +kernel), ⟨by decide +kernel, by decide +kernel, by decide +kernel⟩, List.mem_of_getElem? (i := 86) (by decide +kernel), by decide⟩
set_option maxHeartbeats 4000000 in
theorem c_M_mid (l : Launch) (u : Un) (hA : Ap u) (σ : St) {n : Nat} {kd : Nat → Nat} (hb : mkOk σ n kd) {a : Nat} (ha : a < 64) (h0 : σ.1 76 0 = nI a) {lo : Nat} (hlo : sumI (ltA kd (σ.1 72) (gaN kd n) a) n = nI lo) (hlo2 : lo ≤ 1000) (x : Int32) : MTi l u y_M_mid b_M_mid 3 .int 5 [.ref (u.2.1 63), .int x] σ (fun ans σ' => ∃ τ, fr σ τ ∧ (ans, σ') = mMid σ τ kd n a lo x) := by
  refine MT_of hA rfl (by decide) (Nat.le_of_ble_eq_true rfl) (fun X hl F hr => ?_)
  subst hl
  refine v_to (ls' := [(0, .ref (u.2.1 63)), (1, .int x)]) rfl ?_
  obtain ⟨hn, hn6, hkd, hk6⟩ := id hb
  refine v_aload_n F d_M_mid_0 rfl 0 rfl ?_
  refine v_iload_n F d_M_mid_1 rfl 1 rfl ?_
  refine v_iconst (v := 0) F d_M_mid_2 ki_0 ?_
  refine v_bipush (v := 12) F d_M_mid_3 kb_12 ?_
  refine v_runi (r_S F (c_M_in X.2.1 u hA σ x 0 12 ) mo_M_in st_M_89 (by decide) rfl (Nat.le_of_ble_eq_true rfl) d_M_mid_5) (fun r1 σ2 q3 => ?_)
  obtain ⟨rfl, rfl⟩ := q3
  refine v_runi (r_V F (c_M_need X.2.1 u hA σ hb (0 ≤ x ∧ x ≤ 12)) mo_M_need st_M_229 rc_63 (by decide) rfl (Nat.le_of_ble_eq_true rfl) d_M_mid_8) (fun r4 σ5 q6 => ?_)
  rcases q6 with ⟨a1, rfl, rfl⟩ | ⟨a1, a2, rfl, rfl⟩ | ⟨a1, a2, rfl, rfl⟩
  · skip
    refine v_istore_n (ls' := [(2, .int (-1)), (0, .ref (u.2.1 63)), (1, .int x)]) F d_M_mid_11 rfl (by decide) rfl ?_
    refine v_iload_n F d_M_mid_12 rfl 0 rfl ?_
    refine v_if_ge F 18 d_M_mid_13 rfl (fun h => absurd h (by decide)) (fun _ => ?_)
    refine v_iload_n F d_M_mid_16 rfl 0 rfl ?_
    refine v_iret F hr rfl d_M_mid_17 ?_
    refine ⟨σ, fr.rf, ?_⟩
    unfold mMid
    first | (rw [if_pos (by assumption)]; done) | (rw [if_neg (fun q => q (by assumption)), if_pos (by assumption)]; done)
  · skip
    refine v_istore_n (ls' := [(2, .int (-4)), (0, .ref (u.2.1 63)), (1, .int x)]) F d_M_mid_11 rfl (by decide) rfl ?_
    refine v_iload_n F d_M_mid_12 rfl 0 rfl ?_
    refine v_if_ge F 18 d_M_mid_13 rfl (fun h => absurd h (by decide)) (fun _ => ?_)
    refine v_iload_n F d_M_mid_16 rfl 0 rfl ?_
    refine v_iret F hr rfl d_M_mid_17 ?_
    refine ⟨σ, fr.rf, ?_⟩
    unfold mMid
    first | (rw [if_pos (by assumption)]; done) | (rw [if_neg (fun q => q (by assumption)), if_pos (by assumption)]; done)
  · skip
    refine v_istore_n (ls' := [(2, .int 0), (0, .ref (u.2.1 63)), (1, .int x)]) F d_M_mid_11 rfl (by decide) rfl ?_
    refine v_iload_n F d_M_mid_12 rfl 0 rfl ?_
    refine v_if_ge F 18 d_M_mid_13 rfl (fun _ => ?_) (fun h => absurd (by decide) h)
    obtain ⟨p, hp, xp, rfl⟩ := nat_of (M := 12) a1.1 a1.2 rfl (by decide)
    refine v_aload_n F d_M_mid_18 rfl 1 rfl ?_
    refine v_iload_n F d_M_mid_19 rfl 2 rfl ?_
    refine v_runv (r_V F (c_M_layParts X.2.1 u hA σ hb ha h0 p hp) mo_M_layParts st_M_299 rc_63 (by decide) rfl (Nat.le_of_ble_eq_true rfl) d_M_mid_20) (fun σ8 q9 => ?_)
    obtain ⟨fσ8, hq, hw⟩ := q9
    have hS : (spX σ kd n (nwC σ) a) < 64 := spX_64 hn6
    have hpb := ps_lt (b := (σ.1 70 3)) (n := n) hp hn6 hS
    have hwb := wh_lt (S := (spX σ kd n (nwC σ) a)) hn6
    have hw0 := (wh_b (S := (spX σ kd n (nwC σ) a)) n).1
    refine v_aload_n F d_M_mid_23 rfl 1 rfl ?_
    refine v_aload_n F d_M_mid_24 rfl 1 rfl ?_
    refine v_getl F fk_M_291 G63 rfl d_M_mid_25 ?_
    refine v_tl (y := (lN (psN (σ.1 70 3) p (spX σ kd n (nwC σ) a) n ((spX σ kd n (nwC σ) a) + 1)))) hq ?_
    refine v_aload_n F d_M_mid_28 rfl 1 rfl ?_
    refine v_aload_n F d_M_mid_29 rfl 1 rfl ?_
    refine v_getr (r := 76) F fk_M_51 G63 rfl d_M_mid_30 ?_
    refine v_runi (r_V F (c_M_loot_f X.2.1 u hA fσ8 hb (kO := 76) (Or.inl rfl) ha (fσ8.v rfl h0)   ) mo_M_loot st_M_185 rc_63 (by decide) rfl (Nat.le_of_ble_eq_true rfl) d_M_mid_33) (fun r10 σ11 q12 => ?_)
    obtain ⟨rfl, rfl⟩ := q12
    refine v_te (y := nI lo) hlo ?_
    refine v_i2l F d_M_mid_36 ?_
    refine v_tl (y := (lN lo)) (nI_l (by omega)) ?_
    refine v_lmul F d_M_mid_37 ?_
    refine v_tl (y := (lN ((psN (σ.1 70 3) p (spX σ kd n (nwC σ) a) n ((spX σ kd n (nwC σ) a) + 1)) * lo))) (lN_mul _ _) ?_
    refine v_aload_n F d_M_mid_38 rfl 1 rfl ?_
    refine v_getl F fk_M_294 G63 rfl d_M_mid_39 ?_
    refine v_tl (y := (lN (whN (spX σ kd n (nwC σ) a) n))) hw ?_
    refine v_runi (r_V F (c_M_fraction X.2.1 u hA σ8 ((psN (σ.1 70 3) p (spX σ kd n (nwC σ) a) n ((spX σ kd n (nwC σ) a) + 1)) * lo) (whN (spX σ kd n (nwC σ) a) n) (ml_lt hpb hlo2) (by omega) hw0) mo_M_fraction st_M_251 rc_63 (by decide) rfl (Nat.le_of_ble_eq_true rfl) d_M_mid_42) (fun r13 σ14 q15 => ?_)
    obtain ⟨rfl, eσ14⟩ := q15
    refine v_iret F hr rfl d_M_mid_45 ?_
    refine ⟨_, fσ8, ?_⟩
    unfold mMid
    rw [if_neg (fun q => q (by assumption)), if_neg (by assumption), xp]
    subst_vars
    rfl
abbrev b_M_lots : ByteArray := prog_14_method_92_code
abbrev y_M_lots : MethodName := ⟨"TakerBookModel", "lots", "(II)I"⟩
theorem d_M_lots_0 : decode b_M_lots 0 = .ok (.aload_n 0, 1) := by decide +kernel
theorem d_M_lots_1 : decode b_M_lots 1 = .ok (.iload_n 1, 1) := by decide +kernel
theorem d_M_lots_2 : decode b_M_lots 2 = .ok (.iconst 1, 1) := by decide +kernel
theorem d_M_lots_3 : decode b_M_lots 3 = .ok (.bipush 20, 2) := by decide +kernel
theorem d_M_lots_5 : decode b_M_lots 5 = .ok (.invokestatic 89, 3) := by decide +kernel
theorem d_M_lots_8 : decode b_M_lots 8 = .ok (.ifCond .eq 18, 3) := by decide +kernel
theorem d_M_lots_11 : decode b_M_lots 11 = .ok (.iload_n 2, 1) := by decide +kernel
theorem d_M_lots_12 : decode b_M_lots 12 = .ok (.iconst 1, 1) := by decide +kernel
theorem d_M_lots_13 : decode b_M_lots 13 = .ok (.ldc_w 302, 3) := by decide +kernel
theorem d_M_lots_16 : decode b_M_lots 16 = .ok (.invokestatic 89, 3) := by decide +kernel
theorem d_M_lots_19 : decode b_M_lots 19 = .ok (.ifCond .eq 7, 3) := by decide +kernel
theorem d_M_lots_22 : decode b_M_lots 22 = .ok (.iconst 1, 1) := by decide +kernel
theorem d_M_lots_23 : decode b_M_lots 23 = .ok (.goto 4, 3) := by decide +kernel
theorem d_M_lots_26 : decode b_M_lots 26 = .ok (.iconst 0, 1) := by decide +kernel
theorem d_M_lots_27 : decode b_M_lots 27 = .ok (.invokevirtual 239, 3) := by decide +kernel
theorem d_M_lots_30 : decode b_M_lots 30 = .ok (.istore_n 3, 1) := by decide +kernel
theorem d_M_lots_31 : decode b_M_lots 31 = .ok (.iload_n 3, 1) := by decide +kernel
theorem d_M_lots_32 : decode b_M_lots 32 = .ok (.ifCond .ge 5, 3) := by decide +kernel
theorem d_M_lots_35 : decode b_M_lots 35 = .ok (.iload_n 3, 1) := by decide +kernel
theorem d_M_lots_36 : decode b_M_lots 36 = .ok (.ireturn, 1) := by decide +kernel
theorem d_M_lots_37 : decode b_M_lots 37 = .ok (.aload_n 0, 1) := by decide +kernel
theorem d_M_lots_38 : decode b_M_lots 38 = .ok (.getfield 149, 3) := by decide +kernel
theorem d_M_lots_41 : decode b_M_lots 41 = .ok (.iload_n 1, 1) := by decide +kernel
theorem d_M_lots_42 : decode b_M_lots 42 = .ok (.iadd, 1) := by decide +kernel
theorem d_M_lots_43 : decode b_M_lots 43 = .ok (.bipush 40, 2) := by decide +kernel
theorem d_M_lots_45 : decode b_M_lots 45 = .ok (.if_icmp .le 6, 3) := by decide +kernel
theorem d_M_lots_48 : decode b_M_lots 48 = .ok (.bipush (-2), 2) := by decide +kernel
theorem d_M_lots_50 : decode b_M_lots 50 = .ok (.ireturn, 1) := by decide +kernel
theorem d_M_lots_51 : decode b_M_lots 51 = .ok (.iload_n 2, 1) := by decide +kernel
theorem d_M_lots_52 : decode b_M_lots 52 = .ok (.i2l, 1) := by decide +kernel
theorem d_M_lots_53 : decode b_M_lots 53 = .ok (.lstore 4, 2) := by decide +kernel
theorem d_M_lots_55 : decode b_M_lots 55 = .ok (.iconst 0, 1) := by decide +kernel
theorem d_M_lots_56 : decode b_M_lots 56 = .ok (.istore 6, 2) := by decide +kernel
theorem d_M_lots_58 : decode b_M_lots 58 = .ok (.iconst 0, 1) := by decide +kernel
theorem d_M_lots_59 : decode b_M_lots 59 = .ok (.istore 7, 2) := by decide +kernel
theorem d_M_lots_61 : decode b_M_lots 61 = .ok (.iload 7, 2) := by decide +kernel
theorem d_M_lots_63 : decode b_M_lots 63 = .ok (.iload_n 1, 1) := by decide +kernel
theorem d_M_lots_64 : decode b_M_lots 64 = .ok (.if_icmp .ge 133, 3) := by decide +kernel
theorem d_M_lots_67 : decode b_M_lots 67 = .ok (.aload_n 0, 1) := by decide +kernel
theorem d_M_lots_68 : decode b_M_lots 68 = .ok (.getfield 51, 3) := by decide +kernel
theorem d_M_lots_71 : decode b_M_lots 71 = .ok (.iconst 4, 1) := by decide +kernel
theorem d_M_lots_72 : decode b_M_lots 72 = .ok (.iaload, 1) := by decide +kernel
theorem d_M_lots_73 : decode b_M_lots 73 = .ok (.ifCond .ne 124, 3) := by decide +kernel
theorem d_M_lots_76 : decode b_M_lots 76 = .ok (.ldc2_w 303, 3) := by decide +kernel
theorem d_M_lots_79 : decode b_M_lots 79 = .ok (.lload 4, 2) := by decide +kernel
theorem d_M_lots_81 : decode b_M_lots 81 = .ok (.lmul, 1) := by decide +kernel
theorem d_M_lots_82 : decode b_M_lots 82 = .ok (.ldc2_w 305, 3) := by decide +kernel
theorem d_M_lots_85 : decode b_M_lots 85 = .ok (.lrem, 1) := by decide +kernel
theorem d_M_lots_86 : decode b_M_lots 86 = .ok (.lstore 4, 2) := by decide +kernel
theorem d_M_lots_88 : decode b_M_lots 88 = .ok (.lload 4, 2) := by decide +kernel
theorem d_M_lots_90 : decode b_M_lots 90 = .ok (.ldc2_w 307, 3) := by decide +kernel
theorem d_M_lots_93 : decode b_M_lots 93 = .ok (.lrem, 1) := by decide +kernel
theorem d_M_lots_94 : decode b_M_lots 94 = .ok (.l2i, 1) := by decide +kernel
theorem d_M_lots_95 : decode b_M_lots 95 = .ok (.istore 8, 2) := by decide +kernel
theorem d_M_lots_97 : decode b_M_lots 97 = .ok (.lload 4, 2) := by decide +kernel
theorem d_M_lots_99 : decode b_M_lots 99 = .ok (.ldc2_w 309, 3) := by decide +kernel
theorem d_M_lots_102 : decode b_M_lots 102 = .ok (.ldiv, 1) := by decide +kernel
theorem d_M_lots_103 : decode b_M_lots 103 = .ok (.aload_n 0, 1) := by decide +kernel
theorem d_M_lots_104 : decode b_M_lots 104 = .ok (.getfield 146, 3) := by decide +kernel
theorem d_M_lots_107 : decode b_M_lots 107 = .ok (.i2l, 1) := by decide +kernel
theorem d_M_lots_108 : decode b_M_lots 108 = .ok (.lrem, 1) := by decide +kernel
theorem d_M_lots_109 : decode b_M_lots 109 = .ok (.l2i, 1) := by decide +kernel
theorem d_M_lots_110 : decode b_M_lots 110 = .ok (.istore 9, 2) := by decide +kernel
theorem d_M_lots_112 : decode b_M_lots 112 = .ok (.aload_n 0, 1) := by decide +kernel
theorem d_M_lots_113 : decode b_M_lots 113 = .ok (.invokevirtual 201, 3) := by decide +kernel
theorem d_M_lots_116 : decode b_M_lots 116 = .ok (.iinc 6 1, 3) := by decide +kernel
theorem d_M_lots_119 : decode b_M_lots 119 = .ok (.iload 8, 2) := by decide +kernel
theorem d_M_lots_121 : decode b_M_lots 121 = .ok (.iconst 2, 1) := by decide +kernel
theorem d_M_lots_122 : decode b_M_lots 122 = .ok (.if_icmp .ne 30, 3) := by decide +kernel
theorem d_M_lots_125 : decode b_M_lots 125 = .ok (.aload_n 0, 1) := by decide +kernel
theorem d_M_lots_126 : decode b_M_lots 126 = .ok (.getfield 51, 3) := by decide +kernel
theorem d_M_lots_129 : decode b_M_lots 129 = .ok (.iconst 0, 1) := by decide +kernel
theorem d_M_lots_130 : decode b_M_lots 130 = .ok (.iaload, 1) := by decide +kernel
theorem d_M_lots_131 : decode b_M_lots 131 = .ok (.iload 9, 2) := by decide +kernel
theorem d_M_lots_133 : decode b_M_lots 133 = .ok (.invokestatic 155, 3) := by decide +kernel
theorem d_M_lots_136 : decode b_M_lots 136 = .ok (.ifCond .eq 16, 3) := by decide +kernel
theorem d_M_lots_139 : decode b_M_lots 139 = .ok (.aload_n 0, 1) := by decide +kernel
theorem d_M_lots_140 : decode b_M_lots 140 = .ok (.aload_n 0, 1) := by decide +kernel
theorem d_M_lots_141 : decode b_M_lots 141 = .ok (.getfield 51, 3) := by decide +kernel
theorem d_M_lots_144 : decode b_M_lots 144 = .ok (.iload 9, 2) := by decide +kernel
theorem d_M_lots_146 : decode b_M_lots 146 = .ok (.invokevirtual 211, 3) := by decide +kernel
theorem d_M_lots_149 : decode b_M_lots 149 = .ok (.goto 42, 3) := by decide +kernel
theorem d_M_lots_152 : decode b_M_lots 152 = .ok (.iload 8, 2) := by decide +kernel
theorem d_M_lots_154 : decode b_M_lots 154 = .ok (.iconst 3, 1) := by decide +kernel
theorem d_M_lots_155 : decode b_M_lots 155 = .ok (.if_icmp .ne 28, 3) := by decide +kernel
theorem d_M_lots_158 : decode b_M_lots 158 = .ok (.aload_n 0, 1) := by decide +kernel
theorem d_M_lots_159 : decode b_M_lots 159 = .ok (.iload 9, 2) := by decide +kernel
theorem d_M_lots_161 : decode b_M_lots 161 = .ok (.invokevirtual 208, 3) := by decide +kernel
theorem d_M_lots_164 : decode b_M_lots 164 = .ok (.ifCond .eq 19, 3) := by decide +kernel
theorem d_M_lots_167 : decode b_M_lots 167 = .ok (.aload_n 0, 1) := by decide +kernel
theorem d_M_lots_168 : decode b_M_lots 168 = .ok (.getfield 51, 3) := by decide +kernel
theorem d_M_lots_171 : decode b_M_lots 171 = .ok (.iconst 5, 1) := by decide +kernel
theorem d_M_lots_172 : decode b_M_lots 172 = .ok (.iload 9, 2) := by decide +kernel
theorem d_M_lots_174 : decode b_M_lots 174 = .ok (.iadd, 1) := by decide +kernel
theorem d_M_lots_175 : decode b_M_lots 175 = .ok (.dup2, 1) := by decide +kernel
theorem d_M_lots_176 : decode b_M_lots 176 = .ok (.iaload, 1) := by decide +kernel
theorem d_M_lots_177 : decode b_M_lots 177 = .ok (.iconst 1, 1) := by decide +kernel
theorem d_M_lots_178 : decode b_M_lots 178 = .ok (.iadd, 1) := by decide +kernel
theorem d_M_lots_179 : decode b_M_lots 179 = .ok (.iastore, 1) := by decide +kernel
theorem d_M_lots_180 : decode b_M_lots 180 = .ok (.goto 11, 3) := by decide +kernel
theorem d_M_lots_183 : decode b_M_lots 183 = .ok (.aload_n 0, 1) := by decide +kernel
theorem d_M_lots_184 : decode b_M_lots 184 = .ok (.aload_n 0, 1) := by decide +kernel
theorem d_M_lots_185 : decode b_M_lots 185 = .ok (.getfield 51, 3) := by decide +kernel
theorem d_M_lots_188 : decode b_M_lots 188 = .ok (.invokevirtual 204, 3) := by decide +kernel
theorem d_M_lots_191 : decode b_M_lots 191 = .ok (.iinc 7 1, 3) := by decide +kernel
theorem d_M_lots_194 : decode b_M_lots 194 = .ok (.goto (-133), 3) := by decide +kernel
theorem d_M_lots_197 : decode b_M_lots 197 = .ok (.iload 6, 2) := by decide +kernel
theorem d_M_lots_199 : decode b_M_lots 199 = .ok (.ireturn, 1) := by decide +kernel
theorem mo_M_lots : mok y_M_lots b_M_lots 10 (some .int) 2 := ⟨List.mem_of_getElem? (i := 1458) (by decide +kernel), ⟨by decide +kernel, by decide +kernel, by decide +kernel⟩, List.mem_of_getElem? (i := 86) (by decide +kernel), by decide⟩
set_option maxHeartbeats 4000000 in
theorem L_M_lots_61 {X : FX} {u : Un} (hA : Ap u) {Q : State → Prop} (F : Fr X u "TakerBookModel" b_M_lots 10) {σ : St} {n : Nat} {kd : Nat → Nat} (hb : mkOk σ n kd) {a : Nat} (ha : a < 64) (h0 : σ.1 76 0 = nI a) {D : Nat} (hD : σ.1 63 22 = nI D) {m s : Nat} (hm : D + m ≤ 40) (hs : s < 2147483647) (hn0 : 0 < n) (k0 : ∀ (i : Nat), (lmS σ kd n a D s i) = (lmS σ kd n a D s m) → (lmS σ kd n a D s i).2.2 = D + i → V X u 6 10 Q 197 [(0, .ref (u.2.1 63)), (6, .int (nI i))] [] ((lmS σ kd n a D s i).1)) : ∀ (nn : Nat) (i : Nat), i ≤ m → (lmS σ kd n a D s i).2.2 = D + i → m - i < nn → V X u 6 10 Q 61 [(0, .ref (u.2.1 63)), (1, .int (nI m)), (4, .long (lN (lotN s i))), (6, .int (nI i)), (7, .int (nI i))] [] ((lmS σ kd n a D s i).1) := by
  intro nn
  induction nn with
  | zero =>
    intro i hi hz h2
    exact absurd h2 (Nat.not_lt_zero _)
  | succ nn ih =>
    intro i hi hz hm
    obtain ⟨hn, hn6, hkd, hk6⟩ := id hb
    have hlt1 := lotN_lt hs (i + 1)
    have hlt := lotN_lt hs i
    have hla : lotA s n i < n := Nat.mod_lt _ hn0
    have hzb := (lm_P hb h0 ha hD (s := s) i).2.2.1
    refine v_iload F d_M_lots_61 4 rfl ?_
    refine v_iload_n F d_M_lots_63 rfl 1 rfl ?_
    refine v_icmp_ge F 197 d_M_lots_64 rfl (fun h64 => ?_) (fun h64 => ?_)
    · skip
      have h64 : m ≤ i := (nI_leI (a := m) (b := i) (by omega) (by omega)).mp h64
      refine v_sub [0, 3] (ls' := [(0, .ref (u.2.1 63)), (6, .int (nI i))]) rfl ?_
      exact k0 i (by first | (have e : i = m := (by omega); rw [e]; done) | (obtain ⟨d, rfl⟩ : ∃ d, m = i + d := ⟨m - i, by omega⟩; exact (lm_n (by assumption) d).symm)) hz
    · skip
      have h64 : ¬ m ≤ i := fun q => h64 ((nI_leI (a := m) (b := i) (by omega) (by omega)).mpr q)
      refine v_aload_n F d_M_lots_67 rfl 0 rfl ?_
      refine v_getr (r := 76) F fk_M_51 G63 rfl d_M_lots_68 ?_
      refine v_iconst (v := 4) F d_M_lots_71 ki_4 ?_
      refine v_ial F 4 G76 rfl (by omega) d_M_lots_72 ?_
      refine v_if_ne F 197 d_M_lots_73 rfl (fun h73 => ?_) (fun h73 => ?_)
      · skip
        refine v_sub [0, 3] (ls' := [(0, .ref (u.2.1 63)), (6, .int (nI i))]) rfl ?_
        exact k0 i (by first | (have e : i = m := (by omega); rw [e]; done) | (obtain ⟨d, rfl⟩ : ∃ d, m = i + d := ⟨m - i, by omega⟩; exact (lm_n (by assumption) d).symm)) hz
      · skip
        refine v_ldc2 (v := 48271) F kc_M_303 d_M_lots_76 ?_
        refine v_lload F d_M_lots_79 2 rfl ?_
        refine v_lmul F d_M_lots_81 ?_
        refine v_tl (y := (lN (lotN s i * 48271))) (by rw [Nat.mul_comm]; exact lN_mul 48271 _) ?_
        refine v_ldc2 (v := 2147483647) F kc_M_305 d_M_lots_82 ?_
        refine v_lrem F d_M_lots_85 (by decide) ?_
        refine v_tl (y := (lN (lotN s (i + 1)))) (lrem_N (by omega) (by decide) (by decide)) ?_
        refine v_lstore (ls' := [(4, .long (lN (lotN s (i + 1)))), (0, .ref (u.2.1 63)), (1, .int (nI m)), (6, .int (nI i)), (7, .int (nI i))]) F d_M_lots_86 (by decide) rfl ?_
        refine v_lload F d_M_lots_88 0 rfl ?_
        refine v_ldc2 (v := 4) F kc_M_307 d_M_lots_90 ?_
        refine v_lrem F d_M_lots_93 (by decide) ?_
        refine v_tl (y := (lN (lotN s (i + 1) % 4))) (lrem_N (by omega) (by decide) (by decide)) ?_
        refine v_l2i F d_M_lots_94 ?_
        refine v_te (y := nI (lotN s (i + 1) % 4)) (lN_i _) ?_
        refine v_istore (ls' := [(8, .int (nI (lotN s (i + 1) % 4))), (4, .long (lN (lotN s (i + 1)))), (0, .ref (u.2.1 63)), (1, .int (nI m)), (6, .int (nI i)), (7, .int (nI i))]) F d_M_lots_95 (by decide) rfl ?_
        refine v_lload F d_M_lots_97 1 rfl ?_
        refine v_ldc2 (v := 8) F kc_M_309 d_M_lots_99 ?_
        refine v_ldiv F d_M_lots_102 (by decide) ?_
        refine v_tl (y := (lN (lotN s (i + 1) / 8))) (ldiv_N (by omega) (by decide) (by decide)) ?_
        refine v_aload_n F d_M_lots_103 rfl 2 rfl ?_
        refine v_geti F fk_M_146 G63 rfl d_M_lots_104 ?_
        refine v_te (y := nI n) (lm_P hb h0 ha hD (s := s) i).1.1 ?_
        refine v_i2l F d_M_lots_107 ?_
        refine v_tl (y := (lN n)) (nI_l (by omega)) ?_
        refine v_lrem F d_M_lots_108 (lne0 (by omega) hn0) ?_
        refine v_tl (y := (lN (lotA s n i))) (lrem_N (by omega) (by omega) hn0) ?_
        refine v_l2i F d_M_lots_109 ?_
        refine v_te (y := nI (lotA s n i)) (lN_i _) ?_
        refine v_istore (ls' := [(9, .int (nI (lotA s n i))), (8, .int (nI (lotN s (i + 1) % 4))), (4, .long (lN (lotN s (i + 1)))), (0, .ref (u.2.1 63)), (1, .int (nI m)), (6, .int (nI i)), (7, .int (nI i))]) F d_M_lots_110 (by decide) rfl ?_
        refine v_aload_n F d_M_lots_112 rfl 3 rfl ?_
        refine v_runv (r_V F (c_M_remember X.2.1 u hA (lmS σ kd n a D s i).1 (D := (lmS σ kd n a D s i).2.2) (lm_P hb h0 ha hD (s := s) i).2.2.2.1 (by omega)) mo_M_remember st_M_201 rc_63 (by decide) rfl (Nat.le_of_ble_eq_true rfl) d_M_lots_113) (fun σ2 q3 => ?_)
        subst q3
        refine v_iinc (v := nI (i + 1)) (ls' := [(6, .int (nI (i + 1))), (9, .int (nI (lotA s n i))), (8, .int (nI (lotN s (i + 1) % 4))), (4, .long (lN (lotN s (i + 1)))), (0, .ref (u.2.1 63)), (1, .int (nI m)), (7, .int (nI i))]) F d_M_lots_116 (j := 5) rfl (nI_inc _) (by decide) rfl ?_
        refine v_iload F d_M_lots_119 2 rfl ?_
        refine v_iconst (v := 2) F d_M_lots_121 ki_2 ?_
        refine v_icmp_ne F 152 d_M_lots_122 rfl (fun h122 => ?_) (fun h122 => ?_)
        · skip
          have h122 : ¬ (lotN s (i + 1) % 4) = 2 := fun q => h122 ((nI_eq (a := (lotN s (i + 1) % 4)) (b := 2) (by omega) (by omega)).mpr q)
          refine v_iload F d_M_lots_152 2 rfl ?_
          refine v_iconst (v := 3) F d_M_lots_154 ki_3 ?_
          refine v_icmp_ne F 183 d_M_lots_155 rfl (fun h155 => ?_) (fun h155 => ?_)
          · skip
            have h155 : ¬ (lotN s (i + 1) % 4) = 3 := fun q => h155 ((nI_eq (a := (lotN s (i + 1) % 4)) (b := 3) (by omega) (by omega)).mpr q)
            refine v_aload_n F d_M_lots_183 rfl 4 rfl ?_
            refine v_aload_n F d_M_lots_184 rfl 4 rfl ?_
            refine v_getr (r := 76) F fk_M_51 G63 rfl d_M_lots_185 ?_
            refine v_runv (r_V F (c_M_passes X.2.1 u hA (rmM (lmS σ kd n a D s i).1 (lmS σ kd n a D s i).2.2) (rm_ok (lm_P hb h0 ha hD (s := s) i).1) (kO := 76) (Or.inl rfl) (lm_P hb h0 ha hD (s := s) i).2.2.1 (rm_0 (lm_P hb h0 ha hD (s := s) i).2.1)) mo_M_passes st_M_204 rc_63 (by decide) rfl (Nat.le_of_ble_eq_true rfl) d_M_lots_188) (fun σ5 q6 => ?_)
            subst q6
            refine v_iinc (v := nI (i + 1)) (ls' := [(7, .int (nI (i + 1))), (6, .int (nI (i + 1))), (9, .int (nI (lotA s n i))), (8, .int (nI (lotN s (i + 1) % 4))), (4, .long (lN (lotN s (i + 1)))), (0, .ref (u.2.1 63)), (1, .int (nI m))]) F d_M_lots_191 (j := 6) rfl (nI_inc _) (by decide) rfl ?_
            refine v_goto F 61 d_M_lots_194 rfl ?_
            have eZ := lm_y (s := s) h73
            refine v_sub [5, 6, 4, 1, 0] (ls' := [(0, .ref (u.2.1 63)), (1, .int (nI m)), (4, .long (lN (lotN s (i + 1)))), (6, .int (nI (i + 1))), (7, .int (nI (i + 1)))]) rfl ?_
            refine v_st (show (paM (rmM (lmS σ kd n a D s i).1 (lmS σ kd n a D s i).2.2) 76 kd n (lmS σ kd n a D s i).2.1) = (lmS σ kd n a D s (i + 1)).1 from (by first | rfl | (rw [eZ]; subst_vars; first | (rw [show (lmW (rmM (lmS σ kd n a D s i).1 (lmS σ kd n a D s i).2.2) (lmS σ kd n a D s i).2.1 (lotN s (i + 1) % 4) (lotA s n i)) = 3 from if_pos ⟨by assumption, by assumption⟩]; rfl) | (rw [show (lmW (rmM (lmS σ kd n a D s i).1 (lmS σ kd n a D s i).2.2) (lmS σ kd n a D s i).2.1 (lotN s (i + 1) % 4) (lotA s n i)) = 2 from (if_neg (fun q => by first | exact absurd q.1 (by omega) | exact absurd q.2 (by assumption))).trans (if_pos ⟨by assumption, by assumption⟩)]; rfl) | (rw [show (lmW (rmM (lmS σ kd n a D s i).1 (lmS σ kd n a D s i).2.2) (lmS σ kd n a D s i).2.1 (lotN s (i + 1) % 4) (lotA s n i)) = 0 from (if_neg (fun q => by first | exact absurd q.1 (by assumption) | exact absurd q.2 (by assumption))).trans (if_neg (fun q => by first | exact absurd q.1 (by assumption) | exact absurd q.2 (by assumption) | omega))]; rfl)))) ?_
            exact ih (i + 1) (by omega) (by rw [lm_y h73]; show _ + 1 = _; omega) (by omega)
          · skip
            have h155 : (lotN s (i + 1) % 4) = 3 := (nI_eq (a := (lotN s (i + 1) % 4)) (b := 3) (by omega) (by omega)).mp h155
            refine v_aload_n F d_M_lots_158 rfl 4 rfl ?_
            refine v_iload F d_M_lots_159 1 rfl ?_
            refine v_runi (r_V F (c_M_canCross X.2.1 u hA (rmM (lmS σ kd n a D s i).1 (lmS σ kd n a D s i).2.2) (a := (lmS σ kd n a D s i).2.1) (lm_P hb h0 ha hD (s := s) i).2.2.1 (rm_0 (lm_P hb h0 ha hD (s := s) i).2.1) (lotA s n i) (by omega)) mo_M_canCross st_M_208 rc_63 (by decide) rfl (Nat.le_of_ble_eq_true rfl) d_M_lots_161) (fun r7 σ8 q9 => ?_)
            obtain ⟨rfl, rfl⟩ := q9
            refine v_bt F 183 d_M_lots_164 rfl (fun h164 => ?_) (fun h164 => ?_)
            · skip
              refine v_aload_n F d_M_lots_183 rfl 4 rfl ?_
              refine v_aload_n F d_M_lots_184 rfl 4 rfl ?_
              refine v_getr (r := 76) F fk_M_51 G63 rfl d_M_lots_185 ?_
              refine v_runv (r_V F (c_M_passes X.2.1 u hA (rmM (lmS σ kd n a D s i).1 (lmS σ kd n a D s i).2.2) (rm_ok (lm_P hb h0 ha hD (s := s) i).1) (kO := 76) (Or.inl rfl) (lm_P hb h0 ha hD (s := s) i).2.2.1 (rm_0 (lm_P hb h0 ha hD (s := s) i).2.1)) mo_M_passes st_M_204 rc_63 (by decide) rfl (Nat.le_of_ble_eq_true rfl) d_M_lots_188) (fun σ11 q12 => ?_)
              subst q12
              refine v_iinc (v := nI (i + 1)) (ls' := [(7, .int (nI (i + 1))), (6, .int (nI (i + 1))), (9, .int (nI (lotA s n i))), (8, .int (nI (lotN s (i + 1) % 4))), (4, .long (lN (lotN s (i + 1)))), (0, .ref (u.2.1 63)), (1, .int (nI m))]) F d_M_lots_191 (j := 6) rfl (nI_inc _) (by decide) rfl ?_
              refine v_goto F 61 d_M_lots_194 rfl ?_
              have eZ := lm_y (s := s) h73
              refine v_sub [5, 6, 4, 1, 0] (ls' := [(0, .ref (u.2.1 63)), (1, .int (nI m)), (4, .long (lN (lotN s (i + 1)))), (6, .int (nI (i + 1))), (7, .int (nI (i + 1)))]) rfl ?_
              refine v_st (show (paM (rmM (lmS σ kd n a D s i).1 (lmS σ kd n a D s i).2.2) 76 kd n (lmS σ kd n a D s i).2.1) = (lmS σ kd n a D s (i + 1)).1 from (by first | rfl | (rw [eZ]; subst_vars; first | (rw [show (lmW (rmM (lmS σ kd n a D s i).1 (lmS σ kd n a D s i).2.2) (lmS σ kd n a D s i).2.1 (lotN s (i + 1) % 4) (lotA s n i)) = 3 from if_pos ⟨by assumption, by assumption⟩]; rfl) | (rw [show (lmW (rmM (lmS σ kd n a D s i).1 (lmS σ kd n a D s i).2.2) (lmS σ kd n a D s i).2.1 (lotN s (i + 1) % 4) (lotA s n i)) = 2 from (if_neg (fun q => by first | exact absurd q.1 (by omega) | exact absurd q.2 (by assumption))).trans (if_pos ⟨by assumption, by assumption⟩)]; rfl) | (rw [show (lmW (rmM (lmS σ kd n a D s i).1 (lmS σ kd n a D s i).2.2) (lmS σ kd n a D s i).2.1 (lotN s (i + 1) % 4) (lotA s n i)) = 0 from (if_neg (fun q => by first | exact absurd q.1 (by assumption) | exact absurd q.2 (by assumption))).trans (if_neg (fun q => by first | exact absurd q.1 (by assumption) | exact absurd q.2 (by assumption) | omega))]; rfl)))) ?_
              exact ih (i + 1) (by omega) (by rw [lm_y h73]; show _ + 1 = _; omega) (by omega)
            · skip
              refine v_aload_n F d_M_lots_167 rfl 4 rfl ?_
              refine v_getr (r := 76) F fk_M_51 G63 rfl d_M_lots_168 ?_
              refine v_iconst (v := 5) F d_M_lots_171 ki_5 ?_
              refine v_iload F d_M_lots_172 1 rfl ?_
              refine v_iadd F d_M_lots_174 ?_
              refine v_te (y := nI (5 + lotA s n i)) (nI_add _ _) ?_
              refine v_dup2_11 F d_M_lots_175 rfl rfl ?_
              refine v_ial F (5 + lotA s n i) G76 rfl (by omega) d_M_lots_176 ?_
              refine v_iconst (v := 1) F d_M_lots_177 ki_1 ?_
              refine v_iadd F d_M_lots_178 ?_
              refine v_ias F (5 + lotA s n i) G76 rfl (by omega) d_M_lots_179 ?_
              refine v_ns (fun σ13 eσ13 => ?_)
              refine v_goto F 191 d_M_lots_180 rfl ?_
              refine v_iinc (v := nI (i + 1)) (ls' := [(7, .int (nI (i + 1))), (6, .int (nI (i + 1))), (9, .int (nI (lotA s n i))), (8, .int (nI (lotN s (i + 1) % 4))), (4, .long (lN (lotN s (i + 1)))), (0, .ref (u.2.1 63)), (1, .int (nI m))]) F d_M_lots_191 (j := 6) rfl (nI_inc _) (by decide) rfl ?_
              refine v_goto F 61 d_M_lots_194 rfl ?_
              have eZ := lm_y (s := s) h73
              refine v_sub [5, 6, 4, 1, 0] (ls' := [(0, .ref (u.2.1 63)), (1, .int (nI m)), (4, .long (lN (lotN s (i + 1)))), (6, .int (nI (i + 1))), (7, .int (nI (i + 1)))]) rfl ?_
              refine v_st (show σ13 = (lmS σ kd n a D s (i + 1)).1 from (by first | rfl | (rw [eZ]; subst_vars; first | (rw [show (lmW (rmM (lmS σ kd n a D s i).1 (lmS σ kd n a D s i).2.2) (lmS σ kd n a D s i).2.1 (lotN s (i + 1) % 4) (lotA s n i)) = 3 from if_pos ⟨by assumption, by assumption⟩]; rfl) | (rw [show (lmW (rmM (lmS σ kd n a D s i).1 (lmS σ kd n a D s i).2.2) (lmS σ kd n a D s i).2.1 (lotN s (i + 1) % 4) (lotA s n i)) = 2 from (if_neg (fun q => by first | exact absurd q.1 (by omega) | exact absurd q.2 (by assumption))).trans (if_pos ⟨by assumption, by assumption⟩)]; rfl) | (rw [show (lmW (rmM (lmS σ kd n a D s i).1 (lmS σ kd n a D s i).2.2) (lmS σ kd n a D s i).2.1 (lotN s (i + 1) % 4) (lotA s n i)) = 0 from (if_neg (fun q => by first | exact absurd q.1 (by assumption) | exact absurd q.2 (by assumption))).trans (if_neg (fun q => by first | exact absurd q.1 (by assumption) | exact absurd q.2 (by assumption) | omega))]; rfl)))) ?_
              exact ih (i + 1) (by omega) (by rw [lm_y h73]; show _ + 1 = _; omega) (by omega)
        · skip
          have h122 : (lotN s (i + 1) % 4) = 2 := (nI_eq (a := (lotN s (i + 1) % 4)) (b := 2) (by omega) (by omega)).mp h122
          refine v_aload_n F d_M_lots_125 rfl 4 rfl ?_
          refine v_getr (r := 76) F fk_M_51 G63 rfl d_M_lots_126 ?_
          refine v_iconst (v := 0) F d_M_lots_129 ki_0 ?_
          refine v_ial F 0 G76 rfl (by omega) d_M_lots_130 ?_
          refine v_te (y := nI (lmS σ kd n a D s i).2.1) (rm_0 (lm_P hb h0 ha hD (s := s) i).2.1) ?_
          refine v_iload F d_M_lots_131 1 rfl ?_
          refine v_runi (r_S F (c_M_has2 X.2.1 u hA (rmM (lmS σ kd n a D s i).1 (lmS σ kd n a D s i).2.2) (lotA s n i) ((lmS σ kd n a D s i).2.1) (by omega) (by omega)) mo_M_has st_M_155 (by decide) rfl (Nat.le_of_ble_eq_true rfl) d_M_lots_133) (fun r14 σ15 q16 => ?_)
          obtain ⟨rfl, rfl⟩ := q16
          refine v_bt F 152 d_M_lots_136 rfl (fun h136 => ?_) (fun h136 => ?_)
          · skip
            refine v_iload F d_M_lots_152 2 rfl ?_
            refine v_iconst (v := 3) F d_M_lots_154 ki_3 ?_
            refine v_icmp_ne F 183 d_M_lots_155 rfl (fun h155 => ?_) (fun h155 => ?_)
            · skip
              have h155 : ¬ (lotN s (i + 1) % 4) = 3 := fun q => h155 ((nI_eq (a := (lotN s (i + 1) % 4)) (b := 3) (by omega) (by omega)).mpr q)
              refine v_aload_n F d_M_lots_183 rfl 4 rfl ?_
              refine v_aload_n F d_M_lots_184 rfl 4 rfl ?_
              refine v_getr (r := 76) F fk_M_51 G63 rfl d_M_lots_185 ?_
              refine v_runv (r_V F (c_M_passes X.2.1 u hA (rmM (lmS σ kd n a D s i).1 (lmS σ kd n a D s i).2.2) (rm_ok (lm_P hb h0 ha hD (s := s) i).1) (kO := 76) (Or.inl rfl) (lm_P hb h0 ha hD (s := s) i).2.2.1 (rm_0 (lm_P hb h0 ha hD (s := s) i).2.1)) mo_M_passes st_M_204 rc_63 (by decide) rfl (Nat.le_of_ble_eq_true rfl) d_M_lots_188) (fun σ18 q19 => ?_)
              subst q19
              refine v_iinc (v := nI (i + 1)) (ls' := [(7, .int (nI (i + 1))), (6, .int (nI (i + 1))), (9, .int (nI (lotA s n i))), (8, .int (nI (lotN s (i + 1) % 4))), (4, .long (lN (lotN s (i + 1)))), (0, .ref (u.2.1 63)), (1, .int (nI m))]) F d_M_lots_191 (j := 6) rfl (nI_inc _) (by decide) rfl ?_
              refine v_goto F 61 d_M_lots_194 rfl ?_
              have eZ := lm_y (s := s) h73
              refine v_sub [5, 6, 4, 1, 0] (ls' := [(0, .ref (u.2.1 63)), (1, .int (nI m)), (4, .long (lN (lotN s (i + 1)))), (6, .int (nI (i + 1))), (7, .int (nI (i + 1)))]) rfl ?_
              refine v_st (show (paM (rmM (lmS σ kd n a D s i).1 (lmS σ kd n a D s i).2.2) 76 kd n (lmS σ kd n a D s i).2.1) = (lmS σ kd n a D s (i + 1)).1 from (by first | rfl | (rw [eZ]; subst_vars; first | (rw [show (lmW (rmM (lmS σ kd n a D s i).1 (lmS σ kd n a D s i).2.2) (lmS σ kd n a D s i).2.1 (lotN s (i + 1) % 4) (lotA s n i)) = 3 from if_pos ⟨by assumption, by assumption⟩]; rfl) | (rw [show (lmW (rmM (lmS σ kd n a D s i).1 (lmS σ kd n a D s i).2.2) (lmS σ kd n a D s i).2.1 (lotN s (i + 1) % 4) (lotA s n i)) = 2 from (if_neg (fun q => by first | exact absurd q.1 (by omega) | exact absurd q.2 (by assumption))).trans (if_pos ⟨by assumption, by assumption⟩)]; rfl) | (rw [show (lmW (rmM (lmS σ kd n a D s i).1 (lmS σ kd n a D s i).2.2) (lmS σ kd n a D s i).2.1 (lotN s (i + 1) % 4) (lotA s n i)) = 0 from (if_neg (fun q => by first | exact absurd q.1 (by assumption) | exact absurd q.2 (by assumption))).trans (if_neg (fun q => by first | exact absurd q.1 (by assumption) | exact absurd q.2 (by assumption) | omega))]; rfl)))) ?_
              exact ih (i + 1) (by omega) (by rw [lm_y h73]; show _ + 1 = _; omega) (by omega)
            · skip
              have h155 : (lotN s (i + 1) % 4) = 3 := (nI_eq (a := (lotN s (i + 1) % 4)) (b := 3) (by omega) (by omega)).mp h155
              refine v_aload_n F d_M_lots_158 rfl 4 rfl ?_
              refine v_iload F d_M_lots_159 1 rfl ?_
              refine v_runi (r_V F (c_M_canCross X.2.1 u hA (rmM (lmS σ kd n a D s i).1 (lmS σ kd n a D s i).2.2) (a := (lmS σ kd n a D s i).2.1) (lm_P hb h0 ha hD (s := s) i).2.2.1 (rm_0 (lm_P hb h0 ha hD (s := s) i).2.1) (lotA s n i) (by omega)) mo_M_canCross st_M_208 rc_63 (by decide) rfl (Nat.le_of_ble_eq_true rfl) d_M_lots_161) (fun r20 σ21 q22 => ?_)
              obtain ⟨rfl, rfl⟩ := q22
              refine v_bt F 183 d_M_lots_164 rfl (fun h164 => ?_) (fun h164 => ?_)
              · skip
                refine v_aload_n F d_M_lots_183 rfl 4 rfl ?_
                refine v_aload_n F d_M_lots_184 rfl 4 rfl ?_
                refine v_getr (r := 76) F fk_M_51 G63 rfl d_M_lots_185 ?_
                refine v_runv (r_V F (c_M_passes X.2.1 u hA (rmM (lmS σ kd n a D s i).1 (lmS σ kd n a D s i).2.2) (rm_ok (lm_P hb h0 ha hD (s := s) i).1) (kO := 76) (Or.inl rfl) (lm_P hb h0 ha hD (s := s) i).2.2.1 (rm_0 (lm_P hb h0 ha hD (s := s) i).2.1)) mo_M_passes st_M_204 rc_63 (by decide) rfl (Nat.le_of_ble_eq_true rfl) d_M_lots_188) (fun σ24 q25 => ?_)
                subst q25
                refine v_iinc (v := nI (i + 1)) (ls' := [(7, .int (nI (i + 1))), (6, .int (nI (i + 1))), (9, .int (nI (lotA s n i))), (8, .int (nI (lotN s (i + 1) % 4))), (4, .long (lN (lotN s (i + 1)))), (0, .ref (u.2.1 63)), (1, .int (nI m))]) F d_M_lots_191 (j := 6) rfl (nI_inc _) (by decide) rfl ?_
                refine v_goto F 61 d_M_lots_194 rfl ?_
                have eZ := lm_y (s := s) h73
                refine v_sub [5, 6, 4, 1, 0] (ls' := [(0, .ref (u.2.1 63)), (1, .int (nI m)), (4, .long (lN (lotN s (i + 1)))), (6, .int (nI (i + 1))), (7, .int (nI (i + 1)))]) rfl ?_
                refine v_st (show (paM (rmM (lmS σ kd n a D s i).1 (lmS σ kd n a D s i).2.2) 76 kd n (lmS σ kd n a D s i).2.1) = (lmS σ kd n a D s (i + 1)).1 from (by first | rfl | (rw [eZ]; subst_vars; first | (rw [show (lmW (rmM (lmS σ kd n a D s i).1 (lmS σ kd n a D s i).2.2) (lmS σ kd n a D s i).2.1 (lotN s (i + 1) % 4) (lotA s n i)) = 3 from if_pos ⟨by assumption, by assumption⟩]; rfl) | (rw [show (lmW (rmM (lmS σ kd n a D s i).1 (lmS σ kd n a D s i).2.2) (lmS σ kd n a D s i).2.1 (lotN s (i + 1) % 4) (lotA s n i)) = 2 from (if_neg (fun q => by first | exact absurd q.1 (by omega) | exact absurd q.2 (by assumption))).trans (if_pos ⟨by assumption, by assumption⟩)]; rfl) | (rw [show (lmW (rmM (lmS σ kd n a D s i).1 (lmS σ kd n a D s i).2.2) (lmS σ kd n a D s i).2.1 (lotN s (i + 1) % 4) (lotA s n i)) = 0 from (if_neg (fun q => by first | exact absurd q.1 (by assumption) | exact absurd q.2 (by assumption))).trans (if_neg (fun q => by first | exact absurd q.1 (by assumption) | exact absurd q.2 (by assumption) | omega))]; rfl)))) ?_
                exact ih (i + 1) (by omega) (by rw [lm_y h73]; show _ + 1 = _; omega) (by omega)
              · skip
                refine v_aload_n F d_M_lots_167 rfl 4 rfl ?_
                refine v_getr (r := 76) F fk_M_51 G63 rfl d_M_lots_168 ?_
                refine v_iconst (v := 5) F d_M_lots_171 ki_5 ?_
                refine v_iload F d_M_lots_172 1 rfl ?_
                refine v_iadd F d_M_lots_174 ?_
                refine v_te (y := nI (5 + lotA s n i)) (nI_add _ _) ?_
                refine v_dup2_11 F d_M_lots_175 rfl rfl ?_
                refine v_ial F (5 + lotA s n i) G76 rfl (by omega) d_M_lots_176 ?_
                refine v_iconst (v := 1) F d_M_lots_177 ki_1 ?_
                refine v_iadd F d_M_lots_178 ?_
                refine v_ias F (5 + lotA s n i) G76 rfl (by omega) d_M_lots_179 ?_
                refine v_ns (fun σ26 eσ26 => ?_)
                refine v_goto F 191 d_M_lots_180 rfl ?_
                refine v_iinc (v := nI (i + 1)) (ls' := [(7, .int (nI (i + 1))), (6, .int (nI (i + 1))), (9, .int (nI (lotA s n i))), (8, .int (nI (lotN s (i + 1) % 4))), (4, .long (lN (lotN s (i + 1)))), (0, .ref (u.2.1 63)), (1, .int (nI m))]) F d_M_lots_191 (j := 6) rfl (nI_inc _) (by decide) rfl ?_
                refine v_goto F 61 d_M_lots_194 rfl ?_
                have eZ := lm_y (s := s) h73
                refine v_sub [5, 6, 4, 1, 0] (ls' := [(0, .ref (u.2.1 63)), (1, .int (nI m)), (4, .long (lN (lotN s (i + 1)))), (6, .int (nI (i + 1))), (7, .int (nI (i + 1)))]) rfl ?_
                refine v_st (show σ26 = (lmS σ kd n a D s (i + 1)).1 from (by first | rfl | (rw [eZ]; subst_vars; first | (rw [show (lmW (rmM (lmS σ kd n a D s i).1 (lmS σ kd n a D s i).2.2) (lmS σ kd n a D s i).2.1 (lotN s (i + 1) % 4) (lotA s n i)) = 3 from if_pos ⟨by assumption, by assumption⟩]; rfl) | (rw [show (lmW (rmM (lmS σ kd n a D s i).1 (lmS σ kd n a D s i).2.2) (lmS σ kd n a D s i).2.1 (lotN s (i + 1) % 4) (lotA s n i)) = 2 from (if_neg (fun q => by first | exact absurd q.1 (by omega) | exact absurd q.2 (by assumption))).trans (if_pos ⟨by assumption, by assumption⟩)]; rfl) | (rw [show (lmW (rmM (lmS σ kd n a D s i).1 (lmS σ kd n a D s i).2.2) (lmS σ kd n a D s i).2.1 (lotN s (i + 1) % 4) (lotA s n i)) = 0 from (if_neg (fun q => by first | exact absurd q.1 (by assumption) | exact absurd q.2 (by assumption))).trans (if_neg (fun q => by first | exact absurd q.1 (by assumption) | exact absurd q.2 (by assumption) | omega))]; rfl)))) ?_
                exact ih (i + 1) (by omega) (by rw [lm_y h73]; show _ + 1 = _; omega) (by omega)
          · skip
            refine v_aload_n F d_M_lots_139 rfl 4 rfl ?_
            refine v_aload_n F d_M_lots_140 rfl 4 rfl ?_
            refine v_getr (r := 76) F fk_M_51 G63 rfl d_M_lots_141 ?_
            refine v_iload F d_M_lots_144 1 rfl ?_
            refine v_runv (r_V F (c_M_givesUp X.2.1 u hA (rmM (lmS σ kd n a D s i).1 (lmS σ kd n a D s i).2.2) (rm_ok (lm_P hb h0 ha hD (s := s) i).1) (kO := 76) (Or.inl rfl) (lm_P hb h0 ha hD (s := s) i).2.2.1 (rm_0 (lm_P hb h0 ha hD (s := s) i).2.1) (lotA s n i) (by omega)) mo_M_givesUp st_M_211 rc_63 (by decide) rfl (Nat.le_of_ble_eq_true rfl) d_M_lots_146) (fun σ28 q29 => ?_)
            subst q29
            refine v_goto F 191 d_M_lots_149 rfl ?_
            refine v_iinc (v := nI (i + 1)) (ls' := [(7, .int (nI (i + 1))), (6, .int (nI (i + 1))), (9, .int (nI (lotA s n i))), (8, .int (nI (lotN s (i + 1) % 4))), (4, .long (lN (lotN s (i + 1)))), (0, .ref (u.2.1 63)), (1, .int (nI m))]) F d_M_lots_191 (j := 6) rfl (nI_inc _) (by decide) rfl ?_
            refine v_goto F 61 d_M_lots_194 rfl ?_
            have eZ := lm_y (s := s) h73
            refine v_sub [5, 6, 4, 1, 0] (ls' := [(0, .ref (u.2.1 63)), (1, .int (nI m)), (4, .long (lN (lotN s (i + 1)))), (6, .int (nI (i + 1))), (7, .int (nI (i + 1)))]) rfl ?_
            refine v_st (show (guM (rmM (lmS σ kd n a D s i).1 (lmS σ kd n a D s i).2.2) 76 kd (lmS σ kd n a D s i).2.1 (lotA s n i)) = (lmS σ kd n a D s (i + 1)).1 from (by first | rfl | (rw [eZ]; subst_vars; first | (rw [show (lmW (rmM (lmS σ kd n a D s i).1 (lmS σ kd n a D s i).2.2) (lmS σ kd n a D s i).2.1 (lotN s (i + 1) % 4) (lotA s n i)) = 3 from if_pos ⟨by assumption, by assumption⟩]; rfl) | (rw [show (lmW (rmM (lmS σ kd n a D s i).1 (lmS σ kd n a D s i).2.2) (lmS σ kd n a D s i).2.1 (lotN s (i + 1) % 4) (lotA s n i)) = 2 from (if_neg (fun q => by first | exact absurd q.1 (by omega) | exact absurd q.2 (by assumption))).trans (if_pos ⟨by assumption, by assumption⟩)]; rfl) | (rw [show (lmW (rmM (lmS σ kd n a D s i).1 (lmS σ kd n a D s i).2.2) (lmS σ kd n a D s i).2.1 (lotN s (i + 1) % 4) (lotA s n i)) = 0 from (if_neg (fun q => by first | exact absurd q.1 (by assumption) | exact absurd q.2 (by assumption))).trans (if_neg (fun q => by first | exact absurd q.1 (by assumption) | exact absurd q.2 (by assumption) | omega))]; rfl)))) ?_
            exact ih (i + 1) (by omega) (by rw [lm_y h73]; show _ + 1 = _; omega) (by omega)
set_option maxHeartbeats 4000000 in
theorem c_M_lots (l : Launch) (u : Un) (hA : Ap u) (σ : St) {n : Nat} {kd : Nat → Nat} (hb : mkOk σ n kd) {a : Nat} (ha : a < 64) (h0 : σ.1 76 0 = nI a) {D : Nat} (hD : σ.1 63 22 = nI D) (hD40 : D ≤ 40) (m seed : Int32) : MTi l u y_M_lots b_M_lots 10 .int 6 [.ref (u.2.1 63), .int m, .int seed] σ (fun ans σ' => (ans, σ') = mLots σ kd n a D m seed) := by
  refine MT_of hA rfl (by decide) (Nat.le_of_ble_eq_true rfl) (fun X hl F hr => ?_)
  subst hl
  refine v_to (ls' := [(0, .ref (u.2.1 63)), (1, .int m), (2, .int seed)]) rfl ?_
  obtain ⟨hn, hn6, hkd, hk6⟩ := id hb
  refine v_aload_n F d_M_lots_0 rfl 0 rfl ?_
  refine v_iload_n F d_M_lots_1 rfl 1 rfl ?_
  refine v_iconst (v := 1) F d_M_lots_2 ki_1 ?_
  refine v_bipush (v := 20) F d_M_lots_3 kb_20 ?_
  refine v_runi (r_S F (c_M_in X.2.1 u hA σ m 1 20 ) mo_M_in st_M_89 (by decide) rfl (Nat.le_of_ble_eq_true rfl) d_M_lots_5) (fun r1 σ2 q3 => ?_)
  obtain ⟨rfl, rfl⟩ := q3
  refine v_bt F 26 d_M_lots_8 rfl (fun h8 => ?_) (fun h8 => ?_)
  · skip
    refine v_iconst (v := 0) F d_M_lots_26 ki_0 ?_
    refine v_te (y := bI False) rfl ?_
    refine v_runi (r_V F (c_M_needPlan X.2.1 u hA σ hb (False)) mo_M_needPlan st_M_239 rc_63 (by decide) rfl (Nat.le_of_ble_eq_true rfl) d_M_lots_27) (fun r4 σ5 q6 => ?_)
    rcases q6 with ⟨a1, rfl, rfl⟩ | ⟨a1, a2, rfl, rfl⟩ | ⟨a1, a2, rfl, rfl⟩
    · skip
      refine v_istore_n (ls' := [(3, .int (-1)), (0, .ref (u.2.1 63)), (1, .int m), (2, .int seed)]) F d_M_lots_30 rfl (by decide) rfl ?_
      refine v_iload_n F d_M_lots_31 rfl 0 rfl ?_
      refine v_if_ge F 37 d_M_lots_32 rfl (fun h => absurd h (by decide)) (fun _ => ?_)
      refine v_iload_n F d_M_lots_35 rfl 0 rfl ?_
      refine v_iret F hr rfl d_M_lots_36 ?_
      unfold mLots
      first | (rw [if_pos (fun q => by first | exact absurd q.1 (by assumption) | exact absurd q.2 (by assumption))]; done) | (rw [if_neg (fun q => q ⟨by assumption, by assumption⟩), if_pos (by assumption)]; done) | (rw [if_neg (fun q => q ⟨by assumption, by assumption⟩), if_neg (by assumption), xm, if_pos (by omega)]; done)
    · exact absurd a1 id
    · exact absurd a1 id
  · skip
    obtain ⟨m, hm, xm, rfl⟩ := nat_of (M := 20) (one_le h8.1) h8.2 rfl (by decide)
    refine v_iload_n F d_M_lots_11 rfl 2 rfl ?_
    refine v_iconst (v := 1) F d_M_lots_12 ki_1 ?_
    refine v_ldcw (v := 2147483646) F kc_M_302 d_M_lots_13 ?_
    refine v_runi (r_S F (c_M_in X.2.1 u hA σ seed 1 2147483646 ) mo_M_in st_M_89 (by decide) rfl (Nat.le_of_ble_eq_true rfl) d_M_lots_16) (fun r7 σ8 q9 => ?_)
    obtain ⟨rfl, rfl⟩ := q9
    refine v_bt F 26 d_M_lots_19 rfl (fun h19 => ?_) (fun h19 => ?_)
    · skip
      refine v_iconst (v := 0) F d_M_lots_26 ki_0 ?_
      refine v_te (y := bI False) rfl ?_
      refine v_runi (r_V F (c_M_needPlan X.2.1 u hA σ hb (False)) mo_M_needPlan st_M_239 rc_63 (by decide) rfl (Nat.le_of_ble_eq_true rfl) d_M_lots_27) (fun r10 σ11 q12 => ?_)
      rcases q12 with ⟨a1, rfl, rfl⟩ | ⟨a1, a2, rfl, rfl⟩ | ⟨a1, a2, rfl, rfl⟩
      · skip
        refine v_istore_n (ls' := [(3, .int (-1)), (0, .ref (u.2.1 63)), (1, .int (nI m)), (2, .int seed)]) F d_M_lots_30 rfl (by decide) rfl ?_
        refine v_iload_n F d_M_lots_31 rfl 0 rfl ?_
        refine v_if_ge F 37 d_M_lots_32 rfl (fun h => absurd h (by decide)) (fun _ => ?_)
        refine v_iload_n F d_M_lots_35 rfl 0 rfl ?_
        refine v_iret F hr rfl d_M_lots_36 ?_
        unfold mLots
        first | (rw [if_pos (fun q => by first | exact absurd q.1 (by assumption) | exact absurd q.2 (by assumption))]; done) | (rw [if_neg (fun q => q ⟨by assumption, by assumption⟩), if_pos (by assumption)]; done) | (rw [if_neg (fun q => q ⟨by assumption, by assumption⟩), if_neg (by assumption), xm, if_pos (by omega)]; done)
      · exact absurd a1 id
      · exact absurd a1 id
    · skip
      obtain ⟨s, hs0, xs, rfl⟩ := nat_of (M := 2147483646) (one_le h19.1) h19.2 rfl (by decide)
      have hs : s < 2147483647 := by omega
      refine v_iconst (v := 1) F d_M_lots_22 ki_1 ?_
      refine v_goto F 27 d_M_lots_23 rfl ?_
      refine v_te (y := bI True) rfl ?_
      refine v_runi (r_V F (c_M_needPlan X.2.1 u hA σ hb (True)) mo_M_needPlan st_M_239 rc_63 (by decide) rfl (Nat.le_of_ble_eq_true rfl) d_M_lots_27) (fun r13 σ14 q15 => ?_)
      rcases q15 with ⟨a1, rfl, rfl⟩ | ⟨a1, a2, rfl, rfl⟩ | ⟨a1, a2, rfl, rfl⟩
      · exact absurd trivial a1
      · skip
        refine v_istore_n (ls' := [(3, .int (-4)), (0, .ref (u.2.1 63)), (1, .int (nI m)), (2, .int (nI s))]) F d_M_lots_30 rfl (by decide) rfl ?_
        refine v_iload_n F d_M_lots_31 rfl 0 rfl ?_
        refine v_if_ge F 37 d_M_lots_32 rfl (fun h => absurd h (by decide)) (fun _ => ?_)
        refine v_iload_n F d_M_lots_35 rfl 0 rfl ?_
        refine v_iret F hr rfl d_M_lots_36 ?_
        unfold mLots
        first | (rw [if_pos (fun q => by first | exact absurd q.1 (by assumption) | exact absurd q.2 (by assumption))]; done) | (rw [if_neg (fun q => q ⟨by assumption, by assumption⟩), if_pos (by assumption)]; done) | (rw [if_neg (fun q => q ⟨by assumption, by assumption⟩), if_neg (by assumption), xm, if_pos (by omega)]; done)
      · skip
        refine v_istore_n (ls' := [(3, .int 0), (0, .ref (u.2.1 63)), (1, .int (nI m)), (2, .int (nI s))]) F d_M_lots_30 rfl (by decide) rfl ?_
        refine v_iload_n F d_M_lots_31 rfl 0 rfl ?_
        refine v_if_ge F 37 d_M_lots_32 rfl (fun _ => ?_) (fun h => absurd (by decide) h)
        have hn0 : 0 < n := Nat.pos_of_ne_zero (fun e => a2 (Or.inl e))
        refine v_aload_n F d_M_lots_37 rfl 1 rfl ?_
        refine v_geti F fk_M_149 G63 rfl d_M_lots_38 ?_
        refine v_te (y := nI D) hD ?_
        refine v_iload_n F d_M_lots_41 rfl 2 rfl ?_
        refine v_iadd F d_M_lots_42 ?_
        refine v_te (y := nI (D + m)) (nI_add _ _) ?_
        refine v_bipush (v := 40) F d_M_lots_43 kb_40 ?_
        refine v_icmp_le F 51 d_M_lots_45 rfl (fun h45 => ?_) (fun h45 => ?_)
        · skip
          have h45 : D + m ≤ 40 := (nI_leI (a := D + m) (b := 40) (by omega) (by omega)).mp h45
          refine v_iload_n F d_M_lots_51 rfl 3 rfl ?_
          refine v_i2l F d_M_lots_52 ?_
          refine v_tl (y := (lN s)) (nI_l (by omega)) ?_
          refine v_lstore (ls' := [(4, .long (lN s)), (3, .int 0), (0, .ref (u.2.1 63)), (1, .int (nI m)), (2, .int (nI s))]) F d_M_lots_53 (by decide) rfl ?_
          refine v_iconst (v := 0) F d_M_lots_55 ki_0 ?_
          refine v_istore (ls' := [(6, .int 0), (4, .long (lN s)), (3, .int 0), (0, .ref (u.2.1 63)), (1, .int (nI m)), (2, .int (nI s))]) F d_M_lots_56 (by decide) rfl ?_
          refine v_iconst (v := 0) F d_M_lots_58 ki_0 ?_
          refine v_istore (ls' := [(7, .int 0), (6, .int 0), (4, .long (lN s)), (3, .int 0), (0, .ref (u.2.1 63)), (1, .int (nI m)), (2, .int (nI s))]) F d_M_lots_59 (by decide) rfl ?_
          refine v_sub [4, 5, 2, 1, 0] (ls' := [(0, .ref (u.2.1 63)), (1, .int (nI m)), (4, .long (lN s)), (6, .int 0), (7, .int 0)]) rfl ?_
          have g16 : (lN s) = (lN (lotN s 0)) := (by first | rfl | (simp_all; done) | grind)
          have g17 : 0 = (nI 0) := (by first | rfl | (simp_all; done) | grind)
          have g18 : 0 = (nI 0) := (by first | rfl | (simp_all; done) | grind)
          refine v_to (ls' := [(0, .ref (u.2.1 63)), (1, .int (nI m)), (4, .long (lN (lotN s 0))), (6, .int (nI 0)), (7, .int (nI 0))]) (by first | rfl | rw [g16, g17, g18] | simp_all) ?_
          refine v_st (show σ = (lmS σ kd n a D s 0).1 from rfl) ?_
          refine L_M_lots_61 hA F hb ha h0 hD (by omega) hs hn0 (fun i hE hz => ?_) _ 0 (Nat.zero_le _) rfl (Nat.lt_succ_self _)
          refine v_iload F d_M_lots_197 1 rfl ?_
          refine v_iret F hr rfl d_M_lots_199 ?_
          unfold mLots
          rw [if_neg (fun q => q ⟨by assumption, by assumption⟩), if_neg (by assumption), xm, xs, if_neg (by omega), ← hE, hz, Nat.add_sub_cancel_left]
        · skip
          have h45 : ¬ D + m ≤ 40 := fun q => h45 ((nI_leI (a := D + m) (b := 40) (by omega) (by omega)).mpr q)
          refine v_bipush (v := (-2)) F d_M_lots_48 kb_m2 ?_
          refine v_iret F hr rfl d_M_lots_50 ?_
          unfold mLots
          first | (rw [if_pos (fun q => by first | exact absurd q.1 (by assumption) | exact absurd q.2 (by assumption))]; done) | (rw [if_neg (fun q => q ⟨by assumption, by assumption⟩), if_pos (by assumption)]; done) | (rw [if_neg (fun q => q ⟨by assumption, by assumption⟩), if_neg (by assumption), xm, if_pos (by omega)]; done)
