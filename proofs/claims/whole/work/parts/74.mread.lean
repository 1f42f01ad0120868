theorem fk_M_117 : fok "TakerBookModel" 117 12 15 := ⟨(R_M, F_M, 40), rfl, by decide, List.mem_of_getElem? (i := 994) (by decide +kernel), rfl⟩
theorem kb_48 : (Int8.ofInt 48).toInt32 = (48 : Int32) := by decide
theorem pk_M_readAt : pok 12 15 .int := ⟨(R_M, F_M, 40), rfl, rfl, by decide +kernel⟩
theorem fk_M_45 : fok "TakerBookModel" 45 12 18 := ⟨(R_M, F_M, 40), rfl, by decide, List.mem_of_getElem? (i := 997) (by decide +kernel), rfl⟩
theorem st_M_123 : siteV "TakerBookModel" 123 ⟨"TakerBookModel", "figure", "(III)I"⟩ := ⟨List.mem_of_getElem? (i := 1192) (by decide +kernel), List.mem_of_getElem? (i := 1194) (by decide +kernel), List.mem_of_getElem? (i := 34) (by decide +kernel)⟩
theorem G74 : Gam[74]? = some (.inl (.int, 4)) := rfl
theorem kb_107 : (Int8.ofInt 107).toInt32 = (107 : Int32) := by decide
theorem fk_M_127 : fok "TakerBookModel" 127 12 17 := ⟨(R_M, F_M, 40), rfl, by decide, List.mem_of_getElem? (i := 996) (by decide +kernel), rfl⟩
theorem pk_M_isHead : pok 12 17 .boolean := ⟨(R_M, F_M, 40), rfl, rfl, by decide +kernel⟩
theorem fk_M_48 : fok "TakerBookModel" 48 12 19 := ⟨(R_M, F_M, 40), rfl, by decide, List.mem_of_getElem? (i := 998) (by decide +kernel), rfl⟩
theorem G75 : Gam[75]? = some (.inl (.int, 24)) := rfl
theorem st_M_131 : siteS "TakerBookModel" 131 ⟨"TakerBookModel", "kindBy", "(I)I"⟩ := ⟨List.mem_of_getElem? (i := 1189) (by decide +kernel), List.mem_of_getElem? (i := 1190) (by decide +kernel)⟩
theorem fk_M_134 : fok "TakerBookModel" 134 12 16 := ⟨(R_M, F_M, 40), rfl, by decide, List.mem_of_getElem? (i := 995) (by decide +kernel), rfl⟩
theorem pk_M_readMany : pok 12 16 .int := ⟨(R_M, F_M, 40), rfl, rfl, by decide +kernel⟩
abbrev b_M_kindBy : ByteArray := prog_14_method_25_code
abbrev y_M_kindBy : MethodName := ⟨"TakerBookModel", "kindBy", "(I)I"⟩
theorem d_M_kindBy_0 : decode b_M_kindBy 0 = .ok (.iload_n 0, 1) := by decide +kernel
theorem d_M_kindBy_1 : decode b_M_kindBy 1 = .ok (.lookupswitch 71 #[(99, 63), (103, 65), (108, 67), (114, 61), (116, 59), (121, 69)], 59) := by decide +kernel
theorem d_M_kindBy_60 : decode b_M_kindBy 60 = .ok (.iconst 0, 1) := by decide +kernel
theorem d_M_kindBy_61 : decode b_M_kindBy 61 = .ok (.ireturn, 1) := by decide +kernel
theorem d_M_kindBy_62 : decode b_M_kindBy 62 = .ok (.iconst 1, 1) := by decide +kernel
theorem d_M_kindBy_63 : decode b_M_kindBy 63 = .ok (.ireturn, 1) := by decide +kernel
theorem d_M_kindBy_64 : decode b_M_kindBy 64 = .ok (.iconst 2, 1) := by decide +kernel
theorem d_M_kindBy_65 : decode b_M_kindBy 65 = .ok (.ireturn, 1) := by decide +kernel
theorem d_M_kindBy_66 : decode b_M_kindBy 66 = .ok (.iconst 3, 1) := by decide +kernel
theorem d_M_kindBy_67 : decode b_M_kindBy 67 = .ok (.ireturn, 1) := by decide +kernel
theorem d_M_kindBy_68 : decode b_M_kindBy 68 = .ok (.iconst 4, 1) := by decide +kernel
theorem d_M_kindBy_69 : decode b_M_kindBy 69 = .ok (.ireturn, 1) := by decide +kernel
theorem d_M_kindBy_70 : decode b_M_kindBy 70 = .ok (.iconst 5, 1) := by decide +kernel
theorem d_M_kindBy_71 : decode b_M_kindBy 71 = .ok (.ireturn, 1) := by decide +kernel
theorem d_M_kindBy_72 : decode b_M_kindBy 72 = .ok (.bipush (-9), 2) := by decide +kernel
theorem d_M_kindBy_74 : decode b_M_kindBy 74 = .ok (.ireturn, 1) := by decide +kernel
theorem mo_M_kindBy : mok y_M_kindBy b_M_kindBy 1 (some .int) 1 := ⟨List.mem_of_getElem? (i := 1191) (by decide +kernel), ⟨by decide +kernel, by decide +kernel, by decide +kernel⟩, List.mem_of_getElem? (i := 86) (by decide +kernel), by decide⟩
set_option maxHeartbeats 4000000 in
theorem c_M_kindBy (l : Launch) (u : Un) (hA : Ap u) (σ : St) (b : Int32) : MTi l u y_M_kindBy b_M_kindBy 1 .int 0 [.int b] σ (fun ans σ' => kbF b = ans ∧ σ = σ') := by
  refine MT_of hA rfl (by decide) (Nat.le_of_ble_eq_true rfl) (fun X hl F hr => ?_)
  subst hl
  refine v_to (ls' := [(0, .int b)]) rfl ?_
  refine v_iload_n F d_M_kindBy_0 rfl 0 rfl ?_
  by_cases h1_0 : b = 99
  · refine v_te h1_0 ?_
    refine v_lookup (off := 63) F 64 d_M_kindBy_1 (by decide) (by decide) rfl ?_
    refine v_iconst (v := 2) F d_M_kindBy_64 ki_2 ?_
    refine v_iret F hr rfl d_M_kindBy_65 ?_
    refine ⟨?_, rfl⟩
    first | (subst_vars; rfl) | (unfold kbF; grind)
  by_cases h1_1 : b = 103
  · refine v_te h1_1 ?_
    refine v_lookup (off := 65) F 66 d_M_kindBy_1 (by decide) (by decide) rfl ?_
    refine v_iconst (v := 3) F d_M_kindBy_66 ki_3 ?_
    refine v_iret F hr rfl d_M_kindBy_67 ?_
    refine ⟨?_, rfl⟩
    first | (subst_vars; rfl) | (unfold kbF; grind)
  by_cases h1_2 : b = 108
  · refine v_te h1_2 ?_
    refine v_lookup (off := 67) F 68 d_M_kindBy_1 (by decide) (by decide) rfl ?_
    refine v_iconst (v := 4) F d_M_kindBy_68 ki_4 ?_
    refine v_iret F hr rfl d_M_kindBy_69 ?_
    refine ⟨?_, rfl⟩
    first | (subst_vars; rfl) | (unfold kbF; grind)
  by_cases h1_3 : b = 114
  · refine v_te h1_3 ?_
    refine v_lookup (off := 61) F 62 d_M_kindBy_1 (by decide) (by decide) rfl ?_
    refine v_iconst (v := 1) F d_M_kindBy_62 ki_1 ?_
    refine v_iret F hr rfl d_M_kindBy_63 ?_
    refine ⟨?_, rfl⟩
    first | (subst_vars; rfl) | (unfold kbF; grind)
  by_cases h1_4 : b = 116
  · refine v_te h1_4 ?_
    refine v_lookup (off := 59) F 60 d_M_kindBy_1 (by decide) (by decide) rfl ?_
    refine v_iconst (v := 0) F d_M_kindBy_60 ki_0 ?_
    refine v_iret F hr rfl d_M_kindBy_61 ?_
    refine ⟨?_, rfl⟩
    first | (subst_vars; rfl) | (unfold kbF; grind)
  by_cases h1_5 : b = 121
  · refine v_te h1_5 ?_
    refine v_lookup (off := 69) F 70 d_M_kindBy_1 (by decide) (by decide) rfl ?_
    refine v_iconst (v := 5) F d_M_kindBy_70 ki_5 ?_
    refine v_iret F hr rfl d_M_kindBy_71 ?_
    refine ⟨?_, rfl⟩
    first | (subst_vars; rfl) | (unfold kbF; grind)
  refine v_lookup F 72 d_M_kindBy_1 (by decide) (by have e : ∀ c : Int32, ¬ b = c → ¬ c.toInt = b.toInt := fun c h q => h (Int32.toInt_inj.mp q.symm); show Op.lookupswitch.offset [(99, 63), (103, 65), (108, 67), (114, 61), (116, 59), (121, 69)] 71 b.toInt = 71; rw [Op.lookupswitch.offset_cons, if_neg (show ¬ (99 : Int) = b.toInt from e 99 h1_0), Op.lookupswitch.offset_cons, if_neg (show ¬ (103 : Int) = b.toInt from e 103 h1_1), Op.lookupswitch.offset_cons, if_neg (show ¬ (108 : Int) = b.toInt from e 108 h1_2), Op.lookupswitch.offset_cons, if_neg (show ¬ (114 : Int) = b.toInt from e 114 h1_3), Op.lookupswitch.offset_cons, if_neg (show ¬ (116 : Int) = b.toInt from e 116 h1_4), Op.lookupswitch.offset_cons, if_neg (show ¬ (121 : Int) = b.toInt from e 121 h1_5)]; rfl) rfl ?_
  refine v_bipush (v := (-9)) F d_M_kindBy_72 kb_m9 ?_
  refine v_iret F hr rfl d_M_kindBy_74 ?_
  refine ⟨?_, rfl⟩
  first | (subst_vars; rfl) | (unfold kbF; grind)
abbrev b_M_figure : ByteArray := prog_14_method_26_code
abbrev y_M_figure : MethodName := ⟨"TakerBookModel", "figure", "(III)I"⟩
theorem d_M_figure_0 : decode b_M_figure 0 = .ok (.aload_n 0, 1) := by decide +kernel
theorem d_M_figure_1 : decode b_M_figure 1 = .ok (.iload_n 1, 1) := by decide +kernel
theorem d_M_figure_2 : decode b_M_figure 2 = .ok (.aload_n 0, 1) := by decide +kernel
theorem d_M_figure_3 : decode b_M_figure 3 = .ok (.getfield 117, 3) := by decide +kernel
theorem d_M_figure_6 : decode b_M_figure 6 = .ok (.invokevirtual 120, 3) := by decide +kernel
theorem d_M_figure_9 : decode b_M_figure 9 = .ok (.bipush 48, 2) := by decide +kernel
theorem d_M_figure_11 : decode b_M_figure 11 = .ok (.isub, 1) := by decide +kernel
theorem d_M_figure_12 : decode b_M_figure 12 = .ok (.istore 4, 2) := by decide +kernel
theorem d_M_figure_14 : decode b_M_figure 14 = .ok (.iload 4, 2) := by decide +kernel
theorem d_M_figure_16 : decode b_M_figure 16 = .ok (.iload_n 2, 1) := by decide +kernel
theorem d_M_figure_17 : decode b_M_figure 17 = .ok (.iload_n 3, 1) := by decide +kernel
theorem d_M_figure_18 : decode b_M_figure 18 = .ok (.invokestatic 89, 3) := by decide +kernel
theorem d_M_figure_21 : decode b_M_figure 21 = .ok (.ifCond .ne 6, 3) := by decide +kernel
theorem d_M_figure_24 : decode b_M_figure 24 = .ok (.bipush (-9), 2) := by decide +kernel
theorem d_M_figure_26 : decode b_M_figure 26 = .ok (.ireturn, 1) := by decide +kernel
theorem d_M_figure_27 : decode b_M_figure 27 = .ok (.aload_n 0, 1) := by decide +kernel
theorem d_M_figure_28 : decode b_M_figure 28 = .ok (.dup, 1) := by decide +kernel
theorem d_M_figure_29 : decode b_M_figure 29 = .ok (.getfield 117, 3) := by decide +kernel
theorem d_M_figure_32 : decode b_M_figure 32 = .ok (.iconst 1, 1) := by decide +kernel
theorem d_M_figure_33 : decode b_M_figure 33 = .ok (.iadd, 1) := by decide +kernel
theorem d_M_figure_34 : decode b_M_figure 34 = .ok (.putfield 117, 3) := by decide +kernel
theorem d_M_figure_37 : decode b_M_figure 37 = .ok (.iload 4, 2) := by decide +kernel
theorem d_M_figure_39 : decode b_M_figure 39 = .ok (.ireturn, 1) := by decide +kernel
theorem mo_M_figure : mok y_M_figure b_M_figure 5 (some .int) 3 := ⟨List.mem_of_getElem? (i := 1195) (by decide +kernel), ⟨by decide +kernel, by decide +kernel, by decide +kernel⟩, List.mem_of_getElem? (i := 86) (by decide +kernel), by decide⟩
set_option maxHeartbeats 4000000 in
theorem c_M_figure (l : Launch) (u : Un) (hA : Ap u) {σ τ : St} (fτ : fr σ τ) {t N : Nat} (ht : t < 4) (hN : N ≤ 60) (eN : σ.1 68 t = nI N) (p : Nat) (hp : τ.1 63 15 = nI p) (hpN : p ≤ 70) (lo hi : Int32) : MTi l u y_M_figure b_M_figure 5 .int 1 [.ref (u.2.1 63), .int (nI t), .int lo, .int hi] τ (fun ans σ' => ((lo ≤ (bMf σ t N p - 48) ∧ (bMf σ t N p - 48) ≤ hi) ∧ (bMf σ t N p - 48) = ans ∧ σ' = uI τ 63 15 (nI (p + 1))) ∨ (¬ (lo ≤ (bMf σ t N p - 48) ∧ (bMf σ t N p - 48) ≤ hi) ∧ -9 = ans ∧ τ = σ')) := by
  refine MT_of hA rfl (by decide) (Nat.le_of_ble_eq_true rfl) (fun X hl F hr => ?_)
  subst hl
  refine v_to (ls' := [(0, .ref (u.2.1 63)), (1, .int (nI t)), (2, .int lo), (3, .int hi)]) rfl ?_
  refine v_aload_n F d_M_figure_0 rfl 0 rfl ?_
  refine v_iload_n F d_M_figure_1 rfl 1 rfl ?_
  refine v_aload_n F d_M_figure_2 rfl 0 rfl ?_
  refine v_geti F fk_M_117 G63 rfl d_M_figure_3 ?_
  refine v_te (y := nI (p)) hp ?_
  refine v_runi (r_V F (c_M_byteAt X.2.1 u hA fτ ht hN eN p (by omega)) mo_M_byteAt st_M_120 rc_63 (by decide) rfl (Nat.le_of_ble_eq_true rfl) d_M_figure_6) (fun r1 σ2 q3 => ?_)
  obtain ⟨rfl, rfl⟩ := q3
  refine v_bipush (v := 48) F d_M_figure_9 kb_48 ?_
  refine v_isub F d_M_figure_11 ?_
  refine v_istore (ls' := [(4, .int ((bMf σ t N p) - 48)), (0, .ref (u.2.1 63)), (1, .int (nI t)), (2, .int lo), (3, .int hi)]) F d_M_figure_12 (by decide) rfl ?_
  refine v_iload F d_M_figure_14 0 rfl ?_
  refine v_iload_n F d_M_figure_16 rfl 3 rfl ?_
  refine v_iload_n F d_M_figure_17 rfl 4 rfl ?_
  refine v_runi (r_S F (c_M_in X.2.1 u hA τ ((bMf σ t N p) - 48) lo hi ) mo_M_in st_M_89 (by decide) rfl (Nat.le_of_ble_eq_true rfl) d_M_figure_18) (fun r4 σ5 q6 => ?_)
  obtain ⟨rfl, rfl⟩ := q6
  refine v_bf F 27 d_M_figure_21 rfl (fun h21 => ?_) (fun h21 => ?_)
  · skip
    refine v_aload_n F d_M_figure_27 rfl 1 rfl ?_
    refine v_dup F d_M_figure_28 rfl ?_
    refine v_geti F fk_M_117 G63 rfl d_M_figure_29 ?_
    refine v_te (y := nI (p)) hp ?_
    refine v_iconst (v := 1) F d_M_figure_32 ki_1 ?_
    refine v_iadd F d_M_figure_33 ?_
    refine v_te (y := nI (p + 1)) (nI_add _ _) ?_
    refine v_puti F fk_M_117 pk_M_readAt G63 rfl d_M_figure_34 ?_
    refine v_ns (fun σ7 eσ7 => ?_)
    have fσ7 : fr σ σ7 := by rw [eσ7]; exact fτ.u rfl
    refine v_iload F d_M_figure_37 0 rfl ?_
    refine v_iret F hr rfl d_M_figure_39 ?_
    first | exact Or.inr ⟨by assumption, rfl, rfl⟩ | exact Or.inl ⟨by assumption, rfl, by assumption⟩
  · skip
    refine v_bipush (v := (-9)) F d_M_figure_24 kb_m9 ?_
    refine v_iret F hr rfl d_M_figure_26 ?_
    first | exact Or.inr ⟨by assumption, rfl, rfl⟩ | exact Or.inl ⟨by assumption, rfl, by assumption⟩
abbrev b_M_readsHead : ByteArray := prog_14_method_27_code
abbrev y_M_readsHead : MethodName := ⟨"TakerBookModel", "readsHead", "(I)Z"⟩
theorem d_M_readsHead_0 : decode b_M_readsHead 0 = .ok (.aload_n 0, 1) := by decide +kernel
theorem d_M_readsHead_1 : decode b_M_readsHead 1 = .ok (.iload_n 1, 1) := by decide +kernel
theorem d_M_readsHead_2 : decode b_M_readsHead 2 = .ok (.aload_n 0, 1) := by decide +kernel
theorem d_M_readsHead_3 : decode b_M_readsHead 3 = .ok (.getfield 117, 3) := by decide +kernel
theorem d_M_readsHead_6 : decode b_M_readsHead 6 = .ok (.invokevirtual 120, 3) := by decide +kernel
theorem d_M_readsHead_9 : decode b_M_readsHead 9 = .ok (.bipush 107, 2) := by decide +kernel
theorem d_M_readsHead_11 : decode b_M_readsHead 11 = .ok (.if_icmp .eq 5, 3) := by decide +kernel
theorem d_M_readsHead_14 : decode b_M_readsHead 14 = .ok (.iconst 0, 1) := by decide +kernel
theorem d_M_readsHead_15 : decode b_M_readsHead 15 = .ok (.ireturn, 1) := by decide +kernel
theorem d_M_readsHead_16 : decode b_M_readsHead 16 = .ok (.aload_n 0, 1) := by decide +kernel
theorem d_M_readsHead_17 : decode b_M_readsHead 17 = .ok (.dup, 1) := by decide +kernel
theorem d_M_readsHead_18 : decode b_M_readsHead 18 = .ok (.getfield 117, 3) := by decide +kernel
theorem d_M_readsHead_21 : decode b_M_readsHead 21 = .ok (.iconst 1, 1) := by decide +kernel
theorem d_M_readsHead_22 : decode b_M_readsHead 22 = .ok (.iadd, 1) := by decide +kernel
theorem d_M_readsHead_23 : decode b_M_readsHead 23 = .ok (.putfield 117, 3) := by decide +kernel
theorem d_M_readsHead_26 : decode b_M_readsHead 26 = .ok (.iconst 0, 1) := by decide +kernel
theorem d_M_readsHead_27 : decode b_M_readsHead 27 = .ok (.istore_n 2, 1) := by decide +kernel
theorem d_M_readsHead_28 : decode b_M_readsHead 28 = .ok (.iload_n 2, 1) := by decide +kernel
theorem d_M_readsHead_29 : decode b_M_readsHead 29 = .ok (.iconst 4, 1) := by decide +kernel
theorem d_M_readsHead_30 : decode b_M_readsHead 30 = .ok (.if_icmp .ge 52, 3) := by decide +kernel
theorem d_M_readsHead_33 : decode b_M_readsHead 33 = .ok (.aload_n 0, 1) := by decide +kernel
theorem d_M_readsHead_34 : decode b_M_readsHead 34 = .ok (.getfield 45, 3) := by decide +kernel
theorem d_M_readsHead_37 : decode b_M_readsHead 37 = .ok (.iload_n 2, 1) := by decide +kernel
theorem d_M_readsHead_38 : decode b_M_readsHead 38 = .ok (.iload_n 2, 1) := by decide +kernel
theorem d_M_readsHead_39 : decode b_M_readsHead 39 = .ok (.iconst 3, 1) := by decide +kernel
theorem d_M_readsHead_40 : decode b_M_readsHead 40 = .ok (.if_icmp .ge 14, 3) := by decide +kernel
theorem d_M_readsHead_43 : decode b_M_readsHead 43 = .ok (.aload_n 0, 1) := by decide +kernel
theorem d_M_readsHead_44 : decode b_M_readsHead 44 = .ok (.iload_n 1, 1) := by decide +kernel
theorem d_M_readsHead_45 : decode b_M_readsHead 45 = .ok (.iconst 0, 1) := by decide +kernel
theorem d_M_readsHead_46 : decode b_M_readsHead 46 = .ok (.bipush 9, 2) := by decide +kernel
theorem d_M_readsHead_48 : decode b_M_readsHead 48 = .ok (.invokevirtual 123, 3) := by decide +kernel
theorem d_M_readsHead_51 : decode b_M_readsHead 51 = .ok (.goto 11, 3) := by decide +kernel
theorem d_M_readsHead_54 : decode b_M_readsHead 54 = .ok (.aload_n 0, 1) := by decide +kernel
theorem d_M_readsHead_55 : decode b_M_readsHead 55 = .ok (.iload_n 1, 1) := by decide +kernel
theorem d_M_readsHead_56 : decode b_M_readsHead 56 = .ok (.iconst 1, 1) := by decide +kernel
theorem d_M_readsHead_57 : decode b_M_readsHead 57 = .ok (.bipush 6, 2) := by decide +kernel
theorem d_M_readsHead_59 : decode b_M_readsHead 59 = .ok (.invokevirtual 123, 3) := by decide +kernel
theorem d_M_readsHead_62 : decode b_M_readsHead 62 = .ok (.iastore, 1) := by decide +kernel
theorem d_M_readsHead_63 : decode b_M_readsHead 63 = .ok (.aload_n 0, 1) := by decide +kernel
theorem d_M_readsHead_64 : decode b_M_readsHead 64 = .ok (.getfield 45, 3) := by decide +kernel
theorem d_M_readsHead_67 : decode b_M_readsHead 67 = .ok (.iload_n 2, 1) := by decide +kernel
theorem d_M_readsHead_68 : decode b_M_readsHead 68 = .ok (.iaload, 1) := by decide +kernel
theorem d_M_readsHead_69 : decode b_M_readsHead 69 = .ok (.bipush (-9), 2) := by decide +kernel
theorem d_M_readsHead_71 : decode b_M_readsHead 71 = .ok (.if_icmp .ne 5, 3) := by decide +kernel
theorem d_M_readsHead_74 : decode b_M_readsHead 74 = .ok (.iconst 0, 1) := by decide +kernel
theorem d_M_readsHead_75 : decode b_M_readsHead 75 = .ok (.ireturn, 1) := by decide +kernel
theorem d_M_readsHead_76 : decode b_M_readsHead 76 = .ok (.iinc 2 1, 3) := by decide +kernel
theorem d_M_readsHead_79 : decode b_M_readsHead 79 = .ok (.goto (-51), 3) := by decide +kernel
theorem d_M_readsHead_82 : decode b_M_readsHead 82 = .ok (.aload_n 0, 1) := by decide +kernel
theorem d_M_readsHead_83 : decode b_M_readsHead 83 = .ok (.iconst 1, 1) := by decide +kernel
theorem d_M_readsHead_84 : decode b_M_readsHead 84 = .ok (.putfield 127, 3) := by decide +kernel
theorem d_M_readsHead_87 : decode b_M_readsHead 87 = .ok (.iconst 1, 1) := by decide +kernel
theorem d_M_readsHead_88 : decode b_M_readsHead 88 = .ok (.ireturn, 1) := by decide +kernel
theorem mo_M_readsHead : mok y_M_readsHead b_M_readsHead 3 (some .boolean) 1 := ⟨List.mem_of_getElem? (i := 1199) (by decide +kernel), ⟨by decide +kernel, by decide +kernel, by decide +kernel⟩, List.mem_of_getElem? (i := 86) (by decide +kernel), by decide⟩
set_option maxHeartbeats 4000000 in
theorem L_M_readsHead_28 {X : FX} {u : Un} (hA : Ap u) {Q : State → Prop} (F : Fr X u "TakerBookModel" b_M_readsHead 3) {σ : St} {t N : Nat} (ht : t < 4) (hN : N ≤ 60) (eN : σ.1 68 t = nI N) {p : Nat} (hp5 : p < N) {x16 : Nat} (k0 : ∀ (k : Nat) (τ : St), fr σ τ → τ.1 63 15 = nI (p + 1 + ffk (bMf σ t N) loB hiB (p + 1) 4) → ¬ ffk (bMf σ t N) loB hiB (p + 1) 4 = 4 → V X u 2 3 Q 74 [(0, .ref (u.2.1 63))] [] (τ)) (k1 : ∀ (k : Nat) (τ : St), fr σ τ → τ.1 63 15 = nI (p + 5) → ffk (bMf σ t N) loB hiB (p + 1) 4 = 4 → τ.1 63 16 = nI x16 → (∀ i, i < 4 → τ.1 74 i = bMf σ t N (p + 1 + i) - 48) → V X u 2 3 Q 82 [(0, .ref (u.2.1 63))] [] (τ))  : ∀ (nn : Nat) (k : Nat) (τ : St), k ≤ 4 → fr σ τ → τ.1 63 15 = nI (p + 1 + k) → ffk (bMf σ t N) loB hiB (p + 1) k = k → τ.1 63 16 = nI x16 → (∀ i, i < k → τ.1 74 i = bMf σ t N (p + 1 + i) - 48) → 4 - k < nn → V X u 2 3 Q 28 [(0, .ref (u.2.1 63)), (1, .int (nI t)), (2, .int (nI k))] [] (τ) := by
  intro nn
  induction nn with
  | zero =>
    intro k τ hk fτ h15 hff h16 hd h2
    exact absurd h2 (Nat.not_lt_zero _)
  | succ nn ih =>
    intro k τ hk fτ h15 hff h16 hd hm
    refine v_iload_n F d_M_readsHead_28 rfl 2 rfl ?_
    refine v_iconst (v := 4) F d_M_readsHead_29 ki_4 ?_
    refine v_icmp_ge F 82 d_M_readsHead_30 rfl (fun h30 => ?_) (fun h30 => ?_)
    · skip
      have h30 : 4 ≤ k := (nI_leI (a := 4) (b := k) (by omega) (by omega)).mp h30
      refine v_sub [0] (ls' := [(0, .ref (u.2.1 63))]) rfl ?_
      exact k1 k τ fτ (by have e : k = 4 := (by omega); subst e; exact h15) (by have e : k = 4 := (by omega); subst e; exact hff) h16 (by have e : k = 4 := (by omega); subst e; exact hd)
    · skip
      have h30 : ¬ 4 ≤ k := fun q => h30 ((nI_leI (a := 4) (b := k) (by omega) (by omega)).mpr q)
      refine v_aload_n F d_M_readsHead_33 rfl 0 rfl ?_
      refine v_getr (r := 74) F fk_M_45 G63 rfl d_M_readsHead_34 ?_
      refine v_iload_n F d_M_readsHead_37 rfl 2 rfl ?_
      refine v_iload_n F d_M_readsHead_38 rfl 2 rfl ?_
      refine v_iconst (v := 3) F d_M_readsHead_39 ki_3 ?_
      refine v_icmp_ge F 54 d_M_readsHead_40 rfl (fun h40 => ?_) (fun h40 => ?_)
      · skip
        have h40 : 3 ≤ k := (nI_leI (a := 3) (b := k) (by omega) (by omega)).mp h40
        refine v_aload_n F d_M_readsHead_54 rfl 0 rfl ?_
        refine v_iload_n F d_M_readsHead_55 rfl 1 rfl ?_
        refine v_iconst (v := 1) F d_M_readsHead_56 ki_1 ?_
        refine v_bipush (v := 6) F d_M_readsHead_57 kb_6 ?_
        refine v_runi (r_V F (c_M_figure X.2.1 u hA fτ ht hN eN (p + 1 + k) h15 (by omega) 1 6) mo_M_figure st_M_123 rc_63 (by decide) rfl (Nat.le_of_ble_eq_true rfl) d_M_readsHead_59) (fun r1 σ2 q3 => ?_)
        rcases q3 with ⟨hc, rfl, eσ2⟩ | ⟨hc, rfl, rfl⟩
        · skip
          have fσ2 : fr σ σ2 := by rw [eσ2]; exact fτ.u rfl
          refine v_ias F k G74 rfl (by omega) d_M_readsHead_62 ?_
          refine v_ns (fun σ4 eσ4 => ?_)
          have fσ4 : fr σ σ4 := by rw [eσ4]; exact fσ2.u rfl
          refine v_aload_n F d_M_readsHead_63 rfl 0 rfl ?_
          refine v_getr (r := 74) F fk_M_45 G63 rfl d_M_readsHead_64 ?_
          refine v_iload_n F d_M_readsHead_67 rfl 2 rfl ?_
          refine v_ial F k G74 rfl (by omega) d_M_readsHead_68 ?_
          refine v_te (y := bMf σ t N (p + 1 + k) - 48) (by rw [eσ4, uI_s]) ?_
          refine v_bipush (v := (-9)) F d_M_readsHead_69 kb_m9 ?_
          refine v_icmp_ne F 76 d_M_readsHead_71 rfl (fun h71 => ?_) (fun h71 => ?_)
          · skip
            refine v_iinc (v := nI (k + 1)) (ls' := [(2, .int (nI (k + 1))), (0, .ref (u.2.1 63)), (1, .int (nI t))]) F d_M_readsHead_76 (j := 2) rfl (nI_inc _) (by decide) rfl ?_
            refine v_goto F 28 d_M_readsHead_79 rfl ?_
            refine v_sub [1, 2, 0] (ls' := [(0, .ref (u.2.1 63)), (1, .int (nI t)), (2, .int (nI (k + 1)))]) rfl ?_
            exact ih (k + 1) (σ4) (by omega) fσ4 (by subst_vars; rw [uI_o _ _ _ _ (by decide), uI_s]; first | done | rfl) (ffk_t hff (by have e := lhB k (by omega); unfold okD; first | (rw [(e.1 (by omega)).1, (e.1 (by omega)).2]; exact hc) | (rw [(e.2 (by omega)).1, (e.2 (by omega)).2]; exact hc))) (by subst_vars; (repeat (first | rw [uI_o _ _ _ _ (by decide)] | rw [uI_n _ _ _ _ (by decide)])); exact h16) (by subst_vars; exact en_s (f := fun i => bMf σ t N (p + 1 + i) - 48) (en_o (f := fun i => bMf σ t N (p + 1 + i) - 48) hd (by decide)) rfl) (by omega)
          · (exfalso; rw [h71] at hc; exact absurd hc.1 (by decide))
        · skip
          refine v_ias F k G74 rfl (by omega) d_M_readsHead_62 ?_
          refine v_ns (fun σ5 eσ5 => ?_)
          have fσ5 : fr σ σ5 := by rw [eσ5]; exact fτ.u rfl
          refine v_aload_n F d_M_readsHead_63 rfl 0 rfl ?_
          refine v_getr (r := 74) F fk_M_45 G63 rfl d_M_readsHead_64 ?_
          refine v_iload_n F d_M_readsHead_67 rfl 2 rfl ?_
          refine v_ial F k G74 rfl (by omega) d_M_readsHead_68 ?_
          refine v_te (y := (-9)) (by rw [eσ5, uI_s]) ?_
          refine v_bipush (v := (-9)) F d_M_readsHead_69 kb_m9 ?_
          refine v_icmp_ne F 76 d_M_readsHead_71 rfl (fun h => absurd (by decide) h) (fun _ => ?_)
          refine v_sub [0] (ls' := [(0, .ref (u.2.1 63))]) rfl ?_
          exact k0 k σ5 fσ5 (by rw [ffk_n hff (by have e := lhB k (by omega); unfold okD; first | (rw [(e.1 (by omega)).1, (e.1 (by omega)).2]; exact hc) | (rw [(e.2 (by omega)).1, (e.2 (by omega)).2]; exact hc)) (by omega)]; exact (by subst_vars; rw [uI_o _ _ _ _ (by decide)]; exact h15)) (by rw [ffk_n hff (by have e := lhB k (by omega); unfold okD; first | (rw [(e.1 (by omega)).1, (e.1 (by omega)).2]; exact hc) | (rw [(e.2 (by omega)).1, (e.2 (by omega)).2]; exact hc)) (by omega)]; omega)
      · skip
        have h40 : ¬ 3 ≤ k := fun q => h40 ((nI_leI (a := 3) (b := k) (by omega) (by omega)).mpr q)
        refine v_aload_n F d_M_readsHead_43 rfl 0 rfl ?_
        refine v_iload_n F d_M_readsHead_44 rfl 1 rfl ?_
        refine v_iconst (v := 0) F d_M_readsHead_45 ki_0 ?_
        refine v_bipush (v := 9) F d_M_readsHead_46 kb_9 ?_
        refine v_runi (r_V F (c_M_figure X.2.1 u hA fτ ht hN eN (p + 1 + k) h15 (by omega) 0 9) mo_M_figure st_M_123 rc_63 (by decide) rfl (Nat.le_of_ble_eq_true rfl) d_M_readsHead_48) (fun r6 σ7 q8 => ?_)
        rcases q8 with ⟨hc, rfl, eσ7⟩ | ⟨hc, rfl, rfl⟩
        · skip
          have fσ7 : fr σ σ7 := by rw [eσ7]; exact fτ.u rfl
          refine v_goto F 62 d_M_readsHead_51 rfl ?_
          refine v_ias F k G74 rfl (by omega) d_M_readsHead_62 ?_
          refine v_ns (fun σ9 eσ9 => ?_)
          have fσ9 : fr σ σ9 := by rw [eσ9]; exact fσ7.u rfl
          refine v_aload_n F d_M_readsHead_63 rfl 0 rfl ?_
          refine v_getr (r := 74) F fk_M_45 G63 rfl d_M_readsHead_64 ?_
          refine v_iload_n F d_M_readsHead_67 rfl 2 rfl ?_
          refine v_ial F k G74 rfl (by omega) d_M_readsHead_68 ?_
          refine v_te (y := bMf σ t N (p + 1 + k) - 48) (by rw [eσ9, uI_s]) ?_
          refine v_bipush (v := (-9)) F d_M_readsHead_69 kb_m9 ?_
          refine v_icmp_ne F 76 d_M_readsHead_71 rfl (fun h71 => ?_) (fun h71 => ?_)
          · skip
            refine v_iinc (v := nI (k + 1)) (ls' := [(2, .int (nI (k + 1))), (0, .ref (u.2.1 63)), (1, .int (nI t))]) F d_M_readsHead_76 (j := 2) rfl (nI_inc _) (by decide) rfl ?_
            refine v_goto F 28 d_M_readsHead_79 rfl ?_
            refine v_sub [1, 2, 0] (ls' := [(0, .ref (u.2.1 63)), (1, .int (nI t)), (2, .int (nI (k + 1)))]) rfl ?_
            exact ih (k + 1) (σ9) (by omega) fσ9 (by subst_vars; rw [uI_o _ _ _ _ (by decide), uI_s]; first | done | rfl) (ffk_t hff (by have e := lhB k (by omega); unfold okD; first | (rw [(e.1 (by omega)).1, (e.1 (by omega)).2]; exact hc) | (rw [(e.2 (by omega)).1, (e.2 (by omega)).2]; exact hc))) (by subst_vars; (repeat (first | rw [uI_o _ _ _ _ (by decide)] | rw [uI_n _ _ _ _ (by decide)])); exact h16) (by subst_vars; exact en_s (f := fun i => bMf σ t N (p + 1 + i) - 48) (en_o (f := fun i => bMf σ t N (p + 1 + i) - 48) hd (by decide)) rfl) (by omega)
          · (exfalso; rw [h71] at hc; exact absurd hc.1 (by decide))
        · skip
          refine v_goto F 62 d_M_readsHead_51 rfl ?_
          refine v_ias F k G74 rfl (by omega) d_M_readsHead_62 ?_
          refine v_ns (fun σ10 eσ10 => ?_)
          have fσ10 : fr σ σ10 := by rw [eσ10]; exact fτ.u rfl
          refine v_aload_n F d_M_readsHead_63 rfl 0 rfl ?_
          refine v_getr (r := 74) F fk_M_45 G63 rfl d_M_readsHead_64 ?_
          refine v_iload_n F d_M_readsHead_67 rfl 2 rfl ?_
          refine v_ial F k G74 rfl (by omega) d_M_readsHead_68 ?_
          refine v_te (y := (-9)) (by rw [eσ10, uI_s]) ?_
          refine v_bipush (v := (-9)) F d_M_readsHead_69 kb_m9 ?_
          refine v_icmp_ne F 76 d_M_readsHead_71 rfl (fun h => absurd (by decide) h) (fun _ => ?_)
          refine v_sub [0] (ls' := [(0, .ref (u.2.1 63))]) rfl ?_
          exact k0 k σ10 fσ10 (by rw [ffk_n hff (by have e := lhB k (by omega); unfold okD; first | (rw [(e.1 (by omega)).1, (e.1 (by omega)).2]; exact hc) | (rw [(e.2 (by omega)).1, (e.2 (by omega)).2]; exact hc)) (by omega)]; exact (by subst_vars; rw [uI_o _ _ _ _ (by decide)]; exact h15)) (by rw [ffk_n hff (by have e := lhB k (by omega); unfold okD; first | (rw [(e.1 (by omega)).1, (e.1 (by omega)).2]; exact hc) | (rw [(e.2 (by omega)).1, (e.2 (by omega)).2]; exact hc)) (by omega)]; omega)
set_option maxHeartbeats 4000000 in
theorem c_M_readsHead (l : Launch) (u : Un) (hA : Ap u) {σ τ : St} (fτ : fr σ τ) {t N : Nat} (ht : t < 4) (hN : N ≤ 60) (eN : σ.1 68 t = nI N) (p : Nat) (hp : τ.1 63 15 = nI p) (hp5 : p < N) (x16 : Nat) (h16 : τ.1 63 16 = nI x16) : MTi l u y_M_readsHead b_M_readsHead 3 .boolean 2 [.ref (u.2.1 63), .int (nI t)] τ (fun ans σ' => (¬ bMf σ t N p = 107 ∧ 0 = ans ∧ τ = σ') ∨ (bMf σ t N p = 107 ∧ ¬ ffk (bMf σ t N) loB hiB (p + 1) 4 = 4 ∧ 0 = ans ∧ fr σ σ' ∧ σ'.1 63 15 = nI (p + 1 + ffk (bMf σ t N) loB hiB (p + 1) 4)) ∨ (bMf σ t N p = 107 ∧ ffk (bMf σ t N) loB hiB (p + 1) 4 = 4 ∧ 1 = ans ∧ fr σ σ' ∧ σ'.1 63 15 = nI (p + 5) ∧ σ'.1 63 16 = nI x16 ∧ σ'.1 63 17 = 1 ∧ mhd (bMf σ t N) (p + 1) σ')) := by
  refine MT_of hA rfl (by decide) (Nat.le_of_ble_eq_true rfl) (fun X hl F hr => ?_)
  subst hl
  refine v_to (ls' := [(0, .ref (u.2.1 63)), (1, .int (nI t))]) rfl ?_
  refine v_aload_n F d_M_readsHead_0 rfl 0 rfl ?_
  refine v_iload_n F d_M_readsHead_1 rfl 1 rfl ?_
  refine v_aload_n F d_M_readsHead_2 rfl 0 rfl ?_
  refine v_geti F fk_M_117 G63 rfl d_M_readsHead_3 ?_
  refine v_te (y := nI (p)) hp ?_
  refine v_runi (r_V F (c_M_byteAt X.2.1 u hA fτ ht hN eN p (by omega)) mo_M_byteAt st_M_120 rc_63 (by decide) rfl (Nat.le_of_ble_eq_true rfl) d_M_readsHead_6) (fun r1 σ2 q3 => ?_)
  obtain ⟨rfl, rfl⟩ := q3
  refine v_bipush (v := 107) F d_M_readsHead_9 kb_107 ?_
  refine v_icmp_eq F 16 d_M_readsHead_11 rfl (fun h11 => ?_) (fun h11 => ?_)
  · skip
    refine v_aload_n F d_M_readsHead_16 rfl 0 rfl ?_
    refine v_dup F d_M_readsHead_17 rfl ?_
    refine v_geti F fk_M_117 G63 rfl d_M_readsHead_18 ?_
    refine v_te (y := nI (p)) hp ?_
    refine v_iconst (v := 1) F d_M_readsHead_21 ki_1 ?_
    refine v_iadd F d_M_readsHead_22 ?_
    refine v_te (y := nI (p + 1)) (nI_add _ _) ?_
    refine v_puti F fk_M_117 pk_M_readAt G63 rfl d_M_readsHead_23 ?_
    refine v_ns (fun σ4 eσ4 => ?_)
    have fσ4 : fr σ σ4 := by rw [eσ4]; exact fτ.u rfl
    refine v_iconst (v := 0) F d_M_readsHead_26 ki_0 ?_
    refine v_istore_n (ls' := [(2, .int 0), (0, .ref (u.2.1 63)), (1, .int (nI t))]) F d_M_readsHead_27 rfl (by decide) rfl ?_
    refine v_sub [1, 2, 0] (ls' := [(0, .ref (u.2.1 63)), (1, .int (nI t)), (2, .int 0)]) rfl ?_
    have g5 : 0 = (nI 0) := (by first | rfl | (simp_all; done) | grind)
    refine v_to (ls' := [(0, .ref (u.2.1 63)), (1, .int (nI t)), (2, .int (nI 0))]) (by first | rfl | rw [g5] | simp_all) ?_
    refine L_M_readsHead_28 hA F ht hN eN (p := p) hp5 (fun k ρ fρ q15 qff => ?_) (fun k ρ fρ q15 qff q16 qd => ?_) _ 0 σ4 (Nat.zero_le _) fσ4 (by rw [eσ4, uI_s]) rfl (by rw [eσ4, uI_n _ _ _ _ (by decide)]; exact h16) (fun i hi => absurd hi (Nat.not_lt_zero _)) (Nat.lt_succ_self _)
    · skip
      refine v_iconst (v := 0) F d_M_readsHead_74 ki_0 ?_
      refine v_iret F hr rfl d_M_readsHead_75 ?_
      exact Or.inr (Or.inl ⟨by assumption, qff, rfl, fρ, q15⟩)
    · skip
      refine v_aload_n F d_M_readsHead_82 rfl 0 rfl ?_
      refine v_iconst (v := 1) F d_M_readsHead_83 ki_1 ?_
      refine v_putz F fk_M_127 pk_M_isHead G63 rfl rfl rfl  d_M_readsHead_84 ?_
      refine v_ns (fun σ6 eσ6 => ?_)
      have fσ6 : fr σ σ6 := by rw [eσ6]; exact fρ.u rfl
      refine v_iconst (v := 1) F d_M_readsHead_87 ki_1 ?_
      refine v_iret F hr rfl d_M_readsHead_88 ?_
      exact Or.inr (Or.inr ⟨by assumption, qff, rfl, fσ6, (by rw [eσ6, uI_n _ _ _ _ (by decide)]; exact q15), (by rw [eσ6, uI_n _ _ _ _ (by decide)]; exact q16), by rw [eσ6, uI_s], fun k hk => by rw [eσ6, uI_o _ _ _ _ (by decide)]; exact qd k hk⟩)
  · skip
    refine v_iconst (v := 0) F d_M_readsHead_14 ki_0 ?_
    refine v_iret F hr rfl d_M_readsHead_15 ?_
    exact Or.inl ⟨by assumption, rfl, rfl⟩
abbrev b_M_readsThief : ByteArray := prog_14_method_28_code
abbrev y_M_readsThief : MethodName := ⟨"TakerBookModel", "readsThief", "(I)Z"⟩
theorem d_M_readsThief_0 : decode b_M_readsThief 0 = .ok (.aload_n 0, 1) := by decide +kernel
theorem d_M_readsThief_1 : decode b_M_readsThief 1 = .ok (.iload_n 1, 1) := by decide +kernel
theorem d_M_readsThief_2 : decode b_M_readsThief 2 = .ok (.aload_n 0, 1) := by decide +kernel
theorem d_M_readsThief_3 : decode b_M_readsThief 3 = .ok (.getfield 117, 3) := by decide +kernel
theorem d_M_readsThief_6 : decode b_M_readsThief 6 = .ok (.invokevirtual 120, 3) := by decide +kernel
theorem d_M_readsThief_9 : decode b_M_readsThief 9 = .ok (.invokestatic 131, 3) := by decide +kernel
theorem d_M_readsThief_12 : decode b_M_readsThief 12 = .ok (.istore_n 2, 1) := by decide +kernel
theorem d_M_readsThief_13 : decode b_M_readsThief 13 = .ok (.iload_n 2, 1) := by decide +kernel
theorem d_M_readsThief_14 : decode b_M_readsThief 14 = .ok (.bipush (-9), 2) := by decide +kernel
theorem d_M_readsThief_16 : decode b_M_readsThief 16 = .ok (.if_icmp .eq 12, 3) := by decide +kernel
theorem d_M_readsThief_19 : decode b_M_readsThief 19 = .ok (.aload_n 0, 1) := by decide +kernel
theorem d_M_readsThief_20 : decode b_M_readsThief 20 = .ok (.getfield 134, 3) := by decide +kernel
theorem d_M_readsThief_23 : decode b_M_readsThief 23 = .ok (.bipush 6, 2) := by decide +kernel
theorem d_M_readsThief_25 : decode b_M_readsThief 25 = .ok (.if_icmp .ne 5, 3) := by decide +kernel
theorem d_M_readsThief_28 : decode b_M_readsThief 28 = .ok (.iconst 0, 1) := by decide +kernel
theorem d_M_readsThief_29 : decode b_M_readsThief 29 = .ok (.ireturn, 1) := by decide +kernel
theorem d_M_readsThief_30 : decode b_M_readsThief 30 = .ok (.aload_n 0, 1) := by decide +kernel
theorem d_M_readsThief_31 : decode b_M_readsThief 31 = .ok (.dup, 1) := by decide +kernel
theorem d_M_readsThief_32 : decode b_M_readsThief 32 = .ok (.getfield 117, 3) := by decide +kernel
theorem d_M_readsThief_35 : decode b_M_readsThief 35 = .ok (.iconst 1, 1) := by decide +kernel
theorem d_M_readsThief_36 : decode b_M_readsThief 36 = .ok (.iadd, 1) := by decide +kernel
theorem d_M_readsThief_37 : decode b_M_readsThief 37 = .ok (.putfield 117, 3) := by decide +kernel
theorem d_M_readsThief_40 : decode b_M_readsThief 40 = .ok (.iconst 4, 1) := by decide +kernel
theorem d_M_readsThief_41 : decode b_M_readsThief 41 = .ok (.aload_n 0, 1) := by decide +kernel
theorem d_M_readsThief_42 : decode b_M_readsThief 42 = .ok (.getfield 134, 3) := by decide +kernel
theorem d_M_readsThief_45 : decode b_M_readsThief 45 = .ok (.imul, 1) := by decide +kernel
theorem d_M_readsThief_46 : decode b_M_readsThief 46 = .ok (.istore_n 3, 1) := by decide +kernel
theorem d_M_readsThief_47 : decode b_M_readsThief 47 = .ok (.aload_n 0, 1) := by decide +kernel
theorem d_M_readsThief_48 : decode b_M_readsThief 48 = .ok (.getfield 48, 3) := by decide +kernel
theorem d_M_readsThief_51 : decode b_M_readsThief 51 = .ok (.iload_n 3, 1) := by decide +kernel
theorem d_M_readsThief_52 : decode b_M_readsThief 52 = .ok (.iload_n 2, 1) := by decide +kernel
theorem d_M_readsThief_53 : decode b_M_readsThief 53 = .ok (.iastore, 1) := by decide +kernel
theorem d_M_readsThief_54 : decode b_M_readsThief 54 = .ok (.iconst 1, 1) := by decide +kernel
theorem d_M_readsThief_55 : decode b_M_readsThief 55 = .ok (.istore 4, 2) := by decide +kernel
theorem d_M_readsThief_57 : decode b_M_readsThief 57 = .ok (.iload 4, 2) := by decide +kernel
theorem d_M_readsThief_59 : decode b_M_readsThief 59 = .ok (.iconst 4, 1) := by decide +kernel
theorem d_M_readsThief_60 : decode b_M_readsThief 60 = .ok (.if_icmp .ge 52, 3) := by decide +kernel
theorem d_M_readsThief_63 : decode b_M_readsThief 63 = .ok (.aload_n 0, 1) := by decide +kernel
theorem d_M_readsThief_64 : decode b_M_readsThief 64 = .ok (.getfield 48, 3) := by decide +kernel
theorem d_M_readsThief_67 : decode b_M_readsThief 67 = .ok (.iload_n 3, 1) := by decide +kernel
theorem d_M_readsThief_68 : decode b_M_readsThief 68 = .ok (.iload 4, 2) := by decide +kernel
theorem d_M_readsThief_70 : decode b_M_readsThief 70 = .ok (.iadd, 1) := by decide +kernel
theorem d_M_readsThief_71 : decode b_M_readsThief 71 = .ok (.aload_n 0, 1) := by decide +kernel
theorem d_M_readsThief_72 : decode b_M_readsThief 72 = .ok (.iload_n 1, 1) := by decide +kernel
theorem d_M_readsThief_73 : decode b_M_readsThief 73 = .ok (.iconst 0, 1) := by decide +kernel
theorem d_M_readsThief_74 : decode b_M_readsThief 74 = .ok (.iload 4, 2) := by decide +kernel
theorem d_M_readsThief_76 : decode b_M_readsThief 76 = .ok (.iconst 3, 1) := by decide +kernel
theorem d_M_readsThief_77 : decode b_M_readsThief 77 = .ok (.if_icmp .ge 8, 3) := by decide +kernel
theorem d_M_readsThief_80 : decode b_M_readsThief 80 = .ok (.bipush 9, 2) := by decide +kernel
theorem d_M_readsThief_82 : decode b_M_readsThief 82 = .ok (.goto 4, 3) := by decide +kernel
theorem d_M_readsThief_85 : decode b_M_readsThief 85 = .ok (.iconst 2, 1) := by decide +kernel
theorem d_M_readsThief_86 : decode b_M_readsThief 86 = .ok (.invokevirtual 123, 3) := by decide +kernel
theorem d_M_readsThief_89 : decode b_M_readsThief 89 = .ok (.iastore, 1) := by decide +kernel
theorem d_M_readsThief_90 : decode b_M_readsThief 90 = .ok (.aload_n 0, 1) := by decide +kernel
theorem d_M_readsThief_91 : decode b_M_readsThief 91 = .ok (.getfield 48, 3) := by decide +kernel
theorem d_M_readsThief_94 : decode b_M_readsThief 94 = .ok (.iload_n 3, 1) := by decide +kernel
theorem d_M_readsThief_95 : decode b_M_readsThief 95 = .ok (.iload 4, 2) := by decide +kernel
theorem d_M_readsThief_97 : decode b_M_readsThief 97 = .ok (.iadd, 1) := by decide +kernel
theorem d_M_readsThief_98 : decode b_M_readsThief 98 = .ok (.iaload, 1) := by decide +kernel
theorem d_M_readsThief_99 : decode b_M_readsThief 99 = .ok (.bipush (-9), 2) := by decide +kernel
theorem d_M_readsThief_101 : decode b_M_readsThief 101 = .ok (.if_icmp .ne 5, 3) := by decide +kernel
theorem d_M_readsThief_104 : decode b_M_readsThief 104 = .ok (.iconst 0, 1) := by decide +kernel
theorem d_M_readsThief_105 : decode b_M_readsThief 105 = .ok (.ireturn, 1) := by decide +kernel
theorem d_M_readsThief_106 : decode b_M_readsThief 106 = .ok (.iinc 4 1, 3) := by decide +kernel
theorem d_M_readsThief_109 : decode b_M_readsThief 109 = .ok (.goto (-52), 3) := by decide +kernel
theorem d_M_readsThief_112 : decode b_M_readsThief 112 = .ok (.aload_n 0, 1) := by decide +kernel
theorem d_M_readsThief_113 : decode b_M_readsThief 113 = .ok (.dup, 1) := by decide +kernel
theorem d_M_readsThief_114 : decode b_M_readsThief 114 = .ok (.getfield 134, 3) := by decide +kernel
theorem d_M_readsThief_117 : decode b_M_readsThief 117 = .ok (.iconst 1, 1) := by decide +kernel
theorem d_M_readsThief_118 : decode b_M_readsThief 118 = .ok (.iadd, 1) := by decide +kernel
theorem d_M_readsThief_119 : decode b_M_readsThief 119 = .ok (.putfield 134, 3) := by decide +kernel
theorem d_M_readsThief_122 : decode b_M_readsThief 122 = .ok (.iconst 1, 1) := by decide +kernel
theorem d_M_readsThief_123 : decode b_M_readsThief 123 = .ok (.ireturn, 1) := by decide +kernel
theorem mo_M_readsThief : mok y_M_readsThief b_M_readsThief 5 (some .boolean) 1 := ⟨List.mem_of_getElem? (i := 1188) (by decide +kernel), ⟨by decide +kernel, by decide +kernel, by decide +kernel⟩, List.mem_of_getElem? (i := 86) (by decide +kernel), by decide⟩
set_option maxHeartbeats 4000000 in
theorem L_M_readsThief_57 {X : FX} {u : Un} (hA : Ap u) {Q : State → Prop} (F : Fr X u "TakerBookModel" b_M_readsThief 5) {σ : St} {t N : Nat} (ht : t < 4) (hN : N ≤ 60) (eN : σ.1 68 t = nI N) {p m : Nat} (hp5 : p < N) (hm : m < 6) {x17 : Nat} {g g4 : Nat → Int32} (k0 : ∀ (j : Nat) (τ : St), fr σ τ → τ.1 63 15 = nI (p + 1 + ffk (bMf σ t N) loT hiT (p + 1) 3) → ¬ ffk (bMf σ t N) loT hiT (p + 1) 3 = 3 → V X u 2 5 Q 104 [(0, .ref (u.2.1 63))] [] (τ)) (k1 : ∀ (j : Nat) (τ : St), fr σ τ → τ.1 63 15 = nI (p + 4) → ffk (bMf σ t N) loT hiT (p + 1) 3 = 3 → τ.1 63 16 = nI m → τ.1 63 17 = nI x17 → (∀ i, τ.1 74 i = g4 i) → (∀ i, i ≤ 4 * m → τ.1 75 i = g i) → (∀ i, i < 3 → τ.1 75 (4 * m + (i + 1)) = bMf σ t N (p + 1 + i) - 48) → V X u 2 5 Q 112 [(0, .ref (u.2.1 63))] [] (τ))  : ∀ (nn : Nat) (j : Nat) (τ : St), j ≤ 3 → fr σ τ → τ.1 63 15 = nI (p + 1 + j) → ffk (bMf σ t N) loT hiT (p + 1) j = j → τ.1 63 16 = nI m → τ.1 63 17 = nI x17 → (∀ i, τ.1 74 i = g4 i) → (∀ i, i ≤ 4 * m → τ.1 75 i = g i) → (∀ i, i < j → τ.1 75 (4 * m + (i + 1)) = bMf σ t N (p + 1 + i) - 48) → 3 - j < nn → V X u 2 5 Q 57 [(0, .ref (u.2.1 63)), (1, .int (nI t)), (3, .int (nI (4 * m))), (4, .int (nI (j + 1)))] [] (τ) := by
  intro nn
  induction nn with
  | zero =>
    intro j τ hj fτ h15 hff h16 h17 h74 hkp hd h2
    exact absurd h2 (Nat.not_lt_zero _)
  | succ nn ih =>
    intro j τ hj fτ h15 hff h16 h17 h74 hkp hd hm
    refine v_iload F d_M_readsThief_57 3 rfl ?_
    refine v_iconst (v := 4) F d_M_readsThief_59 ki_4 ?_
    refine v_icmp_ge F 112 d_M_readsThief_60 rfl (fun h60 => ?_) (fun h60 => ?_)
    · skip
      have h60 : 4 ≤ j + 1 := (nI_leI (a := 4) (b := j + 1) (by omega) (by omega)).mp h60
      refine v_sub [0] (ls' := [(0, .ref (u.2.1 63))]) rfl ?_
      exact k1 j τ fτ (by have e : j = 3 := (by omega); subst e; exact h15) (by have e : j = 3 := (by omega); subst e; exact hff) h16 h17 h74 hkp (by have e : j = 3 := (by omega); subst e; exact hd)
    · skip
      have h60 : ¬ 4 ≤ j + 1 := fun q => h60 ((nI_leI (a := 4) (b := j + 1) (by omega) (by omega)).mpr q)
      refine v_aload_n F d_M_readsThief_63 rfl 0 rfl ?_
      refine v_getr (r := 75) F fk_M_48 G63 rfl d_M_readsThief_64 ?_
      refine v_iload_n F d_M_readsThief_67 rfl 2 rfl ?_
      refine v_iload F d_M_readsThief_68 3 rfl ?_
      refine v_iadd F d_M_readsThief_70 ?_
      refine v_te (y := nI (4 * m + j + 1)) (nI_add _ _) ?_
      refine v_aload_n F d_M_readsThief_71 rfl 0 rfl ?_
      refine v_iload_n F d_M_readsThief_72 rfl 1 rfl ?_
      refine v_iconst (v := 0) F d_M_readsThief_73 ki_0 ?_
      refine v_iload F d_M_readsThief_74 3 rfl ?_
      refine v_iconst (v := 3) F d_M_readsThief_76 ki_3 ?_
      refine v_icmp_ge F 85 d_M_readsThief_77 rfl (fun h77 => ?_) (fun h77 => ?_)
      · skip
        have h77 : 3 ≤ j + 1 := (nI_leI (a := 3) (b := j + 1) (by omega) (by omega)).mp h77
        refine v_iconst (v := 2) F d_M_readsThief_85 ki_2 ?_
        refine v_runi (r_V F (c_M_figure X.2.1 u hA fτ ht hN eN (p + 1 + j) h15 (by omega) 0 2) mo_M_figure st_M_123 rc_63 (by decide) rfl (Nat.le_of_ble_eq_true rfl) d_M_readsThief_86) (fun r1 σ2 q3 => ?_)
        rcases q3 with ⟨hc, rfl, eσ2⟩ | ⟨hc, rfl, rfl⟩
        · skip
          have fσ2 : fr σ σ2 := by rw [eσ2]; exact fτ.u rfl
          refine v_ias F (4 * m + j + 1) G75 rfl (by omega) d_M_readsThief_89 ?_
          refine v_ns (fun σ4 eσ4 => ?_)
          have fσ4 : fr σ σ4 := by rw [eσ4]; exact fσ2.u rfl
          refine v_aload_n F d_M_readsThief_90 rfl 0 rfl ?_
          refine v_getr (r := 75) F fk_M_48 G63 rfl d_M_readsThief_91 ?_
          refine v_iload_n F d_M_readsThief_94 rfl 2 rfl ?_
          refine v_iload F d_M_readsThief_95 3 rfl ?_
          refine v_iadd F d_M_readsThief_97 ?_
          refine v_te (y := nI (4 * m + j + 1)) (nI_add _ _) ?_
          refine v_ial F (4 * m + j + 1) G75 rfl (by omega) d_M_readsThief_98 ?_
          refine v_te (y := bMf σ t N (p + 1 + j) - 48) (by rw [eσ4, uI_s]) ?_
          refine v_bipush (v := (-9)) F d_M_readsThief_99 kb_m9 ?_
          refine v_icmp_ne F 106 d_M_readsThief_101 rfl (fun h101 => ?_) (fun h101 => ?_)
          · skip
            refine v_iinc (v := nI (j + 1 + 1)) (ls' := [(4, .int (nI (j + 1 + 1))), (0, .ref (u.2.1 63)), (1, .int (nI t)), (3, .int (nI (4 * m)))]) F d_M_readsThief_106 (j := 3) rfl (nI_inc _) (by decide) rfl ?_
            refine v_goto F 57 d_M_readsThief_109 rfl ?_
            refine v_sub [1, 2, 3, 0] (ls' := [(0, .ref (u.2.1 63)), (1, .int (nI t)), (3, .int (nI (4 * m))), (4, .int (nI (j + 1 + 1)))]) rfl ?_
            have g5 : (nI (j + 1 + 1)) = (nI ((j + 1) + 1)) := (by first | rfl | (simp_all; done) | grind)
            refine v_to (ls' := [(0, .ref (u.2.1 63)), (1, .int (nI t)), (3, .int (nI (4 * m))), (4, .int (nI ((j + 1) + 1)))]) (by first | rfl | rw [g5] | simp_all) ?_
            exact ih (j + 1) (σ4) (by omega) fσ4 (by subst_vars; rw [uI_o _ _ _ _ (by decide), uI_s]; first | done | rfl) (ffk_t hff (by have e := lhT j (by omega); unfold okD; rw [e.1]; first | (rw [e.2.1 (by omega)]; exact hc) | (rw [e.2.2 (by omega)]; exact hc))) (by subst_vars; (repeat (first | rw [uI_o _ _ _ _ (by decide)] | rw [uI_n _ _ _ _ (by decide)])); exact h16) (by subst_vars; (repeat (first | rw [uI_o _ _ _ _ (by decide)] | rw [uI_n _ _ _ _ (by decide)])); exact h17) (fun i => by subst_vars; rw [uI_o _ _ _ _ (by decide), uI_o _ _ _ _ (by decide)]; exact h74 i) (fun i hi => by subst_vars; rw [uI_n _ _ _ _ (by omega), uI_o _ _ _ _ (by decide)]; exact hkp i hi) (fun i hi => by subst_vars; exact rt_s (f := fun i => bMf σ t N (p + 1 + i) - 48) hd i hi) (by omega)
          · (exfalso; rw [h101] at hc; exact absurd hc.1 (by decide))
        · skip
          refine v_ias F (4 * m + j + 1) G75 rfl (by omega) d_M_readsThief_89 ?_
          refine v_ns (fun σ6 eσ6 => ?_)
          have fσ6 : fr σ σ6 := by rw [eσ6]; exact fτ.u rfl
          refine v_aload_n F d_M_readsThief_90 rfl 0 rfl ?_
          refine v_getr (r := 75) F fk_M_48 G63 rfl d_M_readsThief_91 ?_
          refine v_iload_n F d_M_readsThief_94 rfl 2 rfl ?_
          refine v_iload F d_M_readsThief_95 3 rfl ?_
          refine v_iadd F d_M_readsThief_97 ?_
          refine v_te (y := nI (4 * m + j + 1)) (nI_add _ _) ?_
          refine v_ial F (4 * m + j + 1) G75 rfl (by omega) d_M_readsThief_98 ?_
          refine v_te (y := (-9)) (by rw [eσ6, uI_s]) ?_
          refine v_bipush (v := (-9)) F d_M_readsThief_99 kb_m9 ?_
          refine v_icmp_ne F 106 d_M_readsThief_101 rfl (fun h => absurd (by decide) h) (fun _ => ?_)
          refine v_sub [0] (ls' := [(0, .ref (u.2.1 63))]) rfl ?_
          exact k0 j σ6 fσ6 (by rw [ffk_n hff (by have e := lhT j (by omega); unfold okD; rw [e.1]; first | (rw [e.2.1 (by omega)]; exact hc) | (rw [e.2.2 (by omega)]; exact hc)) (by omega)]; exact (by subst_vars; rw [uI_o _ _ _ _ (by decide)]; exact h15)) (by rw [ffk_n hff (by have e := lhT j (by omega); unfold okD; rw [e.1]; first | (rw [e.2.1 (by omega)]; exact hc) | (rw [e.2.2 (by omega)]; exact hc)) (by omega)]; omega)
      · skip
        have h77 : ¬ 3 ≤ j + 1 := fun q => h77 ((nI_leI (a := 3) (b := j + 1) (by omega) (by omega)).mpr q)
        refine v_bipush (v := 9) F d_M_readsThief_80 kb_9 ?_
        refine v_goto F 86 d_M_readsThief_82 rfl ?_
        refine v_runi (r_V F (c_M_figure X.2.1 u hA fτ ht hN eN (p + 1 + j) h15 (by omega) 0 9) mo_M_figure st_M_123 rc_63 (by decide) rfl (Nat.le_of_ble_eq_true rfl) d_M_readsThief_86) (fun r7 σ8 q9 => ?_)
        rcases q9 with ⟨hc, rfl, eσ8⟩ | ⟨hc, rfl, rfl⟩
        · skip
          have fσ8 : fr σ σ8 := by rw [eσ8]; exact fτ.u rfl
          refine v_ias F (4 * m + j + 1) G75 rfl (by omega) d_M_readsThief_89 ?_
          refine v_ns (fun σ10 eσ10 => ?_)
          have fσ10 : fr σ σ10 := by rw [eσ10]; exact fσ8.u rfl
          refine v_aload_n F d_M_readsThief_90 rfl 0 rfl ?_
          refine v_getr (r := 75) F fk_M_48 G63 rfl d_M_readsThief_91 ?_
          refine v_iload_n F d_M_readsThief_94 rfl 2 rfl ?_
          refine v_iload F d_M_readsThief_95 3 rfl ?_
          refine v_iadd F d_M_readsThief_97 ?_
          refine v_te (y := nI (4 * m + j + 1)) (nI_add _ _) ?_
          refine v_ial F (4 * m + j + 1) G75 rfl (by omega) d_M_readsThief_98 ?_
          refine v_te (y := bMf σ t N (p + 1 + j) - 48) (by rw [eσ10, uI_s]) ?_
          refine v_bipush (v := (-9)) F d_M_readsThief_99 kb_m9 ?_
          refine v_icmp_ne F 106 d_M_readsThief_101 rfl (fun h101 => ?_) (fun h101 => ?_)
          · skip
            refine v_iinc (v := nI (j + 1 + 1)) (ls' := [(4, .int (nI (j + 1 + 1))), (0, .ref (u.2.1 63)), (1, .int (nI t)), (3, .int (nI (4 * m)))]) F d_M_readsThief_106 (j := 3) rfl (nI_inc _) (by decide) rfl ?_
            refine v_goto F 57 d_M_readsThief_109 rfl ?_
            refine v_sub [1, 2, 3, 0] (ls' := [(0, .ref (u.2.1 63)), (1, .int (nI t)), (3, .int (nI (4 * m))), (4, .int (nI (j + 1 + 1)))]) rfl ?_
            have g11 : (nI (j + 1 + 1)) = (nI ((j + 1) + 1)) := (by first | rfl | (simp_all; done) | grind)
            refine v_to (ls' := [(0, .ref (u.2.1 63)), (1, .int (nI t)), (3, .int (nI (4 * m))), (4, .int (nI ((j + 1) + 1)))]) (by first | rfl | rw [g11] | simp_all) ?_
            exact ih (j + 1) (σ10) (by omega) fσ10 (by subst_vars; rw [uI_o _ _ _ _ (by decide), uI_s]; first | done | rfl) (ffk_t hff (by have e := lhT j (by omega); unfold okD; rw [e.1]; first | (rw [e.2.1 (by omega)]; exact hc) | (rw [e.2.2 (by omega)]; exact hc))) (by subst_vars; (repeat (first | rw [uI_o _ _ _ _ (by decide)] | rw [uI_n _ _ _ _ (by decide)])); exact h16) (by subst_vars; (repeat (first | rw [uI_o _ _ _ _ (by decide)] | rw [uI_n _ _ _ _ (by decide)])); exact h17) (fun i => by subst_vars; rw [uI_o _ _ _ _ (by decide), uI_o _ _ _ _ (by decide)]; exact h74 i) (fun i hi => by subst_vars; rw [uI_n _ _ _ _ (by omega), uI_o _ _ _ _ (by decide)]; exact hkp i hi) (fun i hi => by subst_vars; exact rt_s (f := fun i => bMf σ t N (p + 1 + i) - 48) hd i hi) (by omega)
          · (exfalso; rw [h101] at hc; exact absurd hc.1 (by decide))
        · skip
          refine v_ias F (4 * m + j + 1) G75 rfl (by omega) d_M_readsThief_89 ?_
          refine v_ns (fun σ12 eσ12 => ?_)
          have fσ12 : fr σ σ12 := by rw [eσ12]; exact fτ.u rfl
          refine v_aload_n F d_M_readsThief_90 rfl 0 rfl ?_
          refine v_getr (r := 75) F fk_M_48 G63 rfl d_M_readsThief_91 ?_
          refine v_iload_n F d_M_readsThief_94 rfl 2 rfl ?_
          refine v_iload F d_M_readsThief_95 3 rfl ?_
          refine v_iadd F d_M_readsThief_97 ?_
          refine v_te (y := nI (4 * m + j + 1)) (nI_add _ _) ?_
          refine v_ial F (4 * m + j + 1) G75 rfl (by omega) d_M_readsThief_98 ?_
          refine v_te (y := (-9)) (by rw [eσ12, uI_s]) ?_
          refine v_bipush (v := (-9)) F d_M_readsThief_99 kb_m9 ?_
          refine v_icmp_ne F 106 d_M_readsThief_101 rfl (fun h => absurd (by decide) h) (fun _ => ?_)
          refine v_sub [0] (ls' := [(0, .ref (u.2.1 63))]) rfl ?_
          exact k0 j σ12 fσ12 (by rw [ffk_n hff (by have e := lhT j (by omega); unfold okD; rw [e.1]; first | (rw [e.2.1 (by omega)]; exact hc) | (rw [e.2.2 (by omega)]; exact hc)) (by omega)]; exact (by subst_vars; rw [uI_o _ _ _ _ (by decide)]; exact h15)) (by rw [ffk_n hff (by have e := lhT j (by omega); unfold okD; rw [e.1]; first | (rw [e.2.1 (by omega)]; exact hc) | (rw [e.2.2 (by omega)]; exact hc)) (by omega)]; omega)
set_option maxHeartbeats 4000000 in
theorem c_M_readsThief (l : Launch) (u : Un) (hA : Ap u) {σ τ : St} (fτ : fr σ τ) {t N : Nat} (ht : t < 4) (hN : N ≤ 60) (eN : σ.1 68 t = nI N) (p m : Nat) (hp : τ.1 63 15 = nI p) (hp5 : p < N) (hm : τ.1 63 16 = nI m) (hm6 : m ≤ 6) (x17 : Nat) (h17 : τ.1 63 17 = nI x17) : MTi l u y_M_readsThief b_M_readsThief 5 .boolean 2 [.ref (u.2.1 63), .int (nI t)] τ (fun ans σ' => ((kbF (bMf σ t N p) = -9 ∨ m = 6) ∧ 0 = ans ∧ τ = σ') ∨ (¬ (kbF (bMf σ t N p) = -9 ∨ m = 6) ∧ ¬ ffk (bMf σ t N) loT hiT (p + 1) 3 = 3 ∧ 0 = ans ∧ fr σ σ' ∧ σ'.1 63 15 = nI (p + 1 + ffk (bMf σ t N) loT hiT (p + 1) 3)) ∨ (¬ (kbF (bMf σ t N p) = -9 ∨ m = 6) ∧ ffk (bMf σ t N) loT hiT (p + 1) 3 = 3 ∧ 1 = ans ∧ fr σ σ' ∧ σ'.1 63 15 = nI (p + 4) ∧ σ'.1 63 16 = nI (m + 1) ∧ σ'.1 63 17 = nI x17 ∧ (∀ i, σ'.1 74 i = τ.1 74 i) ∧ (∀ i, i < 4 * m → σ'.1 75 i = τ.1 75 i) ∧ σ'.1 75 (4 * m) = kbF (bMf σ t N p) ∧ ∀ k, k < 3 → σ'.1 75 (4 * m + (k + 1)) = bMf σ t N (p + 1 + k) - 48)) := by
  refine MT_of hA rfl (by decide) (Nat.le_of_ble_eq_true rfl) (fun X hl F hr => ?_)
  subst hl
  refine v_to (ls' := [(0, .ref (u.2.1 63)), (1, .int (nI t))]) rfl ?_
  refine v_aload_n F d_M_readsThief_0 rfl 0 rfl ?_
  refine v_iload_n F d_M_readsThief_1 rfl 1 rfl ?_
  refine v_aload_n F d_M_readsThief_2 rfl 0 rfl ?_
  refine v_geti F fk_M_117 G63 rfl d_M_readsThief_3 ?_
  refine v_te (y := nI p) hp ?_
  refine v_runi (r_V F (c_M_byteAt X.2.1 u hA fτ ht hN eN p (by omega)) mo_M_byteAt st_M_120 rc_63 (by decide) rfl (Nat.le_of_ble_eq_true rfl) d_M_readsThief_6) (fun r1 σ2 q3 => ?_)
  obtain ⟨rfl, rfl⟩ := q3
  refine v_runi (r_S F (c_M_kindBy X.2.1 u hA τ (bMf σ t N p) ) mo_M_kindBy st_M_131 (by decide) rfl (Nat.le_of_ble_eq_true rfl) d_M_readsThief_9) (fun r4 σ5 q6 => ?_)
  obtain ⟨rfl, rfl⟩ := q6
  refine v_istore_n (ls' := [(2, .int (kbF (bMf σ t N p))), (0, .ref (u.2.1 63)), (1, .int (nI t))]) F d_M_readsThief_12 rfl (by decide) rfl ?_
  refine v_iload_n F d_M_readsThief_13 rfl 0 rfl ?_
  refine v_bipush (v := (-9)) F d_M_readsThief_14 kb_m9 ?_
  refine v_icmp_eq F 28 d_M_readsThief_16 rfl (fun h16 => ?_) (fun h16 => ?_)
  · skip
    refine v_iconst (v := 0) F d_M_readsThief_28 ki_0 ?_
    refine v_iret F hr rfl d_M_readsThief_29 ?_
    exact Or.inl ⟨by first | exact Or.inl (by assumption) | exact Or.inr (by assumption), rfl, rfl⟩
  · skip
    refine v_aload_n F d_M_readsThief_19 rfl 1 rfl ?_
    refine v_geti F fk_M_134 G63 rfl d_M_readsThief_20 ?_
    refine v_te (y := nI m) hm ?_
    refine v_bipush (v := 6) F d_M_readsThief_23 kb_6 ?_
    refine v_icmp_ne F 30 d_M_readsThief_25 rfl (fun h25 => ?_) (fun h25 => ?_)
    · skip
      have h25 : ¬ m = 6 := fun q => h25 ((nI_eq (a := m) (b := 6) (by omega) (by omega)).mpr q)
      refine v_aload_n F d_M_readsThief_30 rfl 1 rfl ?_
      refine v_dup F d_M_readsThief_31 rfl ?_
      refine v_geti F fk_M_117 G63 rfl d_M_readsThief_32 ?_
      refine v_te (y := nI p) hp ?_
      refine v_iconst (v := 1) F d_M_readsThief_35 ki_1 ?_
      refine v_iadd F d_M_readsThief_36 ?_
      refine v_te (y := nI (p + 1)) (nI_add _ _) ?_
      refine v_puti F fk_M_117 pk_M_readAt G63 rfl d_M_readsThief_37 ?_
      refine v_ns (fun σ7 eσ7 => ?_)
      have fσ7 : fr σ σ7 := by rw [eσ7]; exact fτ.u rfl
      refine v_iconst (v := 4) F d_M_readsThief_40 ki_4 ?_
      refine v_aload_n F d_M_readsThief_41 rfl 1 rfl ?_
      refine v_geti F fk_M_134 G63 rfl d_M_readsThief_42 ?_
      refine v_te (y := nI m) (by subst_vars; rw [uI_n _ _ _ _ (by decide)]; exact hm) ?_
      refine v_imul F d_M_readsThief_45 ?_
      refine v_te (y := nI (4 * m)) (pk_mul _ _) ?_
      refine v_istore_n (ls' := [(3, .int (nI (4 * m))), (2, .int (kbF (bMf σ t N p))), (0, .ref (u.2.1 63)), (1, .int (nI t))]) F d_M_readsThief_46 rfl (by decide) rfl ?_
      refine v_aload_n F d_M_readsThief_47 rfl 2 rfl ?_
      refine v_getr (r := 75) F fk_M_48 G63 rfl d_M_readsThief_48 ?_
      refine v_iload_n F d_M_readsThief_51 rfl 0 rfl ?_
      refine v_iload_n F d_M_readsThief_52 rfl 1 rfl ?_
      refine v_ias F (4 * m) G75 rfl (by omega) d_M_readsThief_53 ?_
      refine v_ns (fun σ8 eσ8 => ?_)
      have fσ8 : fr σ σ8 := by rw [eσ8]; exact fσ7.u rfl
      refine v_iconst (v := 1) F d_M_readsThief_54 ki_1 ?_
      refine v_istore (ls' := [(4, .int 1), (3, .int (nI (4 * m))), (2, .int (kbF (bMf σ t N p))), (0, .ref (u.2.1 63)), (1, .int (nI t))]) F d_M_readsThief_55 (by decide) rfl ?_
      refine v_sub [3, 4, 1, 0] (ls' := [(0, .ref (u.2.1 63)), (1, .int (nI t)), (3, .int (nI (4 * m))), (4, .int 1)]) rfl ?_
      have g9 : 1 = (nI (0 + 1)) := (by first | rfl | (simp_all; done) | grind)
      refine v_to (ls' := [(0, .ref (u.2.1 63)), (1, .int (nI t)), (3, .int (nI (4 * m))), (4, .int (nI (0 + 1)))]) (by first | rfl | rw [g9] | simp_all) ?_
      refine L_M_readsThief_57 hA F ht hN eN (p := p) (m := m) hp5 (by omega) (x17 := x17) (g := fun i => if i = 4 * m then kbF (bMf σ t N p) else τ.1 75 i) (g4 := fun i => τ.1 74 i) (fun j ρ fρ q15 qff => ?_) (fun j ρ fρ q15 qff q16 q17 q74 qkp qd => ?_) _ 0 σ8 (Nat.zero_le _) fσ8 (by subst_vars; rw [uI_o _ _ _ _ (by decide), uI_s]) rfl (by subst_vars; rw [uI_o _ _ _ _ (by decide), uI_n _ _ _ _ (by decide)]; exact hm) (by subst_vars; rw [uI_o _ _ _ _ (by decide), uI_n _ _ _ _ (by decide)]; exact h17) (fun i => by subst_vars; rw [uI_o _ _ _ _ (by decide), uI_o _ _ _ _ (by decide)]) (fun i hi => by subst_vars; exact (if h : i = 4 * m then (by rw [h, uI_s, if_pos rfl]) else (by rw [uI_n _ _ _ _ h, uI_o _ _ _ _ (by decide), if_neg h]))) (fun i hi => absurd hi (Nat.not_lt_zero _)) (Nat.lt_succ_self _)
      · skip
        refine v_iconst (v := 0) F d_M_readsThief_104 ki_0 ?_
        refine v_iret F hr rfl d_M_readsThief_105 ?_
        exact Or.inr (Or.inl ⟨fun q => q.elim (by assumption) (by assumption), qff, rfl, fρ, q15⟩)
      · skip
        refine v_aload_n F d_M_readsThief_112 rfl 0 rfl ?_
        refine v_dup F d_M_readsThief_113 rfl ?_
        refine v_geti F fk_M_134 G63 rfl d_M_readsThief_114 ?_
        refine v_te (y := nI m) q16 ?_
        refine v_iconst (v := 1) F d_M_readsThief_117 ki_1 ?_
        refine v_iadd F d_M_readsThief_118 ?_
        refine v_te (y := nI (m + 1)) (nI_add _ _) ?_
        refine v_puti F fk_M_134 pk_M_readMany G63 rfl d_M_readsThief_119 ?_
        refine v_ns (fun σ10 eσ10 => ?_)
        have fσ10 : fr σ σ10 := by rw [eσ10]; exact fρ.u rfl
        refine v_iconst (v := 1) F d_M_readsThief_122 ki_1 ?_
        refine v_iret F hr rfl d_M_readsThief_123 ?_
        exact Or.inr (Or.inr ⟨fun q => q.elim (by assumption) (by assumption), qff, rfl, fσ10, (by rw [eσ10, uI_n _ _ _ _ (by decide)]; exact q15), (by rw [eσ10, uI_s]), (by rw [eσ10, uI_n _ _ _ _ (by decide)]; exact q17), (fun i => by rw [eσ10, uI_o _ _ _ _ (by decide)]; exact q74 i), (fun i hi => by rw [eσ10, uI_o _ _ _ _ (by decide), qkp i (by omega), if_neg (by omega)]), (by rw [eσ10, uI_o _ _ _ _ (by decide), qkp _ (Nat.le_refl _), if_pos rfl]), (fun k hk => by rw [eσ10, uI_o _ _ _ _ (by decide)]; exact qd k hk)⟩)
    · skip
      have h25 : m = 6 := (nI_eq (a := m) (b := 6) (by omega) (by omega)).mp h25
      refine v_iconst (v := 0) F d_M_readsThief_28 ki_0 ?_
      refine v_iret F hr rfl d_M_readsThief_29 ?_
      exact Or.inl ⟨by first | exact Or.inl (by assumption) | exact Or.inr (by assumption), rfl, rfl⟩
