theorem st_K_39 : siteV "TakerBook$Marks" 39 ⟨"TakerBook$Marks", "begin", "(LTakerBook$Band;)V"⟩ := ⟨List.mem_of_getElem? (i := 739) (by decide +kernel), List.mem_of_getElem? (i := 741) (by decide +kernel), List.mem_of_getElem? (i := 10) (by decide +kernel)⟩
theorem st_K_70 : siteV "TakerBook$Marks" 70 ⟨"TakerBook$Marks", "turn", "(III)I"⟩ := ⟨List.mem_of_getElem? (i := 883) (by decide +kernel), List.mem_of_getElem? (i := 885) (by decide +kernel), List.mem_of_getElem? (i := 24) (by decide +kernel)⟩
theorem st_K_61 : siteV "TakerBook$Marks" 61 ⟨"TakerBook$Band", "talkers", "(I)I"⟩ := ⟨List.mem_of_getElem? (i := 881) (by decide +kernel), List.mem_of_getElem? (i := 646) (by decide +kernel), List.mem_of_getElem? (i := 647) (by decide +kernel)⟩
theorem st_K_65 : siteS "TakerBook$Marks" 65 ⟨"java/lang/Integer", "bitCount", "(I)I"⟩ := ⟨List.mem_of_getElem? (i := 882) (by decide +kernel), List.mem_of_getElem? (i := 556) (by decide +kernel)⟩
theorem fk_T_50 : fok "TakerBook" 50 0 7 := ⟨(R_T, F_T, 15), rfl, by decide, List.mem_of_getElem? (i := 362) (by decide +kernel), rfl⟩
theorem st_T_194 : siteV "TakerBook" 194 ⟨"TakerBook$Marks", "seekFewest", "(LTakerBook$Band;)V"⟩ := ⟨List.mem_of_getElem? (i := 735) (by decide +kernel), List.mem_of_getElem? (i := 736) (by decide +kernel), List.mem_of_getElem? (i := 737) (by decide +kernel)⟩
theorem fk_T_198 : fok "TakerBook" 198 3 4 := ⟨(R_K, F_K, 6), rfl, by decide, List.mem_of_getElem? (i := 319) (by decide +kernel), rfl⟩
theorem fk_T_201 : fok "TakerBook" 201 3 5 := ⟨(R_K, F_K, 6), rfl, by decide, List.mem_of_getElem? (i := 321) (by decide +kernel), rfl⟩
theorem st_T_277 : siteV "TakerBook" 277 ⟨"TakerBook$Marks", "byTurns", "(LTakerBook$Band;I)I"⟩ := ⟨List.mem_of_getElem? (i := 877) (by decide +kernel), List.mem_of_getElem? (i := 878) (by decide +kernel), List.mem_of_getElem? (i := 879) (by decide +kernel)⟩
theorem c_K_seekFrom (l : Launch) (u : Un) (hA : Ap u) {L : Nat} {cr : Nat → Nat} {b : Int32} {τ : St} (hl : τ.1 40 2 = nI L) (hL64 : L < 64) (hbn : τ.1 40 3 = b) (hcr : ∀ i, i < 6 → L.testBit i = true → τ.1 48 i = nI (cr i) ∧ cr i ≤ 2) : ∀ (kk i : Nat) (hi : i + kk = 6) (p : Int32 × Int32) (mm sp tw : Int32), MTv l u y_K_seekFrom b_K_seekFrom 6 (kk + 1) [.ref (u.2.1 40), .int (nI i), .int mm, .int sp, .int tw] (kS τ p) (fun σ' => σ' = kS τ (skF L cr (tkC τ) b kk mm sp tw p))
  | 0, i, hi, p, mm, sp, tw => c_K_seekFrom0 l u hA hl hL64 hbn hcr (by omega) p mm sp tw
  | kk + 1, i, hi, p, mm, sp, tw => c_K_seekFrom1 l u hA hl hL64 hbn hcr hi p mm sp tw (fun p mm sp tw => c_K_seekFrom l u hA hl hL64 hbn hcr kk (i + 1) (by omega) p mm sp tw)
abbrev b_K_seekFewest : ByteArray := prog_7_method_3_code
abbrev y_K_seekFewest : MethodName := ⟨"TakerBook$Marks", "seekFewest", "(LTakerBook$Band;)V"⟩
theorem d_K_seekFewest_0 : decode b_K_seekFewest 0 = .ok (.aload_n 0, 1) := by decide +kernel
theorem d_K_seekFewest_1 : decode b_K_seekFewest 1 = .ok (.aload_n 1, 1) := by decide +kernel
theorem d_K_seekFewest_2 : decode b_K_seekFewest 2 = .ok (.invokevirtual 39, 3) := by decide +kernel
theorem d_K_seekFewest_5 : decode b_K_seekFewest 5 = .ok (.aload_n 0, 1) := by decide +kernel
theorem d_K_seekFewest_6 : decode b_K_seekFewest 6 = .ok (.bipush (-9), 2) := by decide +kernel
theorem d_K_seekFewest_8 : decode b_K_seekFewest 8 = .ok (.putfield 43, 3) := by decide +kernel
theorem d_K_seekFewest_11 : decode b_K_seekFewest 11 = .ok (.aload_n 0, 1) := by decide +kernel
theorem d_K_seekFewest_12 : decode b_K_seekFewest 12 = .ok (.iconst 0, 1) := by decide +kernel
theorem d_K_seekFewest_13 : decode b_K_seekFewest 13 = .ok (.putfield 46, 3) := by decide +kernel
theorem d_K_seekFewest_16 : decode b_K_seekFewest 16 = .ok (.aload_n 0, 1) := by decide +kernel
theorem d_K_seekFewest_17 : decode b_K_seekFewest 17 = .ok (.iconst 0, 1) := by decide +kernel
theorem d_K_seekFewest_18 : decode b_K_seekFewest 18 = .ok (.iconst 0, 1) := by decide +kernel
theorem d_K_seekFewest_19 : decode b_K_seekFewest 19 = .ok (.iconst 0, 1) := by decide +kernel
theorem d_K_seekFewest_20 : decode b_K_seekFewest 20 = .ok (.iconst 0, 1) := by decide +kernel
theorem d_K_seekFewest_21 : decode b_K_seekFewest 21 = .ok (.invokevirtual 49, 3) := by decide +kernel
theorem d_K_seekFewest_24 : decode b_K_seekFewest 24 = .ok (.return_, 1) := by decide +kernel
theorem mo_K_seekFewest : mok y_K_seekFewest b_K_seekFewest 2 none 1 := ⟨List.mem_of_getElem? (i := 738) (by decide +kernel), ⟨by decide +kernel, by decide +kernel, by decide +kernel⟩, List.mem_of_getElem? (i := 84) (by decide +kernel), by decide⟩
set_option maxHeartbeats 4000000 in
theorem c_K_seekFewest (l : Launch) (u : Un) (hA : Ap u) (σ : St) {n G : Nat} {kd : Nat → Nat} (hb : bkOk σ n G kd) {L : Nat} (hL : σ.1 19 14 = nI L) (hL64 : L < 64) {cr : Nat → Nat} (hcr : ∀ i, i < n → σ.1 31 i = nI (cr i) ∧ cr i ≤ 2) (hLn : ∀ i, L.testBit i = true → i < n) : MTv l u y_K_seekFewest b_K_seekFewest 2 8 [.ref (u.2.1 40), .ref (u.2.1 19)] σ (fun σ' => σ' = kS (bgS σ G kd L n) (skF L cr (tkC (bgS σ G kd L n)) (σ.1 19 12) 6 0 0 0 (-9, 0))) := by
  refine MT_of hA rfl (by decide) (Nat.le_of_ble_eq_true rfl) (fun X hl F hr => ?_)
  subst hl
  refine v_to (ls' := [(0, .ref (u.2.1 40)), (1, .ref (u.2.1 19))]) rfl ?_
  obtain ⟨hn, hn6, hG, hG64, hkd, hk6⟩ := id hb
  refine v_aload_n F d_K_seekFewest_0 rfl 0 rfl ?_
  refine v_aload_n F d_K_seekFewest_1 rfl 1 rfl ?_
  refine v_runv (r_V F (c_K_begin X.2.1 u hA σ hb hL hL64) mo_K_begin st_K_39 rc_40 (by decide) rfl (Nat.le_of_ble_eq_true rfl) d_K_seekFewest_2) (fun σ2 q3 => ?_)
  refine v_aload_n F d_K_seekFewest_5 rfl 0 rfl ?_
  refine v_bipush (v := (-9)) F d_K_seekFewest_6 kb_m9 ?_
  refine v_puti F fk_K_43 pk_K_fewest G40 rfl d_K_seekFewest_8 ?_
  refine v_ns (fun σ4 eσ4 => ?_)
  refine v_aload_n F d_K_seekFewest_11 rfl 0 rfl ?_
  refine v_iconst (v := 0) F d_K_seekFewest_12 ki_0 ?_
  refine v_puti F fk_K_46 pk_K_withTwo G40 rfl d_K_seekFewest_13 ?_
  refine v_ns (fun σ5 eσ5 => ?_)
  refine v_st (show σ5 = kS (bgS σ G kd L n) (-9, 0) from (by subst_vars; rfl)) ?_
  refine v_aload_n F d_K_seekFewest_16 rfl 0 rfl ?_
  refine v_iconst (v := 0) F d_K_seekFewest_17 ki_0 ?_
  refine v_iconst (v := 0) F d_K_seekFewest_18 ki_0 ?_
  refine v_iconst (v := 0) F d_K_seekFewest_19 ki_0 ?_
  refine v_iconst (v := 0) F d_K_seekFewest_20 ki_0 ?_
  refine v_runv (r_V F (c_K_seekFrom X.2.1 u hA (τ := (bgS σ G kd L n)) (cr := cr) (bgS_l _ _ _ _ _ hn6) hL64 (bgS_b _ _ _ _ _ hn6) (fun i hi hb => ⟨by rw [bgS_c _ _ _ _ _ hn6 (hLn i hb)]; exact (hcr i (hLn i hb)).1, (hcr i (hLn i hb)).2⟩) 6 0 (by omega) (-9, 0) 0 0 0) mo_K_seekFrom st_K_49 rc_40 (by decide) rfl (Nat.le_of_ble_eq_true rfl) d_K_seekFewest_21) (fun σ7 q8 => ?_)
  refine v_vret F hr d_K_seekFewest_24 ?_
  assumption
abbrev b_K_turn : ByteArray := prog_7_method_6_code
abbrev y_K_turn : MethodName := ⟨"TakerBook$Marks", "turn", "(III)I"⟩
theorem d_K_turn_0 : decode b_K_turn 0 = .ok (.iload_n 1, 1) := by decide +kernel
theorem d_K_turn_1 : decode b_K_turn 1 = .ok (.ifCond .gt 5, 3) := by decide +kernel
theorem d_K_turn_4 : decode b_K_turn 4 = .ok (.iload_n 3, 1) := by decide +kernel
theorem d_K_turn_5 : decode b_K_turn 5 = .ok (.ireturn, 1) := by decide +kernel
theorem d_K_turn_6 : decode b_K_turn 6 = .ok (.aload_n 0, 1) := by decide +kernel
theorem d_K_turn_7 : decode b_K_turn 7 = .ok (.iload_n 1, 1) := by decide +kernel
theorem d_K_turn_8 : decode b_K_turn 8 = .ok (.iconst 1, 1) := by decide +kernel
theorem d_K_turn_9 : decode b_K_turn 9 = .ok (.isub, 1) := by decide +kernel
theorem d_K_turn_10 : decode b_K_turn 10 = .ok (.iload_n 2, 1) := by decide +kernel
theorem d_K_turn_11 : decode b_K_turn 11 = .ok (.ineg, 1) := by decide +kernel
theorem d_K_turn_12 : decode b_K_turn 12 = .ok (.iload_n 3, 1) := by decide +kernel
theorem d_K_turn_13 : decode b_K_turn 13 = .ok (.invokevirtual 70, 3) := by decide +kernel
theorem d_K_turn_16 : decode b_K_turn 16 = .ok (.istore 4, 2) := by decide +kernel
theorem d_K_turn_18 : decode b_K_turn 18 = .ok (.iconst 0, 1) := by decide +kernel
theorem d_K_turn_19 : decode b_K_turn 19 = .ok (.istore 5, 2) := by decide +kernel
theorem d_K_turn_21 : decode b_K_turn 21 = .ok (.iload 5, 2) := by decide +kernel
theorem d_K_turn_23 : decode b_K_turn 23 = .ok (.bipush 6, 2) := by decide +kernel
theorem d_K_turn_25 : decode b_K_turn 25 = .ok (.if_icmp .ge 122, 3) := by decide +kernel
theorem d_K_turn_28 : decode b_K_turn 28 = .ok (.aload_n 0, 1) := by decide +kernel
theorem d_K_turn_29 : decode b_K_turn 29 = .ok (.getfield 16, 3) := by decide +kernel
theorem d_K_turn_32 : decode b_K_turn 32 = .ok (.iload 5, 2) := by decide +kernel
theorem d_K_turn_34 : decode b_K_turn 34 = .ok (.iaload, 1) := by decide +kernel
theorem d_K_turn_35 : decode b_K_turn 35 = .ok (.istore 6, 2) := by decide +kernel
theorem d_K_turn_37 : decode b_K_turn 37 = .ok (.iload 6, 2) := by decide +kernel
theorem d_K_turn_39 : decode b_K_turn 39 = .ok (.iload_n 2, 1) := by decide +kernel
theorem d_K_turn_40 : decode b_K_turn 40 = .ok (.iadd, 1) := by decide +kernel
theorem d_K_turn_41 : decode b_K_turn 41 = .ok (.istore 7, 2) := by decide +kernel
theorem d_K_turn_43 : decode b_K_turn 43 = .ok (.iload 5, 2) := by decide +kernel
theorem d_K_turn_45 : decode b_K_turn 45 = .ok (.aload_n 0, 1) := by decide +kernel
theorem d_K_turn_46 : decode b_K_turn 46 = .ok (.getfield 26, 3) := by decide +kernel
theorem d_K_turn_49 : decode b_K_turn 49 = .ok (.invokestatic 57, 3) := by decide +kernel
theorem d_K_turn_52 : decode b_K_turn 52 = .ok (.ifCond .eq 89, 3) := by decide +kernel
theorem d_K_turn_55 : decode b_K_turn 55 = .ok (.iload 7, 2) := by decide +kernel
theorem d_K_turn_57 : decode b_K_turn 57 = .ok (.ifCond .lt 84, 3) := by decide +kernel
theorem d_K_turn_60 : decode b_K_turn 60 = .ok (.iload 7, 2) := by decide +kernel
theorem d_K_turn_62 : decode b_K_turn 62 = .ok (.iconst 2, 1) := by decide +kernel
theorem d_K_turn_63 : decode b_K_turn 63 = .ok (.if_icmp .gt 78, 3) := by decide +kernel
theorem d_K_turn_66 : decode b_K_turn 66 = .ok (.aload_n 0, 1) := by decide +kernel
theorem d_K_turn_67 : decode b_K_turn 67 = .ok (.getfield 16, 3) := by decide +kernel
theorem d_K_turn_70 : decode b_K_turn 70 = .ok (.iload 5, 2) := by decide +kernel
theorem d_K_turn_72 : decode b_K_turn 72 = .ok (.iload 7, 2) := by decide +kernel
theorem d_K_turn_74 : decode b_K_turn 74 = .ok (.iastore, 1) := by decide +kernel
theorem d_K_turn_75 : decode b_K_turn 75 = .ok (.aload_n 0, 1) := by decide +kernel
theorem d_K_turn_76 : decode b_K_turn 76 = .ok (.iload_n 1, 1) := by decide +kernel
theorem d_K_turn_77 : decode b_K_turn 77 = .ok (.iconst 1, 1) := by decide +kernel
theorem d_K_turn_78 : decode b_K_turn 78 = .ok (.isub, 1) := by decide +kernel
theorem d_K_turn_79 : decode b_K_turn 79 = .ok (.iload_n 2, 1) := by decide +kernel
theorem d_K_turn_80 : decode b_K_turn 80 = .ok (.ineg, 1) := by decide +kernel
theorem d_K_turn_81 : decode b_K_turn 81 = .ok (.iload_n 3, 1) := by decide +kernel
theorem d_K_turn_82 : decode b_K_turn 82 = .ok (.aload_n 0, 1) := by decide +kernel
theorem d_K_turn_83 : decode b_K_turn 83 = .ok (.getfield 11, 3) := by decide +kernel
theorem d_K_turn_86 : decode b_K_turn 86 = .ok (.iload 5, 2) := by decide +kernel
theorem d_K_turn_88 : decode b_K_turn 88 = .ok (.aaload, 1) := by decide +kernel
theorem d_K_turn_89 : decode b_K_turn 89 = .ok (.iload 6, 2) := by decide +kernel
theorem d_K_turn_91 : decode b_K_turn 91 = .ok (.iaload, 1) := by decide +kernel
theorem d_K_turn_92 : decode b_K_turn 92 = .ok (.isub, 1) := by decide +kernel
theorem d_K_turn_93 : decode b_K_turn 93 = .ok (.aload_n 0, 1) := by decide +kernel
theorem d_K_turn_94 : decode b_K_turn 94 = .ok (.getfield 11, 3) := by decide +kernel
theorem d_K_turn_97 : decode b_K_turn 97 = .ok (.iload 5, 2) := by decide +kernel
theorem d_K_turn_99 : decode b_K_turn 99 = .ok (.aaload, 1) := by decide +kernel
theorem d_K_turn_100 : decode b_K_turn 100 = .ok (.iload 7, 2) := by decide +kernel
theorem d_K_turn_102 : decode b_K_turn 102 = .ok (.iaload, 1) := by decide +kernel
theorem d_K_turn_103 : decode b_K_turn 103 = .ok (.iadd, 1) := by decide +kernel
theorem d_K_turn_104 : decode b_K_turn 104 = .ok (.invokevirtual 70, 3) := by decide +kernel
theorem d_K_turn_107 : decode b_K_turn 107 = .ok (.istore 8, 2) := by decide +kernel
theorem d_K_turn_109 : decode b_K_turn 109 = .ok (.aload_n 0, 1) := by decide +kernel
theorem d_K_turn_110 : decode b_K_turn 110 = .ok (.getfield 16, 3) := by decide +kernel
theorem d_K_turn_113 : decode b_K_turn 113 = .ok (.iload 5, 2) := by decide +kernel
theorem d_K_turn_115 : decode b_K_turn 115 = .ok (.iload 6, 2) := by decide +kernel
theorem d_K_turn_117 : decode b_K_turn 117 = .ok (.iastore, 1) := by decide +kernel
theorem d_K_turn_118 : decode b_K_turn 118 = .ok (.iload_n 2, 1) := by decide +kernel
theorem d_K_turn_119 : decode b_K_turn 119 = .ok (.ifCond .le 13, 3) := by decide +kernel
theorem d_K_turn_122 : decode b_K_turn 122 = .ok (.iload 4, 2) := by decide +kernel
theorem d_K_turn_124 : decode b_K_turn 124 = .ok (.iload 8, 2) := by decide +kernel
theorem d_K_turn_126 : decode b_K_turn 126 = .ok (.invokestatic 74, 3) := by decide +kernel
theorem d_K_turn_129 : decode b_K_turn 129 = .ok (.goto 10, 3) := by decide +kernel
theorem d_K_turn_132 : decode b_K_turn 132 = .ok (.iload 4, 2) := by decide +kernel
theorem d_K_turn_134 : decode b_K_turn 134 = .ok (.iload 8, 2) := by decide +kernel
theorem d_K_turn_136 : decode b_K_turn 136 = .ok (.invokestatic 80, 3) := by decide +kernel
theorem d_K_turn_139 : decode b_K_turn 139 = .ok (.istore 4, 2) := by decide +kernel
theorem d_K_turn_141 : decode b_K_turn 141 = .ok (.iinc 5 1, 3) := by decide +kernel
theorem d_K_turn_144 : decode b_K_turn 144 = .ok (.goto (-123), 3) := by decide +kernel
theorem d_K_turn_147 : decode b_K_turn 147 = .ok (.iload 4, 2) := by decide +kernel
theorem d_K_turn_149 : decode b_K_turn 149 = .ok (.ireturn, 1) := by decide +kernel
theorem mo_K_turn : mok y_K_turn b_K_turn 9 (some .int) 3 := ⟨List.mem_of_getElem? (i := 886) (by decide +kernel), ⟨by decide +kernel, by decide +kernel, by decide +kernel⟩, List.mem_of_getElem? (i := 84) (by decide +kernel), by decide⟩
set_option maxHeartbeats 4000000 in
theorem c_K_turn0 (l : Launch) (u : Un) (hA : Ap u) (σ : St) {L : Nat} {tk : Nat → Nat → Int32} (htk : ∀ i, i < 6 → ∀ c, σ.1 (42 + i) c = tk i c) (hl : σ.1 40 2 = nI L) (hL64 : L < 64) (hcf : cfOk L (σ.1 48)) (t st sp : Int32) (ht : ¬ 0 < t) : MTi l u y_K_turn b_K_turn 9 .int (1) [.ref (u.2.1 40), .int t, .int st, .int sp] σ (fun ans σ' => sp = ans ∧ σ = σ') := by
  refine MT_of hA rfl (by decide) (Nat.le_of_ble_eq_true rfl) (fun X hl F hr => ?_)
  subst hl
  refine v_to (ls' := [(0, .ref (u.2.1 40)), (1, .int t), (2, .int st), (3, .int sp)]) rfl ?_
  refine v_iload_n F d_K_turn_0 rfl 1 rfl ?_
  refine v_if_gt F 6 d_K_turn_1 rfl (fun h1 => ?_) (fun h1 => ?_)
  · exact absurd h1 ht
  · skip
    refine v_iload_n F d_K_turn_4 rfl 3 rfl ?_
    refine v_iret F hr rfl d_K_turn_5 ?_
    exact ⟨rfl, rfl⟩
set_option maxHeartbeats 4000000 in
theorem L_K_turn_21 {X : FX} {u : Un} (hA : Ap u) {Q : State → Prop} (F : Fr X u "TakerBook$Marks" b_K_turn 9) {σ : St} {L : Nat} {tk : Nat → Nat → Int32} (htk : ∀ i, i < 6 → ∀ c, σ.1 (42 + i) c = tk i c) (hl : σ.1 40 2 = nI L) (hL64 : L < 64) (hcf : cfOk L (σ.1 48)) {kk : Nat} (hkk : kk ≤ 4) {st sp : Int32} (ihn : ∀ (σ : St) (htk : ∀ i, i < 6 → ∀ c, σ.1 (42 + i) c = tk i c) (hl : σ.1 40 2 = nI L) (hcf : cfOk L (σ.1 48)) (st sp : Int32), MTi X.2.1 u y_K_turn b_K_turn 9 .int (kk + 1) [.ref (u.2.1 40), .int (nI kk), .int st, .int sp] σ (fun ans σ' => tnF L tk kk (σ.1 48) st sp = ans ∧ σ = σ')) (k : V X u (kk + 2) 9 Q 147 [(0, .ref (u.2.1 40)), (1, .int (nI (kk + 1))), (2, .int st), (3, .int sp), (4, .int (itr (tnG L tk (tnF L tk kk) (σ.1 48) st sp) (tnF L tk kk (σ.1 48) (-st) sp) 6)), (5, .int (nI 6))] [] (σ)) : ∀ (nn i : Nat), i ≤ 6 → 6 - i < nn → V X u (kk + 2) 9 Q 21 [(0, .ref (u.2.1 40)), (1, .int (nI (kk + 1))), (2, .int st), (3, .int sp), (4, .int (itr (tnG L tk (tnF L tk kk) (σ.1 48) st sp) (tnF L tk kk (σ.1 48) (-st) sp) i)), (5, .int (nI i))] [] (σ) := by
  intro nn
  induction nn with
  | zero =>
    intro i h1 h2
    exact absurd h2 (Nat.not_lt_zero _)
  | succ nn ih =>
    intro i hii hnn
    refine v_iload F d_K_turn_21 5 rfl ?_
    refine v_bipush (v := 6) F d_K_turn_23 kb_6 ?_
    refine v_icmp_ge F 147 d_K_turn_25 rfl (fun h25 => ?_) (fun h25 => ?_)
    · skip
      have h25 : 6 ≤ i := (nI_leI (a := 6) (b := i) (by omega) (by omega)).mp h25
      have he : i = 6 := by omega
      subst he
      exact k
    · skip
      have h25 : ¬ 6 ≤ i := fun q => h25 ((nI_leI (a := 6) (b := i) (by omega) (by omega)).mpr q)
      refine v_aload_n F d_K_turn_28 rfl 0 rfl ?_
      refine v_getr (r := 48) F fk_K_16 G40 rfl d_K_turn_29 ?_
      refine v_iload F d_K_turn_32 5 rfl ?_
      refine v_ial F i G48 rfl (by omega) d_K_turn_34 ?_
      refine v_ni (fun x1 ex1 => ?_)
      refine v_istore (ls' := [(6, .int x1), (0, .ref (u.2.1 40)), (1, .int (nI (kk + 1))), (2, .int st), (3, .int sp), (4, .int (itr (tnG L tk (tnF L tk kk) (σ.1 48) st sp) (tnF L tk kk (σ.1 48) (-st) sp) i)), (5, .int (nI i))]) F d_K_turn_35 (by decide) rfl ?_
      refine v_iload F d_K_turn_37 0 rfl ?_
      refine v_iload_n F d_K_turn_39 rfl 3 rfl ?_
      refine v_iadd F d_K_turn_40 ?_
      refine v_ni (fun x2 ex2 => ?_)
      refine v_istore (ls' := [(7, .int x2), (6, .int x1), (0, .ref (u.2.1 40)), (1, .int (nI (kk + 1))), (2, .int st), (3, .int sp), (4, .int (itr (tnG L tk (tnF L tk kk) (σ.1 48) st sp) (tnF L tk kk (σ.1 48) (-st) sp) i)), (5, .int (nI i))]) F d_K_turn_41 (by decide) rfl ?_
      refine v_iload F d_K_turn_43 7 rfl ?_
      refine v_aload_n F d_K_turn_45 rfl 2 rfl ?_
      refine v_geti F fk_K_26 G40 rfl d_K_turn_46 ?_
      refine v_te (y := nI L) (by first | exact hl | (subst_vars; rw [uI_o _ _ _ _ (by decide)]; exact hl)) ?_
      refine v_runi (r_N F (c_T_isIn2 X.2.1 u hA σ i L (by omega) (by omega)) mo_T_isIn st_K_57 (by omega) rfl (Nat.le_of_ble_eq_true rfl) d_K_turn_49) (fun r3 σ4 q5 => ?_)
      obtain ⟨rfl, rfl⟩ := q5
      refine v_bt F 141 d_K_turn_52 rfl (fun h52 => ?_) (fun h52 => ?_)
      · skip
        refine v_iinc (v := nI (i + 1)) (ls' := [(5, .int (nI (i + 1))), (7, .int x2), (6, .int x1), (0, .ref (u.2.1 40)), (1, .int (nI (kk + 1))), (2, .int st), (3, .int sp), (4, .int (itr (tnG L tk (tnF L tk kk) (σ.1 48) st sp) (tnF L tk kk (σ.1 48) (-st) sp) i))]) F d_K_turn_141 (j := 7) rfl (nI_inc _) (by decide) rfl ?_
        refine v_goto F 21 d_K_turn_144 rfl ?_
        refine v_sub [3, 4, 5, 6, 7, 0] (ls' := [(0, .ref (u.2.1 40)), (1, .int (nI (kk + 1))), (2, .int st), (3, .int sp), (4, .int (itr (tnG L tk (tnF L tk kk) (σ.1 48) st sp) (tnF L tk kk (σ.1 48) (-st) sp) i)), (5, .int (nI (i + 1)))]) rfl ?_
        have g6 : (itr (tnG L tk (tnF L tk kk) (σ.1 48) st sp) (tnF L tk kk (σ.1 48) (-st) sp) i) = (itr (tnG L tk (tnF L tk kk) (σ.1 48) st sp) (tnF L tk kk (σ.1 48) (-st) sp) (i + 1)) := (by first | rfl | assumption | (simp only [itr]; unfold tnG; rw [if_neg (fun q => absurd q.1 (by assumption))]; done) | (simp only [itr]; unfold tnG; rw [if_neg (fun q => absurd q.2.1 (by subst_vars; first | assumption | exact i_lt_le.mpr (by assumption)))]; done) | (simp only [itr]; unfold tnG; rw [if_neg (fun q => absurd q.2.2 (by subst_vars; first | assumption | exact i_lt_le.mpr (by assumption)))]; done) | (simp only [itr]; unfold tnG; rw [if_pos ⟨by assumption, by subst_vars; assumption, by subst_vars; assumption⟩]; (first | rw [if_pos (i_lt_le.mp (by assumption))] | rw [if_neg (i_nlt.mpr (by assumption))]); subst_vars; first | done | rfl))
        refine v_to (ls' := [(0, .ref (u.2.1 40)), (1, .int (nI (kk + 1))), (2, .int st), (3, .int sp), (4, .int (itr (tnG L tk (tnF L tk kk) (σ.1 48) st sp) (tnF L tk kk (σ.1 48) (-st) sp) (i + 1))), (5, .int (nI (i + 1)))]) (by first | rfl | rw [g6] | simp_all) ?_
        exact ih (i + 1) (by omega) (by omega)
      · skip
        refine v_iload F d_K_turn_55 0 rfl ?_
        refine v_if_lt F 141 d_K_turn_57 rfl (fun h57 => ?_) (fun h57 => ?_)
        · skip
          refine v_iinc (v := nI (i + 1)) (ls' := [(5, .int (nI (i + 1))), (7, .int x2), (6, .int x1), (0, .ref (u.2.1 40)), (1, .int (nI (kk + 1))), (2, .int st), (3, .int sp), (4, .int (itr (tnG L tk (tnF L tk kk) (σ.1 48) st sp) (tnF L tk kk (σ.1 48) (-st) sp) i))]) F d_K_turn_141 (j := 7) rfl (nI_inc _) (by decide) rfl ?_
          refine v_goto F 21 d_K_turn_144 rfl ?_
          refine v_sub [3, 4, 5, 6, 7, 0] (ls' := [(0, .ref (u.2.1 40)), (1, .int (nI (kk + 1))), (2, .int st), (3, .int sp), (4, .int (itr (tnG L tk (tnF L tk kk) (σ.1 48) st sp) (tnF L tk kk (σ.1 48) (-st) sp) i)), (5, .int (nI (i + 1)))]) rfl ?_
          have g7 : (itr (tnG L tk (tnF L tk kk) (σ.1 48) st sp) (tnF L tk kk (σ.1 48) (-st) sp) i) = (itr (tnG L tk (tnF L tk kk) (σ.1 48) st sp) (tnF L tk kk (σ.1 48) (-st) sp) (i + 1)) := (by first | rfl | assumption | (simp only [itr]; unfold tnG; rw [if_neg (fun q => absurd q.1 (by assumption))]; done) | (simp only [itr]; unfold tnG; rw [if_neg (fun q => absurd q.2.1 (by subst_vars; first | assumption | exact i_lt_le.mpr (by assumption)))]; done) | (simp only [itr]; unfold tnG; rw [if_neg (fun q => absurd q.2.2 (by subst_vars; first | assumption | exact i_lt_le.mpr (by assumption)))]; done) | (simp only [itr]; unfold tnG; rw [if_pos ⟨by assumption, by subst_vars; assumption, by subst_vars; assumption⟩]; (first | rw [if_pos (i_lt_le.mp (by assumption))] | rw [if_neg (i_nlt.mpr (by assumption))]); subst_vars; first | done | rfl))
          refine v_to (ls' := [(0, .ref (u.2.1 40)), (1, .int (nI (kk + 1))), (2, .int st), (3, .int sp), (4, .int (itr (tnG L tk (tnF L tk kk) (σ.1 48) st sp) (tnF L tk kk (σ.1 48) (-st) sp) (i + 1))), (5, .int (nI (i + 1)))]) (by first | rfl | rw [g7] | simp_all) ?_
          exact ih (i + 1) (by omega) (by omega)
        · skip
          refine v_iload F d_K_turn_60 0 rfl ?_
          refine v_iconst (v := 2) F d_K_turn_62 ki_2 ?_
          refine v_icmp_gt F 141 d_K_turn_63 rfl (fun h63 => ?_) (fun h63 => ?_)
          · skip
            refine v_iinc (v := nI (i + 1)) (ls' := [(5, .int (nI (i + 1))), (7, .int x2), (6, .int x1), (0, .ref (u.2.1 40)), (1, .int (nI (kk + 1))), (2, .int st), (3, .int sp), (4, .int (itr (tnG L tk (tnF L tk kk) (σ.1 48) st sp) (tnF L tk kk (σ.1 48) (-st) sp) i))]) F d_K_turn_141 (j := 7) rfl (nI_inc _) (by decide) rfl ?_
            refine v_goto F 21 d_K_turn_144 rfl ?_
            refine v_sub [3, 4, 5, 6, 7, 0] (ls' := [(0, .ref (u.2.1 40)), (1, .int (nI (kk + 1))), (2, .int st), (3, .int sp), (4, .int (itr (tnG L tk (tnF L tk kk) (σ.1 48) st sp) (tnF L tk kk (σ.1 48) (-st) sp) i)), (5, .int (nI (i + 1)))]) rfl ?_
            have g8 : (itr (tnG L tk (tnF L tk kk) (σ.1 48) st sp) (tnF L tk kk (σ.1 48) (-st) sp) i) = (itr (tnG L tk (tnF L tk kk) (σ.1 48) st sp) (tnF L tk kk (σ.1 48) (-st) sp) (i + 1)) := (by first | rfl | assumption | (simp only [itr]; unfold tnG; rw [if_neg (fun q => absurd q.1 (by assumption))]; done) | (simp only [itr]; unfold tnG; rw [if_neg (fun q => absurd q.2.1 (by subst_vars; first | assumption | exact i_lt_le.mpr (by assumption)))]; done) | (simp only [itr]; unfold tnG; rw [if_neg (fun q => absurd q.2.2 (by subst_vars; first | assumption | exact i_lt_le.mpr (by assumption)))]; done) | (simp only [itr]; unfold tnG; rw [if_pos ⟨by assumption, by subst_vars; assumption, by subst_vars; assumption⟩]; (first | rw [if_pos (i_lt_le.mp (by assumption))] | rw [if_neg (i_nlt.mpr (by assumption))]); subst_vars; first | done | rfl))
            refine v_to (ls' := [(0, .ref (u.2.1 40)), (1, .int (nI (kk + 1))), (2, .int st), (3, .int sp), (4, .int (itr (tnG L tk (tnF L tk kk) (σ.1 48) st sp) (tnF L tk kk (σ.1 48) (-st) sp) (i + 1))), (5, .int (nI (i + 1)))]) (by first | rfl | rw [g8] | simp_all) ?_
            exact ih (i + 1) (by omega) (by omega)
          · skip
            obtain ⟨a, ha, xa, ea⟩ := cf_ix (hcf i (by omega) h52).1 (hcf i (by omega) h52).2
            have h57b := i_nlt.mp h57
            have h63b := i_nlt.mp h63
            obtain ⟨c, hc, xc, ec⟩ := cf_ix (x := σ.1 48 i + st) (by subst_vars; assumption) (by subst_vars; assumption)
            refine v_aload_n F d_K_turn_66 rfl 2 rfl ?_
            refine v_getr (r := 48) F fk_K_16 G40 rfl d_K_turn_67 ?_
            refine v_iload F d_K_turn_70 7 rfl ?_
            refine v_iload F d_K_turn_72 0 rfl ?_
            refine v_ias F i G48 rfl (by omega) d_K_turn_74 ?_
            refine v_ns (fun σ9 eσ9 => ?_)
            have hcu : cfOk L (σ9.1 48) := fun q hq hb => by
              subst_vars
              by_cases e : q = i
              · subst e
                rw [uI_s]
                exact ⟨by assumption, by assumption⟩
              · rw [uI_n _ _ _ _ e]
                exact hcf q hq hb
            refine v_aload_n F d_K_turn_75 rfl 2 rfl ?_
            refine v_iload_n F d_K_turn_76 rfl 3 rfl ?_
            refine v_iconst (v := 1) F d_K_turn_77 ki_1 ?_
            refine v_isub F d_K_turn_78 ?_
            refine v_te (y := nI kk) (nI_pred kk) ?_
            refine v_iload_n F d_K_turn_79 rfl 4 rfl ?_
            refine v_ineg F d_K_turn_80 ?_
            refine v_iload_n F d_K_turn_81 rfl 5 rfl ?_
            refine v_aload_n F d_K_turn_82 rfl 2 rfl ?_
            refine v_getr (r := 41) F fk_K_11 G40 rfl d_K_turn_83 ?_
            refine v_iload F d_K_turn_86 7 rfl ?_
            refine v_aal F i G41 rfl rfl (by omega) d_K_turn_88 ?_
            refine v_iload F d_K_turn_89 1 rfl ?_
            refine v_ial F a (gam_talk _ (by omega)) (by subst_vars; exact ea) ha d_K_turn_91 ?_
            refine v_te (y := tk i a) (by subst_vars; rw [uI_o _ _ _ _ (by omega)]; exact htk _ (by omega) _) ?_
            refine v_isub F d_K_turn_92 ?_
            refine v_aload_n F d_K_turn_93 rfl 2 rfl ?_
            refine v_getr (r := 41) F fk_K_11 G40 rfl d_K_turn_94 ?_
            refine v_iload F d_K_turn_97 7 rfl ?_
            refine v_aal F i G41 rfl rfl (by omega) d_K_turn_99 ?_
            refine v_iload F d_K_turn_100 0 rfl ?_
            refine v_ial F c (gam_talk _ (by omega)) (by subst_vars; exact ec) hc d_K_turn_102 ?_
            refine v_te (y := tk i c) (by subst_vars; rw [uI_o _ _ _ _ (by omega)]; exact htk _ (by omega) _) ?_
            refine v_iadd F d_K_turn_103 ?_
            refine v_runi (r_V F (ihn σ9 (fun i hi c => by rw [eσ9, uI_o _ _ _ _ (by omega)]; exact htk i hi c) (by rw [eσ9, uI_o _ _ _ _ (by decide)]; exact hl) hcu (-st) ((sp - (tk i a)) + (tk i c))) mo_K_turn st_K_70 rc_40 (by omega) rfl (Nat.le_of_ble_eq_true rfl) d_K_turn_104) (fun r10 σ11 q12 => ?_)
            obtain ⟨rfl, rfl⟩ := q12
            refine v_ni (fun x13 ex13 => ?_)
            refine v_istore (ls' := [(8, .int x13), (7, .int x2), (6, .int x1), (0, .ref (u.2.1 40)), (1, .int (nI (kk + 1))), (2, .int st), (3, .int sp), (4, .int (itr (tnG L tk (tnF L tk kk) (σ.1 48) st sp) (tnF L tk kk (σ.1 48) (-st) sp) i)), (5, .int (nI i))]) F d_K_turn_107 (by decide) rfl ?_
            refine v_aload_n F d_K_turn_109 rfl 3 rfl ?_
            refine v_getr (r := 48) F fk_K_16 G40 rfl d_K_turn_110 ?_
            refine v_iload F d_K_turn_113 8 rfl ?_
            refine v_iload F d_K_turn_115 2 rfl ?_
            refine v_ias F i G48 rfl (by omega) d_K_turn_117 ?_
            refine v_ns (fun σ14 eσ14 => ?_)
            have eB : σ14 = σ := by
              subst_vars
              rw [uI_uI]
              exact uI_self _ _ _ _ rfl
            refine v_st eB ?_
            clear eB
            refine v_iload_n F d_K_turn_118 rfl 5 rfl ?_
            refine v_if_le F 132 d_K_turn_119 rfl (fun h119 => ?_) (fun h119 => ?_)
            · skip
              refine v_iload F d_K_turn_132 7 rfl ?_
              refine v_iload F d_K_turn_134 0 rfl ?_
              refine v_mmax F (List.mem_of_getElem? (i := 890) (by decide +kernel)) (Nat.le_of_ble_eq_true rfl) (by omega) d_K_turn_136 ?_
              refine v_ni (fun x15 ex15 => ?_)
              refine v_istore (ls' := [(4, .int x15), (8, .int x13), (7, .int x2), (6, .int x1), (0, .ref (u.2.1 40)), (1, .int (nI (kk + 1))), (2, .int st), (3, .int sp), (5, .int (nI i))]) F d_K_turn_139 (by decide) rfl ?_
              refine v_iinc (v := nI (i + 1)) (ls' := [(5, .int (nI (i + 1))), (4, .int x15), (8, .int x13), (7, .int x2), (6, .int x1), (0, .ref (u.2.1 40)), (1, .int (nI (kk + 1))), (2, .int st), (3, .int sp)]) F d_K_turn_141 (j := 8) rfl (nI_inc _) (by decide) rfl ?_
              refine v_goto F 21 d_K_turn_144 rfl ?_
              refine v_sub [5, 6, 7, 8, 1, 0] (ls' := [(0, .ref (u.2.1 40)), (1, .int (nI (kk + 1))), (2, .int st), (3, .int sp), (4, .int x15), (5, .int (nI (i + 1)))]) rfl ?_
              have g16 : x15 = (itr (tnG L tk (tnF L tk kk) (σ.1 48) st sp) (tnF L tk kk (σ.1 48) (-st) sp) (i + 1)) := (by first | rfl | assumption | (simp only [itr]; unfold tnG; rw [if_neg (fun q => absurd q.1 (by assumption))]; done) | (simp only [itr]; unfold tnG; rw [if_neg (fun q => absurd q.2.1 (by subst_vars; first | assumption | exact i_lt_le.mpr (by assumption)))]; done) | (simp only [itr]; unfold tnG; rw [if_neg (fun q => absurd q.2.2 (by subst_vars; first | assumption | exact i_lt_le.mpr (by assumption)))]; done) | (simp only [itr]; unfold tnG; rw [if_pos ⟨by assumption, by subst_vars; assumption, by subst_vars; assumption⟩]; (first | rw [if_pos (i_lt_le.mp (by assumption))] | rw [if_neg (i_nlt.mpr (by assumption))]); subst_vars; first | done | rfl))
              refine v_to (ls' := [(0, .ref (u.2.1 40)), (1, .int (nI (kk + 1))), (2, .int st), (3, .int sp), (4, .int (itr (tnG L tk (tnF L tk kk) (σ.1 48) st sp) (tnF L tk kk (σ.1 48) (-st) sp) (i + 1))), (5, .int (nI (i + 1)))]) (by first | rfl | rw [g16] | simp_all) ?_
              exact ih (i + 1) (by omega) (by omega)
            · skip
              refine v_iload F d_K_turn_122 7 rfl ?_
              refine v_iload F d_K_turn_124 0 rfl ?_
              refine v_mmin F (List.mem_of_getElem? (i := 887) (by decide +kernel)) (Nat.le_of_ble_eq_true rfl) (by omega) d_K_turn_126 ?_
              refine v_goto F 139 d_K_turn_129 rfl ?_
              refine v_ni (fun x17 ex17 => ?_)
              refine v_istore (ls' := [(4, .int x17), (8, .int x13), (7, .int x2), (6, .int x1), (0, .ref (u.2.1 40)), (1, .int (nI (kk + 1))), (2, .int st), (3, .int sp), (5, .int (nI i))]) F d_K_turn_139 (by decide) rfl ?_
              refine v_iinc (v := nI (i + 1)) (ls' := [(5, .int (nI (i + 1))), (4, .int x17), (8, .int x13), (7, .int x2), (6, .int x1), (0, .ref (u.2.1 40)), (1, .int (nI (kk + 1))), (2, .int st), (3, .int sp)]) F d_K_turn_141 (j := 8) rfl (nI_inc _) (by decide) rfl ?_
              refine v_goto F 21 d_K_turn_144 rfl ?_
              refine v_sub [5, 6, 7, 8, 1, 0] (ls' := [(0, .ref (u.2.1 40)), (1, .int (nI (kk + 1))), (2, .int st), (3, .int sp), (4, .int x17), (5, .int (nI (i + 1)))]) rfl ?_
              have g18 : x17 = (itr (tnG L tk (tnF L tk kk) (σ.1 48) st sp) (tnF L tk kk (σ.1 48) (-st) sp) (i + 1)) := (by first | rfl | assumption | (simp only [itr]; unfold tnG; rw [if_neg (fun q => absurd q.1 (by assumption))]; done) | (simp only [itr]; unfold tnG; rw [if_neg (fun q => absurd q.2.1 (by subst_vars; first | assumption | exact i_lt_le.mpr (by assumption)))]; done) | (simp only [itr]; unfold tnG; rw [if_neg (fun q => absurd q.2.2 (by subst_vars; first | assumption | exact i_lt_le.mpr (by assumption)))]; done) | (simp only [itr]; unfold tnG; rw [if_pos ⟨by assumption, by subst_vars; assumption, by subst_vars; assumption⟩]; (first | rw [if_pos (i_lt_le.mp (by assumption))] | rw [if_neg (i_nlt.mpr (by assumption))]); subst_vars; first | done | rfl))
              refine v_to (ls' := [(0, .ref (u.2.1 40)), (1, .int (nI (kk + 1))), (2, .int st), (3, .int sp), (4, .int (itr (tnG L tk (tnF L tk kk) (σ.1 48) st sp) (tnF L tk kk (σ.1 48) (-st) sp) (i + 1))), (5, .int (nI (i + 1)))]) (by first | rfl | rw [g18] | simp_all) ?_
              exact ih (i + 1) (by omega) (by omega)
set_option maxHeartbeats 4000000 in
theorem c_K_turn1 (l : Launch) (u : Un) (hA : Ap u) (σ : St) {L : Nat} {tk : Nat → Nat → Int32} (htk : ∀ i, i < 6 → ∀ c, σ.1 (42 + i) c = tk i c) (hl : σ.1 40 2 = nI L) (hL64 : L < 64) (hcf : cfOk L (σ.1 48)) {kk : Nat} (hkk : kk ≤ 4) (st sp : Int32) (ihn : ∀ (σ : St) (htk : ∀ i, i < 6 → ∀ c, σ.1 (42 + i) c = tk i c) (hl : σ.1 40 2 = nI L) (hcf : cfOk L (σ.1 48)) (st sp : Int32), MTi l u y_K_turn b_K_turn 9 .int (kk + 1) [.ref (u.2.1 40), .int (nI kk), .int st, .int sp] σ (fun ans σ' => tnF L tk kk (σ.1 48) st sp = ans ∧ σ = σ')) : MTi l u y_K_turn b_K_turn 9 .int (kk + 2) [.ref (u.2.1 40), .int (nI (kk + 1)), .int st, .int sp] σ (fun ans σ' => tnF L tk (kk + 1) (σ.1 48) st sp = ans ∧ σ = σ') := by
  refine MT_of hA rfl (by decide) (Nat.le_of_ble_eq_true rfl) (fun X hl F hr => ?_)
  subst hl
  refine v_to (ls' := [(0, .ref (u.2.1 40)), (1, .int (nI (kk + 1))), (2, .int st), (3, .int sp)]) rfl ?_
  refine v_iload_n F d_K_turn_0 rfl 1 rfl ?_
  refine v_if_gt F 6 d_K_turn_1 rfl (fun h1 => ?_) (fun h1 => ?_)
  · skip
    refine v_aload_n F d_K_turn_6 rfl 0 rfl ?_
    refine v_iload_n F d_K_turn_7 rfl 1 rfl ?_
    refine v_iconst (v := 1) F d_K_turn_8 ki_1 ?_
    refine v_isub F d_K_turn_9 ?_
    refine v_te (y := nI kk) (nI_pred kk) ?_
    refine v_iload_n F d_K_turn_10 rfl 2 rfl ?_
    refine v_ineg F d_K_turn_11 ?_
    refine v_iload_n F d_K_turn_12 rfl 3 rfl ?_
    refine v_runi (r_V F (ihn σ htk hl hcf (-st) sp) mo_K_turn st_K_70 rc_40 (by omega) rfl (Nat.le_of_ble_eq_true rfl) d_K_turn_13) (fun r1 σ2 q3 => ?_)
    obtain ⟨rfl, rfl⟩ := q3
    refine v_ni (fun x4 ex4 => ?_)
    refine v_istore (ls' := [(4, .int x4), (0, .ref (u.2.1 40)), (1, .int (nI (kk + 1))), (2, .int st), (3, .int sp)]) F d_K_turn_16 (by decide) rfl ?_
    refine v_iconst (v := 0) F d_K_turn_18 ki_0 ?_
    refine v_istore (ls' := [(5, .int 0), (4, .int x4), (0, .ref (u.2.1 40)), (1, .int (nI (kk + 1))), (2, .int st), (3, .int sp)]) F d_K_turn_19 (by decide) rfl ?_
    refine v_sub [2, 3, 4, 5, 1, 0] (ls' := [(0, .ref (u.2.1 40)), (1, .int (nI (kk + 1))), (2, .int st), (3, .int sp), (4, .int x4), (5, .int 0)]) rfl ?_
    have g5 : x4 = (itr (tnG L tk (tnF L tk kk) (σ.1 48) st sp) (tnF L tk kk (σ.1 48) (-st) sp) 0) := (by first | rfl | assumption | (simp only [itr]; unfold tnG; rw [if_neg (fun q => absurd q.1 (by assumption))]; done) | (simp only [itr]; unfold tnG; rw [if_neg (fun q => absurd q.2.1 (by subst_vars; first | assumption | exact i_lt_le.mpr (by assumption)))]; done) | (simp only [itr]; unfold tnG; rw [if_neg (fun q => absurd q.2.2 (by subst_vars; first | assumption | exact i_lt_le.mpr (by assumption)))]; done) | (simp only [itr]; unfold tnG; rw [if_pos ⟨by assumption, by subst_vars; assumption, by subst_vars; assumption⟩]; (first | rw [if_pos (i_lt_le.mp (by assumption))] | rw [if_neg (i_nlt.mpr (by assumption))]); subst_vars; first | done | rfl))
    have g6 : 0 = (nI 0) := (by first | rfl | assumption | (simp only [itr]; unfold tnG; rw [if_neg (fun q => absurd q.1 (by assumption))]; done) | (simp only [itr]; unfold tnG; rw [if_neg (fun q => absurd q.2.1 (by subst_vars; first | assumption | exact i_lt_le.mpr (by assumption)))]; done) | (simp only [itr]; unfold tnG; rw [if_neg (fun q => absurd q.2.2 (by subst_vars; first | assumption | exact i_lt_le.mpr (by assumption)))]; done) | (simp only [itr]; unfold tnG; rw [if_pos ⟨by assumption, by subst_vars; assumption, by subst_vars; assumption⟩]; (first | rw [if_pos (i_lt_le.mp (by assumption))] | rw [if_neg (i_nlt.mpr (by assumption))]); subst_vars; first | done | rfl))
    refine v_to (ls' := [(0, .ref (u.2.1 40)), (1, .int (nI (kk + 1))), (2, .int st), (3, .int sp), (4, .int (itr (tnG L tk (tnF L tk kk) (σ.1 48) st sp) (tnF L tk kk (σ.1 48) (-st) sp) 0)), (5, .int (nI 0))]) (by first | rfl | rw [g5, g6] | simp_all) ?_
    refine L_K_turn_21 hA F htk hl hL64 hcf hkk ihn ?_ _ 0 (Nat.zero_le _) (Nat.lt_succ_self _)
    refine v_iload F d_K_turn_147 4 rfl ?_
    refine v_iret F hr rfl d_K_turn_149 ?_
    exact ⟨rfl, rfl⟩
  · exact absurd ((nI_ltI (a := 0) (b := kk + 1) (by omega) (by omega)).mpr (by omega)) h1
theorem c_K_turn (l : Launch) (u : Un) (hA : Ap u) {L : Nat} {tk : Nat → Nat → Int32} (hL64 : L < 64) : ∀ (kk : Nat) (hkk : kk ≤ 5) (σ : St) (htk : ∀ i, i < 6 → ∀ c, σ.1 (42 + i) c = tk i c) (hl : σ.1 40 2 = nI L) (hcf : cfOk L (σ.1 48)) (st sp : Int32), MTi l u y_K_turn b_K_turn 9 .int (kk + 1) [.ref (u.2.1 40), .int (nI kk), .int st, .int sp] σ (fun ans σ' => tnF L tk kk (σ.1 48) st sp = ans ∧ σ = σ')
  | 0, hkk, σ, htk, hl, hcf, st, sp => c_K_turn0 l u hA σ htk hl hL64 hcf (nI 0) st sp (by decide)
  | kk + 1, hkk, σ, htk, hl, hcf, st, sp => c_K_turn1 l u hA σ htk hl hL64 hcf (by omega) st sp (fun σ htk hl hcf st sp => c_K_turn l u hA hL64 kk (by omega) σ htk hl hcf st sp)
abbrev b_K_byTurns : ByteArray := prog_7_method_5_code
abbrev y_K_byTurns : MethodName := ⟨"TakerBook$Marks", "byTurns", "(LTakerBook$Band;I)I"⟩
theorem d_K_byTurns_0 : decode b_K_byTurns 0 = .ok (.aload_n 0, 1) := by decide +kernel
theorem d_K_byTurns_1 : decode b_K_byTurns 1 = .ok (.aload_n 1, 1) := by decide +kernel
theorem d_K_byTurns_2 : decode b_K_byTurns 2 = .ok (.invokevirtual 39, 3) := by decide +kernel
theorem d_K_byTurns_5 : decode b_K_byTurns 5 = .ok (.aload_n 0, 1) := by decide +kernel
theorem d_K_byTurns_6 : decode b_K_byTurns 6 = .ok (.iload_n 2, 1) := by decide +kernel
theorem d_K_byTurns_7 : decode b_K_byTurns 7 = .ok (.iconst 1, 1) := by decide +kernel
theorem d_K_byTurns_8 : decode b_K_byTurns 8 = .ok (.aload_n 1, 1) := by decide +kernel
theorem d_K_byTurns_9 : decode b_K_byTurns 9 = .ok (.aload_n 0, 1) := by decide +kernel
theorem d_K_byTurns_10 : decode b_K_byTurns 10 = .ok (.getfield 26, 3) := by decide +kernel
theorem d_K_byTurns_13 : decode b_K_byTurns 13 = .ok (.invokevirtual 61, 3) := by decide +kernel
theorem d_K_byTurns_16 : decode b_K_byTurns 16 = .ok (.invokestatic 65, 3) := by decide +kernel
theorem d_K_byTurns_19 : decode b_K_byTurns 19 = .ok (.invokevirtual 70, 3) := by decide +kernel
theorem d_K_byTurns_22 : decode b_K_byTurns 22 = .ok (.ireturn, 1) := by decide +kernel
theorem mo_K_byTurns : mok y_K_byTurns b_K_byTurns 3 (some .int) 2 := ⟨List.mem_of_getElem? (i := 880) (by decide +kernel), ⟨by decide +kernel, by decide +kernel, by decide +kernel⟩, List.mem_of_getElem? (i := 84) (by decide +kernel), by decide⟩
set_option maxHeartbeats 4000000 in
theorem c_K_byTurns (l : Launch) (u : Un) (hA : Ap u) (σ : St) {n G : Nat} {kd : Nat → Nat} (hb : bkOk σ n G kd) {L : Nat} (hL : σ.1 19 14 = nI L) (hL64 : L < 64) (hcf : ∀ i, i < n → 0 ≤ σ.1 31 i ∧ σ.1 31 i ≤ 2) (hLn : ∀ i, L.testBit i = true → i < n) {m : Nat} (hm : m ≤ 4) : MTi l u y_K_byTurns b_K_byTurns 3 .int 7 [.ref (u.2.1 40), .ref (u.2.1 19), .int (nI m)] σ (fun ans σ' => tnF L (tkC (bgS σ G kd L n)) m ((bgS σ G kd L n).1 48) 1 (nI (pcN (mkN (tkS σ G kd L) n))) = ans ∧ (bgS σ G kd L n) = σ') := by
  refine MT_of hA rfl (by decide) (Nat.le_of_ble_eq_true rfl) (fun X hl F hr => ?_)
  subst hl
  refine v_to (ls' := [(0, .ref (u.2.1 40)), (1, .ref (u.2.1 19)), (2, .int (nI m))]) rfl ?_
  obtain ⟨hn, hn6, hG, hG64, hkd, hk6⟩ := id hb
  refine v_aload_n F d_K_byTurns_0 rfl 0 rfl ?_
  refine v_aload_n F d_K_byTurns_1 rfl 1 rfl ?_
  refine v_runv (r_V F (c_K_begin X.2.1 u hA σ hb hL hL64) mo_K_begin st_K_39 rc_40 (by decide) rfl (Nat.le_of_ble_eq_true rfl) d_K_byTurns_2) (fun σ2 q3 => ?_)
  refine v_st (show σ2 = (bgS σ G kd L n) from (by assumption)) ?_
  refine v_aload_n F d_K_byTurns_5 rfl 0 rfl ?_
  refine v_iload_n F d_K_byTurns_6 rfl 2 rfl ?_
  refine v_iconst (v := 1) F d_K_byTurns_7 ki_1 ?_
  refine v_aload_n F d_K_byTurns_8 rfl 1 rfl ?_
  refine v_aload_n F d_K_byTurns_9 rfl 0 rfl ?_
  refine v_geti F fk_K_26 G40 rfl d_K_byTurns_10 ?_
  refine v_te (y := nI L) (bgS_l _ _ _ _ _ hn6) ?_
  refine v_runi (r_V F (c_B_talkers X.2.1 u hA (bgS σ G kd L n) (bkOk_of hb (by rw [bgS_k _ _ _ _ (by decide) _ hn6]) (by rw [bgS_k _ _ _ _ (by decide) _ hn6]) (by rw [bgS_k _ _ _ _ (by decide) _ hn6])) L (by omega)) mo_B_talkers st_K_61 rc_19 (by decide) rfl (Nat.le_of_ble_eq_true rfl) d_K_byTurns_13) (fun r4 σ5 q6 => ?_)
  obtain ⟨rfl, rfl⟩ := q6
  refine v_runi (r_S F (c_I_bitCount X.2.1 u hA (bgS σ G kd L n) (mkN (tkS (bgS σ G kd L n) G kd L) n) (mkN_64 _ hn6)) mo_I_bitCount st_K_65 (by decide) rfl (Nat.le_of_ble_eq_true rfl) d_K_byTurns_16) (fun r7 σ8 q9 => ?_)
  obtain ⟨rfl, rfl⟩ := q9
  refine v_runi (r_V F (c_K_turn X.2.1 u hA (L := L) (tk := tkC (bgS σ G kd L n)) hL64 m (by omega) (bgS σ G kd L n) (fun i hi c => rfl) (bgS_l _ _ _ _ _ hn6) (fun i hi hb => by rw [bgS_c _ _ _ _ _ hn6 (hLn i hb)]; exact hcf i (hLn i hb)) 1 (nI (pcN (mkN (tkS (bgS σ G kd L n) G kd L) n)))) mo_K_turn st_K_70 rc_40 (by omega) rfl (Nat.le_of_ble_eq_true rfl) d_K_byTurns_19) (fun r10 σ11 q12 => ?_)
  obtain ⟨rfl, rfl⟩ := q12
  refine v_iret F hr rfl d_K_byTurns_22 ?_
  refine ⟨?_, rfl⟩
  have eT : tkS (bgS σ G kd L n) G kd L = tkS σ G kd L := by
    unfold tkS
    rw [bgS_k _ _ _ _ (by decide) _ hn6, bgS_k _ _ _ _ (by decide) _ hn6, bgS_k _ _ _ _ (by decide) _ hn6]
  rw [eT]
abbrev b_T_silent : ByteArray := prog_1_method_23_code
abbrev y_T_silent : MethodName := ⟨"TakerBook", "silent", "()I"⟩
theorem d_T_silent_0 : decode b_T_silent 0 = .ok (.aload_n 0, 1) := by decide +kernel
theorem d_T_silent_1 : decode b_T_silent 1 = .ok (.getfield 36, 3) := by decide +kernel
theorem d_T_silent_4 : decode b_T_silent 4 = .ok (.getfield 118, 3) := by decide +kernel
theorem d_T_silent_7 : decode b_T_silent 7 = .ok (.ifCond .ne 6, 3) := by decide +kernel
theorem d_T_silent_10 : decode b_T_silent 10 = .ok (.bipush (-4), 2) := by decide +kernel
theorem d_T_silent_12 : decode b_T_silent 12 = .ok (.ireturn, 1) := by decide +kernel
theorem d_T_silent_13 : decode b_T_silent 13 = .ok (.aload_n 0, 1) := by decide +kernel
theorem d_T_silent_14 : decode b_T_silent 14 = .ok (.getfield 50, 3) := by decide +kernel
theorem d_T_silent_17 : decode b_T_silent 17 = .ok (.aload_n 0, 1) := by decide +kernel
theorem d_T_silent_18 : decode b_T_silent 18 = .ok (.getfield 36, 3) := by decide +kernel
theorem d_T_silent_21 : decode b_T_silent 21 = .ok (.invokevirtual 194, 3) := by decide +kernel
theorem d_T_silent_24 : decode b_T_silent 24 = .ok (.aload_n 0, 1) := by decide +kernel
theorem d_T_silent_25 : decode b_T_silent 25 = .ok (.getfield 50, 3) := by decide +kernel
theorem d_T_silent_28 : decode b_T_silent 28 = .ok (.getfield 198, 3) := by decide +kernel
theorem d_T_silent_31 : decode b_T_silent 31 = .ok (.bipush (-9), 2) := by decide +kernel
theorem d_T_silent_33 : decode b_T_silent 33 = .ok (.if_icmp .ne 6, 3) := by decide +kernel
theorem d_T_silent_36 : decode b_T_silent 36 = .ok (.bipush (-9), 2) := by decide +kernel
theorem d_T_silent_38 : decode b_T_silent 38 = .ok (.ireturn, 1) := by decide +kernel
theorem d_T_silent_39 : decode b_T_silent 39 = .ok (.aload_n 0, 1) := by decide +kernel
theorem d_T_silent_40 : decode b_T_silent 40 = .ok (.aload_n 0, 1) := by decide +kernel
theorem d_T_silent_41 : decode b_T_silent 41 = .ok (.getfield 50, 3) := by decide +kernel
theorem d_T_silent_44 : decode b_T_silent 44 = .ok (.getfield 201, 3) := by decide +kernel
theorem d_T_silent_47 : decode b_T_silent 47 = .ok (.putfield 88, 3) := by decide +kernel
theorem d_T_silent_50 : decode b_T_silent 50 = .ok (.aload_n 0, 1) := by decide +kernel
theorem d_T_silent_51 : decode b_T_silent 51 = .ok (.getfield 50, 3) := by decide +kernel
theorem d_T_silent_54 : decode b_T_silent 54 = .ok (.getfield 198, 3) := by decide +kernel
theorem d_T_silent_57 : decode b_T_silent 57 = .ok (.ireturn, 1) := by decide +kernel
theorem mo_T_silent : mok y_T_silent b_T_silent 1 (some .int) 0 := ⟨List.mem_of_getElem? (i := 734) (by decide +kernel), ⟨by decide +kernel, by decide +kernel, by decide +kernel⟩, List.mem_of_getElem? (i := 74) (by decide +kernel), by decide⟩
set_option maxHeartbeats 4000000 in
theorem c_T_silent (l : Launch) (u : Un) (hA : Ap u) (σ : St) {n G : Nat} {kd : Nat → Nat} (hb : bkOk σ n G kd) {L : Nat} (hL : σ.1 19 14 = nI L) (hL64 : L < 64) {cr : Nat → Nat} (hcr : ∀ i, i < n → σ.1 31 i = nI (cr i) ∧ cr i ≤ 2) (hLn : ∀ i, L.testBit i = true → i < n) : MTi l u y_T_silent b_T_silent 1 .int 9 [.ref (u.2.1 0)] σ (fun ans σ' => (ans, σ') = tSilent σ G kd cr n L) := by
  refine MT_of hA rfl (by decide) (Nat.le_of_ble_eq_true rfl) (fun X hl F hr => ?_)
  subst hl
  refine v_to (ls' := [(0, .ref (u.2.1 0))]) rfl ?_
  obtain ⟨hn, hn6, hG, hG64, hkd, hk6⟩ := id hb
  refine v_aload_n F d_T_silent_0 rfl 0 rfl ?_
  refine v_getr (r := 19) F fk_T_36 G0 rfl d_T_silent_1 ?_
  refine v_geti F fk_T_118 G19 rfl d_T_silent_4 ?_
  refine v_te (y := σ.1 19 8) rfl ?_
  refine v_if_ne F 13 d_T_silent_7 rfl (fun h7 => ?_) (fun h7 => ?_)
  · skip
    refine v_aload_n F d_T_silent_13 rfl 0 rfl ?_
    refine v_getr (r := 40) F fk_T_50 G0 rfl d_T_silent_14 ?_
    refine v_aload_n F d_T_silent_17 rfl 0 rfl ?_
    refine v_getr (r := 19) F fk_T_36 G0 rfl d_T_silent_18 ?_
    refine v_runv (r_V F (c_K_seekFewest X.2.1 u hA σ hb hL hL64 hcr hLn) mo_K_seekFewest st_T_194 rc_40 (by decide) rfl (Nat.le_of_ble_eq_true rfl) d_T_silent_21) (fun σ2 q3 => ?_)
    refine v_aload_n F d_T_silent_24 rfl 0 rfl ?_
    refine v_getr (r := 40) F fk_T_50 G0 rfl d_T_silent_25 ?_
    refine v_geti F fk_T_198 G40 rfl d_T_silent_28 ?_
    refine v_te (y := (skF L cr (tkC (bgS σ G kd L n)) (σ.1 19 12) 6 0 0 0 (-9, 0)).1) (by subst_vars; simp [kS, uI, upd]) ?_
    refine v_bipush (v := (-9)) F d_T_silent_31 kb_m9 ?_
    refine v_icmp_ne F 39 d_T_silent_33 rfl (fun h33 => ?_) (fun h33 => ?_)
    · skip
      refine v_aload_n F d_T_silent_39 rfl 0 rfl ?_
      refine v_aload_n F d_T_silent_40 rfl 0 rfl ?_
      refine v_getr (r := 40) F fk_T_50 G0 rfl d_T_silent_41 ?_
      refine v_geti F fk_T_201 G40 rfl d_T_silent_44 ?_
      refine v_te (y := (skF L cr (tkC (bgS σ G kd L n)) (σ.1 19 12) 6 0 0 0 (-9, 0)).2) (by subst_vars; simp [kS, uI, upd]) ?_
      refine v_puti F fk_T_88 pk_T_told G0 rfl d_T_silent_47 ?_
      refine v_ns (fun σ4 eσ4 => ?_)
      refine v_aload_n F d_T_silent_50 rfl 0 rfl ?_
      refine v_getr (r := 40) F fk_T_50 G0 rfl d_T_silent_51 ?_
      refine v_geti F fk_T_198 G40 rfl d_T_silent_54 ?_
      refine v_te (y := (skF L cr (tkC (bgS σ G kd L n)) (σ.1 19 12) 6 0 0 0 (-9, 0)).1) (by subst_vars; simp [kS, uI, upd]) ?_
      refine v_iret F hr rfl d_T_silent_57 ?_
      unfold tSilent
      first | (rw [if_pos (by assumption)]; done) | (rw [if_neg (by assumption), if_pos (by assumption)]; subst_vars; rfl) | (rw [if_neg (by assumption), if_neg (by assumption)]; subst_vars; rfl)
    · skip
      refine v_bipush (v := (-9)) F d_T_silent_36 kb_m9 ?_
      refine v_iret F hr rfl d_T_silent_38 ?_
      unfold tSilent
      first | (rw [if_pos (by assumption)]; done) | (rw [if_neg (by assumption), if_pos (by assumption)]; subst_vars; rfl) | (rw [if_neg (by assumption), if_neg (by assumption)]; subst_vars; rfl)
  · skip
    refine v_bipush (v := (-4)) F d_T_silent_10 kb_m4 ?_
    refine v_iret F hr rfl d_T_silent_12 ?_
    unfold tSilent
    first | (rw [if_pos (by assumption)]; done) | (rw [if_neg (by assumption), if_pos (by assumption)]; subst_vars; rfl) | (rw [if_neg (by assumption), if_neg (by assumption)]; subst_vars; rfl)
abbrev b_T_duel : ByteArray := prog_1_method_34_code
abbrev y_T_duel : MethodName := ⟨"TakerBook", "duel", "(I)I"⟩
theorem d_T_duel_0 : decode b_T_duel 0 = .ok (.iload_n 1, 1) := by decide +kernel
theorem d_T_duel_1 : decode b_T_duel 1 = .ok (.ifCond .lt 8, 3) := by decide +kernel
theorem d_T_duel_4 : decode b_T_duel 4 = .ok (.iload_n 1, 1) := by decide +kernel
theorem d_T_duel_5 : decode b_T_duel 5 = .ok (.iconst 4, 1) := by decide +kernel
theorem d_T_duel_6 : decode b_T_duel 6 = .ok (.if_icmp .le 5, 3) := by decide +kernel
theorem d_T_duel_9 : decode b_T_duel 9 = .ok (.iconst (-1), 1) := by decide +kernel
theorem d_T_duel_10 : decode b_T_duel 10 = .ok (.ireturn, 1) := by decide +kernel
theorem d_T_duel_11 : decode b_T_duel 11 = .ok (.aload_n 0, 1) := by decide +kernel
theorem d_T_duel_12 : decode b_T_duel 12 = .ok (.getfield 36, 3) := by decide +kernel
theorem d_T_duel_15 : decode b_T_duel 15 = .ok (.getfield 118, 3) := by decide +kernel
theorem d_T_duel_18 : decode b_T_duel 18 = .ok (.ifCond .ne 8, 3) := by decide +kernel
theorem d_T_duel_21 : decode b_T_duel 21 = .ok (.bipush (-4), 2) := by decide +kernel
theorem d_T_duel_23 : decode b_T_duel 23 = .ok (.goto 15, 3) := by decide +kernel
theorem d_T_duel_26 : decode b_T_duel 26 = .ok (.aload_n 0, 1) := by decide +kernel
theorem d_T_duel_27 : decode b_T_duel 27 = .ok (.getfield 50, 3) := by decide +kernel
theorem d_T_duel_30 : decode b_T_duel 30 = .ok (.aload_n 0, 1) := by decide +kernel
theorem d_T_duel_31 : decode b_T_duel 31 = .ok (.getfield 36, 3) := by decide +kernel
theorem d_T_duel_34 : decode b_T_duel 34 = .ok (.iload_n 1, 1) := by decide +kernel
theorem d_T_duel_35 : decode b_T_duel 35 = .ok (.invokevirtual 277, 3) := by decide +kernel
theorem d_T_duel_38 : decode b_T_duel 38 = .ok (.ireturn, 1) := by decide +kernel
theorem mo_T_duel : mok y_T_duel b_T_duel 2 (some .int) 1 := ⟨List.mem_of_getElem? (i := 876) (by decide +kernel), ⟨by decide +kernel, by decide +kernel, by decide +kernel⟩, List.mem_of_getElem? (i := 74) (by decide +kernel), by decide⟩
set_option maxHeartbeats 4000000 in
theorem c_T_duel (l : Launch) (u : Un) (hA : Ap u) (σ : St) {n G : Nat} {kd : Nat → Nat} (hb : bkOk σ n G kd) {L : Nat} (hL : σ.1 19 14 = nI L) (hL64 : L < 64) (hcf : ∀ i, i < n → 0 ≤ σ.1 31 i ∧ σ.1 31 i ≤ 2) (hLn : ∀ i, L.testBit i = true → i < n) (x : Int32) : MTi l u y_T_duel b_T_duel 2 .int 8 [.ref (u.2.1 0), .int x] σ (fun ans σ' => (ans, σ') = tDuel σ G kd n L x) := by
  refine MT_of hA rfl (by decide) (Nat.le_of_ble_eq_true rfl) (fun X hl F hr => ?_)
  subst hl
  refine v_to (ls' := [(0, .ref (u.2.1 0)), (1, .int x)]) rfl ?_
  obtain ⟨hn, hn6, hG, hG64, hkd, hk6⟩ := id hb
  refine v_iload_n F d_T_duel_0 rfl 1 rfl ?_
  refine v_if_lt F 9 d_T_duel_1 rfl (fun h1 => ?_) (fun h1 => ?_)
  · skip
    refine v_iconst (v := (-1)) F d_T_duel_9 ki_m1 ?_
    refine v_iret F hr rfl d_T_duel_10 ?_
    unfold tDuel
    first | (rw [if_pos (by first | exact Or.inl (by assumption) | exact Or.inr (i_lt_le.mp (by assumption)))]; done) | (rw [if_neg (by rintro (q | q); exact absurd q (by assumption); exact absurd q (i_nlt.mpr h6)), if_pos (by assumption)]; done) | (rw [if_neg (by rintro (q | q); exact absurd q (by assumption); exact absurd q (i_nlt.mpr h6)), if_neg (by assumption), xm]; done)
  · skip
    refine v_iload_n F d_T_duel_4 rfl 1 rfl ?_
    refine v_iconst (v := 4) F d_T_duel_5 ki_4 ?_
    refine v_icmp_le F 11 d_T_duel_6 rfl (fun h6 => ?_) (fun h6 => ?_)
    · skip
      obtain ⟨m, hm, xm, rfl⟩ := nat_of (M := 4) (i_nlt.mp h1) h6 rfl (by decide)
      refine v_aload_n F d_T_duel_11 rfl 0 rfl ?_
      refine v_getr (r := 19) F fk_T_36 G0 rfl d_T_duel_12 ?_
      refine v_geti F fk_T_118 G19 rfl d_T_duel_15 ?_
      refine v_te (y := σ.1 19 8) rfl ?_
      refine v_if_ne F 26 d_T_duel_18 rfl (fun h18 => ?_) (fun h18 => ?_)
      · skip
        refine v_aload_n F d_T_duel_26 rfl 0 rfl ?_
        refine v_getr (r := 40) F fk_T_50 G0 rfl d_T_duel_27 ?_
        refine v_aload_n F d_T_duel_30 rfl 0 rfl ?_
        refine v_getr (r := 19) F fk_T_36 G0 rfl d_T_duel_31 ?_
        refine v_iload_n F d_T_duel_34 rfl 1 rfl ?_
        refine v_runi (r_V F (c_K_byTurns X.2.1 u hA σ hb hL hL64 hcf hLn (m := m) hm) mo_K_byTurns st_T_277 rc_40 (by decide) rfl (Nat.le_of_ble_eq_true rfl) d_T_duel_35) (fun r1 σ2 q3 => ?_)
        obtain ⟨rfl, rfl⟩ := q3
        refine v_iret F hr rfl d_T_duel_38 ?_
        unfold tDuel
        first | (rw [if_pos (by first | exact Or.inl (by assumption) | exact Or.inr (i_lt_le.mp (by assumption)))]; done) | (rw [if_neg (by rintro (q | q); exact absurd q (by assumption); exact absurd q (i_nlt.mpr h6)), if_pos (by assumption)]; done) | (rw [if_neg (by rintro (q | q); exact absurd q (by assumption); exact absurd q (i_nlt.mpr h6)), if_neg (by assumption), xm]; done)
      · skip
        refine v_bipush (v := (-4)) F d_T_duel_21 kb_m4 ?_
        refine v_goto F 38 d_T_duel_23 rfl ?_
        refine v_iret F hr rfl d_T_duel_38 ?_
        unfold tDuel
        first | (rw [if_pos (by first | exact Or.inl (by assumption) | exact Or.inr (i_lt_le.mp (by assumption)))]; done) | (rw [if_neg (by rintro (q | q); exact absurd q (by assumption); exact absurd q (i_nlt.mpr h6)), if_pos (by assumption)]; done) | (rw [if_neg (by rintro (q | q); exact absurd q (by assumption); exact absurd q (i_nlt.mpr h6)), if_neg (by assumption), xm]; done)
    · skip
      refine v_iconst (v := (-1)) F d_T_duel_9 ki_m1 ?_
      refine v_iret F hr rfl d_T_duel_10 ?_
      unfold tDuel
      first | (rw [if_pos (by first | exact Or.inl (by assumption) | exact Or.inr (i_lt_le.mp (by assumption)))]; done) | (rw [if_neg (by rintro (q | q); exact absurd q (by assumption); exact absurd q (i_nlt.mpr h6)), if_pos (by assumption)]; done) | (rw [if_neg (by rintro (q | q); exact absurd q (by assumption); exact absurd q (i_nlt.mpr h6)), if_neg (by assumption), xm]; done)
