theorem fk_T_355 : fok "TakerBook" 355 1 6 := ⟨(R_B, F_B, 19), rfl, by decide, List.mem_of_getElem? (i := 190) (by decide +kernel), rfl⟩
theorem st_T_254 : siteV "TakerBook" 254 ⟨"TakerBook", "isSuchSet", "(II)Z"⟩ := ⟨List.mem_of_getElem? (i := 819) (by decide +kernel), List.mem_of_getElem? (i := 821) (by decide +kernel), List.mem_of_getElem? (i := 17) (by decide +kernel)⟩
theorem st_T_251 : siteS "TakerBook" 251 ⟨"TakerBook", "isSum", "(I)Z"⟩ := ⟨List.mem_of_getElem? (i := 816) (by decide +kernel), List.mem_of_getElem? (i := 817) (by decide +kernel)⟩
theorem st_T_233 : siteV "TakerBook" 233 ⟨"TakerBook", "tellNumbers", "(JJ)V"⟩ := ⟨List.mem_of_getElem? (i := 796) (by decide +kernel), List.mem_of_getElem? (i := 798) (by decide +kernel), List.mem_of_getElem? (i := 15) (by decide +kernel)⟩
theorem st_T_257 : siteV "TakerBook" 257 ⟨"TakerBook", "refusedGoods", "(I)I"⟩ := ⟨List.mem_of_getElem? (i := 827) (by decide +kernel), List.mem_of_getElem? (i := 829) (by decide +kernel), List.mem_of_getElem? (i := 18) (by decide +kernel)⟩
theorem st_T_260 : siteV "TakerBook" 260 ⟨"TakerBook", "greaterPart", "(II)I"⟩ := ⟨List.mem_of_getElem? (i := 835) (by decide +kernel), List.mem_of_getElem? (i := 837) (by decide +kernel), List.mem_of_getElem? (i := 19) (by decide +kernel)⟩
theorem kb_65 : (Int8.ofInt 65).toInt32 = (65 : Int32) := by decide
theorem fk_T_372 : fok "TakerBook" 372 1 10 := ⟨(R_B, F_B, 19), rfl, by decide, List.mem_of_getElem? (i := 200) (by decide +kernel), rfl⟩
theorem st_T_281 : siteV "TakerBook" 281 ⟨"TakerBook", "goodsFor", "(I)I"⟩ := ⟨List.mem_of_getElem? (i := 895) (by decide +kernel), List.mem_of_getElem? (i := 897) (by decide +kernel), List.mem_of_getElem? (i := 25) (by decide +kernel)⟩
theorem st_T_284 : siteS "TakerBook" 284 ⟨"TakerBook", "isBetter", "(IIII)Z"⟩ := ⟨List.mem_of_getElem? (i := 899) (by decide +kernel), List.mem_of_getElem? (i := 749) (by decide +kernel)⟩
abbrev b_T_isSuchSet : ByteArray := prog_1_method_66_code
abbrev y_T_isSuchSet : MethodName := ⟨"TakerBook", "isSuchSet", "(II)Z"⟩
theorem d_T_isSuchSet_0 : decode b_T_isSuchSet 0 = .ok (.aload_n 0, 1) := by decide +kernel
theorem d_T_isSuchSet_1 : decode b_T_isSuchSet 1 = .ok (.getfield 36, 3) := by decide +kernel
theorem d_T_isSuchSet_4 : decode b_T_isSuchSet 4 = .ok (.iload_n 1, 1) := by decide +kernel
theorem d_T_isSuchSet_5 : decode b_T_isSuchSet 5 = .ok (.invokevirtual 186, 3) := by decide +kernel
theorem d_T_isSuchSet_8 : decode b_T_isSuchSet 8 = .ok (.ifCond .eq 22, 3) := by decide +kernel
theorem d_T_isSuchSet_11 : decode b_T_isSuchSet 11 = .ok (.iload_n 1, 1) := by decide +kernel
theorem d_T_isSuchSet_12 : decode b_T_isSuchSet 12 = .ok (.aload_n 0, 1) := by decide +kernel
theorem d_T_isSuchSet_13 : decode b_T_isSuchSet 13 = .ok (.getfield 36, 3) := by decide +kernel
theorem d_T_isSuchSet_16 : decode b_T_isSuchSet 16 = .ok (.getfield 355, 3) := by decide +kernel
theorem d_T_isSuchSet_19 : decode b_T_isSuchSet 19 = .ok (.invokestatic 210, 3) := by decide +kernel
theorem d_T_isSuchSet_22 : decode b_T_isSuchSet 22 = .ok (.iload_n 2, 1) := by decide +kernel
theorem d_T_isSuchSet_23 : decode b_T_isSuchSet 23 = .ok (.if_icmp .ne 7, 3) := by decide +kernel
theorem d_T_isSuchSet_26 : decode b_T_isSuchSet 26 = .ok (.iconst 1, 1) := by decide +kernel
theorem d_T_isSuchSet_27 : decode b_T_isSuchSet 27 = .ok (.goto 4, 3) := by decide +kernel
theorem d_T_isSuchSet_30 : decode b_T_isSuchSet 30 = .ok (.iconst 0, 1) := by decide +kernel
theorem d_T_isSuchSet_31 : decode b_T_isSuchSet 31 = .ok (.ireturn, 1) := by decide +kernel
theorem mo_T_isSuchSet : mok y_T_isSuchSet b_T_isSuchSet 3 (some .boolean) 2 := ⟨List.mem_of_getElem? (i := 822) (by decide +kernel), ⟨by decide +kernel, by decide +kernel, by decide +kernel⟩, List.mem_of_getElem? (i := 74) (by decide +kernel), by decide⟩
set_option maxHeartbeats 4000000 in
theorem c_T_isSuchSet (l : Launch) (u : Un) (hA : Ap u) (σ : St) {L : Nat} (hL : σ.1 19 14 = nI L) (hL64 : L < 64) (s : Nat) (v : Int32) (hs : s < 64) : MTi l u y_T_isSuchSet b_T_isSuchSet 3 .boolean 2 [.ref (u.2.1 0), .int (nI s), .int v] σ (fun ans σ' => bI (such σ L v s) = ans ∧ σ = σ') := by
  refine MT_of hA rfl (by decide) (Nat.le_of_ble_eq_true rfl) (fun X hl F hr => ?_)
  subst hl
  refine v_to (ls' := [(0, .ref (u.2.1 0)), (1, .int (nI s)), (2, .int v)]) rfl ?_
  refine v_aload_n F d_T_isSuchSet_0 rfl 0 rfl ?_
  refine v_getr (r := 19) F fk_T_36 G0 rfl d_T_isSuchSet_1 ?_
  refine v_iload_n F d_T_isSuchSet_4 rfl 1 rfl ?_
  refine v_runi (r_V F (c_B_isOfLeft X.2.1 u hA σ hL hL64 s (by omega)) mo_B_isOfLeft st_T_186 rc_19 (by decide) rfl (Nat.le_of_ble_eq_true rfl) d_T_isSuchSet_5) (fun r1 σ2 q3 => ?_)
  obtain ⟨rfl, rfl⟩ := q3
  refine v_bt F 30 d_T_isSuchSet_8 rfl (fun h8 => ?_) (fun h8 => ?_)
  · skip
    refine v_iconst (v := 0) F d_T_isSuchSet_30 ki_0 ?_
    refine v_iret F hr rfl d_T_isSuchSet_31 ?_
    exact ⟨bI_f (by rintro ⟨q1, q2⟩; first | exact absurd q1 (by assumption) | exact absurd q2 (by assumption)), rfl⟩
  · skip
    refine v_iload_n F d_T_isSuchSet_11 rfl 1 rfl ?_
    refine v_aload_n F d_T_isSuchSet_12 rfl 0 rfl ?_
    refine v_getr (r := 19) F fk_T_36 G0 rfl d_T_isSuchSet_13 ?_
    refine v_getr (r := 32) F fk_T_355 G19 rfl d_T_isSuchSet_16 ?_
    refine v_runi (r_S F (c_T_total X.2.1 u hA σ (s := s) (kc := 32) (Or.inl rfl) (by omega)) mo_T_total st_T_210 (by decide) rfl (Nat.le_of_ble_eq_true rfl) d_T_isSuchSet_19) (fun r4 σ5 q6 => ?_)
    obtain ⟨rfl, rfl⟩ := q6
    refine v_iload_n F d_T_isSuchSet_22 rfl 2 rfl ?_
    refine v_icmp_ne F 30 d_T_isSuchSet_23 rfl (fun h23 => ?_) (fun h23 => ?_)
    · skip
      refine v_iconst (v := 0) F d_T_isSuchSet_30 ki_0 ?_
      refine v_iret F hr rfl d_T_isSuchSet_31 ?_
      exact ⟨bI_f (by rintro ⟨q1, q2⟩; first | exact absurd q1 (by assumption) | exact absurd q2 (by assumption)), rfl⟩
    · skip
      refine v_iconst (v := 1) F d_T_isSuchSet_26 ki_1 ?_
      refine v_goto F 31 d_T_isSuchSet_27 rfl ?_
      refine v_iret F hr rfl d_T_isSuchSet_31 ?_
      exact ⟨bI_t ⟨by assumption, by assumption⟩, rfl⟩
abbrev b_T_refusedGoods : ByteArray := prog_1_method_50_code
abbrev y_T_refusedGoods : MethodName := ⟨"TakerBook", "refusedGoods", "(I)I"⟩
theorem d_T_refusedGoods_0 : decode b_T_refusedGoods 0 = .ok (.iload_n 1, 1) := by decide +kernel
theorem d_T_refusedGoods_1 : decode b_T_refusedGoods 1 = .ok (.invokestatic 251, 3) := by decide +kernel
theorem d_T_refusedGoods_4 : decode b_T_refusedGoods 4 = .ok (.ifCond .ne 5, 3) := by decide +kernel
theorem d_T_refusedGoods_7 : decode b_T_refusedGoods 7 = .ok (.iconst (-1), 1) := by decide +kernel
theorem d_T_refusedGoods_8 : decode b_T_refusedGoods 8 = .ok (.ireturn, 1) := by decide +kernel
theorem d_T_refusedGoods_9 : decode b_T_refusedGoods 9 = .ok (.aload_n 0, 1) := by decide +kernel
theorem d_T_refusedGoods_10 : decode b_T_refusedGoods 10 = .ok (.getfield 36, 3) := by decide +kernel
theorem d_T_refusedGoods_13 : decode b_T_refusedGoods 13 = .ok (.getfield 118, 3) := by decide +kernel
theorem d_T_refusedGoods_16 : decode b_T_refusedGoods 16 = .ok (.ifCond .ne 6, 3) := by decide +kernel
theorem d_T_refusedGoods_19 : decode b_T_refusedGoods 19 = .ok (.bipush (-4), 2) := by decide +kernel
theorem d_T_refusedGoods_21 : decode b_T_refusedGoods 21 = .ok (.ireturn, 1) := by decide +kernel
theorem d_T_refusedGoods_22 : decode b_T_refusedGoods 22 = .ok (.aload_n 0, 1) := by decide +kernel
theorem d_T_refusedGoods_23 : decode b_T_refusedGoods 23 = .ok (.getfield 36, 3) := by decide +kernel
theorem d_T_refusedGoods_26 : decode b_T_refusedGoods 26 = .ok (.invokevirtual 204, 3) := by decide +kernel
theorem d_T_refusedGoods_29 : decode b_T_refusedGoods 29 = .ok (.iconst 0, 1) := by decide +kernel
theorem d_T_refusedGoods_30 : decode b_T_refusedGoods 30 = .ok (.istore_n 2, 1) := by decide +kernel
theorem d_T_refusedGoods_31 : decode b_T_refusedGoods 31 = .ok (.iload_n 2, 1) := by decide +kernel
theorem d_T_refusedGoods_32 : decode b_T_refusedGoods 32 = .ok (.bipush 64, 2) := by decide +kernel
theorem d_T_refusedGoods_34 : decode b_T_refusedGoods 34 = .ok (.if_icmp .ge 20, 3) := by decide +kernel
theorem d_T_refusedGoods_37 : decode b_T_refusedGoods 37 = .ok (.aload_n 0, 1) := by decide +kernel
theorem d_T_refusedGoods_38 : decode b_T_refusedGoods 38 = .ok (.iload_n 2, 1) := by decide +kernel
theorem d_T_refusedGoods_39 : decode b_T_refusedGoods 39 = .ok (.iload_n 1, 1) := by decide +kernel
theorem d_T_refusedGoods_40 : decode b_T_refusedGoods 40 = .ok (.invokevirtual 254, 3) := by decide +kernel
theorem d_T_refusedGoods_43 : decode b_T_refusedGoods 43 = .ok (.ifCond .eq 5, 3) := by decide +kernel
theorem d_T_refusedGoods_46 : decode b_T_refusedGoods 46 = .ok (.iconst 0, 1) := by decide +kernel
theorem d_T_refusedGoods_47 : decode b_T_refusedGoods 47 = .ok (.ireturn, 1) := by decide +kernel
theorem d_T_refusedGoods_48 : decode b_T_refusedGoods 48 = .ok (.iinc 2 1, 3) := by decide +kernel
theorem d_T_refusedGoods_51 : decode b_T_refusedGoods 51 = .ok (.goto (-20), 3) := by decide +kernel
theorem d_T_refusedGoods_54 : decode b_T_refusedGoods 54 = .ok (.aload_n 0, 1) := by decide +kernel
theorem d_T_refusedGoods_55 : decode b_T_refusedGoods 55 = .ok (.iconst 4, 1) := by decide +kernel
theorem d_T_refusedGoods_56 : decode b_T_refusedGoods 56 = .ok (.invokevirtual 80, 3) := by decide +kernel
theorem d_T_refusedGoods_59 : decode b_T_refusedGoods 59 = .ok (.ireturn, 1) := by decide +kernel
theorem mo_T_refusedGoods : mok y_T_refusedGoods b_T_refusedGoods 3 (some .int) 1 := ⟨List.mem_of_getElem? (i := 830) (by decide +kernel), ⟨by decide +kernel, by decide +kernel, by decide +kernel⟩, List.mem_of_getElem? (i := 74) (by decide +kernel), by decide⟩
set_option maxHeartbeats 4000000 in
theorem L_T_refusedGoods_31 {X : FX} {u : Un} (hA : Ap u) {Q : State → Prop} (F : Fr X u "TakerBook" b_T_refusedGoods 3) {σ : St} {L : Nat} (hL : σ.1 19 14 = nI L) (hL64 : L < 64) {v : Int32} (k0 : ∀ (s : Nat), s < 64 → such σ L v s → V X u 7 3 Q 46 [(0, .ref (u.2.1 0)), (1, .int v), (2, .int (nI s))] [] (σ)) (k1 : ∀ (s : Nat), (∀ t, t < 64 → ¬ such σ L v t) → V X u 7 3 Q 54 [(0, .ref (u.2.1 0)), (1, .int v), (2, .int (nI s))] [] (σ)) : ∀ (nn : Nat) (s : Nat), s ≤ 64 → (∀ t, t < s → ¬ such σ L v t) → 64 - s < nn → V X u 7 3 Q 31 [(0, .ref (u.2.1 0)), (1, .int v), (2, .int (nI s))] [] (σ) := by
  intro nn
  induction nn with
  | zero =>
    intro s hs hno h2
    exact absurd h2 (Nat.not_lt_zero _)
  | succ nn ih =>
    intro s hs hno hm
    refine v_iload_n F d_T_refusedGoods_31 rfl 2 rfl ?_
    refine v_bipush (v := 64) F d_T_refusedGoods_32 kb_64 ?_
    refine v_icmp_ge F 54 d_T_refusedGoods_34 rfl (fun h34 => ?_) (fun h34 => ?_)
    · skip
      have h34 : 64 ≤ s := (nI_leI (a := 64) (b := s) (by omega) (by omega)).mp h34
      exact k1 s (fun t ht => hno t (by omega))
    · skip
      have h34 : ¬ 64 ≤ s := fun q => h34 ((nI_leI (a := 64) (b := s) (by omega) (by omega)).mpr q)
      refine v_aload_n F d_T_refusedGoods_37 rfl 0 rfl ?_
      refine v_iload_n F d_T_refusedGoods_38 rfl 2 rfl ?_
      refine v_iload_n F d_T_refusedGoods_39 rfl 1 rfl ?_
      refine v_runi (r_V F (c_T_isSuchSet X.2.1 u hA σ hL hL64 s v (by omega)) mo_T_isSuchSet st_T_254 rc_0 (by decide) rfl (Nat.le_of_ble_eq_true rfl) d_T_refusedGoods_40) (fun r1 σ2 q3 => ?_)
      obtain ⟨rfl, rfl⟩ := q3
      refine v_bt F 48 d_T_refusedGoods_43 rfl (fun h43 => ?_) (fun h43 => ?_)
      · skip
        refine v_iinc (v := nI (s + 1)) (ls' := [(2, .int (nI (s + 1))), (0, .ref (u.2.1 0)), (1, .int v)]) F d_T_refusedGoods_48 (j := 2) rfl (nI_inc _) (by decide) rfl ?_
        refine v_goto F 31 d_T_refusedGoods_51 rfl ?_
        refine v_sub [1, 2, 0] (ls' := [(0, .ref (u.2.1 0)), (1, .int v), (2, .int (nI (s + 1)))]) rfl ?_
        exact ih (s + 1) (by omega) (ex_step hno h43) (by omega)
      · skip
        exact k0 s (by omega) h43
set_option maxHeartbeats 4000000 in
theorem c_T_refusedGoods (l : Launch) (u : Un) (hA : Ap u) (σ : St) {n G : Nat} {kd : Nat → Nat} (hb : bkOk σ n G kd) {L : Nat} (hL : σ.1 19 14 = nI L) (hL64 : L < 64) (v : Int32) : MTi l u y_T_refusedGoods b_T_refusedGoods 3 .int 7 [.ref (u.2.1 0), .int v] σ (fun x σ' => (¬ (0 ≤ v ∧ v ≤ 99) ∧ -1 = x ∧ σ = σ') ∨ ((0 ≤ v ∧ v ≤ 99) ∧ σ.1 19 8 = 0 ∧ -4 = x ∧ σ = σ') ∨ ((0 ≤ v ∧ v ≤ 99) ∧ ¬ σ.1 19 8 = 0 ∧ exS (wgd σ G kd n L) L v ∧ 0 = x ∧ wgd σ G kd n L = σ') ∨ ((0 ≤ v ∧ v ≤ 99) ∧ ¬ σ.1 19 8 = 0 ∧ ¬ exS (wgd σ G kd n L) L v ∧ -3 = x ∧ σ' = tRef (wgd σ G kd n L) 4)) := by
  refine MT_of hA rfl (by decide) (Nat.le_of_ble_eq_true rfl) (fun X hl F hr => ?_)
  subst hl
  refine v_to (ls' := [(0, .ref (u.2.1 0)), (1, .int v)]) rfl ?_
  obtain ⟨hn, hn6, hG, hG64, hkd, hk6⟩ := id hb
  refine v_iload_n F d_T_refusedGoods_0 rfl 1 rfl ?_
  refine v_runi (r_S F (c_T_isSum X.2.1 u hA σ v ) mo_T_isSum st_T_251 (by decide) rfl (Nat.le_of_ble_eq_true rfl) d_T_refusedGoods_1) (fun r1 σ2 q3 => ?_)
  obtain ⟨rfl, rfl⟩ := q3
  refine v_bf F 9 d_T_refusedGoods_4 rfl (fun h4 => ?_) (fun h4 => ?_)
  · skip
    refine v_aload_n F d_T_refusedGoods_9 rfl 0 rfl ?_
    refine v_getr (r := 19) F fk_T_36 G0 rfl d_T_refusedGoods_10 ?_
    refine v_geti F fk_T_118 G19 rfl d_T_refusedGoods_13 ?_
    refine v_if_ne F 22 d_T_refusedGoods_16 rfl (fun h16 => ?_) (fun h16 => ?_)
    · skip
      refine v_aload_n F d_T_refusedGoods_22 rfl 0 rfl ?_
      refine v_getr (r := 19) F fk_T_36 G0 rfl d_T_refusedGoods_23 ?_
      refine v_runv (r_V F (c_B_weigh X.2.1 u hA σ hb hL hL64) mo_B_weigh st_T_204 rc_19 (by decide) rfl (Nat.le_of_ble_eq_true rfl) d_T_refusedGoods_26) (fun σ5 q6 => ?_)
      refine v_iconst (v := 0) F d_T_refusedGoods_29 ki_0 ?_
      refine v_istore_n (ls' := [(2, .int 0), (0, .ref (u.2.1 0)), (1, .int v)]) F d_T_refusedGoods_30 rfl (by decide) rfl ?_
      have eW : σ5 = wgd σ G kd n L := q6
      refine v_st eW ?_
      refine v_sub [1, 2, 0] (ls' := [(0, .ref (u.2.1 0)), (1, .int v), (2, .int 0)]) rfl ?_
      have g7 : 0 = (nI 0) := (by first | rfl | (simp_all; done) | grind)
      refine v_to (ls' := [(0, .ref (u.2.1 0)), (1, .int v), (2, .int (nI 0))]) (by first | rfl | rw [g7] | simp_all) ?_
      refine L_T_refusedGoods_31 hA F (L := L) (by rw [wgd_k _ _ _ _ _ (by decide) (by decide)]; exact hL) hL64 (fun s hs hsu => ?_) (fun s hno => ?_) _ 0 (by decide) (fun t ht => absurd ht (Nat.not_lt_zero _)) (Nat.lt_succ_self _)
      · skip
        refine v_iconst (v := 0) F d_T_refusedGoods_46 ki_0 ?_
        refine v_iret F hr rfl d_T_refusedGoods_47 ?_
        exact Or.inr (Or.inr (Or.inl ⟨h4, h16, ⟨s, hs, hsu⟩, rfl, rfl⟩))
      · skip
        refine v_aload_n F d_T_refusedGoods_54 rfl 0 rfl ?_
        refine v_iconst (v := 4) F d_T_refusedGoods_55 ki_4 ?_
        refine v_runi (r_V F (c_T_refuse X.2.1 u hA (wgd σ G kd n L) 4 (by decide)) mo_T_refuse st_T_80 rc_0 (by decide) rfl (Nat.le_of_ble_eq_true rfl) d_T_refusedGoods_56) (fun r8 σ9 q10 => ?_)
        obtain ⟨rfl, eσ9⟩ := q10
        refine v_iret F hr rfl d_T_refusedGoods_59 ?_
        exact Or.inr (Or.inr (Or.inr ⟨h4, h16, fun ⟨t, ht, q⟩ => hno t ht q, rfl, by assumption⟩))
    · skip
      refine v_bipush (v := (-4)) F d_T_refusedGoods_19 kb_m4 ?_
      refine v_iret F hr rfl d_T_refusedGoods_21 ?_
      exact Or.inr (Or.inl ⟨h4, h16, rfl, rfl⟩)
  · skip
    refine v_iconst (v := (-1)) F d_T_refusedGoods_7 ki_m1 ?_
    refine v_iret F hr rfl d_T_refusedGoods_8 ?_
    exact Or.inl ⟨h4, rfl, rfl⟩
abbrev b_T_fits : ByteArray := prog_1_method_28_code
abbrev y_T_fits : MethodName := ⟨"TakerBook", "fits", "(I)I"⟩
theorem d_T_fits_0 : decode b_T_fits 0 = .ok (.iload_n 1, 1) := by decide +kernel
theorem d_T_fits_1 : decode b_T_fits 1 = .ok (.invokestatic 251, 3) := by decide +kernel
theorem d_T_fits_4 : decode b_T_fits 4 = .ok (.ifCond .ne 5, 3) := by decide +kernel
theorem d_T_fits_7 : decode b_T_fits 7 = .ok (.iconst (-1), 1) := by decide +kernel
theorem d_T_fits_8 : decode b_T_fits 8 = .ok (.ireturn, 1) := by decide +kernel
theorem d_T_fits_9 : decode b_T_fits 9 = .ok (.aload_n 0, 1) := by decide +kernel
theorem d_T_fits_10 : decode b_T_fits 10 = .ok (.getfield 36, 3) := by decide +kernel
theorem d_T_fits_13 : decode b_T_fits 13 = .ok (.getfield 118, 3) := by decide +kernel
theorem d_T_fits_16 : decode b_T_fits 16 = .ok (.ifCond .ne 6, 3) := by decide +kernel
theorem d_T_fits_19 : decode b_T_fits 19 = .ok (.bipush (-4), 2) := by decide +kernel
theorem d_T_fits_21 : decode b_T_fits 21 = .ok (.ireturn, 1) := by decide +kernel
theorem d_T_fits_22 : decode b_T_fits 22 = .ok (.aload_n 0, 1) := by decide +kernel
theorem d_T_fits_23 : decode b_T_fits 23 = .ok (.getfield 36, 3) := by decide +kernel
theorem d_T_fits_26 : decode b_T_fits 26 = .ok (.invokevirtual 204, 3) := by decide +kernel
theorem d_T_fits_29 : decode b_T_fits 29 = .ok (.iconst 0, 1) := by decide +kernel
theorem d_T_fits_30 : decode b_T_fits 30 = .ok (.istore_n 2, 1) := by decide +kernel
theorem d_T_fits_31 : decode b_T_fits 31 = .ok (.bipush (-9), 2) := by decide +kernel
theorem d_T_fits_33 : decode b_T_fits 33 = .ok (.istore_n 3, 1) := by decide +kernel
theorem d_T_fits_34 : decode b_T_fits 34 = .ok (.iconst 0, 1) := by decide +kernel
theorem d_T_fits_35 : decode b_T_fits 35 = .ok (.istore 4, 2) := by decide +kernel
theorem d_T_fits_37 : decode b_T_fits 37 = .ok (.iload 4, 2) := by decide +kernel
theorem d_T_fits_39 : decode b_T_fits 39 = .ok (.bipush 64, 2) := by decide +kernel
theorem d_T_fits_41 : decode b_T_fits 41 = .ok (.if_icmp .ge 33, 3) := by decide +kernel
theorem d_T_fits_44 : decode b_T_fits 44 = .ok (.aload_n 0, 1) := by decide +kernel
theorem d_T_fits_45 : decode b_T_fits 45 = .ok (.iload 4, 2) := by decide +kernel
theorem d_T_fits_47 : decode b_T_fits 47 = .ok (.iload_n 1, 1) := by decide +kernel
theorem d_T_fits_48 : decode b_T_fits 48 = .ok (.invokevirtual 254, 3) := by decide +kernel
theorem d_T_fits_51 : decode b_T_fits 51 = .ok (.ifCond .eq 17, 3) := by decide +kernel
theorem d_T_fits_54 : decode b_T_fits 54 = .ok (.iload_n 2, 1) := by decide +kernel
theorem d_T_fits_55 : decode b_T_fits 55 = .ok (.ifCond .ne 8, 3) := by decide +kernel
theorem d_T_fits_58 : decode b_T_fits 58 = .ok (.iload 4, 2) := by decide +kernel
theorem d_T_fits_60 : decode b_T_fits 60 = .ok (.goto 4, 3) := by decide +kernel
theorem d_T_fits_63 : decode b_T_fits 63 = .ok (.iload_n 3, 1) := by decide +kernel
theorem d_T_fits_64 : decode b_T_fits 64 = .ok (.istore_n 3, 1) := by decide +kernel
theorem d_T_fits_65 : decode b_T_fits 65 = .ok (.iinc 2 1, 3) := by decide +kernel
theorem d_T_fits_68 : decode b_T_fits 68 = .ok (.iinc 4 1, 3) := by decide +kernel
theorem d_T_fits_71 : decode b_T_fits 71 = .ok (.goto (-34), 3) := by decide +kernel
theorem d_T_fits_74 : decode b_T_fits 74 = .ok (.aload_n 0, 1) := by decide +kernel
theorem d_T_fits_75 : decode b_T_fits 75 = .ok (.iload_n 2, 1) := by decide +kernel
theorem d_T_fits_76 : decode b_T_fits 76 = .ok (.i2l, 1) := by decide +kernel
theorem d_T_fits_77 : decode b_T_fits 77 = .ok (.lconst 1, 1) := by decide +kernel
theorem d_T_fits_78 : decode b_T_fits 78 = .ok (.invokevirtual 233, 3) := by decide +kernel
theorem d_T_fits_81 : decode b_T_fits 81 = .ok (.aload_n 0, 1) := by decide +kernel
theorem d_T_fits_82 : decode b_T_fits 82 = .ok (.iload_n 3, 1) := by decide +kernel
theorem d_T_fits_83 : decode b_T_fits 83 = .ok (.putfield 88, 3) := by decide +kernel
theorem d_T_fits_86 : decode b_T_fits 86 = .ok (.iconst 1, 1) := by decide +kernel
theorem d_T_fits_87 : decode b_T_fits 87 = .ok (.ireturn, 1) := by decide +kernel
theorem mo_T_fits : mok y_T_fits b_T_fits 5 (some .int) 1 := ⟨List.mem_of_getElem? (i := 815) (by decide +kernel), ⟨by decide +kernel, by decide +kernel, by decide +kernel⟩, List.mem_of_getElem? (i := 74) (by decide +kernel), by decide⟩
set_option maxHeartbeats 4000000 in
theorem L_T_fits_37 {X : FX} {u : Un} (hA : Ap u) {Q : State → Prop} (F : Fr X u "TakerBook" b_T_fits 5) {σ : St} {L : Nat} (hL : σ.1 19 14 = nI L) (hL64 : L < 64) {v : Int32} (k : V X u 7 5 Q 74 [(0, .ref (u.2.1 0)), (1, .int v), (2, .int (nI ((itr (fitF σ L v) (0, -9) 64).1))), (3, .int ((itr (fitF σ L v) (0, -9) 64).2)), (4, .int (nI 64))] [] (σ)) : ∀ (nn s : Nat), s ≤ 64 → 64 - s < nn → V X u 7 5 Q 37 [(0, .ref (u.2.1 0)), (1, .int v), (2, .int (nI ((itr (fitF σ L v) (0, -9) s).1))), (3, .int ((itr (fitF σ L v) (0, -9) s).2)), (4, .int (nI s))] [] (σ) := by
  intro nn
  induction nn with
  | zero =>
    intro s h1 h2
    exact absurd h2 (Nat.not_lt_zero _)
  | succ nn ih =>
    intro s hii hnn
    have hfb := fitF_b (σ := σ) (L := L) (v := v) s
    refine v_iload F d_T_fits_37 4 rfl ?_
    refine v_bipush (v := 64) F d_T_fits_39 kb_64 ?_
    refine v_icmp_ge F 74 d_T_fits_41 rfl (fun h41 => ?_) (fun h41 => ?_)
    · skip
      have h41 : 64 ≤ s := (nI_leI (a := 64) (b := s) (by omega) (by omega)).mp h41
      have he : s = 64 := by omega
      subst he
      exact k
    · skip
      have h41 : ¬ 64 ≤ s := fun q => h41 ((nI_leI (a := 64) (b := s) (by omega) (by omega)).mpr q)
      refine v_aload_n F d_T_fits_44 rfl 0 rfl ?_
      refine v_iload F d_T_fits_45 4 rfl ?_
      refine v_iload_n F d_T_fits_47 rfl 1 rfl ?_
      refine v_runi (r_V F (c_T_isSuchSet X.2.1 u hA σ hL hL64 s v (by omega)) mo_T_isSuchSet st_T_254 rc_0 (by decide) rfl (Nat.le_of_ble_eq_true rfl) d_T_fits_48) (fun r1 σ2 q3 => ?_)
      obtain ⟨rfl, rfl⟩ := q3
      refine v_bt F 68 d_T_fits_51 rfl (fun h51 => ?_) (fun h51 => ?_)
      · skip
        refine v_iinc (v := nI (s + 1)) (ls' := [(4, .int (nI (s + 1))), (0, .ref (u.2.1 0)), (1, .int v), (2, .int (nI ((itr (fitF σ L v) (0, -9) s).1))), (3, .int ((itr (fitF σ L v) (0, -9) s).2))]) F d_T_fits_68 (j := 4) rfl (nI_inc _) (by decide) rfl ?_
        refine v_goto F 37 d_T_fits_71 rfl ?_
        refine v_sub [1, 2, 3, 4, 0] (ls' := [(0, .ref (u.2.1 0)), (1, .int v), (2, .int (nI ((itr (fitF σ L v) (0, -9) s).1))), (3, .int ((itr (fitF σ L v) (0, -9) s).2)), (4, .int (nI (s + 1)))]) rfl ?_
        have g4 : (nI ((itr (fitF σ L v) (0, -9) s).1)) = (nI ((itr (fitF σ L v) (0, -9) (s + 1)).1)) := (by first | rfl | (simp only [itr, fitF]; rw [if_pos (by assumption)]; first | done | rfl | (simp only [*]; done) | (rw [if_pos (by assumption)]; done) | (rw [if_neg (by assumption)]; done) | (subst_vars; rw [if_pos (by assumption)]; done) | (subst_vars; rw [if_neg (by assumption)]; done)) | (simp only [itr, fitF]; rw [if_neg (by assumption)]))
        have g5 : ((itr (fitF σ L v) (0, -9) s).2) = ((itr (fitF σ L v) (0, -9) (s + 1)).2) := (by first | rfl | (simp only [itr, fitF]; rw [if_pos (by assumption)]; first | done | rfl | (simp only [*]; done) | (rw [if_pos (by assumption)]; done) | (rw [if_neg (by assumption)]; done) | (subst_vars; rw [if_pos (by assumption)]; done) | (subst_vars; rw [if_neg (by assumption)]; done)) | (simp only [itr, fitF]; rw [if_neg (by assumption)]))
        refine v_to (ls' := [(0, .ref (u.2.1 0)), (1, .int v), (2, .int (nI ((itr (fitF σ L v) (0, -9) (s + 1)).1))), (3, .int ((itr (fitF σ L v) (0, -9) (s + 1)).2)), (4, .int (nI (s + 1)))]) (by first | rfl | rw [g4, g5] | simp_all) ?_
        exact ih (s + 1) (by omega) (by omega)
      · skip
        refine v_iload_n F d_T_fits_54 rfl 2 rfl ?_
        refine v_if_ne F 63 d_T_fits_55 rfl (fun h55 => ?_) (fun h55 => ?_)
        · skip
          have h55 : ¬ (itr (fitF σ L v) (0, -9) s).1 = 0 := fun q => h55 ((nI_eq (a := (itr (fitF σ L v) (0, -9) s).1) (b := 0) (by omega) (by omega)).mpr q)
          refine v_iload_n F d_T_fits_63 rfl 3 rfl ?_
          refine v_ni (fun x6 ex6 => ?_)
          refine v_istore_n (ls' := [(3, .int x6), (0, .ref (u.2.1 0)), (1, .int v), (2, .int (nI ((itr (fitF σ L v) (0, -9) s).1))), (4, .int (nI s))]) F d_T_fits_64 rfl (by decide) rfl ?_
          refine v_iinc (v := nI ((itr (fitF σ L v) (0, -9) s).1 + 1)) (ls' := [(2, .int (nI ((itr (fitF σ L v) (0, -9) s).1 + 1))), (3, .int x6), (0, .ref (u.2.1 0)), (1, .int v), (4, .int (nI s))]) F d_T_fits_65 (j := 3) rfl (nI_inc _) (by decide) rfl ?_
          refine v_iinc (v := nI (s + 1)) (ls' := [(4, .int (nI (s + 1))), (2, .int (nI ((itr (fitF σ L v) (0, -9) s).1 + 1))), (3, .int x6), (0, .ref (u.2.1 0)), (1, .int v)]) F d_T_fits_68 (j := 4) rfl (nI_inc _) (by decide) rfl ?_
          refine v_goto F 37 d_T_fits_71 rfl ?_
          refine v_sub [3, 4, 1, 2, 0] (ls' := [(0, .ref (u.2.1 0)), (1, .int v), (2, .int (nI ((itr (fitF σ L v) (0, -9) s).1 + 1))), (3, .int x6), (4, .int (nI (s + 1)))]) rfl ?_
          have g7 : (nI ((itr (fitF σ L v) (0, -9) s).1 + 1)) = (nI ((itr (fitF σ L v) (0, -9) (s + 1)).1)) := (by first | rfl | (simp only [itr, fitF]; rw [if_pos (by assumption)]; first | done | rfl | (simp only [*]; done) | (rw [if_pos (by assumption)]; done) | (rw [if_neg (by assumption)]; done) | (subst_vars; rw [if_pos (by assumption)]; done) | (subst_vars; rw [if_neg (by assumption)]; done)) | (simp only [itr, fitF]; rw [if_neg (by assumption)]))
          have g8 : x6 = ((itr (fitF σ L v) (0, -9) (s + 1)).2) := (by first | rfl | (simp only [itr, fitF]; rw [if_pos (by assumption)]; first | done | rfl | (simp only [*]; done) | (rw [if_pos (by assumption)]; done) | (rw [if_neg (by assumption)]; done) | (subst_vars; rw [if_pos (by assumption)]; done) | (subst_vars; rw [if_neg (by assumption)]; done)) | (simp only [itr, fitF]; rw [if_neg (by assumption)]))
          refine v_to (ls' := [(0, .ref (u.2.1 0)), (1, .int v), (2, .int (nI ((itr (fitF σ L v) (0, -9) (s + 1)).1))), (3, .int ((itr (fitF σ L v) (0, -9) (s + 1)).2)), (4, .int (nI (s + 1)))]) (by first | rfl | rw [g7, g8] | simp_all) ?_
          exact ih (s + 1) (by omega) (by omega)
        · skip
          have h55 : (itr (fitF σ L v) (0, -9) s).1 = 0 := (nI_eq (a := (itr (fitF σ L v) (0, -9) s).1) (b := 0) (by omega) (by omega)).mp h55
          refine v_iload F d_T_fits_58 4 rfl ?_
          refine v_goto F 64 d_T_fits_60 rfl ?_
          refine v_istore_n (ls' := [(3, .int (nI s)), (0, .ref (u.2.1 0)), (1, .int v), (2, .int (nI ((itr (fitF σ L v) (0, -9) s).1))), (4, .int (nI s))]) F d_T_fits_64 rfl (by decide) rfl ?_
          refine v_iinc (v := nI ((itr (fitF σ L v) (0, -9) s).1 + 1)) (ls' := [(2, .int (nI ((itr (fitF σ L v) (0, -9) s).1 + 1))), (3, .int (nI s)), (0, .ref (u.2.1 0)), (1, .int v), (4, .int (nI s))]) F d_T_fits_65 (j := 3) rfl (nI_inc _) (by decide) rfl ?_
          refine v_iinc (v := nI (s + 1)) (ls' := [(4, .int (nI (s + 1))), (2, .int (nI ((itr (fitF σ L v) (0, -9) s).1 + 1))), (3, .int (nI s)), (0, .ref (u.2.1 0)), (1, .int v)]) F d_T_fits_68 (j := 4) rfl (nI_inc _) (by decide) rfl ?_
          refine v_goto F 37 d_T_fits_71 rfl ?_
          refine v_sub [3, 4, 1, 2, 0] (ls' := [(0, .ref (u.2.1 0)), (1, .int v), (2, .int (nI ((itr (fitF σ L v) (0, -9) s).1 + 1))), (3, .int (nI s)), (4, .int (nI (s + 1)))]) rfl ?_
          have g9 : (nI ((itr (fitF σ L v) (0, -9) s).1 + 1)) = (nI ((itr (fitF σ L v) (0, -9) (s + 1)).1)) := (by first | rfl | (simp only [itr, fitF]; rw [if_pos (by assumption)]; first | done | rfl | (simp only [*]; done) | (rw [if_pos (by assumption)]; done) | (rw [if_neg (by assumption)]; done) | (subst_vars; rw [if_pos (by assumption)]; done) | (subst_vars; rw [if_neg (by assumption)]; done)) | (simp only [itr, fitF]; rw [if_neg (by assumption)]))
          have g10 : (nI s) = ((itr (fitF σ L v) (0, -9) (s + 1)).2) := (by first | rfl | (simp only [itr, fitF]; rw [if_pos (by assumption)]; first | done | rfl | (simp only [*]; done) | (rw [if_pos (by assumption)]; done) | (rw [if_neg (by assumption)]; done) | (subst_vars; rw [if_pos (by assumption)]; done) | (subst_vars; rw [if_neg (by assumption)]; done)) | (simp only [itr, fitF]; rw [if_neg (by assumption)]))
          refine v_to (ls' := [(0, .ref (u.2.1 0)), (1, .int v), (2, .int (nI ((itr (fitF σ L v) (0, -9) (s + 1)).1))), (3, .int ((itr (fitF σ L v) (0, -9) (s + 1)).2)), (4, .int (nI (s + 1)))]) (by first | rfl | rw [g9, g10] | simp_all) ?_
          exact ih (s + 1) (by omega) (by omega)
set_option maxHeartbeats 4000000 in
theorem c_T_fits (l : Launch) (u : Un) (hA : Ap u) (σ : St) {n G : Nat} {kd : Nat → Nat} (hb : bkOk σ n G kd) {L : Nat} (hL : σ.1 19 14 = nI L) (hL64 : L < 64) (v : Int32) : MTi l u y_T_fits b_T_fits 5 .int 7 [.ref (u.2.1 0), .int v] σ (fun ans σ' => (ans, σ') = tFits σ G kd n L v) := by
  refine MT_of hA rfl (by decide) (Nat.le_of_ble_eq_true rfl) (fun X hl F hr => ?_)
  subst hl
  refine v_to (ls' := [(0, .ref (u.2.1 0)), (1, .int v)]) rfl ?_
  obtain ⟨hn, hn6, hG, hG64, hkd, hk6⟩ := id hb
  refine v_iload_n F d_T_fits_0 rfl 1 rfl ?_
  refine v_runi (r_S F (c_T_isSum X.2.1 u hA σ v ) mo_T_isSum st_T_251 (by decide) rfl (Nat.le_of_ble_eq_true rfl) d_T_fits_1) (fun r1 σ2 q3 => ?_)
  obtain ⟨rfl, rfl⟩ := q3
  refine v_bf F 9 d_T_fits_4 rfl (fun h4 => ?_) (fun h4 => ?_)
  · skip
    refine v_aload_n F d_T_fits_9 rfl 0 rfl ?_
    refine v_getr (r := 19) F fk_T_36 G0 rfl d_T_fits_10 ?_
    refine v_geti F fk_T_118 G19 rfl d_T_fits_13 ?_
    refine v_if_ne F 22 d_T_fits_16 rfl (fun h16 => ?_) (fun h16 => ?_)
    · skip
      refine v_aload_n F d_T_fits_22 rfl 0 rfl ?_
      refine v_getr (r := 19) F fk_T_36 G0 rfl d_T_fits_23 ?_
      refine v_runv (r_V F (c_B_weigh X.2.1 u hA σ hb hL hL64) mo_B_weigh st_T_204 rc_19 (by decide) rfl (Nat.le_of_ble_eq_true rfl) d_T_fits_26) (fun σ5 q6 => ?_)
      refine v_iconst (v := 0) F d_T_fits_29 ki_0 ?_
      refine v_istore_n (ls' := [(2, .int 0), (0, .ref (u.2.1 0)), (1, .int v)]) F d_T_fits_30 rfl (by decide) rfl ?_
      refine v_bipush (v := (-9)) F d_T_fits_31 kb_m9 ?_
      refine v_istore_n (ls' := [(3, .int (-9)), (2, .int 0), (0, .ref (u.2.1 0)), (1, .int v)]) F d_T_fits_33 rfl (by decide) rfl ?_
      refine v_iconst (v := 0) F d_T_fits_34 ki_0 ?_
      refine v_istore (ls' := [(4, .int 0), (3, .int (-9)), (2, .int 0), (0, .ref (u.2.1 0)), (1, .int v)]) F d_T_fits_35 (by decide) rfl ?_
      have eW : σ5 = wgd σ G kd n L := q6
      refine v_st eW ?_
      have hc := fitF_b (σ := wgd σ G kd n L) (L := L) (v := v) 64
      refine v_sub [3, 4, 2, 1, 0] (ls' := [(0, .ref (u.2.1 0)), (1, .int v), (2, .int 0), (3, .int (-9)), (4, .int 0)]) rfl ?_
      have g7 : 0 = (nI ((itr (fitF (wgd σ G kd n L) L v) (0, -9) 0).1)) := (by first | rfl | (simp only [itr, fitF]; rw [if_pos (by assumption)]; first | done | rfl | (simp only [*]; done) | (rw [if_pos (by assumption)]; done) | (rw [if_neg (by assumption)]; done) | (subst_vars; rw [if_pos (by assumption)]; done) | (subst_vars; rw [if_neg (by assumption)]; done)) | (simp only [itr, fitF]; rw [if_neg (by assumption)]))
      have g8 : (-9) = ((itr (fitF (wgd σ G kd n L) L v) (0, -9) 0).2) := (by first | rfl | (simp only [itr, fitF]; rw [if_pos (by assumption)]; first | done | rfl | (simp only [*]; done) | (rw [if_pos (by assumption)]; done) | (rw [if_neg (by assumption)]; done) | (subst_vars; rw [if_pos (by assumption)]; done) | (subst_vars; rw [if_neg (by assumption)]; done)) | (simp only [itr, fitF]; rw [if_neg (by assumption)]))
      have g9 : 0 = (nI 0) := (by first | rfl | (simp only [itr, fitF]; rw [if_pos (by assumption)]; first | done | rfl | (simp only [*]; done) | (rw [if_pos (by assumption)]; done) | (rw [if_neg (by assumption)]; done) | (subst_vars; rw [if_pos (by assumption)]; done) | (subst_vars; rw [if_neg (by assumption)]; done)) | (simp only [itr, fitF]; rw [if_neg (by assumption)]))
      refine v_to (ls' := [(0, .ref (u.2.1 0)), (1, .int v), (2, .int (nI ((itr (fitF (wgd σ G kd n L) L v) (0, -9) 0).1))), (3, .int ((itr (fitF (wgd σ G kd n L) L v) (0, -9) 0).2)), (4, .int (nI 0))]) (by first | rfl | rw [g7, g8, g9] | simp_all) ?_
      refine v_st (show (wgd σ G kd n L) = ((wgd σ G kd n L)) from (by first | rfl | (simp only [itr, fitF]; rw [if_pos (by assumption)]; first | done | rfl | (simp only [*]; done) | (rw [if_pos (by assumption)]; done) | (rw [if_neg (by assumption)]; done) | (subst_vars; rw [if_pos (by assumption)]; done) | (subst_vars; rw [if_neg (by assumption)]; done)) | (simp only [itr, fitF]; rw [if_neg (by assumption)]))) ?_
      refine L_T_fits_37 hA F (by rw [wgd_k _ _ _ _ _ (by decide) (by decide)]; exact hL) hL64 ?_ _ 0 (Nat.zero_le _) (Nat.lt_succ_self _)
      refine v_aload_n F d_T_fits_74 rfl 0 rfl ?_
      refine v_iload_n F d_T_fits_75 rfl 2 rfl ?_
      refine v_i2l F d_T_fits_76 ?_
      refine v_tl (y := (lN (itr (fitF (wgd σ G kd n L) L v) (0, -9) 64).1)) (nI_l (by omega)) ?_
      refine v_lconst (v := 1) F d_T_fits_77 rfl ?_
      refine v_runv (r_V F (c_T_tellNumbers X.2.1 u hA ((wgd σ G kd n L)) ((itr (fitF (wgd σ G kd n L) L v) (0, -9) 64).1) 1 (by omega) (by omega) (by omega)) mo_T_tellNumbers st_T_233 rc_0 (by decide) rfl (Nat.le_of_ble_eq_true rfl) d_T_fits_78) (fun σ11 q12 => ?_)
      refine v_aload_n F d_T_fits_81 rfl 0 rfl ?_
      refine v_iload_n F d_T_fits_82 rfl 3 rfl ?_
      refine v_puti F fk_T_88 pk_T_told G0 rfl d_T_fits_83 ?_
      refine v_ns (fun σ13 eσ13 => ?_)
      refine v_iconst (v := 1) F d_T_fits_86 ki_1 ?_
      refine v_iret F hr rfl d_T_fits_87 ?_
      unfold tFits
      rw [if_neg (fun q => q h4), if_neg h16]
      subst_vars
      simp only [Nat.gcd_one_right, Nat.div_one]
    · skip
      refine v_bipush (v := (-4)) F d_T_fits_19 kb_m4 ?_
      refine v_iret F hr rfl d_T_fits_21 ?_
      unfold tFits
      (repeat' split) <;> first | rfl | (exfalso; grind) | (subst_vars; rfl) | grind
  · skip
    refine v_iconst (v := (-1)) F d_T_fits_7 ki_m1 ?_
    refine v_iret F hr rfl d_T_fits_8 ?_
    unfold tFits
    (repeat' split) <;> first | rfl | (exfalso; grind) | (subst_vars; rfl) | grind
abbrev b_T_sure : ByteArray := prog_1_method_29_code
abbrev y_T_sure : MethodName := ⟨"TakerBook", "sure", "(I)I"⟩
theorem d_T_sure_0 : decode b_T_sure 0 = .ok (.aload_n 0, 1) := by decide +kernel
theorem d_T_sure_1 : decode b_T_sure 1 = .ok (.iload_n 1, 1) := by decide +kernel
theorem d_T_sure_2 : decode b_T_sure 2 = .ok (.invokevirtual 257, 3) := by decide +kernel
theorem d_T_sure_5 : decode b_T_sure 5 = .ok (.istore_n 2, 1) := by decide +kernel
theorem d_T_sure_6 : decode b_T_sure 6 = .ok (.iload_n 2, 1) := by decide +kernel
theorem d_T_sure_7 : decode b_T_sure 7 = .ok (.ifCond .eq 5, 3) := by decide +kernel
theorem d_T_sure_10 : decode b_T_sure 10 = .ok (.iload_n 2, 1) := by decide +kernel
theorem d_T_sure_11 : decode b_T_sure 11 = .ok (.ireturn, 1) := by decide +kernel
theorem d_T_sure_12 : decode b_T_sure 12 = .ok (.aload_n 0, 1) := by decide +kernel
theorem d_T_sure_13 : decode b_T_sure 13 = .ok (.getfield 36, 3) := by decide +kernel
theorem d_T_sure_16 : decode b_T_sure 16 = .ok (.getfield 166, 3) := by decide +kernel
theorem d_T_sure_19 : decode b_T_sure 19 = .ok (.istore_n 3, 1) := by decide +kernel
theorem d_T_sure_20 : decode b_T_sure 20 = .ok (.iconst 0, 1) := by decide +kernel
theorem d_T_sure_21 : decode b_T_sure 21 = .ok (.istore 4, 2) := by decide +kernel
theorem d_T_sure_23 : decode b_T_sure 23 = .ok (.iconst 0, 1) := by decide +kernel
theorem d_T_sure_24 : decode b_T_sure 24 = .ok (.istore 5, 2) := by decide +kernel
theorem d_T_sure_26 : decode b_T_sure 26 = .ok (.iload 5, 2) := by decide +kernel
theorem d_T_sure_28 : decode b_T_sure 28 = .ok (.bipush 64, 2) := by decide +kernel
theorem d_T_sure_30 : decode b_T_sure 30 = .ok (.if_icmp .ge 31, 3) := by decide +kernel
theorem d_T_sure_33 : decode b_T_sure 33 = .ok (.aload_n 0, 1) := by decide +kernel
theorem d_T_sure_34 : decode b_T_sure 34 = .ok (.iload 5, 2) := by decide +kernel
theorem d_T_sure_36 : decode b_T_sure 36 = .ok (.iload_n 1, 1) := by decide +kernel
theorem d_T_sure_37 : decode b_T_sure 37 = .ok (.invokevirtual 254, 3) := by decide +kernel
theorem d_T_sure_40 : decode b_T_sure 40 = .ok (.ifCond .eq 15, 3) := by decide +kernel
theorem d_T_sure_43 : decode b_T_sure 43 = .ok (.iload_n 3, 1) := by decide +kernel
theorem d_T_sure_44 : decode b_T_sure 44 = .ok (.iload 5, 2) := by decide +kernel
theorem d_T_sure_46 : decode b_T_sure 46 = .ok (.iand, 1) := by decide +kernel
theorem d_T_sure_47 : decode b_T_sure 47 = .ok (.istore_n 3, 1) := by decide +kernel
theorem d_T_sure_48 : decode b_T_sure 48 = .ok (.iload 4, 2) := by decide +kernel
theorem d_T_sure_50 : decode b_T_sure 50 = .ok (.iload 5, 2) := by decide +kernel
theorem d_T_sure_52 : decode b_T_sure 52 = .ok (.ior, 1) := by decide +kernel
theorem d_T_sure_53 : decode b_T_sure 53 = .ok (.istore 4, 2) := by decide +kernel
theorem d_T_sure_55 : decode b_T_sure 55 = .ok (.iinc 5 1, 3) := by decide +kernel
theorem d_T_sure_58 : decode b_T_sure 58 = .ok (.goto (-32), 3) := by decide +kernel
theorem d_T_sure_61 : decode b_T_sure 61 = .ok (.aload_n 0, 1) := by decide +kernel
theorem d_T_sure_62 : decode b_T_sure 62 = .ok (.aload_n 0, 1) := by decide +kernel
theorem d_T_sure_63 : decode b_T_sure 63 = .ok (.getfield 36, 3) := by decide +kernel
theorem d_T_sure_66 : decode b_T_sure 66 = .ok (.getfield 166, 3) := by decide +kernel
theorem d_T_sure_69 : decode b_T_sure 69 = .ok (.iload 4, 2) := by decide +kernel
theorem d_T_sure_71 : decode b_T_sure 71 = .ok (.iconst (-1), 1) := by decide +kernel
theorem d_T_sure_72 : decode b_T_sure 72 = .ok (.ixor, 1) := by decide +kernel
theorem d_T_sure_73 : decode b_T_sure 73 = .ok (.iand, 1) := by decide +kernel
theorem d_T_sure_74 : decode b_T_sure 74 = .ok (.putfield 88, 3) := by decide +kernel
theorem d_T_sure_77 : decode b_T_sure 77 = .ok (.iload_n 3, 1) := by decide +kernel
theorem d_T_sure_78 : decode b_T_sure 78 = .ok (.ireturn, 1) := by decide +kernel
theorem mo_T_sure : mok y_T_sure b_T_sure 6 (some .int) 1 := ⟨List.mem_of_getElem? (i := 826) (by decide +kernel), ⟨by decide +kernel, by decide +kernel, by decide +kernel⟩, List.mem_of_getElem? (i := 74) (by decide +kernel), by decide⟩
set_option maxHeartbeats 4000000 in
theorem L_T_sure_26 {X : FX} {u : Un} (hA : Ap u) {Q : State → Prop} (F : Fr X u "TakerBook" b_T_sure 6) {σ : St} {L : Nat} (hL : σ.1 19 14 = nI L) (hL64 : L < 64) {v : Int32} (k : V X u 8 6 Q 61 [(0, .ref (u.2.1 0)), (1, .int v), (3, .int (nI ((itr (sureF σ L v) (L, 0) 64).1))), (4, .int (nI ((itr (sureF σ L v) (L, 0) 64).2))), (5, .int (nI 64))] [] (σ)) : ∀ (nn s : Nat), s ≤ 64 → 64 - s < nn → V X u 8 6 Q 26 [(0, .ref (u.2.1 0)), (1, .int v), (3, .int (nI ((itr (sureF σ L v) (L, 0) s).1))), (4, .int (nI ((itr (sureF σ L v) (L, 0) s).2))), (5, .int (nI s))] [] (σ) := by
  intro nn
  induction nn with
  | zero =>
    intro s h1 h2
    exact absurd h2 (Nat.not_lt_zero _)
  | succ nn ih =>
    intro s hii hnn
    refine v_iload F d_T_sure_26 4 rfl ?_
    refine v_bipush (v := 64) F d_T_sure_28 kb_64 ?_
    refine v_icmp_ge F 61 d_T_sure_30 rfl (fun h30 => ?_) (fun h30 => ?_)
    · skip
      have h30 : 64 ≤ s := (nI_leI (a := 64) (b := s) (by omega) (by omega)).mp h30
      have he : s = 64 := by omega
      subst he
      exact k
    · skip
      have h30 : ¬ 64 ≤ s := fun q => h30 ((nI_leI (a := 64) (b := s) (by omega) (by omega)).mpr q)
      refine v_aload_n F d_T_sure_33 rfl 0 rfl ?_
      refine v_iload F d_T_sure_34 4 rfl ?_
      refine v_iload_n F d_T_sure_36 rfl 1 rfl ?_
      refine v_runi (r_V F (c_T_isSuchSet X.2.1 u hA σ hL hL64 s v (by omega)) mo_T_isSuchSet st_T_254 rc_0 (by decide) rfl (Nat.le_of_ble_eq_true rfl) d_T_sure_37) (fun r1 σ2 q3 => ?_)
      obtain ⟨rfl, rfl⟩ := q3
      refine v_bt F 55 d_T_sure_40 rfl (fun h40 => ?_) (fun h40 => ?_)
      · skip
        refine v_iinc (v := nI (s + 1)) (ls' := [(5, .int (nI (s + 1))), (0, .ref (u.2.1 0)), (1, .int v), (3, .int (nI ((itr (sureF σ L v) (L, 0) s).1))), (4, .int (nI ((itr (sureF σ L v) (L, 0) s).2)))]) F d_T_sure_55 (j := 4) rfl (nI_inc _) (by decide) rfl ?_
        refine v_goto F 26 d_T_sure_58 rfl ?_
        refine v_sub [1, 2, 3, 4, 0] (ls' := [(0, .ref (u.2.1 0)), (1, .int v), (3, .int (nI ((itr (sureF σ L v) (L, 0) s).1))), (4, .int (nI ((itr (sureF σ L v) (L, 0) s).2))), (5, .int (nI (s + 1)))]) rfl ?_
        have g4 : (nI ((itr (sureF σ L v) (L, 0) s).1)) = (nI ((itr (sureF σ L v) (L, 0) (s + 1)).1)) := (by first | rfl | (simp only [itr, sureF]; rw [if_pos (by assumption)]; first | done | assumption) | (simp only [itr, sureF]; rw [if_neg (by assumption)]))
        have g5 : (nI ((itr (sureF σ L v) (L, 0) s).2)) = (nI ((itr (sureF σ L v) (L, 0) (s + 1)).2)) := (by first | rfl | (simp only [itr, sureF]; rw [if_pos (by assumption)]; first | done | assumption) | (simp only [itr, sureF]; rw [if_neg (by assumption)]))
        refine v_to (ls' := [(0, .ref (u.2.1 0)), (1, .int v), (3, .int (nI ((itr (sureF σ L v) (L, 0) (s + 1)).1))), (4, .int (nI ((itr (sureF σ L v) (L, 0) (s + 1)).2))), (5, .int (nI (s + 1)))]) (by first | rfl | rw [g4, g5] | simp_all) ?_
        exact ih (s + 1) (by omega) (by omega)
      · skip
        refine v_iload_n F d_T_sure_43 rfl 2 rfl ?_
        refine v_iload F d_T_sure_44 4 rfl ?_
        refine v_iand F d_T_sure_46 ?_
        refine v_te (y := nI ((itr (sureF σ L v) (L, 0) s).1 &&& s)) nI_and ?_
        refine v_ni (fun x6 ex6 => ?_)
        refine v_istore_n (ls' := [(3, .int x6), (0, .ref (u.2.1 0)), (1, .int v), (4, .int (nI ((itr (sureF σ L v) (L, 0) s).2))), (5, .int (nI s))]) F d_T_sure_47 rfl (by decide) rfl ?_
        refine v_iload F d_T_sure_48 3 rfl ?_
        refine v_iload F d_T_sure_50 4 rfl ?_
        refine v_ior F d_T_sure_52 ?_
        refine v_te (y := nI (((itr (sureF σ L v) (L, 0) s).2) ||| s)) nI_or ?_
        refine v_ni (fun x7 ex7 => ?_)
        refine v_istore (ls' := [(4, .int x7), (3, .int x6), (0, .ref (u.2.1 0)), (1, .int v), (5, .int (nI s))]) F d_T_sure_53 (by decide) rfl ?_
        refine v_iinc (v := nI (s + 1)) (ls' := [(5, .int (nI (s + 1))), (4, .int x7), (3, .int x6), (0, .ref (u.2.1 0)), (1, .int v)]) F d_T_sure_55 (j := 4) rfl (nI_inc _) (by decide) rfl ?_
        refine v_goto F 26 d_T_sure_58 rfl ?_
        refine v_sub [3, 4, 2, 1, 0] (ls' := [(0, .ref (u.2.1 0)), (1, .int v), (3, .int x6), (4, .int x7), (5, .int (nI (s + 1)))]) rfl ?_
        have g8 : x6 = (nI ((itr (sureF σ L v) (L, 0) (s + 1)).1)) := (by first | rfl | (simp only [itr, sureF]; rw [if_pos (by assumption)]; first | done | assumption) | (simp only [itr, sureF]; rw [if_neg (by assumption)]))
        have g9 : x7 = (nI ((itr (sureF σ L v) (L, 0) (s + 1)).2)) := (by first | rfl | (simp only [itr, sureF]; rw [if_pos (by assumption)]; first | done | assumption) | (simp only [itr, sureF]; rw [if_neg (by assumption)]))
        refine v_to (ls' := [(0, .ref (u.2.1 0)), (1, .int v), (3, .int (nI ((itr (sureF σ L v) (L, 0) (s + 1)).1))), (4, .int (nI ((itr (sureF σ L v) (L, 0) (s + 1)).2))), (5, .int (nI (s + 1)))]) (by first | rfl | rw [g8, g9] | simp_all) ?_
        exact ih (s + 1) (by omega) (by omega)
set_option maxHeartbeats 4000000 in
theorem c_T_sure (l : Launch) (u : Un) (hA : Ap u) (σ : St) {n G : Nat} {kd : Nat → Nat} (hb : bkOk σ n G kd) {L : Nat} (hL : σ.1 19 14 = nI L) (hL64 : L < 64) (v : Int32) : MTi l u y_T_sure b_T_sure 6 .int 8 [.ref (u.2.1 0), .int v] σ (fun x σ' => (¬ (0 ≤ v ∧ v ≤ 99) ∧ -1 = x ∧ σ = σ') ∨ ((0 ≤ v ∧ v ≤ 99) ∧ σ.1 19 8 = 0 ∧ -4 = x ∧ σ = σ') ∨ ((0 ≤ v ∧ v ≤ 99) ∧ ¬ σ.1 19 8 = 0 ∧ exS (wgd σ G kd n L) L v ∧ (x, σ') = tSure (wgd σ G kd n L) L v) ∨ ((0 ≤ v ∧ v ≤ 99) ∧ ¬ σ.1 19 8 = 0 ∧ ¬ exS (wgd σ G kd n L) L v ∧ -3 = x ∧ σ' = tRef (wgd σ G kd n L) 4)) := by
  refine MT_of hA rfl (by decide) (Nat.le_of_ble_eq_true rfl) (fun X hl F hr => ?_)
  subst hl
  refine v_to (ls' := [(0, .ref (u.2.1 0)), (1, .int v)]) rfl ?_
  obtain ⟨hn, hn6, hG, hG64, hkd, hk6⟩ := id hb
  refine v_aload_n F d_T_sure_0 rfl 0 rfl ?_
  refine v_iload_n F d_T_sure_1 rfl 1 rfl ?_
  refine v_runi (r_V F (c_T_refusedGoods X.2.1 u hA σ hb hL hL64 v) mo_T_refusedGoods st_T_257 rc_0 (by decide) rfl (Nat.le_of_ble_eq_true rfl) d_T_sure_2) (fun r1 σ2 q3 => ?_)
  rcases q3 with ⟨a1, rfl, rfl⟩ | ⟨a1, a2, rfl, rfl⟩ | ⟨a1, a2, a3, rfl, rfl⟩ | ⟨a1, a2, a3, rfl, eσ2⟩
  · skip
    refine v_istore_n (ls' := [(2, .int (-1)), (0, .ref (u.2.1 0)), (1, .int v)]) F d_T_sure_5 rfl (by decide) rfl ?_
    refine v_iload_n F d_T_sure_6 rfl 0 rfl ?_
    refine v_if_eq F 12 d_T_sure_7 rfl (fun h => absurd h (by decide)) (fun _ => ?_)
    refine v_iload_n F d_T_sure_10 rfl 0 rfl ?_
    refine v_iret F hr rfl d_T_sure_11 ?_
    exact Or.inl ⟨a1, rfl, rfl⟩
  · skip
    refine v_istore_n (ls' := [(2, .int (-4)), (0, .ref (u.2.1 0)), (1, .int v)]) F d_T_sure_5 rfl (by decide) rfl ?_
    refine v_iload_n F d_T_sure_6 rfl 0 rfl ?_
    refine v_if_eq F 12 d_T_sure_7 rfl (fun h => absurd h (by decide)) (fun _ => ?_)
    refine v_iload_n F d_T_sure_10 rfl 0 rfl ?_
    refine v_iret F hr rfl d_T_sure_11 ?_
    exact Or.inr (Or.inl ⟨a1, a2, rfl, rfl⟩)
  · skip
    refine v_istore_n (ls' := [(2, .int 0), (0, .ref (u.2.1 0)), (1, .int v)]) F d_T_sure_5 rfl (by decide) rfl ?_
    refine v_iload_n F d_T_sure_6 rfl 0 rfl ?_
    refine v_if_eq F 12 d_T_sure_7 rfl (fun _ => ?_) (fun h => absurd (by decide) h)
    refine v_aload_n F d_T_sure_12 rfl 1 rfl ?_
    refine v_getr (r := 19) F fk_T_36 G0 rfl d_T_sure_13 ?_
    refine v_geti F fk_T_166 G19 rfl d_T_sure_16 ?_
    refine v_te (y := nI L) (by rw [wgd_k _ _ _ _ _ (by decide) (by decide)]; exact hL) ?_
    refine v_istore_n (ls' := [(3, .int (nI L)), (2, .int 0), (0, .ref (u.2.1 0)), (1, .int v)]) F d_T_sure_19 rfl (by decide) rfl ?_
    refine v_iconst (v := 0) F d_T_sure_20 ki_0 ?_
    refine v_istore (ls' := [(4, .int 0), (3, .int (nI L)), (2, .int 0), (0, .ref (u.2.1 0)), (1, .int v)]) F d_T_sure_21 (by decide) rfl ?_
    refine v_iconst (v := 0) F d_T_sure_23 ki_0 ?_
    refine v_istore (ls' := [(5, .int 0), (4, .int 0), (3, .int (nI L)), (2, .int 0), (0, .ref (u.2.1 0)), (1, .int v)]) F d_T_sure_24 (by decide) rfl ?_
    have hsb := sureF_b (σ := wgd σ G kd n L) (v := v) hL64 64 (Nat.le_refl _)
    refine v_sub [4, 5, 2, 1, 0] (ls' := [(0, .ref (u.2.1 0)), (1, .int v), (3, .int (nI L)), (4, .int 0), (5, .int 0)]) rfl ?_
    have g4 : (nI L) = (nI ((itr (sureF (wgd σ G kd n L) L v) (L, 0) 0).1)) := (by first | rfl | (simp only [itr, sureF]; rw [if_pos (by assumption)]; first | done | assumption) | (simp only [itr, sureF]; rw [if_neg (by assumption)]))
    have g5 : 0 = (nI ((itr (sureF (wgd σ G kd n L) L v) (L, 0) 0).2)) := (by first | rfl | (simp only [itr, sureF]; rw [if_pos (by assumption)]; first | done | assumption) | (simp only [itr, sureF]; rw [if_neg (by assumption)]))
    have g6 : 0 = (nI 0) := (by first | rfl | (simp only [itr, sureF]; rw [if_pos (by assumption)]; first | done | assumption) | (simp only [itr, sureF]; rw [if_neg (by assumption)]))
    refine v_to (ls' := [(0, .ref (u.2.1 0)), (1, .int v), (3, .int (nI ((itr (sureF (wgd σ G kd n L) L v) (L, 0) 0).1))), (4, .int (nI ((itr (sureF (wgd σ G kd n L) L v) (L, 0) 0).2))), (5, .int (nI 0))]) (by first | rfl | rw [g4, g5, g6] | simp_all) ?_
    refine v_st (show (wgd σ G kd n L) = ((wgd σ G kd n L)) from (by first | rfl | (simp only [itr, sureF]; rw [if_pos (by assumption)]; first | done | assumption) | (simp only [itr, sureF]; rw [if_neg (by assumption)]))) ?_
    refine L_T_sure_26 hA F (by rw [wgd_k _ _ _ _ _ (by decide) (by decide)]; exact hL) hL64 ?_ _ 0 (Nat.zero_le _) (Nat.lt_succ_self _)
    refine v_aload_n F d_T_sure_61 rfl 0 rfl ?_
    refine v_aload_n F d_T_sure_62 rfl 0 rfl ?_
    refine v_getr (r := 19) F fk_T_36 G0 rfl d_T_sure_63 ?_
    refine v_geti F fk_T_166 G19 rfl d_T_sure_66 ?_
    refine v_te (y := nI L) (by rw [wgd_k _ _ _ _ _ (by decide) (by decide)]; exact hL) ?_
    refine v_iload F d_T_sure_69 3 rfl ?_
    refine v_iconst (v := (-1)) F d_T_sure_71 ki_m1 ?_
    refine v_ixor F d_T_sure_72 ?_
    refine v_iand F d_T_sure_73 ?_
    refine v_te (y := nI (L &&& (63 ^^^ (itr (sureF (wgd σ G kd n L) L v) (L, 0) 64).2))) (sub6 hL64 hsb.2) ?_
    refine v_puti F fk_T_88 pk_T_told G0 rfl d_T_sure_74 ?_
    refine v_ns (fun σ7 eσ7 => ?_)
    refine v_iload_n F d_T_sure_77 rfl 2 rfl ?_
    refine v_iret F hr rfl d_T_sure_78 ?_
    exact Or.inr (Or.inr (Or.inl ⟨a1, a2, a3, by subst_vars; rfl⟩))
  · skip
    refine v_istore_n (ls' := [(2, .int (-3)), (0, .ref (u.2.1 0)), (1, .int v)]) F d_T_sure_5 rfl (by decide) rfl ?_
    refine v_iload_n F d_T_sure_6 rfl 0 rfl ?_
    refine v_if_eq F 12 d_T_sure_7 rfl (fun h => absurd h (by decide)) (fun _ => ?_)
    refine v_iload_n F d_T_sure_10 rfl 0 rfl ?_
    refine v_iret F hr rfl d_T_sure_11 ?_
    exact Or.inr (Or.inr (Or.inr ⟨a1, a2, a3, rfl, by assumption⟩))
abbrev b_T_greaterPart : ByteArray := prog_1_method_67_code
abbrev y_T_greaterPart : MethodName := ⟨"TakerBook", "greaterPart", "(II)I"⟩
theorem d_T_greaterPart_0 : decode b_T_greaterPart 0 = .ok (.iconst 0, 1) := by decide +kernel
theorem d_T_greaterPart_1 : decode b_T_greaterPart 1 = .ok (.istore_n 3, 1) := by decide +kernel
theorem d_T_greaterPart_2 : decode b_T_greaterPart 2 = .ok (.iconst 0, 1) := by decide +kernel
theorem d_T_greaterPart_3 : decode b_T_greaterPart 3 = .ok (.istore 4, 2) := by decide +kernel
theorem d_T_greaterPart_5 : decode b_T_greaterPart 5 = .ok (.iconst 0, 1) := by decide +kernel
theorem d_T_greaterPart_6 : decode b_T_greaterPart 6 = .ok (.istore 5, 2) := by decide +kernel
theorem d_T_greaterPart_8 : decode b_T_greaterPart 8 = .ok (.iload 5, 2) := by decide +kernel
theorem d_T_greaterPart_10 : decode b_T_greaterPart 10 = .ok (.bipush 64, 2) := by decide +kernel
theorem d_T_greaterPart_12 : decode b_T_greaterPart 12 = .ok (.if_icmp .ge 37, 3) := by decide +kernel
theorem d_T_greaterPart_15 : decode b_T_greaterPart 15 = .ok (.aload_n 0, 1) := by decide +kernel
theorem d_T_greaterPart_16 : decode b_T_greaterPart 16 = .ok (.iload 5, 2) := by decide +kernel
theorem d_T_greaterPart_18 : decode b_T_greaterPart 18 = .ok (.iload_n 2, 1) := by decide +kernel
theorem d_T_greaterPart_19 : decode b_T_greaterPart 19 = .ok (.invokevirtual 254, 3) := by decide +kernel
theorem d_T_greaterPart_22 : decode b_T_greaterPart 22 = .ok (.ifCond .eq 21, 3) := by decide +kernel
theorem d_T_greaterPart_25 : decode b_T_greaterPart 25 = .ok (.iload_n 1, 1) := by decide +kernel
theorem d_T_greaterPart_26 : decode b_T_greaterPart 26 = .ok (.iload 5, 2) := by decide +kernel
theorem d_T_greaterPart_28 : decode b_T_greaterPart 28 = .ok (.invokestatic 169, 3) := by decide +kernel
theorem d_T_greaterPart_31 : decode b_T_greaterPart 31 = .ok (.ifCond .eq 9, 3) := by decide +kernel
theorem d_T_greaterPart_34 : decode b_T_greaterPart 34 = .ok (.iinc 3 1, 3) := by decide +kernel
theorem d_T_greaterPart_37 : decode b_T_greaterPart 37 = .ok (.goto 6, 3) := by decide +kernel
theorem d_T_greaterPart_40 : decode b_T_greaterPart 40 = .ok (.iinc 4 1, 3) := by decide +kernel
theorem d_T_greaterPart_43 : decode b_T_greaterPart 43 = .ok (.iinc 5 1, 3) := by decide +kernel
theorem d_T_greaterPart_46 : decode b_T_greaterPart 46 = .ok (.goto (-38), 3) := by decide +kernel
theorem d_T_greaterPart_49 : decode b_T_greaterPart 49 = .ok (.iload_n 3, 1) := by decide +kernel
theorem d_T_greaterPart_50 : decode b_T_greaterPart 50 = .ok (.iload 4, 2) := by decide +kernel
theorem d_T_greaterPart_52 : decode b_T_greaterPart 52 = .ok (.invokestatic 358, 3) := by decide +kernel
theorem d_T_greaterPart_55 : decode b_T_greaterPart 55 = .ok (.ireturn, 1) := by decide +kernel
theorem mo_T_greaterPart : mok y_T_greaterPart b_T_greaterPart 6 (some .int) 2 := ⟨List.mem_of_getElem? (i := 838) (by decide +kernel), ⟨by decide +kernel, by decide +kernel, by decide +kernel⟩, List.mem_of_getElem? (i := 74) (by decide +kernel), by decide⟩
set_option maxHeartbeats 4000000 in
theorem L_T_greaterPart_8 {X : FX} {u : Un} (hA : Ap u) {Q : State → Prop} (F : Fr X u "TakerBook" b_T_greaterPart 6) {σ : St} {L : Nat} (hL : σ.1 19 14 = nI L) (hL64 : L < 64) {v : Int32} {i : Nat} (hi : i < 6) (k : V X u 3 6 Q 49 [(0, .ref (u.2.1 0)), (1, .int (nI i)), (2, .int v), (3, .int (nI ((itr (gpF σ L v i) (0, 0) 64).1))), (4, .int (nI ((itr (gpF σ L v i) (0, 0) 64).2))), (5, .int (nI 64))] [] (σ)) : ∀ (nn s : Nat), s ≤ 64 → 64 - s < nn → V X u 3 6 Q 8 [(0, .ref (u.2.1 0)), (1, .int (nI i)), (2, .int v), (3, .int (nI ((itr (gpF σ L v i) (0, 0) s).1))), (4, .int (nI ((itr (gpF σ L v i) (0, 0) s).2))), (5, .int (nI s))] [] (σ) := by
  intro nn
  induction nn with
  | zero =>
    intro s h1 h2
    exact absurd h2 (Nat.not_lt_zero _)
  | succ nn ih =>
    intro s hii hnn
    refine v_iload F d_T_greaterPart_8 5 rfl ?_
    refine v_bipush (v := 64) F d_T_greaterPart_10 kb_64 ?_
    refine v_icmp_ge F 49 d_T_greaterPart_12 rfl (fun h12 => ?_) (fun h12 => ?_)
    · skip
      have h12 : 64 ≤ s := (nI_leI (a := 64) (b := s) (by omega) (by omega)).mp h12
      have he : s = 64 := by omega
      subst he
      exact k
    · skip
      have h12 : ¬ 64 ≤ s := fun q => h12 ((nI_leI (a := 64) (b := s) (by omega) (by omega)).mpr q)
      refine v_aload_n F d_T_greaterPart_15 rfl 0 rfl ?_
      refine v_iload F d_T_greaterPart_16 5 rfl ?_
      refine v_iload_n F d_T_greaterPart_18 rfl 2 rfl ?_
      refine v_runi (r_V F (c_T_isSuchSet X.2.1 u hA σ hL hL64 s v (by omega)) mo_T_isSuchSet st_T_254 rc_0 (by decide) rfl (Nat.le_of_ble_eq_true rfl) d_T_greaterPart_19) (fun r1 σ2 q3 => ?_)
      obtain ⟨rfl, rfl⟩ := q3
      refine v_bt F 43 d_T_greaterPart_22 rfl (fun h22 => ?_) (fun h22 => ?_)
      · skip
        refine v_iinc (v := nI (s + 1)) (ls' := [(5, .int (nI (s + 1))), (0, .ref (u.2.1 0)), (1, .int (nI i)), (2, .int v), (3, .int (nI ((itr (gpF σ L v i) (0, 0) s).1))), (4, .int (nI ((itr (gpF σ L v i) (0, 0) s).2)))]) F d_T_greaterPart_43 (j := 5) rfl (nI_inc _) (by decide) rfl ?_
        refine v_goto F 8 d_T_greaterPart_46 rfl ?_
        refine v_sub [1, 2, 3, 4, 5, 0] (ls' := [(0, .ref (u.2.1 0)), (1, .int (nI i)), (2, .int v), (3, .int (nI ((itr (gpF σ L v i) (0, 0) s).1))), (4, .int (nI ((itr (gpF σ L v i) (0, 0) s).2))), (5, .int (nI (s + 1)))]) rfl ?_
        have g4 : (nI ((itr (gpF σ L v i) (0, 0) s).1)) = (nI ((itr (gpF σ L v i) (0, 0) (s + 1)).1)) := (by first | rfl | (simp only [itr, gpF]; rw [if_pos (by assumption), if_pos (by assumption)]; done) | (simp only [itr, gpF]; rw [if_pos (by assumption), if_neg (by assumption)]; done) | (simp only [itr, gpF]; rw [if_neg (by assumption)]; done))
        have g5 : (nI ((itr (gpF σ L v i) (0, 0) s).2)) = (nI ((itr (gpF σ L v i) (0, 0) (s + 1)).2)) := (by first | rfl | (simp only [itr, gpF]; rw [if_pos (by assumption), if_pos (by assumption)]; done) | (simp only [itr, gpF]; rw [if_pos (by assumption), if_neg (by assumption)]; done) | (simp only [itr, gpF]; rw [if_neg (by assumption)]; done))
        refine v_to (ls' := [(0, .ref (u.2.1 0)), (1, .int (nI i)), (2, .int v), (3, .int (nI ((itr (gpF σ L v i) (0, 0) (s + 1)).1))), (4, .int (nI ((itr (gpF σ L v i) (0, 0) (s + 1)).2))), (5, .int (nI (s + 1)))]) (by first | rfl | rw [g4, g5] | simp_all) ?_
        exact ih (s + 1) (by omega) (by omega)
      · skip
        refine v_iload_n F d_T_greaterPart_25 rfl 1 rfl ?_
        refine v_iload F d_T_greaterPart_26 5 rfl ?_
        refine v_runi (r_S F (c_T_isIn2 X.2.1 u hA σ i s (by omega) (by omega)) mo_T_isIn st_T_169 (by decide) rfl (Nat.le_of_ble_eq_true rfl) d_T_greaterPart_28) (fun r6 σ7 q8 => ?_)
        obtain ⟨rfl, rfl⟩ := q8
        refine v_bt F 40 d_T_greaterPart_31 rfl (fun h31 => ?_) (fun h31 => ?_)
        · skip
          refine v_iinc (v := nI ((itr (gpF σ L v i) (0, 0) s).2 + 1)) (ls' := [(4, .int (nI ((itr (gpF σ L v i) (0, 0) s).2 + 1))), (0, .ref (u.2.1 0)), (1, .int (nI i)), (2, .int v), (3, .int (nI ((itr (gpF σ L v i) (0, 0) s).1))), (5, .int (nI s))]) F d_T_greaterPart_40 (j := 4) rfl (nI_inc _) (by decide) rfl ?_
          refine v_iinc (v := nI (s + 1)) (ls' := [(5, .int (nI (s + 1))), (4, .int (nI ((itr (gpF σ L v i) (0, 0) s).2 + 1))), (0, .ref (u.2.1 0)), (1, .int (nI i)), (2, .int v), (3, .int (nI ((itr (gpF σ L v i) (0, 0) s).1)))]) F d_T_greaterPart_43 (j := 5) rfl (nI_inc _) (by decide) rfl ?_
          refine v_goto F 8 d_T_greaterPart_46 rfl ?_
          refine v_sub [2, 3, 4, 5, 1, 0] (ls' := [(0, .ref (u.2.1 0)), (1, .int (nI i)), (2, .int v), (3, .int (nI ((itr (gpF σ L v i) (0, 0) s).1))), (4, .int (nI ((itr (gpF σ L v i) (0, 0) s).2 + 1))), (5, .int (nI (s + 1)))]) rfl ?_
          have g9 : (nI ((itr (gpF σ L v i) (0, 0) s).1)) = (nI ((itr (gpF σ L v i) (0, 0) (s + 1)).1)) := (by first | rfl | (simp only [itr, gpF]; rw [if_pos (by assumption), if_pos (by assumption)]; done) | (simp only [itr, gpF]; rw [if_pos (by assumption), if_neg (by assumption)]; done) | (simp only [itr, gpF]; rw [if_neg (by assumption)]; done))
          have g10 : (nI ((itr (gpF σ L v i) (0, 0) s).2 + 1)) = (nI ((itr (gpF σ L v i) (0, 0) (s + 1)).2)) := (by first | rfl | (simp only [itr, gpF]; rw [if_pos (by assumption), if_pos (by assumption)]; done) | (simp only [itr, gpF]; rw [if_pos (by assumption), if_neg (by assumption)]; done) | (simp only [itr, gpF]; rw [if_neg (by assumption)]; done))
          refine v_to (ls' := [(0, .ref (u.2.1 0)), (1, .int (nI i)), (2, .int v), (3, .int (nI ((itr (gpF σ L v i) (0, 0) (s + 1)).1))), (4, .int (nI ((itr (gpF σ L v i) (0, 0) (s + 1)).2))), (5, .int (nI (s + 1)))]) (by first | rfl | rw [g9, g10] | simp_all) ?_
          exact ih (s + 1) (by omega) (by omega)
        · skip
          refine v_iinc (v := nI ((itr (gpF σ L v i) (0, 0) s).1 + 1)) (ls' := [(3, .int (nI ((itr (gpF σ L v i) (0, 0) s).1 + 1))), (0, .ref (u.2.1 0)), (1, .int (nI i)), (2, .int v), (4, .int (nI ((itr (gpF σ L v i) (0, 0) s).2))), (5, .int (nI s))]) F d_T_greaterPart_34 (j := 3) rfl (nI_inc _) (by decide) rfl ?_
          refine v_goto F 43 d_T_greaterPart_37 rfl ?_
          refine v_iinc (v := nI (s + 1)) (ls' := [(5, .int (nI (s + 1))), (3, .int (nI ((itr (gpF σ L v i) (0, 0) s).1 + 1))), (0, .ref (u.2.1 0)), (1, .int (nI i)), (2, .int v), (4, .int (nI ((itr (gpF σ L v i) (0, 0) s).2)))]) F d_T_greaterPart_43 (j := 5) rfl (nI_inc _) (by decide) rfl ?_
          refine v_goto F 8 d_T_greaterPart_46 rfl ?_
          refine v_sub [2, 3, 4, 1, 5, 0] (ls' := [(0, .ref (u.2.1 0)), (1, .int (nI i)), (2, .int v), (3, .int (nI ((itr (gpF σ L v i) (0, 0) s).1 + 1))), (4, .int (nI ((itr (gpF σ L v i) (0, 0) s).2))), (5, .int (nI (s + 1)))]) rfl ?_
          have g11 : (nI ((itr (gpF σ L v i) (0, 0) s).1 + 1)) = (nI ((itr (gpF σ L v i) (0, 0) (s + 1)).1)) := (by first | rfl | (simp only [itr, gpF]; rw [if_pos (by assumption), if_pos (by assumption)]; done) | (simp only [itr, gpF]; rw [if_pos (by assumption), if_neg (by assumption)]; done) | (simp only [itr, gpF]; rw [if_neg (by assumption)]; done))
          have g12 : (nI ((itr (gpF σ L v i) (0, 0) s).2)) = (nI ((itr (gpF σ L v i) (0, 0) (s + 1)).2)) := (by first | rfl | (simp only [itr, gpF]; rw [if_pos (by assumption), if_pos (by assumption)]; done) | (simp only [itr, gpF]; rw [if_pos (by assumption), if_neg (by assumption)]; done) | (simp only [itr, gpF]; rw [if_neg (by assumption)]; done))
          refine v_to (ls' := [(0, .ref (u.2.1 0)), (1, .int (nI i)), (2, .int v), (3, .int (nI ((itr (gpF σ L v i) (0, 0) (s + 1)).1))), (4, .int (nI ((itr (gpF σ L v i) (0, 0) (s + 1)).2))), (5, .int (nI (s + 1)))]) (by first | rfl | rw [g11, g12] | simp_all) ?_
          exact ih (s + 1) (by omega) (by omega)
set_option maxHeartbeats 4000000 in
theorem c_T_greaterPart (l : Launch) (u : Un) (hA : Ap u) (σ : St) {L : Nat} (hL : σ.1 19 14 = nI L) (hL64 : L < 64) (i : Nat) (v : Int32) (hi : i < 6) : MTi l u y_T_greaterPart b_T_greaterPart 6 .int 3 [.ref (u.2.1 0), .int (nI i), .int v] σ (fun ans σ' => nI (gpN σ L v i) = ans ∧ σ = σ') := by
  refine MT_of hA rfl (by decide) (Nat.le_of_ble_eq_true rfl) (fun X hl F hr => ?_)
  subst hl
  refine v_to (ls' := [(0, .ref (u.2.1 0)), (1, .int (nI i)), (2, .int v)]) rfl ?_
  refine v_iconst (v := 0) F d_T_greaterPart_0 ki_0 ?_
  refine v_istore_n (ls' := [(3, .int 0), (0, .ref (u.2.1 0)), (1, .int (nI i)), (2, .int v)]) F d_T_greaterPart_1 rfl (by decide) rfl ?_
  refine v_iconst (v := 0) F d_T_greaterPart_2 ki_0 ?_
  refine v_istore (ls' := [(4, .int 0), (3, .int 0), (0, .ref (u.2.1 0)), (1, .int (nI i)), (2, .int v)]) F d_T_greaterPart_3 (by decide) rfl ?_
  refine v_iconst (v := 0) F d_T_greaterPart_5 ki_0 ?_
  refine v_istore (ls' := [(5, .int 0), (4, .int 0), (3, .int 0), (0, .ref (u.2.1 0)), (1, .int (nI i)), (2, .int v)]) F d_T_greaterPart_6 (by decide) rfl ?_
  refine v_sub [3, 4, 5, 2, 1, 0] (ls' := [(0, .ref (u.2.1 0)), (1, .int (nI i)), (2, .int v), (3, .int 0), (4, .int 0), (5, .int 0)]) rfl ?_
  have g1 : 0 = (nI ((itr (gpF σ L v i) (0, 0) 0).1)) := (by first | rfl | (simp only [itr, gpF]; rw [if_pos (by assumption), if_pos (by assumption)]; done) | (simp only [itr, gpF]; rw [if_pos (by assumption), if_neg (by assumption)]; done) | (simp only [itr, gpF]; rw [if_neg (by assumption)]; done))
  have g2 : 0 = (nI ((itr (gpF σ L v i) (0, 0) 0).2)) := (by first | rfl | (simp only [itr, gpF]; rw [if_pos (by assumption), if_pos (by assumption)]; done) | (simp only [itr, gpF]; rw [if_pos (by assumption), if_neg (by assumption)]; done) | (simp only [itr, gpF]; rw [if_neg (by assumption)]; done))
  have g3 : 0 = (nI 0) := (by first | rfl | (simp only [itr, gpF]; rw [if_pos (by assumption), if_pos (by assumption)]; done) | (simp only [itr, gpF]; rw [if_pos (by assumption), if_neg (by assumption)]; done) | (simp only [itr, gpF]; rw [if_neg (by assumption)]; done))
  refine v_to (ls' := [(0, .ref (u.2.1 0)), (1, .int (nI i)), (2, .int v), (3, .int (nI ((itr (gpF σ L v i) (0, 0) 0).1))), (4, .int (nI ((itr (gpF σ L v i) (0, 0) 0).2))), (5, .int (nI 0))]) (by first | rfl | rw [g1, g2, g3] | simp_all) ?_
  refine L_T_greaterPart_8 hA F hL hL64 hi ?_ _ 0 (Nat.zero_le _) (Nat.lt_succ_self _)
  refine v_iload_n F d_T_greaterPart_49 rfl 3 rfl ?_
  refine v_iload F d_T_greaterPart_50 4 rfl ?_
  refine v_mmax F (List.mem_of_getElem? (i := 839) (by decide +kernel)) (Nat.le_of_ble_eq_true rfl) (by decide) d_T_greaterPart_52 ?_
  refine v_iret F hr rfl d_T_greaterPart_55 ?_
  exact ⟨(max_nI (gpF_b 64).1 (gpF_b 64).2).symm, rfl⟩
abbrev b_T_ask : ByteArray := prog_1_method_30_code
abbrev y_T_ask : MethodName := ⟨"TakerBook", "ask", "(I)I"⟩
theorem d_T_ask_0 : decode b_T_ask 0 = .ok (.aload_n 0, 1) := by decide +kernel
theorem d_T_ask_1 : decode b_T_ask 1 = .ok (.iload_n 1, 1) := by decide +kernel
theorem d_T_ask_2 : decode b_T_ask 2 = .ok (.invokevirtual 257, 3) := by decide +kernel
theorem d_T_ask_5 : decode b_T_ask 5 = .ok (.istore_n 2, 1) := by decide +kernel
theorem d_T_ask_6 : decode b_T_ask 6 = .ok (.iload_n 2, 1) := by decide +kernel
theorem d_T_ask_7 : decode b_T_ask 7 = .ok (.ifCond .eq 5, 3) := by decide +kernel
theorem d_T_ask_10 : decode b_T_ask 10 = .ok (.iload_n 2, 1) := by decide +kernel
theorem d_T_ask_11 : decode b_T_ask 11 = .ok (.ireturn, 1) := by decide +kernel
theorem d_T_ask_12 : decode b_T_ask 12 = .ok (.bipush (-9), 2) := by decide +kernel
theorem d_T_ask_14 : decode b_T_ask 14 = .ok (.istore_n 3, 1) := by decide +kernel
theorem d_T_ask_15 : decode b_T_ask 15 = .ok (.bipush 65, 2) := by decide +kernel
theorem d_T_ask_17 : decode b_T_ask 17 = .ok (.istore 4, 2) := by decide +kernel
theorem d_T_ask_19 : decode b_T_ask 19 = .ok (.iconst 0, 1) := by decide +kernel
theorem d_T_ask_20 : decode b_T_ask 20 = .ok (.istore 5, 2) := by decide +kernel
theorem d_T_ask_22 : decode b_T_ask 22 = .ok (.iload 5, 2) := by decide +kernel
theorem d_T_ask_24 : decode b_T_ask 24 = .ok (.aload_n 0, 1) := by decide +kernel
theorem d_T_ask_25 : decode b_T_ask 25 = .ok (.getfield 36, 3) := by decide +kernel
theorem d_T_ask_28 : decode b_T_ask 28 = .ok (.getfield 118, 3) := by decide +kernel
theorem d_T_ask_31 : decode b_T_ask 31 = .ok (.if_icmp .ge 48, 3) := by decide +kernel
theorem d_T_ask_34 : decode b_T_ask 34 = .ok (.iload 5, 2) := by decide +kernel
theorem d_T_ask_36 : decode b_T_ask 36 = .ok (.aload_n 0, 1) := by decide +kernel
theorem d_T_ask_37 : decode b_T_ask 37 = .ok (.getfield 36, 3) := by decide +kernel
theorem d_T_ask_40 : decode b_T_ask 40 = .ok (.getfield 166, 3) := by decide +kernel
theorem d_T_ask_43 : decode b_T_ask 43 = .ok (.invokestatic 169, 3) := by decide +kernel
theorem d_T_ask_46 : decode b_T_ask 46 = .ok (.ifCond .eq 27, 3) := by decide +kernel
theorem d_T_ask_49 : decode b_T_ask 49 = .ok (.aload_n 0, 1) := by decide +kernel
theorem d_T_ask_50 : decode b_T_ask 50 = .ok (.iload 5, 2) := by decide +kernel
theorem d_T_ask_52 : decode b_T_ask 52 = .ok (.iload_n 1, 1) := by decide +kernel
theorem d_T_ask_53 : decode b_T_ask 53 = .ok (.invokevirtual 260, 3) := by decide +kernel
theorem d_T_ask_56 : decode b_T_ask 56 = .ok (.iload 4, 2) := by decide +kernel
theorem d_T_ask_58 : decode b_T_ask 58 = .ok (.if_icmp .ge 15, 3) := by decide +kernel
theorem d_T_ask_61 : decode b_T_ask 61 = .ok (.aload_n 0, 1) := by decide +kernel
theorem d_T_ask_62 : decode b_T_ask 62 = .ok (.iload 5, 2) := by decide +kernel
theorem d_T_ask_64 : decode b_T_ask 64 = .ok (.iload_n 1, 1) := by decide +kernel
theorem d_T_ask_65 : decode b_T_ask 65 = .ok (.invokevirtual 260, 3) := by decide +kernel
theorem d_T_ask_68 : decode b_T_ask 68 = .ok (.istore 4, 2) := by decide +kernel
theorem d_T_ask_70 : decode b_T_ask 70 = .ok (.iload 5, 2) := by decide +kernel
theorem d_T_ask_72 : decode b_T_ask 72 = .ok (.istore_n 3, 1) := by decide +kernel
theorem d_T_ask_73 : decode b_T_ask 73 = .ok (.iinc 5 1, 3) := by decide +kernel
theorem d_T_ask_76 : decode b_T_ask 76 = .ok (.goto (-54), 3) := by decide +kernel
theorem d_T_ask_79 : decode b_T_ask 79 = .ok (.iload_n 3, 1) := by decide +kernel
theorem d_T_ask_80 : decode b_T_ask 80 = .ok (.bipush (-9), 2) := by decide +kernel
theorem d_T_ask_82 : decode b_T_ask 82 = .ok (.if_icmp .eq 9, 3) := by decide +kernel
theorem d_T_ask_85 : decode b_T_ask 85 = .ok (.aload_n 0, 1) := by decide +kernel
theorem d_T_ask_86 : decode b_T_ask 86 = .ok (.iload 4, 2) := by decide +kernel
theorem d_T_ask_88 : decode b_T_ask 88 = .ok (.putfield 88, 3) := by decide +kernel
theorem d_T_ask_91 : decode b_T_ask 91 = .ok (.iload_n 3, 1) := by decide +kernel
theorem d_T_ask_92 : decode b_T_ask 92 = .ok (.ireturn, 1) := by decide +kernel
theorem mo_T_ask : mok y_T_ask b_T_ask 6 (some .int) 1 := ⟨List.mem_of_getElem? (i := 834) (by decide +kernel), ⟨by decide +kernel, by decide +kernel, by decide +kernel⟩, List.mem_of_getElem? (i := 74) (by decide +kernel), by decide⟩
set_option maxHeartbeats 4000000 in
theorem L_T_ask_22 {X : FX} {u : Un} (hA : Ap u) {Q : State → Prop} (F : Fr X u "TakerBook" b_T_ask 6) {σ : St} {L : Nat} (hL : σ.1 19 14 = nI L) (hL64 : L < 64) {v : Int32} {n : Nat} (hn : σ.1 19 8 = nI n) (hn6 : n ≤ 6) (k : V X u 8 6 Q 79 [(0, .ref (u.2.1 0)), (1, .int v), (3, .int (oI (itr (askF σ L v) (none, 65) n).1)), (4, .int (nI ((itr (askF σ L v) (none, 65) n).2))), (5, .int (nI n))] [] (σ)) : ∀ (nn i : Nat), i ≤ n → n - i < nn → V X u 8 6 Q 22 [(0, .ref (u.2.1 0)), (1, .int v), (3, .int (oI (itr (askF σ L v) (none, 65) i).1)), (4, .int (nI ((itr (askF σ L v) (none, 65) i).2))), (5, .int (nI i))] [] (σ) := by
  intro nn
  induction nn with
  | zero =>
    intro i h1 h2
    exact absurd h2 (Nat.not_lt_zero _)
  | succ nn ih =>
    intro i hii hnn
    have hab := askF_b (σ := σ) (L := L) (v := v) i
    have hgb := gpN_b (σ := σ) (L := L) (v := v) (i := i)
    refine v_iload F d_T_ask_22 4 rfl ?_
    refine v_aload_n F d_T_ask_24 rfl 0 rfl ?_
    refine v_getr (r := 19) F fk_T_36 G0 rfl d_T_ask_25 ?_
    refine v_geti F fk_T_118 G19 rfl d_T_ask_28 ?_
    refine v_te (y := nI n) hn ?_
    refine v_icmp_ge F 79 d_T_ask_31 rfl (fun h31 => ?_) (fun h31 => ?_)
    · skip
      have h31 : n ≤ i := (nI_leI (a := n) (b := i) (by omega) (by omega)).mp h31
      have he : i = n := by omega
      subst he
      exact k
    · skip
      have h31 : ¬ n ≤ i := fun q => h31 ((nI_leI (a := n) (b := i) (by omega) (by omega)).mpr q)
      refine v_iload F d_T_ask_34 4 rfl ?_
      refine v_aload_n F d_T_ask_36 rfl 0 rfl ?_
      refine v_getr (r := 19) F fk_T_36 G0 rfl d_T_ask_37 ?_
      refine v_geti F fk_T_166 G19 rfl d_T_ask_40 ?_
      refine v_te (y := nI L) hL ?_
      refine v_runi (r_S F (c_T_isIn2 X.2.1 u hA σ i L (by omega) (by omega)) mo_T_isIn st_T_169 (by decide) rfl (Nat.le_of_ble_eq_true rfl) d_T_ask_43) (fun r1 σ2 q3 => ?_)
      obtain ⟨rfl, rfl⟩ := q3
      refine v_bt F 73 d_T_ask_46 rfl (fun h46 => ?_) (fun h46 => ?_)
      · skip
        refine v_iinc (v := nI (i + 1)) (ls' := [(5, .int (nI (i + 1))), (0, .ref (u.2.1 0)), (1, .int v), (3, .int (oI (itr (askF σ L v) (none, 65) i).1)), (4, .int (nI ((itr (askF σ L v) (none, 65) i).2)))]) F d_T_ask_73 (j := 4) rfl (nI_inc _) (by decide) rfl ?_
        refine v_goto F 22 d_T_ask_76 rfl ?_
        refine v_sub [1, 2, 3, 4, 0] (ls' := [(0, .ref (u.2.1 0)), (1, .int v), (3, .int (oI (itr (askF σ L v) (none, 65) i).1)), (4, .int (nI ((itr (askF σ L v) (none, 65) i).2))), (5, .int (nI (i + 1)))]) rfl ?_
        have g4 : (oI (itr (askF σ L v) (none, 65) i).1) = (oI (itr (askF σ L v) (none, 65) (i + 1)).1) := (by first | rfl | (simp only [itr, askF]; rw [if_pos ⟨(by first | assumption | omega), (by first | assumption | omega)⟩]; first | done | rfl | (subst_vars; rfl) | (subst_vars; exact tdS_u _ _ _)) | (simp only [itr, askF]; rw [if_neg (by rintro ⟨q0, q1⟩; first | exact absurd q0 (by assumption) | exact q0 (by assumption) | exact absurd q1 (by assumption) | exact q1 (by assumption) | omega)]))
        have g5 : (nI ((itr (askF σ L v) (none, 65) i).2)) = (nI ((itr (askF σ L v) (none, 65) (i + 1)).2)) := (by first | rfl | (simp only [itr, askF]; rw [if_pos ⟨(by first | assumption | omega), (by first | assumption | omega)⟩]; first | done | rfl | (subst_vars; rfl) | (subst_vars; exact tdS_u _ _ _)) | (simp only [itr, askF]; rw [if_neg (by rintro ⟨q0, q1⟩; first | exact absurd q0 (by assumption) | exact q0 (by assumption) | exact absurd q1 (by assumption) | exact q1 (by assumption) | omega)]))
        refine v_to (ls' := [(0, .ref (u.2.1 0)), (1, .int v), (3, .int (oI (itr (askF σ L v) (none, 65) (i + 1)).1)), (4, .int (nI ((itr (askF σ L v) (none, 65) (i + 1)).2))), (5, .int (nI (i + 1)))]) (by first | rfl | rw [g4, g5] | simp_all) ?_
        exact ih (i + 1) (by omega) (by omega)
      · skip
        refine v_aload_n F d_T_ask_49 rfl 0 rfl ?_
        refine v_iload F d_T_ask_50 4 rfl ?_
        refine v_iload_n F d_T_ask_52 rfl 1 rfl ?_
        refine v_runi (r_V F (c_T_greaterPart X.2.1 u hA σ hL hL64 i v (by omega)) mo_T_greaterPart st_T_260 rc_0 (by decide) rfl (Nat.le_of_ble_eq_true rfl) d_T_ask_53) (fun r6 σ7 q8 => ?_)
        obtain ⟨rfl, rfl⟩ := q8
        refine v_iload F d_T_ask_56 3 rfl ?_
        refine v_icmp_ge F 73 d_T_ask_58 rfl (fun h58 => ?_) (fun h58 => ?_)
        · skip
          have h58 : (itr (askF σ L v) (none, 65) i).2 ≤ gpN σ L v i := (nI_leI (a := (itr (askF σ L v) (none, 65) i).2) (b := gpN σ L v i) (by omega) (by omega)).mp h58
          refine v_iinc (v := nI (i + 1)) (ls' := [(5, .int (nI (i + 1))), (0, .ref (u.2.1 0)), (1, .int v), (3, .int (oI (itr (askF σ L v) (none, 65) i).1)), (4, .int (nI ((itr (askF σ L v) (none, 65) i).2)))]) F d_T_ask_73 (j := 4) rfl (nI_inc _) (by decide) rfl ?_
          refine v_goto F 22 d_T_ask_76 rfl ?_
          refine v_sub [1, 2, 3, 4, 0] (ls' := [(0, .ref (u.2.1 0)), (1, .int v), (3, .int (oI (itr (askF σ L v) (none, 65) i).1)), (4, .int (nI ((itr (askF σ L v) (none, 65) i).2))), (5, .int (nI (i + 1)))]) rfl ?_
          have g9 : (oI (itr (askF σ L v) (none, 65) i).1) = (oI (itr (askF σ L v) (none, 65) (i + 1)).1) := (by first | rfl | (simp only [itr, askF]; rw [if_pos ⟨(by first | assumption | omega), (by first | assumption | omega)⟩]; first | done | rfl | (subst_vars; rfl) | (subst_vars; exact tdS_u _ _ _)) | (simp only [itr, askF]; rw [if_neg (by rintro ⟨q0, q1⟩; first | exact absurd q0 (by assumption) | exact q0 (by assumption) | exact absurd q1 (by assumption) | exact q1 (by assumption) | omega)]))
          have g10 : (nI ((itr (askF σ L v) (none, 65) i).2)) = (nI ((itr (askF σ L v) (none, 65) (i + 1)).2)) := (by first | rfl | (simp only [itr, askF]; rw [if_pos ⟨(by first | assumption | omega), (by first | assumption | omega)⟩]; first | done | rfl | (subst_vars; rfl) | (subst_vars; exact tdS_u _ _ _)) | (simp only [itr, askF]; rw [if_neg (by rintro ⟨q0, q1⟩; first | exact absurd q0 (by assumption) | exact q0 (by assumption) | exact absurd q1 (by assumption) | exact q1 (by assumption) | omega)]))
          refine v_to (ls' := [(0, .ref (u.2.1 0)), (1, .int v), (3, .int (oI (itr (askF σ L v) (none, 65) (i + 1)).1)), (4, .int (nI ((itr (askF σ L v) (none, 65) (i + 1)).2))), (5, .int (nI (i + 1)))]) (by first | rfl | rw [g9, g10] | simp_all) ?_
          exact ih (i + 1) (by omega) (by omega)
        · skip
          have h58 : ¬ (itr (askF σ L v) (none, 65) i).2 ≤ gpN σ L v i := fun q => h58 ((nI_leI (a := (itr (askF σ L v) (none, 65) i).2) (b := gpN σ L v i) (by omega) (by omega)).mpr q)
          refine v_aload_n F d_T_ask_61 rfl 0 rfl ?_
          refine v_iload F d_T_ask_62 4 rfl ?_
          refine v_iload_n F d_T_ask_64 rfl 1 rfl ?_
          refine v_runi (r_V F (c_T_greaterPart X.2.1 u hA σ hL hL64 i v (by omega)) mo_T_greaterPart st_T_260 rc_0 (by decide) rfl (Nat.le_of_ble_eq_true rfl) d_T_ask_65) (fun r11 σ12 q13 => ?_)
          obtain ⟨rfl, rfl⟩ := q13
          refine v_istore (ls' := [(4, .int (nI (gpN σ L v i))), (0, .ref (u.2.1 0)), (1, .int v), (3, .int (oI (itr (askF σ L v) (none, 65) i).1)), (5, .int (nI i))]) F d_T_ask_68 (by decide) rfl ?_
          refine v_iload F d_T_ask_70 4 rfl ?_
          refine v_istore_n (ls' := [(3, .int (nI i)), (4, .int (nI (gpN σ L v i))), (0, .ref (u.2.1 0)), (1, .int v), (5, .int (nI i))]) F d_T_ask_72 rfl (by decide) rfl ?_
          refine v_iinc (v := nI (i + 1)) (ls' := [(5, .int (nI (i + 1))), (3, .int (nI i)), (4, .int (nI (gpN σ L v i))), (0, .ref (u.2.1 0)), (1, .int v)]) F d_T_ask_73 (j := 4) rfl (nI_inc _) (by decide) rfl ?_
          refine v_goto F 22 d_T_ask_76 rfl ?_
          refine v_sub [3, 4, 1, 2, 0] (ls' := [(0, .ref (u.2.1 0)), (1, .int v), (3, .int (nI i)), (4, .int (nI (gpN σ L v i))), (5, .int (nI (i + 1)))]) rfl ?_
          have g14 : (nI i) = (oI (itr (askF σ L v) (none, 65) (i + 1)).1) := (by first | rfl | (simp only [itr, askF]; rw [if_pos ⟨(by first | assumption | omega), (by first | assumption | omega)⟩]; first | done | rfl | (subst_vars; rfl) | (subst_vars; exact tdS_u _ _ _)) | (simp only [itr, askF]; rw [if_neg (by rintro ⟨q0, q1⟩; first | exact absurd q0 (by assumption) | exact q0 (by assumption) | exact absurd q1 (by assumption) | exact q1 (by assumption) | omega)]))
          have g15 : (nI (gpN σ L v i)) = (nI ((itr (askF σ L v) (none, 65) (i + 1)).2)) := (by first | rfl | (simp only [itr, askF]; rw [if_pos ⟨(by first | assumption | omega), (by first | assumption | omega)⟩]; first | done | rfl | (subst_vars; rfl) | (subst_vars; exact tdS_u _ _ _)) | (simp only [itr, askF]; rw [if_neg (by rintro ⟨q0, q1⟩; first | exact absurd q0 (by assumption) | exact q0 (by assumption) | exact absurd q1 (by assumption) | exact q1 (by assumption) | omega)]))
          refine v_to (ls' := [(0, .ref (u.2.1 0)), (1, .int v), (3, .int (oI (itr (askF σ L v) (none, 65) (i + 1)).1)), (4, .int (nI ((itr (askF σ L v) (none, 65) (i + 1)).2))), (5, .int (nI (i + 1)))]) (by first | rfl | rw [g14, g15] | simp_all) ?_
          exact ih (i + 1) (by omega) (by omega)
set_option maxHeartbeats 4000000 in
theorem c_T_ask (l : Launch) (u : Un) (hA : Ap u) (σ : St) {n G : Nat} {kd : Nat → Nat} (hb : bkOk σ n G kd) {L : Nat} (hL : σ.1 19 14 = nI L) (hL64 : L < 64) (v : Int32) : MTi l u y_T_ask b_T_ask 6 .int 8 [.ref (u.2.1 0), .int v] σ (fun x σ' => (¬ (0 ≤ v ∧ v ≤ 99) ∧ -1 = x ∧ σ = σ') ∨ ((0 ≤ v ∧ v ≤ 99) ∧ σ.1 19 8 = 0 ∧ -4 = x ∧ σ = σ') ∨ ((0 ≤ v ∧ v ≤ 99) ∧ ¬ σ.1 19 8 = 0 ∧ exS (wgd σ G kd n L) L v ∧ (x, σ') = tAsk (wgd σ G kd n L) n L v) ∨ ((0 ≤ v ∧ v ≤ 99) ∧ ¬ σ.1 19 8 = 0 ∧ ¬ exS (wgd σ G kd n L) L v ∧ -3 = x ∧ σ' = tRef (wgd σ G kd n L) 4)) := by
  refine MT_of hA rfl (by decide) (Nat.le_of_ble_eq_true rfl) (fun X hl F hr => ?_)
  subst hl
  refine v_to (ls' := [(0, .ref (u.2.1 0)), (1, .int v)]) rfl ?_
  obtain ⟨hn, hn6, hG, hG64, hkd, hk6⟩ := id hb
  refine v_aload_n F d_T_ask_0 rfl 0 rfl ?_
  refine v_iload_n F d_T_ask_1 rfl 1 rfl ?_
  refine v_runi (r_V F (c_T_refusedGoods X.2.1 u hA σ hb hL hL64 v) mo_T_refusedGoods st_T_257 rc_0 (by decide) rfl (Nat.le_of_ble_eq_true rfl) d_T_ask_2) (fun r1 σ2 q3 => ?_)
  rcases q3 with ⟨a1, rfl, rfl⟩ | ⟨a1, a2, rfl, rfl⟩ | ⟨a1, a2, a3, rfl, rfl⟩ | ⟨a1, a2, a3, rfl, eσ2⟩
  · skip
    refine v_istore_n (ls' := [(2, .int (-1)), (0, .ref (u.2.1 0)), (1, .int v)]) F d_T_ask_5 rfl (by decide) rfl ?_
    refine v_iload_n F d_T_ask_6 rfl 0 rfl ?_
    refine v_if_eq F 12 d_T_ask_7 rfl (fun h => absurd h (by decide)) (fun _ => ?_)
    refine v_iload_n F d_T_ask_10 rfl 0 rfl ?_
    refine v_iret F hr rfl d_T_ask_11 ?_
    exact Or.inl ⟨a1, rfl, rfl⟩
  · skip
    refine v_istore_n (ls' := [(2, .int (-4)), (0, .ref (u.2.1 0)), (1, .int v)]) F d_T_ask_5 rfl (by decide) rfl ?_
    refine v_iload_n F d_T_ask_6 rfl 0 rfl ?_
    refine v_if_eq F 12 d_T_ask_7 rfl (fun h => absurd h (by decide)) (fun _ => ?_)
    refine v_iload_n F d_T_ask_10 rfl 0 rfl ?_
    refine v_iret F hr rfl d_T_ask_11 ?_
    exact Or.inr (Or.inl ⟨a1, a2, rfl, rfl⟩)
  · skip
    refine v_istore_n (ls' := [(2, .int 0), (0, .ref (u.2.1 0)), (1, .int v)]) F d_T_ask_5 rfl (by decide) rfl ?_
    refine v_iload_n F d_T_ask_6 rfl 0 rfl ?_
    refine v_if_eq F 12 d_T_ask_7 rfl (fun _ => ?_) (fun h => absurd (by decide) h)
    refine v_bipush (v := (-9)) F d_T_ask_12 kb_m9 ?_
    refine v_istore_n (ls' := [(3, .int (-9)), (2, .int 0), (0, .ref (u.2.1 0)), (1, .int v)]) F d_T_ask_14 rfl (by decide) rfl ?_
    refine v_bipush (v := 65) F d_T_ask_15 kb_65 ?_
    refine v_istore (ls' := [(4, .int 65), (3, .int (-9)), (2, .int 0), (0, .ref (u.2.1 0)), (1, .int v)]) F d_T_ask_17 (by decide) rfl ?_
    refine v_iconst (v := 0) F d_T_ask_19 ki_0 ?_
    refine v_istore (ls' := [(5, .int 0), (4, .int 65), (3, .int (-9)), (2, .int 0), (0, .ref (u.2.1 0)), (1, .int v)]) F d_T_ask_20 (by decide) rfl ?_
    refine v_sub [4, 5, 2, 1, 0] (ls' := [(0, .ref (u.2.1 0)), (1, .int v), (3, .int (-9)), (4, .int 65), (5, .int 0)]) rfl ?_
    have g4 : (-9) = (oI (itr (askF (wgd σ G kd n L) L v) (none, 65) 0).1) := (by first | rfl | (simp only [itr, askF]; rw [if_pos ⟨(by first | assumption | omega), (by first | assumption | omega)⟩]; first | done | rfl | (subst_vars; rfl) | (subst_vars; exact tdS_u _ _ _)) | (simp only [itr, askF]; rw [if_neg (by rintro ⟨q0, q1⟩; first | exact absurd q0 (by assumption) | exact q0 (by assumption) | exact absurd q1 (by assumption) | exact q1 (by assumption) | omega)]))
    have g5 : 65 = (nI ((itr (askF (wgd σ G kd n L) L v) (none, 65) 0).2)) := (by first | rfl | (simp only [itr, askF]; rw [if_pos ⟨(by first | assumption | omega), (by first | assumption | omega)⟩]; first | done | rfl | (subst_vars; rfl) | (subst_vars; exact tdS_u _ _ _)) | (simp only [itr, askF]; rw [if_neg (by rintro ⟨q0, q1⟩; first | exact absurd q0 (by assumption) | exact q0 (by assumption) | exact absurd q1 (by assumption) | exact q1 (by assumption) | omega)]))
    have g6 : 0 = (nI 0) := (by first | rfl | (simp only [itr, askF]; rw [if_pos ⟨(by first | assumption | omega), (by first | assumption | omega)⟩]; first | done | rfl | (subst_vars; rfl) | (subst_vars; exact tdS_u _ _ _)) | (simp only [itr, askF]; rw [if_neg (by rintro ⟨q0, q1⟩; first | exact absurd q0 (by assumption) | exact q0 (by assumption) | exact absurd q1 (by assumption) | exact q1 (by assumption) | omega)]))
    refine v_to (ls' := [(0, .ref (u.2.1 0)), (1, .int v), (3, .int (oI (itr (askF (wgd σ G kd n L) L v) (none, 65) 0).1)), (4, .int (nI ((itr (askF (wgd σ G kd n L) L v) (none, 65) 0).2))), (5, .int (nI 0))]) (by first | rfl | rw [g4, g5, g6] | simp_all) ?_
    refine v_st (show (wgd σ G kd n L) = ((wgd σ G kd n L)) from (by first | rfl | (simp only [itr, askF]; rw [if_pos ⟨(by first | assumption | omega), (by first | assumption | omega)⟩]; first | done | rfl | (subst_vars; rfl) | (subst_vars; exact tdS_u _ _ _)) | (simp only [itr, askF]; rw [if_neg (by rintro ⟨q0, q1⟩; first | exact absurd q0 (by assumption) | exact q0 (by assumption) | exact absurd q1 (by assumption) | exact q1 (by assumption) | omega)]))) ?_
    refine L_T_ask_22 hA F (by rw [wgd_k _ _ _ _ _ (by decide) (by decide)]; exact hL) hL64 (by rw [wgd_k _ _ _ _ _ (by decide) (by decide)]; exact hn) hn6 ?_ _ 0 (Nat.zero_le _) (Nat.lt_succ_self _)
    refine v_iload_n F d_T_ask_79 rfl 2 rfl ?_
    refine v_bipush (v := (-9)) F d_T_ask_80 kb_m9 ?_
    refine v_icmp_eq F 91 d_T_ask_82 rfl (fun h82 => ?_) (fun h82 => ?_)
    · skip
      refine v_iload_n F d_T_ask_91 rfl 2 rfl ?_
      refine v_iret F hr rfl d_T_ask_92 ?_
      refine Or.inr (Or.inr (Or.inl ⟨a1, a2, a3, ?_⟩))
      unfold tAsk
      first | (rw [if_pos (by assumption)]; done) | (rw [if_neg (by assumption)]; subst_vars; rfl)
    · skip
      refine v_aload_n F d_T_ask_85 rfl 0 rfl ?_
      refine v_iload F d_T_ask_86 3 rfl ?_
      refine v_puti F fk_T_88 pk_T_told G0 rfl d_T_ask_88 ?_
      refine v_ns (fun σ7 eσ7 => ?_)
      refine v_iload_n F d_T_ask_91 rfl 2 rfl ?_
      refine v_iret F hr rfl d_T_ask_92 ?_
      refine Or.inr (Or.inr (Or.inl ⟨a1, a2, a3, ?_⟩))
      unfold tAsk
      first | (rw [if_pos (by assumption)]; done) | (rw [if_neg (by assumption)]; subst_vars; rfl)
  · skip
    refine v_istore_n (ls' := [(2, .int (-3)), (0, .ref (u.2.1 0)), (1, .int v)]) F d_T_ask_5 rfl (by decide) rfl ?_
    refine v_iload_n F d_T_ask_6 rfl 0 rfl ?_
    refine v_if_eq F 12 d_T_ask_7 rfl (fun h => absurd h (by decide)) (fun _ => ?_)
    refine v_iload_n F d_T_ask_10 rfl 0 rfl ?_
    refine v_iret F hr rfl d_T_ask_11 ?_
    exact Or.inr (Or.inr (Or.inr ⟨a1, a2, a3, rfl, by assumption⟩))
abbrev b_T_goodsFor : ByteArray := prog_1_method_71_code
abbrev y_T_goodsFor : MethodName := ⟨"TakerBook", "goodsFor", "(I)I"⟩
theorem d_T_goodsFor_0 : decode b_T_goodsFor 0 = .ok (.iload_n 1, 1) := by decide +kernel
theorem d_T_goodsFor_1 : decode b_T_goodsFor 1 = .ok (.ifCond .ne 5, 3) := by decide +kernel
theorem d_T_goodsFor_4 : decode b_T_goodsFor 4 = .ok (.iconst 0, 1) := by decide +kernel
theorem d_T_goodsFor_5 : decode b_T_goodsFor 5 = .ok (.ireturn, 1) := by decide +kernel
theorem d_T_goodsFor_6 : decode b_T_goodsFor 6 = .ok (.iload_n 1, 1) := by decide +kernel
theorem d_T_goodsFor_7 : decode b_T_goodsFor 7 = .ok (.ifCond .lt 25, 3) := by decide +kernel
theorem d_T_goodsFor_10 : decode b_T_goodsFor 10 = .ok (.aload_n 0, 1) := by decide +kernel
theorem d_T_goodsFor_11 : decode b_T_goodsFor 11 = .ok (.getfield 36, 3) := by decide +kernel
theorem d_T_goodsFor_14 : decode b_T_goodsFor 14 = .ok (.getfield 372, 3) := by decide +kernel
theorem d_T_goodsFor_17 : decode b_T_goodsFor 17 = .ok (.ifCond .eq 15, 3) := by decide +kernel
theorem d_T_goodsFor_20 : decode b_T_goodsFor 20 = .ok (.iload_n 1, 1) := by decide +kernel
theorem d_T_goodsFor_21 : decode b_T_goodsFor 21 = .ok (.aload_n 0, 1) := by decide +kernel
theorem d_T_goodsFor_22 : decode b_T_goodsFor 22 = .ok (.getfield 36, 3) := by decide +kernel
theorem d_T_goodsFor_25 : decode b_T_goodsFor 25 = .ok (.getfield 372, 3) := by decide +kernel
theorem d_T_goodsFor_28 : decode b_T_goodsFor 28 = .ok (.irem, 1) := by decide +kernel
theorem d_T_goodsFor_29 : decode b_T_goodsFor 29 = .ok (.ifCond .eq 6, 3) := by decide +kernel
theorem d_T_goodsFor_32 : decode b_T_goodsFor 32 = .ok (.bipush (-9), 2) := by decide +kernel
theorem d_T_goodsFor_34 : decode b_T_goodsFor 34 = .ok (.ireturn, 1) := by decide +kernel
theorem d_T_goodsFor_35 : decode b_T_goodsFor 35 = .ok (.iload_n 1, 1) := by decide +kernel
theorem d_T_goodsFor_36 : decode b_T_goodsFor 36 = .ok (.aload_n 0, 1) := by decide +kernel
theorem d_T_goodsFor_37 : decode b_T_goodsFor 37 = .ok (.getfield 36, 3) := by decide +kernel
theorem d_T_goodsFor_40 : decode b_T_goodsFor 40 = .ok (.getfield 372, 3) := by decide +kernel
theorem d_T_goodsFor_43 : decode b_T_goodsFor 43 = .ok (.idiv, 1) := by decide +kernel
theorem d_T_goodsFor_44 : decode b_T_goodsFor 44 = .ok (.ireturn, 1) := by decide +kernel
theorem mo_T_goodsFor : mok y_T_goodsFor b_T_goodsFor 2 (some .int) 1 := ⟨List.mem_of_getElem? (i := 898) (by decide +kernel), ⟨by decide +kernel, by decide +kernel, by decide +kernel⟩, List.mem_of_getElem? (i := 74) (by decide +kernel), by decide⟩
set_option maxHeartbeats 4000000 in
theorem c_T_goodsFor (l : Launch) (u : Un) (hA : Ap u) (σ : St) (x : Int32) : MTi l u y_T_goodsFor b_T_goodsFor 2 .int 0 [.ref (u.2.1 0), .int x] σ (fun ans σ' => gdF (σ.1 19 10) x = ans ∧ σ = σ') := by
  refine MT_of hA rfl (by decide) (Nat.le_of_ble_eq_true rfl) (fun X hl F hr => ?_)
  subst hl
  refine v_to (ls' := [(0, .ref (u.2.1 0)), (1, .int x)]) rfl ?_
  refine v_iload_n F d_T_goodsFor_0 rfl 1 rfl ?_
  refine v_if_ne F 6 d_T_goodsFor_1 rfl (fun h1 => ?_) (fun h1 => ?_)
  · skip
    refine v_iload_n F d_T_goodsFor_6 rfl 1 rfl ?_
    refine v_if_lt F 32 d_T_goodsFor_7 rfl (fun h7 => ?_) (fun h7 => ?_)
    · skip
      refine v_bipush (v := (-9)) F d_T_goodsFor_32 kb_m9 ?_
      refine v_iret F hr rfl d_T_goodsFor_34 ?_
      refine ⟨?_, rfl⟩
      unfold gdF
      first | (rw [if_pos (by assumption)]; done) | (rw [if_neg (by assumption), if_neg (by rintro (q | q | q); exact absurd q (by assumption); exact absurd q (by assumption); exact q (by assumption))]; done) | (rw [if_neg (by assumption), if_pos (by first | exact Or.inl (by assumption) | exact Or.inr (Or.inl (by assumption)) | exact Or.inr (Or.inr (by assumption)))]; done)
    · skip
      refine v_aload_n F d_T_goodsFor_10 rfl 0 rfl ?_
      refine v_getr (r := 19) F fk_T_36 G0 rfl d_T_goodsFor_11 ?_
      refine v_geti F fk_T_372 G19 rfl d_T_goodsFor_14 ?_
      refine v_if_eq F 32 d_T_goodsFor_17 rfl (fun h17 => ?_) (fun h17 => ?_)
      · skip
        refine v_bipush (v := (-9)) F d_T_goodsFor_32 kb_m9 ?_
        refine v_iret F hr rfl d_T_goodsFor_34 ?_
        refine ⟨?_, rfl⟩
        unfold gdF
        first | (rw [if_pos (by assumption)]; done) | (rw [if_neg (by assumption), if_neg (by rintro (q | q | q); exact absurd q (by assumption); exact absurd q (by assumption); exact q (by assumption))]; done) | (rw [if_neg (by assumption), if_pos (by first | exact Or.inl (by assumption) | exact Or.inr (Or.inl (by assumption)) | exact Or.inr (Or.inr (by assumption)))]; done)
      · skip
        refine v_iload_n F d_T_goodsFor_20 rfl 1 rfl ?_
        refine v_aload_n F d_T_goodsFor_21 rfl 0 rfl ?_
        refine v_getr (r := 19) F fk_T_36 G0 rfl d_T_goodsFor_22 ?_
        refine v_geti F fk_T_372 G19 rfl d_T_goodsFor_25 ?_
        refine v_irem F d_T_goodsFor_28 h17 ?_
        refine v_if_eq F 35 d_T_goodsFor_29 rfl (fun h29 => ?_) (fun h29 => ?_)
        · skip
          refine v_iload_n F d_T_goodsFor_35 rfl 1 rfl ?_
          refine v_aload_n F d_T_goodsFor_36 rfl 0 rfl ?_
          refine v_getr (r := 19) F fk_T_36 G0 rfl d_T_goodsFor_37 ?_
          refine v_geti F fk_T_372 G19 rfl d_T_goodsFor_40 ?_
          refine v_idiv F d_T_goodsFor_43 h17 ?_
          refine v_iret F hr rfl d_T_goodsFor_44 ?_
          refine ⟨?_, rfl⟩
          unfold gdF
          first | (rw [if_pos (by assumption)]; done) | (rw [if_neg (by assumption), if_neg (by rintro (q | q | q); exact absurd q (by assumption); exact absurd q (by assumption); exact q (by assumption))]; done) | (rw [if_neg (by assumption), if_pos (by first | exact Or.inl (by assumption) | exact Or.inr (Or.inl (by assumption)) | exact Or.inr (Or.inr (by assumption)))]; done)
        · skip
          refine v_bipush (v := (-9)) F d_T_goodsFor_32 kb_m9 ?_
          refine v_iret F hr rfl d_T_goodsFor_34 ?_
          refine ⟨?_, rfl⟩
          unfold gdF
          first | (rw [if_pos (by assumption)]; done) | (rw [if_neg (by assumption), if_neg (by rintro (q | q | q); exact absurd q (by assumption); exact absurd q (by assumption); exact q (by assumption))]; done) | (rw [if_neg (by assumption), if_pos (by first | exact Or.inl (by assumption) | exact Or.inr (Or.inl (by assumption)) | exact Or.inr (Or.inr (by assumption)))]; done)
  · skip
    refine v_iconst (v := 0) F d_T_goodsFor_4 ki_0 ?_
    refine v_iret F hr rfl d_T_goodsFor_5 ?_
    refine ⟨?_, rfl⟩
    unfold gdF
    first | (rw [if_pos (by assumption)]; done) | (rw [if_neg (by assumption), if_neg (by rintro (q | q | q); exact absurd q (by assumption); exact absurd q (by assumption); exact q (by assumption))]; done) | (rw [if_neg (by assumption), if_pos (by first | exact Or.inl (by assumption) | exact Or.inr (Or.inl (by assumption)) | exact Or.inr (Or.inr (by assumption)))]; done)
abbrev b_T_isBetter : ByteArray := prog_1_method_72_code
abbrev y_T_isBetter : MethodName := ⟨"TakerBook", "isBetter", "(IIII)Z"⟩
theorem d_T_isBetter_0 : decode b_T_isBetter 0 = .ok (.iload_n 2, 1) := by decide +kernel
theorem d_T_isBetter_1 : decode b_T_isBetter 1 = .ok (.bipush (-9), 2) := by decide +kernel
theorem d_T_isBetter_3 : decode b_T_isBetter 3 = .ok (.if_icmp .eq 18, 3) := by decide +kernel
theorem d_T_isBetter_6 : decode b_T_isBetter 6 = .ok (.iload_n 0, 1) := by decide +kernel
theorem d_T_isBetter_7 : decode b_T_isBetter 7 = .ok (.iload_n 2, 1) := by decide +kernel
theorem d_T_isBetter_8 : decode b_T_isBetter 8 = .ok (.if_icmp .lt 13, 3) := by decide +kernel
theorem d_T_isBetter_11 : decode b_T_isBetter 11 = .ok (.iload_n 0, 1) := by decide +kernel
theorem d_T_isBetter_12 : decode b_T_isBetter 12 = .ok (.iload_n 2, 1) := by decide +kernel
theorem d_T_isBetter_13 : decode b_T_isBetter 13 = .ok (.if_icmp .ne 12, 3) := by decide +kernel
theorem d_T_isBetter_16 : decode b_T_isBetter 16 = .ok (.iload_n 1, 1) := by decide +kernel
theorem d_T_isBetter_17 : decode b_T_isBetter 17 = .ok (.iload_n 3, 1) := by decide +kernel
theorem d_T_isBetter_18 : decode b_T_isBetter 18 = .ok (.if_icmp .le 7, 3) := by decide +kernel
theorem d_T_isBetter_21 : decode b_T_isBetter 21 = .ok (.iconst 1, 1) := by decide +kernel
theorem d_T_isBetter_22 : decode b_T_isBetter 22 = .ok (.goto 4, 3) := by decide +kernel
theorem d_T_isBetter_25 : decode b_T_isBetter 25 = .ok (.iconst 0, 1) := by decide +kernel
theorem d_T_isBetter_26 : decode b_T_isBetter 26 = .ok (.ireturn, 1) := by decide +kernel
theorem mo_T_isBetter : mok y_T_isBetter b_T_isBetter 4 (some .boolean) 4 := ⟨List.mem_of_getElem? (i := 750) (by decide +kernel), ⟨by decide +kernel, by decide +kernel, by decide +kernel⟩, List.mem_of_getElem? (i := 74) (by decide +kernel), by decide⟩
set_option maxHeartbeats 4000000 in
theorem c_T_isBetter (l : Launch) (u : Un) (hA : Ap u) (σ : St) (a b f w : Int32) : MTi l u y_T_isBetter b_T_isBetter 4 .boolean 0 [.int a, .int b, .int f, .int w] σ (fun ans σ' => bI ((f = -9 ∨ a < f ∨ (a = f ∧ w < b))) = ans ∧ σ = σ') := by
  refine MT_of hA rfl (by decide) (Nat.le_of_ble_eq_true rfl) (fun X hl F hr => ?_)
  subst hl
  refine v_to (ls' := [(0, .int a), (1, .int b), (2, .int f), (3, .int w)]) rfl ?_
  refine v_iload_n F d_T_isBetter_0 rfl 2 rfl ?_
  refine v_bipush (v := (-9)) F d_T_isBetter_1 kb_m9 ?_
  refine v_icmp_eq F 21 d_T_isBetter_3 rfl (fun h3 => ?_) (fun h3 => ?_)
  · skip
    refine v_iconst (v := 1) F d_T_isBetter_21 ki_1 ?_
    refine v_goto F 26 d_T_isBetter_22 rfl ?_
    refine v_iret F hr rfl d_T_isBetter_26 ?_
    exact ⟨bI_t (by grind), rfl⟩
  · skip
    refine v_iload_n F d_T_isBetter_6 rfl 0 rfl ?_
    refine v_iload_n F d_T_isBetter_7 rfl 2 rfl ?_
    refine v_icmp_lt F 21 d_T_isBetter_8 rfl (fun h8 => ?_) (fun h8 => ?_)
    · skip
      refine v_iconst (v := 1) F d_T_isBetter_21 ki_1 ?_
      refine v_goto F 26 d_T_isBetter_22 rfl ?_
      refine v_iret F hr rfl d_T_isBetter_26 ?_
      exact ⟨bI_t (by grind), rfl⟩
    · skip
      refine v_iload_n F d_T_isBetter_11 rfl 0 rfl ?_
      refine v_iload_n F d_T_isBetter_12 rfl 2 rfl ?_
      refine v_icmp_ne F 25 d_T_isBetter_13 rfl (fun h13 => ?_) (fun h13 => ?_)
      · skip
        refine v_iconst (v := 0) F d_T_isBetter_25 ki_0 ?_
        refine v_iret F hr rfl d_T_isBetter_26 ?_
        exact ⟨bI_f (by grind), rfl⟩
      · skip
        refine v_iload_n F d_T_isBetter_16 rfl 1 rfl ?_
        refine v_iload_n F d_T_isBetter_17 rfl 3 rfl ?_
        refine v_icmp_le F 25 d_T_isBetter_18 rfl (fun h18 => ?_) (fun h18 => ?_)
        · skip
          refine v_iconst (v := 0) F d_T_isBetter_25 ki_0 ?_
          refine v_iret F hr rfl d_T_isBetter_26 ?_
          exact ⟨bI_f (by grind), rfl⟩
        · skip
          refine v_iconst (v := 1) F d_T_isBetter_21 ki_1 ?_
          refine v_goto F 26 d_T_isBetter_22 rfl ?_
          refine v_iret F hr rfl d_T_isBetter_26 ?_
          exact ⟨bI_t (by grind), rfl⟩
abbrev b_T_sum : ByteArray := prog_1_method_35_code
abbrev y_T_sum : MethodName := ⟨"TakerBook", "sum", "(I)I"⟩
theorem d_T_sum_0 : decode b_T_sum 0 = .ok (.iload_n 1, 1) := by decide +kernel
theorem d_T_sum_1 : decode b_T_sum 1 = .ok (.invokestatic 251, 3) := by decide +kernel
theorem d_T_sum_4 : decode b_T_sum 4 = .ok (.ifCond .ne 5, 3) := by decide +kernel
theorem d_T_sum_7 : decode b_T_sum 7 = .ok (.iconst (-1), 1) := by decide +kernel
theorem d_T_sum_8 : decode b_T_sum 8 = .ok (.ireturn, 1) := by decide +kernel
theorem d_T_sum_9 : decode b_T_sum 9 = .ok (.aload_n 0, 1) := by decide +kernel
theorem d_T_sum_10 : decode b_T_sum 10 = .ok (.getfield 36, 3) := by decide +kernel
theorem d_T_sum_13 : decode b_T_sum 13 = .ok (.getfield 118, 3) := by decide +kernel
theorem d_T_sum_16 : decode b_T_sum 16 = .ok (.ifCond .ne 6, 3) := by decide +kernel
theorem d_T_sum_19 : decode b_T_sum 19 = .ok (.bipush (-4), 2) := by decide +kernel
theorem d_T_sum_21 : decode b_T_sum 21 = .ok (.ireturn, 1) := by decide +kernel
theorem d_T_sum_22 : decode b_T_sum 22 = .ok (.aload_n 0, 1) := by decide +kernel
theorem d_T_sum_23 : decode b_T_sum 23 = .ok (.getfield 36, 3) := by decide +kernel
theorem d_T_sum_26 : decode b_T_sum 26 = .ok (.invokevirtual 204, 3) := by decide +kernel
theorem d_T_sum_29 : decode b_T_sum 29 = .ok (.bipush (-9), 2) := by decide +kernel
theorem d_T_sum_31 : decode b_T_sum 31 = .ok (.istore_n 2, 1) := by decide +kernel
theorem d_T_sum_32 : decode b_T_sum 32 = .ok (.iconst 0, 1) := by decide +kernel
theorem d_T_sum_33 : decode b_T_sum 33 = .ok (.istore_n 3, 1) := by decide +kernel
theorem d_T_sum_34 : decode b_T_sum 34 = .ok (.iconst 0, 1) := by decide +kernel
theorem d_T_sum_35 : decode b_T_sum 35 = .ok (.istore 4, 2) := by decide +kernel
theorem d_T_sum_37 : decode b_T_sum 37 = .ok (.iload 4, 2) := by decide +kernel
theorem d_T_sum_39 : decode b_T_sum 39 = .ok (.bipush 64, 2) := by decide +kernel
theorem d_T_sum_41 : decode b_T_sum 41 = .ok (.if_icmp .ge 84, 3) := by decide +kernel
theorem d_T_sum_44 : decode b_T_sum 44 = .ok (.aload_n 0, 1) := by decide +kernel
theorem d_T_sum_45 : decode b_T_sum 45 = .ok (.getfield 36, 3) := by decide +kernel
theorem d_T_sum_48 : decode b_T_sum 48 = .ok (.iload 4, 2) := by decide +kernel
theorem d_T_sum_50 : decode b_T_sum 50 = .ok (.invokevirtual 186, 3) := by decide +kernel
theorem d_T_sum_53 : decode b_T_sum 53 = .ok (.ifCond .eq 24, 3) := by decide +kernel
theorem d_T_sum_56 : decode b_T_sum 56 = .ok (.aload_n 0, 1) := by decide +kernel
theorem d_T_sum_57 : decode b_T_sum 57 = .ok (.iload_n 1, 1) := by decide +kernel
theorem d_T_sum_58 : decode b_T_sum 58 = .ok (.iload 4, 2) := by decide +kernel
theorem d_T_sum_60 : decode b_T_sum 60 = .ok (.aload_n 0, 1) := by decide +kernel
theorem d_T_sum_61 : decode b_T_sum 61 = .ok (.getfield 36, 3) := by decide +kernel
theorem d_T_sum_64 : decode b_T_sum 64 = .ok (.getfield 207, 3) := by decide +kernel
theorem d_T_sum_67 : decode b_T_sum 67 = .ok (.invokestatic 210, 3) := by decide +kernel
theorem d_T_sum_70 : decode b_T_sum 70 = .ok (.isub, 1) := by decide +kernel
theorem d_T_sum_71 : decode b_T_sum 71 = .ok (.invokevirtual 281, 3) := by decide +kernel
theorem d_T_sum_74 : decode b_T_sum 74 = .ok (.goto 5, 3) := by decide +kernel
theorem d_T_sum_77 : decode b_T_sum 77 = .ok (.bipush (-9), 2) := by decide +kernel
theorem d_T_sum_79 : decode b_T_sum 79 = .ok (.istore 5, 2) := by decide +kernel
theorem d_T_sum_81 : decode b_T_sum 81 = .ok (.iload 4, 2) := by decide +kernel
theorem d_T_sum_83 : decode b_T_sum 83 = .ok (.invokestatic 189, 3) := by decide +kernel
theorem d_T_sum_86 : decode b_T_sum 86 = .ok (.istore 6, 2) := by decide +kernel
theorem d_T_sum_88 : decode b_T_sum 88 = .ok (.iload 5, 2) := by decide +kernel
theorem d_T_sum_90 : decode b_T_sum 90 = .ok (.bipush (-9), 2) := by decide +kernel
theorem d_T_sum_92 : decode b_T_sum 92 = .ok (.if_icmp .eq 27, 3) := by decide +kernel
theorem d_T_sum_95 : decode b_T_sum 95 = .ok (.iload 5, 2) := by decide +kernel
theorem d_T_sum_97 : decode b_T_sum 97 = .ok (.iload 6, 2) := by decide +kernel
theorem d_T_sum_99 : decode b_T_sum 99 = .ok (.iadd, 1) := by decide +kernel
theorem d_T_sum_100 : decode b_T_sum 100 = .ok (.iload 6, 2) := by decide +kernel
theorem d_T_sum_102 : decode b_T_sum 102 = .ok (.iload_n 2, 1) := by decide +kernel
theorem d_T_sum_103 : decode b_T_sum 103 = .ok (.iload_n 3, 1) := by decide +kernel
theorem d_T_sum_104 : decode b_T_sum 104 = .ok (.invokestatic 284, 3) := by decide +kernel
theorem d_T_sum_107 : decode b_T_sum 107 = .ok (.ifCond .eq 12, 3) := by decide +kernel
theorem d_T_sum_110 : decode b_T_sum 110 = .ok (.iload 5, 2) := by decide +kernel
theorem d_T_sum_112 : decode b_T_sum 112 = .ok (.iload 6, 2) := by decide +kernel
theorem d_T_sum_114 : decode b_T_sum 114 = .ok (.iadd, 1) := by decide +kernel
theorem d_T_sum_115 : decode b_T_sum 115 = .ok (.istore_n 2, 1) := by decide +kernel
theorem d_T_sum_116 : decode b_T_sum 116 = .ok (.iload 6, 2) := by decide +kernel
theorem d_T_sum_118 : decode b_T_sum 118 = .ok (.istore_n 3, 1) := by decide +kernel
theorem d_T_sum_119 : decode b_T_sum 119 = .ok (.iinc 4 1, 3) := by decide +kernel
theorem d_T_sum_122 : decode b_T_sum 122 = .ok (.goto (-85), 3) := by decide +kernel
theorem d_T_sum_125 : decode b_T_sum 125 = .ok (.iload_n 2, 1) := by decide +kernel
theorem d_T_sum_126 : decode b_T_sum 126 = .ok (.bipush (-9), 2) := by decide +kernel
theorem d_T_sum_128 : decode b_T_sum 128 = .ok (.if_icmp .eq 8, 3) := by decide +kernel
theorem d_T_sum_131 : decode b_T_sum 131 = .ok (.aload_n 0, 1) := by decide +kernel
theorem d_T_sum_132 : decode b_T_sum 132 = .ok (.iload_n 3, 1) := by decide +kernel
theorem d_T_sum_133 : decode b_T_sum 133 = .ok (.putfield 88, 3) := by decide +kernel
theorem d_T_sum_136 : decode b_T_sum 136 = .ok (.iload_n 2, 1) := by decide +kernel
theorem d_T_sum_137 : decode b_T_sum 137 = .ok (.ireturn, 1) := by decide +kernel
theorem mo_T_sum : mok y_T_sum b_T_sum 7 (some .int) 1 := ⟨List.mem_of_getElem? (i := 894) (by decide +kernel), ⟨by decide +kernel, by decide +kernel, by decide +kernel⟩, List.mem_of_getElem? (i := 74) (by decide +kernel), by decide⟩
set_option maxHeartbeats 4000000 in
theorem L_T_sum_37 {X : FX} {u : Un} (hA : Ap u) {Q : State → Prop} (F : Fr X u "TakerBook" b_T_sum 7) {σ : St} {L : Nat} (hL : σ.1 19 14 = nI L) (hL64 : L < 64) {v : Int32} (k : V X u 7 7 Q 125 [(0, .ref (u.2.1 0)), (1, .int v), (2, .int ((itr (sumF σ L v) (-9, 0) 64).1)), (3, .int ((itr (sumF σ L v) (-9, 0) 64).2)), (4, .int (nI 64))] [] (σ)) : ∀ (nn s : Nat), s ≤ 64 → 64 - s < nn → V X u 7 7 Q 37 [(0, .ref (u.2.1 0)), (1, .int v), (2, .int ((itr (sumF σ L v) (-9, 0) s).1)), (3, .int ((itr (sumF σ L v) (-9, 0) s).2)), (4, .int (nI s))] [] (σ) := by
  intro nn
  induction nn with
  | zero =>
    intro s h1 h2
    exact absurd h2 (Nat.not_lt_zero _)
  | succ nn ih =>
    intro s hii hnn
    have hpl : s < 64 → pcN s ≤ 6 := pc_le s
    refine v_iload F d_T_sum_37 4 rfl ?_
    refine v_bipush (v := 64) F d_T_sum_39 kb_64 ?_
    refine v_icmp_ge F 125 d_T_sum_41 rfl (fun h41 => ?_) (fun h41 => ?_)
    · skip
      have h41 : 64 ≤ s := (nI_leI (a := 64) (b := s) (by omega) (by omega)).mp h41
      have he : s = 64 := by omega
      subst he
      exact k
    · skip
      have h41 : ¬ 64 ≤ s := fun q => h41 ((nI_leI (a := 64) (b := s) (by omega) (by omega)).mpr q)
      refine v_aload_n F d_T_sum_44 rfl 0 rfl ?_
      refine v_getr (r := 19) F fk_T_36 G0 rfl d_T_sum_45 ?_
      refine v_iload F d_T_sum_48 4 rfl ?_
      refine v_runi (r_V F (c_B_isOfLeft X.2.1 u hA σ hL hL64 s (by omega)) mo_B_isOfLeft st_T_186 rc_19 (by decide) rfl (Nat.le_of_ble_eq_true rfl) d_T_sum_50) (fun r1 σ2 q3 => ?_)
      obtain ⟨rfl, rfl⟩ := q3
      refine v_bt F 77 d_T_sum_53 rfl (fun h53 => ?_) (fun h53 => ?_)
      · skip
        refine v_bipush (v := (-9)) F d_T_sum_77 kb_m9 ?_
        refine v_istore (ls' := [(5, .int (-9)), (0, .ref (u.2.1 0)), (1, .int v), (2, .int ((itr (sumF σ L v) (-9, 0) s).1)), (3, .int ((itr (sumF σ L v) (-9, 0) s).2)), (4, .int (nI s))]) F d_T_sum_79 (by decide) rfl ?_
        refine v_iload F d_T_sum_81 5 rfl ?_
        refine v_runi (r_S F (c_I_bitCount X.2.1 u hA σ s (by omega)) mo_I_bitCount st_T_189 (by decide) rfl (Nat.le_of_ble_eq_true rfl) d_T_sum_83) (fun r4 σ5 q6 => ?_)
        obtain ⟨rfl, rfl⟩ := q6
        refine v_istore (ls' := [(6, .int (nI (pcN s))), (5, .int (-9)), (0, .ref (u.2.1 0)), (1, .int v), (2, .int ((itr (sumF σ L v) (-9, 0) s).1)), (3, .int ((itr (sumF σ L v) (-9, 0) s).2)), (4, .int (nI s))]) F d_T_sum_86 (by decide) rfl ?_
        refine v_iload F d_T_sum_88 1 rfl ?_
        refine v_bipush (v := (-9)) F d_T_sum_90 kb_m9 ?_
        refine v_icmp_eq F 119 d_T_sum_92 rfl (fun _ => ?_) (fun h => absurd (by decide) h)
        refine v_iinc (v := nI (s + 1)) (ls' := [(4, .int (nI (s + 1))), (6, .int (nI (pcN s))), (5, .int (-9)), (0, .ref (u.2.1 0)), (1, .int v), (2, .int ((itr (sumF σ L v) (-9, 0) s).1)), (3, .int ((itr (sumF σ L v) (-9, 0) s).2))]) F d_T_sum_119 (j := 6) rfl (nI_inc _) (by decide) rfl ?_
        refine v_goto F 37 d_T_sum_122 rfl ?_
        refine v_sub [3, 4, 5, 6, 0] (ls' := [(0, .ref (u.2.1 0)), (1, .int v), (2, .int ((itr (sumF σ L v) (-9, 0) s).1)), (3, .int ((itr (sumF σ L v) (-9, 0) s).2)), (4, .int (nI (s + 1)))]) rfl ?_
        have g7 : ((itr (sumF σ L v) (-9, 0) s).1) = ((itr (sumF σ L v) (-9, 0) (s + 1)).1) := (by first | rfl | (simp only [itr, sumF]; subst_vars; rw [if_pos ⟨by assumption, by assumption, by assumption⟩]; done) | (simp only [itr, sumF]; subst_vars; rw [if_neg (by rintro ⟨q1, q2, q3⟩; first | exact absurd q1 (by assumption) | exact absurd q2 (by assumption) | exact q2 (by assumption) | exact absurd q3 (by assumption) | exact q2 rfl)]; done))
        have g8 : ((itr (sumF σ L v) (-9, 0) s).2) = ((itr (sumF σ L v) (-9, 0) (s + 1)).2) := (by first | rfl | (simp only [itr, sumF]; subst_vars; rw [if_pos ⟨by assumption, by assumption, by assumption⟩]; done) | (simp only [itr, sumF]; subst_vars; rw [if_neg (by rintro ⟨q1, q2, q3⟩; first | exact absurd q1 (by assumption) | exact absurd q2 (by assumption) | exact q2 (by assumption) | exact absurd q3 (by assumption) | exact q2 rfl)]; done))
        refine v_to (ls' := [(0, .ref (u.2.1 0)), (1, .int v), (2, .int ((itr (sumF σ L v) (-9, 0) (s + 1)).1)), (3, .int ((itr (sumF σ L v) (-9, 0) (s + 1)).2)), (4, .int (nI (s + 1)))]) (by first | rfl | rw [g7, g8] | simp_all) ?_
        exact ih (s + 1) (by omega) (by omega)
      · skip
        refine v_aload_n F d_T_sum_56 rfl 0 rfl ?_
        refine v_iload_n F d_T_sum_57 rfl 1 rfl ?_
        refine v_iload F d_T_sum_58 4 rfl ?_
        refine v_aload_n F d_T_sum_60 rfl 0 rfl ?_
        refine v_getr (r := 19) F fk_T_36 G0 rfl d_T_sum_61 ?_
        refine v_getr (r := 33) F fk_T_207 G19 rfl d_T_sum_64 ?_
        refine v_runi (r_S F (c_T_total X.2.1 u hA σ (s := s) (kc := 33) (Or.inr rfl) (by omega)) mo_T_total st_T_210 (by decide) rfl (Nat.le_of_ble_eq_true rfl) d_T_sum_67) (fun r9 σ10 q11 => ?_)
        obtain ⟨rfl, rfl⟩ := q11
        refine v_isub F d_T_sum_70 ?_
        refine v_runi (r_V F (c_T_goodsFor X.2.1 u hA σ (v - (totF (σ.1 33) s 6)) ) mo_T_goodsFor st_T_281 rc_0 (by decide) rfl (Nat.le_of_ble_eq_true rfl) d_T_sum_71) (fun r12 σ13 q14 => ?_)
        obtain ⟨rfl, rfl⟩ := q14
        refine v_goto F 79 d_T_sum_74 rfl ?_
        refine v_ni (fun x15 ex15 => ?_)
        refine v_istore (ls' := [(5, .int x15), (0, .ref (u.2.1 0)), (1, .int v), (2, .int ((itr (sumF σ L v) (-9, 0) s).1)), (3, .int ((itr (sumF σ L v) (-9, 0) s).2)), (4, .int (nI s))]) F d_T_sum_79 (by decide) rfl ?_
        refine v_iload F d_T_sum_81 5 rfl ?_
        refine v_runi (r_S F (c_I_bitCount X.2.1 u hA σ s (by omega)) mo_I_bitCount st_T_189 (by decide) rfl (Nat.le_of_ble_eq_true rfl) d_T_sum_83) (fun r16 σ17 q18 => ?_)
        obtain ⟨rfl, rfl⟩ := q18
        refine v_istore (ls' := [(6, .int (nI (pcN s))), (5, .int x15), (0, .ref (u.2.1 0)), (1, .int v), (2, .int ((itr (sumF σ L v) (-9, 0) s).1)), (3, .int ((itr (sumF σ L v) (-9, 0) s).2)), (4, .int (nI s))]) F d_T_sum_86 (by decide) rfl ?_
        refine v_iload F d_T_sum_88 1 rfl ?_
        refine v_bipush (v := (-9)) F d_T_sum_90 kb_m9 ?_
        refine v_icmp_eq F 119 d_T_sum_92 rfl (fun h92 => ?_) (fun h92 => ?_)
        · skip
          refine v_iinc (v := nI (s + 1)) (ls' := [(4, .int (nI (s + 1))), (6, .int (nI (pcN s))), (5, .int x15), (0, .ref (u.2.1 0)), (1, .int v), (2, .int ((itr (sumF σ L v) (-9, 0) s).1)), (3, .int ((itr (sumF σ L v) (-9, 0) s).2))]) F d_T_sum_119 (j := 6) rfl (nI_inc _) (by decide) rfl ?_
          refine v_goto F 37 d_T_sum_122 rfl ?_
          refine v_sub [3, 4, 5, 6, 0] (ls' := [(0, .ref (u.2.1 0)), (1, .int v), (2, .int ((itr (sumF σ L v) (-9, 0) s).1)), (3, .int ((itr (sumF σ L v) (-9, 0) s).2)), (4, .int (nI (s + 1)))]) rfl ?_
          have g19 : ((itr (sumF σ L v) (-9, 0) s).1) = ((itr (sumF σ L v) (-9, 0) (s + 1)).1) := (by first | rfl | (simp only [itr, sumF]; subst_vars; rw [if_pos ⟨by assumption, by assumption, by assumption⟩]; done) | (simp only [itr, sumF]; subst_vars; rw [if_neg (by rintro ⟨q1, q2, q3⟩; first | exact absurd q1 (by assumption) | exact absurd q2 (by assumption) | exact q2 (by assumption) | exact absurd q3 (by assumption) | exact q2 rfl)]; done))
          have g20 : ((itr (sumF σ L v) (-9, 0) s).2) = ((itr (sumF σ L v) (-9, 0) (s + 1)).2) := (by first | rfl | (simp only [itr, sumF]; subst_vars; rw [if_pos ⟨by assumption, by assumption, by assumption⟩]; done) | (simp only [itr, sumF]; subst_vars; rw [if_neg (by rintro ⟨q1, q2, q3⟩; first | exact absurd q1 (by assumption) | exact absurd q2 (by assumption) | exact q2 (by assumption) | exact absurd q3 (by assumption) | exact q2 rfl)]; done))
          refine v_to (ls' := [(0, .ref (u.2.1 0)), (1, .int v), (2, .int ((itr (sumF σ L v) (-9, 0) (s + 1)).1)), (3, .int ((itr (sumF σ L v) (-9, 0) (s + 1)).2)), (4, .int (nI (s + 1)))]) (by first | rfl | rw [g19, g20] | simp_all) ?_
          exact ih (s + 1) (by omega) (by omega)
        · skip
          refine v_iload F d_T_sum_95 1 rfl ?_
          refine v_iload F d_T_sum_97 0 rfl ?_
          refine v_iadd F d_T_sum_99 ?_
          refine v_iload F d_T_sum_100 0 rfl ?_
          refine v_iload_n F d_T_sum_102 rfl 4 rfl ?_
          refine v_iload_n F d_T_sum_103 rfl 5 rfl ?_
          refine v_runi (r_S F (c_T_isBetter X.2.1 u hA σ (x15 + (nI (pcN s))) (nI (pcN s)) ((itr (sumF σ L v) (-9, 0) s).1) ((itr (sumF σ L v) (-9, 0) s).2) ) mo_T_isBetter st_T_284 (by decide) rfl (Nat.le_of_ble_eq_true rfl) d_T_sum_104) (fun r21 σ22 q23 => ?_)
          obtain ⟨rfl, rfl⟩ := q23
          refine v_bt F 119 d_T_sum_107 rfl (fun h107 => ?_) (fun h107 => ?_)
          · skip
            refine v_iinc (v := nI (s + 1)) (ls' := [(4, .int (nI (s + 1))), (6, .int (nI (pcN s))), (5, .int x15), (0, .ref (u.2.1 0)), (1, .int v), (2, .int ((itr (sumF σ L v) (-9, 0) s).1)), (3, .int ((itr (sumF σ L v) (-9, 0) s).2))]) F d_T_sum_119 (j := 6) rfl (nI_inc _) (by decide) rfl ?_
            refine v_goto F 37 d_T_sum_122 rfl ?_
            refine v_sub [3, 4, 5, 6, 0] (ls' := [(0, .ref (u.2.1 0)), (1, .int v), (2, .int ((itr (sumF σ L v) (-9, 0) s).1)), (3, .int ((itr (sumF σ L v) (-9, 0) s).2)), (4, .int (nI (s + 1)))]) rfl ?_
            have g24 : ((itr (sumF σ L v) (-9, 0) s).1) = ((itr (sumF σ L v) (-9, 0) (s + 1)).1) := (by first | rfl | (simp only [itr, sumF]; subst_vars; rw [if_pos ⟨by assumption, by assumption, by assumption⟩]; done) | (simp only [itr, sumF]; subst_vars; rw [if_neg (by rintro ⟨q1, q2, q3⟩; first | exact absurd q1 (by assumption) | exact absurd q2 (by assumption) | exact q2 (by assumption) | exact absurd q3 (by assumption) | exact q2 rfl)]; done))
            have g25 : ((itr (sumF σ L v) (-9, 0) s).2) = ((itr (sumF σ L v) (-9, 0) (s + 1)).2) := (by first | rfl | (simp only [itr, sumF]; subst_vars; rw [if_pos ⟨by assumption, by assumption, by assumption⟩]; done) | (simp only [itr, sumF]; subst_vars; rw [if_neg (by rintro ⟨q1, q2, q3⟩; first | exact absurd q1 (by assumption) | exact absurd q2 (by assumption) | exact q2 (by assumption) | exact absurd q3 (by assumption) | exact q2 rfl)]; done))
            refine v_to (ls' := [(0, .ref (u.2.1 0)), (1, .int v), (2, .int ((itr (sumF σ L v) (-9, 0) (s + 1)).1)), (3, .int ((itr (sumF σ L v) (-9, 0) (s + 1)).2)), (4, .int (nI (s + 1)))]) (by first | rfl | rw [g24, g25] | simp_all) ?_
            exact ih (s + 1) (by omega) (by omega)
          · skip
            refine v_iload F d_T_sum_110 1 rfl ?_
            refine v_iload F d_T_sum_112 0 rfl ?_
            refine v_iadd F d_T_sum_114 ?_
            refine v_ni (fun x26 ex26 => ?_)
            refine v_istore_n (ls' := [(2, .int x26), (6, .int (nI (pcN s))), (5, .int x15), (0, .ref (u.2.1 0)), (1, .int v), (3, .int ((itr (sumF σ L v) (-9, 0) s).2)), (4, .int (nI s))]) F d_T_sum_115 rfl (by decide) rfl ?_
            refine v_iload F d_T_sum_116 1 rfl ?_
            refine v_istore_n (ls' := [(3, .int (nI (pcN s))), (2, .int x26), (6, .int (nI (pcN s))), (5, .int x15), (0, .ref (u.2.1 0)), (1, .int v), (4, .int (nI s))]) F d_T_sum_118 rfl (by decide) rfl ?_
            refine v_iinc (v := nI (s + 1)) (ls' := [(4, .int (nI (s + 1))), (3, .int (nI (pcN s))), (2, .int x26), (6, .int (nI (pcN s))), (5, .int x15), (0, .ref (u.2.1 0)), (1, .int v)]) F d_T_sum_119 (j := 6) rfl (nI_inc _) (by decide) rfl ?_
            refine v_goto F 37 d_T_sum_122 rfl ?_
            refine v_sub [5, 6, 2, 1, 0] (ls' := [(0, .ref (u.2.1 0)), (1, .int v), (2, .int x26), (3, .int (nI (pcN s))), (4, .int (nI (s + 1)))]) rfl ?_
            have g27 : x26 = ((itr (sumF σ L v) (-9, 0) (s + 1)).1) := (by first | rfl | (simp only [itr, sumF]; subst_vars; rw [if_pos ⟨by assumption, by assumption, by assumption⟩]; done) | (simp only [itr, sumF]; subst_vars; rw [if_neg (by rintro ⟨q1, q2, q3⟩; first | exact absurd q1 (by assumption) | exact absurd q2 (by assumption) | exact q2 (by assumption) | exact absurd q3 (by assumption) | exact q2 rfl)]; done))
            have g28 : (nI (pcN s)) = ((itr (sumF σ L v) (-9, 0) (s + 1)).2) := (by first | rfl | (simp only [itr, sumF]; subst_vars; rw [if_pos ⟨by assumption, by assumption, by assumption⟩]; done) | (simp only [itr, sumF]; subst_vars; rw [if_neg (by rintro ⟨q1, q2, q3⟩; first | exact absurd q1 (by assumption) | exact absurd q2 (by assumption) | exact q2 (by assumption) | exact absurd q3 (by assumption) | exact q2 rfl)]; done))
            refine v_to (ls' := [(0, .ref (u.2.1 0)), (1, .int v), (2, .int ((itr (sumF σ L v) (-9, 0) (s + 1)).1)), (3, .int ((itr (sumF σ L v) (-9, 0) (s + 1)).2)), (4, .int (nI (s + 1)))]) (by first | rfl | rw [g27, g28] | simp_all) ?_
            exact ih (s + 1) (by omega) (by omega)
set_option maxHeartbeats 4000000 in
theorem c_T_sum (l : Launch) (u : Un) (hA : Ap u) (σ : St) {n G : Nat} {kd : Nat → Nat} (hb : bkOk σ n G kd) {L : Nat} (hL : σ.1 19 14 = nI L) (hL64 : L < 64) (v : Int32) : MTi l u y_T_sum b_T_sum 7 .int 7 [.ref (u.2.1 0), .int v] σ (fun ans σ' => (ans, σ') = tSum σ G kd n L v) := by
  refine MT_of hA rfl (by decide) (Nat.le_of_ble_eq_true rfl) (fun X hl F hr => ?_)
  subst hl
  refine v_to (ls' := [(0, .ref (u.2.1 0)), (1, .int v)]) rfl ?_
  obtain ⟨hn, hn6, hG, hG64, hkd, hk6⟩ := id hb
  refine v_iload_n F d_T_sum_0 rfl 1 rfl ?_
  refine v_runi (r_S F (c_T_isSum X.2.1 u hA σ v ) mo_T_isSum st_T_251 (by decide) rfl (Nat.le_of_ble_eq_true rfl) d_T_sum_1) (fun r1 σ2 q3 => ?_)
  obtain ⟨rfl, rfl⟩ := q3
  refine v_bf F 9 d_T_sum_4 rfl (fun h4 => ?_) (fun h4 => ?_)
  · skip
    refine v_aload_n F d_T_sum_9 rfl 0 rfl ?_
    refine v_getr (r := 19) F fk_T_36 G0 rfl d_T_sum_10 ?_
    refine v_geti F fk_T_118 G19 rfl d_T_sum_13 ?_
    refine v_if_ne F 22 d_T_sum_16 rfl (fun h16 => ?_) (fun h16 => ?_)
    · skip
      refine v_aload_n F d_T_sum_22 rfl 0 rfl ?_
      refine v_getr (r := 19) F fk_T_36 G0 rfl d_T_sum_23 ?_
      refine v_runv (r_V F (c_B_weigh X.2.1 u hA σ hb hL hL64) mo_B_weigh st_T_204 rc_19 (by decide) rfl (Nat.le_of_ble_eq_true rfl) d_T_sum_26) (fun σ5 q6 => ?_)
      refine v_bipush (v := (-9)) F d_T_sum_29 kb_m9 ?_
      refine v_istore_n (ls' := [(2, .int (-9)), (0, .ref (u.2.1 0)), (1, .int v)]) F d_T_sum_31 rfl (by decide) rfl ?_
      refine v_iconst (v := 0) F d_T_sum_32 ki_0 ?_
      refine v_istore_n (ls' := [(3, .int 0), (2, .int (-9)), (0, .ref (u.2.1 0)), (1, .int v)]) F d_T_sum_33 rfl (by decide) rfl ?_
      refine v_iconst (v := 0) F d_T_sum_34 ki_0 ?_
      refine v_istore (ls' := [(4, .int 0), (3, .int 0), (2, .int (-9)), (0, .ref (u.2.1 0)), (1, .int v)]) F d_T_sum_35 (by decide) rfl ?_
      have eW : σ5 = wgd σ G kd n L := q6
      refine v_st eW ?_
      refine v_sub [3, 4, 2, 1, 0] (ls' := [(0, .ref (u.2.1 0)), (1, .int v), (2, .int (-9)), (3, .int 0), (4, .int 0)]) rfl ?_
      have g7 : (-9) = ((itr (sumF (wgd σ G kd n L) L v) (-9, 0) 0).1) := (by first | rfl)
      have g8 : 0 = ((itr (sumF (wgd σ G kd n L) L v) (-9, 0) 0).2) := (by first | rfl)
      have g9 : 0 = (nI 0) := (by first | rfl)
      refine v_to (ls' := [(0, .ref (u.2.1 0)), (1, .int v), (2, .int ((itr (sumF (wgd σ G kd n L) L v) (-9, 0) 0).1)), (3, .int ((itr (sumF (wgd σ G kd n L) L v) (-9, 0) 0).2)), (4, .int (nI 0))]) (by first | rfl | rw [g7, g8, g9] | simp_all) ?_
      refine v_st (show (wgd σ G kd n L) = ((wgd σ G kd n L)) from (by first | rfl)) ?_
      refine L_T_sum_37 hA F (by rw [wgd_k _ _ _ _ _ (by decide) (by decide)]; exact hL) hL64 ?_ _ 0 (Nat.zero_le _) (Nat.lt_succ_self _)
      refine v_iload_n F d_T_sum_125 rfl 2 rfl ?_
      refine v_bipush (v := (-9)) F d_T_sum_126 kb_m9 ?_
      refine v_icmp_eq F 136 d_T_sum_128 rfl (fun h128 => ?_) (fun h128 => ?_)
      · skip
        refine v_iload_n F d_T_sum_136 rfl 2 rfl ?_
        refine v_iret F hr rfl d_T_sum_137 ?_
        unfold tSum
        rw [if_neg (fun q => q h4), if_neg h16]
        first | (rw [if_pos (by assumption)]; done) | (rw [if_neg (by assumption)]; subst_vars; rfl)
      · skip
        refine v_aload_n F d_T_sum_131 rfl 0 rfl ?_
        refine v_iload_n F d_T_sum_132 rfl 3 rfl ?_
        refine v_puti F fk_T_88 pk_T_told G0 rfl d_T_sum_133 ?_
        refine v_ns (fun σ10 eσ10 => ?_)
        refine v_iload_n F d_T_sum_136 rfl 2 rfl ?_
        refine v_iret F hr rfl d_T_sum_137 ?_
        unfold tSum
        rw [if_neg (fun q => q h4), if_neg h16]
        first | (rw [if_pos (by assumption)]; done) | (rw [if_neg (by assumption)]; subst_vars; rfl)
    · skip
      refine v_bipush (v := (-4)) F d_T_sum_19 kb_m4 ?_
      refine v_iret F hr rfl d_T_sum_21 ?_
      unfold tSum
      (repeat' split) <;> first | rfl | (exfalso; grind) | (subst_vars; rfl) | grind
  · skip
    refine v_iconst (v := (-1)) F d_T_sum_7 ki_m1 ?_
    refine v_iret F hr rfl d_T_sum_8 ?_
    unfold tSum
    (repeat' split) <;> first | rfl | (exfalso; grind) | (subst_vars; rfl) | grind
