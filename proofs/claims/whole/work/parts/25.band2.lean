theorem fk_B_95 : fok "TakerBook$Band" 95 1 14 := ⟨(R_B, F_B, 19), rfl, by decide, List.mem_of_getElem? (i := 208) (by decide +kernel), rfl⟩
theorem fk_B_49 : fok "TakerBook$Band" 49 1 6 := ⟨(R_B, F_B, 19), rfl, by decide, List.mem_of_getElem? (i := 189) (by decide +kernel), rfl⟩
theorem G32 : Gam[32]? = some (.inl (.int, 6)) := rfl
theorem fk_B_52 : fok "TakerBook$Band" 52 1 7 := ⟨(R_B, F_B, 19), rfl, by decide, List.mem_of_getElem? (i := 191) (by decide +kernel), rfl⟩
theorem st_B_141 : siteV "TakerBook$Band" 141 ⟨"TakerBook$Band", "priceOf", "(I)I"⟩ := ⟨List.mem_of_getElem? (i := 610) (by decide +kernel), List.mem_of_getElem? (i := 611) (by decide +kernel), List.mem_of_getElem? (i := 612) (by decide +kernel)⟩
theorem G33 : Gam[33]? = some (.inl (.int, 6)) := rfl
theorem fk_B_43 : fok "TakerBook$Band" 43 1 4 := ⟨(R_B, F_B, 19), rfl, by decide, List.mem_of_getElem? (i := 185) (by decide +kernel), rfl⟩
theorem G30 : Gam[30]? = some (.inl (.int, 6)) := rfl
theorem pk_B_left : pok 1 14 .int := ⟨(R_B, F_B, 19), rfl, rfl, by decide +kernel⟩
theorem fk_B_98 : fok "TakerBook$Band" 98 1 15 := ⟨(R_B, F_B, 19), rfl, by decide, List.mem_of_getElem? (i := 210) (by decide +kernel), rfl⟩
theorem pk_B_weeks : pok 1 15 .int := ⟨(R_B, F_B, 19), rfl, rfl, by decide +kernel⟩
theorem fk_B_101 : fok "TakerBook$Band" 101 1 16 := ⟨(R_B, F_B, 19), rfl, by decide, List.mem_of_getElem? (i := 212) (by decide +kernel), rfl⟩
theorem pk_B_money : pok 1 16 .int := ⟨(R_B, F_B, 19), rfl, rfl, by decide +kernel⟩
theorem fk_B_104 : fok "TakerBook$Band" 104 1 17 := ⟨(R_B, F_B, 19), rfl, by decide, List.mem_of_getElem? (i := 215) (by decide +kernel), rfl⟩
theorem pk_B_stock : pok 1 17 .int := ⟨(R_B, F_B, 19), rfl, rfl, by decide +kernel⟩
theorem fk_B_107 : fok "TakerBook$Band" 107 1 18 := ⟨(R_B, F_B, 19), rfl, by decide, List.mem_of_getElem? (i := 217) (by decide +kernel), rfl⟩
theorem pk_B_tried : pok 1 18 .boolean := ⟨(R_B, F_B, 19), rfl, rfl, by decide +kernel⟩
theorem st_B_144 : siteV "TakerBook$Band" 144 ⟨"TakerBook$Band", "lootOfAll", "(I)I"⟩ := ⟨List.mem_of_getElem? (i := 670) (by decide +kernel), List.mem_of_getElem? (i := 671) (by decide +kernel), List.mem_of_getElem? (i := 672) (by decide +kernel)⟩
theorem fk_B_68 : fok "TakerBook$Band" 68 1 10 := ⟨(R_B, F_B, 19), rfl, by decide, List.mem_of_getElem? (i := 198) (by decide +kernel), rfl⟩
theorem st_B_147 : siteV "TakerBook$Band" 147 ⟨"TakerBook$Band", "talksWith", "(III)Z"⟩ := ⟨List.mem_of_getElem? (i := 580) (by decide +kernel), List.mem_of_getElem? (i := 581) (by decide +kernel), List.mem_of_getElem? (i := 582) (by decide +kernel)⟩
theorem st_B_156 : siteS "TakerBook$Band" 156 ⟨"TakerBook$Band", "power", "(II)J"⟩ := ⟨List.mem_of_getElem? (i := 911) (by decide +kernel), List.mem_of_getElem? (i := 912) (by decide +kernel)⟩
abbrev b_B_isOfLeft : ByteArray := prog_2_method_5_code
abbrev y_B_isOfLeft : MethodName := ⟨"TakerBook$Band", "isOfLeft", "(I)Z"⟩
theorem d_B_isOfLeft_0 : decode b_B_isOfLeft 0 = .ok (.iload_n 1, 1) := by decide +kernel
theorem d_B_isOfLeft_1 : decode b_B_isOfLeft 1 = .ok (.aload_n 0, 1) := by decide +kernel
theorem d_B_isOfLeft_2 : decode b_B_isOfLeft 2 = .ok (.getfield 95, 3) := by decide +kernel
theorem d_B_isOfLeft_5 : decode b_B_isOfLeft 5 = .ok (.iconst (-1), 1) := by decide +kernel
theorem d_B_isOfLeft_6 : decode b_B_isOfLeft 6 = .ok (.ixor, 1) := by decide +kernel
theorem d_B_isOfLeft_7 : decode b_B_isOfLeft 7 = .ok (.iand, 1) := by decide +kernel
theorem d_B_isOfLeft_8 : decode b_B_isOfLeft 8 = .ok (.ifCond .ne 7, 3) := by decide +kernel
theorem d_B_isOfLeft_11 : decode b_B_isOfLeft 11 = .ok (.iconst 1, 1) := by decide +kernel
theorem d_B_isOfLeft_12 : decode b_B_isOfLeft 12 = .ok (.goto 4, 3) := by decide +kernel
theorem d_B_isOfLeft_15 : decode b_B_isOfLeft 15 = .ok (.iconst 0, 1) := by decide +kernel
theorem d_B_isOfLeft_16 : decode b_B_isOfLeft 16 = .ok (.ireturn, 1) := by decide +kernel
theorem mo_B_isOfLeft : mok y_B_isOfLeft b_B_isOfLeft 2 (some .boolean) 1 := ⟨List.mem_of_getElem? (i := 729) (by decide +kernel), ⟨by decide +kernel, by decide +kernel, by decide +kernel⟩, List.mem_of_getElem? (i := 76) (by decide +kernel), by decide⟩
set_option maxHeartbeats 4000000 in
theorem c_B_isOfLeft (l : Launch) (u : Un) (hA : Ap u) (σ : St) {L : Nat} (hL : σ.1 19 14 = nI L) (hL64 : L < 64) (s : Nat) (hs : s < 64) : MTi l u y_B_isOfLeft b_B_isOfLeft 2 .boolean 0 [.ref (u.2.1 19), .int (nI s)] σ (fun ans σ' => bI (s &&& (63 ^^^ L) = 0) = ans ∧ σ = σ') := by
  refine MT_of hA rfl (by decide) (Nat.le_of_ble_eq_true rfl) (fun X hl F hr => ?_)
  subst hl
  refine v_to (ls' := [(0, .ref (u.2.1 19)), (1, .int (nI s))]) rfl ?_
  have hsL : s &&& (63 ^^^ L) < 64 := and_lt hs
  refine v_iload_n F d_B_isOfLeft_0 rfl 1 rfl ?_
  refine v_aload_n F d_B_isOfLeft_1 rfl 0 rfl ?_
  refine v_geti F fk_B_95 G19 rfl d_B_isOfLeft_2 ?_
  refine v_te (y := nI L) hL ?_
  refine v_iconst (v := (-1)) F d_B_isOfLeft_5 ki_m1 ?_
  refine v_ixor F d_B_isOfLeft_6 ?_
  refine v_iand F d_B_isOfLeft_7 ?_
  refine v_te (y := nI (s &&& (63 ^^^ L))) (sub6 hs hL64) ?_
  refine v_if_ne F 15 d_B_isOfLeft_8 rfl (fun h8 => ?_) (fun h8 => ?_)
  · skip
    have h8 : ¬ s &&& (63 ^^^ L) = 0 := fun q => h8 ((nI_eq (a := s &&& (63 ^^^ L)) (b := 0) (by omega) (by omega)).mpr q)
    refine v_iconst (v := 0) F d_B_isOfLeft_15 ki_0 ?_
    refine v_iret F hr rfl d_B_isOfLeft_16 ?_
    exact ⟨(bI_f (by first | (simp_all [inR]; done) | grind)), rfl⟩
  · skip
    have h8 : s &&& (63 ^^^ L) = 0 := (nI_eq (a := s &&& (63 ^^^ L)) (b := 0) (by omega) (by omega)).mp h8
    refine v_iconst (v := 1) F d_B_isOfLeft_11 ki_1 ?_
    refine v_goto F 16 d_B_isOfLeft_12 rfl ?_
    refine v_iret F hr rfl d_B_isOfLeft_16 ?_
    exact ⟨(bI_t (by first | (simp_all [inR]; done) | grind)), rfl⟩
abbrev b_B_canBeCrossed : ByteArray := prog_2_method_6_code
abbrev y_B_canBeCrossed : MethodName := ⟨"TakerBook$Band", "canBeCrossed", "(I)Z"⟩
theorem d_B_canBeCrossed_0 : decode b_B_canBeCrossed 0 = .ok (.iload_n 1, 1) := by decide +kernel
theorem d_B_canBeCrossed_1 : decode b_B_canBeCrossed 1 = .ok (.aload_n 0, 1) := by decide +kernel
theorem d_B_canBeCrossed_2 : decode b_B_canBeCrossed 2 = .ok (.getfield 95, 3) := by decide +kernel
theorem d_B_canBeCrossed_5 : decode b_B_canBeCrossed 5 = .ok (.invokestatic 111, 3) := by decide +kernel
theorem d_B_canBeCrossed_8 : decode b_B_canBeCrossed 8 = .ok (.ifCond .eq 17, 3) := by decide +kernel
theorem d_B_canBeCrossed_11 : decode b_B_canBeCrossed 11 = .ok (.aload_n 0, 1) := by decide +kernel
theorem d_B_canBeCrossed_12 : decode b_B_canBeCrossed 12 = .ok (.getfield 46, 3) := by decide +kernel
theorem d_B_canBeCrossed_15 : decode b_B_canBeCrossed 15 = .ok (.iload_n 1, 1) := by decide +kernel
theorem d_B_canBeCrossed_16 : decode b_B_canBeCrossed 16 = .ok (.iaload, 1) := by decide +kernel
theorem d_B_canBeCrossed_17 : decode b_B_canBeCrossed 17 = .ok (.iconst 2, 1) := by decide +kernel
theorem d_B_canBeCrossed_18 : decode b_B_canBeCrossed 18 = .ok (.if_icmp .ge 7, 3) := by decide +kernel
theorem d_B_canBeCrossed_21 : decode b_B_canBeCrossed 21 = .ok (.iconst 1, 1) := by decide +kernel
theorem d_B_canBeCrossed_22 : decode b_B_canBeCrossed 22 = .ok (.goto 4, 3) := by decide +kernel
theorem d_B_canBeCrossed_25 : decode b_B_canBeCrossed 25 = .ok (.iconst 0, 1) := by decide +kernel
theorem d_B_canBeCrossed_26 : decode b_B_canBeCrossed 26 = .ok (.ireturn, 1) := by decide +kernel
theorem mo_B_canBeCrossed : mok y_B_canBeCrossed b_B_canBeCrossed 2 (some .boolean) 1 := ⟨List.mem_of_getElem? (i := 685) (by decide +kernel), ⟨by decide +kernel, by decide +kernel, by decide +kernel⟩, List.mem_of_getElem? (i := 76) (by decide +kernel), by decide⟩
set_option maxHeartbeats 4000000 in
theorem c_B_canBeCrossed (l : Launch) (u : Un) (hA : Ap u) (σ : St) {L : Nat} (hL : σ.1 19 14 = nI L) (hL64 : L < 64) (i : Nat) (hi : i < 6) : MTi l u y_B_canBeCrossed b_B_canBeCrossed 2 .boolean 1 [.ref (u.2.1 19), .int (nI i)] σ (fun ans σ' => bI (Nat.testBit L i = true ∧ σ.1 31 i < 2) = ans ∧ σ = σ') := by
  refine MT_of hA rfl (by decide) (Nat.le_of_ble_eq_true rfl) (fun X hl F hr => ?_)
  subst hl
  refine v_to (ls' := [(0, .ref (u.2.1 19)), (1, .int (nI i))]) rfl ?_
  refine v_iload_n F d_B_canBeCrossed_0 rfl 1 rfl ?_
  refine v_aload_n F d_B_canBeCrossed_1 rfl 0 rfl ?_
  refine v_geti F fk_B_95 G19 rfl d_B_canBeCrossed_2 ?_
  refine v_te (y := nI L) hL ?_
  refine v_runi (r_N F (c_T_isIn2 X.2.1 u hA σ i L (by omega) (by omega)) mo_T_isIn st_B_111 (by decide) rfl (Nat.le_of_ble_eq_true rfl) d_B_canBeCrossed_5) (fun r1 σ2 q3 => ?_)
  obtain ⟨rfl, rfl⟩ := q3
  refine v_bt F 25 d_B_canBeCrossed_8 rfl (fun h8 => ?_) (fun h8 => ?_)
  · skip
    refine v_iconst (v := 0) F d_B_canBeCrossed_25 ki_0 ?_
    refine v_iret F hr rfl d_B_canBeCrossed_26 ?_
    exact ⟨(bI_f (by first | (simp_all [inR]; done) | grind)), rfl⟩
  · skip
    refine v_aload_n F d_B_canBeCrossed_11 rfl 0 rfl ?_
    refine v_getr (r := 31) F fk_B_46 G19 rfl d_B_canBeCrossed_12 ?_
    refine v_iload_n F d_B_canBeCrossed_15 rfl 1 rfl ?_
    refine v_ial F i G31 rfl (by omega) d_B_canBeCrossed_16 ?_
    refine v_iconst (v := 2) F d_B_canBeCrossed_17 ki_2 ?_
    refine v_icmp_ge F 25 d_B_canBeCrossed_18 rfl (fun h18 => ?_) (fun h18 => ?_)
    · skip
      refine v_iconst (v := 0) F d_B_canBeCrossed_25 ki_0 ?_
      refine v_iret F hr rfl d_B_canBeCrossed_26 ?_
      exact ⟨(bI_f (by first | (simp_all [inR]; done) | grind)), rfl⟩
    · skip
      refine v_iconst (v := 1) F d_B_canBeCrossed_21 ki_1 ?_
      refine v_goto F 26 d_B_canBeCrossed_22 rfl ?_
      refine v_iret F hr rfl d_B_canBeCrossed_26 ?_
      exact ⟨(bI_t (by first | (simp_all [inR]; done) | grind)), rfl⟩
abbrev b_B_weigh : ByteArray := prog_2_method_15_code
abbrev y_B_weigh : MethodName := ⟨"TakerBook$Band", "weigh", "()V"⟩
theorem d_B_weigh_0 : decode b_B_weigh 0 = .ok (.iconst 0, 1) := by decide +kernel
theorem d_B_weigh_1 : decode b_B_weigh 1 = .ok (.istore_n 1, 1) := by decide +kernel
theorem d_B_weigh_2 : decode b_B_weigh 2 = .ok (.iload_n 1, 1) := by decide +kernel
theorem d_B_weigh_3 : decode b_B_weigh 3 = .ok (.aload_n 0, 1) := by decide +kernel
theorem d_B_weigh_4 : decode b_B_weigh 4 = .ok (.getfield 61, 3) := by decide +kernel
theorem d_B_weigh_7 : decode b_B_weigh 7 = .ok (.if_icmp .ge 35, 3) := by decide +kernel
theorem d_B_weigh_10 : decode b_B_weigh 10 = .ok (.aload_n 0, 1) := by decide +kernel
theorem d_B_weigh_11 : decode b_B_weigh 11 = .ok (.getfield 49, 3) := by decide +kernel
theorem d_B_weigh_14 : decode b_B_weigh 14 = .ok (.iload_n 1, 1) := by decide +kernel
theorem d_B_weigh_15 : decode b_B_weigh 15 = .ok (.aload_n 0, 1) := by decide +kernel
theorem d_B_weigh_16 : decode b_B_weigh 16 = .ok (.iload_n 1, 1) := by decide +kernel
theorem d_B_weigh_17 : decode b_B_weigh 17 = .ok (.aload_n 0, 1) := by decide +kernel
theorem d_B_weigh_18 : decode b_B_weigh 18 = .ok (.getfield 95, 3) := by decide +kernel
theorem d_B_weigh_21 : decode b_B_weigh 21 = .ok (.invokevirtual 135, 3) := by decide +kernel
theorem d_B_weigh_24 : decode b_B_weigh 24 = .ok (.iastore, 1) := by decide +kernel
theorem d_B_weigh_25 : decode b_B_weigh 25 = .ok (.aload_n 0, 1) := by decide +kernel
theorem d_B_weigh_26 : decode b_B_weigh 26 = .ok (.getfield 52, 3) := by decide +kernel
theorem d_B_weigh_29 : decode b_B_weigh 29 = .ok (.iload_n 1, 1) := by decide +kernel
theorem d_B_weigh_30 : decode b_B_weigh 30 = .ok (.aload_n 0, 1) := by decide +kernel
theorem d_B_weigh_31 : decode b_B_weigh 31 = .ok (.iload_n 1, 1) := by decide +kernel
theorem d_B_weigh_32 : decode b_B_weigh 32 = .ok (.invokevirtual 141, 3) := by decide +kernel
theorem d_B_weigh_35 : decode b_B_weigh 35 = .ok (.iastore, 1) := by decide +kernel
theorem d_B_weigh_36 : decode b_B_weigh 36 = .ok (.iinc 1 1, 3) := by decide +kernel
theorem d_B_weigh_39 : decode b_B_weigh 39 = .ok (.goto (-37), 3) := by decide +kernel
theorem d_B_weigh_42 : decode b_B_weigh 42 = .ok (.return_, 1) := by decide +kernel
theorem mo_B_weigh : mok y_B_weigh b_B_weigh 2 none 0 := ⟨List.mem_of_getElem? (i := 759) (by decide +kernel), ⟨by decide +kernel, by decide +kernel, by decide +kernel⟩, List.mem_of_getElem? (i := 76) (by decide +kernel), by decide⟩
set_option maxHeartbeats 4000000 in
theorem L_B_weigh_2 {X : FX} {u : Un} (hA : Ap u) {Q : State → Prop} (F : Fr X u "TakerBook$Band" b_B_weigh 2) {σ : St} {n G : Nat} {kd : Nat → Nat} (hb : bkOk σ n G kd) {L : Nat} (hL : σ.1 19 14 = nI L) (hL64 : L < 64) (k : V X u 6 2 Q 42 [(0, .ref (u.2.1 19)), (1, .int (nI n))] [] ((wgS σ (ltF kd (σ.1 28) G L) (fun i => priceS (kd i) (σ.1 19 9) (σ.1 31 i)) n))) : ∀ (nn i : Nat), i ≤ n → n - i < nn → V X u 6 2 Q 2 [(0, .ref (u.2.1 19)), (1, .int (nI i))] [] ((wgS σ (ltF kd (σ.1 28) G L) (fun i => priceS (kd i) (σ.1 19 9) (σ.1 31 i)) i)) := by
  intro nn
  induction nn with
  | zero =>
    intro i h1 h2
    exact absurd h2 (Nat.not_lt_zero _)
  | succ nn ih =>
    intro i hii hnn
    obtain ⟨hn, hn6, hG, hG64, hkd, hk6⟩ := id hb
    refine v_iload_n F d_B_weigh_2 rfl 1 rfl ?_
    refine v_aload_n F d_B_weigh_3 rfl 0 rfl ?_
    refine v_geti F fk_B_61 G19 rfl d_B_weigh_4 ?_
    refine v_te (y := nI n) (by simp_all [wgS_o, uI_o]) ?_
    refine v_icmp_ge F 42 d_B_weigh_7 rfl (fun h7 => ?_) (fun h7 => ?_)
    · skip
      have h7 : n ≤ i := (nI_leI (a := n) (b := i) (by omega) (by omega)).mp h7
      have he : i = n := by omega
      subst he
      exact k
    · skip
      have h7 : ¬ n ≤ i := fun q => h7 ((nI_leI (a := n) (b := i) (by omega) (by omega)).mpr q)
      refine v_aload_n F d_B_weigh_10 rfl 0 rfl ?_
      refine v_getr (r := 32) F fk_B_49 G19 rfl d_B_weigh_11 ?_
      refine v_iload_n F d_B_weigh_14 rfl 1 rfl ?_
      refine v_aload_n F d_B_weigh_15 rfl 0 rfl ?_
      refine v_iload_n F d_B_weigh_16 rfl 1 rfl ?_
      refine v_aload_n F d_B_weigh_17 rfl 0 rfl ?_
      refine v_geti F fk_B_95 G19 rfl d_B_weigh_18 ?_
      refine v_te (y := nI L) (by simp_all [wgS_o, uI_o]) ?_
      refine v_runi (r_V F (c_B_lootOf X.2.1 u hA (wgS σ (ltF kd (σ.1 28) G L) (fun i => priceS (kd i) (σ.1 19 9) (σ.1 31 i)) i) (bkOk_of hb (by simp_all [wgS_o, uI_o]) (by simp_all [wgS_o, uI_o]) (by simp_all [wgS_o, uI_o])) i L (by omega) (by omega)) mo_B_lootOf st_B_135 rc_19 (by decide) rfl (Nat.le_of_ble_eq_true rfl) d_B_weigh_21) (fun r1 σ2 q3 => ?_)
      obtain ⟨rfl, rfl⟩ := q3
      refine v_ias F i G32 rfl (by omega) d_B_weigh_24 ?_
      refine v_ns (fun σ4 eσ4 => ?_)
      refine v_aload_n F d_B_weigh_25 rfl 0 rfl ?_
      refine v_getr (r := 33) F fk_B_52 G19 rfl d_B_weigh_26 ?_
      refine v_iload_n F d_B_weigh_29 rfl 1 rfl ?_
      refine v_aload_n F d_B_weigh_30 rfl 0 rfl ?_
      refine v_iload_n F d_B_weigh_31 rfl 1 rfl ?_
      refine v_runi (r_V F (c_B_priceOf X.2.1 u hA σ4 (bkOk_of hb (by simp_all [wgS_o, uI_o]) (by simp_all [wgS_o, uI_o]) (by simp_all [wgS_o, uI_o])) i (by omega)) mo_B_priceOf st_B_141 rc_19 (by decide) rfl (Nat.le_of_ble_eq_true rfl) d_B_weigh_32) (fun r5 σ6 q7 => ?_)
      obtain ⟨rfl, rfl⟩ := q7
      refine v_ias F i G33 rfl (by omega) d_B_weigh_35 ?_
      refine v_ns (fun σ8 eσ8 => ?_)
      refine v_iinc (v := nI (i + 1)) (ls' := [(1, .int (nI (i + 1))), (0, .ref (u.2.1 19))]) F d_B_weigh_36 (j := 1) rfl (nI_inc _) (by decide) rfl ?_
      refine v_goto F 2 d_B_weigh_39 rfl ?_
      refine v_sub [1, 0] (ls' := [(0, .ref (u.2.1 19)), (1, .int (nI (i + 1)))]) rfl ?_
      refine v_st (show σ8 = (wgS σ (ltF kd (σ.1 28) G L) (fun i => priceS (kd i) (σ.1 19 9) (σ.1 31 i)) (i + 1)) from (by first | rfl | (simp_all [wgS, wgS_o, uI_o]; done))) ?_
      exact ih (i + 1) (by omega) (by omega)
set_option maxHeartbeats 4000000 in
theorem c_B_weigh (l : Launch) (u : Un) (hA : Ap u) (σ : St) {n G : Nat} {kd : Nat → Nat} (hb : bkOk σ n G kd) {L : Nat} (hL : σ.1 19 14 = nI L) (hL64 : L < 64) : MTv l u y_B_weigh b_B_weigh 2 6 [.ref (u.2.1 19)] σ (fun σ' => σ' = wgS σ (ltF kd (σ.1 28) G L) (fun i => priceS (kd i) (σ.1 19 9) (σ.1 31 i)) n) := by
  refine MT_of hA rfl (by decide) (Nat.le_of_ble_eq_true rfl) (fun X hl F hr => ?_)
  subst hl
  refine v_to (ls' := [(0, .ref (u.2.1 19))]) rfl ?_
  obtain ⟨hn, hn6, hG, hG64, hkd, hk6⟩ := id hb
  refine v_iconst (v := 0) F d_B_weigh_0 ki_0 ?_
  refine v_istore_n (ls' := [(1, .int 0), (0, .ref (u.2.1 19))]) F d_B_weigh_1 rfl (by decide) rfl ?_
  refine v_sub [1, 0] (ls' := [(0, .ref (u.2.1 19)), (1, .int 0)]) rfl ?_
  have g1 : 0 = (nI 0) := (by first | rfl | (simp_all [wgS, wgS_o, uI_o]; done))
  refine v_to (ls' := [(0, .ref (u.2.1 19)), (1, .int (nI 0))]) (by first | rfl | rw [g1] | simp_all) ?_
  refine v_st (show σ = (wgS σ (ltF kd (σ.1 28) G L) (fun i => priceS (kd i) (σ.1 19 9) (σ.1 31 i)) 0) from (by first | rfl | (simp_all [wgS, wgS_o, uI_o]; done))) ?_
  refine L_B_weigh_2 hA F hb hL hL64 ?_ _ 0 (Nat.zero_le _) (Nat.lt_succ_self _)
  refine v_vret F hr d_B_weigh_42 ?_
  rfl
abbrev b_B_restart : ByteArray := prog_2_method_3_code
abbrev y_B_restart : MethodName := ⟨"TakerBook$Band", "restart", "()V"⟩
theorem d_B_restart_0 : decode b_B_restart 0 = .ok (.iconst 0, 1) := by decide +kernel
theorem d_B_restart_1 : decode b_B_restart 1 = .ok (.istore_n 1, 1) := by decide +kernel
theorem d_B_restart_2 : decode b_B_restart 2 = .ok (.iload_n 1, 1) := by decide +kernel
theorem d_B_restart_3 : decode b_B_restart 3 = .ok (.aload_n 0, 1) := by decide +kernel
theorem d_B_restart_4 : decode b_B_restart 4 = .ok (.getfield 61, 3) := by decide +kernel
theorem d_B_restart_7 : decode b_B_restart 7 = .ok (.if_icmp .ge 21, 3) := by decide +kernel
theorem d_B_restart_10 : decode b_B_restart 10 = .ok (.aload_n 0, 1) := by decide +kernel
theorem d_B_restart_11 : decode b_B_restart 11 = .ok (.getfield 46, 3) := by decide +kernel
theorem d_B_restart_14 : decode b_B_restart 14 = .ok (.iload_n 1, 1) := by decide +kernel
theorem d_B_restart_15 : decode b_B_restart 15 = .ok (.aload_n 0, 1) := by decide +kernel
theorem d_B_restart_16 : decode b_B_restart 16 = .ok (.getfield 43, 3) := by decide +kernel
theorem d_B_restart_19 : decode b_B_restart 19 = .ok (.iload_n 1, 1) := by decide +kernel
theorem d_B_restart_20 : decode b_B_restart 20 = .ok (.iaload, 1) := by decide +kernel
theorem d_B_restart_21 : decode b_B_restart 21 = .ok (.iastore, 1) := by decide +kernel
theorem d_B_restart_22 : decode b_B_restart 22 = .ok (.iinc 1 1, 3) := by decide +kernel
theorem d_B_restart_25 : decode b_B_restart 25 = .ok (.goto (-23), 3) := by decide +kernel
theorem d_B_restart_28 : decode b_B_restart 28 = .ok (.aload_n 0, 1) := by decide +kernel
theorem d_B_restart_29 : decode b_B_restart 29 = .ok (.iconst 1, 1) := by decide +kernel
theorem d_B_restart_30 : decode b_B_restart 30 = .ok (.aload_n 0, 1) := by decide +kernel
theorem d_B_restart_31 : decode b_B_restart 31 = .ok (.getfield 61, 3) := by decide +kernel
theorem d_B_restart_34 : decode b_B_restart 34 = .ok (.ishl, 1) := by decide +kernel
theorem d_B_restart_35 : decode b_B_restart 35 = .ok (.iconst 1, 1) := by decide +kernel
theorem d_B_restart_36 : decode b_B_restart 36 = .ok (.isub, 1) := by decide +kernel
theorem d_B_restart_37 : decode b_B_restart 37 = .ok (.putfield 95, 3) := by decide +kernel
theorem d_B_restart_40 : decode b_B_restart 40 = .ok (.aload_n 0, 1) := by decide +kernel
theorem d_B_restart_41 : decode b_B_restart 41 = .ok (.iconst 0, 1) := by decide +kernel
theorem d_B_restart_42 : decode b_B_restart 42 = .ok (.putfield 98, 3) := by decide +kernel
theorem d_B_restart_45 : decode b_B_restart 45 = .ok (.aload_n 0, 1) := by decide +kernel
theorem d_B_restart_46 : decode b_B_restart 46 = .ok (.iconst 0, 1) := by decide +kernel
theorem d_B_restart_47 : decode b_B_restart 47 = .ok (.putfield 101, 3) := by decide +kernel
theorem d_B_restart_50 : decode b_B_restart 50 = .ok (.aload_n 0, 1) := by decide +kernel
theorem d_B_restart_51 : decode b_B_restart 51 = .ok (.iconst 0, 1) := by decide +kernel
theorem d_B_restart_52 : decode b_B_restart 52 = .ok (.putfield 104, 3) := by decide +kernel
theorem d_B_restart_55 : decode b_B_restart 55 = .ok (.aload_n 0, 1) := by decide +kernel
theorem d_B_restart_56 : decode b_B_restart 56 = .ok (.iconst 0, 1) := by decide +kernel
theorem d_B_restart_57 : decode b_B_restart 57 = .ok (.putfield 107, 3) := by decide +kernel
theorem d_B_restart_60 : decode b_B_restart 60 = .ok (.return_, 1) := by decide +kernel
theorem mo_B_restart : mok y_B_restart b_B_restart 2 none 0 := ⟨List.mem_of_getElem? (i := 534) (by decide +kernel), ⟨by decide +kernel, by decide +kernel, by decide +kernel⟩, List.mem_of_getElem? (i := 76) (by decide +kernel), by decide⟩
set_option maxHeartbeats 4000000 in
theorem L_B_restart_2 {X : FX} {u : Un} (hA : Ap u) {Q : State → Prop} (F : Fr X u "TakerBook$Band" b_B_restart 2) {σ : St} {n : Nat} (hn : σ.1 19 8 = nI n) (hn6 : n ≤ 6) (k : V X u 0 2 Q 28 [(0, .ref (u.2.1 19)), (1, .int (nI n))] [] ((cpF σ 31 0 (σ.1 30) n))) : ∀ (nn i : Nat), i ≤ n → n - i < nn → V X u 0 2 Q 2 [(0, .ref (u.2.1 19)), (1, .int (nI i))] [] ((cpF σ 31 0 (σ.1 30) i)) := by
  intro nn
  induction nn with
  | zero =>
    intro i h1 h2
    exact absurd h2 (Nat.not_lt_zero _)
  | succ nn ih =>
    intro i hii hnn
    refine v_iload_n F d_B_restart_2 rfl 1 rfl ?_
    refine v_aload_n F d_B_restart_3 rfl 0 rfl ?_
    refine v_geti F fk_B_61 G19 rfl d_B_restart_4 ?_
    refine v_te (y := nI n) (by rw [cpF_other _ _ _ _ (by decide)]; exact hn) ?_
    refine v_icmp_ge F 28 d_B_restart_7 rfl (fun h7 => ?_) (fun h7 => ?_)
    · skip
      have h7 : n ≤ i := (nI_leI (a := n) (b := i) (by omega) (by omega)).mp h7
      have he : i = n := by omega
      subst he
      exact k
    · skip
      have h7 : ¬ n ≤ i := fun q => h7 ((nI_leI (a := n) (b := i) (by omega) (by omega)).mpr q)
      refine v_aload_n F d_B_restart_10 rfl 0 rfl ?_
      refine v_getr (r := 31) F fk_B_46 G19 rfl d_B_restart_11 ?_
      refine v_iload_n F d_B_restart_14 rfl 1 rfl ?_
      refine v_aload_n F d_B_restart_15 rfl 0 rfl ?_
      refine v_getr (r := 30) F fk_B_43 G19 rfl d_B_restart_16 ?_
      refine v_iload_n F d_B_restart_19 rfl 1 rfl ?_
      refine v_ial F i G30 rfl (by omega) d_B_restart_20 ?_
      refine v_ias F i G31 rfl (by omega) d_B_restart_21 ?_
      refine v_ns (fun σ1 eσ1 => ?_)
      refine v_iinc (v := nI (i + 1)) (ls' := [(1, .int (nI (i + 1))), (0, .ref (u.2.1 19))]) F d_B_restart_22 (j := 1) rfl (nI_inc _) (by decide) rfl ?_
      refine v_goto F 2 d_B_restart_25 rfl ?_
      refine v_sub [1, 0] (ls' := [(0, .ref (u.2.1 19)), (1, .int (nI (i + 1)))]) rfl ?_
      refine v_st (show σ1 = (cpF σ 31 0 (σ.1 30) (i + 1)) from (by first | rfl | (simp [cpF, cpF_other, *]; done) | (simp_all [cpF, cpF_other]; done) | grind [cpF, cpF_other])) ?_
      exact ih (i + 1) (by omega) (by omega)
set_option maxHeartbeats 4000000 in
theorem c_B_restart (l : Launch) (u : Un) (hA : Ap u) (σ : St) {n : Nat} (hn : σ.1 19 8 = nI n) (hn6 : n ≤ 6) : MTv l u y_B_restart b_B_restart 2 0 [.ref (u.2.1 19)] σ (fun σ' => σ' = rsS σ n) := by
  refine MT_of hA rfl (by decide) (Nat.le_of_ble_eq_true rfl) (fun X hl F hr => ?_)
  subst hl
  refine v_to (ls' := [(0, .ref (u.2.1 19))]) rfl ?_
  refine v_iconst (v := 0) F d_B_restart_0 ki_0 ?_
  refine v_istore_n (ls' := [(1, .int 0), (0, .ref (u.2.1 19))]) F d_B_restart_1 rfl (by decide) rfl ?_
  refine v_sub [1, 0] (ls' := [(0, .ref (u.2.1 19)), (1, .int 0)]) rfl ?_
  have g1 : 0 = (nI 0) := (by first | rfl | (simp [cpF, cpF_other, *]; done) | (simp_all [cpF, cpF_other]; done) | grind [cpF, cpF_other])
  refine v_to (ls' := [(0, .ref (u.2.1 19)), (1, .int (nI 0))]) (by first | rfl | rw [g1] | simp_all) ?_
  refine v_st (show σ = (cpF σ 31 0 (σ.1 30) 0) from (by first | rfl | (simp [cpF, cpF_other, *]; done) | (simp_all [cpF, cpF_other]; done) | grind [cpF, cpF_other])) ?_
  refine L_B_restart_2 hA F hn hn6 ?_ _ 0 (Nat.zero_le _) (Nat.lt_succ_self _)
  refine v_aload_n F d_B_restart_28 rfl 0 rfl ?_
  refine v_iconst (v := 1) F d_B_restart_29 ki_1 ?_
  refine v_aload_n F d_B_restart_30 rfl 0 rfl ?_
  refine v_geti F fk_B_61 G19 rfl d_B_restart_31 ?_
  refine v_te (y := nI n) (by rw [cpF_other _ _ _ _ (by decide)]; exact hn) ?_
  refine v_ishl F d_B_restart_34 ?_
  refine v_te (y := nI (2 ^ n)) (bit6 _ (by omega)) ?_
  refine v_iconst (v := 1) F d_B_restart_35 ki_1 ?_
  refine v_isub F d_B_restart_36 ?_
  refine v_te (y := nI (2 ^ n - 1)) (nI_pred1 (p2_pos n)) ?_
  refine v_puti F fk_B_95 pk_B_left G19 rfl d_B_restart_37 ?_
  refine v_ns (fun σ2 eσ2 => ?_)
  refine v_aload_n F d_B_restart_40 rfl 0 rfl ?_
  refine v_iconst (v := 0) F d_B_restart_41 ki_0 ?_
  refine v_puti F fk_B_98 pk_B_weeks G19 rfl d_B_restart_42 ?_
  refine v_ns (fun σ3 eσ3 => ?_)
  refine v_aload_n F d_B_restart_45 rfl 0 rfl ?_
  refine v_iconst (v := 0) F d_B_restart_46 ki_0 ?_
  refine v_puti F fk_B_101 pk_B_money G19 rfl d_B_restart_47 ?_
  refine v_ns (fun σ4 eσ4 => ?_)
  refine v_aload_n F d_B_restart_50 rfl 0 rfl ?_
  refine v_iconst (v := 0) F d_B_restart_51 ki_0 ?_
  refine v_puti F fk_B_104 pk_B_stock G19 rfl d_B_restart_52 ?_
  refine v_ns (fun σ5 eσ5 => ?_)
  refine v_aload_n F d_B_restart_55 rfl 0 rfl ?_
  refine v_iconst (v := 0) F d_B_restart_56 ki_0 ?_
  refine v_putz F fk_B_107 pk_B_tried G19 rfl rfl rfl  d_B_restart_57 ?_
  refine v_ns (fun σ6 eσ6 => ?_)
  refine v_vret F hr d_B_restart_60 ?_
  simp [rsS, *]
abbrev b_B_enact : ByteArray := prog_2_method_16_code
abbrev y_B_enact : MethodName := ⟨"TakerBook$Band", "enact", "(II)V"⟩
theorem d_B_enact_0 : decode b_B_enact 0 = .ok (.iload_n 1, 1) := by decide +kernel
theorem d_B_enact_1 : decode b_B_enact 1 = .ok (.tableswitch 136 0 2 #[27, 95, 123], 27) := by decide +kernel
theorem d_B_enact_28 : decode b_B_enact 28 = .ok (.aload_n 0, 1) := by decide +kernel
theorem d_B_enact_29 : decode b_B_enact 29 = .ok (.dup, 1) := by decide +kernel
theorem d_B_enact_30 : decode b_B_enact 30 = .ok (.getfield 98, 3) := by decide +kernel
theorem d_B_enact_33 : decode b_B_enact 33 = .ok (.iconst 1, 1) := by decide +kernel
theorem d_B_enact_34 : decode b_B_enact 34 = .ok (.iadd, 1) := by decide +kernel
theorem d_B_enact_35 : decode b_B_enact 35 = .ok (.putfield 98, 3) := by decide +kernel
theorem d_B_enact_38 : decode b_B_enact 38 = .ok (.aload_n 0, 1) := by decide +kernel
theorem d_B_enact_39 : decode b_B_enact 39 = .ok (.aload_n 0, 1) := by decide +kernel
theorem d_B_enact_40 : decode b_B_enact 40 = .ok (.aload_n 0, 1) := by decide +kernel
theorem d_B_enact_41 : decode b_B_enact 41 = .ok (.getfield 95, 3) := by decide +kernel
theorem d_B_enact_44 : decode b_B_enact 44 = .ok (.invokevirtual 138, 3) := by decide +kernel
theorem d_B_enact_47 : decode b_B_enact 47 = .ok (.invokestatic 115, 3) := by decide +kernel
theorem d_B_enact_50 : decode b_B_enact 50 = .ok (.aload_n 0, 1) := by decide +kernel
theorem d_B_enact_51 : decode b_B_enact 51 = .ok (.getfield 74, 3) := by decide +kernel
theorem d_B_enact_54 : decode b_B_enact 54 = .ok (.if_icmp .lt 7, 3) := by decide +kernel
theorem d_B_enact_57 : decode b_B_enact 57 = .ok (.iconst 1, 1) := by decide +kernel
theorem d_B_enact_58 : decode b_B_enact 58 = .ok (.goto 4, 3) := by decide +kernel
theorem d_B_enact_61 : decode b_B_enact 61 = .ok (.iconst 0, 1) := by decide +kernel
theorem d_B_enact_62 : decode b_B_enact 62 = .ok (.putfield 107, 3) := by decide +kernel
theorem d_B_enact_65 : decode b_B_enact 65 = .ok (.aload_n 0, 1) := by decide +kernel
theorem d_B_enact_66 : decode b_B_enact 66 = .ok (.dup, 1) := by decide +kernel
theorem d_B_enact_67 : decode b_B_enact 67 = .ok (.getfield 104, 3) := by decide +kernel
theorem d_B_enact_70 : decode b_B_enact 70 = .ok (.aload_n 0, 1) := by decide +kernel
theorem d_B_enact_71 : decode b_B_enact 71 = .ok (.getfield 107, 3) := by decide +kernel
theorem d_B_enact_74 : decode b_B_enact 74 = .ok (.ifCond .eq 7, 3) := by decide +kernel
theorem d_B_enact_77 : decode b_B_enact 77 = .ok (.iconst 0, 1) := by decide +kernel
theorem d_B_enact_78 : decode b_B_enact 78 = .ok (.goto 11, 3) := by decide +kernel
theorem d_B_enact_81 : decode b_B_enact 81 = .ok (.aload_n 0, 1) := by decide +kernel
theorem d_B_enact_82 : decode b_B_enact 82 = .ok (.aload_n 0, 1) := by decide +kernel
theorem d_B_enact_83 : decode b_B_enact 83 = .ok (.getfield 95, 3) := by decide +kernel
theorem d_B_enact_86 : decode b_B_enact 86 = .ok (.invokevirtual 144, 3) := by decide +kernel
theorem d_B_enact_89 : decode b_B_enact 89 = .ok (.iadd, 1) := by decide +kernel
theorem d_B_enact_90 : decode b_B_enact 90 = .ok (.putfield 104, 3) := by decide +kernel
theorem d_B_enact_93 : decode b_B_enact 93 = .ok (.goto 72, 3) := by decide +kernel
theorem d_B_enact_96 : decode b_B_enact 96 = .ok (.aload_n 0, 1) := by decide +kernel
theorem d_B_enact_97 : decode b_B_enact 97 = .ok (.dup, 1) := by decide +kernel
theorem d_B_enact_98 : decode b_B_enact 98 = .ok (.getfield 104, 3) := by decide +kernel
theorem d_B_enact_101 : decode b_B_enact 101 = .ok (.iload_n 2, 1) := by decide +kernel
theorem d_B_enact_102 : decode b_B_enact 102 = .ok (.isub, 1) := by decide +kernel
theorem d_B_enact_103 : decode b_B_enact 103 = .ok (.putfield 104, 3) := by decide +kernel
theorem d_B_enact_106 : decode b_B_enact 106 = .ok (.aload_n 0, 1) := by decide +kernel
theorem d_B_enact_107 : decode b_B_enact 107 = .ok (.dup, 1) := by decide +kernel
theorem d_B_enact_108 : decode b_B_enact 108 = .ok (.getfield 101, 3) := by decide +kernel
theorem d_B_enact_111 : decode b_B_enact 111 = .ok (.iload_n 2, 1) := by decide +kernel
theorem d_B_enact_112 : decode b_B_enact 112 = .ok (.aload_n 0, 1) := by decide +kernel
theorem d_B_enact_113 : decode b_B_enact 113 = .ok (.getfield 68, 3) := by decide +kernel
theorem d_B_enact_116 : decode b_B_enact 116 = .ok (.imul, 1) := by decide +kernel
theorem d_B_enact_117 : decode b_B_enact 117 = .ok (.iadd, 1) := by decide +kernel
theorem d_B_enact_118 : decode b_B_enact 118 = .ok (.putfield 101, 3) := by decide +kernel
theorem d_B_enact_121 : decode b_B_enact 121 = .ok (.goto 44, 3) := by decide +kernel
theorem d_B_enact_124 : decode b_B_enact 124 = .ok (.aload_n 0, 1) := by decide +kernel
theorem d_B_enact_125 : decode b_B_enact 125 = .ok (.getfield 46, 3) := by decide +kernel
theorem d_B_enact_128 : decode b_B_enact 128 = .ok (.iload_n 2, 1) := by decide +kernel
theorem d_B_enact_129 : decode b_B_enact 129 = .ok (.dup2, 1) := by decide +kernel
theorem d_B_enact_130 : decode b_B_enact 130 = .ok (.iaload, 1) := by decide +kernel
theorem d_B_enact_131 : decode b_B_enact 131 = .ok (.iconst 1, 1) := by decide +kernel
theorem d_B_enact_132 : decode b_B_enact 132 = .ok (.iadd, 1) := by decide +kernel
theorem d_B_enact_133 : decode b_B_enact 133 = .ok (.iastore, 1) := by decide +kernel
theorem d_B_enact_134 : decode b_B_enact 134 = .ok (.goto 31, 3) := by decide +kernel
theorem d_B_enact_137 : decode b_B_enact 137 = .ok (.aload_n 0, 1) := by decide +kernel
theorem d_B_enact_138 : decode b_B_enact 138 = .ok (.dup, 1) := by decide +kernel
theorem d_B_enact_139 : decode b_B_enact 139 = .ok (.getfield 101, 3) := by decide +kernel
theorem d_B_enact_142 : decode b_B_enact 142 = .ok (.aload_n 0, 1) := by decide +kernel
theorem d_B_enact_143 : decode b_B_enact 143 = .ok (.iload_n 2, 1) := by decide +kernel
theorem d_B_enact_144 : decode b_B_enact 144 = .ok (.invokevirtual 141, 3) := by decide +kernel
theorem d_B_enact_147 : decode b_B_enact 147 = .ok (.iadd, 1) := by decide +kernel
theorem d_B_enact_148 : decode b_B_enact 148 = .ok (.putfield 101, 3) := by decide +kernel
theorem d_B_enact_151 : decode b_B_enact 151 = .ok (.aload_n 0, 1) := by decide +kernel
theorem d_B_enact_152 : decode b_B_enact 152 = .ok (.dup, 1) := by decide +kernel
theorem d_B_enact_153 : decode b_B_enact 153 = .ok (.getfield 95, 3) := by decide +kernel
theorem d_B_enact_156 : decode b_B_enact 156 = .ok (.iconst 1, 1) := by decide +kernel
theorem d_B_enact_157 : decode b_B_enact 157 = .ok (.iload_n 2, 1) := by decide +kernel
theorem d_B_enact_158 : decode b_B_enact 158 = .ok (.ishl, 1) := by decide +kernel
theorem d_B_enact_159 : decode b_B_enact 159 = .ok (.iconst (-1), 1) := by decide +kernel
theorem d_B_enact_160 : decode b_B_enact 160 = .ok (.ixor, 1) := by decide +kernel
theorem d_B_enact_161 : decode b_B_enact 161 = .ok (.iand, 1) := by decide +kernel
theorem d_B_enact_162 : decode b_B_enact 162 = .ok (.putfield 95, 3) := by decide +kernel
theorem d_B_enact_165 : decode b_B_enact 165 = .ok (.return_, 1) := by decide +kernel
theorem mo_B_enact : mok y_B_enact b_B_enact 3 none 2 := ⟨List.mem_of_getElem? (i := 669) (by decide +kernel), ⟨by decide +kernel, by decide +kernel, by decide +kernel⟩, List.mem_of_getElem? (i := 76) (by decide +kernel), by decide⟩
set_option maxHeartbeats 4000000 in
theorem c_B_enact0 (l : Launch) (u : Un) (hA : Ap u) (σ : St) {n G : Nat} {kd : Nat → Nat} (hb : bkOk σ n G kd) {L : Nat} (hL : σ.1 19 14 = nI L) (hL64 : L < 64) (x : Int32) : MTv l u y_B_enact b_B_enact 3 7 [.ref (u.2.1 19), .int 0, .int x] σ (fun σ' => σ' = enW σ G kd n L) := by
  refine MT_of hA rfl (by decide) (Nat.le_of_ble_eq_true rfl) (fun X hl F hr => ?_)
  subst hl
  refine v_to (ls' := [(0, .ref (u.2.1 19)), (1, .int 0), (2, .int x)]) rfl ?_
  obtain ⟨hn, hn6, hG, hG64, hkd, hk6⟩ := id hb
  refine v_iload_n F d_B_enact_0 rfl 1 rfl ?_
  refine v_tableIn (off := 27) F 28 d_B_enact_1 (by decide) (by decide) (by decide) rfl ?_
  refine v_aload_n F d_B_enact_28 rfl 0 rfl ?_
  refine v_dup F d_B_enact_29 rfl ?_
  refine v_geti F fk_B_98 G19 rfl d_B_enact_30 ?_
  refine v_iconst (v := 1) F d_B_enact_33 ki_1 ?_
  refine v_iadd F d_B_enact_34 ?_
  refine v_puti F fk_B_98 pk_B_weeks G19 rfl d_B_enact_35 ?_
  refine v_ns (fun σ1 eσ1 => ?_)
  have hb1 : bkOk σ1 n G kd := bkOk_of hb (by simp_all [uI, upd]) (by simp_all [uI, upd]) (by simp_all [uI, upd])
  have hL1 : σ1.1 19 14 = nI L := by simp_all [uI, upd]
  refine v_aload_n F d_B_enact_38 rfl 0 rfl ?_
  refine v_aload_n F d_B_enact_39 rfl 0 rfl ?_
  refine v_aload_n F d_B_enact_40 rfl 0 rfl ?_
  refine v_geti F fk_B_95 G19 rfl d_B_enact_41 ?_
  refine v_te (y := nI L) hL1 ?_
  refine v_runi (r_V F (c_B_talkers X.2.1 u hA σ1 hb1 L (by omega)) mo_B_talkers st_B_138 rc_19 (by decide) rfl (Nat.le_of_ble_eq_true rfl) d_B_enact_44) (fun r2 σ3 q4 => ?_)
  obtain ⟨rfl, rfl⟩ := q4
  refine v_runi (r_S F (c_I_bitCount X.2.1 u hA σ1 (mkN (tkS σ1 G kd L) n) (mkN_64 _ hn6)) mo_I_bitCount st_B_115 (by decide) rfl (Nat.le_of_ble_eq_true rfl) d_B_enact_47) (fun r5 σ6 q7 => ?_)
  obtain ⟨rfl, rfl⟩ := q7
  refine v_aload_n F d_B_enact_50 rfl 0 rfl ?_
  refine v_geti F fk_B_74 G19 rfl d_B_enact_51 ?_
  refine v_icmp_lt F 61 d_B_enact_54 rfl (fun h54 => ?_) (fun h54 => ?_)
  · skip
    refine v_iconst (v := 0) F d_B_enact_61 ki_0 ?_
    refine v_putz F fk_B_107 pk_B_tried G19 rfl rfl rfl  d_B_enact_62 ?_
    refine v_ns (fun σ8 eσ8 => ?_)
    refine v_aload_n F d_B_enact_65 rfl 0 rfl ?_
    refine v_dup F d_B_enact_66 rfl ?_
    refine v_geti F fk_B_104 G19 rfl d_B_enact_67 ?_
    refine v_aload_n F d_B_enact_70 rfl 0 rfl ?_
    refine v_geti F fk_B_107 G19 rfl d_B_enact_71 ?_
    refine v_if_eq F 81 d_B_enact_74 rfl (fun h74 => ?_) (fun h74 => ?_)
    · skip
      have hb2 : bkOk σ8 n G kd := bkOk_of hb (by simp_all [uI, upd]) (by simp_all [uI, upd]) (by simp_all [uI, upd])
      have hL2 : σ8.1 19 14 = nI L := by simp_all [uI, upd]
      refine v_aload_n F d_B_enact_81 rfl 0 rfl ?_
      refine v_aload_n F d_B_enact_82 rfl 0 rfl ?_
      refine v_geti F fk_B_95 G19 rfl d_B_enact_83 ?_
      refine v_te (y := nI L) hL2 ?_
      refine v_runi (r_V F (c_B_lootOfAll X.2.1 u hA σ8 hb2 L (by omega)) mo_B_lootOfAll st_B_144 rc_19 (by decide) rfl (Nat.le_of_ble_eq_true rfl) d_B_enact_86) (fun r9 σ10 q11 => ?_)
      obtain ⟨rfl, rfl⟩ := q11
      refine v_iadd F d_B_enact_89 ?_
      refine v_puti F fk_B_104 pk_B_stock G19 rfl d_B_enact_90 ?_
      refine v_ns (fun σ12 eσ12 => ?_)
      refine v_goto F 165 d_B_enact_93 rfl ?_
      refine v_vret F hr d_B_enact_165 ?_
      have e5 : σ.1 19 12 ≤ nI (pcN (mkN (tkS σ G kd L) n)) ∨ ¬ σ.1 19 12 ≤ nI (pcN (mkN (tkS σ G kd L) n)) := Decidable.em _
      rcases e5 with e5 | e5
      · first | (rw [enW, if_pos e5, if_pos e5]; simp_all [uI, upd, tkS]; done) | (exfalso; simp_all [uI, upd, tkS]; grind)
      · first | (rw [enW, if_neg e5, if_neg e5]; simp_all [uI, upd, tkS]; done) | (exfalso; simp_all [uI, upd, tkS]; grind)
    · skip
      refine v_iconst (v := 0) F d_B_enact_77 ki_0 ?_
      refine v_goto F 89 d_B_enact_78 rfl ?_
      refine v_iadd F d_B_enact_89 ?_
      refine v_puti F fk_B_104 pk_B_stock G19 rfl d_B_enact_90 ?_
      refine v_ns (fun σ13 eσ13 => ?_)
      refine v_goto F 165 d_B_enact_93 rfl ?_
      refine v_vret F hr d_B_enact_165 ?_
      have e5 : σ.1 19 12 ≤ nI (pcN (mkN (tkS σ G kd L) n)) ∨ ¬ σ.1 19 12 ≤ nI (pcN (mkN (tkS σ G kd L) n)) := Decidable.em _
      rcases e5 with e5 | e5
      · first | (rw [enW, if_pos e5, if_pos e5]; simp_all [uI, upd, tkS]; done) | (exfalso; simp_all [uI, upd, tkS]; grind)
      · first | (rw [enW, if_neg e5, if_neg e5]; simp_all [uI, upd, tkS]; done) | (exfalso; simp_all [uI, upd, tkS]; grind)
  · skip
    refine v_iconst (v := 1) F d_B_enact_57 ki_1 ?_
    refine v_goto F 62 d_B_enact_58 rfl ?_
    refine v_putz F fk_B_107 pk_B_tried G19 rfl rfl rfl  d_B_enact_62 ?_
    refine v_ns (fun σ14 eσ14 => ?_)
    refine v_aload_n F d_B_enact_65 rfl 0 rfl ?_
    refine v_dup F d_B_enact_66 rfl ?_
    refine v_geti F fk_B_104 G19 rfl d_B_enact_67 ?_
    refine v_aload_n F d_B_enact_70 rfl 0 rfl ?_
    refine v_geti F fk_B_107 G19 rfl d_B_enact_71 ?_
    refine v_if_eq F 81 d_B_enact_74 rfl (fun h74 => ?_) (fun h74 => ?_)
    · skip
      have hb2 : bkOk σ14 n G kd := bkOk_of hb (by simp_all [uI, upd]) (by simp_all [uI, upd]) (by simp_all [uI, upd])
      have hL2 : σ14.1 19 14 = nI L := by simp_all [uI, upd]
      refine v_aload_n F d_B_enact_81 rfl 0 rfl ?_
      refine v_aload_n F d_B_enact_82 rfl 0 rfl ?_
      refine v_geti F fk_B_95 G19 rfl d_B_enact_83 ?_
      refine v_te (y := nI L) hL2 ?_
      refine v_runi (r_V F (c_B_lootOfAll X.2.1 u hA σ14 hb2 L (by omega)) mo_B_lootOfAll st_B_144 rc_19 (by decide) rfl (Nat.le_of_ble_eq_true rfl) d_B_enact_86) (fun r15 σ16 q17 => ?_)
      obtain ⟨rfl, rfl⟩ := q17
      refine v_iadd F d_B_enact_89 ?_
      refine v_puti F fk_B_104 pk_B_stock G19 rfl d_B_enact_90 ?_
      refine v_ns (fun σ18 eσ18 => ?_)
      refine v_goto F 165 d_B_enact_93 rfl ?_
      refine v_vret F hr d_B_enact_165 ?_
      have e5 : σ.1 19 12 ≤ nI (pcN (mkN (tkS σ G kd L) n)) ∨ ¬ σ.1 19 12 ≤ nI (pcN (mkN (tkS σ G kd L) n)) := Decidable.em _
      rcases e5 with e5 | e5
      · first | (rw [enW, if_pos e5, if_pos e5]; simp_all [uI, upd, tkS]; done) | (exfalso; simp_all [uI, upd, tkS]; grind)
      · first | (rw [enW, if_neg e5, if_neg e5]; simp_all [uI, upd, tkS]; done) | (exfalso; simp_all [uI, upd, tkS]; grind)
    · skip
      refine v_iconst (v := 0) F d_B_enact_77 ki_0 ?_
      refine v_goto F 89 d_B_enact_78 rfl ?_
      refine v_iadd F d_B_enact_89 ?_
      refine v_puti F fk_B_104 pk_B_stock G19 rfl d_B_enact_90 ?_
      refine v_ns (fun σ19 eσ19 => ?_)
      refine v_goto F 165 d_B_enact_93 rfl ?_
      refine v_vret F hr d_B_enact_165 ?_
      have e5 : σ.1 19 12 ≤ nI (pcN (mkN (tkS σ G kd L) n)) ∨ ¬ σ.1 19 12 ≤ nI (pcN (mkN (tkS σ G kd L) n)) := Decidable.em _
      rcases e5 with e5 | e5
      · first | (rw [enW, if_pos e5, if_pos e5]; simp_all [uI, upd, tkS]; done) | (exfalso; simp_all [uI, upd, tkS]; grind)
      · first | (rw [enW, if_neg e5, if_neg e5]; simp_all [uI, upd, tkS]; done) | (exfalso; simp_all [uI, upd, tkS]; grind)
set_option maxHeartbeats 4000000 in
theorem c_B_enact1 (l : Launch) (u : Un) (hA : Ap u) (σ : St) (x : Int32) : MTv l u y_B_enact b_B_enact 3 7 [.ref (u.2.1 19), .int 1, .int x] σ (fun σ' => σ' = enG σ x) := by
  refine MT_of hA rfl (by decide) (Nat.le_of_ble_eq_true rfl) (fun X hl F hr => ?_)
  subst hl
  refine v_to (ls' := [(0, .ref (u.2.1 19)), (1, .int 1), (2, .int x)]) rfl ?_
  refine v_iload_n F d_B_enact_0 rfl 1 rfl ?_
  refine v_tableIn (off := 95) F 96 d_B_enact_1 (by decide) (by decide) (by decide) rfl ?_
  refine v_aload_n F d_B_enact_96 rfl 0 rfl ?_
  refine v_dup F d_B_enact_97 rfl ?_
  refine v_geti F fk_B_104 G19 rfl d_B_enact_98 ?_
  refine v_iload_n F d_B_enact_101 rfl 2 rfl ?_
  refine v_isub F d_B_enact_102 ?_
  refine v_puti F fk_B_104 pk_B_stock G19 rfl d_B_enact_103 ?_
  refine v_ns (fun σ1 eσ1 => ?_)
  refine v_aload_n F d_B_enact_106 rfl 0 rfl ?_
  refine v_dup F d_B_enact_107 rfl ?_
  refine v_geti F fk_B_101 G19 rfl d_B_enact_108 ?_
  refine v_iload_n F d_B_enact_111 rfl 2 rfl ?_
  refine v_aload_n F d_B_enact_112 rfl 0 rfl ?_
  refine v_geti F fk_B_68 G19 rfl d_B_enact_113 ?_
  refine v_imul F d_B_enact_116 ?_
  refine v_iadd F d_B_enact_117 ?_
  refine v_puti F fk_B_101 pk_B_money G19 rfl d_B_enact_118 ?_
  refine v_ns (fun σ2 eσ2 => ?_)
  refine v_goto F 165 d_B_enact_121 rfl ?_
  refine v_vret F hr d_B_enact_165 ?_
  simp_all [enG, uI, upd]
set_option maxHeartbeats 4000000 in
theorem c_B_enact2 (l : Launch) (u : Un) (hA : Ap u) (σ : St) (i : Nat) (hi : i < 6) : MTv l u y_B_enact b_B_enact 3 7 [.ref (u.2.1 19), .int 2, .int (nI i)] σ (fun σ' => σ' = enC σ i) := by
  refine MT_of hA rfl (by decide) (Nat.le_of_ble_eq_true rfl) (fun X hl F hr => ?_)
  subst hl
  refine v_to (ls' := [(0, .ref (u.2.1 19)), (1, .int 2), (2, .int (nI i))]) rfl ?_
  refine v_iload_n F d_B_enact_0 rfl 1 rfl ?_
  refine v_tableIn (off := 123) F 124 d_B_enact_1 (by decide) (by decide) (by decide) rfl ?_
  refine v_aload_n F d_B_enact_124 rfl 0 rfl ?_
  refine v_getr (r := 31) F fk_B_46 G19 rfl d_B_enact_125 ?_
  refine v_iload_n F d_B_enact_128 rfl 2 rfl ?_
  refine v_dup2_11 F d_B_enact_129 rfl rfl ?_
  refine v_ial F i G31 rfl (by omega) d_B_enact_130 ?_
  refine v_iconst (v := 1) F d_B_enact_131 ki_1 ?_
  refine v_iadd F d_B_enact_132 ?_
  refine v_ias F i G31 rfl (by omega) d_B_enact_133 ?_
  refine v_ns (fun σ1 eσ1 => ?_)
  refine v_goto F 165 d_B_enact_134 rfl ?_
  refine v_vret F hr d_B_enact_165 ?_
  simp_all [enC]
set_option maxHeartbeats 4000000 in
theorem c_B_enact3 (l : Launch) (u : Un) (hA : Ap u) (σ : St) {n G : Nat} {kd : Nat → Nat} (hb : bkOk σ n G kd) {L : Nat} (hL : σ.1 19 14 = nI L) (hL64 : L < 64) (i : Nat) (hi : i < n) : MTv l u y_B_enact b_B_enact 3 7 [.ref (u.2.1 19), .int 3, .int (nI i)] σ (fun σ' => σ' = enH σ kd i L) := by
  refine MT_of hA rfl (by decide) (Nat.le_of_ble_eq_true rfl) (fun X hl F hr => ?_)
  subst hl
  refine v_to (ls' := [(0, .ref (u.2.1 19)), (1, .int 3), (2, .int (nI i))]) rfl ?_
  obtain ⟨hn, hn6, hG, hG64, hkd, hk6⟩ := id hb
  refine v_iload_n F d_B_enact_0 rfl 1 rfl ?_
  refine v_tableOut F 137 d_B_enact_1 (by decide) rfl ?_
  refine v_aload_n F d_B_enact_137 rfl 0 rfl ?_
  refine v_dup F d_B_enact_138 rfl ?_
  refine v_geti F fk_B_101 G19 rfl d_B_enact_139 ?_
  refine v_aload_n F d_B_enact_142 rfl 0 rfl ?_
  refine v_iload_n F d_B_enact_143 rfl 2 rfl ?_
  refine v_runi (r_V F (c_B_priceOf X.2.1 u hA σ hb i (by omega)) mo_B_priceOf st_B_141 rc_19 (by decide) rfl (Nat.le_of_ble_eq_true rfl) d_B_enact_144) (fun r1 σ2 q3 => ?_)
  obtain ⟨rfl, rfl⟩ := q3
  refine v_iadd F d_B_enact_147 ?_
  refine v_puti F fk_B_101 pk_B_money G19 rfl d_B_enact_148 ?_
  refine v_ns (fun σ4 eσ4 => ?_)
  refine v_aload_n F d_B_enact_151 rfl 0 rfl ?_
  refine v_dup F d_B_enact_152 rfl ?_
  refine v_geti F fk_B_95 G19 rfl d_B_enact_153 ?_
  refine v_te (y := nI L) (by simp_all [uI, upd]) ?_
  refine v_iconst (v := 1) F d_B_enact_156 ki_1 ?_
  refine v_iload_n F d_B_enact_157 rfl 2 rfl ?_
  refine v_ishl F d_B_enact_158 ?_
  refine v_iconst (v := (-1)) F d_B_enact_159 ki_m1 ?_
  refine v_ixor F d_B_enact_160 ?_
  refine v_iand F d_B_enact_161 ?_
  refine v_te (y := nI (L &&& (63 ^^^ 2 ^ i))) (mask6 _ hL64 _ (by omega)) ?_
  refine v_puti F fk_B_95 pk_B_left G19 rfl d_B_enact_162 ?_
  refine v_ns (fun σ5 eσ5 => ?_)
  refine v_vret F hr d_B_enact_165 ?_
  simp_all [enH, uI, upd]
abbrev b_B_tell : ByteArray := prog_2_method_17_code
abbrev y_B_tell : MethodName := ⟨"TakerBook$Band", "tell", "(II)I"⟩
theorem d_B_tell_0 : decode b_B_tell 0 = .ok (.iload_n 2, 1) := by decide +kernel
theorem d_B_tell_1 : decode b_B_tell 1 = .ok (.tableswitch 122 0 6 #[43, 50, 57, 64, 71, 81, 105], 43) := by decide +kernel
theorem d_B_tell_44 : decode b_B_tell 44 = .ok (.aload_n 0, 1) := by decide +kernel
theorem d_B_tell_45 : decode b_B_tell 45 = .ok (.getfield 33, 3) := by decide +kernel
theorem d_B_tell_48 : decode b_B_tell 48 = .ok (.iload_n 1, 1) := by decide +kernel
theorem d_B_tell_49 : decode b_B_tell 49 = .ok (.iaload, 1) := by decide +kernel
theorem d_B_tell_50 : decode b_B_tell 50 = .ok (.ireturn, 1) := by decide +kernel
theorem d_B_tell_51 : decode b_B_tell 51 = .ok (.aload_n 0, 1) := by decide +kernel
theorem d_B_tell_52 : decode b_B_tell 52 = .ok (.getfield 37, 3) := by decide +kernel
theorem d_B_tell_55 : decode b_B_tell 55 = .ok (.iload_n 1, 1) := by decide +kernel
theorem d_B_tell_56 : decode b_B_tell 56 = .ok (.iaload, 1) := by decide +kernel
theorem d_B_tell_57 : decode b_B_tell 57 = .ok (.ireturn, 1) := by decide +kernel
theorem d_B_tell_58 : decode b_B_tell 58 = .ok (.aload_n 0, 1) := by decide +kernel
theorem d_B_tell_59 : decode b_B_tell 59 = .ok (.getfield 40, 3) := by decide +kernel
theorem d_B_tell_62 : decode b_B_tell 62 = .ok (.iload_n 1, 1) := by decide +kernel
theorem d_B_tell_63 : decode b_B_tell 63 = .ok (.iaload, 1) := by decide +kernel
theorem d_B_tell_64 : decode b_B_tell 64 = .ok (.ireturn, 1) := by decide +kernel
theorem d_B_tell_65 : decode b_B_tell 65 = .ok (.aload_n 0, 1) := by decide +kernel
theorem d_B_tell_66 : decode b_B_tell 66 = .ok (.getfield 46, 3) := by decide +kernel
theorem d_B_tell_69 : decode b_B_tell 69 = .ok (.iload_n 1, 1) := by decide +kernel
theorem d_B_tell_70 : decode b_B_tell 70 = .ok (.iaload, 1) := by decide +kernel
theorem d_B_tell_71 : decode b_B_tell 71 = .ok (.ireturn, 1) := by decide +kernel
theorem d_B_tell_72 : decode b_B_tell 72 = .ok (.aload_n 0, 1) := by decide +kernel
theorem d_B_tell_73 : decode b_B_tell 73 = .ok (.iload_n 1, 1) := by decide +kernel
theorem d_B_tell_74 : decode b_B_tell 74 = .ok (.aload_n 0, 1) := by decide +kernel
theorem d_B_tell_75 : decode b_B_tell 75 = .ok (.getfield 95, 3) := by decide +kernel
theorem d_B_tell_78 : decode b_B_tell 78 = .ok (.invokevirtual 135, 3) := by decide +kernel
theorem d_B_tell_81 : decode b_B_tell 81 = .ok (.ireturn, 1) := by decide +kernel
theorem d_B_tell_82 : decode b_B_tell 82 = .ok (.aload_n 0, 1) := by decide +kernel
theorem d_B_tell_83 : decode b_B_tell 83 = .ok (.iload_n 1, 1) := by decide +kernel
theorem d_B_tell_84 : decode b_B_tell 84 = .ok (.aload_n 0, 1) := by decide +kernel
theorem d_B_tell_85 : decode b_B_tell 85 = .ok (.getfield 46, 3) := by decide +kernel
theorem d_B_tell_88 : decode b_B_tell 88 = .ok (.iload_n 1, 1) := by decide +kernel
theorem d_B_tell_89 : decode b_B_tell 89 = .ok (.iaload, 1) := by decide +kernel
theorem d_B_tell_90 : decode b_B_tell 90 = .ok (.aload_n 0, 1) := by decide +kernel
theorem d_B_tell_91 : decode b_B_tell 91 = .ok (.getfield 95, 3) := by decide +kernel
theorem d_B_tell_94 : decode b_B_tell 94 = .ok (.invokevirtual 147, 3) := by decide +kernel
theorem d_B_tell_97 : decode b_B_tell 97 = .ok (.ifCond .eq 7, 3) := by decide +kernel
theorem d_B_tell_100 : decode b_B_tell 100 = .ok (.iconst 1, 1) := by decide +kernel
theorem d_B_tell_101 : decode b_B_tell 101 = .ok (.goto 4, 3) := by decide +kernel
theorem d_B_tell_104 : decode b_B_tell 104 = .ok (.iconst 0, 1) := by decide +kernel
theorem d_B_tell_105 : decode b_B_tell 105 = .ok (.ireturn, 1) := by decide +kernel
theorem d_B_tell_106 : decode b_B_tell 106 = .ok (.iload_n 1, 1) := by decide +kernel
theorem d_B_tell_107 : decode b_B_tell 107 = .ok (.aload_n 0, 1) := by decide +kernel
theorem d_B_tell_108 : decode b_B_tell 108 = .ok (.getfield 95, 3) := by decide +kernel
theorem d_B_tell_111 : decode b_B_tell 111 = .ok (.invokestatic 111, 3) := by decide +kernel
theorem d_B_tell_114 : decode b_B_tell 114 = .ok (.ifCond .eq 7, 3) := by decide +kernel
theorem d_B_tell_117 : decode b_B_tell 117 = .ok (.iconst 1, 1) := by decide +kernel
theorem d_B_tell_118 : decode b_B_tell 118 = .ok (.goto 4, 3) := by decide +kernel
theorem d_B_tell_121 : decode b_B_tell 121 = .ok (.iconst 0, 1) := by decide +kernel
theorem d_B_tell_122 : decode b_B_tell 122 = .ok (.ireturn, 1) := by decide +kernel
theorem d_B_tell_123 : decode b_B_tell 123 = .ok (.aload_n 0, 1) := by decide +kernel
theorem d_B_tell_124 : decode b_B_tell 124 = .ok (.iload_n 1, 1) := by decide +kernel
theorem d_B_tell_125 : decode b_B_tell 125 = .ok (.invokevirtual 141, 3) := by decide +kernel
theorem d_B_tell_128 : decode b_B_tell 128 = .ok (.ireturn, 1) := by decide +kernel
theorem mo_B_tell : mok y_B_tell b_B_tell 3 (some .int) 2 := ⟨List.mem_of_getElem? (i := 546) (by decide +kernel), ⟨by decide +kernel, by decide +kernel, by decide +kernel⟩, List.mem_of_getElem? (i := 76) (by decide +kernel), by decide⟩
set_option maxHeartbeats 4000000 in
theorem c_B_tell (l : Launch) (u : Un) (hA : Ap u) (σ : St) {n G : Nat} {kd : Nat → Nat} (hb : bkOk σ n G kd) {L : Nat} (hL : σ.1 19 14 = nI L) (hL64 : L < 64) (i w : Nat) (hi : i < n) (hw : w < 8) : MTi l u y_B_tell b_B_tell 3 .int 6 [.ref (u.2.1 19), .int (nI i), .int (nI w)] σ (fun ans σ' => tlS σ G kd L i w = ans ∧ σ = σ') := by
  refine MT_of hA rfl (by decide) (Nat.le_of_ble_eq_true rfl) (fun X hl F hr => ?_)
  subst hl
  refine v_to (ls' := [(0, .ref (u.2.1 19)), (1, .int (nI i)), (2, .int (nI w))]) rfl ?_
  obtain ⟨hn, hn6, hG, hG64, hkd, hk6⟩ := id hb
  refine v_iload_n F d_B_tell_0 rfl 2 rfl ?_
  rcases (show w = 0 ∨ w = 1 ∨ w = 2 ∨ w = 3 ∨ w = 4 ∨ w = 5 ∨ w = 6 ∨ w = 7 from by omega) with hs | hs | hs | hs | hs | hs | hs | hs
  · refine v_te (y := 0) (show nI w = 0 from by rw [hs]; rfl) ?_
    refine v_tableIn (off := 43) F 44 d_B_tell_1 (by decide) (by decide) (by decide) rfl ?_
    refine v_aload_n F d_B_tell_44 rfl 0 rfl ?_
    refine v_getr (r := 27) F fk_B_33 G19 rfl d_B_tell_45 ?_
    refine v_iload_n F d_B_tell_48 rfl 1 rfl ?_
    refine v_ial F i G27 rfl (by omega) d_B_tell_49 ?_
    refine v_te (y := nI (kd i)) (hkd _ (by omega)) ?_
    refine v_iret F hr rfl d_B_tell_50 ?_
    subst hs; exact ⟨by first | rfl | (simp_all [tlS, bI]; done), rfl⟩
  · refine v_te (y := 1) (show nI w = 1 from by rw [hs]; rfl) ?_
    refine v_tableIn (off := 50) F 51 d_B_tell_1 (by decide) (by decide) (by decide) rfl ?_
    refine v_aload_n F d_B_tell_51 rfl 0 rfl ?_
    refine v_getr (r := 28) F fk_B_37 G19 rfl d_B_tell_52 ?_
    refine v_iload_n F d_B_tell_55 rfl 1 rfl ?_
    refine v_ial F i G28 rfl (by omega) d_B_tell_56 ?_
    refine v_iret F hr rfl d_B_tell_57 ?_
    subst hs; exact ⟨by first | rfl | (simp_all [tlS, bI]; done), rfl⟩
  · refine v_te (y := 2) (show nI w = 2 from by rw [hs]; rfl) ?_
    refine v_tableIn (off := 57) F 58 d_B_tell_1 (by decide) (by decide) (by decide) rfl ?_
    refine v_aload_n F d_B_tell_58 rfl 0 rfl ?_
    refine v_getr (r := 29) F fk_B_40 G19 rfl d_B_tell_59 ?_
    refine v_iload_n F d_B_tell_62 rfl 1 rfl ?_
    refine v_ial F i G29 rfl (by omega) d_B_tell_63 ?_
    refine v_iret F hr rfl d_B_tell_64 ?_
    subst hs; exact ⟨by first | rfl | (simp_all [tlS, bI]; done), rfl⟩
  · refine v_te (y := 3) (show nI w = 3 from by rw [hs]; rfl) ?_
    refine v_tableIn (off := 64) F 65 d_B_tell_1 (by decide) (by decide) (by decide) rfl ?_
    refine v_aload_n F d_B_tell_65 rfl 0 rfl ?_
    refine v_getr (r := 31) F fk_B_46 G19 rfl d_B_tell_66 ?_
    refine v_iload_n F d_B_tell_69 rfl 1 rfl ?_
    refine v_ial F i G31 rfl (by omega) d_B_tell_70 ?_
    refine v_iret F hr rfl d_B_tell_71 ?_
    subst hs; exact ⟨by first | rfl | (simp_all [tlS, bI]; done), rfl⟩
  · refine v_te (y := 4) (show nI w = 4 from by rw [hs]; rfl) ?_
    refine v_tableIn (off := 71) F 72 d_B_tell_1 (by decide) (by decide) (by decide) rfl ?_
    refine v_aload_n F d_B_tell_72 rfl 0 rfl ?_
    refine v_iload_n F d_B_tell_73 rfl 1 rfl ?_
    refine v_aload_n F d_B_tell_74 rfl 0 rfl ?_
    refine v_geti F fk_B_95 G19 rfl d_B_tell_75 ?_
    refine v_te (y := nI L) hL ?_
    refine v_runi (r_V F (c_B_lootOf X.2.1 u hA σ hb i L (by omega) (by omega)) mo_B_lootOf st_B_135 rc_19 (by decide) rfl (Nat.le_of_ble_eq_true rfl) d_B_tell_78) (fun r1 σ2 q3 => ?_)
    obtain ⟨rfl, rfl⟩ := q3
    refine v_iret F hr rfl d_B_tell_81 ?_
    subst hs; exact ⟨by first | rfl | (simp_all [tlS, bI]; done), rfl⟩
  · refine v_te (y := 5) (show nI w = 5 from by rw [hs]; rfl) ?_
    refine v_tableIn (off := 81) F 82 d_B_tell_1 (by decide) (by decide) (by decide) rfl ?_
    refine v_aload_n F d_B_tell_82 rfl 0 rfl ?_
    refine v_iload_n F d_B_tell_83 rfl 1 rfl ?_
    refine v_aload_n F d_B_tell_84 rfl 0 rfl ?_
    refine v_getr (r := 31) F fk_B_46 G19 rfl d_B_tell_85 ?_
    refine v_iload_n F d_B_tell_88 rfl 1 rfl ?_
    refine v_ial F i G31 rfl (by omega) d_B_tell_89 ?_
    refine v_aload_n F d_B_tell_90 rfl 0 rfl ?_
    refine v_geti F fk_B_95 G19 rfl d_B_tell_91 ?_
    refine v_te (y := nI L) hL ?_
    refine v_runi (r_V F (c_B_talksWith X.2.1 u hA σ hb i L (σ.1 31 i) (by omega) (by omega)) mo_B_talksWith st_B_147 rc_19 (by decide) rfl (Nat.le_of_ble_eq_true rfl) d_B_tell_94) (fun r4 σ5 q6 => ?_)
    obtain ⟨rfl, rfl⟩ := q6
    refine v_bt F 104 d_B_tell_97 rfl (fun h97 => ?_) (fun h97 => ?_)
    · skip
      refine v_iconst (v := 0) F d_B_tell_104 ki_0 ?_
      refine v_iret F hr rfl d_B_tell_105 ?_
      subst hs; exact ⟨by first | rfl | (simp_all [tlS, bI]; done), rfl⟩
    · skip
      refine v_iconst (v := 1) F d_B_tell_100 ki_1 ?_
      refine v_goto F 105 d_B_tell_101 rfl ?_
      refine v_iret F hr rfl d_B_tell_105 ?_
      subst hs; exact ⟨by first | rfl | (simp_all [tlS, bI]; done), rfl⟩
  · refine v_te (y := 6) (show nI w = 6 from by rw [hs]; rfl) ?_
    refine v_tableIn (off := 105) F 106 d_B_tell_1 (by decide) (by decide) (by decide) rfl ?_
    refine v_iload_n F d_B_tell_106 rfl 1 rfl ?_
    refine v_aload_n F d_B_tell_107 rfl 0 rfl ?_
    refine v_geti F fk_B_95 G19 rfl d_B_tell_108 ?_
    refine v_te (y := nI L) hL ?_
    refine v_runi (r_N F (c_T_isIn2 X.2.1 u hA σ i L (by omega) (by omega)) mo_T_isIn st_B_111 (by decide) rfl (Nat.le_of_ble_eq_true rfl) d_B_tell_111) (fun r7 σ8 q9 => ?_)
    obtain ⟨rfl, rfl⟩ := q9
    refine v_bt F 121 d_B_tell_114 rfl (fun h114 => ?_) (fun h114 => ?_)
    · skip
      refine v_iconst (v := 0) F d_B_tell_121 ki_0 ?_
      refine v_iret F hr rfl d_B_tell_122 ?_
      subst hs; exact ⟨by first | rfl | (simp_all [tlS, bI]; done), rfl⟩
    · skip
      refine v_iconst (v := 1) F d_B_tell_117 ki_1 ?_
      refine v_goto F 122 d_B_tell_118 rfl ?_
      refine v_iret F hr rfl d_B_tell_122 ?_
      subst hs; exact ⟨by first | rfl | (simp_all [tlS, bI]; done), rfl⟩
  · refine v_te (y := 7) (show nI w = 7 from by rw [hs]; rfl) ?_
    refine v_tableOut F 123 d_B_tell_1 (by decide) rfl ?_
    refine v_aload_n F d_B_tell_123 rfl 0 rfl ?_
    refine v_iload_n F d_B_tell_124 rfl 1 rfl ?_
    refine v_runi (r_V F (c_B_priceOf X.2.1 u hA σ hb i (by omega)) mo_B_priceOf st_B_141 rc_19 (by decide) rfl (Nat.le_of_ble_eq_true rfl) d_B_tell_125) (fun r10 σ11 q12 => ?_)
    obtain ⟨rfl, rfl⟩ := q12
    refine v_iret F hr rfl d_B_tell_128 ?_
    subst hs; exact ⟨by first | rfl | (simp_all [tlS, bI]; done), rfl⟩
abbrev b_B_markOf : ByteArray := prog_2_method_18_code
abbrev y_B_markOf : MethodName := ⟨"TakerBook$Band", "markOf", "(II)I"⟩
theorem d_B_markOf_0 : decode b_B_markOf 0 = .ok (.iload_n 2, 1) := by decide +kernel
theorem d_B_markOf_1 : decode b_B_markOf 1 = .ok (.tableswitch 75 1 4 #[31, 49, 56, 66], 31) := by decide +kernel
theorem d_B_markOf_32 : decode b_B_markOf 32 = .ok (.aload_n 0, 1) := by decide +kernel
theorem d_B_markOf_33 : decode b_B_markOf 33 = .ok (.aload_n 0, 1) := by decide +kernel
theorem d_B_markOf_34 : decode b_B_markOf 34 = .ok (.getfield 95, 3) := by decide +kernel
theorem d_B_markOf_37 : decode b_B_markOf 37 = .ok (.invokevirtual 138, 3) := by decide +kernel
theorem d_B_markOf_40 : decode b_B_markOf 40 = .ok (.iconst 1, 1) := by decide +kernel
theorem d_B_markOf_41 : decode b_B_markOf 41 = .ok (.iload_n 1, 1) := by decide +kernel
theorem d_B_markOf_42 : decode b_B_markOf 42 = .ok (.ishl, 1) := by decide +kernel
theorem d_B_markOf_43 : decode b_B_markOf 43 = .ok (.iconst (-1), 1) := by decide +kernel
theorem d_B_markOf_44 : decode b_B_markOf 44 = .ok (.ixor, 1) := by decide +kernel
theorem d_B_markOf_45 : decode b_B_markOf 45 = .ok (.iand, 1) := by decide +kernel
theorem d_B_markOf_46 : decode b_B_markOf 46 = .ok (.invokestatic 115, 3) := by decide +kernel
theorem d_B_markOf_49 : decode b_B_markOf 49 = .ok (.ireturn, 1) := by decide +kernel
theorem d_B_markOf_50 : decode b_B_markOf 50 = .ok (.aload_n 0, 1) := by decide +kernel
theorem d_B_markOf_51 : decode b_B_markOf 51 = .ok (.getfield 98, 3) := by decide +kernel
theorem d_B_markOf_54 : decode b_B_markOf 54 = .ok (.iconst 1, 1) := by decide +kernel
theorem d_B_markOf_55 : decode b_B_markOf 55 = .ok (.iadd, 1) := by decide +kernel
theorem d_B_markOf_56 : decode b_B_markOf 56 = .ok (.ireturn, 1) := by decide +kernel
theorem d_B_markOf_57 : decode b_B_markOf 57 = .ok (.aload_n 0, 1) := by decide +kernel
theorem d_B_markOf_58 : decode b_B_markOf 58 = .ok (.iload_n 1, 1) := by decide +kernel
theorem d_B_markOf_59 : decode b_B_markOf 59 = .ok (.aload_n 0, 1) := by decide +kernel
theorem d_B_markOf_60 : decode b_B_markOf 60 = .ok (.getfield 95, 3) := by decide +kernel
theorem d_B_markOf_63 : decode b_B_markOf 63 = .ok (.invokevirtual 121, 3) := by decide +kernel
theorem d_B_markOf_66 : decode b_B_markOf 66 = .ok (.ireturn, 1) := by decide +kernel
theorem d_B_markOf_67 : decode b_B_markOf 67 = .ok (.iconst 2, 1) := by decide +kernel
theorem d_B_markOf_68 : decode b_B_markOf 68 = .ok (.aload_n 0, 1) := by decide +kernel
theorem d_B_markOf_69 : decode b_B_markOf 69 = .ok (.getfield 46, 3) := by decide +kernel
theorem d_B_markOf_72 : decode b_B_markOf 72 = .ok (.iload_n 1, 1) := by decide +kernel
theorem d_B_markOf_73 : decode b_B_markOf 73 = .ok (.iaload, 1) := by decide +kernel
theorem d_B_markOf_74 : decode b_B_markOf 74 = .ok (.isub, 1) := by decide +kernel
theorem d_B_markOf_75 : decode b_B_markOf 75 = .ok (.ireturn, 1) := by decide +kernel
theorem d_B_markOf_76 : decode b_B_markOf 76 = .ok (.iconst 0, 1) := by decide +kernel
theorem d_B_markOf_77 : decode b_B_markOf 77 = .ok (.aload_n 0, 1) := by decide +kernel
theorem d_B_markOf_78 : decode b_B_markOf 78 = .ok (.getfield 71, 3) := by decide +kernel
theorem d_B_markOf_81 : decode b_B_markOf 81 = .ok (.iconst 1, 1) := by decide +kernel
theorem d_B_markOf_82 : decode b_B_markOf 82 = .ok (.iadd, 1) := by decide +kernel
theorem d_B_markOf_83 : decode b_B_markOf 83 = .ok (.aload_n 0, 1) := by decide +kernel
theorem d_B_markOf_84 : decode b_B_markOf 84 = .ok (.getfield 40, 3) := by decide +kernel
theorem d_B_markOf_87 : decode b_B_markOf 87 = .ok (.iload_n 1, 1) := by decide +kernel
theorem d_B_markOf_88 : decode b_B_markOf 88 = .ok (.iaload, 1) := by decide +kernel
theorem d_B_markOf_89 : decode b_B_markOf 89 = .ok (.isub, 1) := by decide +kernel
theorem d_B_markOf_90 : decode b_B_markOf 90 = .ok (.iconst 2, 1) := by decide +kernel
theorem d_B_markOf_91 : decode b_B_markOf 91 = .ok (.isub, 1) := by decide +kernel
theorem d_B_markOf_92 : decode b_B_markOf 92 = .ok (.invokestatic 151, 3) := by decide +kernel
theorem d_B_markOf_95 : decode b_B_markOf 95 = .ok (.ireturn, 1) := by decide +kernel
theorem mo_B_markOf : mok y_B_markOf b_B_markOf 3 (some .int) 2 := ⟨List.mem_of_getElem? (i := 644) (by decide +kernel), ⟨by decide +kernel, by decide +kernel, by decide +kernel⟩, List.mem_of_getElem? (i := 76) (by decide +kernel), by decide⟩
set_option maxHeartbeats 4000000 in
theorem c_B_markOf (l : Launch) (u : Un) (hA : Ap u) (σ : St) {n G : Nat} {kd : Nat → Nat} (hb : bkOk σ n G kd) {L : Nat} (hL : σ.1 19 14 = nI L) (hL64 : L < 64) (i w : Nat) (hi : i < n) (hw0 : 0 < w) (hw : w < 6) : MTi l u y_B_markOf b_B_markOf 3 .int 6 [.ref (u.2.1 19), .int (nI i), .int (nI w)] σ (fun ans σ' => mkS σ G kd n L i w = ans ∧ σ = σ') := by
  refine MT_of hA rfl (by decide) (Nat.le_of_ble_eq_true rfl) (fun X hl F hr => ?_)
  subst hl
  refine v_to (ls' := [(0, .ref (u.2.1 19)), (1, .int (nI i)), (2, .int (nI w))]) rfl ?_
  obtain ⟨hn, hn6, hG, hG64, hkd, hk6⟩ := id hb
  refine v_iload_n F d_B_markOf_0 rfl 2 rfl ?_
  rcases (show w = 0 ∨ w = 1 ∨ w = 2 ∨ w = 3 ∨ w = 4 ∨ w = 5 from by omega) with hs | hs | hs | hs | hs | hs
  · refine v_te (y := 0) (show nI w = 0 from by rw [hs]; rfl) ?_
    refine v_tableOut F 76 d_B_markOf_1 (by decide) rfl ?_
    refine v_iconst (v := 0) F d_B_markOf_76 ki_0 ?_
    refine v_aload_n F d_B_markOf_77 rfl 0 rfl ?_
    refine v_geti F fk_B_71 G19 rfl d_B_markOf_78 ?_
    refine v_iconst (v := 1) F d_B_markOf_81 ki_1 ?_
    refine v_iadd F d_B_markOf_82 ?_
    refine v_aload_n F d_B_markOf_83 rfl 0 rfl ?_
    refine v_getr (r := 29) F fk_B_40 G19 rfl d_B_markOf_84 ?_
    refine v_iload_n F d_B_markOf_87 rfl 1 rfl ?_
    refine v_ial F i G29 rfl (by omega) d_B_markOf_88 ?_
    refine v_isub F d_B_markOf_89 ?_
    refine v_iconst (v := 2) F d_B_markOf_90 ki_2 ?_
    refine v_isub F d_B_markOf_91 ?_
    refine v_mmax F (List.mem_of_getElem? (i := 649) (by decide +kernel)) (Nat.le_of_ble_eq_true rfl) (by decide) d_B_markOf_92 ?_
    refine v_iret F hr rfl d_B_markOf_95 ?_
    first | (exfalso; omega) | (subst hs; exact ⟨by first | rfl | (simp_all [mkS]; done), rfl⟩)
  · refine v_te (y := 1) (show nI w = 1 from by rw [hs]; rfl) ?_
    refine v_tableIn (off := 31) F 32 d_B_markOf_1 (by decide) (by decide) (by decide) rfl ?_
    refine v_aload_n F d_B_markOf_32 rfl 0 rfl ?_
    refine v_aload_n F d_B_markOf_33 rfl 0 rfl ?_
    refine v_geti F fk_B_95 G19 rfl d_B_markOf_34 ?_
    refine v_te (y := nI L) hL ?_
    refine v_runi (r_V F (c_B_talkers X.2.1 u hA σ hb L (by omega)) mo_B_talkers st_B_138 rc_19 (by decide) rfl (Nat.le_of_ble_eq_true rfl) d_B_markOf_37) (fun r1 σ2 q3 => ?_)
    obtain ⟨rfl, rfl⟩ := q3
    refine v_iconst (v := 1) F d_B_markOf_40 ki_1 ?_
    refine v_iload_n F d_B_markOf_41 rfl 1 rfl ?_
    refine v_ishl F d_B_markOf_42 ?_
    refine v_iconst (v := (-1)) F d_B_markOf_43 ki_m1 ?_
    refine v_ixor F d_B_markOf_44 ?_
    refine v_iand F d_B_markOf_45 ?_
    refine v_te (y := nI (mkN (tkS σ G kd L) n &&& (63 ^^^ 2 ^ i))) (mask6 _ (mkN_64 _ hn6) _ (by omega)) ?_
    refine v_runi (r_S F (c_I_bitCount X.2.1 u hA σ (mkN (tkS σ G kd L) n &&& (63 ^^^ 2 ^ i)) (and_lt (mkN_64 _ hn6))) mo_I_bitCount st_B_115 (by decide) rfl (Nat.le_of_ble_eq_true rfl) d_B_markOf_46) (fun r4 σ5 q6 => ?_)
    obtain ⟨rfl, rfl⟩ := q6
    refine v_iret F hr rfl d_B_markOf_49 ?_
    first | (exfalso; omega) | (subst hs; exact ⟨by first | rfl | (simp_all [mkS]; done), rfl⟩)
  · refine v_te (y := 2) (show nI w = 2 from by rw [hs]; rfl) ?_
    refine v_tableIn (off := 49) F 50 d_B_markOf_1 (by decide) (by decide) (by decide) rfl ?_
    refine v_aload_n F d_B_markOf_50 rfl 0 rfl ?_
    refine v_geti F fk_B_98 G19 rfl d_B_markOf_51 ?_
    refine v_iconst (v := 1) F d_B_markOf_54 ki_1 ?_
    refine v_iadd F d_B_markOf_55 ?_
    refine v_iret F hr rfl d_B_markOf_56 ?_
    first | (exfalso; omega) | (subst hs; exact ⟨by first | rfl | (simp_all [mkS]; done), rfl⟩)
  · refine v_te (y := 3) (show nI w = 3 from by rw [hs]; rfl) ?_
    refine v_tableIn (off := 56) F 57 d_B_markOf_1 (by decide) (by decide) (by decide) rfl ?_
    refine v_aload_n F d_B_markOf_57 rfl 0 rfl ?_
    refine v_iload_n F d_B_markOf_58 rfl 1 rfl ?_
    refine v_aload_n F d_B_markOf_59 rfl 0 rfl ?_
    refine v_geti F fk_B_95 G19 rfl d_B_markOf_60 ?_
    refine v_te (y := nI L) hL ?_
    refine v_runi (r_V F (c_B_others X.2.1 u hA σ hb i L (by omega) (by omega)) mo_B_others st_B_121 rc_19 (by decide) rfl (Nat.le_of_ble_eq_true rfl) d_B_markOf_63) (fun r7 σ8 q9 => ?_)
    obtain ⟨rfl, rfl⟩ := q9
    refine v_iret F hr rfl d_B_markOf_66 ?_
    first | (exfalso; omega) | (subst hs; exact ⟨by first | rfl | (simp_all [mkS]; done), rfl⟩)
  · refine v_te (y := 4) (show nI w = 4 from by rw [hs]; rfl) ?_
    refine v_tableIn (off := 66) F 67 d_B_markOf_1 (by decide) (by decide) (by decide) rfl ?_
    refine v_iconst (v := 2) F d_B_markOf_67 ki_2 ?_
    refine v_aload_n F d_B_markOf_68 rfl 0 rfl ?_
    refine v_getr (r := 31) F fk_B_46 G19 rfl d_B_markOf_69 ?_
    refine v_iload_n F d_B_markOf_72 rfl 1 rfl ?_
    refine v_ial F i G31 rfl (by omega) d_B_markOf_73 ?_
    refine v_isub F d_B_markOf_74 ?_
    refine v_iret F hr rfl d_B_markOf_75 ?_
    first | (exfalso; omega) | (subst hs; exact ⟨by first | rfl | (simp_all [mkS]; done), rfl⟩)
  · refine v_te (y := 5) (show nI w = 5 from by rw [hs]; rfl) ?_
    refine v_tableOut F 76 d_B_markOf_1 (by decide) rfl ?_
    refine v_iconst (v := 0) F d_B_markOf_76 ki_0 ?_
    refine v_aload_n F d_B_markOf_77 rfl 0 rfl ?_
    refine v_geti F fk_B_71 G19 rfl d_B_markOf_78 ?_
    refine v_iconst (v := 1) F d_B_markOf_81 ki_1 ?_
    refine v_iadd F d_B_markOf_82 ?_
    refine v_aload_n F d_B_markOf_83 rfl 0 rfl ?_
    refine v_getr (r := 29) F fk_B_40 G19 rfl d_B_markOf_84 ?_
    refine v_iload_n F d_B_markOf_87 rfl 1 rfl ?_
    refine v_ial F i G29 rfl (by omega) d_B_markOf_88 ?_
    refine v_isub F d_B_markOf_89 ?_
    refine v_iconst (v := 2) F d_B_markOf_90 ki_2 ?_
    refine v_isub F d_B_markOf_91 ?_
    refine v_mmax F (List.mem_of_getElem? (i := 649) (by decide +kernel)) (Nat.le_of_ble_eq_true rfl) (by decide) d_B_markOf_92 ?_
    refine v_iret F hr rfl d_B_markOf_95 ?_
    first | (exfalso; omega) | (subst hs; exact ⟨by first | rfl | (simp_all [mkS]; done), rfl⟩)
abbrev b_B_power : ByteArray := prog_2_method_21_code
abbrev y_B_power : MethodName := ⟨"TakerBook$Band", "power", "(II)J"⟩
theorem d_B_power_0 : decode b_B_power 0 = .ok (.lconst 1, 1) := by decide +kernel
theorem d_B_power_1 : decode b_B_power 1 = .ok (.lstore_n 2, 1) := by decide +kernel
theorem d_B_power_2 : decode b_B_power 2 = .ok (.iconst 0, 1) := by decide +kernel
theorem d_B_power_3 : decode b_B_power 3 = .ok (.istore 4, 2) := by decide +kernel
theorem d_B_power_5 : decode b_B_power 5 = .ok (.iload 4, 2) := by decide +kernel
theorem d_B_power_7 : decode b_B_power 7 = .ok (.iload_n 1, 1) := by decide +kernel
theorem d_B_power_8 : decode b_B_power 8 = .ok (.if_icmp .ge 14, 3) := by decide +kernel
theorem d_B_power_11 : decode b_B_power 11 = .ok (.lload_n 2, 1) := by decide +kernel
theorem d_B_power_12 : decode b_B_power 12 = .ok (.iload_n 0, 1) := by decide +kernel
theorem d_B_power_13 : decode b_B_power 13 = .ok (.i2l, 1) := by decide +kernel
theorem d_B_power_14 : decode b_B_power 14 = .ok (.lmul, 1) := by decide +kernel
theorem d_B_power_15 : decode b_B_power 15 = .ok (.lstore_n 2, 1) := by decide +kernel
theorem d_B_power_16 : decode b_B_power 16 = .ok (.iinc 4 1, 3) := by decide +kernel
theorem d_B_power_19 : decode b_B_power 19 = .ok (.goto (-14), 3) := by decide +kernel
theorem d_B_power_22 : decode b_B_power 22 = .ok (.lload_n 2, 1) := by decide +kernel
theorem d_B_power_23 : decode b_B_power 23 = .ok (.lreturn, 1) := by decide +kernel
theorem mo_B_power : mok y_B_power b_B_power 5 (some .long) 2 := ⟨List.mem_of_getElem? (i := 913) (by decide +kernel), ⟨by decide +kernel, by decide +kernel, by decide +kernel⟩, List.mem_of_getElem? (i := 76) (by decide +kernel), by decide⟩
set_option maxHeartbeats 4000000 in
theorem L_B_power_5 {X : FX} {u : Un} (hA : Ap u) {Q : State → Prop} (F : Fr X u "TakerBook$Band" b_B_power 5) {σ : St} {p : Int32} {t : Nat} (ht : t ≤ 6) (k : V X u 0 5 Q 22 [(0, .int p), (1, .int (nI t)), (2, .long (pwL p.toInt64 t)), (4, .int (nI t))] [] (σ)) : ∀ (nn i : Nat), i ≤ t → t - i < nn → V X u 0 5 Q 5 [(0, .int p), (1, .int (nI t)), (2, .long (pwL p.toInt64 i)), (4, .int (nI i))] [] (σ) := by
  intro nn
  induction nn with
  | zero =>
    intro i h1 h2
    exact absurd h2 (Nat.not_lt_zero _)
  | succ nn ih =>
    intro i hii hnn
    refine v_iload F d_B_power_5 3 rfl ?_
    refine v_iload_n F d_B_power_7 rfl 1 rfl ?_
    refine v_icmp_ge F 22 d_B_power_8 rfl (fun h8 => ?_) (fun h8 => ?_)
    · skip
      have h8 : t ≤ i := (nI_leI (a := t) (b := i) (by omega) (by omega)).mp h8
      have he : i = t := by omega
      subst he
      exact k
    · skip
      have h8 : ¬ t ≤ i := fun q => h8 ((nI_leI (a := t) (b := i) (by omega) (by omega)).mpr q)
      refine v_lload_n F d_B_power_11 rfl 2 rfl ?_
      refine v_iload_n F d_B_power_12 rfl 0 rfl ?_
      refine v_i2l F d_B_power_13 ?_
      refine v_lmul F d_B_power_14 ?_
      refine v_nl (fun x1 ex1 => ?_)
      refine v_lstore_n (ls' := [(2, .long x1), (0, .int p), (1, .int (nI t)), (4, .int (nI i))]) F d_B_power_15 rfl (by decide) rfl ?_
      refine v_iinc (v := nI (i + 1)) (ls' := [(4, .int (nI (i + 1))), (2, .long x1), (0, .int p), (1, .int (nI t))]) F d_B_power_16 (j := 3) rfl (nI_inc _) (by decide) rfl ?_
      refine v_goto F 5 d_B_power_19 rfl ?_
      refine v_sub [2, 3, 1, 0] (ls' := [(0, .int p), (1, .int (nI t)), (2, .long x1), (4, .int (nI (i + 1)))]) rfl ?_
      have g2 : x1 = (pwL p.toInt64 (i + 1)) := (by first | rfl | (simp [pwL, *]; done) | (simp_all [pwL]; done) | grind [pwL])
      refine v_to (ls' := [(0, .int p), (1, .int (nI t)), (2, .long (pwL p.toInt64 (i + 1))), (4, .int (nI (i + 1)))]) (by first | rfl | rw [g2] | simp_all) ?_
      exact ih (i + 1) (by omega) (by omega)
set_option maxHeartbeats 4000000 in
theorem c_B_power (l : Launch) (u : Un) (hA : Ap u) (σ : St) (p : Int32) (t : Nat) (ht : t ≤ 6) : MTl l u y_B_power b_B_power 5 0 [.int p, .int (nI t)] σ (fun ans σ' => pwL p.toInt64 t = ans ∧ σ = σ') := by
  refine MT_of hA rfl (by decide) (Nat.le_of_ble_eq_true rfl) (fun X hl F hr => ?_)
  subst hl
  refine v_to (ls' := [(0, .int p), (1, .int (nI t))]) rfl ?_
  refine v_lconst (v := 1) F d_B_power_0 rfl ?_
  refine v_lstore_n (ls' := [(2, .long 1), (0, .int p), (1, .int (nI t))]) F d_B_power_1 rfl (by decide) rfl ?_
  refine v_iconst (v := 0) F d_B_power_2 ki_0 ?_
  refine v_istore (ls' := [(4, .int 0), (2, .long 1), (0, .int p), (1, .int (nI t))]) F d_B_power_3 (by decide) rfl ?_
  refine v_sub [2, 3, 1, 0] (ls' := [(0, .int p), (1, .int (nI t)), (2, .long 1), (4, .int 0)]) rfl ?_
  have g1 : 1 = (pwL p.toInt64 0) := (by first | rfl | (simp [pwL, *]; done) | (simp_all [pwL]; done) | grind [pwL])
  have g2 : 0 = (nI 0) := (by first | rfl | (simp [pwL, *]; done) | (simp_all [pwL]; done) | grind [pwL])
  refine v_to (ls' := [(0, .int p), (1, .int (nI t)), (2, .long (pwL p.toInt64 0)), (4, .int (nI 0))]) (by first | rfl | rw [g1, g2] | simp_all) ?_
  refine L_B_power_5 hA F ht ?_ _ 0 (Nat.zero_le _) (Nat.lt_succ_self _)
  refine v_lload_n F d_B_power_22 rfl 2 rfl ?_
  refine v_lret F hr d_B_power_23 ?_
  exact ⟨rfl, rfl⟩
abbrev b_B_untriedOfAll : ByteArray := prog_2_method_19_code
abbrev y_B_untriedOfAll : MethodName := ⟨"TakerBook$Band", "untriedOfAll", "(I)J"⟩
theorem d_B_untriedOfAll_0 : decode b_B_untriedOfAll 0 = .ok (.aload_n 0, 1) := by decide +kernel
theorem d_B_untriedOfAll_1 : decode b_B_untriedOfAll 1 = .ok (.aload_n 0, 1) := by decide +kernel
theorem d_B_untriedOfAll_2 : decode b_B_untriedOfAll 2 = .ok (.getfield 95, 3) := by decide +kernel
theorem d_B_untriedOfAll_5 : decode b_B_untriedOfAll 5 = .ok (.invokevirtual 138, 3) := by decide +kernel
theorem d_B_untriedOfAll_8 : decode b_B_untriedOfAll 8 = .ok (.invokestatic 115, 3) := by decide +kernel
theorem d_B_untriedOfAll_11 : decode b_B_untriedOfAll 11 = .ok (.istore_n 2, 1) := by decide +kernel
theorem d_B_untriedOfAll_12 : decode b_B_untriedOfAll 12 = .ok (.lconst 0, 1) := by decide +kernel
theorem d_B_untriedOfAll_13 : decode b_B_untriedOfAll 13 = .ok (.lstore_n 3, 1) := by decide +kernel
theorem d_B_untriedOfAll_14 : decode b_B_untriedOfAll 14 = .ok (.iconst 0, 1) := by decide +kernel
theorem d_B_untriedOfAll_15 : decode b_B_untriedOfAll 15 = .ok (.istore 5, 2) := by decide +kernel
theorem d_B_untriedOfAll_17 : decode b_B_untriedOfAll 17 = .ok (.iload 5, 2) := by decide +kernel
theorem d_B_untriedOfAll_19 : decode b_B_untriedOfAll 19 = .ok (.iconst 1, 1) := by decide +kernel
theorem d_B_untriedOfAll_20 : decode b_B_untriedOfAll 20 = .ok (.iload_n 2, 1) := by decide +kernel
theorem d_B_untriedOfAll_21 : decode b_B_untriedOfAll 21 = .ok (.ishl, 1) := by decide +kernel
theorem d_B_untriedOfAll_22 : decode b_B_untriedOfAll 22 = .ok (.if_icmp .ge 48, 3) := by decide +kernel
theorem d_B_untriedOfAll_25 : decode b_B_untriedOfAll 25 = .ok (.iload 5, 2) := by decide +kernel
theorem d_B_untriedOfAll_27 : decode b_B_untriedOfAll 27 = .ok (.invokestatic 115, 3) := by decide +kernel
theorem d_B_untriedOfAll_30 : decode b_B_untriedOfAll 30 = .ok (.istore 6, 2) := by decide +kernel
theorem d_B_untriedOfAll_32 : decode b_B_untriedOfAll 32 = .ok (.iload_n 2, 1) := by decide +kernel
theorem d_B_untriedOfAll_33 : decode b_B_untriedOfAll 33 = .ok (.iload 6, 2) := by decide +kernel
theorem d_B_untriedOfAll_35 : decode b_B_untriedOfAll 35 = .ok (.isub, 1) := by decide +kernel
theorem d_B_untriedOfAll_36 : decode b_B_untriedOfAll 36 = .ok (.aload_n 0, 1) := by decide +kernel
theorem d_B_untriedOfAll_37 : decode b_B_untriedOfAll 37 = .ok (.getfield 74, 3) := by decide +kernel
theorem d_B_untriedOfAll_40 : decode b_B_untriedOfAll 40 = .ok (.if_icmp .ge 24, 3) := by decide +kernel
theorem d_B_untriedOfAll_43 : decode b_B_untriedOfAll 43 = .ok (.lload_n 3, 1) := by decide +kernel
theorem d_B_untriedOfAll_44 : decode b_B_untriedOfAll 44 = .ok (.iload_n 1, 1) := by decide +kernel
theorem d_B_untriedOfAll_45 : decode b_B_untriedOfAll 45 = .ok (.iload 6, 2) := by decide +kernel
theorem d_B_untriedOfAll_47 : decode b_B_untriedOfAll 47 = .ok (.invokestatic 156, 3) := by decide +kernel
theorem d_B_untriedOfAll_50 : decode b_B_untriedOfAll 50 = .ok (.bipush 12, 2) := by decide +kernel
theorem d_B_untriedOfAll_52 : decode b_B_untriedOfAll 52 = .ok (.iload_n 1, 1) := by decide +kernel
theorem d_B_untriedOfAll_53 : decode b_B_untriedOfAll 53 = .ok (.isub, 1) := by decide +kernel
theorem d_B_untriedOfAll_54 : decode b_B_untriedOfAll 54 = .ok (.iload_n 2, 1) := by decide +kernel
theorem d_B_untriedOfAll_55 : decode b_B_untriedOfAll 55 = .ok (.iload 6, 2) := by decide +kernel
theorem d_B_untriedOfAll_57 : decode b_B_untriedOfAll 57 = .ok (.isub, 1) := by decide +kernel
theorem d_B_untriedOfAll_58 : decode b_B_untriedOfAll 58 = .ok (.invokestatic 156, 3) := by decide +kernel
theorem d_B_untriedOfAll_61 : decode b_B_untriedOfAll 61 = .ok (.lmul, 1) := by decide +kernel
theorem d_B_untriedOfAll_62 : decode b_B_untriedOfAll 62 = .ok (.ladd, 1) := by decide +kernel
theorem d_B_untriedOfAll_63 : decode b_B_untriedOfAll 63 = .ok (.lstore_n 3, 1) := by decide +kernel
theorem d_B_untriedOfAll_64 : decode b_B_untriedOfAll 64 = .ok (.iinc 5 1, 3) := by decide +kernel
theorem d_B_untriedOfAll_67 : decode b_B_untriedOfAll 67 = .ok (.goto (-50), 3) := by decide +kernel
theorem d_B_untriedOfAll_70 : decode b_B_untriedOfAll 70 = .ok (.lload_n 3, 1) := by decide +kernel
theorem d_B_untriedOfAll_71 : decode b_B_untriedOfAll 71 = .ok (.lreturn, 1) := by decide +kernel
theorem mo_B_untriedOfAll : mok y_B_untriedOfAll b_B_untriedOfAll 7 (some .long) 1 := ⟨List.mem_of_getElem? (i := 910) (by decide +kernel), ⟨by decide +kernel, by decide +kernel, by decide +kernel⟩, List.mem_of_getElem? (i := 76) (by decide +kernel), by decide⟩
set_option maxHeartbeats 4000000 in
theorem L_B_untriedOfAll_17 {X : FX} {u : Un} (hA : Ap u) {Q : State → Prop} (F : Fr X u "TakerBook$Band" b_B_untriedOfAll 7) {σ : St} {p : Int32} {t : Nat} (ht : t ≤ 6) (k : V X u 6 7 Q 70 [(0, .ref (u.2.1 19)), (1, .int p), (2, .int (nI t)), (3, .long (utL (σ.1 19 12) p t ((2 ^ t)))), (5, .int (nI ((2 ^ t))))] [] (σ)) : ∀ (nn s : Nat), s ≤ (2 ^ t) → (2 ^ t) - s < nn → V X u 6 7 Q 17 [(0, .ref (u.2.1 19)), (1, .int p), (2, .int (nI t)), (3, .long (utL (σ.1 19 12) p t s)), (5, .int (nI s))] [] (σ) := by
  intro nn
  induction nn with
  | zero =>
    intro s h1 h2
    exact absurd h2 (Nat.not_lt_zero _)
  | succ nn ih =>
    intro s hii hnn
    have h64 := p2_le ht
    refine v_iload F d_B_untriedOfAll_17 4 rfl ?_
    refine v_iconst (v := 1) F d_B_untriedOfAll_19 ki_1 ?_
    refine v_iload_n F d_B_untriedOfAll_20 rfl 2 rfl ?_
    refine v_ishl F d_B_untriedOfAll_21 ?_
    refine v_te (y := nI (2 ^ t)) (bit6 _ (by omega)) ?_
    refine v_icmp_ge F 70 d_B_untriedOfAll_22 rfl (fun h22 => ?_) (fun h22 => ?_)
    · skip
      have h22 : 2 ^ t ≤ s := (nI_leI (a := 2 ^ t) (b := s) (by omega) (by omega)).mp h22
      have he : s = (2 ^ t) := by omega
      subst he
      exact k
    · skip
      have h22 : ¬ 2 ^ t ≤ s := fun q => h22 ((nI_leI (a := 2 ^ t) (b := s) (by omega) (by omega)).mpr q)
      have hps := pc_lt2 t (by omega) s (by omega)
      refine v_iload F d_B_untriedOfAll_25 4 rfl ?_
      refine v_runi (r_S F (c_I_bitCount X.2.1 u hA σ s (by omega)) mo_I_bitCount st_B_115 (by decide) rfl (Nat.le_of_ble_eq_true rfl) d_B_untriedOfAll_27) (fun r1 σ2 q3 => ?_)
      obtain ⟨rfl, rfl⟩ := q3
      refine v_istore (ls' := [(6, .int (nI (pcN s))), (0, .ref (u.2.1 19)), (1, .int p), (2, .int (nI t)), (3, .long (utL (σ.1 19 12) p t s)), (5, .int (nI s))]) F d_B_untriedOfAll_30 (by decide) rfl ?_
      refine v_iload_n F d_B_untriedOfAll_32 rfl 3 rfl ?_
      refine v_iload F d_B_untriedOfAll_33 0 rfl ?_
      refine v_isub F d_B_untriedOfAll_35 ?_
      refine v_te (y := nI (t - pcN s)) (pk_sub (by omega)) ?_
      refine v_aload_n F d_B_untriedOfAll_36 rfl 1 rfl ?_
      refine v_geti F fk_B_74 G19 rfl d_B_untriedOfAll_37 ?_
      refine v_icmp_ge F 64 d_B_untriedOfAll_40 rfl (fun h40 => ?_) (fun h40 => ?_)
      · skip
        refine v_iinc (v := nI (s + 1)) (ls' := [(5, .int (nI (s + 1))), (6, .int (nI (pcN s))), (0, .ref (u.2.1 19)), (1, .int p), (2, .int (nI t)), (3, .long (utL (σ.1 19 12) p t s))]) F d_B_untriedOfAll_64 (j := 5) rfl (nI_inc _) (by decide) rfl ?_
        refine v_goto F 17 d_B_untriedOfAll_67 rfl ?_
        refine v_sub [2, 3, 4, 5, 0] (ls' := [(0, .ref (u.2.1 19)), (1, .int p), (2, .int (nI t)), (3, .long (utL (σ.1 19 12) p t s)), (5, .int (nI (s + 1)))]) rfl ?_
        have g4 : (utL (σ.1 19 12) p t s) = (utL (σ.1 19 12) p t (s + 1)) := (by first | rfl | (simp [utL, *]; done) | (simp_all [utL]; done) | grind [utL])
        refine v_to (ls' := [(0, .ref (u.2.1 19)), (1, .int p), (2, .int (nI t)), (3, .long (utL (σ.1 19 12) p t (s + 1))), (5, .int (nI (s + 1)))]) (by first | rfl | rw [g4] | simp_all) ?_
        exact ih (s + 1) (by omega) (by omega)
      · skip
        refine v_lload_n F d_B_untriedOfAll_43 rfl 4 rfl ?_
        refine v_iload_n F d_B_untriedOfAll_44 rfl 2 rfl ?_
        refine v_iload F d_B_untriedOfAll_45 0 rfl ?_
        refine v_runl (r_S F (c_B_power X.2.1 u hA σ p (pcN s) (by omega)) mo_B_power st_B_156 (by decide) rfl (Nat.le_of_ble_eq_true rfl) d_B_untriedOfAll_47) (fun r5 σ6 q7 => ?_)
        obtain ⟨rfl, rfl⟩ := q7
        refine v_bipush (v := 12) F d_B_untriedOfAll_50 kb_12 ?_
        refine v_iload_n F d_B_untriedOfAll_52 rfl 2 rfl ?_
        refine v_isub F d_B_untriedOfAll_53 ?_
        refine v_iload_n F d_B_untriedOfAll_54 rfl 3 rfl ?_
        refine v_iload F d_B_untriedOfAll_55 0 rfl ?_
        refine v_isub F d_B_untriedOfAll_57 ?_
        refine v_te (y := nI (t - pcN s)) (pk_sub (by omega)) ?_
        refine v_runl (r_S F (c_B_power X.2.1 u hA σ (12 - p) (t - pcN s) (by omega)) mo_B_power st_B_156 (by decide) rfl (Nat.le_of_ble_eq_true rfl) d_B_untriedOfAll_58) (fun r8 σ9 q10 => ?_)
        obtain ⟨rfl, rfl⟩ := q10
        refine v_lmul F d_B_untriedOfAll_61 ?_
        refine v_ladd F d_B_untriedOfAll_62 ?_
        refine v_nl (fun x11 ex11 => ?_)
        refine v_lstore_n (ls' := [(3, .long x11), (6, .int (nI (pcN s))), (0, .ref (u.2.1 19)), (1, .int p), (2, .int (nI t)), (5, .int (nI s))]) F d_B_untriedOfAll_63 rfl (by decide) rfl ?_
        refine v_iinc (v := nI (s + 1)) (ls' := [(5, .int (nI (s + 1))), (3, .long x11), (6, .int (nI (pcN s))), (0, .ref (u.2.1 19)), (1, .int p), (2, .int (nI t))]) F d_B_untriedOfAll_64 (j := 5) rfl (nI_inc _) (by decide) rfl ?_
        refine v_goto F 17 d_B_untriedOfAll_67 rfl ?_
        refine v_sub [3, 4, 5, 1, 0] (ls' := [(0, .ref (u.2.1 19)), (1, .int p), (2, .int (nI t)), (3, .long x11), (5, .int (nI (s + 1)))]) rfl ?_
        have g12 : x11 = (utL (σ.1 19 12) p t (s + 1)) := (by first | rfl | (simp [utL, *]; done) | (simp_all [utL]; done) | grind [utL])
        refine v_to (ls' := [(0, .ref (u.2.1 19)), (1, .int p), (2, .int (nI t)), (3, .long (utL (σ.1 19 12) p t (s + 1))), (5, .int (nI (s + 1)))]) (by first | rfl | rw [g12] | simp_all) ?_
        exact ih (s + 1) (by omega) (by omega)
set_option maxHeartbeats 4000000 in
theorem c_B_untriedOfAll (l : Launch) (u : Un) (hA : Ap u) (σ : St) {n G : Nat} {kd : Nat → Nat} (hb : bkOk σ n G kd) {L : Nat} (hL : σ.1 19 14 = nI L) (hL64 : L < 64) (p : Int32) : MTl l u y_B_untriedOfAll b_B_untriedOfAll 7 6 [.ref (u.2.1 19), .int p] σ (fun ans σ' => utL (σ.1 19 12) p (pcN (mkN (tkS σ G kd L) n)) (2 ^ pcN (mkN (tkS σ G kd L) n)) = ans ∧ σ = σ') := by
  refine MT_of hA rfl (by decide) (Nat.le_of_ble_eq_true rfl) (fun X hl F hr => ?_)
  subst hl
  refine v_to (ls' := [(0, .ref (u.2.1 19)), (1, .int p)]) rfl ?_
  obtain ⟨hn, hn6, hG, hG64, hkd, hk6⟩ := id hb
  refine v_aload_n F d_B_untriedOfAll_0 rfl 0 rfl ?_
  refine v_aload_n F d_B_untriedOfAll_1 rfl 0 rfl ?_
  refine v_geti F fk_B_95 G19 rfl d_B_untriedOfAll_2 ?_
  refine v_te (y := nI L) hL ?_
  refine v_runi (r_V F (c_B_talkers X.2.1 u hA σ hb L (by omega)) mo_B_talkers st_B_138 rc_19 (by decide) rfl (Nat.le_of_ble_eq_true rfl) d_B_untriedOfAll_5) (fun r1 σ2 q3 => ?_)
  obtain ⟨rfl, rfl⟩ := q3
  refine v_runi (r_S F (c_I_bitCount X.2.1 u hA σ (mkN (tkS σ G kd L) n) (mkN_64 _ hn6)) mo_I_bitCount st_B_115 (by decide) rfl (Nat.le_of_ble_eq_true rfl) d_B_untriedOfAll_8) (fun r4 σ5 q6 => ?_)
  obtain ⟨rfl, rfl⟩ := q6
  refine v_istore_n (ls' := [(2, .int (nI (pcN (mkN (tkS σ G kd L) n)))), (0, .ref (u.2.1 19)), (1, .int p)]) F d_B_untriedOfAll_11 rfl (by decide) rfl ?_
  refine v_lconst (v := 0) F d_B_untriedOfAll_12 rfl ?_
  refine v_lstore_n (ls' := [(3, .long 0), (2, .int (nI (pcN (mkN (tkS σ G kd L) n)))), (0, .ref (u.2.1 19)), (1, .int p)]) F d_B_untriedOfAll_13 rfl (by decide) rfl ?_
  refine v_iconst (v := 0) F d_B_untriedOfAll_14 ki_0 ?_
  refine v_istore (ls' := [(5, .int 0), (3, .long 0), (2, .int (nI (pcN (mkN (tkS σ G kd L) n)))), (0, .ref (u.2.1 19)), (1, .int p)]) F d_B_untriedOfAll_15 (by decide) rfl ?_
  obtain ⟨t, et⟩ : ∃ t, t = pcN (mkN (tkS σ G kd L) n) := ⟨_, rfl⟩
  have ht : t ≤ 6 := by rw [et]; exact pc_le _ (mkN_64 _ hn6)
  rw [← et]
  refine v_to (ls' := [(5, .int 0), (3, .long 0), (2, .int (nI t)), (0, .ref (u.2.1 19)), (1, .int p)]) (by rw [et]) ?_
  refine v_sub [3, 4, 2, 1, 0] (ls' := [(0, .ref (u.2.1 19)), (1, .int p), (2, .int (nI t)), (3, .long 0), (5, .int 0)]) rfl ?_
  have g7 : 0 = (utL (σ.1 19 12) p t 0) := (by first | rfl | (simp [utL, *]; done) | (simp_all [utL]; done) | grind [utL])
  have g8 : 0 = (nI 0) := (by first | rfl | (simp [utL, *]; done) | (simp_all [utL]; done) | grind [utL])
  refine v_to (ls' := [(0, .ref (u.2.1 19)), (1, .int p), (2, .int (nI t)), (3, .long (utL (σ.1 19 12) p t 0)), (5, .int (nI 0))]) (by first | rfl | rw [g7, g8] | simp_all) ?_
  refine L_B_untriedOfAll_17 hA F ht ?_ _ 0 (Nat.zero_le _) (Nat.lt_succ_self _)
  refine v_lload_n F d_B_untriedOfAll_70 rfl 3 rfl ?_
  refine v_lret F hr d_B_untriedOfAll_71 ?_
  exact ⟨by rw [et], rfl⟩
abbrev b_B_allOf : ByteArray := prog_2_method_20_code
abbrev y_B_allOf : MethodName := ⟨"TakerBook$Band", "allOf", "()J"⟩
theorem d_B_allOf_0 : decode b_B_allOf 0 = .ok (.bipush 12, 2) := by decide +kernel
theorem d_B_allOf_2 : decode b_B_allOf 2 = .ok (.aload_n 0, 1) := by decide +kernel
theorem d_B_allOf_3 : decode b_B_allOf 3 = .ok (.aload_n 0, 1) := by decide +kernel
theorem d_B_allOf_4 : decode b_B_allOf 4 = .ok (.getfield 95, 3) := by decide +kernel
theorem d_B_allOf_7 : decode b_B_allOf 7 = .ok (.invokevirtual 138, 3) := by decide +kernel
theorem d_B_allOf_10 : decode b_B_allOf 10 = .ok (.invokestatic 115, 3) := by decide +kernel
theorem d_B_allOf_13 : decode b_B_allOf 13 = .ok (.invokestatic 156, 3) := by decide +kernel
theorem d_B_allOf_16 : decode b_B_allOf 16 = .ok (.lreturn, 1) := by decide +kernel
theorem mo_B_allOf : mok y_B_allOf b_B_allOf 1 (some .long) 0 := ⟨List.mem_of_getElem? (i := 917) (by decide +kernel), ⟨by decide +kernel, by decide +kernel, by decide +kernel⟩, List.mem_of_getElem? (i := 76) (by decide +kernel), by decide⟩
set_option maxHeartbeats 4000000 in
theorem c_B_allOf (l : Launch) (u : Un) (hA : Ap u) (σ : St) {n G : Nat} {kd : Nat → Nat} (hb : bkOk σ n G kd) {L : Nat} (hL : σ.1 19 14 = nI L) (hL64 : L < 64) : MTl l u y_B_allOf b_B_allOf 1 6 [.ref (u.2.1 19)] σ (fun ans σ' => pwL (12 : Int32).toInt64 (pcN (mkN (tkS σ G kd L) n)) = ans ∧ σ = σ') := by
  refine MT_of hA rfl (by decide) (Nat.le_of_ble_eq_true rfl) (fun X hl F hr => ?_)
  subst hl
  refine v_to (ls' := [(0, .ref (u.2.1 19))]) rfl ?_
  obtain ⟨hn, hn6, hG, hG64, hkd, hk6⟩ := id hb
  refine v_bipush (v := 12) F d_B_allOf_0 kb_12 ?_
  refine v_aload_n F d_B_allOf_2 rfl 0 rfl ?_
  refine v_aload_n F d_B_allOf_3 rfl 0 rfl ?_
  refine v_geti F fk_B_95 G19 rfl d_B_allOf_4 ?_
  refine v_te (y := nI L) hL ?_
  refine v_runi (r_V F (c_B_talkers X.2.1 u hA σ hb L (by omega)) mo_B_talkers st_B_138 rc_19 (by decide) rfl (Nat.le_of_ble_eq_true rfl) d_B_allOf_7) (fun r1 σ2 q3 => ?_)
  obtain ⟨rfl, rfl⟩ := q3
  refine v_runi (r_S F (c_I_bitCount X.2.1 u hA σ (mkN (tkS σ G kd L) n) (mkN_64 _ hn6)) mo_I_bitCount st_B_115 (by decide) rfl (Nat.le_of_ble_eq_true rfl) d_B_allOf_10) (fun r4 σ5 q6 => ?_)
  obtain ⟨rfl, rfl⟩ := q6
  refine v_runl (r_S F (c_B_power X.2.1 u hA σ 12 (pcN (mkN (tkS σ G kd L) n)) (pc_le _ (mkN_64 _ hn6))) mo_B_power st_B_156 (by decide) rfl (Nat.le_of_ble_eq_true rfl) d_B_allOf_13) (fun r7 σ8 q9 => ?_)
  obtain ⟨rfl, rfl⟩ := q9
  refine v_lret F hr d_B_allOf_16 ?_
  exact ⟨rfl, rfl⟩
