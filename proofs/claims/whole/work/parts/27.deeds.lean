theorem G49 : Gam[49]? = some (.inr (.inr (4, [.inl 50, .inl 51, .inr false]))) := rfl
theorem rc_49 : recv 49 "TakerBook$Deeds" := ⟨4, _, (R_D, F_D, 3), G49, rfl, rfl⟩
theorem fk_D_18 : fok "TakerBook$Deeds" 18 4 2 := ⟨(R_D, F_D, 3), rfl, by decide, List.mem_of_getElem? (i := 346) (by decide +kernel), rfl⟩
theorem fk_D_9 : fok "TakerBook$Deeds" 9 4 0 := ⟨(R_D, F_D, 3), rfl, by decide, List.mem_of_getElem? (i := 341) (by decide +kernel), rfl⟩
theorem G50 : Gam[50]? = some (.inl (.int, 40)) := rfl
theorem fk_D_15 : fok "TakerBook$Deeds" 15 4 1 := ⟨(R_D, F_D, 3), rfl, by decide, List.mem_of_getElem? (i := 343) (by decide +kernel), rfl⟩
theorem G51 : Gam[51]? = some (.inl (.int, 40)) := rfl
theorem pk_D_size : pok 4 2 .int := ⟨(R_D, F_D, 3), rfl, rfl, by decide +kernel⟩
theorem fk_T_57 : fok "TakerBook" 57 0 8 := ⟨(R_T, F_T, 15), rfl, by decide, List.mem_of_getElem? (i := 363) (by decide +kernel), rfl⟩
theorem st_T_342 : siteV "TakerBook" 342 ⟨"TakerBook$Deeds", "add", "(II)V"⟩ := ⟨List.mem_of_getElem? (i := 662) (by decide +kernel), List.mem_of_getElem? (i := 663) (by decide +kernel), List.mem_of_getElem? (i := 664) (by decide +kernel)⟩
theorem st_T_345 : siteV "TakerBook" 345 ⟨"TakerBook$Band", "enact", "(II)V"⟩ := ⟨List.mem_of_getElem? (i := 666) (by decide +kernel), List.mem_of_getElem? (i := 667) (by decide +kernel), List.mem_of_getElem? (i := 668) (by decide +kernel)⟩
theorem fk_T_72 : fok "TakerBook" 72 4 2 := ⟨(R_D, F_D, 3), rfl, by decide, List.mem_of_getElem? (i := 345) (by decide +kernel), rfl⟩
theorem fk_T_349 : fok "TakerBook" 349 4 0 := ⟨(R_D, F_D, 3), rfl, by decide, List.mem_of_getElem? (i := 342) (by decide +kernel), rfl⟩
theorem fk_T_352 : fok "TakerBook" 352 4 1 := ⟨(R_D, F_D, 3), rfl, by decide, List.mem_of_getElem? (i := 344) (by decide +kernel), rfl⟩
theorem st_T_346 : siteV "TakerBook" 346 ⟨"TakerBook$Band", "restart", "()V"⟩ := ⟨List.mem_of_getElem? (i := 699) (by decide +kernel), List.mem_of_getElem? (i := 532) (by decide +kernel), List.mem_of_getElem? (i := 533) (by decide +kernel)⟩
theorem c_B_enactN (l : Launch) (u : Un) (hA : Ap u) (σ : St) {n G : Nat} {kd : Nat → Nat} (hb : bkOk σ n G kd) {L : Nat} (hL : σ.1 19 14 = nI L) (hL64 : L < 64) (w a : Nat) (hw : w < 4) (ha : 2 ≤ w → a < n) : MTv l u y_B_enact b_B_enact 3 7 [.ref (u.2.1 19), .int (nI w), .int (nI a)] σ (fun σ' => σ' = stS kd G n w a L σ) := by
  rcases w with _ | _ | _ | _ | w
  · exact c_B_enact0 l u hA σ hb hL hL64 (nI a)
  · exact c_B_enact1 l u hA σ (nI a)
  · exact c_B_enact2 l u hA σ a (by have := ha (by omega); have := hb.2.1; omega)
  · exact c_B_enact3 l u hA σ hb hL hL64 a (ha (by omega))
  · exfalso
    omega
abbrev b_D_add : ByteArray := prog_4_method_2_code
abbrev y_D_add : MethodName := ⟨"TakerBook$Deeds", "add", "(II)V"⟩
theorem d_D_add_0 : decode b_D_add 0 = .ok (.aload_n 0, 1) := by decide +kernel
theorem d_D_add_1 : decode b_D_add 1 = .ok (.getfield 18, 3) := by decide +kernel
theorem d_D_add_4 : decode b_D_add 4 = .ok (.ifCond .lt 42, 3) := by decide +kernel
theorem d_D_add_7 : decode b_D_add 7 = .ok (.aload_n 0, 1) := by decide +kernel
theorem d_D_add_8 : decode b_D_add 8 = .ok (.getfield 18, 3) := by decide +kernel
theorem d_D_add_11 : decode b_D_add 11 = .ok (.bipush 40, 2) := by decide +kernel
theorem d_D_add_13 : decode b_D_add 13 = .ok (.if_icmp .ge 33, 3) := by decide +kernel
theorem d_D_add_16 : decode b_D_add 16 = .ok (.aload_n 0, 1) := by decide +kernel
theorem d_D_add_17 : decode b_D_add 17 = .ok (.getfield 9, 3) := by decide +kernel
theorem d_D_add_20 : decode b_D_add 20 = .ok (.aload_n 0, 1) := by decide +kernel
theorem d_D_add_21 : decode b_D_add 21 = .ok (.getfield 18, 3) := by decide +kernel
theorem d_D_add_24 : decode b_D_add 24 = .ok (.iload_n 1, 1) := by decide +kernel
theorem d_D_add_25 : decode b_D_add 25 = .ok (.iastore, 1) := by decide +kernel
theorem d_D_add_26 : decode b_D_add 26 = .ok (.aload_n 0, 1) := by decide +kernel
theorem d_D_add_27 : decode b_D_add 27 = .ok (.getfield 15, 3) := by decide +kernel
theorem d_D_add_30 : decode b_D_add 30 = .ok (.aload_n 0, 1) := by decide +kernel
theorem d_D_add_31 : decode b_D_add 31 = .ok (.getfield 18, 3) := by decide +kernel
theorem d_D_add_34 : decode b_D_add 34 = .ok (.iload_n 2, 1) := by decide +kernel
theorem d_D_add_35 : decode b_D_add 35 = .ok (.iastore, 1) := by decide +kernel
theorem d_D_add_36 : decode b_D_add 36 = .ok (.aload_n 0, 1) := by decide +kernel
theorem d_D_add_37 : decode b_D_add 37 = .ok (.dup, 1) := by decide +kernel
theorem d_D_add_38 : decode b_D_add 38 = .ok (.getfield 18, 3) := by decide +kernel
theorem d_D_add_41 : decode b_D_add 41 = .ok (.iconst 1, 1) := by decide +kernel
theorem d_D_add_42 : decode b_D_add 42 = .ok (.iadd, 1) := by decide +kernel
theorem d_D_add_43 : decode b_D_add 43 = .ok (.putfield 18, 3) := by decide +kernel
theorem d_D_add_46 : decode b_D_add 46 = .ok (.return_, 1) := by decide +kernel
theorem mo_D_add : mok y_D_add b_D_add 3 none 2 := ⟨List.mem_of_getElem? (i := 665) (by decide +kernel), ⟨by decide +kernel, by decide +kernel, by decide +kernel⟩, List.mem_of_getElem? (i := 85) (by decide +kernel), by decide⟩
set_option maxHeartbeats 4000000 in
theorem c_D_add (l : Launch) (u : Un) (hA : Ap u) (σ : St) {D : Nat} (hD : σ.1 49 2 = nI D) (hD40 : D < 40) (w a : Int32) : MTv l u y_D_add b_D_add 3 0 [.ref (u.2.1 49), .int w, .int a] σ (fun σ' => σ' = addS σ D w a) := by
  refine MT_of hA rfl (by decide) (Nat.le_of_ble_eq_true rfl) (fun X hl F hr => ?_)
  subst hl
  refine v_to (ls' := [(0, .ref (u.2.1 49)), (1, .int w), (2, .int a)]) rfl ?_
  refine v_aload_n F d_D_add_0 rfl 0 rfl ?_
  refine v_geti F fk_D_18 G49 rfl d_D_add_1 ?_
  refine v_te (y := nI D) (by simp_all [uI]) ?_
  refine v_if_lt F 46 d_D_add_4 rfl (fun h4 => ?_) (fun h4 => ?_)
  · exact absurd h4 (nI_pos (by omega))
  · skip
    have h4 : ¬ D < 0 := fun q => h4 ((nI_ltI (a := D) (b := 0) (by omega) (by omega)).mpr q)
    refine v_aload_n F d_D_add_7 rfl 0 rfl ?_
    refine v_geti F fk_D_18 G49 rfl d_D_add_8 ?_
    refine v_te (y := nI D) (by simp_all [uI]) ?_
    refine v_bipush (v := 40) F d_D_add_11 kb_40 ?_
    refine v_icmp_ge F 46 d_D_add_13 rfl (fun h13 => ?_) (fun h13 => ?_)
    · exact absurd h13 (nI_nle40 hD40)
    · skip
      have h13 : ¬ 40 ≤ D := fun q => h13 ((nI_leI (a := 40) (b := D) (by omega) (by omega)).mpr q)
      refine v_aload_n F d_D_add_16 rfl 0 rfl ?_
      refine v_getr (r := 50) F fk_D_9 G49 rfl d_D_add_17 ?_
      refine v_aload_n F d_D_add_20 rfl 0 rfl ?_
      refine v_geti F fk_D_18 G49 rfl d_D_add_21 ?_
      refine v_te (y := nI D) (by simp_all [uI]) ?_
      refine v_iload_n F d_D_add_24 rfl 1 rfl ?_
      refine v_ias F D G50 rfl (by omega) d_D_add_25 ?_
      refine v_ns (fun σ1 eσ1 => ?_)
      refine v_aload_n F d_D_add_26 rfl 0 rfl ?_
      refine v_getr (r := 51) F fk_D_15 G49 rfl d_D_add_27 ?_
      refine v_aload_n F d_D_add_30 rfl 0 rfl ?_
      refine v_geti F fk_D_18 G49 rfl d_D_add_31 ?_
      refine v_te (y := nI D) (by simp_all [uI]) ?_
      refine v_iload_n F d_D_add_34 rfl 2 rfl ?_
      refine v_ias F D G51 rfl (by omega) d_D_add_35 ?_
      refine v_ns (fun σ2 eσ2 => ?_)
      refine v_aload_n F d_D_add_36 rfl 0 rfl ?_
      refine v_dup F d_D_add_37 rfl ?_
      refine v_geti F fk_D_18 G49 rfl d_D_add_38 ?_
      refine v_te (y := nI D) (by simp_all [uI]) ?_
      refine v_iconst (v := 1) F d_D_add_41 ki_1 ?_
      refine v_iadd F d_D_add_42 ?_
      refine v_te (y := nI (D + 1)) (nI_add _ _) ?_
      refine v_puti F fk_D_18 pk_D_size G49 rfl d_D_add_43 ?_
      refine v_ns (fun σ3 eσ3 => ?_)
      refine v_vret F hr d_D_add_46 ?_
      simp_all [addS]
abbrev b_D_become : ByteArray := prog_4_method_3_code
abbrev y_D_become : MethodName := ⟨"TakerBook$Deeds", "become", "(LTakerBook$Deeds;)V"⟩
theorem d_D_become_0 : decode b_D_become 0 = .ok (.aload_n 1, 1) := by decide +kernel
theorem d_D_become_1 : decode b_D_become 1 = .ok (.getfield 9, 3) := by decide +kernel
theorem d_D_become_4 : decode b_D_become 4 = .ok (.iconst 0, 1) := by decide +kernel
theorem d_D_become_5 : decode b_D_become 5 = .ok (.aload_n 0, 1) := by decide +kernel
theorem d_D_become_6 : decode b_D_become 6 = .ok (.getfield 9, 3) := by decide +kernel
theorem d_D_become_9 : decode b_D_become 9 = .ok (.iconst 0, 1) := by decide +kernel
theorem d_D_become_10 : decode b_D_become 10 = .ok (.bipush 40, 2) := by decide +kernel
theorem d_D_become_12 : decode b_D_become 12 = .ok (.invokestatic 22, 3) := by decide +kernel
theorem d_D_become_15 : decode b_D_become 15 = .ok (.aload_n 1, 1) := by decide +kernel
theorem d_D_become_16 : decode b_D_become 16 = .ok (.getfield 15, 3) := by decide +kernel
theorem d_D_become_19 : decode b_D_become 19 = .ok (.iconst 0, 1) := by decide +kernel
theorem d_D_become_20 : decode b_D_become 20 = .ok (.aload_n 0, 1) := by decide +kernel
theorem d_D_become_21 : decode b_D_become 21 = .ok (.getfield 15, 3) := by decide +kernel
theorem d_D_become_24 : decode b_D_become 24 = .ok (.iconst 0, 1) := by decide +kernel
theorem d_D_become_25 : decode b_D_become 25 = .ok (.bipush 40, 2) := by decide +kernel
theorem d_D_become_27 : decode b_D_become 27 = .ok (.invokestatic 22, 3) := by decide +kernel
theorem d_D_become_30 : decode b_D_become 30 = .ok (.aload_n 0, 1) := by decide +kernel
theorem d_D_become_31 : decode b_D_become 31 = .ok (.aload_n 1, 1) := by decide +kernel
theorem d_D_become_32 : decode b_D_become 32 = .ok (.getfield 18, 3) := by decide +kernel
theorem d_D_become_35 : decode b_D_become 35 = .ok (.putfield 18, 3) := by decide +kernel
theorem d_D_become_38 : decode b_D_become 38 = .ok (.return_, 1) := by decide +kernel
theorem mo_D_become : mok y_D_become b_D_become 2 none 1 := ⟨List.mem_of_getElem? (i := 707) (by decide +kernel), ⟨by decide +kernel, by decide +kernel, by decide +kernel⟩, List.mem_of_getElem? (i := 85) (by decide +kernel), by decide⟩
set_option maxHeartbeats 4000000 in
theorem c_D_become (l : Launch) (u : Un) (hA : Ap u) (σ : St) (p q : Nat) (hp : dOk p) (hq : dOk q) (hne : q ≠ p ∧ q ≠ p + 1 ∧ q ≠ p + 2 ∧ q + 2 ≠ p + 1 ∧ p + 2 ≠ p + 1) : MTv l u y_D_become b_D_become 2 2 [.ref (u.2.1 p), .ref (u.2.1 q)] σ (fun σ' => σ' = bcS σ p q) := by
  refine MT_of hA rfl (by decide) (Nat.le_of_ble_eq_true rfl) (fun X hl F hr => ?_)
  subst hl
  refine v_to (ls' := [(0, .ref (u.2.1 p)), (1, .ref (u.2.1 q))]) rfl ?_
  refine v_aload_n F d_D_become_0 rfl 1 rfl ?_
  refine v_getr (r := (q + 1)) F fk_D_9 (gam_d hq) rfl d_D_become_1 ?_
  refine v_iconst (v := 0) F d_D_become_4 ki_0 ?_
  refine v_aload_n F d_D_become_5 rfl 0 rfl ?_
  refine v_getr (r := (p + 1)) F fk_D_9 (gam_d hp) rfl d_D_become_6 ?_
  refine v_iconst (v := 0) F d_D_become_9 ki_0 ?_
  refine v_bipush (v := 40) F d_D_become_10 kb_40 ?_
  refine v_copy F (gam_dw hq) (gam_dw hp) (List.mem_of_getElem? (i := 708) (by decide +kernel)) (List.mem_of_getElem? (i := 441) (by decide +kernel)) (List.mem_of_getElem? (i := 440) (by decide +kernel)) (List.mem_of_getElem? (i := 87) (by decide +kernel)) (by decide) (by decide) (by decide) (by decide) (by decide) (by decide) (Nat.le_of_ble_eq_true rfl) d_D_become_12 ?_
  refine v_ns (fun σ1 eσ1 => ?_)
  refine v_aload_n F d_D_become_15 rfl 1 rfl ?_
  refine v_getr (r := (q + 2)) F fk_D_15 (gam_d hq) rfl d_D_become_16 ?_
  refine v_iconst (v := 0) F d_D_become_19 ki_0 ?_
  refine v_aload_n F d_D_become_20 rfl 0 rfl ?_
  refine v_getr (r := (p + 2)) F fk_D_15 (gam_d hp) rfl d_D_become_21 ?_
  refine v_iconst (v := 0) F d_D_become_24 ki_0 ?_
  refine v_bipush (v := 40) F d_D_become_25 kb_40 ?_
  refine v_copy F (gam_do hq) (gam_do hp) (List.mem_of_getElem? (i := 708) (by decide +kernel)) (List.mem_of_getElem? (i := 441) (by decide +kernel)) (List.mem_of_getElem? (i := 440) (by decide +kernel)) (List.mem_of_getElem? (i := 87) (by decide +kernel)) (by decide) (by decide) (by decide) (by decide) (by decide) (by decide) (Nat.le_of_ble_eq_true rfl) d_D_become_27 ?_
  refine v_ns (fun σ2 eσ2 => ?_)
  refine v_aload_n F d_D_become_30 rfl 0 rfl ?_
  refine v_aload_n F d_D_become_31 rfl 1 rfl ?_
  refine v_geti F fk_D_18 (gam_d hq) rfl d_D_become_32 ?_
  refine v_puti F fk_D_18 pk_D_size (gam_d hp) rfl d_D_become_35 ?_
  refine v_ns (fun σ3 eσ3 => ?_)
  refine v_vret F hr d_D_become_38 ?_
  obtain ⟨n1, n2, n3, n4, n5⟩ := hne
  simp_all [bcS, uA]
abbrev b_T_enact : ByteArray := prog_1_method_61_code
abbrev y_T_enact : MethodName := ⟨"TakerBook", "enact", "(II)V"⟩
theorem d_T_enact_0 : decode b_T_enact 0 = .ok (.aload_n 0, 1) := by decide +kernel
theorem d_T_enact_1 : decode b_T_enact 1 = .ok (.getfield 57, 3) := by decide +kernel
theorem d_T_enact_4 : decode b_T_enact 4 = .ok (.iload_n 1, 1) := by decide +kernel
theorem d_T_enact_5 : decode b_T_enact 5 = .ok (.iload_n 2, 1) := by decide +kernel
theorem d_T_enact_6 : decode b_T_enact 6 = .ok (.invokevirtual 342, 3) := by decide +kernel
theorem d_T_enact_9 : decode b_T_enact 9 = .ok (.aload_n 0, 1) := by decide +kernel
theorem d_T_enact_10 : decode b_T_enact 10 = .ok (.getfield 36, 3) := by decide +kernel
theorem d_T_enact_13 : decode b_T_enact 13 = .ok (.iload_n 1, 1) := by decide +kernel
theorem d_T_enact_14 : decode b_T_enact 14 = .ok (.iload_n 2, 1) := by decide +kernel
theorem d_T_enact_15 : decode b_T_enact 15 = .ok (.invokevirtual 345, 3) := by decide +kernel
theorem d_T_enact_18 : decode b_T_enact 18 = .ok (.return_, 1) := by decide +kernel
theorem mo_T_enact : mok y_T_enact b_T_enact 3 none 2 := ⟨List.mem_of_getElem? (i := 661) (by decide +kernel), ⟨by decide +kernel, by decide +kernel, by decide +kernel⟩, List.mem_of_getElem? (i := 74) (by decide +kernel), by decide⟩
set_option maxHeartbeats 4000000 in
theorem c_T_enact (l : Launch) (u : Un) (hA : Ap u) (σ : St) {n G : Nat} {kd : Nat → Nat} (hb : bkOk σ n G kd) {L : Nat} (hL : σ.1 19 14 = nI L) (hL64 : L < 64) {D : Nat} (hD : σ.1 49 2 = nI D) (hD40 : D < 40) (w a : Nat) (hw : w < 4) (ha : 2 ≤ w → a < n) : MTv l u y_T_enact b_T_enact 3 8 [.ref (u.2.1 0), .int (nI w), .int (nI a)] σ (fun σ' => σ' = stS kd G n w a L (addS σ D (nI w) (nI a))) := by
  refine MT_of hA rfl (by decide) (Nat.le_of_ble_eq_true rfl) (fun X hl F hr => ?_)
  subst hl
  refine v_to (ls' := [(0, .ref (u.2.1 0)), (1, .int (nI w)), (2, .int (nI a))]) rfl ?_
  obtain ⟨hn, hn6, hG, hG64, hkd, hk6⟩ := id hb
  refine v_aload_n F d_T_enact_0 rfl 0 rfl ?_
  refine v_getr (r := 49) F fk_T_57 G0 rfl d_T_enact_1 ?_
  refine v_iload_n F d_T_enact_4 rfl 1 rfl ?_
  refine v_iload_n F d_T_enact_5 rfl 2 rfl ?_
  refine v_runv (r_V F (c_D_add X.2.1 u hA σ hD hD40 (nI w) (nI a)) mo_D_add st_T_342 rc_49 (by decide) rfl (Nat.le_of_ble_eq_true rfl) d_T_enact_6) (fun σ2 q3 => ?_)
  refine v_aload_n F d_T_enact_9 rfl 0 rfl ?_
  refine v_getr (r := 19) F fk_T_36 G0 rfl d_T_enact_10 ?_
  refine v_iload_n F d_T_enact_13 rfl 1 rfl ?_
  refine v_iload_n F d_T_enact_14 rfl 2 rfl ?_
  refine v_runv (r_V F (c_B_enactN X.2.1 u hA σ2 (by rw [q3]; exact addS_ok hb) (by rw [q3, addS_k _ _ _ _ (by decide)]; exact hL) hL64 w a (by omega) (by omega)) mo_B_enact st_T_345 rc_19 (by decide) rfl (Nat.le_of_ble_eq_true rfl) d_T_enact_15) (fun σ5 q6 => ?_)
  refine v_vret F hr d_T_enact_18 ?_
  simp_all
abbrev b_T_replay : ByteArray := prog_1_method_63_code
abbrev y_T_replay : MethodName := ⟨"TakerBook", "replay", "()V"⟩
theorem d_T_replay_0 : decode b_T_replay 0 = .ok (.aload_n 0, 1) := by decide +kernel
theorem d_T_replay_1 : decode b_T_replay 1 = .ok (.getfield 36, 3) := by decide +kernel
theorem d_T_replay_4 : decode b_T_replay 4 = .ok (.invokevirtual 346, 3) := by decide +kernel
theorem d_T_replay_7 : decode b_T_replay 7 = .ok (.iconst 0, 1) := by decide +kernel
theorem d_T_replay_8 : decode b_T_replay 8 = .ok (.istore_n 1, 1) := by decide +kernel
theorem d_T_replay_9 : decode b_T_replay 9 = .ok (.iload_n 1, 1) := by decide +kernel
theorem d_T_replay_10 : decode b_T_replay 10 = .ok (.aload_n 0, 1) := by decide +kernel
theorem d_T_replay_11 : decode b_T_replay 11 = .ok (.getfield 57, 3) := by decide +kernel
theorem d_T_replay_14 : decode b_T_replay 14 = .ok (.getfield 72, 3) := by decide +kernel
theorem d_T_replay_17 : decode b_T_replay 17 = .ok (.if_icmp .ge 34, 3) := by decide +kernel
theorem d_T_replay_20 : decode b_T_replay 20 = .ok (.aload_n 0, 1) := by decide +kernel
theorem d_T_replay_21 : decode b_T_replay 21 = .ok (.getfield 36, 3) := by decide +kernel
theorem d_T_replay_24 : decode b_T_replay 24 = .ok (.aload_n 0, 1) := by decide +kernel
theorem d_T_replay_25 : decode b_T_replay 25 = .ok (.getfield 57, 3) := by decide +kernel
theorem d_T_replay_28 : decode b_T_replay 28 = .ok (.getfield 349, 3) := by decide +kernel
theorem d_T_replay_31 : decode b_T_replay 31 = .ok (.iload_n 1, 1) := by decide +kernel
theorem d_T_replay_32 : decode b_T_replay 32 = .ok (.iaload, 1) := by decide +kernel
theorem d_T_replay_33 : decode b_T_replay 33 = .ok (.aload_n 0, 1) := by decide +kernel
theorem d_T_replay_34 : decode b_T_replay 34 = .ok (.getfield 57, 3) := by decide +kernel
theorem d_T_replay_37 : decode b_T_replay 37 = .ok (.getfield 352, 3) := by decide +kernel
theorem d_T_replay_40 : decode b_T_replay 40 = .ok (.iload_n 1, 1) := by decide +kernel
theorem d_T_replay_41 : decode b_T_replay 41 = .ok (.iaload, 1) := by decide +kernel
theorem d_T_replay_42 : decode b_T_replay 42 = .ok (.invokevirtual 345, 3) := by decide +kernel
theorem d_T_replay_45 : decode b_T_replay 45 = .ok (.iinc 1 1, 3) := by decide +kernel
theorem d_T_replay_48 : decode b_T_replay 48 = .ok (.goto (-39), 3) := by decide +kernel
theorem d_T_replay_51 : decode b_T_replay 51 = .ok (.return_, 1) := by decide +kernel
theorem mo_T_replay : mok y_T_replay b_T_replay 2 none 0 := ⟨List.mem_of_getElem? (i := 698) (by decide +kernel), ⟨by decide +kernel, by decide +kernel, by decide +kernel⟩, List.mem_of_getElem? (i := 74) (by decide +kernel), by decide⟩
set_option maxHeartbeats 4000000 in
theorem L_T_replay_9 {X : FX} {u : Un} (hA : Ap u) {Q : State → Prop} (F : Fr X u "TakerBook" b_T_replay 2) {σ : St} {n G : Nat} {kd : Nat → Nat} (hb : bkOk σ n G kd) {D : Nat} (hD : σ.1 49 2 = nI D) {wN aN : Nat → Nat} (hw : dwOk σ n D wN aN) (hD1 : D ≤ 40) (k : V X u 8 2 Q 51 [(0, .ref (u.2.1 0)), (1, .int (nI D))] [] (((rpS σ kd G n wN aN D).1))) : ∀ (nn d : Nat), d ≤ D → D - d < nn → V X u 8 2 Q 9 [(0, .ref (u.2.1 0)), (1, .int (nI d))] [] (((rpS σ kd G n wN aN d).1)) := by
  intro nn
  induction nn with
  | zero =>
    intro d h1 h2
    exact absurd h2 (Nat.not_lt_zero _)
  | succ nn ih =>
    intro d hii hnn
    refine v_iload_n F d_T_replay_9 rfl 1 rfl ?_
    refine v_aload_n F d_T_replay_10 rfl 0 rfl ?_
    refine v_getr (r := 49) F fk_T_57 G0 rfl d_T_replay_11 ?_
    refine v_geti F fk_T_72 G49 rfl d_T_replay_14 ?_
    refine v_te (y := nI D) (by rw [(rpS_facts hb wN aN d).2.2.2 _ (by decide) (by decide)]; exact hD) ?_
    refine v_icmp_ge F 51 d_T_replay_17 rfl (fun h17 => ?_) (fun h17 => ?_)
    · skip
      have h17 : D ≤ d := (nI_leI (a := D) (b := d) (by omega) (by omega)).mp h17
      have he : d = D := by omega
      subst he
      exact k
    · skip
      have h17 : ¬ D ≤ d := fun q => h17 ((nI_leI (a := D) (b := d) (by omega) (by omega)).mpr q)
      refine v_aload_n F d_T_replay_20 rfl 0 rfl ?_
      refine v_getr (r := 19) F fk_T_36 G0 rfl d_T_replay_21 ?_
      refine v_aload_n F d_T_replay_24 rfl 0 rfl ?_
      refine v_getr (r := 49) F fk_T_57 G0 rfl d_T_replay_25 ?_
      refine v_getr (r := 50) F fk_T_349 G49 rfl d_T_replay_28 ?_
      refine v_iload_n F d_T_replay_31 rfl 1 rfl ?_
      refine v_ial F d G50 rfl (by omega) d_T_replay_32 ?_
      refine v_te (y := nI (wN d)) (by rw [(rpS_facts hb wN aN d).2.2.2 _ (by decide) (by decide)]; exact (hw d (by omega)).1) ?_
      refine v_aload_n F d_T_replay_33 rfl 0 rfl ?_
      refine v_getr (r := 49) F fk_T_57 G0 rfl d_T_replay_34 ?_
      refine v_getr (r := 51) F fk_T_352 G49 rfl d_T_replay_37 ?_
      refine v_iload_n F d_T_replay_40 rfl 1 rfl ?_
      refine v_ial F d G51 rfl (by omega) d_T_replay_41 ?_
      refine v_te (y := nI (aN d)) (by rw [(rpS_facts hb wN aN d).2.2.2 _ (by decide) (by decide)]; exact (hw d (by omega)).2.1) ?_
      refine v_runv (r_V F (c_B_enactN X.2.1 u hA ((rpS σ kd G n wN aN d).1) (rpS_facts hb wN aN d).1 (rpS_facts hb wN aN d).2.1 (rpS_facts hb wN aN d).2.2.1 (wN d) (aN d) (hw d (by omega)).2.2.1 (hw d (by omega)).2.2.2) mo_B_enact st_T_345 rc_19 (by decide) rfl (Nat.le_of_ble_eq_true rfl) d_T_replay_42) (fun σ2 q3 => ?_)
      refine v_iinc (v := nI (d + 1)) (ls' := [(1, .int (nI (d + 1))), (0, .ref (u.2.1 0))]) F d_T_replay_45 (j := 1) rfl (nI_inc _) (by decide) rfl ?_
      refine v_goto F 9 d_T_replay_48 rfl ?_
      refine v_sub [1, 0] (ls' := [(0, .ref (u.2.1 0)), (1, .int (nI (d + 1)))]) rfl ?_
      refine v_st (show σ2 = ((rpS σ kd G n wN aN (d + 1)).1) from (by first | rfl | (simp_all [rpS]; done))) ?_
      exact ih (d + 1) (by omega) (by omega)
set_option maxHeartbeats 4000000 in
theorem c_T_replay (l : Launch) (u : Un) (hA : Ap u) (σ : St) {n G : Nat} {kd : Nat → Nat} (hb : bkOk σ n G kd) {D : Nat} (hD : σ.1 49 2 = nI D) {wN aN : Nat → Nat} (hw : dwOk σ n D wN aN) (hD1 : D ≤ 40) : MTv l u y_T_replay b_T_replay 2 8 [.ref (u.2.1 0)] σ (fun σ' => σ' = (rpS σ kd G n wN aN D).1) := by
  refine MT_of hA rfl (by decide) (Nat.le_of_ble_eq_true rfl) (fun X hl F hr => ?_)
  subst hl
  refine v_to (ls' := [(0, .ref (u.2.1 0))]) rfl ?_
  obtain ⟨hn, hn6, hG, hG64, hkd, hk6⟩ := id hb
  refine v_aload_n F d_T_replay_0 rfl 0 rfl ?_
  refine v_getr (r := 19) F fk_T_36 G0 rfl d_T_replay_1 ?_
  refine v_runv (r_V F (c_B_restart X.2.1 u hA σ hn hn6) mo_B_restart st_T_346 rc_19 (by decide) rfl (Nat.le_of_ble_eq_true rfl) d_T_replay_4) (fun σ2 q3 => ?_)
  refine v_iconst (v := 0) F d_T_replay_7 ki_0 ?_
  refine v_istore_n (ls' := [(1, .int 0), (0, .ref (u.2.1 0))]) F d_T_replay_8 rfl (by decide) rfl ?_
  subst q3
  refine v_sub [1, 0] (ls' := [(0, .ref (u.2.1 0)), (1, .int 0)]) rfl ?_
  have g4 : 0 = (nI 0) := (by first | rfl | (simp_all [rpS]; done))
  refine v_to (ls' := [(0, .ref (u.2.1 0)), (1, .int (nI 0))]) (by first | rfl | rw [g4] | simp_all) ?_
  refine v_st (show (rsS σ n) = ((rpS σ kd G n wN aN 0).1) from (by first | rfl | (simp_all [rpS]; done))) ?_
  refine L_T_replay_9 hA F hb hD hw hD1 ?_ _ 0 (Nat.zero_le _) (Nat.lt_succ_self _)
  refine v_vret F hr d_T_replay_51 ?_
  rfl
