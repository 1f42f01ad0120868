theorem fk_T_369 : fok "TakerBook" 369 1 3 := ⟨(R_B, F_B, 19), rfl, by decide, List.mem_of_getElem? (i := 184) (by decide +kernel), rfl⟩
theorem st_T_266 : siteV "TakerBook" 266 ⟨"TakerBook", "spokeSo", "(IIII)Z"⟩ := ⟨List.mem_of_getElem? (i := 851) (by decide +kernel), List.mem_of_getElem? (i := 853) (by decide +kernel), List.mem_of_getElem? (i := 21) (by decide +kernel)⟩
theorem st_T_263 : siteV "TakerBook" 263 ⟨"TakerBook", "refusedTriples", "(II)I"⟩ := ⟨List.mem_of_getElem? (i := 844) (by decide +kernel), List.mem_of_getElem? (i := 846) (by decide +kernel), List.mem_of_getElem? (i := 20) (by decide +kernel)⟩
theorem st_T_270 : siteV "TakerBook" 270 ⟨"TakerBook", "kindsBy", "(II)I"⟩ := ⟨List.mem_of_getElem? (i := 861) (by decide +kernel), List.mem_of_getElem? (i := 863) (by decide +kernel), List.mem_of_getElem? (i := 22) (by decide +kernel)⟩
theorem st_T_273 : siteV "TakerBook" 273 ⟨"TakerBook", "greaterPartOfKinds", "(IIII)I"⟩ := ⟨List.mem_of_getElem? (i := 869) (by decide +kernel), List.mem_of_getElem? (i := 871) (by decide +kernel), List.mem_of_getElem? (i := 23) (by decide +kernel)⟩
theorem kb_10 : (Int8.ofInt 10).toInt32 = (10 : Int32) := by decide
abbrev b_T_kindsBy : ByteArray := prog_1_method_69_code
abbrev y_T_kindsBy : MethodName := ⟨"TakerBook", "kindsBy", "(II)I"⟩
theorem d_T_kindsBy_0 : decode b_T_kindsBy 0 = .ok (.iconst 0, 1) := by decide +kernel
theorem d_T_kindsBy_1 : decode b_T_kindsBy 1 = .ok (.istore_n 3, 1) := by decide +kernel
theorem d_T_kindsBy_2 : decode b_T_kindsBy 2 = .ok (.iconst 0, 1) := by decide +kernel
theorem d_T_kindsBy_3 : decode b_T_kindsBy 3 = .ok (.istore 4, 2) := by decide +kernel
theorem d_T_kindsBy_5 : decode b_T_kindsBy 5 = .ok (.iload 4, 2) := by decide +kernel
theorem d_T_kindsBy_7 : decode b_T_kindsBy 7 = .ok (.bipush 6, 2) := by decide +kernel
theorem d_T_kindsBy_9 : decode b_T_kindsBy 9 = .ok (.if_icmp .ge 36, 3) := by decide +kernel
theorem d_T_kindsBy_12 : decode b_T_kindsBy 12 = .ok (.aload_n 0, 1) := by decide +kernel
theorem d_T_kindsBy_13 : decode b_T_kindsBy 13 = .ok (.iload_n 1, 1) := by decide +kernel
theorem d_T_kindsBy_14 : decode b_T_kindsBy 14 = .ok (.iload 4, 2) := by decide +kernel
theorem d_T_kindsBy_16 : decode b_T_kindsBy 16 = .ok (.aload_n 0, 1) := by decide +kernel
theorem d_T_kindsBy_17 : decode b_T_kindsBy 17 = .ok (.getfield 36, 3) := by decide +kernel
theorem d_T_kindsBy_20 : decode b_T_kindsBy 20 = .ok (.getfield 369, 3) := by decide +kernel
theorem d_T_kindsBy_23 : decode b_T_kindsBy 23 = .ok (.iload_n 1, 1) := by decide +kernel
theorem d_T_kindsBy_24 : decode b_T_kindsBy 24 = .ok (.iaload, 1) := by decide +kernel
theorem d_T_kindsBy_25 : decode b_T_kindsBy 25 = .ok (.iload_n 2, 1) := by decide +kernel
theorem d_T_kindsBy_26 : decode b_T_kindsBy 26 = .ok (.invokevirtual 266, 3) := by decide +kernel
theorem d_T_kindsBy_29 : decode b_T_kindsBy 29 = .ok (.ifCond .eq 10, 3) := by decide +kernel
theorem d_T_kindsBy_32 : decode b_T_kindsBy 32 = .ok (.iload_n 3, 1) := by decide +kernel
theorem d_T_kindsBy_33 : decode b_T_kindsBy 33 = .ok (.iconst 1, 1) := by decide +kernel
theorem d_T_kindsBy_34 : decode b_T_kindsBy 34 = .ok (.iload 4, 2) := by decide +kernel
theorem d_T_kindsBy_36 : decode b_T_kindsBy 36 = .ok (.ishl, 1) := by decide +kernel
theorem d_T_kindsBy_37 : decode b_T_kindsBy 37 = .ok (.ior, 1) := by decide +kernel
theorem d_T_kindsBy_38 : decode b_T_kindsBy 38 = .ok (.istore_n 3, 1) := by decide +kernel
theorem d_T_kindsBy_39 : decode b_T_kindsBy 39 = .ok (.iinc 4 1, 3) := by decide +kernel
theorem d_T_kindsBy_42 : decode b_T_kindsBy 42 = .ok (.goto (-37), 3) := by decide +kernel
theorem d_T_kindsBy_45 : decode b_T_kindsBy 45 = .ok (.iload_n 3, 1) := by decide +kernel
theorem d_T_kindsBy_46 : decode b_T_kindsBy 46 = .ok (.ireturn, 1) := by decide +kernel
theorem mo_T_kindsBy : mok y_T_kindsBy b_T_kindsBy 5 (some .int) 2 := ⟨List.mem_of_getElem? (i := 864) (by decide +kernel), ⟨by decide +kernel, by decide +kernel, by decide +kernel⟩, List.mem_of_getElem? (i := 74) (by decide +kernel), by decide⟩
set_option maxHeartbeats 4000000 in
theorem L_T_kindsBy_5 {X : FX} {u : Un} (hA : Ap u) {Q : State → Prop} (F : Fr X u "TakerBook" b_T_kindsBy 5) {σ : St} {n G : Nat} {kd : Nat → Nat} (hb : bkOk σ n G kd) {L : Nat} (hL : σ.1 19 14 = nI L) (hL64 : L < 64) {a N : Nat} (ha : a < 6) (hN : N ≤ 40) (eN : σ.1 8 a = nI N) {i : Nat} (hi : i < n) (k : V X u 6 5 Q 45 [(0, .ref (u.2.1 0)), (1, .int (nI i)), (2, .int (nI a)), (3, .int (nI (mkN (fun k => allB (spB σ (2 + a) k (σ.1 29 i) (nI (othN L G i))) (N / 3)) 6))), (4, .int (nI 6))] [] (σ)) : ∀ (nn kk : Nat), kk ≤ 6 → 6 - kk < nn → V X u 6 5 Q 5 [(0, .ref (u.2.1 0)), (1, .int (nI i)), (2, .int (nI a)), (3, .int (nI (mkN (fun k => allB (spB σ (2 + a) k (σ.1 29 i) (nI (othN L G i))) (N / 3)) kk))), (4, .int (nI kk))] [] (σ) := by
  intro nn
  induction nn with
  | zero =>
    intro kk h1 h2
    exact absurd h2 (Nat.not_lt_zero _)
  | succ nn ih =>
    intro kk hii hnn
    obtain ⟨hn, hn6, hG, hG64, hkd, hk6⟩ := id hb
    refine v_iload F d_T_kindsBy_5 4 rfl ?_
    refine v_bipush (v := 6) F d_T_kindsBy_7 kb_6 ?_
    refine v_icmp_ge F 45 d_T_kindsBy_9 rfl (fun h9 => ?_) (fun h9 => ?_)
    · skip
      have h9 : 6 ≤ kk := (nI_leI (a := 6) (b := kk) (by omega) (by omega)).mp h9
      have he : kk = 6 := by omega
      subst he
      exact k
    · skip
      have h9 : ¬ 6 ≤ kk := fun q => h9 ((nI_leI (a := 6) (b := kk) (by omega) (by omega)).mpr q)
      refine v_aload_n F d_T_kindsBy_12 rfl 0 rfl ?_
      refine v_iload_n F d_T_kindsBy_13 rfl 1 rfl ?_
      refine v_iload F d_T_kindsBy_14 4 rfl ?_
      refine v_aload_n F d_T_kindsBy_16 rfl 0 rfl ?_
      refine v_getr (r := 19) F fk_T_36 G0 rfl d_T_kindsBy_17 ?_
      refine v_getr (r := 29) F fk_T_369 G19 rfl d_T_kindsBy_20 ?_
      refine v_iload_n F d_T_kindsBy_23 rfl 1 rfl ?_
      refine v_ial F i G29 rfl (by omega) d_T_kindsBy_24 ?_
      refine v_iload_n F d_T_kindsBy_25 rfl 2 rfl ?_
      refine v_runi (r_V F (c_T_spokeSo X.2.1 u hA σ hb hL hL64 ha hN eN i kk (σ.1 29 i) (by omega) (by omega)) mo_T_spokeSo st_T_266 rc_0 (by decide) rfl (Nat.le_of_ble_eq_true rfl) d_T_kindsBy_26) (fun r1 σ2 q3 => ?_)
      obtain ⟨rfl, rfl⟩ := q3
      refine v_bt F 39 d_T_kindsBy_29 rfl (fun h29 => ?_) (fun h29 => ?_)
      · skip
        refine v_iinc (v := nI (kk + 1)) (ls' := [(4, .int (nI (kk + 1))), (0, .ref (u.2.1 0)), (1, .int (nI i)), (2, .int (nI a)), (3, .int (nI (mkN (fun k => allB (spB σ (2 + a) k (σ.1 29 i) (nI (othN L G i))) (N / 3)) kk)))]) F d_T_kindsBy_39 (j := 4) rfl (nI_inc _) (by decide) rfl ?_
        refine v_goto F 5 d_T_kindsBy_42 rfl ?_
        refine v_sub [1, 2, 3, 4, 0] (ls' := [(0, .ref (u.2.1 0)), (1, .int (nI i)), (2, .int (nI a)), (3, .int (nI (mkN (fun k => allB (spB σ (2 + a) k (σ.1 29 i) (nI (othN L G i))) (N / 3)) kk))), (4, .int (nI (kk + 1)))]) rfl ?_
        have g4 : (nI (mkN (fun k => allB (spB σ (2 + a) k (σ.1 29 i) (nI (othN L G i))) (N / 3)) kk)) = (nI (mkN (fun k => allB (spB σ (2 + a) k (σ.1 29 i) (nI (othN L G i))) (N / 3)) (kk + 1))) := (by first | rfl | (rw [mkN_t (f := (fun k => allB (spB σ (2 + a) k (σ.1 29 i) (nI (othN L G i))) (N / 3))) (by assumption)]; first | done | assumption) | (rw [mkN_f (f := (fun k => allB (spB σ (2 + a) k (σ.1 29 i) (nI (othN L G i))) (N / 3))) (by assumption)]; first | done | assumption))
        refine v_to (ls' := [(0, .ref (u.2.1 0)), (1, .int (nI i)), (2, .int (nI a)), (3, .int (nI (mkN (fun k => allB (spB σ (2 + a) k (σ.1 29 i) (nI (othN L G i))) (N / 3)) (kk + 1)))), (4, .int (nI (kk + 1)))]) (by first | rfl | rw [g4] | simp_all) ?_
        exact ih (kk + 1) (by omega) (by omega)
      · skip
        refine v_iload_n F d_T_kindsBy_32 rfl 3 rfl ?_
        refine v_iconst (v := 1) F d_T_kindsBy_33 ki_1 ?_
        refine v_iload F d_T_kindsBy_34 4 rfl ?_
        refine v_ishl F d_T_kindsBy_36 ?_
        refine v_te (y := nI (2 ^ kk)) (bit6 _ (by omega)) ?_
        refine v_ior F d_T_kindsBy_37 ?_
        refine v_te (y := nI ((mkN (fun k => allB (spB σ (2 + a) k (σ.1 29 i) (nI (othN L G i))) (N / 3)) kk) ||| (2 ^ kk))) nI_or ?_
        refine v_istore_n (ls' := [(3, .int (nI ((mkN (fun k => allB (spB σ (2 + a) k (σ.1 29 i) (nI (othN L G i))) (N / 3)) kk) ||| (2 ^ kk)))), (0, .ref (u.2.1 0)), (1, .int (nI i)), (2, .int (nI a)), (4, .int (nI kk))]) F d_T_kindsBy_38 rfl (by decide) rfl ?_
        refine v_iinc (v := nI (kk + 1)) (ls' := [(4, .int (nI (kk + 1))), (3, .int (nI ((mkN (fun k => allB (spB σ (2 + a) k (σ.1 29 i) (nI (othN L G i))) (N / 3)) kk) ||| (2 ^ kk)))), (0, .ref (u.2.1 0)), (1, .int (nI i)), (2, .int (nI a))]) F d_T_kindsBy_39 (j := 4) rfl (nI_inc _) (by decide) rfl ?_
        refine v_goto F 5 d_T_kindsBy_42 rfl ?_
        refine v_sub [2, 3, 4, 1, 0] (ls' := [(0, .ref (u.2.1 0)), (1, .int (nI i)), (2, .int (nI a)), (3, .int (nI ((mkN (fun k => allB (spB σ (2 + a) k (σ.1 29 i) (nI (othN L G i))) (N / 3)) kk) ||| (2 ^ kk)))), (4, .int (nI (kk + 1)))]) rfl ?_
        have g5 : (nI ((mkN (fun k => allB (spB σ (2 + a) k (σ.1 29 i) (nI (othN L G i))) (N / 3)) kk) ||| (2 ^ kk))) = (nI (mkN (fun k => allB (spB σ (2 + a) k (σ.1 29 i) (nI (othN L G i))) (N / 3)) (kk + 1))) := (by first | rfl | (rw [mkN_t (f := (fun k => allB (spB σ (2 + a) k (σ.1 29 i) (nI (othN L G i))) (N / 3))) (by assumption)]; first | done | assumption) | (rw [mkN_f (f := (fun k => allB (spB σ (2 + a) k (σ.1 29 i) (nI (othN L G i))) (N / 3))) (by assumption)]; first | done | assumption))
        refine v_to (ls' := [(0, .ref (u.2.1 0)), (1, .int (nI i)), (2, .int (nI a)), (3, .int (nI (mkN (fun k => allB (spB σ (2 + a) k (σ.1 29 i) (nI (othN L G i))) (N / 3)) (kk + 1)))), (4, .int (nI (kk + 1)))]) (by first | rfl | rw [g5] | simp_all) ?_
        exact ih (kk + 1) (by omega) (by omega)
set_option maxHeartbeats 4000000 in
theorem c_T_kindsBy (l : Launch) (u : Un) (hA : Ap u) (σ : St) {n G : Nat} {kd : Nat → Nat} (hb : bkOk σ n G kd) {L : Nat} (hL : σ.1 19 14 = nI L) (hL64 : L < 64) {a N : Nat} (ha : a < 6) (hN : N ≤ 40) (eN : σ.1 8 a = nI N) (i : Nat) (hi : i < n) : MTi l u y_T_kindsBy b_T_kindsBy 5 .int 6 [.ref (u.2.1 0), .int (nI i), .int (nI a)] σ (fun ans σ' => nI (kbN σ G L i a N) = ans ∧ σ = σ') := by
  refine MT_of hA rfl (by decide) (Nat.le_of_ble_eq_true rfl) (fun X hl F hr => ?_)
  subst hl
  refine v_to (ls' := [(0, .ref (u.2.1 0)), (1, .int (nI i)), (2, .int (nI a))]) rfl ?_
  obtain ⟨hn, hn6, hG, hG64, hkd, hk6⟩ := id hb
  refine v_iconst (v := 0) F d_T_kindsBy_0 ki_0 ?_
  refine v_istore_n (ls' := [(3, .int 0), (0, .ref (u.2.1 0)), (1, .int (nI i)), (2, .int (nI a))]) F d_T_kindsBy_1 rfl (by decide) rfl ?_
  refine v_iconst (v := 0) F d_T_kindsBy_2 ki_0 ?_
  refine v_istore (ls' := [(4, .int 0), (3, .int 0), (0, .ref (u.2.1 0)), (1, .int (nI i)), (2, .int (nI a))]) F d_T_kindsBy_3 (by decide) rfl ?_
  refine v_sub [2, 3, 4, 1, 0] (ls' := [(0, .ref (u.2.1 0)), (1, .int (nI i)), (2, .int (nI a)), (3, .int 0), (4, .int 0)]) rfl ?_
  have g1 : 0 = (nI (mkN (fun k => allB (spB σ (2 + a) k (σ.1 29 i) (nI (othN L G i))) (N / 3)) 0)) := (by first | rfl | (rw [mkN_t (f := (fun k => allB (spB σ (2 + a) k (σ.1 29 i) (nI (othN L G i))) (N / 3))) (by assumption)]; first | done | assumption) | (rw [mkN_f (f := (fun k => allB (spB σ (2 + a) k (σ.1 29 i) (nI (othN L G i))) (N / 3))) (by assumption)]; first | done | assumption))
  have g2 : 0 = (nI 0) := (by first | rfl | (rw [mkN_t (f := (fun k => allB (spB σ (2 + a) k (σ.1 29 i) (nI (othN L G i))) (N / 3))) (by assumption)]; first | done | assumption) | (rw [mkN_f (f := (fun k => allB (spB σ (2 + a) k (σ.1 29 i) (nI (othN L G i))) (N / 3))) (by assumption)]; first | done | assumption))
  refine v_to (ls' := [(0, .ref (u.2.1 0)), (1, .int (nI i)), (2, .int (nI a)), (3, .int (nI (mkN (fun k => allB (spB σ (2 + a) k (σ.1 29 i) (nI (othN L G i))) (N / 3)) 0))), (4, .int (nI 0))]) (by first | rfl | rw [g1, g2] | simp_all) ?_
  refine L_T_kindsBy_5 hA F hb hL hL64 ha hN eN hi ?_ _ 0 (Nat.zero_le _) (Nat.lt_succ_self _)
  refine v_iload_n F d_T_kindsBy_45 rfl 3 rfl ?_
  refine v_iret F hr rfl d_T_kindsBy_46 ?_
  exact ⟨rfl, rfl⟩
abbrev b_T_greaterPartOfKinds : ByteArray := prog_1_method_70_code
abbrev y_T_greaterPartOfKinds : MethodName := ⟨"TakerBook", "greaterPartOfKinds", "(IIII)I"⟩
theorem d_T_greaterPartOfKinds_0 : decode b_T_greaterPartOfKinds 0 = .ok (.aload_n 0, 1) := by decide +kernel
theorem d_T_greaterPartOfKinds_1 : decode b_T_greaterPartOfKinds 1 = .ok (.getfield 36, 3) := by decide +kernel
theorem d_T_greaterPartOfKinds_4 : decode b_T_greaterPartOfKinds 4 = .ok (.iload_n 1, 1) := by decide +kernel
theorem d_T_greaterPartOfKinds_5 : decode b_T_greaterPartOfKinds 5 = .ok (.aload_n 0, 1) := by decide +kernel
theorem d_T_greaterPartOfKinds_6 : decode b_T_greaterPartOfKinds 6 = .ok (.getfield 36, 3) := by decide +kernel
theorem d_T_greaterPartOfKinds_9 : decode b_T_greaterPartOfKinds 9 = .ok (.getfield 166, 3) := by decide +kernel
theorem d_T_greaterPartOfKinds_12 : decode b_T_greaterPartOfKinds 12 = .ok (.invokevirtual 363, 3) := by decide +kernel
theorem d_T_greaterPartOfKinds_15 : decode b_T_greaterPartOfKinds 15 = .ok (.istore 5, 2) := by decide +kernel
theorem d_T_greaterPartOfKinds_17 : decode b_T_greaterPartOfKinds 17 = .ok (.iconst 0, 1) := by decide +kernel
theorem d_T_greaterPartOfKinds_18 : decode b_T_greaterPartOfKinds 18 = .ok (.istore 6, 2) := by decide +kernel
theorem d_T_greaterPartOfKinds_20 : decode b_T_greaterPartOfKinds 20 = .ok (.iconst 0, 1) := by decide +kernel
theorem d_T_greaterPartOfKinds_21 : decode b_T_greaterPartOfKinds 21 = .ok (.istore 7, 2) := by decide +kernel
theorem d_T_greaterPartOfKinds_23 : decode b_T_greaterPartOfKinds 23 = .ok (.iload 7, 2) := by decide +kernel
theorem d_T_greaterPartOfKinds_25 : decode b_T_greaterPartOfKinds 25 = .ok (.bipush 6, 2) := by decide +kernel
theorem d_T_greaterPartOfKinds_27 : decode b_T_greaterPartOfKinds 27 = .ok (.if_icmp .ge 50, 3) := by decide +kernel
theorem d_T_greaterPartOfKinds_30 : decode b_T_greaterPartOfKinds 30 = .ok (.iload 7, 2) := by decide +kernel
theorem d_T_greaterPartOfKinds_32 : decode b_T_greaterPartOfKinds 32 = .ok (.iload_n 2, 1) := by decide +kernel
theorem d_T_greaterPartOfKinds_33 : decode b_T_greaterPartOfKinds 33 = .ok (.invokestatic 169, 3) := by decide +kernel
theorem d_T_greaterPartOfKinds_36 : decode b_T_greaterPartOfKinds 36 = .ok (.ifCond .eq 35, 3) := by decide +kernel
theorem d_T_greaterPartOfKinds_39 : decode b_T_greaterPartOfKinds 39 = .ok (.aload_n 0, 1) := by decide +kernel
theorem d_T_greaterPartOfKinds_40 : decode b_T_greaterPartOfKinds 40 = .ok (.getfield 36, 3) := by decide +kernel
theorem d_T_greaterPartOfKinds_43 : decode b_T_greaterPartOfKinds 43 = .ok (.iload 7, 2) := by decide +kernel
theorem d_T_greaterPartOfKinds_45 : decode b_T_greaterPartOfKinds 45 = .ok (.invokevirtual 130, 3) := by decide +kernel
theorem d_T_greaterPartOfKinds_48 : decode b_T_greaterPartOfKinds 48 = .ok (.aload_n 0, 1) := by decide +kernel
theorem d_T_greaterPartOfKinds_49 : decode b_T_greaterPartOfKinds 49 = .ok (.getfield 36, 3) := by decide +kernel
theorem d_T_greaterPartOfKinds_52 : decode b_T_greaterPartOfKinds 52 = .ok (.getfield 369, 3) := by decide +kernel
theorem d_T_greaterPartOfKinds_55 : decode b_T_greaterPartOfKinds 55 = .ok (.iload_n 1, 1) := by decide +kernel
theorem d_T_greaterPartOfKinds_56 : decode b_T_greaterPartOfKinds 56 = .ok (.iaload, 1) := by decide +kernel
theorem d_T_greaterPartOfKinds_57 : decode b_T_greaterPartOfKinds 57 = .ok (.iload_n 3, 1) := by decide +kernel
theorem d_T_greaterPartOfKinds_58 : decode b_T_greaterPartOfKinds 58 = .ok (.iload 4, 2) := by decide +kernel
theorem d_T_greaterPartOfKinds_60 : decode b_T_greaterPartOfKinds 60 = .ok (.iload 5, 2) := by decide +kernel
theorem d_T_greaterPartOfKinds_62 : decode b_T_greaterPartOfKinds 62 = .ok (.invokevirtual 366, 3) := by decide +kernel
theorem d_T_greaterPartOfKinds_65 : decode b_T_greaterPartOfKinds 65 = .ok (.ifCond .eq 6, 3) := by decide +kernel
theorem d_T_greaterPartOfKinds_68 : decode b_T_greaterPartOfKinds 68 = .ok (.iinc 6 1, 3) := by decide +kernel
theorem d_T_greaterPartOfKinds_71 : decode b_T_greaterPartOfKinds 71 = .ok (.iinc 7 1, 3) := by decide +kernel
theorem d_T_greaterPartOfKinds_74 : decode b_T_greaterPartOfKinds 74 = .ok (.goto (-51), 3) := by decide +kernel
theorem d_T_greaterPartOfKinds_77 : decode b_T_greaterPartOfKinds 77 = .ok (.iload 6, 2) := by decide +kernel
theorem d_T_greaterPartOfKinds_79 : decode b_T_greaterPartOfKinds 79 = .ok (.iload_n 2, 1) := by decide +kernel
theorem d_T_greaterPartOfKinds_80 : decode b_T_greaterPartOfKinds 80 = .ok (.invokestatic 189, 3) := by decide +kernel
theorem d_T_greaterPartOfKinds_83 : decode b_T_greaterPartOfKinds 83 = .ok (.iload 6, 2) := by decide +kernel
theorem d_T_greaterPartOfKinds_85 : decode b_T_greaterPartOfKinds 85 = .ok (.isub, 1) := by decide +kernel
theorem d_T_greaterPartOfKinds_86 : decode b_T_greaterPartOfKinds 86 = .ok (.invokestatic 358, 3) := by decide +kernel
theorem d_T_greaterPartOfKinds_89 : decode b_T_greaterPartOfKinds 89 = .ok (.ireturn, 1) := by decide +kernel
theorem mo_T_greaterPartOfKinds : mok y_T_greaterPartOfKinds b_T_greaterPartOfKinds 8 (some .int) 4 := ⟨List.mem_of_getElem? (i := 872) (by decide +kernel), ⟨by decide +kernel, by decide +kernel, by decide +kernel⟩, List.mem_of_getElem? (i := 74) (by decide +kernel), by decide⟩
set_option maxHeartbeats 4000000 in
theorem L_T_greaterPartOfKinds_23 {X : FX} {u : Un} (hA : Ap u) {Q : State → Prop} (F : Fr X u "TakerBook" b_T_greaterPartOfKinds 8) {σ : St} {n G : Nat} {kd : Nat → Nat} (hb : bkOk σ n G kd) {L : Nat} (hL : σ.1 19 14 = nI L) (hL64 : L < 64) {i c : Nat} {fe cr : Int32} (hi : i < n) (hc : c < 64) (k : V X u 5 8 Q 77 [(0, .ref (u.2.1 0)), (1, .int (nI i)), (2, .int (nI c)), (3, .int fe), (4, .int cr), (5, .int (nI (othN L G i))), (6, .int (nI (cntN (gkF σ i c fe cr (nI (othN L G i))) 6))), (7, .int (nI 6))] [] (σ)) : ∀ (nn kk : Nat), kk ≤ 6 → 6 - kk < nn → V X u 5 8 Q 23 [(0, .ref (u.2.1 0)), (1, .int (nI i)), (2, .int (nI c)), (3, .int fe), (4, .int cr), (5, .int (nI (othN L G i))), (6, .int (nI (cntN (gkF σ i c fe cr (nI (othN L G i))) kk))), (7, .int (nI kk))] [] (σ) := by
  intro nn
  induction nn with
  | zero =>
    intro kk h1 h2
    exact absurd h2 (Nat.not_lt_zero _)
  | succ nn ih =>
    intro kk hii hnn
    obtain ⟨hn, hn6, hG, hG64, hkd, hk6⟩ := id hb
    refine v_iload F d_T_greaterPartOfKinds_23 7 rfl ?_
    refine v_bipush (v := 6) F d_T_greaterPartOfKinds_25 kb_6 ?_
    refine v_icmp_ge F 77 d_T_greaterPartOfKinds_27 rfl (fun h27 => ?_) (fun h27 => ?_)
    · skip
      have h27 : 6 ≤ kk := (nI_leI (a := 6) (b := kk) (by omega) (by omega)).mp h27
      have he : kk = 6 := by omega
      subst he
      exact k
    · skip
      have h27 : ¬ 6 ≤ kk := fun q => h27 ((nI_leI (a := 6) (b := kk) (by omega) (by omega)).mpr q)
      refine v_iload F d_T_greaterPartOfKinds_30 7 rfl ?_
      refine v_iload_n F d_T_greaterPartOfKinds_32 rfl 2 rfl ?_
      refine v_runi (r_S F (c_T_isIn2 X.2.1 u hA σ kk c (by omega) (by omega)) mo_T_isIn st_T_169 (by decide) rfl (Nat.le_of_ble_eq_true rfl) d_T_greaterPartOfKinds_33) (fun r1 σ2 q3 => ?_)
      obtain ⟨rfl, rfl⟩ := q3
      refine v_bt F 71 d_T_greaterPartOfKinds_36 rfl (fun h36 => ?_) (fun h36 => ?_)
      · skip
        refine v_iinc (v := nI (kk + 1)) (ls' := [(7, .int (nI (kk + 1))), (0, .ref (u.2.1 0)), (1, .int (nI i)), (2, .int (nI c)), (3, .int fe), (4, .int cr), (5, .int (nI (othN L G i))), (6, .int (nI (cntN (gkF σ i c fe cr (nI (othN L G i))) kk)))]) F d_T_greaterPartOfKinds_71 (j := 7) rfl (nI_inc _) (by decide) rfl ?_
        refine v_goto F 23 d_T_greaterPartOfKinds_74 rfl ?_
        refine v_sub [1, 2, 3, 4, 5, 6, 7, 0] (ls' := [(0, .ref (u.2.1 0)), (1, .int (nI i)), (2, .int (nI c)), (3, .int fe), (4, .int cr), (5, .int (nI (othN L G i))), (6, .int (nI (cntN (gkF σ i c fe cr (nI (othN L G i))) kk))), (7, .int (nI (kk + 1)))]) rfl ?_
        have g4 : (nI (cntN (gkF σ i c fe cr (nI (othN L G i))) kk)) = (nI (cntN (gkF σ i c fe cr (nI (othN L G i))) (kk + 1))) := (by first | rfl | (rw [cntN_t (f := (gkF σ i c fe cr (nI (othN L G i)))) (by simp only [gkF, Bool.and_eq_true]; exact ⟨by assumption, by assumption⟩)]; done) | (rw [cntN_f (f := (gkF σ i c fe cr (nI (othN L G i)))) (by simp only [gkF, Bool.and_eq_true]; rintro ⟨q1, q2⟩; first | exact absurd q1 (by assumption) | exact absurd q2 (by assumption))]; done))
        refine v_to (ls' := [(0, .ref (u.2.1 0)), (1, .int (nI i)), (2, .int (nI c)), (3, .int fe), (4, .int cr), (5, .int (nI (othN L G i))), (6, .int (nI (cntN (gkF σ i c fe cr (nI (othN L G i))) (kk + 1)))), (7, .int (nI (kk + 1)))]) (by first | rfl | rw [g4] | simp_all) ?_
        exact ih (kk + 1) (by omega) (by omega)
      · skip
        refine v_aload_n F d_T_greaterPartOfKinds_39 rfl 0 rfl ?_
        refine v_getr (r := 19) F fk_T_36 G0 rfl d_T_greaterPartOfKinds_40 ?_
        refine v_iload F d_T_greaterPartOfKinds_43 7 rfl ?_
        refine v_runr (r_V F (c_B_nature X.2.1 u hA σ kk (by omega)) mo_B_nature st_T_130 rc_19 (by decide) rfl (Nat.le_of_ble_eq_true rfl) d_T_greaterPartOfKinds_45) ?_
        refine v_aload_n F d_T_greaterPartOfKinds_48 rfl 0 rfl ?_
        refine v_getr (r := 19) F fk_T_36 G0 rfl d_T_greaterPartOfKinds_49 ?_
        refine v_getr (r := 29) F fk_T_369 G19 rfl d_T_greaterPartOfKinds_52 ?_
        refine v_iload_n F d_T_greaterPartOfKinds_55 rfl 1 rfl ?_
        refine v_ial F i G29 rfl (by omega) d_T_greaterPartOfKinds_56 ?_
        refine v_iload_n F d_T_greaterPartOfKinds_57 rfl 3 rfl ?_
        refine v_iload F d_T_greaterPartOfKinds_58 4 rfl ?_
        refine v_iload F d_T_greaterPartOfKinds_60 5 rfl ?_
        refine vs_T_366 hA F (k := kk) (by omega) (by decide) (Nat.le_of_ble_eq_true rfl) d_T_greaterPartOfKinds_62 ?_
        refine v_bt F 71 d_T_greaterPartOfKinds_65 rfl (fun h65 => ?_) (fun h65 => ?_)
        · skip
          refine v_iinc (v := nI (kk + 1)) (ls' := [(7, .int (nI (kk + 1))), (0, .ref (u.2.1 0)), (1, .int (nI i)), (2, .int (nI c)), (3, .int fe), (4, .int cr), (5, .int (nI (othN L G i))), (6, .int (nI (cntN (gkF σ i c fe cr (nI (othN L G i))) kk)))]) F d_T_greaterPartOfKinds_71 (j := 7) rfl (nI_inc _) (by decide) rfl ?_
          refine v_goto F 23 d_T_greaterPartOfKinds_74 rfl ?_
          refine v_sub [1, 2, 3, 4, 5, 6, 7, 0] (ls' := [(0, .ref (u.2.1 0)), (1, .int (nI i)), (2, .int (nI c)), (3, .int fe), (4, .int cr), (5, .int (nI (othN L G i))), (6, .int (nI (cntN (gkF σ i c fe cr (nI (othN L G i))) kk))), (7, .int (nI (kk + 1)))]) rfl ?_
          have g5 : (nI (cntN (gkF σ i c fe cr (nI (othN L G i))) kk)) = (nI (cntN (gkF σ i c fe cr (nI (othN L G i))) (kk + 1))) := (by first | rfl | (rw [cntN_t (f := (gkF σ i c fe cr (nI (othN L G i)))) (by simp only [gkF, Bool.and_eq_true]; exact ⟨by assumption, by assumption⟩)]; done) | (rw [cntN_f (f := (gkF σ i c fe cr (nI (othN L G i)))) (by simp only [gkF, Bool.and_eq_true]; rintro ⟨q1, q2⟩; first | exact absurd q1 (by assumption) | exact absurd q2 (by assumption))]; done))
          refine v_to (ls' := [(0, .ref (u.2.1 0)), (1, .int (nI i)), (2, .int (nI c)), (3, .int fe), (4, .int cr), (5, .int (nI (othN L G i))), (6, .int (nI (cntN (gkF σ i c fe cr (nI (othN L G i))) (kk + 1)))), (7, .int (nI (kk + 1)))]) (by first | rfl | rw [g5] | simp_all) ?_
          exact ih (kk + 1) (by omega) (by omega)
        · skip
          refine v_iinc (v := nI (cntN (gkF σ i c fe cr (nI (othN L G i))) kk + 1)) (ls' := [(6, .int (nI (cntN (gkF σ i c fe cr (nI (othN L G i))) kk + 1))), (0, .ref (u.2.1 0)), (1, .int (nI i)), (2, .int (nI c)), (3, .int fe), (4, .int cr), (5, .int (nI (othN L G i))), (7, .int (nI kk))]) F d_T_greaterPartOfKinds_68 (j := 6) rfl (nI_inc _) (by decide) rfl ?_
          refine v_iinc (v := nI (kk + 1)) (ls' := [(7, .int (nI (kk + 1))), (6, .int (nI (cntN (gkF σ i c fe cr (nI (othN L G i))) kk + 1))), (0, .ref (u.2.1 0)), (1, .int (nI i)), (2, .int (nI c)), (3, .int fe), (4, .int cr), (5, .int (nI (othN L G i)))]) F d_T_greaterPartOfKinds_71 (j := 7) rfl (nI_inc _) (by decide) rfl ?_
          refine v_goto F 23 d_T_greaterPartOfKinds_74 rfl ?_
          refine v_sub [2, 3, 4, 5, 6, 7, 1, 0] (ls' := [(0, .ref (u.2.1 0)), (1, .int (nI i)), (2, .int (nI c)), (3, .int fe), (4, .int cr), (5, .int (nI (othN L G i))), (6, .int (nI (cntN (gkF σ i c fe cr (nI (othN L G i))) kk + 1))), (7, .int (nI (kk + 1)))]) rfl ?_
          have g6 : (nI (cntN (gkF σ i c fe cr (nI (othN L G i))) kk + 1)) = (nI (cntN (gkF σ i c fe cr (nI (othN L G i))) (kk + 1))) := (by first | rfl | (rw [cntN_t (f := (gkF σ i c fe cr (nI (othN L G i)))) (by simp only [gkF, Bool.and_eq_true]; exact ⟨by assumption, by assumption⟩)]; done) | (rw [cntN_f (f := (gkF σ i c fe cr (nI (othN L G i)))) (by simp only [gkF, Bool.and_eq_true]; rintro ⟨q1, q2⟩; first | exact absurd q1 (by assumption) | exact absurd q2 (by assumption))]; done))
          refine v_to (ls' := [(0, .ref (u.2.1 0)), (1, .int (nI i)), (2, .int (nI c)), (3, .int fe), (4, .int cr), (5, .int (nI (othN L G i))), (6, .int (nI (cntN (gkF σ i c fe cr (nI (othN L G i))) (kk + 1)))), (7, .int (nI (kk + 1)))]) (by first | rfl | rw [g6] | simp_all) ?_
          exact ih (kk + 1) (by omega) (by omega)
set_option maxHeartbeats 4000000 in
theorem c_T_greaterPartOfKinds (l : Launch) (u : Un) (hA : Ap u) (σ : St) {n G : Nat} {kd : Nat → Nat} (hb : bkOk σ n G kd) {L : Nat} (hL : σ.1 19 14 = nI L) (hL64 : L < 64) (i c : Nat) (fe cr : Int32) (hi : i < n) (hc : c < 64) : MTi l u y_T_greaterPartOfKinds b_T_greaterPartOfKinds 8 .int 5 [.ref (u.2.1 0), .int (nI i), .int (nI c), .int fe, .int cr] σ (fun ans σ' => nI (gkN σ i c fe cr (nI (othN L G i))) = ans ∧ σ = σ') := by
  refine MT_of hA rfl (by decide) (Nat.le_of_ble_eq_true rfl) (fun X hl F hr => ?_)
  subst hl
  refine v_to (ls' := [(0, .ref (u.2.1 0)), (1, .int (nI i)), (2, .int (nI c)), (3, .int fe), (4, .int cr)]) rfl ?_
  obtain ⟨hn, hn6, hG, hG64, hkd, hk6⟩ := id hb
  refine v_aload_n F d_T_greaterPartOfKinds_0 rfl 0 rfl ?_
  refine v_getr (r := 19) F fk_T_36 G0 rfl d_T_greaterPartOfKinds_1 ?_
  refine v_iload_n F d_T_greaterPartOfKinds_4 rfl 1 rfl ?_
  refine v_aload_n F d_T_greaterPartOfKinds_5 rfl 0 rfl ?_
  refine v_getr (r := 19) F fk_T_36 G0 rfl d_T_greaterPartOfKinds_6 ?_
  refine v_geti F fk_T_166 G19 rfl d_T_greaterPartOfKinds_9 ?_
  refine v_te (y := nI L) hL ?_
  refine v_runi (r_V F (c_B_others X.2.1 u hA σ hb i L (by omega) (by omega)) mo_B_others st_T_363 rc_19 (by decide) rfl (Nat.le_of_ble_eq_true rfl) d_T_greaterPartOfKinds_12) (fun r1 σ2 q3 => ?_)
  obtain ⟨rfl, rfl⟩ := q3
  refine v_istore (ls' := [(5, .int (nI (othN L G i))), (0, .ref (u.2.1 0)), (1, .int (nI i)), (2, .int (nI c)), (3, .int fe), (4, .int cr)]) F d_T_greaterPartOfKinds_15 (by decide) rfl ?_
  refine v_iconst (v := 0) F d_T_greaterPartOfKinds_17 ki_0 ?_
  refine v_istore (ls' := [(6, .int 0), (5, .int (nI (othN L G i))), (0, .ref (u.2.1 0)), (1, .int (nI i)), (2, .int (nI c)), (3, .int fe), (4, .int cr)]) F d_T_greaterPartOfKinds_18 (by decide) rfl ?_
  refine v_iconst (v := 0) F d_T_greaterPartOfKinds_20 ki_0 ?_
  refine v_istore (ls' := [(7, .int 0), (6, .int 0), (5, .int (nI (othN L G i))), (0, .ref (u.2.1 0)), (1, .int (nI i)), (2, .int (nI c)), (3, .int fe), (4, .int cr)]) F d_T_greaterPartOfKinds_21 (by decide) rfl ?_
  refine v_sub [3, 4, 5, 6, 7, 2, 1, 0] (ls' := [(0, .ref (u.2.1 0)), (1, .int (nI i)), (2, .int (nI c)), (3, .int fe), (4, .int cr), (5, .int (nI (othN L G i))), (6, .int 0), (7, .int 0)]) rfl ?_
  have g4 : 0 = (nI (cntN (gkF σ i c fe cr (nI (othN L G i))) 0)) := (by first | rfl | (rw [cntN_t (f := (gkF σ i c fe cr (nI (othN L G i)))) (by simp only [gkF, Bool.and_eq_true]; exact ⟨by assumption, by assumption⟩)]; done) | (rw [cntN_f (f := (gkF σ i c fe cr (nI (othN L G i)))) (by simp only [gkF, Bool.and_eq_true]; rintro ⟨q1, q2⟩; first | exact absurd q1 (by assumption) | exact absurd q2 (by assumption))]; done))
  have g5 : 0 = (nI 0) := (by first | rfl | (rw [cntN_t (f := (gkF σ i c fe cr (nI (othN L G i)))) (by simp only [gkF, Bool.and_eq_true]; exact ⟨by assumption, by assumption⟩)]; done) | (rw [cntN_f (f := (gkF σ i c fe cr (nI (othN L G i)))) (by simp only [gkF, Bool.and_eq_true]; rintro ⟨q1, q2⟩; first | exact absurd q1 (by assumption) | exact absurd q2 (by assumption))]; done))
  refine v_to (ls' := [(0, .ref (u.2.1 0)), (1, .int (nI i)), (2, .int (nI c)), (3, .int fe), (4, .int cr), (5, .int (nI (othN L G i))), (6, .int (nI (cntN (gkF σ i c fe cr (nI (othN L G i))) 0))), (7, .int (nI 0))]) (by first | rfl | rw [g4, g5] | simp_all) ?_
  refine L_T_greaterPartOfKinds_23 hA F hb hL hL64 hi hc ?_ _ 0 (Nat.zero_le _) (Nat.lt_succ_self _)
  refine v_iload F d_T_greaterPartOfKinds_77 6 rfl ?_
  refine v_iload_n F d_T_greaterPartOfKinds_79 rfl 2 rfl ?_
  refine v_runi (r_S F (c_I_bitCount X.2.1 u hA σ c hc) mo_I_bitCount st_T_189 (by decide) rfl (Nat.le_of_ble_eq_true rfl) d_T_greaterPartOfKinds_80) (fun r6 σ7 q8 => ?_)
  obtain ⟨rfl, rfl⟩ := q8
  refine v_iload F d_T_greaterPartOfKinds_83 6 rfl ?_
  refine v_isub F d_T_greaterPartOfKinds_85 ?_
  refine v_te (y := nI (pcN c - cntN (gkF σ i c fe cr (nI (othN L G i))) 6)) (pk_sub (gk_le hc)) ?_
  refine v_mmax F (List.mem_of_getElem? (i := 839) (by decide +kernel)) (Nat.le_of_ble_eq_true rfl) (by decide) d_T_greaterPartOfKinds_86 ?_
  refine v_iret F hr rfl d_T_greaterPartOfKinds_89 ?_
  exact ⟨(max_nI (Nat.le_trans (cntN_le _ 6) (by decide)) (by have := pc_le c hc; omega)).symm, rfl⟩
abbrev b_T_bold : ByteArray := prog_1_method_31_code
abbrev y_T_bold : MethodName := ⟨"TakerBook", "bold", "(II)I"⟩
theorem d_T_bold_0 : decode b_T_bold 0 = .ok (.aload_n 0, 1) := by decide +kernel
theorem d_T_bold_1 : decode b_T_bold 1 = .ok (.iload_n 1, 1) := by decide +kernel
theorem d_T_bold_2 : decode b_T_bold 2 = .ok (.iload_n 2, 1) := by decide +kernel
theorem d_T_bold_3 : decode b_T_bold 3 = .ok (.invokevirtual 263, 3) := by decide +kernel
theorem d_T_bold_6 : decode b_T_bold 6 = .ok (.istore_n 3, 1) := by decide +kernel
theorem d_T_bold_7 : decode b_T_bold 7 = .ok (.iload_n 3, 1) := by decide +kernel
theorem d_T_bold_8 : decode b_T_bold 8 = .ok (.ifCond .eq 5, 3) := by decide +kernel
theorem d_T_bold_11 : decode b_T_bold 11 = .ok (.iload_n 3, 1) := by decide +kernel
theorem d_T_bold_12 : decode b_T_bold 12 = .ok (.ireturn, 1) := by decide +kernel
theorem d_T_bold_13 : decode b_T_bold 13 = .ok (.iconst 0, 1) := by decide +kernel
theorem d_T_bold_14 : decode b_T_bold 14 = .ok (.istore 4, 2) := by decide +kernel
theorem d_T_bold_16 : decode b_T_bold 16 = .ok (.iconst 0, 1) := by decide +kernel
theorem d_T_bold_17 : decode b_T_bold 17 = .ok (.istore 5, 2) := by decide +kernel
theorem d_T_bold_19 : decode b_T_bold 19 = .ok (.iload 5, 2) := by decide +kernel
theorem d_T_bold_21 : decode b_T_bold 21 = .ok (.bipush 9, 2) := by decide +kernel
theorem d_T_bold_23 : decode b_T_bold 23 = .ok (.if_icmp .gt 38, 3) := by decide +kernel
theorem d_T_bold_26 : decode b_T_bold 26 = .ok (.aload_n 0, 1) := by decide +kernel
theorem d_T_bold_27 : decode b_T_bold 27 = .ok (.iload_n 1, 1) := by decide +kernel
theorem d_T_bold_28 : decode b_T_bold 28 = .ok (.aload_n 0, 1) := by decide +kernel
theorem d_T_bold_29 : decode b_T_bold 29 = .ok (.getfield 36, 3) := by decide +kernel
theorem d_T_bold_32 : decode b_T_bold 32 = .ok (.getfield 127, 3) := by decide +kernel
theorem d_T_bold_35 : decode b_T_bold 35 = .ok (.iload_n 1, 1) := by decide +kernel
theorem d_T_bold_36 : decode b_T_bold 36 = .ok (.iaload, 1) := by decide +kernel
theorem d_T_bold_37 : decode b_T_bold 37 = .ok (.iload 5, 2) := by decide +kernel
theorem d_T_bold_39 : decode b_T_bold 39 = .ok (.iload_n 2, 1) := by decide +kernel
theorem d_T_bold_40 : decode b_T_bold 40 = .ok (.invokevirtual 266, 3) := by decide +kernel
theorem d_T_bold_43 : decode b_T_bold 43 = .ok (.ifCond .eq 12, 3) := by decide +kernel
theorem d_T_bold_46 : decode b_T_bold 46 = .ok (.iload 4, 2) := by decide +kernel
theorem d_T_bold_48 : decode b_T_bold 48 = .ok (.iconst 1, 1) := by decide +kernel
theorem d_T_bold_49 : decode b_T_bold 49 = .ok (.iload 5, 2) := by decide +kernel
theorem d_T_bold_51 : decode b_T_bold 51 = .ok (.ishl, 1) := by decide +kernel
theorem d_T_bold_52 : decode b_T_bold 52 = .ok (.ior, 1) := by decide +kernel
theorem d_T_bold_53 : decode b_T_bold 53 = .ok (.istore 4, 2) := by decide +kernel
theorem d_T_bold_55 : decode b_T_bold 55 = .ok (.iinc 5 1, 3) := by decide +kernel
theorem d_T_bold_58 : decode b_T_bold 58 = .ok (.goto (-39), 3) := by decide +kernel
theorem d_T_bold_61 : decode b_T_bold 61 = .ok (.iload 4, 2) := by decide +kernel
theorem d_T_bold_63 : decode b_T_bold 63 = .ok (.ireturn, 1) := by decide +kernel
theorem mo_T_bold : mok y_T_bold b_T_bold 6 (some .int) 2 := ⟨List.mem_of_getElem? (i := 843) (by decide +kernel), ⟨by decide +kernel, by decide +kernel, by decide +kernel⟩, List.mem_of_getElem? (i := 74) (by decide +kernel), by decide⟩
set_option maxHeartbeats 4000000 in
theorem L_T_bold_19 {X : FX} {u : Un} (hA : Ap u) {Q : State → Prop} (F : Fr X u "TakerBook" b_T_bold 6) {σ : St} {n G : Nat} {kd : Nat → Nat} (hb : bkOk σ n G kd) {L : Nat} (hL : σ.1 19 14 = nI L) (hL64 : L < 64) {a N : Nat} (ha : a < 6) (hN : N ≤ 40) (eN : σ.1 8 a = nI N) {i : Nat} (hi : i < n) (k : V X u 6 6 Q 61 [(0, .ref (u.2.1 0)), (1, .int (nI i)), (2, .int (nI a)), (4, .int (nI (mkN (fun b => allB (spB σ (2 + a) (kd i) (nI b) (nI (othN L G i))) (N / 3)) 10))), (5, .int (nI 10))] [] (σ)) : ∀ (nn bb : Nat), bb ≤ 10 → 10 - bb < nn → V X u 6 6 Q 19 [(0, .ref (u.2.1 0)), (1, .int (nI i)), (2, .int (nI a)), (4, .int (nI (mkN (fun b => allB (spB σ (2 + a) (kd i) (nI b) (nI (othN L G i))) (N / 3)) bb))), (5, .int (nI bb))] [] (σ) := by
  intro nn
  induction nn with
  | zero =>
    intro bb h1 h2
    exact absurd h2 (Nat.not_lt_zero _)
  | succ nn ih =>
    intro bb hii hnn
    obtain ⟨hn, hn6, hG, hG64, hkd, hk6⟩ := id hb
    refine v_iload F d_T_bold_19 4 rfl ?_
    refine v_bipush (v := 9) F d_T_bold_21 kb_9 ?_
    refine v_icmp_gt F 61 d_T_bold_23 rfl (fun h23 => ?_) (fun h23 => ?_)
    · skip
      have h23 : 9 < bb := (nI_ltI (a := 9) (b := bb) (by omega) (by omega)).mp h23
      have he : bb = 10 := by omega
      subst he
      exact k
    · skip
      have h23 : ¬ 9 < bb := fun q => h23 ((nI_ltI (a := 9) (b := bb) (by omega) (by omega)).mpr q)
      refine v_aload_n F d_T_bold_26 rfl 0 rfl ?_
      refine v_iload_n F d_T_bold_27 rfl 1 rfl ?_
      refine v_aload_n F d_T_bold_28 rfl 0 rfl ?_
      refine v_getr (r := 19) F fk_T_36 G0 rfl d_T_bold_29 ?_
      refine v_getr (r := 27) F fk_T_127 G19 rfl d_T_bold_32 ?_
      refine v_iload_n F d_T_bold_35 rfl 1 rfl ?_
      refine v_ial F i G27 rfl (by omega) d_T_bold_36 ?_
      refine v_te (y := nI (kd i)) (hkd _ (by omega)) ?_
      refine v_iload F d_T_bold_37 4 rfl ?_
      refine v_iload_n F d_T_bold_39 rfl 2 rfl ?_
      refine v_runi (r_V F (c_T_spokeSo X.2.1 u hA σ hb hL hL64 ha hN eN i (kd i) (nI bb) (by omega) (hk6 _ hi)) mo_T_spokeSo st_T_266 rc_0 (by decide) rfl (Nat.le_of_ble_eq_true rfl) d_T_bold_40) (fun r1 σ2 q3 => ?_)
      obtain ⟨rfl, rfl⟩ := q3
      refine v_bt F 55 d_T_bold_43 rfl (fun h43 => ?_) (fun h43 => ?_)
      · skip
        refine v_iinc (v := nI (bb + 1)) (ls' := [(5, .int (nI (bb + 1))), (0, .ref (u.2.1 0)), (1, .int (nI i)), (2, .int (nI a)), (4, .int (nI (mkN (fun b => allB (spB σ (2 + a) (kd i) (nI b) (nI (othN L G i))) (N / 3)) bb)))]) F d_T_bold_55 (j := 4) rfl (nI_inc _) (by decide) rfl ?_
        refine v_goto F 19 d_T_bold_58 rfl ?_
        refine v_sub [1, 2, 3, 4, 0] (ls' := [(0, .ref (u.2.1 0)), (1, .int (nI i)), (2, .int (nI a)), (4, .int (nI (mkN (fun b => allB (spB σ (2 + a) (kd i) (nI b) (nI (othN L G i))) (N / 3)) bb))), (5, .int (nI (bb + 1)))]) rfl ?_
        have g4 : (nI (mkN (fun b => allB (spB σ (2 + a) (kd i) (nI b) (nI (othN L G i))) (N / 3)) bb)) = (nI (mkN (fun b => allB (spB σ (2 + a) (kd i) (nI b) (nI (othN L G i))) (N / 3)) (bb + 1))) := (by first | rfl | (rw [mkN_t (f := (fun b => allB (spB σ (2 + a) (kd i) (nI b) (nI (othN L G i))) (N / 3))) (by assumption)]; first | done | assumption) | (rw [mkN_f (f := (fun b => allB (spB σ (2 + a) (kd i) (nI b) (nI (othN L G i))) (N / 3))) (by assumption)]; first | done | assumption))
        refine v_to (ls' := [(0, .ref (u.2.1 0)), (1, .int (nI i)), (2, .int (nI a)), (4, .int (nI (mkN (fun b => allB (spB σ (2 + a) (kd i) (nI b) (nI (othN L G i))) (N / 3)) (bb + 1)))), (5, .int (nI (bb + 1)))]) (by first | rfl | rw [g4] | simp_all) ?_
        exact ih (bb + 1) (by omega) (by omega)
      · skip
        refine v_iload F d_T_bold_46 3 rfl ?_
        refine v_iconst (v := 1) F d_T_bold_48 ki_1 ?_
        refine v_iload F d_T_bold_49 4 rfl ?_
        refine v_ishl F d_T_bold_51 ?_
        refine v_te (y := nI (2 ^ bb)) (bit16 _ (by omega)) ?_
        refine v_ior F d_T_bold_52 ?_
        refine v_te (y := nI ((mkN (fun b => allB (spB σ (2 + a) (kd i) (nI b) (nI (othN L G i))) (N / 3)) bb) ||| (2 ^ bb))) nI_or ?_
        refine v_istore (ls' := [(4, .int (nI ((mkN (fun b => allB (spB σ (2 + a) (kd i) (nI b) (nI (othN L G i))) (N / 3)) bb) ||| (2 ^ bb)))), (0, .ref (u.2.1 0)), (1, .int (nI i)), (2, .int (nI a)), (5, .int (nI bb))]) F d_T_bold_53 (by decide) rfl ?_
        refine v_iinc (v := nI (bb + 1)) (ls' := [(5, .int (nI (bb + 1))), (4, .int (nI ((mkN (fun b => allB (spB σ (2 + a) (kd i) (nI b) (nI (othN L G i))) (N / 3)) bb) ||| (2 ^ bb)))), (0, .ref (u.2.1 0)), (1, .int (nI i)), (2, .int (nI a))]) F d_T_bold_55 (j := 4) rfl (nI_inc _) (by decide) rfl ?_
        refine v_goto F 19 d_T_bold_58 rfl ?_
        refine v_sub [2, 3, 4, 1, 0] (ls' := [(0, .ref (u.2.1 0)), (1, .int (nI i)), (2, .int (nI a)), (4, .int (nI ((mkN (fun b => allB (spB σ (2 + a) (kd i) (nI b) (nI (othN L G i))) (N / 3)) bb) ||| (2 ^ bb)))), (5, .int (nI (bb + 1)))]) rfl ?_
        have g5 : (nI ((mkN (fun b => allB (spB σ (2 + a) (kd i) (nI b) (nI (othN L G i))) (N / 3)) bb) ||| (2 ^ bb))) = (nI (mkN (fun b => allB (spB σ (2 + a) (kd i) (nI b) (nI (othN L G i))) (N / 3)) (bb + 1))) := (by first | rfl | (rw [mkN_t (f := (fun b => allB (spB σ (2 + a) (kd i) (nI b) (nI (othN L G i))) (N / 3))) (by assumption)]; first | done | assumption) | (rw [mkN_f (f := (fun b => allB (spB σ (2 + a) (kd i) (nI b) (nI (othN L G i))) (N / 3))) (by assumption)]; first | done | assumption))
        refine v_to (ls' := [(0, .ref (u.2.1 0)), (1, .int (nI i)), (2, .int (nI a)), (4, .int (nI (mkN (fun b => allB (spB σ (2 + a) (kd i) (nI b) (nI (othN L G i))) (N / 3)) (bb + 1)))), (5, .int (nI (bb + 1)))]) (by first | rfl | rw [g5] | simp_all) ?_
        exact ih (bb + 1) (by omega) (by omega)
set_option maxHeartbeats 4000000 in
theorem c_T_bold (l : Launch) (u : Un) (hA : Ap u) (σ : St) {n G : Nat} {kd : Nat → Nat} (hb : bkOk σ n G kd) {L : Nat} (hL : σ.1 19 14 = nI L) (hL64 : L < 64) (hI : rowsOk σ) (i r : Int32) : MTi l u y_T_bold b_T_bold 6 .int 6 [.ref (u.2.1 0), .int i, .int r] σ (fun x σ' => trRes σ i r (fun _ => True) x σ' (nI (boN σ G kd L (ix i) (ix r) (rdS σ (ix r)))) σ) := by
  refine MT_of hA rfl (by decide) (Nat.le_of_ble_eq_true rfl) (fun X hl F hr => ?_)
  subst hl
  refine v_to (ls' := [(0, .ref (u.2.1 0)), (1, .int i), (2, .int r)]) rfl ?_
  obtain ⟨hn, hn6, hG, hG64, hkd, hk6⟩ := id hb
  refine v_aload_n F d_T_bold_0 rfl 0 rfl ?_
  refine v_iload_n F d_T_bold_1 rfl 1 rfl ?_
  refine v_iload_n F d_T_bold_2 rfl 2 rfl ?_
  refine v_runi (r_V F (c_T_refusedTriples X.2.1 u hA σ i r hI) mo_T_refusedTriples st_T_263 rc_0 (by decide) rfl (Nat.le_of_ble_eq_true rfl) d_T_bold_3) (fun r1 σ2 q3 => ?_)
  rcases q3 with ⟨a1, rfl, rfl⟩ | ⟨a1, ⟨a2, rfl, eσ2⟩ | ⟨a2, a3, rfl, eσ2⟩ | ⟨a2, a3, a4, rfl, rfl⟩ | ⟨a2, a3, a4, rfl, eσ2⟩⟩
  · skip
    refine v_istore_n (ls' := [(3, .int (-1)), (0, .ref (u.2.1 0)), (1, .int i), (2, .int r)]) F d_T_bold_6 rfl (by decide) rfl ?_
    refine v_iload_n F d_T_bold_7 rfl 0 rfl ?_
    refine v_if_eq F 13 d_T_bold_8 rfl (fun h => absurd h (by decide)) (fun _ => ?_)
    refine v_iload_n F d_T_bold_11 rfl 0 rfl ?_
    refine v_iret F hr rfl d_T_bold_12 ?_
    first | exact Or.inl ⟨a1, rfl, rfl⟩ | exact Or.inr ⟨a1, Or.inl ⟨a2, rfl, by assumption⟩⟩ | exact Or.inr ⟨a1, Or.inr (Or.inl ⟨a2, a3, rfl, by assumption⟩)⟩ | exact Or.inr ⟨a1, Or.inr (Or.inr (Or.inr ⟨a2, a3, a4, rfl, by assumption⟩))⟩ | (exact Or.inr ⟨a1, Or.inr (Or.inr (Or.inl ⟨by rw [xa]; exact a2, by rw [xa]; exact a3, by rw [xa]; exact a4, by rw [xa, xi, eR]; first | done | rfl, rfl⟩))⟩)
  · skip
    refine v_istore_n (ls' := [(3, .int (-3)), (0, .ref (u.2.1 0)), (1, .int i), (2, .int r)]) F d_T_bold_6 rfl (by decide) rfl ?_
    refine v_iload_n F d_T_bold_7 rfl 0 rfl ?_
    refine v_if_eq F 13 d_T_bold_8 rfl (fun h => absurd h (by decide)) (fun _ => ?_)
    refine v_iload_n F d_T_bold_11 rfl 0 rfl ?_
    refine v_iret F hr rfl d_T_bold_12 ?_
    first | exact Or.inl ⟨a1, rfl, rfl⟩ | exact Or.inr ⟨a1, Or.inl ⟨a2, rfl, by assumption⟩⟩ | exact Or.inr ⟨a1, Or.inr (Or.inl ⟨a2, a3, rfl, by assumption⟩)⟩ | exact Or.inr ⟨a1, Or.inr (Or.inr (Or.inr ⟨a2, a3, a4, rfl, by assumption⟩))⟩ | (exact Or.inr ⟨a1, Or.inr (Or.inr (Or.inl ⟨by rw [xa]; exact a2, by rw [xa]; exact a3, by rw [xa]; exact a4, by rw [xa, xi, eR]; first | done | rfl, rfl⟩))⟩)
  · skip
    refine v_istore_n (ls' := [(3, .int (-3)), (0, .ref (u.2.1 0)), (1, .int i), (2, .int r)]) F d_T_bold_6 rfl (by decide) rfl ?_
    refine v_iload_n F d_T_bold_7 rfl 0 rfl ?_
    refine v_if_eq F 13 d_T_bold_8 rfl (fun h => absurd h (by decide)) (fun _ => ?_)
    refine v_iload_n F d_T_bold_11 rfl 0 rfl ?_
    refine v_iret F hr rfl d_T_bold_12 ?_
    first | exact Or.inl ⟨a1, rfl, rfl⟩ | exact Or.inr ⟨a1, Or.inl ⟨a2, rfl, by assumption⟩⟩ | exact Or.inr ⟨a1, Or.inr (Or.inl ⟨a2, a3, rfl, by assumption⟩)⟩ | exact Or.inr ⟨a1, Or.inr (Or.inr (Or.inr ⟨a2, a3, a4, rfl, by assumption⟩))⟩ | (exact Or.inr ⟨a1, Or.inr (Or.inr (Or.inl ⟨by rw [xa]; exact a2, by rw [xa]; exact a3, by rw [xa]; exact a4, by rw [xa, xi, eR]; first | done | rfl, rfl⟩))⟩)
  · skip
    obtain ⟨a, ha, xa, rfl⟩ := inR_nat (N := 6) a1.2 rfl (by decide)
    obtain ⟨i, hi, xi, rfl⟩ := has_nat a1.1 hn hn6
    rw [xa] at a2 a3 a4
    obtain ⟨N, hN, xN, eN⟩ := nat_of (M := 40) a2 (hI _ ha) rfl (by decide)
    have eR : rdS σ a = N := xN
    refine v_istore_n (ls' := [(3, .int 0), (0, .ref (u.2.1 0)), (1, .int (nI i)), (2, .int (nI a))]) F d_T_bold_6 rfl (by decide) rfl ?_
    refine v_iload_n F d_T_bold_7 rfl 0 rfl ?_
    refine v_if_eq F 13 d_T_bold_8 rfl (fun _ => ?_) (fun h => absurd (by decide) h)
    refine v_iconst (v := 0) F d_T_bold_13 ki_0 ?_
    refine v_istore (ls' := [(4, .int 0), (3, .int 0), (0, .ref (u.2.1 0)), (1, .int (nI i)), (2, .int (nI a))]) F d_T_bold_14 (by decide) rfl ?_
    refine v_iconst (v := 0) F d_T_bold_16 ki_0 ?_
    refine v_istore (ls' := [(5, .int 0), (4, .int 0), (3, .int 0), (0, .ref (u.2.1 0)), (1, .int (nI i)), (2, .int (nI a))]) F d_T_bold_17 (by decide) rfl ?_
    refine v_sub [3, 4, 5, 1, 0] (ls' := [(0, .ref (u.2.1 0)), (1, .int (nI i)), (2, .int (nI a)), (4, .int 0), (5, .int 0)]) rfl ?_
    have g4 : 0 = (nI (mkN (fun b => allB (spB σ (2 + a) (kd i) (nI b) (nI (othN L G i))) (N / 3)) 0)) := (by first | rfl | (rw [mkN_t (f := (fun b => allB (spB σ (2 + a) (kd i) (nI b) (nI (othN L G i))) (N / 3))) (by assumption)]; first | done | assumption) | (rw [mkN_f (f := (fun b => allB (spB σ (2 + a) (kd i) (nI b) (nI (othN L G i))) (N / 3))) (by assumption)]; first | done | assumption))
    have g5 : 0 = (nI 0) := (by first | rfl | (rw [mkN_t (f := (fun b => allB (spB σ (2 + a) (kd i) (nI b) (nI (othN L G i))) (N / 3))) (by assumption)]; first | done | assumption) | (rw [mkN_f (f := (fun b => allB (spB σ (2 + a) (kd i) (nI b) (nI (othN L G i))) (N / 3))) (by assumption)]; first | done | assumption))
    refine v_to (ls' := [(0, .ref (u.2.1 0)), (1, .int (nI i)), (2, .int (nI a)), (4, .int (nI (mkN (fun b => allB (spB σ (2 + a) (kd i) (nI b) (nI (othN L G i))) (N / 3)) 0))), (5, .int (nI 0))]) (by first | rfl | rw [g4, g5] | simp_all) ?_
    refine L_T_bold_19 hA F hb hL hL64 ha hN eN hi ?_ _ 0 (Nat.zero_le _) (Nat.lt_succ_self _)
    refine v_iload F d_T_bold_61 3 rfl ?_
    refine v_iret F hr rfl d_T_bold_63 ?_
    first | exact Or.inl ⟨a1, rfl, rfl⟩ | exact Or.inr ⟨a1, Or.inl ⟨a2, rfl, by assumption⟩⟩ | exact Or.inr ⟨a1, Or.inr (Or.inl ⟨a2, a3, rfl, by assumption⟩)⟩ | exact Or.inr ⟨a1, Or.inr (Or.inr (Or.inr ⟨a2, a3, a4, rfl, by assumption⟩))⟩ | (exact Or.inr ⟨a1, Or.inr (Or.inr (Or.inl ⟨by rw [xa]; exact a2, by rw [xa]; exact a3, by rw [xa]; exact a4, by rw [xa, xi, eR]; first | done | rfl, rfl⟩))⟩)
  · skip
    refine v_istore_n (ls' := [(3, .int (-3)), (0, .ref (u.2.1 0)), (1, .int i), (2, .int r)]) F d_T_bold_6 rfl (by decide) rfl ?_
    refine v_iload_n F d_T_bold_7 rfl 0 rfl ?_
    refine v_if_eq F 13 d_T_bold_8 rfl (fun h => absurd h (by decide)) (fun _ => ?_)
    refine v_iload_n F d_T_bold_11 rfl 0 rfl ?_
    refine v_iret F hr rfl d_T_bold_12 ?_
    first | exact Or.inl ⟨a1, rfl, rfl⟩ | exact Or.inr ⟨a1, Or.inl ⟨a2, rfl, by assumption⟩⟩ | exact Or.inr ⟨a1, Or.inr (Or.inl ⟨a2, a3, rfl, by assumption⟩)⟩ | exact Or.inr ⟨a1, Or.inr (Or.inr (Or.inr ⟨a2, a3, a4, rfl, by assumption⟩))⟩ | (exact Or.inr ⟨a1, Or.inr (Or.inr (Or.inl ⟨by rw [xa]; exact a2, by rw [xa]; exact a3, by rw [xa]; exact a4, by rw [xa, xi, eR]; first | done | rfl, rfl⟩))⟩)
abbrev b_T_kinds : ByteArray := prog_1_method_32_code
abbrev y_T_kinds : MethodName := ⟨"TakerBook", "kinds", "(II)I"⟩
theorem d_T_kinds_0 : decode b_T_kinds 0 = .ok (.aload_n 0, 1) := by decide +kernel
theorem d_T_kinds_1 : decode b_T_kinds 1 = .ok (.iload_n 1, 1) := by decide +kernel
theorem d_T_kinds_2 : decode b_T_kinds 2 = .ok (.iload_n 2, 1) := by decide +kernel
theorem d_T_kinds_3 : decode b_T_kinds 3 = .ok (.invokevirtual 263, 3) := by decide +kernel
theorem d_T_kinds_6 : decode b_T_kinds 6 = .ok (.istore_n 3, 1) := by decide +kernel
theorem d_T_kinds_7 : decode b_T_kinds 7 = .ok (.iload_n 3, 1) := by decide +kernel
theorem d_T_kinds_8 : decode b_T_kinds 8 = .ok (.ifCond .eq 7, 3) := by decide +kernel
theorem d_T_kinds_11 : decode b_T_kinds 11 = .ok (.iload_n 3, 1) := by decide +kernel
theorem d_T_kinds_12 : decode b_T_kinds 12 = .ok (.goto 9, 3) := by decide +kernel
theorem d_T_kinds_15 : decode b_T_kinds 15 = .ok (.aload_n 0, 1) := by decide +kernel
theorem d_T_kinds_16 : decode b_T_kinds 16 = .ok (.iload_n 1, 1) := by decide +kernel
theorem d_T_kinds_17 : decode b_T_kinds 17 = .ok (.iload_n 2, 1) := by decide +kernel
theorem d_T_kinds_18 : decode b_T_kinds 18 = .ok (.invokevirtual 270, 3) := by decide +kernel
theorem d_T_kinds_21 : decode b_T_kinds 21 = .ok (.ireturn, 1) := by decide +kernel
theorem mo_T_kinds : mok y_T_kinds b_T_kinds 4 (some .int) 2 := ⟨List.mem_of_getElem? (i := 860) (by decide +kernel), ⟨by decide +kernel, by decide +kernel, by decide +kernel⟩, List.mem_of_getElem? (i := 74) (by decide +kernel), by decide⟩
set_option maxHeartbeats 4000000 in
theorem c_T_kinds (l : Launch) (u : Un) (hA : Ap u) (σ : St) {n G : Nat} {kd : Nat → Nat} (hb : bkOk σ n G kd) {L : Nat} (hL : σ.1 19 14 = nI L) (hL64 : L < 64) (hI : rowsOk σ) (i r : Int32) : MTi l u y_T_kinds b_T_kinds 4 .int 7 [.ref (u.2.1 0), .int i, .int r] σ (fun x σ' => trRes σ i r (fun _ => True) x σ' (nI (kbN σ G L (ix i) (ix r) (rdS σ (ix r)))) σ) := by
  refine MT_of hA rfl (by decide) (Nat.le_of_ble_eq_true rfl) (fun X hl F hr => ?_)
  subst hl
  refine v_to (ls' := [(0, .ref (u.2.1 0)), (1, .int i), (2, .int r)]) rfl ?_
  obtain ⟨hn, hn6, hG, hG64, hkd, hk6⟩ := id hb
  refine v_aload_n F d_T_kinds_0 rfl 0 rfl ?_
  refine v_iload_n F d_T_kinds_1 rfl 1 rfl ?_
  refine v_iload_n F d_T_kinds_2 rfl 2 rfl ?_
  refine v_runi (r_V F (c_T_refusedTriples X.2.1 u hA σ i r hI) mo_T_refusedTriples st_T_263 rc_0 (by decide) rfl (Nat.le_of_ble_eq_true rfl) d_T_kinds_3) (fun r1 σ2 q3 => ?_)
  rcases q3 with ⟨a1, rfl, rfl⟩ | ⟨a1, ⟨a2, rfl, eσ2⟩ | ⟨a2, a3, rfl, eσ2⟩ | ⟨a2, a3, a4, rfl, rfl⟩ | ⟨a2, a3, a4, rfl, eσ2⟩⟩
  · skip
    refine v_istore_n (ls' := [(3, .int (-1)), (0, .ref (u.2.1 0)), (1, .int i), (2, .int r)]) F d_T_kinds_6 rfl (by decide) rfl ?_
    refine v_iload_n F d_T_kinds_7 rfl 0 rfl ?_
    refine v_if_eq F 15 d_T_kinds_8 rfl (fun h => absurd h (by decide)) (fun _ => ?_)
    refine v_iload_n F d_T_kinds_11 rfl 0 rfl ?_
    refine v_goto F 21 d_T_kinds_12 rfl ?_
    refine v_iret F hr rfl d_T_kinds_21 ?_
    first | exact Or.inl ⟨a1, rfl, rfl⟩ | exact Or.inr ⟨a1, Or.inl ⟨a2, rfl, by assumption⟩⟩ | exact Or.inr ⟨a1, Or.inr (Or.inl ⟨a2, a3, rfl, by assumption⟩)⟩ | exact Or.inr ⟨a1, Or.inr (Or.inr (Or.inr ⟨a2, a3, a4, rfl, by assumption⟩))⟩ | (exact Or.inr ⟨a1, Or.inr (Or.inr (Or.inl ⟨by rw [xa]; exact a2, by rw [xa]; exact a3, by rw [xa]; exact a4, by rw [xa, xi, eR]; first | done | rfl, rfl⟩))⟩)
  · skip
    refine v_istore_n (ls' := [(3, .int (-3)), (0, .ref (u.2.1 0)), (1, .int i), (2, .int r)]) F d_T_kinds_6 rfl (by decide) rfl ?_
    refine v_iload_n F d_T_kinds_7 rfl 0 rfl ?_
    refine v_if_eq F 15 d_T_kinds_8 rfl (fun h => absurd h (by decide)) (fun _ => ?_)
    refine v_iload_n F d_T_kinds_11 rfl 0 rfl ?_
    refine v_goto F 21 d_T_kinds_12 rfl ?_
    refine v_iret F hr rfl d_T_kinds_21 ?_
    first | exact Or.inl ⟨a1, rfl, rfl⟩ | exact Or.inr ⟨a1, Or.inl ⟨a2, rfl, by assumption⟩⟩ | exact Or.inr ⟨a1, Or.inr (Or.inl ⟨a2, a3, rfl, by assumption⟩)⟩ | exact Or.inr ⟨a1, Or.inr (Or.inr (Or.inr ⟨a2, a3, a4, rfl, by assumption⟩))⟩ | (exact Or.inr ⟨a1, Or.inr (Or.inr (Or.inl ⟨by rw [xa]; exact a2, by rw [xa]; exact a3, by rw [xa]; exact a4, by rw [xa, xi, eR]; first | done | rfl, rfl⟩))⟩)
  · skip
    refine v_istore_n (ls' := [(3, .int (-3)), (0, .ref (u.2.1 0)), (1, .int i), (2, .int r)]) F d_T_kinds_6 rfl (by decide) rfl ?_
    refine v_iload_n F d_T_kinds_7 rfl 0 rfl ?_
    refine v_if_eq F 15 d_T_kinds_8 rfl (fun h => absurd h (by decide)) (fun _ => ?_)
    refine v_iload_n F d_T_kinds_11 rfl 0 rfl ?_
    refine v_goto F 21 d_T_kinds_12 rfl ?_
    refine v_iret F hr rfl d_T_kinds_21 ?_
    first | exact Or.inl ⟨a1, rfl, rfl⟩ | exact Or.inr ⟨a1, Or.inl ⟨a2, rfl, by assumption⟩⟩ | exact Or.inr ⟨a1, Or.inr (Or.inl ⟨a2, a3, rfl, by assumption⟩)⟩ | exact Or.inr ⟨a1, Or.inr (Or.inr (Or.inr ⟨a2, a3, a4, rfl, by assumption⟩))⟩ | (exact Or.inr ⟨a1, Or.inr (Or.inr (Or.inl ⟨by rw [xa]; exact a2, by rw [xa]; exact a3, by rw [xa]; exact a4, by rw [xa, xi, eR]; first | done | rfl, rfl⟩))⟩)
  · skip
    obtain ⟨a, ha, xa, rfl⟩ := inR_nat (N := 6) a1.2 rfl (by decide)
    obtain ⟨i, hi, xi, rfl⟩ := has_nat a1.1 hn hn6
    rw [xa] at a2 a3 a4
    obtain ⟨N, hN, xN, eN⟩ := nat_of (M := 40) a2 (hI _ ha) rfl (by decide)
    have eR : rdS σ a = N := xN
    refine v_istore_n (ls' := [(3, .int 0), (0, .ref (u.2.1 0)), (1, .int (nI i)), (2, .int (nI a))]) F d_T_kinds_6 rfl (by decide) rfl ?_
    refine v_iload_n F d_T_kinds_7 rfl 0 rfl ?_
    refine v_if_eq F 15 d_T_kinds_8 rfl (fun _ => ?_) (fun h => absurd (by decide) h)
    refine v_aload_n F d_T_kinds_15 rfl 1 rfl ?_
    refine v_iload_n F d_T_kinds_16 rfl 2 rfl ?_
    refine v_iload_n F d_T_kinds_17 rfl 3 rfl ?_
    refine v_runi (r_V F (c_T_kindsBy X.2.1 u hA σ hb hL hL64 ha hN eN i (by omega)) mo_T_kindsBy st_T_270 rc_0 (by decide) rfl (Nat.le_of_ble_eq_true rfl) d_T_kinds_18) (fun r4 σ5 q6 => ?_)
    obtain ⟨rfl, rfl⟩ := q6
    refine v_iret F hr rfl d_T_kinds_21 ?_
    first | exact Or.inl ⟨a1, rfl, rfl⟩ | exact Or.inr ⟨a1, Or.inl ⟨a2, rfl, by assumption⟩⟩ | exact Or.inr ⟨a1, Or.inr (Or.inl ⟨a2, a3, rfl, by assumption⟩)⟩ | exact Or.inr ⟨a1, Or.inr (Or.inr (Or.inr ⟨a2, a3, a4, rfl, by assumption⟩))⟩ | (exact Or.inr ⟨a1, Or.inr (Or.inr (Or.inl ⟨by rw [xa]; exact a2, by rw [xa]; exact a3, by rw [xa]; exact a4, by rw [xa, xi, eR]; first | done | rfl, rfl⟩))⟩)
  · skip
    refine v_istore_n (ls' := [(3, .int (-3)), (0, .ref (u.2.1 0)), (1, .int i), (2, .int r)]) F d_T_kinds_6 rfl (by decide) rfl ?_
    refine v_iload_n F d_T_kinds_7 rfl 0 rfl ?_
    refine v_if_eq F 15 d_T_kinds_8 rfl (fun h => absurd h (by decide)) (fun _ => ?_)
    refine v_iload_n F d_T_kinds_11 rfl 0 rfl ?_
    refine v_goto F 21 d_T_kinds_12 rfl ?_
    refine v_iret F hr rfl d_T_kinds_21 ?_
    first | exact Or.inl ⟨a1, rfl, rfl⟩ | exact Or.inr ⟨a1, Or.inl ⟨a2, rfl, by assumption⟩⟩ | exact Or.inr ⟨a1, Or.inr (Or.inl ⟨a2, a3, rfl, by assumption⟩)⟩ | exact Or.inr ⟨a1, Or.inr (Or.inr (Or.inr ⟨a2, a3, a4, rfl, by assumption⟩))⟩ | (exact Or.inr ⟨a1, Or.inr (Or.inr (Or.inl ⟨by rw [xa]; exact a2, by rw [xa]; exact a3, by rw [xa]; exact a4, by rw [xa, xi, eR]; first | done | rfl, rfl⟩))⟩)
abbrev b_T_test : ByteArray := prog_1_method_33_code
abbrev y_T_test : MethodName := ⟨"TakerBook", "test", "(II)I"⟩
theorem d_T_test_0 : decode b_T_test 0 = .ok (.aload_n 0, 1) := by decide +kernel
theorem d_T_test_1 : decode b_T_test 1 = .ok (.iload_n 1, 1) := by decide +kernel
theorem d_T_test_2 : decode b_T_test 2 = .ok (.iload_n 2, 1) := by decide +kernel
theorem d_T_test_3 : decode b_T_test 3 = .ok (.invokevirtual 263, 3) := by decide +kernel
theorem d_T_test_6 : decode b_T_test 6 = .ok (.istore_n 3, 1) := by decide +kernel
theorem d_T_test_7 : decode b_T_test 7 = .ok (.iload_n 3, 1) := by decide +kernel
theorem d_T_test_8 : decode b_T_test 8 = .ok (.ifCond .eq 5, 3) := by decide +kernel
theorem d_T_test_11 : decode b_T_test 11 = .ok (.iload_n 3, 1) := by decide +kernel
theorem d_T_test_12 : decode b_T_test 12 = .ok (.ireturn, 1) := by decide +kernel
theorem d_T_test_13 : decode b_T_test 13 = .ok (.aload_n 0, 1) := by decide +kernel
theorem d_T_test_14 : decode b_T_test 14 = .ok (.iload_n 1, 1) := by decide +kernel
theorem d_T_test_15 : decode b_T_test 15 = .ok (.iload_n 2, 1) := by decide +kernel
theorem d_T_test_16 : decode b_T_test 16 = .ok (.invokevirtual 270, 3) := by decide +kernel
theorem d_T_test_19 : decode b_T_test 19 = .ok (.istore 4, 2) := by decide +kernel
theorem d_T_test_21 : decode b_T_test 21 = .ok (.iload 4, 2) := by decide +kernel
theorem d_T_test_23 : decode b_T_test 23 = .ok (.ifCond .ne 6, 3) := by decide +kernel
theorem d_T_test_26 : decode b_T_test 26 = .ok (.bipush (-9), 2) := by decide +kernel
theorem d_T_test_28 : decode b_T_test 28 = .ok (.ireturn, 1) := by decide +kernel
theorem d_T_test_29 : decode b_T_test 29 = .ok (.bipush 7, 2) := by decide +kernel
theorem d_T_test_31 : decode b_T_test 31 = .ok (.istore 5, 2) := by decide +kernel
theorem d_T_test_33 : decode b_T_test 33 = .ok (.bipush (-9), 2) := by decide +kernel
theorem d_T_test_35 : decode b_T_test 35 = .ok (.istore 6, 2) := by decide +kernel
theorem d_T_test_37 : decode b_T_test 37 = .ok (.iconst 0, 1) := by decide +kernel
theorem d_T_test_38 : decode b_T_test 38 = .ok (.istore 7, 2) := by decide +kernel
theorem d_T_test_40 : decode b_T_test 40 = .ok (.iload 7, 2) := by decide +kernel
theorem d_T_test_42 : decode b_T_test 42 = .ok (.bipush 9, 2) := by decide +kernel
theorem d_T_test_44 : decode b_T_test 44 = .ok (.if_icmp .gt 58, 3) := by decide +kernel
theorem d_T_test_47 : decode b_T_test 47 = .ok (.iconst 0, 1) := by decide +kernel
theorem d_T_test_48 : decode b_T_test 48 = .ok (.istore 8, 2) := by decide +kernel
theorem d_T_test_50 : decode b_T_test 50 = .ok (.iload 8, 2) := by decide +kernel
theorem d_T_test_52 : decode b_T_test 52 = .ok (.iconst 2, 1) := by decide +kernel
theorem d_T_test_53 : decode b_T_test 53 = .ok (.if_icmp .gt 43, 3) := by decide +kernel
theorem d_T_test_56 : decode b_T_test 56 = .ok (.aload_n 0, 1) := by decide +kernel
theorem d_T_test_57 : decode b_T_test 57 = .ok (.iload_n 1, 1) := by decide +kernel
theorem d_T_test_58 : decode b_T_test 58 = .ok (.iload 4, 2) := by decide +kernel
theorem d_T_test_60 : decode b_T_test 60 = .ok (.iload 7, 2) := by decide +kernel
theorem d_T_test_62 : decode b_T_test 62 = .ok (.iload 8, 2) := by decide +kernel
theorem d_T_test_64 : decode b_T_test 64 = .ok (.invokevirtual 273, 3) := by decide +kernel
theorem d_T_test_67 : decode b_T_test 67 = .ok (.istore 9, 2) := by decide +kernel
theorem d_T_test_69 : decode b_T_test 69 = .ok (.iload 9, 2) := by decide +kernel
theorem d_T_test_71 : decode b_T_test 71 = .ok (.iload 5, 2) := by decide +kernel
theorem d_T_test_73 : decode b_T_test 73 = .ok (.if_icmp .ge 17, 3) := by decide +kernel
theorem d_T_test_76 : decode b_T_test 76 = .ok (.iload 9, 2) := by decide +kernel
theorem d_T_test_78 : decode b_T_test 78 = .ok (.istore 5, 2) := by decide +kernel
theorem d_T_test_80 : decode b_T_test 80 = .ok (.bipush 10, 2) := by decide +kernel
theorem d_T_test_82 : decode b_T_test 82 = .ok (.iload 7, 2) := by decide +kernel
theorem d_T_test_84 : decode b_T_test 84 = .ok (.imul, 1) := by decide +kernel
theorem d_T_test_85 : decode b_T_test 85 = .ok (.iload 8, 2) := by decide +kernel
theorem d_T_test_87 : decode b_T_test 87 = .ok (.iadd, 1) := by decide +kernel
theorem d_T_test_88 : decode b_T_test 88 = .ok (.istore 6, 2) := by decide +kernel
theorem d_T_test_90 : decode b_T_test 90 = .ok (.iinc 8 1, 3) := by decide +kernel
theorem d_T_test_93 : decode b_T_test 93 = .ok (.goto (-43), 3) := by decide +kernel
theorem d_T_test_96 : decode b_T_test 96 = .ok (.iinc 7 1, 3) := by decide +kernel
theorem d_T_test_99 : decode b_T_test 99 = .ok (.goto (-59), 3) := by decide +kernel
theorem d_T_test_102 : decode b_T_test 102 = .ok (.aload_n 0, 1) := by decide +kernel
theorem d_T_test_103 : decode b_T_test 103 = .ok (.iload 5, 2) := by decide +kernel
theorem d_T_test_105 : decode b_T_test 105 = .ok (.putfield 88, 3) := by decide +kernel
theorem d_T_test_108 : decode b_T_test 108 = .ok (.iload 6, 2) := by decide +kernel
theorem d_T_test_110 : decode b_T_test 110 = .ok (.ireturn, 1) := by decide +kernel
theorem mo_T_test : mok y_T_test b_T_test 10 (some .int) 2 := ⟨List.mem_of_getElem? (i := 868) (by decide +kernel), ⟨by decide +kernel, by decide +kernel, by decide +kernel⟩, List.mem_of_getElem? (i := 74) (by decide +kernel), by decide⟩
set_option maxHeartbeats 4000000 in
theorem L_T_test_50 {X : FX} {u : Un} (hA : Ap u) {Q : State → Prop} (F : Fr X u "TakerBook" b_T_test 10) {σ : St} {n G : Nat} {kd : Nat → Nat} (hb : bkOk σ n G kd) {L : Nat} (hL : σ.1 19 14 = nI L) (hL64 : L < 64) {a N : Nat} (ha : a < 6) (hN : N ≤ 40) (eN : σ.1 8 a = nI N) {i : Nat} (hi : i < n) {f : Nat} (hf : f < 10) (k : V X u 7 10 Q 96 [(0, .ref (u.2.1 0)), (1, .int (nI i)), (2, .int (nI a)), (4, .int (nI (kbN σ G L i a N))), (5, .int (nI ((itr (teF σ i (kbN σ G L i a N) (nI (othN L G i)) f) (itr (teG σ i (kbN σ G L i a N) (nI (othN L G i))) (7, -9) f) 3).1))), (6, .int ((itr (teF σ i (kbN σ G L i a N) (nI (othN L G i)) f) (itr (teG σ i (kbN σ G L i a N) (nI (othN L G i))) (7, -9) f) 3).2)), (7, .int (nI f)), (8, .int (nI 3))] [] (σ)) : ∀ (nn c : Nat), c ≤ 3 → 3 - c < nn → V X u 7 10 Q 50 [(0, .ref (u.2.1 0)), (1, .int (nI i)), (2, .int (nI a)), (4, .int (nI (kbN σ G L i a N))), (5, .int (nI ((itr (teF σ i (kbN σ G L i a N) (nI (othN L G i)) f) (itr (teG σ i (kbN σ G L i a N) (nI (othN L G i))) (7, -9) f) c).1))), (6, .int ((itr (teF σ i (kbN σ G L i a N) (nI (othN L G i)) f) (itr (teG σ i (kbN σ G L i a N) (nI (othN L G i))) (7, -9) f) c).2)), (7, .int (nI f)), (8, .int (nI c))] [] (σ) := by
  intro nn
  induction nn with
  | zero =>
    intro c h1 h2
    exact absurd h2 (Nat.not_lt_zero _)
  | succ nn ih =>
    intro c hii hnn
    obtain ⟨hn, hn6, hG, hG64, hkd, hk6⟩ := id hb
    have hxb := teF_b (σ := σ) (i := i) (a := kbN σ G L i a N) (o := (nI (othN L G i))) kbN_64 (f := f) c (teG_b (σ := σ) (i := i) (a := kbN σ G L i a N) (o := (nI (othN L G i))) kbN_64 f)
    have hgb := gkN_b (σ := σ) (i := i) (a := kbN σ G L i a N) (fe := nI f) (cr := nI c) (o := (nI (othN L G i))) kbN_64
    refine v_iload F d_T_test_50 7 rfl ?_
    refine v_iconst (v := 2) F d_T_test_52 ki_2 ?_
    refine v_icmp_gt F 96 d_T_test_53 rfl (fun h53 => ?_) (fun h53 => ?_)
    · skip
      have h53 : 2 < c := (nI_ltI (a := 2) (b := c) (by omega) (by omega)).mp h53
      have he : c = 3 := by omega
      subst he
      exact k
    · skip
      have h53 : ¬ 2 < c := fun q => h53 ((nI_ltI (a := 2) (b := c) (by omega) (by omega)).mpr q)
      refine v_aload_n F d_T_test_56 rfl 0 rfl ?_
      refine v_iload_n F d_T_test_57 rfl 1 rfl ?_
      refine v_iload F d_T_test_58 3 rfl ?_
      refine v_iload F d_T_test_60 6 rfl ?_
      refine v_iload F d_T_test_62 7 rfl ?_
      refine v_runi (r_V F (c_T_greaterPartOfKinds X.2.1 u hA σ hb hL hL64 i (kbN σ G L i a N) (nI f) (nI c) (by omega) kbN_64) mo_T_greaterPartOfKinds st_T_273 rc_0 (by decide) rfl (Nat.le_of_ble_eq_true rfl) d_T_test_64) (fun r1 σ2 q3 => ?_)
      obtain ⟨rfl, rfl⟩ := q3
      refine v_istore (ls' := [(9, .int (nI (gkN σ i (kbN σ G L i a N) (nI f) (nI c) (nI (othN L G i))))), (0, .ref (u.2.1 0)), (1, .int (nI i)), (2, .int (nI a)), (4, .int (nI (kbN σ G L i a N))), (5, .int (nI ((itr (teF σ i (kbN σ G L i a N) (nI (othN L G i)) f) (itr (teG σ i (kbN σ G L i a N) (nI (othN L G i))) (7, -9) f) c).1))), (6, .int ((itr (teF σ i (kbN σ G L i a N) (nI (othN L G i)) f) (itr (teG σ i (kbN σ G L i a N) (nI (othN L G i))) (7, -9) f) c).2)), (7, .int (nI f)), (8, .int (nI c))]) F d_T_test_67 (by decide) rfl ?_
      refine v_iload F d_T_test_69 0 rfl ?_
      refine v_iload F d_T_test_71 5 rfl ?_
      refine v_icmp_ge F 90 d_T_test_73 rfl (fun h73 => ?_) (fun h73 => ?_)
      · skip
        have h73 : (itr (teF σ i (kbN σ G L i a N) (nI (othN L G i)) f) (itr (teG σ i (kbN σ G L i a N) (nI (othN L G i))) (7, -9) f) c).1 ≤ gkN σ i (kbN σ G L i a N) (nI f) (nI c) (nI (othN L G i)) := (nI_leI (a := (itr (teF σ i (kbN σ G L i a N) (nI (othN L G i)) f) (itr (teG σ i (kbN σ G L i a N) (nI (othN L G i))) (7, -9) f) c).1) (b := gkN σ i (kbN σ G L i a N) (nI f) (nI c) (nI (othN L G i))) (by omega) (by omega)).mp h73
        refine v_iinc (v := nI (c + 1)) (ls' := [(8, .int (nI (c + 1))), (9, .int (nI (gkN σ i (kbN σ G L i a N) (nI f) (nI c) (nI (othN L G i))))), (0, .ref (u.2.1 0)), (1, .int (nI i)), (2, .int (nI a)), (4, .int (nI (kbN σ G L i a N))), (5, .int (nI ((itr (teF σ i (kbN σ G L i a N) (nI (othN L G i)) f) (itr (teG σ i (kbN σ G L i a N) (nI (othN L G i))) (7, -9) f) c).1))), (6, .int ((itr (teF σ i (kbN σ G L i a N) (nI (othN L G i)) f) (itr (teG σ i (kbN σ G L i a N) (nI (othN L G i))) (7, -9) f) c).2)), (7, .int (nI f))]) F d_T_test_90 (j := 8) rfl (nI_inc _) (by decide) rfl ?_
        refine v_goto F 50 d_T_test_93 rfl ?_
        refine v_sub [2, 3, 4, 5, 6, 7, 8, 0] (ls' := [(0, .ref (u.2.1 0)), (1, .int (nI i)), (2, .int (nI a)), (4, .int (nI (kbN σ G L i a N))), (5, .int (nI ((itr (teF σ i (kbN σ G L i a N) (nI (othN L G i)) f) (itr (teG σ i (kbN σ G L i a N) (nI (othN L G i))) (7, -9) f) c).1))), (6, .int ((itr (teF σ i (kbN σ G L i a N) (nI (othN L G i)) f) (itr (teG σ i (kbN σ G L i a N) (nI (othN L G i))) (7, -9) f) c).2)), (7, .int (nI f)), (8, .int (nI (c + 1)))]) rfl ?_
        have g4 : (nI ((itr (teF σ i (kbN σ G L i a N) (nI (othN L G i)) f) (itr (teG σ i (kbN σ G L i a N) (nI (othN L G i))) (7, -9) f) c).1)) = (nI ((itr (teF σ i (kbN σ G L i a N) (nI (othN L G i)) f) (itr (teG σ i (kbN σ G L i a N) (nI (othN L G i))) (7, -9) f) (c + 1)).1)) := (by first | rfl | (simp only [itr, teF]; rw [if_pos (by omega)]; done) | (simp only [itr, teF]; rw [if_neg (by omega)]; done))
        have g5 : ((itr (teF σ i (kbN σ G L i a N) (nI (othN L G i)) f) (itr (teG σ i (kbN σ G L i a N) (nI (othN L G i))) (7, -9) f) c).2) = ((itr (teF σ i (kbN σ G L i a N) (nI (othN L G i)) f) (itr (teG σ i (kbN σ G L i a N) (nI (othN L G i))) (7, -9) f) (c + 1)).2) := (by first | rfl | (simp only [itr, teF]; rw [if_pos (by omega)]; done) | (simp only [itr, teF]; rw [if_neg (by omega)]; done))
        refine v_to (ls' := [(0, .ref (u.2.1 0)), (1, .int (nI i)), (2, .int (nI a)), (4, .int (nI (kbN σ G L i a N))), (5, .int (nI ((itr (teF σ i (kbN σ G L i a N) (nI (othN L G i)) f) (itr (teG σ i (kbN σ G L i a N) (nI (othN L G i))) (7, -9) f) (c + 1)).1))), (6, .int ((itr (teF σ i (kbN σ G L i a N) (nI (othN L G i)) f) (itr (teG σ i (kbN σ G L i a N) (nI (othN L G i))) (7, -9) f) (c + 1)).2)), (7, .int (nI f)), (8, .int (nI (c + 1)))]) (by first | rfl | rw [g4, g5] | simp_all) ?_
        exact ih (c + 1) (by omega) (by omega)
      · skip
        have h73 : ¬ (itr (teF σ i (kbN σ G L i a N) (nI (othN L G i)) f) (itr (teG σ i (kbN σ G L i a N) (nI (othN L G i))) (7, -9) f) c).1 ≤ gkN σ i (kbN σ G L i a N) (nI f) (nI c) (nI (othN L G i)) := fun q => h73 ((nI_leI (a := (itr (teF σ i (kbN σ G L i a N) (nI (othN L G i)) f) (itr (teG σ i (kbN σ G L i a N) (nI (othN L G i))) (7, -9) f) c).1) (b := gkN σ i (kbN σ G L i a N) (nI f) (nI c) (nI (othN L G i))) (by omega) (by omega)).mpr q)
        refine v_iload F d_T_test_76 0 rfl ?_
        refine v_istore (ls' := [(5, .int (nI (gkN σ i (kbN σ G L i a N) (nI f) (nI c) (nI (othN L G i))))), (9, .int (nI (gkN σ i (kbN σ G L i a N) (nI f) (nI c) (nI (othN L G i))))), (0, .ref (u.2.1 0)), (1, .int (nI i)), (2, .int (nI a)), (4, .int (nI (kbN σ G L i a N))), (6, .int ((itr (teF σ i (kbN σ G L i a N) (nI (othN L G i)) f) (itr (teG σ i (kbN σ G L i a N) (nI (othN L G i))) (7, -9) f) c).2)), (7, .int (nI f)), (8, .int (nI c))]) F d_T_test_78 (by decide) rfl ?_
        refine v_bipush (v := 10) F d_T_test_80 kb_10 ?_
        refine v_iload F d_T_test_82 7 rfl ?_
        refine v_imul F d_T_test_84 ?_
        refine v_te (y := nI (10 * f)) (pk_mul _ _) ?_
        refine v_iload F d_T_test_85 8 rfl ?_
        refine v_iadd F d_T_test_87 ?_
        refine v_te (y := nI (10 * f + c)) (nI_add _ _) ?_
        refine v_istore (ls' := [(6, .int (nI (10 * f + c))), (5, .int (nI (gkN σ i (kbN σ G L i a N) (nI f) (nI c) (nI (othN L G i))))), (9, .int (nI (gkN σ i (kbN σ G L i a N) (nI f) (nI c) (nI (othN L G i))))), (0, .ref (u.2.1 0)), (1, .int (nI i)), (2, .int (nI a)), (4, .int (nI (kbN σ G L i a N))), (7, .int (nI f)), (8, .int (nI c))]) F d_T_test_88 (by decide) rfl ?_
        refine v_iinc (v := nI (c + 1)) (ls' := [(8, .int (nI (c + 1))), (6, .int (nI (10 * f + c))), (5, .int (nI (gkN σ i (kbN σ G L i a N) (nI f) (nI c) (nI (othN L G i))))), (9, .int (nI (gkN σ i (kbN σ G L i a N) (nI f) (nI c) (nI (othN L G i))))), (0, .ref (u.2.1 0)), (1, .int (nI i)), (2, .int (nI a)), (4, .int (nI (kbN σ G L i a N))), (7, .int (nI f))]) F d_T_test_90 (j := 8) rfl (nI_inc _) (by decide) rfl ?_
        refine v_goto F 50 d_T_test_93 rfl ?_
        refine v_sub [4, 5, 6, 7, 2, 1, 8, 0] (ls' := [(0, .ref (u.2.1 0)), (1, .int (nI i)), (2, .int (nI a)), (4, .int (nI (kbN σ G L i a N))), (5, .int (nI (gkN σ i (kbN σ G L i a N) (nI f) (nI c) (nI (othN L G i))))), (6, .int (nI (10 * f + c))), (7, .int (nI f)), (8, .int (nI (c + 1)))]) rfl ?_
        have g6 : (nI (gkN σ i (kbN σ G L i a N) (nI f) (nI c) (nI (othN L G i)))) = (nI ((itr (teF σ i (kbN σ G L i a N) (nI (othN L G i)) f) (itr (teG σ i (kbN σ G L i a N) (nI (othN L G i))) (7, -9) f) (c + 1)).1)) := (by first | rfl | (simp only [itr, teF]; rw [if_pos (by omega)]; done) | (simp only [itr, teF]; rw [if_neg (by omega)]; done))
        have g7 : (nI (10 * f + c)) = ((itr (teF σ i (kbN σ G L i a N) (nI (othN L G i)) f) (itr (teG σ i (kbN σ G L i a N) (nI (othN L G i))) (7, -9) f) (c + 1)).2) := (by first | rfl | (simp only [itr, teF]; rw [if_pos (by omega)]; done) | (simp only [itr, teF]; rw [if_neg (by omega)]; done))
        refine v_to (ls' := [(0, .ref (u.2.1 0)), (1, .int (nI i)), (2, .int (nI a)), (4, .int (nI (kbN σ G L i a N))), (5, .int (nI ((itr (teF σ i (kbN σ G L i a N) (nI (othN L G i)) f) (itr (teG σ i (kbN σ G L i a N) (nI (othN L G i))) (7, -9) f) (c + 1)).1))), (6, .int ((itr (teF σ i (kbN σ G L i a N) (nI (othN L G i)) f) (itr (teG σ i (kbN σ G L i a N) (nI (othN L G i))) (7, -9) f) (c + 1)).2)), (7, .int (nI f)), (8, .int (nI (c + 1)))]) (by first | rfl | rw [g6, g7] | simp_all) ?_
        exact ih (c + 1) (by omega) (by omega)
set_option maxHeartbeats 4000000 in
theorem L_T_test_40 {X : FX} {u : Un} (hA : Ap u) {Q : State → Prop} (F : Fr X u "TakerBook" b_T_test 10) {σ : St} {n G : Nat} {kd : Nat → Nat} (hb : bkOk σ n G kd) {L : Nat} (hL : σ.1 19 14 = nI L) (hL64 : L < 64) {a N : Nat} (ha : a < 6) (hN : N ≤ 40) (eN : σ.1 8 a = nI N) {i : Nat} (hi : i < n) (k : V X u 7 10 Q 102 [(0, .ref (u.2.1 0)), (1, .int (nI i)), (2, .int (nI a)), (4, .int (nI (kbN σ G L i a N))), (5, .int (nI ((itr (teG σ i (kbN σ G L i a N) (nI (othN L G i))) (7, -9) 10).1))), (6, .int ((itr (teG σ i (kbN σ G L i a N) (nI (othN L G i))) (7, -9) 10).2)), (7, .int (nI 10))] [] (σ)) : ∀ (nn f : Nat), f ≤ 10 → 10 - f < nn → V X u 7 10 Q 40 [(0, .ref (u.2.1 0)), (1, .int (nI i)), (2, .int (nI a)), (4, .int (nI (kbN σ G L i a N))), (5, .int (nI ((itr (teG σ i (kbN σ G L i a N) (nI (othN L G i))) (7, -9) f).1))), (6, .int ((itr (teG σ i (kbN σ G L i a N) (nI (othN L G i))) (7, -9) f).2)), (7, .int (nI f))] [] (σ) := by
  intro nn
  induction nn with
  | zero =>
    intro f h1 h2
    exact absurd h2 (Nat.not_lt_zero _)
  | succ nn ih =>
    intro f hii hnn
    obtain ⟨hn, hn6, hG, hG64, hkd, hk6⟩ := id hb
    refine v_iload F d_T_test_40 6 rfl ?_
    refine v_bipush (v := 9) F d_T_test_42 kb_9 ?_
    refine v_icmp_gt F 102 d_T_test_44 rfl (fun h44 => ?_) (fun h44 => ?_)
    · skip
      have h44 : 9 < f := (nI_ltI (a := 9) (b := f) (by omega) (by omega)).mp h44
      have he : f = 10 := by omega
      subst he
      exact k
    · skip
      have h44 : ¬ 9 < f := fun q => h44 ((nI_ltI (a := 9) (b := f) (by omega) (by omega)).mpr q)
      refine v_iconst (v := 0) F d_T_test_47 ki_0 ?_
      refine v_istore (ls' := [(8, .int 0), (0, .ref (u.2.1 0)), (1, .int (nI i)), (2, .int (nI a)), (4, .int (nI (kbN σ G L i a N))), (5, .int (nI ((itr (teG σ i (kbN σ G L i a N) (nI (othN L G i))) (7, -9) f).1))), (6, .int ((itr (teG σ i (kbN σ G L i a N) (nI (othN L G i))) (7, -9) f).2)), (7, .int (nI f))]) F d_T_test_48 (by decide) rfl ?_
      refine v_sub [1, 2, 3, 4, 5, 6, 7, 0] (ls' := [(0, .ref (u.2.1 0)), (1, .int (nI i)), (2, .int (nI a)), (4, .int (nI (kbN σ G L i a N))), (5, .int (nI ((itr (teG σ i (kbN σ G L i a N) (nI (othN L G i))) (7, -9) f).1))), (6, .int ((itr (teG σ i (kbN σ G L i a N) (nI (othN L G i))) (7, -9) f).2)), (7, .int (nI f)), (8, .int 0)]) rfl ?_
      have g1 : (nI ((itr (teG σ i (kbN σ G L i a N) (nI (othN L G i))) (7, -9) f).1)) = (nI ((itr (teF σ i (kbN σ G L i a N) (nI (othN L G i)) f) (itr (teG σ i (kbN σ G L i a N) (nI (othN L G i))) (7, -9) f) 0).1)) := (by first | rfl | (simp only [itr, teF]; rw [if_pos (by omega)]; done) | (simp only [itr, teF]; rw [if_neg (by omega)]; done))
      have g2 : ((itr (teG σ i (kbN σ G L i a N) (nI (othN L G i))) (7, -9) f).2) = ((itr (teF σ i (kbN σ G L i a N) (nI (othN L G i)) f) (itr (teG σ i (kbN σ G L i a N) (nI (othN L G i))) (7, -9) f) 0).2) := (by first | rfl | (simp only [itr, teF]; rw [if_pos (by omega)]; done) | (simp only [itr, teF]; rw [if_neg (by omega)]; done))
      have g3 : 0 = (nI 0) := (by first | rfl | (simp only [itr, teF]; rw [if_pos (by omega)]; done) | (simp only [itr, teF]; rw [if_neg (by omega)]; done))
      refine v_to (ls' := [(0, .ref (u.2.1 0)), (1, .int (nI i)), (2, .int (nI a)), (4, .int (nI (kbN σ G L i a N))), (5, .int (nI ((itr (teF σ i (kbN σ G L i a N) (nI (othN L G i)) f) (itr (teG σ i (kbN σ G L i a N) (nI (othN L G i))) (7, -9) f) 0).1))), (6, .int ((itr (teF σ i (kbN σ G L i a N) (nI (othN L G i)) f) (itr (teG σ i (kbN σ G L i a N) (nI (othN L G i))) (7, -9) f) 0).2)), (7, .int (nI f)), (8, .int (nI 0))]) (by first | rfl | rw [g1, g2, g3] | simp_all) ?_
      refine L_T_test_50 hA F hb hL hL64 ha hN eN hi (by omega) ?_ _ 0 (Nat.zero_le _) (Nat.lt_succ_self _)
      refine v_iinc (v := nI (f + 1)) (ls' := [(7, .int (nI (f + 1))), (0, .ref (u.2.1 0)), (1, .int (nI i)), (2, .int (nI a)), (4, .int (nI (kbN σ G L i a N))), (5, .int (nI ((itr (teF σ i (kbN σ G L i a N) (nI (othN L G i)) f) (itr (teG σ i (kbN σ G L i a N) (nI (othN L G i))) (7, -9) f) 3).1))), (6, .int ((itr (teF σ i (kbN σ G L i a N) (nI (othN L G i)) f) (itr (teG σ i (kbN σ G L i a N) (nI (othN L G i))) (7, -9) f) 3).2)), (8, .int (nI 3))]) F d_T_test_96 (j := 6) rfl (nI_inc _) (by decide) rfl ?_
      refine v_goto F 40 d_T_test_99 rfl ?_
      refine v_sub [1, 2, 3, 4, 5, 6, 0] (ls' := [(0, .ref (u.2.1 0)), (1, .int (nI i)), (2, .int (nI a)), (4, .int (nI (kbN σ G L i a N))), (5, .int (nI ((itr (teF σ i (kbN σ G L i a N) (nI (othN L G i)) f) (itr (teG σ i (kbN σ G L i a N) (nI (othN L G i))) (7, -9) f) 3).1))), (6, .int ((itr (teF σ i (kbN σ G L i a N) (nI (othN L G i)) f) (itr (teG σ i (kbN σ G L i a N) (nI (othN L G i))) (7, -9) f) 3).2)), (7, .int (nI (f + 1)))]) rfl ?_
      have g4 : (nI ((itr (teF σ i (kbN σ G L i a N) (nI (othN L G i)) f) (itr (teG σ i (kbN σ G L i a N) (nI (othN L G i))) (7, -9) f) 3).1)) = (nI ((itr (teG σ i (kbN σ G L i a N) (nI (othN L G i))) (7, -9) (f + 1)).1)) := (by first | rfl | (simp_all; done) | grind)
      have g5 : ((itr (teF σ i (kbN σ G L i a N) (nI (othN L G i)) f) (itr (teG σ i (kbN σ G L i a N) (nI (othN L G i))) (7, -9) f) 3).2) = ((itr (teG σ i (kbN σ G L i a N) (nI (othN L G i))) (7, -9) (f + 1)).2) := (by first | rfl | (simp_all; done) | grind)
      refine v_to (ls' := [(0, .ref (u.2.1 0)), (1, .int (nI i)), (2, .int (nI a)), (4, .int (nI (kbN σ G L i a N))), (5, .int (nI ((itr (teG σ i (kbN σ G L i a N) (nI (othN L G i))) (7, -9) (f + 1)).1))), (6, .int ((itr (teG σ i (kbN σ G L i a N) (nI (othN L G i))) (7, -9) (f + 1)).2)), (7, .int (nI (f + 1)))]) (by first | rfl | rw [g4, g5] | simp_all) ?_
      exact ih (f + 1) (by omega) (by omega)
set_option maxHeartbeats 4000000 in
theorem c_T_test (l : Launch) (u : Un) (hA : Ap u) (σ : St) {n G : Nat} {kd : Nat → Nat} (hb : bkOk σ n G kd) {L : Nat} (hL : σ.1 19 14 = nI L) (hL64 : L < 64) (hI : rowsOk σ) (i r : Int32) : MTi l u y_T_test b_T_test 10 .int 7 [.ref (u.2.1 0), .int i, .int r] σ (fun x σ' => trRes σ i r (fun _ => True) x σ' (if kbN σ G L (ix i) (ix r) (rdS σ (ix r)) = 0 then -9 else (teN σ G L (ix i) (ix r) (rdS σ (ix r))).2) (if kbN σ G L (ix i) (ix r) (rdS σ (ix r)) = 0 then σ else uI σ 0 12 (nI (teN σ G L (ix i) (ix r) (rdS σ (ix r))).1))) := by
  refine MT_of hA rfl (by decide) (Nat.le_of_ble_eq_true rfl) (fun X hl F hr => ?_)
  subst hl
  refine v_to (ls' := [(0, .ref (u.2.1 0)), (1, .int i), (2, .int r)]) rfl ?_
  obtain ⟨hn, hn6, hG, hG64, hkd, hk6⟩ := id hb
  refine v_aload_n F d_T_test_0 rfl 0 rfl ?_
  refine v_iload_n F d_T_test_1 rfl 1 rfl ?_
  refine v_iload_n F d_T_test_2 rfl 2 rfl ?_
  refine v_runi (r_V F (c_T_refusedTriples X.2.1 u hA σ i r hI) mo_T_refusedTriples st_T_263 rc_0 (by decide) rfl (Nat.le_of_ble_eq_true rfl) d_T_test_3) (fun r1 σ2 q3 => ?_)
  rcases q3 with ⟨a1, rfl, rfl⟩ | ⟨a1, ⟨a2, rfl, eσ2⟩ | ⟨a2, a3, rfl, eσ2⟩ | ⟨a2, a3, a4, rfl, rfl⟩ | ⟨a2, a3, a4, rfl, eσ2⟩⟩
  · skip
    refine v_istore_n (ls' := [(3, .int (-1)), (0, .ref (u.2.1 0)), (1, .int i), (2, .int r)]) F d_T_test_6 rfl (by decide) rfl ?_
    refine v_iload_n F d_T_test_7 rfl 0 rfl ?_
    refine v_if_eq F 13 d_T_test_8 rfl (fun h => absurd h (by decide)) (fun _ => ?_)
    refine v_iload_n F d_T_test_11 rfl 0 rfl ?_
    refine v_iret F hr rfl d_T_test_12 ?_
    first | exact Or.inl ⟨a1, rfl, rfl⟩ | exact Or.inr ⟨a1, Or.inl ⟨a2, rfl, by assumption⟩⟩ | exact Or.inr ⟨a1, Or.inr (Or.inl ⟨a2, a3, rfl, by assumption⟩)⟩ | exact Or.inr ⟨a1, Or.inr (Or.inr (Or.inr ⟨a2, a3, a4, rfl, by assumption⟩))⟩ | (exact Or.inr ⟨a1, Or.inr (Or.inr (Or.inl ⟨by rw [xa]; exact a2, by rw [xa]; exact a3, by rw [xa]; exact a4, by rw [xa, xi, eR, if_pos (by assumption)], by rw [xa, xi, eR, if_pos (by assumption)]⟩))⟩) | (exact Or.inr ⟨a1, Or.inr (Or.inr (Or.inl ⟨by rw [xa]; exact a2, by rw [xa]; exact a3, by rw [xa]; exact a4, by rw [xa, xi, eR, if_neg (by assumption)]; rfl, by rw [xa, xi, eR, if_neg (by assumption)]; subst_vars; rfl⟩))⟩)
  · skip
    refine v_istore_n (ls' := [(3, .int (-3)), (0, .ref (u.2.1 0)), (1, .int i), (2, .int r)]) F d_T_test_6 rfl (by decide) rfl ?_
    refine v_iload_n F d_T_test_7 rfl 0 rfl ?_
    refine v_if_eq F 13 d_T_test_8 rfl (fun h => absurd h (by decide)) (fun _ => ?_)
    refine v_iload_n F d_T_test_11 rfl 0 rfl ?_
    refine v_iret F hr rfl d_T_test_12 ?_
    first | exact Or.inl ⟨a1, rfl, rfl⟩ | exact Or.inr ⟨a1, Or.inl ⟨a2, rfl, by assumption⟩⟩ | exact Or.inr ⟨a1, Or.inr (Or.inl ⟨a2, a3, rfl, by assumption⟩)⟩ | exact Or.inr ⟨a1, Or.inr (Or.inr (Or.inr ⟨a2, a3, a4, rfl, by assumption⟩))⟩ | (exact Or.inr ⟨a1, Or.inr (Or.inr (Or.inl ⟨by rw [xa]; exact a2, by rw [xa]; exact a3, by rw [xa]; exact a4, by rw [xa, xi, eR, if_pos (by assumption)], by rw [xa, xi, eR, if_pos (by assumption)]⟩))⟩) | (exact Or.inr ⟨a1, Or.inr (Or.inr (Or.inl ⟨by rw [xa]; exact a2, by rw [xa]; exact a3, by rw [xa]; exact a4, by rw [xa, xi, eR, if_neg (by assumption)]; rfl, by rw [xa, xi, eR, if_neg (by assumption)]; subst_vars; rfl⟩))⟩)
  · skip
    refine v_istore_n (ls' := [(3, .int (-3)), (0, .ref (u.2.1 0)), (1, .int i), (2, .int r)]) F d_T_test_6 rfl (by decide) rfl ?_
    refine v_iload_n F d_T_test_7 rfl 0 rfl ?_
    refine v_if_eq F 13 d_T_test_8 rfl (fun h => absurd h (by decide)) (fun _ => ?_)
    refine v_iload_n F d_T_test_11 rfl 0 rfl ?_
    refine v_iret F hr rfl d_T_test_12 ?_
    first | exact Or.inl ⟨a1, rfl, rfl⟩ | exact Or.inr ⟨a1, Or.inl ⟨a2, rfl, by assumption⟩⟩ | exact Or.inr ⟨a1, Or.inr (Or.inl ⟨a2, a3, rfl, by assumption⟩)⟩ | exact Or.inr ⟨a1, Or.inr (Or.inr (Or.inr ⟨a2, a3, a4, rfl, by assumption⟩))⟩ | (exact Or.inr ⟨a1, Or.inr (Or.inr (Or.inl ⟨by rw [xa]; exact a2, by rw [xa]; exact a3, by rw [xa]; exact a4, by rw [xa, xi, eR, if_pos (by assumption)], by rw [xa, xi, eR, if_pos (by assumption)]⟩))⟩) | (exact Or.inr ⟨a1, Or.inr (Or.inr (Or.inl ⟨by rw [xa]; exact a2, by rw [xa]; exact a3, by rw [xa]; exact a4, by rw [xa, xi, eR, if_neg (by assumption)]; rfl, by rw [xa, xi, eR, if_neg (by assumption)]; subst_vars; rfl⟩))⟩)
  · skip
    obtain ⟨a, ha, xa, rfl⟩ := inR_nat (N := 6) a1.2 rfl (by decide)
    obtain ⟨i, hi, xi, rfl⟩ := has_nat a1.1 hn hn6
    rw [xa] at a2 a3 a4
    obtain ⟨N, hN, xN, eN⟩ := nat_of (M := 40) a2 (hI _ ha) rfl (by decide)
    have eR : rdS σ a = N := xN
    refine v_istore_n (ls' := [(3, .int 0), (0, .ref (u.2.1 0)), (1, .int (nI i)), (2, .int (nI a))]) F d_T_test_6 rfl (by decide) rfl ?_
    refine v_iload_n F d_T_test_7 rfl 0 rfl ?_
    refine v_if_eq F 13 d_T_test_8 rfl (fun _ => ?_) (fun h => absurd (by decide) h)
    refine v_aload_n F d_T_test_13 rfl 1 rfl ?_
    refine v_iload_n F d_T_test_14 rfl 2 rfl ?_
    refine v_iload_n F d_T_test_15 rfl 3 rfl ?_
    refine v_runi (r_V F (c_T_kindsBy X.2.1 u hA σ hb hL hL64 ha hN eN i (by omega)) mo_T_kindsBy st_T_270 rc_0 (by decide) rfl (Nat.le_of_ble_eq_true rfl) d_T_test_16) (fun r4 σ5 q6 => ?_)
    obtain ⟨rfl, rfl⟩ := q6
    refine v_istore (ls' := [(4, .int (nI (kbN σ G L i a N))), (3, .int 0), (0, .ref (u.2.1 0)), (1, .int (nI i)), (2, .int (nI a))]) F d_T_test_19 (by decide) rfl ?_
    have hk64 := kbN_64 (σ := σ) (G := G) (L := L) (i := i) (a := a) (N := N)
    refine v_iload F d_T_test_21 0 rfl ?_
    refine v_if_ne F 29 d_T_test_23 rfl (fun h23 => ?_) (fun h23 => ?_)
    · skip
      have h23 : ¬ kbN σ G L i a N = 0 := fun q => h23 ((nI_eq (a := kbN σ G L i a N) (b := 0) (by omega) (by omega)).mpr q)
      skip
      refine v_bipush (v := 7) F d_T_test_29 kb_7 ?_
      refine v_istore (ls' := [(5, .int 7), (4, .int (nI (kbN σ G L i a N))), (3, .int 0), (0, .ref (u.2.1 0)), (1, .int (nI i)), (2, .int (nI a))]) F d_T_test_31 (by decide) rfl ?_
      refine v_bipush (v := (-9)) F d_T_test_33 kb_m9 ?_
      refine v_istore (ls' := [(6, .int (-9)), (5, .int 7), (4, .int (nI (kbN σ G L i a N))), (3, .int 0), (0, .ref (u.2.1 0)), (1, .int (nI i)), (2, .int (nI a))]) F d_T_test_35 (by decide) rfl ?_
      refine v_iconst (v := 0) F d_T_test_37 ki_0 ?_
      refine v_istore (ls' := [(7, .int 0), (6, .int (-9)), (5, .int 7), (4, .int (nI (kbN σ G L i a N))), (3, .int 0), (0, .ref (u.2.1 0)), (1, .int (nI i)), (2, .int (nI a))]) F d_T_test_38 (by decide) rfl ?_
      refine v_sub [5, 6, 7, 3, 2, 1, 0] (ls' := [(0, .ref (u.2.1 0)), (1, .int (nI i)), (2, .int (nI a)), (4, .int (nI (kbN σ G L i a N))), (5, .int 7), (6, .int (-9)), (7, .int 0)]) rfl ?_
      have g7 : 7 = (nI ((itr (teG σ i (kbN σ G L i a N) (nI (othN L G i))) (7, -9) 0).1)) := (by first | rfl | (simp_all; done) | grind)
      have g8 : (-9) = ((itr (teG σ i (kbN σ G L i a N) (nI (othN L G i))) (7, -9) 0).2) := (by first | rfl | (simp_all; done) | grind)
      have g9 : 0 = (nI 0) := (by first | rfl | (simp_all; done) | grind)
      refine v_to (ls' := [(0, .ref (u.2.1 0)), (1, .int (nI i)), (2, .int (nI a)), (4, .int (nI (kbN σ G L i a N))), (5, .int (nI ((itr (teG σ i (kbN σ G L i a N) (nI (othN L G i))) (7, -9) 0).1))), (6, .int ((itr (teG σ i (kbN σ G L i a N) (nI (othN L G i))) (7, -9) 0).2)), (7, .int (nI 0))]) (by first | rfl | rw [g7, g8, g9] | simp_all) ?_
      refine L_T_test_40 hA F hb hL hL64 ha hN eN hi ?_ _ 0 (Nat.zero_le _) (Nat.lt_succ_self _)
      refine v_aload_n F d_T_test_102 rfl 0 rfl ?_
      refine v_iload F d_T_test_103 4 rfl ?_
      refine v_puti F fk_T_88 pk_T_told G0 rfl d_T_test_105 ?_
      refine v_ns (fun σ10 eσ10 => ?_)
      refine v_iload F d_T_test_108 5 rfl ?_
      refine v_iret F hr rfl d_T_test_110 ?_
      first | exact Or.inl ⟨a1, rfl, rfl⟩ | exact Or.inr ⟨a1, Or.inl ⟨a2, rfl, by assumption⟩⟩ | exact Or.inr ⟨a1, Or.inr (Or.inl ⟨a2, a3, rfl, by assumption⟩)⟩ | exact Or.inr ⟨a1, Or.inr (Or.inr (Or.inr ⟨a2, a3, a4, rfl, by assumption⟩))⟩ | (exact Or.inr ⟨a1, Or.inr (Or.inr (Or.inl ⟨by rw [xa]; exact a2, by rw [xa]; exact a3, by rw [xa]; exact a4, by rw [xa, xi, eR, if_pos (by assumption)], by rw [xa, xi, eR, if_pos (by assumption)]⟩))⟩) | (exact Or.inr ⟨a1, Or.inr (Or.inr (Or.inl ⟨by rw [xa]; exact a2, by rw [xa]; exact a3, by rw [xa]; exact a4, by rw [xa, xi, eR, if_neg (by assumption)]; rfl, by rw [xa, xi, eR, if_neg (by assumption)]; subst_vars; rfl⟩))⟩)
    · skip
      have h23 : kbN σ G L i a N = 0 := (nI_eq (a := kbN σ G L i a N) (b := 0) (by omega) (by omega)).mp h23
      refine v_bipush (v := (-9)) F d_T_test_26 kb_m9 ?_
      refine v_iret F hr rfl d_T_test_28 ?_
      first | exact Or.inl ⟨a1, rfl, rfl⟩ | exact Or.inr ⟨a1, Or.inl ⟨a2, rfl, by assumption⟩⟩ | exact Or.inr ⟨a1, Or.inr (Or.inl ⟨a2, a3, rfl, by assumption⟩)⟩ | exact Or.inr ⟨a1, Or.inr (Or.inr (Or.inr ⟨a2, a3, a4, rfl, by assumption⟩))⟩ | (exact Or.inr ⟨a1, Or.inr (Or.inr (Or.inl ⟨by rw [xa]; exact a2, by rw [xa]; exact a3, by rw [xa]; exact a4, by rw [xa, xi, eR, if_pos (by assumption)], by rw [xa, xi, eR, if_pos (by assumption)]⟩))⟩) | (exact Or.inr ⟨a1, Or.inr (Or.inr (Or.inl ⟨by rw [xa]; exact a2, by rw [xa]; exact a3, by rw [xa]; exact a4, by rw [xa, xi, eR, if_neg (by assumption)]; rfl, by rw [xa, xi, eR, if_neg (by assumption)]; subst_vars; rfl⟩))⟩)
  · skip
    refine v_istore_n (ls' := [(3, .int (-3)), (0, .ref (u.2.1 0)), (1, .int i), (2, .int r)]) F d_T_test_6 rfl (by decide) rfl ?_
    refine v_iload_n F d_T_test_7 rfl 0 rfl ?_
    refine v_if_eq F 13 d_T_test_8 rfl (fun h => absurd h (by decide)) (fun _ => ?_)
    refine v_iload_n F d_T_test_11 rfl 0 rfl ?_
    refine v_iret F hr rfl d_T_test_12 ?_
    first | exact Or.inl ⟨a1, rfl, rfl⟩ | exact Or.inr ⟨a1, Or.inl ⟨a2, rfl, by assumption⟩⟩ | exact Or.inr ⟨a1, Or.inr (Or.inl ⟨a2, a3, rfl, by assumption⟩)⟩ | exact Or.inr ⟨a1, Or.inr (Or.inr (Or.inr ⟨a2, a3, a4, rfl, by assumption⟩))⟩ | (exact Or.inr ⟨a1, Or.inr (Or.inr (Or.inl ⟨by rw [xa]; exact a2, by rw [xa]; exact a3, by rw [xa]; exact a4, by rw [xa, xi, eR, if_pos (by assumption)], by rw [xa, xi, eR, if_pos (by assumption)]⟩))⟩) | (exact Or.inr ⟨a1, Or.inr (Or.inr (Or.inl ⟨by rw [xa]; exact a2, by rw [xa]; exact a3, by rw [xa]; exact a4, by rw [xa, xi, eR, if_neg (by assumption)]; rfl, by rw [xa, xi, eR, if_neg (by assumption)]; subst_vars; rfl⟩))⟩)
