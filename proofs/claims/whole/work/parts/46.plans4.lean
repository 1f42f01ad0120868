theorem fk_P_89 : fok "TakerBook$Plans" 89 2 11 := ⟨(R_P, F_P, 12), rfl, by decide, List.mem_of_getElem? (i := 279) (by decide +kernel), rfl⟩
theorem pk_P_trial : pok 2 11 .int := ⟨(R_P, F_P, 12), rfl, rfl, by decide +kernel⟩
theorem st_T_214 : siteS "TakerBook" 214 ⟨"TakerBook", "isPlanSize", "(I)Z"⟩ := ⟨List.mem_of_getElem? (i := 767) (by decide +kernel), List.mem_of_getElem? (i := 768) (by decide +kernel)⟩
theorem fk_T_43 : fok "TakerBook" 43 0 6 := ⟨(R_T, F_T, 15), rfl, by decide, List.mem_of_getElem? (i := 361) (by decide +kernel), rfl⟩
theorem st_T_217 : siteV "TakerBook" 217 ⟨"TakerBook$Plans", "goThrough", "(LTakerBook$Band;I)V"⟩ := ⟨List.mem_of_getElem? (i := 770) (by decide +kernel), List.mem_of_getElem? (i := 771) (by decide +kernel), List.mem_of_getElem? (i := 772) (by decide +kernel)⟩
theorem st_T_221 : siteV "TakerBook" 221 ⟨"TakerBook", "row", "(II)I"⟩ := ⟨List.mem_of_getElem? (i := 791) (by decide +kernel), List.mem_of_getElem? (i := 402) (by decide +kernel), List.mem_of_getElem? (i := 403) (by decide +kernel)⟩
theorem fk_T_224 : fok "TakerBook" 224 2 4 := ⟨(R_P, F_P, 12), rfl, by decide, List.mem_of_getElem? (i := 269) (by decide +kernel), rfl⟩
theorem fk_T_227 : fok "TakerBook" 227 2 8 := ⟨(R_P, F_P, 12), rfl, by decide, List.mem_of_getElem? (i := 274) (by decide +kernel), rfl⟩
theorem fk_T_230 : fok "TakerBook" 230 2 9 := ⟨(R_P, F_P, 12), rfl, by decide, List.mem_of_getElem? (i := 276) (by decide +kernel), rfl⟩
theorem fk_T_237 : fok "TakerBook" 237 2 10 := ⟨(R_P, F_P, 12), rfl, by decide, List.mem_of_getElem? (i := 278) (by decide +kernel), rfl⟩
theorem st_T_240 : siteV "TakerBook" 240 ⟨"TakerBook", "isPlan", "([II)Z"⟩ := ⟨List.mem_of_getElem? (i := 804) (by decide +kernel), List.mem_of_getElem? (i := 806) (by decide +kernel), List.mem_of_getElem? (i := 16) (by decide +kernel)⟩
theorem st_T_244 : siteV "TakerBook" 244 ⟨"TakerBook$Plans", "follow", "(LTakerBook$Band;[II)I"⟩ := ⟨List.mem_of_getElem? (i := 808) (by decide +kernel), List.mem_of_getElem? (i := 809) (by decide +kernel), List.mem_of_getElem? (i := 810) (by decide +kernel)⟩
theorem fk_T_248 : fok "TakerBook" 248 2 11 := ⟨(R_P, F_P, 12), rfl, by decide, List.mem_of_getElem? (i := 280) (by decide +kernel), rfl⟩
abbrev b_T_isPlan : ByteArray := prog_1_method_60_code
abbrev y_T_isPlan : MethodName := ⟨"TakerBook", "isPlan", "([II)Z"⟩
theorem d_T_isPlan_0 : decode b_T_isPlan 0 = .ok (.aload_n 0, 1) := by decide +kernel
theorem d_T_isPlan_1 : decode b_T_isPlan 1 = .ok (.getfield 36, 3) := by decide +kernel
theorem d_T_isPlan_4 : decode b_T_isPlan 4 = .ok (.getfield 166, 3) := by decide +kernel
theorem d_T_isPlan_7 : decode b_T_isPlan 7 = .ok (.istore_n 3, 1) := by decide +kernel
theorem d_T_isPlan_8 : decode b_T_isPlan 8 = .ok (.iconst 0, 1) := by decide +kernel
theorem d_T_isPlan_9 : decode b_T_isPlan 9 = .ok (.istore 4, 2) := by decide +kernel
theorem d_T_isPlan_11 : decode b_T_isPlan 11 = .ok (.iload 4, 2) := by decide +kernel
theorem d_T_isPlan_13 : decode b_T_isPlan 13 = .ok (.iload_n 2, 1) := by decide +kernel
theorem d_T_isPlan_14 : decode b_T_isPlan 14 = .ok (.if_icmp .ge 57, 3) := by decide +kernel
theorem d_T_isPlan_17 : decode b_T_isPlan 17 = .ok (.aload_n 1, 1) := by decide +kernel
theorem d_T_isPlan_18 : decode b_T_isPlan 18 = .ok (.iload 4, 2) := by decide +kernel
theorem d_T_isPlan_20 : decode b_T_isPlan 20 = .ok (.iaload, 1) := by decide +kernel
theorem d_T_isPlan_21 : decode b_T_isPlan 21 = .ok (.istore 5, 2) := by decide +kernel
theorem d_T_isPlan_23 : decode b_T_isPlan 23 = .ok (.iload 5, 2) := by decide +kernel
theorem d_T_isPlan_25 : decode b_T_isPlan 25 = .ok (.bipush (-9), 2) := by decide +kernel
theorem d_T_isPlan_27 : decode b_T_isPlan 27 = .ok (.if_icmp .ne 6, 3) := by decide +kernel
theorem d_T_isPlan_30 : decode b_T_isPlan 30 = .ok (.goto 35, 3) := by decide +kernel
theorem d_T_isPlan_33 : decode b_T_isPlan 33 = .ok (.aload_n 0, 1) := by decide +kernel
theorem d_T_isPlan_34 : decode b_T_isPlan 34 = .ok (.getfield 36, 3) := by decide +kernel
theorem d_T_isPlan_37 : decode b_T_isPlan 37 = .ok (.iload 5, 2) := by decide +kernel
theorem d_T_isPlan_39 : decode b_T_isPlan 39 = .ok (.invokevirtual 121, 3) := by decide +kernel
theorem d_T_isPlan_42 : decode b_T_isPlan 42 = .ok (.ifCond .eq 12, 3) := by decide +kernel
theorem d_T_isPlan_45 : decode b_T_isPlan 45 = .ok (.iload 5, 2) := by decide +kernel
theorem d_T_isPlan_47 : decode b_T_isPlan 47 = .ok (.iload_n 3, 1) := by decide +kernel
theorem d_T_isPlan_48 : decode b_T_isPlan 48 = .ok (.invokestatic 169, 3) := by decide +kernel
theorem d_T_isPlan_51 : decode b_T_isPlan 51 = .ok (.ifCond .ne 5, 3) := by decide +kernel
theorem d_T_isPlan_54 : decode b_T_isPlan 54 = .ok (.iconst 0, 1) := by decide +kernel
theorem d_T_isPlan_55 : decode b_T_isPlan 55 = .ok (.ireturn, 1) := by decide +kernel
theorem d_T_isPlan_56 : decode b_T_isPlan 56 = .ok (.iload_n 3, 1) := by decide +kernel
theorem d_T_isPlan_57 : decode b_T_isPlan 57 = .ok (.iconst 1, 1) := by decide +kernel
theorem d_T_isPlan_58 : decode b_T_isPlan 58 = .ok (.iload 5, 2) := by decide +kernel
theorem d_T_isPlan_60 : decode b_T_isPlan 60 = .ok (.ishl, 1) := by decide +kernel
theorem d_T_isPlan_61 : decode b_T_isPlan 61 = .ok (.iconst (-1), 1) := by decide +kernel
theorem d_T_isPlan_62 : decode b_T_isPlan 62 = .ok (.ixor, 1) := by decide +kernel
theorem d_T_isPlan_63 : decode b_T_isPlan 63 = .ok (.iand, 1) := by decide +kernel
theorem d_T_isPlan_64 : decode b_T_isPlan 64 = .ok (.istore_n 3, 1) := by decide +kernel
theorem d_T_isPlan_65 : decode b_T_isPlan 65 = .ok (.iinc 4 1, 3) := by decide +kernel
theorem d_T_isPlan_68 : decode b_T_isPlan 68 = .ok (.goto (-57), 3) := by decide +kernel
theorem d_T_isPlan_71 : decode b_T_isPlan 71 = .ok (.iconst 1, 1) := by decide +kernel
theorem d_T_isPlan_72 : decode b_T_isPlan 72 = .ok (.ireturn, 1) := by decide +kernel
theorem mo_T_isPlan : mok y_T_isPlan b_T_isPlan 6 (some .boolean) 2 := ⟨List.mem_of_getElem? (i := 807) (by decide +kernel), ⟨by decide +kernel, by decide +kernel, by decide +kernel⟩, List.mem_of_getElem? (i := 74) (by decide +kernel), by decide⟩
set_option maxHeartbeats 4000000 in
theorem L_T_isPlan_11 {X : FX} {u : Un} (hA : Ap u) {Q : State → Prop} (F : Fr X u "TakerBook" b_T_isPlan 6) {σ : St} {n L a N : Nat} (hn : σ.1 19 8 = nI n) (hn6 : n ≤ 6) (ha : a < 6) (hN : N ≤ 40) (k0 : ∀ (w : Nat) (z : Nat), ¬ (okS σ L (2 + a) N).isSome = true → V X u 2 6 Q 54 [(0, .ref (u.2.1 0)), (1, .ref (u.2.1 (2 + a))), (2, .int (nI N)), (3, .int (nI z)), (4, .int (nI w))] [] (σ)) (k1 : ∀ (w : Nat) (z : Nat), (okS σ L (2 + a) N).isSome = true → V X u 2 6 Q 71 [(0, .ref (u.2.1 0)), (1, .ref (u.2.1 (2 + a))), (2, .int (nI N)), (3, .int (nI z)), (4, .int (nI w))] [] (σ)) : ∀ (nn : Nat) (w : Nat) (z : Nat), w ≤ N → okS σ L (2 + a) w = some z → z < 64 → N - w < nn → V X u 2 6 Q 11 [(0, .ref (u.2.1 0)), (1, .ref (u.2.1 (2 + a))), (2, .int (nI N)), (3, .int (nI z)), (4, .int (nI w))] [] (σ) := by
  intro nn
  induction nn with
  | zero =>
    intro w z hw hz hz64 h2
    exact absurd h2 (Nat.not_lt_zero _)
  | succ nn ih =>
    intro w z hw hz hz64 hm
    refine v_iload F d_T_isPlan_11 4 rfl ?_
    refine v_iload_n F d_T_isPlan_13 rfl 2 rfl ?_
    refine v_icmp_ge F 71 d_T_isPlan_14 rfl (fun h14 => ?_) (fun h14 => ?_)
    · skip
      have h14 : N ≤ w := (nI_leI (a := N) (b := w) (by omega) (by omega)).mp h14
      exact k1 w z (by have e : w = N := (by omega); rw [← e, hz]; rfl)
    · skip
      have h14 : ¬ N ≤ w := fun q => h14 ((nI_leI (a := N) (b := w) (by omega) (by omega)).mpr q)
      refine v_aload_n F d_T_isPlan_17 rfl 1 rfl ?_
      refine v_iload F d_T_isPlan_18 4 rfl ?_
      refine v_ial F w (gam_row _ ha) rfl (by omega) d_T_isPlan_20 ?_
      refine v_ni (fun x1 ex1 => ?_)
      refine v_istore (ls' := [(5, .int x1), (0, .ref (u.2.1 0)), (1, .ref (u.2.1 (2 + a))), (2, .int (nI N)), (3, .int (nI z)), (4, .int (nI w))]) F d_T_isPlan_21 (by decide) rfl ?_
      refine v_iload F d_T_isPlan_23 0 rfl ?_
      refine v_bipush (v := (-9)) F d_T_isPlan_25 kb_m9 ?_
      refine v_icmp_ne F 33 d_T_isPlan_27 rfl (fun h27 => ?_) (fun h27 => ?_)
      · skip
        refine v_aload_n F d_T_isPlan_33 rfl 1 rfl ?_
        refine v_getr (r := 19) F fk_T_36 G0 rfl d_T_isPlan_34 ?_
        refine v_iload F d_T_isPlan_37 0 rfl ?_
        refine v_runi (r_V F (c_B_has X.2.1 u hA σ x1 ) mo_B_has st_T_121 rc_19 (by decide) rfl (Nat.le_of_ble_eq_true rfl) d_T_isPlan_39) (fun r2 σ3 q4 => ?_)
        obtain ⟨rfl, rfl⟩ := q4
        refine v_bt F 54 d_T_isPlan_42 rfl (fun h42 => ?_) (fun h42 => ?_)
        · skip
          refine v_sub [1, 2, 3, 4, 5] (ls' := [(0, .ref (u.2.1 0)), (1, .ref (u.2.1 (2 + a))), (2, .int (nI N)), (3, .int (nI z)), (4, .int (nI w))]) rfl ?_
          exact k0 w z (by first | exact okS_bad hz (by omega) (by rw [← ex1]; exact h27) (by rw [← ex1]; exact fun q => h42 q.1) | exact okS_bad hz (by omega) (by rw [← ex1]; exact h27) (by rw [← ex1, xj]; exact fun q => h51 q.2))
        · skip
          obtain ⟨j, hj, xj, rfl⟩ := has_nat h42 hn hn6
          refine v_iload F d_T_isPlan_45 0 rfl ?_
          refine v_iload_n F d_T_isPlan_47 rfl 4 rfl ?_
          refine v_runi (r_S F (c_T_isIn2 X.2.1 u hA σ j z (by omega) (by omega)) mo_T_isIn st_T_169 (by decide) rfl (Nat.le_of_ble_eq_true rfl) d_T_isPlan_48) (fun r5 σ6 q7 => ?_)
          obtain ⟨rfl, rfl⟩ := q7
          refine v_bf F 56 d_T_isPlan_51 rfl (fun h51 => ?_) (fun h51 => ?_)
          · skip
            refine v_iload_n F d_T_isPlan_56 rfl 4 rfl ?_
            refine v_iconst (v := 1) F d_T_isPlan_57 ki_1 ?_
            refine v_iload F d_T_isPlan_58 0 rfl ?_
            refine v_ishl F d_T_isPlan_60 ?_
            refine v_iconst (v := (-1)) F d_T_isPlan_61 ki_m1 ?_
            refine v_ixor F d_T_isPlan_62 ?_
            refine v_iand F d_T_isPlan_63 ?_
            refine v_te (y := nI (z &&& (63 ^^^ 2 ^ j))) (mask6 _ hz64 _ (by omega)) ?_
            refine v_istore_n (ls' := [(3, .int (nI (z &&& (63 ^^^ 2 ^ j)))), (5, .int (nI j)), (0, .ref (u.2.1 0)), (1, .ref (u.2.1 (2 + a))), (2, .int (nI N)), (4, .int (nI w))]) F d_T_isPlan_64 rfl (by decide) rfl ?_
            refine v_iinc (v := nI (w + 1)) (ls' := [(4, .int (nI (w + 1))), (3, .int (nI (z &&& (63 ^^^ 2 ^ j)))), (5, .int (nI j)), (0, .ref (u.2.1 0)), (1, .ref (u.2.1 (2 + a))), (2, .int (nI N))]) F d_T_isPlan_65 (j := 5) rfl (nI_inc _) (by decide) rfl ?_
            refine v_goto F 11 d_T_isPlan_68 rfl ?_
            refine v_sub [3, 4, 5, 1, 0] (ls' := [(0, .ref (u.2.1 0)), (1, .ref (u.2.1 (2 + a))), (2, .int (nI N)), (3, .int (nI (z &&& (63 ^^^ 2 ^ j)))), (4, .int (nI (w + 1)))]) rfl ?_
            exact ih (w + 1) (z &&& (63 ^^^ 2 ^ j)) (by omega) (okS_y hz (by rw [← ex1]; exact h27) (by rw [← ex1, xj]) (by rw [← ex1]; exact h42) h51) (and_lt hz64) (by omega)
          · skip
            refine v_sub [1, 2, 3, 4, 5] (ls' := [(0, .ref (u.2.1 0)), (1, .ref (u.2.1 (2 + a))), (2, .int (nI N)), (3, .int (nI z)), (4, .int (nI w))]) rfl ?_
            exact k0 w z (by first | exact okS_bad hz (by omega) (by rw [← ex1]; exact h27) (by rw [← ex1]; exact fun q => h42 q.1) | exact okS_bad hz (by omega) (by rw [← ex1]; exact h27) (by rw [← ex1, xj]; exact fun q => h51 q.2))
      · skip
        refine v_goto F 65 d_T_isPlan_30 rfl ?_
        refine v_iinc (v := nI (w + 1)) (ls' := [(4, .int (nI (w + 1))), (5, .int x1), (0, .ref (u.2.1 0)), (1, .ref (u.2.1 (2 + a))), (2, .int (nI N)), (3, .int (nI z))]) F d_T_isPlan_65 (j := 5) rfl (nI_inc _) (by decide) rfl ?_
        refine v_goto F 11 d_T_isPlan_68 rfl ?_
        refine v_sub [2, 3, 4, 5, 0] (ls' := [(0, .ref (u.2.1 0)), (1, .ref (u.2.1 (2 + a))), (2, .int (nI N)), (3, .int (nI z)), (4, .int (nI (w + 1)))]) rfl ?_
        exact ih (w + 1) (z) (by omega) (okS_9 hz (by rw [← ex1]; exact h27)) hz64 (by omega)
set_option maxHeartbeats 4000000 in
theorem c_T_isPlan (l : Launch) (u : Un) (hA : Ap u) (σ : St) {n G : Nat} {kd : Nat → Nat} (hb : bkOk σ n G kd) {L : Nat} (hL : σ.1 19 14 = nI L) (hL64 : L < 64) {a N : Nat} (ha : a < 6) (hN : N ≤ 40) : MTi l u y_T_isPlan b_T_isPlan 6 .boolean 2 [.ref (u.2.1 0), .ref (u.2.1 (2 + a)), .int (nI N)] σ (fun ans σ' => bI ((okS σ L (2 + a) N).isSome = true) = ans ∧ σ = σ') := by
  refine MT_of hA rfl (by decide) (Nat.le_of_ble_eq_true rfl) (fun X hl F hr => ?_)
  subst hl
  refine v_to (ls' := [(0, .ref (u.2.1 0)), (1, .ref (u.2.1 (2 + a))), (2, .int (nI N))]) rfl ?_
  obtain ⟨hn, hn6, hG, hG64, hkd, hk6⟩ := id hb
  refine v_aload_n F d_T_isPlan_0 rfl 0 rfl ?_
  refine v_getr (r := 19) F fk_T_36 G0 rfl d_T_isPlan_1 ?_
  refine v_geti F fk_T_166 G19 rfl d_T_isPlan_4 ?_
  refine v_te (y := nI L) hL ?_
  refine v_istore_n (ls' := [(3, .int (nI L)), (0, .ref (u.2.1 0)), (1, .ref (u.2.1 (2 + a))), (2, .int (nI N))]) F d_T_isPlan_7 rfl (by decide) rfl ?_
  refine v_iconst (v := 0) F d_T_isPlan_8 ki_0 ?_
  refine v_istore (ls' := [(4, .int 0), (3, .int (nI L)), (0, .ref (u.2.1 0)), (1, .ref (u.2.1 (2 + a))), (2, .int (nI N))]) F d_T_isPlan_9 (by decide) rfl ?_
  refine v_sub [2, 3, 4, 1, 0] (ls' := [(0, .ref (u.2.1 0)), (1, .ref (u.2.1 (2 + a))), (2, .int (nI N)), (3, .int (nI L)), (4, .int 0)]) rfl ?_
  have g1 : 0 = (nI 0) := (by first | rfl | (simp_all; done) | grind)
  refine v_to (ls' := [(0, .ref (u.2.1 0)), (1, .ref (u.2.1 (2 + a))), (2, .int (nI N)), (3, .int (nI L)), (4, .int (nI 0))]) (by first | rfl | rw [g1] | simp_all) ?_
  refine L_T_isPlan_11 hA F hn hn6 ha hN (fun w z hno => ?_) (fun w z hyes => ?_) _ 0 L (Nat.zero_le _) rfl hL64 (Nat.lt_succ_self _)
  · skip
    refine v_iconst (v := 0) F d_T_isPlan_54 ki_0 ?_
    refine v_iret F hr rfl d_T_isPlan_55 ?_
    exact ⟨bI_f hno, rfl⟩
  · skip
    refine v_iconst (v := 1) F d_T_isPlan_71 ki_1 ?_
    refine v_iret F hr rfl d_T_isPlan_72 ?_
    exact ⟨bI_t hyes, rfl⟩
abbrev b_P_follow : ByteArray := prog_8_method_6_code
abbrev y_P_follow : MethodName := ⟨"TakerBook$Plans", "follow", "(LTakerBook$Band;[II)I"⟩
theorem d_P_follow_0 : decode b_P_follow 0 = .ok (.aload_n 1, 1) := by decide +kernel
theorem d_P_follow_1 : decode b_P_follow 1 = .ok (.getfield 52, 3) := by decide +kernel
theorem d_P_follow_4 : decode b_P_follow 4 = .ok (.istore 4, 2) := by decide +kernel
theorem d_P_follow_6 : decode b_P_follow 6 = .ok (.aload_n 1, 1) := by decide +kernel
theorem d_P_follow_7 : decode b_P_follow 7 = .ok (.getfield 70, 3) := by decide +kernel
theorem d_P_follow_10 : decode b_P_follow 10 = .ok (.istore 5, 2) := by decide +kernel
theorem d_P_follow_12 : decode b_P_follow 12 = .ok (.iconst 0, 1) := by decide +kernel
theorem d_P_follow_13 : decode b_P_follow 13 = .ok (.istore 6, 2) := by decide +kernel
theorem d_P_follow_15 : decode b_P_follow 15 = .ok (.aload_n 0, 1) := by decide +kernel
theorem d_P_follow_16 : decode b_P_follow 16 = .ok (.bipush (-9), 2) := by decide +kernel
theorem d_P_follow_18 : decode b_P_follow 18 = .ok (.putfield 89, 3) := by decide +kernel
theorem d_P_follow_21 : decode b_P_follow 21 = .ok (.iconst 0, 1) := by decide +kernel
theorem d_P_follow_22 : decode b_P_follow 22 = .ok (.istore 7, 2) := by decide +kernel
theorem d_P_follow_24 : decode b_P_follow 24 = .ok (.iload 7, 2) := by decide +kernel
theorem d_P_follow_26 : decode b_P_follow 26 = .ok (.iload_n 3, 1) := by decide +kernel
theorem d_P_follow_27 : decode b_P_follow 27 = .ok (.if_icmp .ge 93, 3) := by decide +kernel
theorem d_P_follow_30 : decode b_P_follow 30 = .ok (.aload_n 0, 1) := by decide +kernel
theorem d_P_follow_31 : decode b_P_follow 31 = .ok (.getfield 89, 3) := by decide +kernel
theorem d_P_follow_34 : decode b_P_follow 34 = .ok (.bipush (-9), 2) := by decide +kernel
theorem d_P_follow_36 : decode b_P_follow 36 = .ok (.if_icmp .ne 84, 3) := by decide +kernel
theorem d_P_follow_39 : decode b_P_follow 39 = .ok (.aload_n 2, 1) := by decide +kernel
theorem d_P_follow_40 : decode b_P_follow 40 = .ok (.iload 7, 2) := by decide +kernel
theorem d_P_follow_42 : decode b_P_follow 42 = .ok (.iaload, 1) := by decide +kernel
theorem d_P_follow_43 : decode b_P_follow 43 = .ok (.bipush (-9), 2) := by decide +kernel
theorem d_P_follow_45 : decode b_P_follow 45 = .ok (.if_icmp .eq 29, 3) := by decide +kernel
theorem d_P_follow_48 : decode b_P_follow 48 = .ok (.iload 6, 2) := by decide +kernel
theorem d_P_follow_50 : decode b_P_follow 50 = .ok (.aload_n 1, 1) := by decide +kernel
theorem d_P_follow_51 : decode b_P_follow 51 = .ok (.aload_n 2, 1) := by decide +kernel
theorem d_P_follow_52 : decode b_P_follow 52 = .ok (.iload 7, 2) := by decide +kernel
theorem d_P_follow_54 : decode b_P_follow 54 = .ok (.iaload, 1) := by decide +kernel
theorem d_P_follow_55 : decode b_P_follow 55 = .ok (.invokevirtual 45, 3) := by decide +kernel
theorem d_P_follow_58 : decode b_P_follow 58 = .ok (.iadd, 1) := by decide +kernel
theorem d_P_follow_59 : decode b_P_follow 59 = .ok (.istore 6, 2) := by decide +kernel
theorem d_P_follow_61 : decode b_P_follow 61 = .ok (.iload 4, 2) := by decide +kernel
theorem d_P_follow_63 : decode b_P_follow 63 = .ok (.iconst 1, 1) := by decide +kernel
theorem d_P_follow_64 : decode b_P_follow 64 = .ok (.aload_n 2, 1) := by decide +kernel
theorem d_P_follow_65 : decode b_P_follow 65 = .ok (.iload 7, 2) := by decide +kernel
theorem d_P_follow_67 : decode b_P_follow 67 = .ok (.iaload, 1) := by decide +kernel
theorem d_P_follow_68 : decode b_P_follow 68 = .ok (.ishl, 1) := by decide +kernel
theorem d_P_follow_69 : decode b_P_follow 69 = .ok (.iconst (-1), 1) := by decide +kernel
theorem d_P_follow_70 : decode b_P_follow 70 = .ok (.ixor, 1) := by decide +kernel
theorem d_P_follow_71 : decode b_P_follow 71 = .ok (.iand, 1) := by decide +kernel
theorem d_P_follow_72 : decode b_P_follow 72 = .ok (.istore 4, 2) := by decide +kernel
theorem d_P_follow_74 : decode b_P_follow 74 = .ok (.aload_n 1, 1) := by decide +kernel
theorem d_P_follow_75 : decode b_P_follow 75 = .ok (.iload 4, 2) := by decide +kernel
theorem d_P_follow_77 : decode b_P_follow 77 = .ok (.invokevirtual 34, 3) := by decide +kernel
theorem d_P_follow_80 : decode b_P_follow 80 = .ok (.ifCond .eq 12, 3) := by decide +kernel
theorem d_P_follow_83 : decode b_P_follow 83 = .ok (.aload_n 0, 1) := by decide +kernel
theorem d_P_follow_84 : decode b_P_follow 84 = .ok (.iload 7, 2) := by decide +kernel
theorem d_P_follow_86 : decode b_P_follow 86 = .ok (.putfield 89, 3) := by decide +kernel
theorem d_P_follow_89 : decode b_P_follow 89 = .ok (.goto 25, 3) := by decide +kernel
theorem d_P_follow_92 : decode b_P_follow 92 = .ok (.iload 6, 2) := by decide +kernel
theorem d_P_follow_94 : decode b_P_follow 94 = .ok (.aload_n 1, 1) := by decide +kernel
theorem d_P_follow_95 : decode b_P_follow 95 = .ok (.getfield 48, 3) := by decide +kernel
theorem d_P_follow_98 : decode b_P_follow 98 = .ok (.iload 5, 2) := by decide +kernel
theorem d_P_follow_100 : decode b_P_follow 100 = .ok (.aload_n 1, 1) := by decide +kernel
theorem d_P_follow_101 : decode b_P_follow 101 = .ok (.iload 4, 2) := by decide +kernel
theorem d_P_follow_103 : decode b_P_follow 103 = .ok (.invokevirtual 37, 3) := by decide +kernel
theorem d_P_follow_106 : decode b_P_follow 106 = .ok (.iadd, 1) := by decide +kernel
theorem d_P_follow_107 : decode b_P_follow 107 = .ok (.imul, 1) := by decide +kernel
theorem d_P_follow_108 : decode b_P_follow 108 = .ok (.iadd, 1) := by decide +kernel
theorem d_P_follow_109 : decode b_P_follow 109 = .ok (.istore 6, 2) := by decide +kernel
theorem d_P_follow_111 : decode b_P_follow 111 = .ok (.iconst 0, 1) := by decide +kernel
theorem d_P_follow_112 : decode b_P_follow 112 = .ok (.istore 5, 2) := by decide +kernel
theorem d_P_follow_114 : decode b_P_follow 114 = .ok (.iinc 7 1, 3) := by decide +kernel
theorem d_P_follow_117 : decode b_P_follow 117 = .ok (.goto (-93), 3) := by decide +kernel
theorem d_P_follow_120 : decode b_P_follow 120 = .ok (.iload 6, 2) := by decide +kernel
theorem d_P_follow_122 : decode b_P_follow 122 = .ok (.ireturn, 1) := by decide +kernel
theorem mo_P_follow : mok y_P_follow b_P_follow 8 (some .int) 3 := ⟨List.mem_of_getElem? (i := 811) (by decide +kernel), ⟨by decide +kernel, by decide +kernel, by decide +kernel⟩, List.mem_of_getElem? (i := 83) (by decide +kernel), by decide⟩
set_option maxHeartbeats 4000000 in
theorem L_P_follow_24 {X : FX} {u : Un} (hA : Ap u) {Q : State → Prop} (F : Fr X u "TakerBook$Plans" b_P_follow 8) {σ : St} {n G : Nat} {kd : Nat → Nat} (hb : bkOk σ n G kd) {L a N : Nat} (hL64 : L < 64) (ha : a < 6) (hN : N ≤ 4) (hg : ∀ w, w < N → σ.1 (2 + a) w = -9 ∨ (0 ≤ σ.1 (2 + a) w ∧ σ.1 (2 + a) w < σ.1 19 8)) (k0 : ∀ (w : Nat), (flS σ G kd n L (2 + a) w) = (flS σ G kd n L (2 + a) N) → V X u 7 8 Q 120 [(0, .ref (u.2.1 34)), (1, .ref (u.2.1 19)), (2, .ref (u.2.1 (2 + a))), (3, .int (nI N)), (4, .int (nI ((flS σ G kd n L (2 + a) w).L))), (5, .int ((flS σ G kd n L (2 + a) w).s)), (6, .int ((flS σ G kd n L (2 + a) w).m)), (7, .int (nI w))] [] ((trS σ (flS σ G kd n L (2 + a) w).t))) : ∀ (nn : Nat) (w : Nat), w ≤ N → N - w < nn → V X u 7 8 Q 24 [(0, .ref (u.2.1 34)), (1, .ref (u.2.1 19)), (2, .ref (u.2.1 (2 + a))), (3, .int (nI N)), (4, .int (nI ((flS σ G kd n L (2 + a) w).L))), (5, .int ((flS σ G kd n L (2 + a) w).s)), (6, .int ((flS σ G kd n L (2 + a) w).m)), (7, .int (nI w))] [] ((trS σ (flS σ G kd n L (2 + a) w).t)) := by
  intro nn
  induction nn with
  | zero =>
    intro w hw h2
    exact absurd h2 (Nat.not_lt_zero _)
  | succ nn ih =>
    intro w hw hm
    obtain ⟨hn, hn6, hG, hG64, hkd, hk6⟩ := id hb
    have hF64 := flS_64 (σ := σ) (G := G) (kd := kd) (n := n) (a := 2 + a) hL64 w
    refine v_iload F d_P_follow_24 7 rfl ?_
    refine v_iload_n F d_P_follow_26 rfl 3 rfl ?_
    refine v_icmp_ge F 120 d_P_follow_27 rfl (fun h27 => ?_) (fun h27 => ?_)
    · skip
      have h27 : N ≤ w := (nI_leI (a := N) (b := w) (by omega) (by omega)).mp h27
      exact k0 w (by first | (have e : w = N := (by omega); rw [e]; done) | (obtain ⟨d, rfl⟩ : ∃ d, N = w + d := ⟨N - w, by omega⟩; exact (flS_stop (fun q => h36 ((oI_9 (fun i hi => by have := flS_t w i hi; omega)).mpr q)) d).symm))
    · skip
      have h27 : ¬ N ≤ w := fun q => h27 ((nI_leI (a := N) (b := w) (by omega) (by omega)).mpr q)
      refine v_aload_n F d_P_follow_30 rfl 0 rfl ?_
      refine v_geti F fk_P_89 G34 rfl d_P_follow_31 ?_
      refine v_te (y := oI (flS σ G kd n L (2 + a) w).t) (uI_s _ _ _ _) ?_
      refine v_bipush (v := (-9)) F d_P_follow_34 kb_m9 ?_
      refine v_icmp_ne F 120 d_P_follow_36 rfl (fun h36 => ?_) (fun h36 => ?_)
      · skip
        exact k0 w (by first | (have e : w = N := (by omega); rw [e]; done) | (obtain ⟨d, rfl⟩ : ∃ d, N = w + d := ⟨N - w, by omega⟩; exact (flS_stop (fun q => h36 ((oI_9 (fun i hi => by have := flS_t w i hi; omega)).mpr q)) d).symm))
      · skip
        have hno : (flS σ G kd n L (2 + a) w).t = none := (oI_9 (fun i hi => by have := flS_t w i hi; omega)).mp h36
        refine v_aload_n F d_P_follow_39 rfl 2 rfl ?_
        refine v_iload F d_P_follow_40 7 rfl ?_
        refine v_ial F w (gam_row _ ha) rfl (by omega) d_P_follow_42 ?_
        refine v_te (y := σ.1 (2 + a) w) (congrFun (uI_o _ _ _ _ (by omega)) w) ?_
        refine v_bipush (v := (-9)) F d_P_follow_43 kb_m9 ?_
        refine v_icmp_eq F 74 d_P_follow_45 rfl (fun h45 => ?_) (fun h45 => ?_)
        · skip
          refine v_aload_n F d_P_follow_74 rfl 1 rfl ?_
          refine v_iload F d_P_follow_75 4 rfl ?_
          refine v_runi (r_V F (c_B_wouldBeTried X.2.1 u hA (trS σ (flS σ G kd n L (2 + a) w).t) (bkOk_of hb rfl rfl rfl) ((flS σ G kd n L (2 + a) w).L) (by first | exact hF64 | exact and_lt hF64)) mo_B_wouldBeTried st_P_34 rc_19 (by decide) rfl (Nat.le_of_ble_eq_true rfl) d_P_follow_77) (fun r1 σ2 q3 => ?_)
          obtain ⟨rfl, rfl⟩ := q3
          refine v_bt F 92 d_P_follow_80 rfl (fun h80 => ?_) (fun h80 => ?_)
          · skip
            refine v_iload F d_P_follow_92 6 rfl ?_
            refine v_aload_n F d_P_follow_94 rfl 1 rfl ?_
            refine v_geti F fk_P_48 G19 rfl d_P_follow_95 ?_
            refine v_iload F d_P_follow_98 5 rfl ?_
            refine v_aload_n F d_P_follow_100 rfl 1 rfl ?_
            refine v_iload F d_P_follow_101 4 rfl ?_
            refine v_runi (r_V F (c_B_lootOfAll X.2.1 u hA (trS σ (flS σ G kd n L (2 + a) w).t) (bkOk_of hb rfl rfl rfl) ((flS σ G kd n L (2 + a) w).L) (by first | exact hF64 | exact and_lt hF64)) mo_B_lootOfAll st_P_37 rc_19 (by decide) rfl (Nat.le_of_ble_eq_true rfl) d_P_follow_103) (fun r4 σ5 q6 => ?_)
            obtain ⟨rfl, rfl⟩ := q6
            refine v_iadd F d_P_follow_106 ?_
            refine v_imul F d_P_follow_107 ?_
            refine v_iadd F d_P_follow_108 ?_
            refine v_ni (fun x7 ex7 => ?_)
            refine v_istore (ls' := [(6, .int x7), (0, .ref (u.2.1 34)), (1, .ref (u.2.1 19)), (2, .ref (u.2.1 (2 + a))), (3, .int (nI N)), (4, .int (nI ((flS σ G kd n L (2 + a) w).L))), (5, .int ((flS σ G kd n L (2 + a) w).s)), (7, .int (nI w))]) F d_P_follow_109 (by decide) rfl ?_
            refine v_iconst (v := 0) F d_P_follow_111 ki_0 ?_
            refine v_istore (ls' := [(5, .int 0), (6, .int x7), (0, .ref (u.2.1 34)), (1, .ref (u.2.1 19)), (2, .ref (u.2.1 (2 + a))), (3, .int (nI N)), (4, .int (nI ((flS σ G kd n L (2 + a) w).L))), (7, .int (nI w))]) F d_P_follow_112 (by decide) rfl ?_
            refine v_iinc (v := nI (w + 1)) (ls' := [(7, .int (nI (w + 1))), (5, .int 0), (6, .int x7), (0, .ref (u.2.1 34)), (1, .ref (u.2.1 19)), (2, .ref (u.2.1 (2 + a))), (3, .int (nI N)), (4, .int (nI ((flS σ G kd n L (2 + a) w).L)))]) F d_P_follow_114 (j := 7) rfl (nI_inc _) (by decide) rfl ?_
            refine v_goto F 24 d_P_follow_117 rfl ?_
            have ep : pnN σ (2 + a) w (flS σ G kd n L (2 + a) w).L = (flS σ G kd n L (2 + a) w).L := by unfold pnN; rw [if_pos h45]
            have em : pnM σ kd (2 + a) w (flS σ G kd n L (2 + a) w).m = (flS σ G kd n L (2 + a) w).m := by unfold pnM; rw [if_pos h45]
            have eF := flS_y hno (by rw [ep]; exact h80)
            rw [ep, em] at eF
            refine v_sub [3, 4, 5, 6, 7, 1, 2, 0] (ls' := [(0, .ref (u.2.1 34)), (1, .ref (u.2.1 19)), (2, .ref (u.2.1 (2 + a))), (3, .int (nI N)), (4, .int (nI ((flS σ G kd n L (2 + a) w).L))), (5, .int 0), (6, .int x7), (7, .int (nI (w + 1)))]) rfl ?_
            have g8 : (nI ((flS σ G kd n L (2 + a) w).L)) = (nI ((flS σ G kd n L (2 + a) (w + 1)).L)) := (by first | rfl | (rw [eF]; first | done | rfl | (subst_vars; rfl) | (rw [hno]; done) | (rw [hno]; rfl) | (subst_vars; exact uI_uI _ _ _ _ _)))
            have g9 : 0 = ((flS σ G kd n L (2 + a) (w + 1)).s) := (by first | rfl | (rw [eF]; first | done | rfl | (subst_vars; rfl) | (rw [hno]; done) | (rw [hno]; rfl) | (subst_vars; exact uI_uI _ _ _ _ _)))
            have g10 : x7 = ((flS σ G kd n L (2 + a) (w + 1)).m) := (by first | rfl | (rw [eF]; first | done | rfl | (subst_vars; rfl) | (rw [hno]; done) | (rw [hno]; rfl) | (subst_vars; exact uI_uI _ _ _ _ _)))
            refine v_to (ls' := [(0, .ref (u.2.1 34)), (1, .ref (u.2.1 19)), (2, .ref (u.2.1 (2 + a))), (3, .int (nI N)), (4, .int (nI ((flS σ G kd n L (2 + a) (w + 1)).L))), (5, .int ((flS σ G kd n L (2 + a) (w + 1)).s)), (6, .int ((flS σ G kd n L (2 + a) (w + 1)).m)), (7, .int (nI (w + 1)))]) (by first | rfl | rw [g8, g9, g10] | simp_all) ?_
            refine v_st (show (trS σ (flS σ G kd n L (2 + a) w).t) = (trS σ (flS σ G kd n L (2 + a) (w + 1)).t) from (by first | rfl | (rw [eF]; first | done | rfl | (subst_vars; rfl) | (rw [hno]; done) | (rw [hno]; rfl) | (subst_vars; exact uI_uI _ _ _ _ _)))) ?_
            exact ih (w + 1) (by omega) (by omega)
          · skip
            refine v_aload_n F d_P_follow_83 rfl 0 rfl ?_
            refine v_iload F d_P_follow_84 7 rfl ?_
            refine v_puti F fk_P_89 pk_P_trial G34 rfl d_P_follow_86 ?_
            refine v_ns (fun σ11 eσ11 => ?_)
            refine v_goto F 114 d_P_follow_89 rfl ?_
            refine v_iinc (v := nI (w + 1)) (ls' := [(7, .int (nI (w + 1))), (0, .ref (u.2.1 34)), (1, .ref (u.2.1 19)), (2, .ref (u.2.1 (2 + a))), (3, .int (nI N)), (4, .int (nI ((flS σ G kd n L (2 + a) w).L))), (5, .int ((flS σ G kd n L (2 + a) w).s)), (6, .int ((flS σ G kd n L (2 + a) w).m))]) F d_P_follow_114 (j := 7) rfl (nI_inc _) (by decide) rfl ?_
            refine v_goto F 24 d_P_follow_117 rfl ?_
            have ep : pnN σ (2 + a) w (flS σ G kd n L (2 + a) w).L = (flS σ G kd n L (2 + a) w).L := by unfold pnN; rw [if_pos h45]
            have em : pnM σ kd (2 + a) w (flS σ G kd n L (2 + a) w).m = (flS σ G kd n L (2 + a) w).m := by unfold pnM; rw [if_pos h45]
            have eF := flS_n hno (by rw [ep]; exact h80)
            rw [ep, em] at eF
            refine v_sub [1, 2, 3, 4, 5, 6, 7, 0] (ls' := [(0, .ref (u.2.1 34)), (1, .ref (u.2.1 19)), (2, .ref (u.2.1 (2 + a))), (3, .int (nI N)), (4, .int (nI ((flS σ G kd n L (2 + a) w).L))), (5, .int ((flS σ G kd n L (2 + a) w).s)), (6, .int ((flS σ G kd n L (2 + a) w).m)), (7, .int (nI (w + 1)))]) rfl ?_
            have g12 : (nI ((flS σ G kd n L (2 + a) w).L)) = (nI ((flS σ G kd n L (2 + a) (w + 1)).L)) := (by first | rfl | (rw [eF]; first | done | rfl | (subst_vars; rfl) | (rw [hno]; done) | (rw [hno]; rfl) | (subst_vars; exact uI_uI _ _ _ _ _)))
            have g13 : ((flS σ G kd n L (2 + a) w).s) = ((flS σ G kd n L (2 + a) (w + 1)).s) := (by first | rfl | (rw [eF]; first | done | rfl | (subst_vars; rfl) | (rw [hno]; done) | (rw [hno]; rfl) | (subst_vars; exact uI_uI _ _ _ _ _)))
            have g14 : ((flS σ G kd n L (2 + a) w).m) = ((flS σ G kd n L (2 + a) (w + 1)).m) := (by first | rfl | (rw [eF]; first | done | rfl | (subst_vars; rfl) | (rw [hno]; done) | (rw [hno]; rfl) | (subst_vars; exact uI_uI _ _ _ _ _)))
            refine v_to (ls' := [(0, .ref (u.2.1 34)), (1, .ref (u.2.1 19)), (2, .ref (u.2.1 (2 + a))), (3, .int (nI N)), (4, .int (nI ((flS σ G kd n L (2 + a) (w + 1)).L))), (5, .int ((flS σ G kd n L (2 + a) (w + 1)).s)), (6, .int ((flS σ G kd n L (2 + a) (w + 1)).m)), (7, .int (nI (w + 1)))]) (by first | rfl | rw [g12, g13, g14] | simp_all) ?_
            refine v_st (show σ11 = (trS σ (flS σ G kd n L (2 + a) (w + 1)).t) from (by first | rfl | (rw [eF]; first | done | rfl | (subst_vars; rfl) | (rw [hno]; done) | (rw [hno]; rfl) | (subst_vars; exact uI_uI _ _ _ _ _)))) ?_
            exact ih (w + 1) (by omega) (by omega)
        · skip
          obtain ⟨j, hj, xj, ej⟩ := has_nat ((hg w (by omega)).resolve_left h45) hn hn6
          refine v_iload F d_P_follow_48 6 rfl ?_
          refine v_aload_n F d_P_follow_50 rfl 1 rfl ?_
          refine v_aload_n F d_P_follow_51 rfl 2 rfl ?_
          refine v_iload F d_P_follow_52 7 rfl ?_
          refine v_ial F w (gam_row _ ha) rfl (by omega) d_P_follow_54 ?_
          refine v_te (y := nI j) ((congrFun (uI_o _ _ _ _ (by omega)) w).trans ej) ?_
          refine v_runi (r_V F (c_B_priceOf X.2.1 u hA (trS σ (flS σ G kd n L (2 + a) w).t) (bkOk_of hb rfl rfl rfl) j (by omega)) mo_B_priceOf st_P_45 rc_19 (by decide) rfl (Nat.le_of_ble_eq_true rfl) d_P_follow_55) (fun r15 σ16 q17 => ?_)
          obtain ⟨rfl, rfl⟩ := q17
          refine v_iadd F d_P_follow_58 ?_
          refine v_ni (fun x18 ex18 => ?_)
          refine v_istore (ls' := [(6, .int x18), (0, .ref (u.2.1 34)), (1, .ref (u.2.1 19)), (2, .ref (u.2.1 (2 + a))), (3, .int (nI N)), (4, .int (nI ((flS σ G kd n L (2 + a) w).L))), (5, .int ((flS σ G kd n L (2 + a) w).s)), (7, .int (nI w))]) F d_P_follow_59 (by decide) rfl ?_
          refine v_iload F d_P_follow_61 5 rfl ?_
          refine v_iconst (v := 1) F d_P_follow_63 ki_1 ?_
          refine v_aload_n F d_P_follow_64 rfl 3 rfl ?_
          refine v_iload F d_P_follow_65 7 rfl ?_
          refine v_ial F w (gam_row _ ha) rfl (by omega) d_P_follow_67 ?_
          refine v_te (y := nI j) ((congrFun (uI_o _ _ _ _ (by omega)) w).trans ej) ?_
          refine v_ishl F d_P_follow_68 ?_
          refine v_iconst (v := (-1)) F d_P_follow_69 ki_m1 ?_
          refine v_ixor F d_P_follow_70 ?_
          refine v_iand F d_P_follow_71 ?_
          refine v_te (y := nI ((flS σ G kd n L (2 + a) w).L &&& (63 ^^^ 2 ^ j))) (mask6 _ hF64 _ (by omega)) ?_
          refine v_istore (ls' := [(4, .int (nI ((flS σ G kd n L (2 + a) w).L &&& (63 ^^^ 2 ^ j)))), (6, .int x18), (0, .ref (u.2.1 34)), (1, .ref (u.2.1 19)), (2, .ref (u.2.1 (2 + a))), (3, .int (nI N)), (5, .int ((flS σ G kd n L (2 + a) w).s)), (7, .int (nI w))]) F d_P_follow_72 (by decide) rfl ?_
          refine v_aload_n F d_P_follow_74 rfl 3 rfl ?_
          refine v_iload F d_P_follow_75 0 rfl ?_
          refine v_runi (r_V F (c_B_wouldBeTried X.2.1 u hA (trS σ (flS σ G kd n L (2 + a) w).t) (bkOk_of hb rfl rfl rfl) ((flS σ G kd n L (2 + a) w).L &&& (63 ^^^ 2 ^ j)) (by first | exact hF64 | exact and_lt hF64)) mo_B_wouldBeTried st_P_34 rc_19 (by decide) rfl (Nat.le_of_ble_eq_true rfl) d_P_follow_77) (fun r19 σ20 q21 => ?_)
          obtain ⟨rfl, rfl⟩ := q21
          refine v_bt F 92 d_P_follow_80 rfl (fun h80 => ?_) (fun h80 => ?_)
          · skip
            refine v_iload F d_P_follow_92 1 rfl ?_
            refine v_aload_n F d_P_follow_94 rfl 3 rfl ?_
            refine v_geti F fk_P_48 G19 rfl d_P_follow_95 ?_
            refine v_iload F d_P_follow_98 6 rfl ?_
            refine v_aload_n F d_P_follow_100 rfl 3 rfl ?_
            refine v_iload F d_P_follow_101 0 rfl ?_
            refine v_runi (r_V F (c_B_lootOfAll X.2.1 u hA (trS σ (flS σ G kd n L (2 + a) w).t) (bkOk_of hb rfl rfl rfl) ((flS σ G kd n L (2 + a) w).L &&& (63 ^^^ 2 ^ j)) (by first | exact hF64 | exact and_lt hF64)) mo_B_lootOfAll st_P_37 rc_19 (by decide) rfl (Nat.le_of_ble_eq_true rfl) d_P_follow_103) (fun r22 σ23 q24 => ?_)
            obtain ⟨rfl, rfl⟩ := q24
            refine v_iadd F d_P_follow_106 ?_
            refine v_imul F d_P_follow_107 ?_
            refine v_iadd F d_P_follow_108 ?_
            refine v_ni (fun x25 ex25 => ?_)
            refine v_istore (ls' := [(6, .int x25), (4, .int (nI ((flS σ G kd n L (2 + a) w).L &&& (63 ^^^ 2 ^ j)))), (0, .ref (u.2.1 34)), (1, .ref (u.2.1 19)), (2, .ref (u.2.1 (2 + a))), (3, .int (nI N)), (5, .int ((flS σ G kd n L (2 + a) w).s)), (7, .int (nI w))]) F d_P_follow_109 (by decide) rfl ?_
            refine v_iconst (v := 0) F d_P_follow_111 ki_0 ?_
            refine v_istore (ls' := [(5, .int 0), (6, .int x25), (4, .int (nI ((flS σ G kd n L (2 + a) w).L &&& (63 ^^^ 2 ^ j)))), (0, .ref (u.2.1 34)), (1, .ref (u.2.1 19)), (2, .ref (u.2.1 (2 + a))), (3, .int (nI N)), (7, .int (nI w))]) F d_P_follow_112 (by decide) rfl ?_
            refine v_iinc (v := nI (w + 1)) (ls' := [(7, .int (nI (w + 1))), (5, .int 0), (6, .int x25), (4, .int (nI ((flS σ G kd n L (2 + a) w).L &&& (63 ^^^ 2 ^ j)))), (0, .ref (u.2.1 34)), (1, .ref (u.2.1 19)), (2, .ref (u.2.1 (2 + a))), (3, .int (nI N))]) F d_P_follow_114 (j := 7) rfl (nI_inc _) (by decide) rfl ?_
            refine v_goto F 24 d_P_follow_117 rfl ?_
            have ep : pnN σ (2 + a) w (flS σ G kd n L (2 + a) w).L = (flS σ G kd n L (2 + a) w).L &&& (63 ^^^ 2 ^ j) := by unfold pnN; rw [if_neg h45, xj]
            have em : pnM σ kd (2 + a) w (flS σ G kd n L (2 + a) w).m = (flS σ G kd n L (2 + a) w).m + priceS (kd j) (σ.1 19 9) (σ.1 31 j) := by unfold pnM; rw [if_neg h45, xj]
            have eF := flS_y hno (by rw [ep]; exact h80)
            rw [ep, em] at eF
            refine v_sub [4, 5, 6, 7, 3, 1, 2, 0] (ls' := [(0, .ref (u.2.1 34)), (1, .ref (u.2.1 19)), (2, .ref (u.2.1 (2 + a))), (3, .int (nI N)), (4, .int (nI ((flS σ G kd n L (2 + a) w).L &&& (63 ^^^ 2 ^ j)))), (5, .int 0), (6, .int x25), (7, .int (nI (w + 1)))]) rfl ?_
            have g26 : (nI ((flS σ G kd n L (2 + a) w).L &&& (63 ^^^ 2 ^ j))) = (nI ((flS σ G kd n L (2 + a) (w + 1)).L)) := (by first | rfl | (rw [eF]; first | done | rfl | (subst_vars; rfl) | (rw [hno]; done) | (rw [hno]; rfl) | (subst_vars; exact uI_uI _ _ _ _ _)))
            have g27 : 0 = ((flS σ G kd n L (2 + a) (w + 1)).s) := (by first | rfl | (rw [eF]; first | done | rfl | (subst_vars; rfl) | (rw [hno]; done) | (rw [hno]; rfl) | (subst_vars; exact uI_uI _ _ _ _ _)))
            have g28 : x25 = ((flS σ G kd n L (2 + a) (w + 1)).m) := (by first | rfl | (rw [eF]; first | done | rfl | (subst_vars; rfl) | (rw [hno]; done) | (rw [hno]; rfl) | (subst_vars; exact uI_uI _ _ _ _ _)))
            refine v_to (ls' := [(0, .ref (u.2.1 34)), (1, .ref (u.2.1 19)), (2, .ref (u.2.1 (2 + a))), (3, .int (nI N)), (4, .int (nI ((flS σ G kd n L (2 + a) (w + 1)).L))), (5, .int ((flS σ G kd n L (2 + a) (w + 1)).s)), (6, .int ((flS σ G kd n L (2 + a) (w + 1)).m)), (7, .int (nI (w + 1)))]) (by first | rfl | rw [g26, g27, g28] | simp_all) ?_
            refine v_st (show (trS σ (flS σ G kd n L (2 + a) w).t) = (trS σ (flS σ G kd n L (2 + a) (w + 1)).t) from (by first | rfl | (rw [eF]; first | done | rfl | (subst_vars; rfl) | (rw [hno]; done) | (rw [hno]; rfl) | (subst_vars; exact uI_uI _ _ _ _ _)))) ?_
            exact ih (w + 1) (by omega) (by omega)
          · skip
            refine v_aload_n F d_P_follow_83 rfl 2 rfl ?_
            refine v_iload F d_P_follow_84 7 rfl ?_
            refine v_puti F fk_P_89 pk_P_trial G34 rfl d_P_follow_86 ?_
            refine v_ns (fun σ29 eσ29 => ?_)
            refine v_goto F 114 d_P_follow_89 rfl ?_
            refine v_iinc (v := nI (w + 1)) (ls' := [(7, .int (nI (w + 1))), (4, .int (nI ((flS σ G kd n L (2 + a) w).L &&& (63 ^^^ 2 ^ j)))), (6, .int x18), (0, .ref (u.2.1 34)), (1, .ref (u.2.1 19)), (2, .ref (u.2.1 (2 + a))), (3, .int (nI N)), (5, .int ((flS σ G kd n L (2 + a) w).s))]) F d_P_follow_114 (j := 7) rfl (nI_inc _) (by decide) rfl ?_
            refine v_goto F 24 d_P_follow_117 rfl ?_
            have ep : pnN σ (2 + a) w (flS σ G kd n L (2 + a) w).L = (flS σ G kd n L (2 + a) w).L &&& (63 ^^^ 2 ^ j) := by unfold pnN; rw [if_neg h45, xj]
            have em : pnM σ kd (2 + a) w (flS σ G kd n L (2 + a) w).m = (flS σ G kd n L (2 + a) w).m + priceS (kd j) (σ.1 19 9) (σ.1 31 j) := by unfold pnM; rw [if_neg h45, xj]
            have eF := flS_n hno (by rw [ep]; exact h80)
            rw [ep, em] at eF
            refine v_sub [3, 4, 5, 6, 1, 7, 2, 0] (ls' := [(0, .ref (u.2.1 34)), (1, .ref (u.2.1 19)), (2, .ref (u.2.1 (2 + a))), (3, .int (nI N)), (4, .int (nI ((flS σ G kd n L (2 + a) w).L &&& (63 ^^^ 2 ^ j)))), (5, .int ((flS σ G kd n L (2 + a) w).s)), (6, .int x18), (7, .int (nI (w + 1)))]) rfl ?_
            have g30 : (nI ((flS σ G kd n L (2 + a) w).L &&& (63 ^^^ 2 ^ j))) = (nI ((flS σ G kd n L (2 + a) (w + 1)).L)) := (by first | rfl | (rw [eF]; first | done | rfl | (subst_vars; rfl) | (rw [hno]; done) | (rw [hno]; rfl) | (subst_vars; exact uI_uI _ _ _ _ _)))
            have g31 : ((flS σ G kd n L (2 + a) w).s) = ((flS σ G kd n L (2 + a) (w + 1)).s) := (by first | rfl | (rw [eF]; first | done | rfl | (subst_vars; rfl) | (rw [hno]; done) | (rw [hno]; rfl) | (subst_vars; exact uI_uI _ _ _ _ _)))
            have g32 : x18 = ((flS σ G kd n L (2 + a) (w + 1)).m) := (by first | rfl | (rw [eF]; first | done | rfl | (subst_vars; rfl) | (rw [hno]; done) | (rw [hno]; rfl) | (subst_vars; exact uI_uI _ _ _ _ _)))
            refine v_to (ls' := [(0, .ref (u.2.1 34)), (1, .ref (u.2.1 19)), (2, .ref (u.2.1 (2 + a))), (3, .int (nI N)), (4, .int (nI ((flS σ G kd n L (2 + a) (w + 1)).L))), (5, .int ((flS σ G kd n L (2 + a) (w + 1)).s)), (6, .int ((flS σ G kd n L (2 + a) (w + 1)).m)), (7, .int (nI (w + 1)))]) (by first | rfl | rw [g30, g31, g32] | simp_all) ?_
            refine v_st (show σ29 = (trS σ (flS σ G kd n L (2 + a) (w + 1)).t) from (by first | rfl | (rw [eF]; first | done | rfl | (subst_vars; rfl) | (rw [hno]; done) | (rw [hno]; rfl) | (subst_vars; exact uI_uI _ _ _ _ _)))) ?_
            exact ih (w + 1) (by omega) (by omega)
set_option maxHeartbeats 4000000 in
theorem c_P_follow (l : Launch) (u : Un) (hA : Ap u) (σ : St) {n G : Nat} {kd : Nat → Nat} (hb : bkOk σ n G kd) {L : Nat} (hL : σ.1 19 14 = nI L) (hL64 : L < 64) {a N : Nat} (ha : a < 6) (hN : N ≤ 4) (hg : ∀ w, w < N → σ.1 (2 + a) w = -9 ∨ (0 ≤ σ.1 (2 + a) w ∧ σ.1 (2 + a) w < σ.1 19 8)) : MTi l u y_P_follow b_P_follow 8 .int 7 [.ref (u.2.1 34), .ref (u.2.1 19), .ref (u.2.1 (2 + a)), .int (nI N)] σ (fun ans σ' => (flS σ G kd n L (2 + a) N).m = ans ∧ σ' = (trS σ (flS σ G kd n L (2 + a) N).t)) := by
  refine MT_of hA rfl (by decide) (Nat.le_of_ble_eq_true rfl) (fun X hl F hr => ?_)
  subst hl
  refine v_to (ls' := [(0, .ref (u.2.1 34)), (1, .ref (u.2.1 19)), (2, .ref (u.2.1 (2 + a))), (3, .int (nI N))]) rfl ?_
  obtain ⟨hn, hn6, hG, hG64, hkd, hk6⟩ := id hb
  refine v_aload_n F d_P_follow_0 rfl 1 rfl ?_
  refine v_geti F fk_P_52 G19 rfl d_P_follow_1 ?_
  refine v_te (y := nI L) hL ?_
  refine v_istore (ls' := [(4, .int (nI L)), (0, .ref (u.2.1 34)), (1, .ref (u.2.1 19)), (2, .ref (u.2.1 (2 + a))), (3, .int (nI N))]) F d_P_follow_4 (by decide) rfl ?_
  refine v_aload_n F d_P_follow_6 rfl 2 rfl ?_
  refine v_geti F fk_P_70 G19 rfl d_P_follow_7 ?_
  refine v_ni (fun x1 ex1 => ?_)
  refine v_istore (ls' := [(5, .int x1), (4, .int (nI L)), (0, .ref (u.2.1 34)), (1, .ref (u.2.1 19)), (2, .ref (u.2.1 (2 + a))), (3, .int (nI N))]) F d_P_follow_10 (by decide) rfl ?_
  refine v_iconst (v := 0) F d_P_follow_12 ki_0 ?_
  refine v_istore (ls' := [(6, .int 0), (5, .int x1), (4, .int (nI L)), (0, .ref (u.2.1 34)), (1, .ref (u.2.1 19)), (2, .ref (u.2.1 (2 + a))), (3, .int (nI N))]) F d_P_follow_13 (by decide) rfl ?_
  refine v_aload_n F d_P_follow_15 rfl 3 rfl ?_
  refine v_bipush (v := (-9)) F d_P_follow_16 kb_m9 ?_
  refine v_puti F fk_P_89 pk_P_trial G34 rfl d_P_follow_18 ?_
  refine v_ns (fun σ2 eσ2 => ?_)
  refine v_iconst (v := 0) F d_P_follow_21 ki_0 ?_
  refine v_istore (ls' := [(7, .int 0), (6, .int 0), (5, .int x1), (4, .int (nI L)), (0, .ref (u.2.1 34)), (1, .ref (u.2.1 19)), (2, .ref (u.2.1 (2 + a))), (3, .int (nI N))]) F d_P_follow_22 (by decide) rfl ?_
  refine v_sub [4, 5, 6, 7, 3, 2, 1, 0] (ls' := [(0, .ref (u.2.1 34)), (1, .ref (u.2.1 19)), (2, .ref (u.2.1 (2 + a))), (3, .int (nI N)), (4, .int (nI L)), (5, .int x1), (6, .int 0), (7, .int 0)]) rfl ?_
  have g3 : (nI L) = (nI ((flS σ G kd n L (2 + a) 0).L)) := (by first | rfl | (subst_vars; rfl))
  have g4 : x1 = ((flS σ G kd n L (2 + a) 0).s) := (by first | rfl | (subst_vars; rfl))
  have g5 : 0 = ((flS σ G kd n L (2 + a) 0).m) := (by first | rfl | (subst_vars; rfl))
  have g6 : 0 = (nI 0) := (by first | rfl | (subst_vars; rfl))
  refine v_to (ls' := [(0, .ref (u.2.1 34)), (1, .ref (u.2.1 19)), (2, .ref (u.2.1 (2 + a))), (3, .int (nI N)), (4, .int (nI ((flS σ G kd n L (2 + a) 0).L))), (5, .int ((flS σ G kd n L (2 + a) 0).s)), (6, .int ((flS σ G kd n L (2 + a) 0).m)), (7, .int (nI 0))]) (by first | rfl | rw [g3, g4, g5, g6] | simp_all) ?_
  refine v_st (show σ2 = (trS σ (flS σ G kd n L (2 + a) 0).t) from (by subst_vars; rfl)) ?_
  refine L_P_follow_24 hA F hb hL64 ha hN hg (fun w hE => ?_) _ 0 (Nat.zero_le _) (Nat.lt_succ_self _)
  refine v_iload F d_P_follow_120 6 rfl ?_
  refine v_iret F hr rfl d_P_follow_122 ?_
  exact ⟨by rw [hE], by rw [hE]⟩
abbrev b_T_best : ByteArray := prog_1_method_25_code
abbrev y_T_best : MethodName := ⟨"TakerBook", "best", "(II)I"⟩
theorem d_T_best_0 : decode b_T_best 0 = .ok (.iload_n 1, 1) := by decide +kernel
theorem d_T_best_1 : decode b_T_best 1 = .ok (.invokestatic 214, 3) := by decide +kernel
theorem d_T_best_4 : decode b_T_best 4 = .ok (.ifCond .eq 10, 3) := by decide +kernel
theorem d_T_best_7 : decode b_T_best 7 = .ok (.iload_n 2, 1) := by decide +kernel
theorem d_T_best_8 : decode b_T_best 8 = .ok (.invokestatic 76, 3) := by decide +kernel
theorem d_T_best_11 : decode b_T_best 11 = .ok (.ifCond .ne 5, 3) := by decide +kernel
theorem d_T_best_14 : decode b_T_best 14 = .ok (.iconst (-1), 1) := by decide +kernel
theorem d_T_best_15 : decode b_T_best 15 = .ok (.ireturn, 1) := by decide +kernel
theorem d_T_best_16 : decode b_T_best 16 = .ok (.aload_n 0, 1) := by decide +kernel
theorem d_T_best_17 : decode b_T_best 17 = .ok (.invokevirtual 142, 3) := by decide +kernel
theorem d_T_best_20 : decode b_T_best 20 = .ok (.ifCond .ne 6, 3) := by decide +kernel
theorem d_T_best_23 : decode b_T_best 23 = .ok (.bipush (-4), 2) := by decide +kernel
theorem d_T_best_25 : decode b_T_best 25 = .ok (.ireturn, 1) := by decide +kernel
theorem d_T_best_26 : decode b_T_best 26 = .ok (.aload_n 0, 1) := by decide +kernel
theorem d_T_best_27 : decode b_T_best 27 = .ok (.getfield 43, 3) := by decide +kernel
theorem d_T_best_30 : decode b_T_best 30 = .ok (.aload_n 0, 1) := by decide +kernel
theorem d_T_best_31 : decode b_T_best 31 = .ok (.getfield 36, 3) := by decide +kernel
theorem d_T_best_34 : decode b_T_best 34 = .ok (.iload_n 1, 1) := by decide +kernel
theorem d_T_best_35 : decode b_T_best 35 = .ok (.invokevirtual 217, 3) := by decide +kernel
theorem d_T_best_38 : decode b_T_best 38 = .ok (.aload_n 0, 1) := by decide +kernel
theorem d_T_best_39 : decode b_T_best 39 = .ok (.iload_n 2, 1) := by decide +kernel
theorem d_T_best_40 : decode b_T_best 40 = .ok (.iload_n 1, 1) := by decide +kernel
theorem d_T_best_41 : decode b_T_best 41 = .ok (.invokevirtual 221, 3) := by decide +kernel
theorem d_T_best_44 : decode b_T_best 44 = .ok (.pop, 1) := by decide +kernel
theorem d_T_best_45 : decode b_T_best 45 = .ok (.aload_n 0, 1) := by decide +kernel
theorem d_T_best_46 : decode b_T_best 46 = .ok (.getfield 43, 3) := by decide +kernel
theorem d_T_best_49 : decode b_T_best 49 = .ok (.getfield 224, 3) := by decide +kernel
theorem d_T_best_52 : decode b_T_best 52 = .ok (.iconst 0, 1) := by decide +kernel
theorem d_T_best_53 : decode b_T_best 53 = .ok (.aload_n 0, 1) := by decide +kernel
theorem d_T_best_54 : decode b_T_best 54 = .ok (.getfield 11, 3) := by decide +kernel
theorem d_T_best_57 : decode b_T_best 57 = .ok (.iload_n 2, 1) := by decide +kernel
theorem d_T_best_58 : decode b_T_best 58 = .ok (.aaload, 1) := by decide +kernel
theorem d_T_best_59 : decode b_T_best 59 = .ok (.iconst 0, 1) := by decide +kernel
theorem d_T_best_60 : decode b_T_best 60 = .ok (.iload_n 1, 1) := by decide +kernel
theorem d_T_best_61 : decode b_T_best 61 = .ok (.invokestatic 98, 3) := by decide +kernel
theorem d_T_best_64 : decode b_T_best 64 = .ok (.aload_n 0, 1) := by decide +kernel
theorem d_T_best_65 : decode b_T_best 65 = .ok (.getfield 43, 3) := by decide +kernel
theorem d_T_best_68 : decode b_T_best 68 = .ok (.getfield 227, 3) := by decide +kernel
theorem d_T_best_71 : decode b_T_best 71 = .ok (.ireturn, 1) := by decide +kernel
theorem mo_T_best : mok y_T_best b_T_best 3 (some .int) 2 := ⟨List.mem_of_getElem? (i := 766) (by decide +kernel), ⟨by decide +kernel, by decide +kernel, by decide +kernel⟩, List.mem_of_getElem? (i := 74) (by decide +kernel), by decide⟩
set_option maxHeartbeats 4000000 in
theorem c_T_best (l : Launch) (u : Un) (hA : Ap u) (σ : St) {n G : Nat} {kd : Nat → Nat} (hb : bkOk σ n G kd) {L : Nat} (hL : σ.1 19 14 = nI L) (hL64 : L < 64) (m r : Int32) : MTi l u y_T_best b_T_best 3 .int 15 [.ref (u.2.1 0), .int m, .int r] σ (fun ans σ' => (ans, σ') = tBest σ G kd n L m r) := by
  refine MT_of hA rfl (by decide) (Nat.le_of_ble_eq_true rfl) (fun X hl F hr => ?_)
  subst hl
  refine v_to (ls' := [(0, .ref (u.2.1 0)), (1, .int m), (2, .int r)]) rfl ?_
  obtain ⟨hn, hn6, hG, hG64, hkd, hk6⟩ := id hb
  refine v_iload_n F d_T_best_0 rfl 1 rfl ?_
  refine v_runi (r_S F (c_T_isPlanSize X.2.1 u hA σ m ) mo_T_isPlanSize st_T_214 (by decide) rfl (Nat.le_of_ble_eq_true rfl) d_T_best_1) (fun r1 σ2 q3 => ?_)
  obtain ⟨rfl, rfl⟩ := q3
  refine v_bt F 14 d_T_best_4 rfl (fun h4 => ?_) (fun h4 => ?_)
  · skip
    refine v_iconst (v := (-1)) F d_T_best_14 ki_m1 ?_
    refine v_iret F hr rfl d_T_best_15 ?_
    unfold tBest
    first | (rw [if_pos (by first | exact fun q => h4 q.1 | exact fun q => h11 q.2)]; done) | (rw [if_neg (fun q => q ⟨hm0, ha0⟩), if_pos (by assumption)]; done)
  · skip
    have hm0 := h4
    obtain ⟨m, hm4, xm, rfl⟩ := nat_of (M := 4) h4.1 h4.2 rfl (by decide)
    refine v_iload_n F d_T_best_7 rfl 2 rfl ?_
    refine v_runi (r_S F (c_T_isRow X.2.1 u hA σ r ) mo_T_isRow st_T_76 (by decide) rfl (Nat.le_of_ble_eq_true rfl) d_T_best_8) (fun r4 σ5 q6 => ?_)
    obtain ⟨rfl, rfl⟩ := q6
    refine v_bf F 16 d_T_best_11 rfl (fun h11 => ?_) (fun h11 => ?_)
    · skip
      have ha0 := h11
      obtain ⟨a, ha, xa, rfl⟩ := inR_nat (N := 6) h11 rfl (by decide)
      refine v_aload_n F d_T_best_16 rfl 0 rfl ?_
      refine v_runi (r_V F (c_T_isOpen X.2.1 u hA σ  ) mo_T_isOpen st_T_142 rc_0 (by decide) rfl (Nat.le_of_ble_eq_true rfl) d_T_best_17) (fun r7 σ8 q9 => ?_)
      obtain ⟨rfl, rfl⟩ := q9
      refine v_bf F 26 d_T_best_20 rfl (fun h20 => ?_) (fun h20 => ?_)
      · skip
        refine v_aload_n F d_T_best_26 rfl 0 rfl ?_
        refine v_getr (r := 34) F fk_T_43 G0 rfl d_T_best_27 ?_
        refine v_aload_n F d_T_best_30 rfl 0 rfl ?_
        refine v_getr (r := 19) F fk_T_36 G0 rfl d_T_best_31 ?_
        refine v_iload_n F d_T_best_34 rfl 1 rfl ?_
        refine v_runv (r_V F (c_P_goThrough X.2.1 u hA σ hb hL hL64 (m := m) (by omega)) mo_P_goThrough st_T_217 rc_34 (by decide) rfl (Nat.le_of_ble_eq_true rfl) d_T_best_35) (fun σ11 q12 => ?_)
        refine v_aload_n F d_T_best_38 rfl 0 rfl ?_
        refine v_iload_n F d_T_best_39 rfl 2 rfl ?_
        refine v_iload_n F d_T_best_40 rfl 1 rfl ?_
        refine v_runi (r_V F (c_T_row X.2.1 u hA σ11 (nI a) (nI m)) mo_T_row st_T_221 rc_0 (by decide) rfl (Nat.le_of_ble_eq_true rfl) d_T_best_41) (fun r13 σ14 q15 => ?_)
        have eR : σ14 = (tRow σ11 (nI a) (nI m)).2 := congrArg Prod.snd q15
        refine v_pop F d_T_best_44 rfl ?_
        refine v_aload_n F d_T_best_45 rfl 0 rfl ?_
        refine v_getr (r := 34) F fk_T_43 G0 rfl d_T_best_46 ?_
        refine v_getr (r := 39) F fk_T_224 G34 rfl d_T_best_49 ?_
        refine v_iconst (v := 0) F d_T_best_52 ki_0 ?_
        refine v_aload_n F d_T_best_53 rfl 0 rfl ?_
        refine v_getr (r := 1) F fk_T_11 G0 rfl d_T_best_54 ?_
        refine v_iload_n F d_T_best_57 rfl 2 rfl ?_
        refine v_aal F a G1 rfl rfl (by omega) d_T_best_58 ?_
        refine v_iconst (v := 0) F d_T_best_59 ki_0 ?_
        refine v_iload_n F d_T_best_60 rfl 1 rfl ?_
        refine v_copy F G39 (gam_row _ ha) (List.mem_of_getElem? (i := 439) (by decide +kernel)) (List.mem_of_getElem? (i := 441) (by decide +kernel)) (List.mem_of_getElem? (i := 440) (by decide +kernel)) (List.mem_of_getElem? (i := 87) (by decide +kernel)) (by decide) (by decide) (by have := nI_nn (n := m) (by omega); exact i_nlt.mpr this) (by rw [nI_clamp (by omega)]; show 0 + m ≤ 4; omega) (by rw [nI_clamp (by omega)]; show 0 + m ≤ 40; omega) (by decide) (Nat.le_of_ble_eq_true rfl) d_T_best_61 ?_
        refine v_ns (fun σ16 eσ16 => ?_)
        refine v_aload_n F d_T_best_64 rfl 0 rfl ?_
        refine v_getr (r := 34) F fk_T_43 G0 rfl d_T_best_65 ?_
        refine v_geti F fk_T_227 G34 rfl d_T_best_68 ?_
        refine v_iret F hr rfl d_T_best_71 ?_
        unfold tBest
        rw [if_neg (fun q => q ⟨hm0, ha0⟩), if_neg (fun q => q (by assumption)), xm, xa]
        have eK : σ16.1 34 8 = (plnS σ G kd n L m).1 34 8 := by
          subst_vars
          exact congrFun ((uA_o (k' := (34 : Nat)) _ _ _ (by omega)).trans (tRow_o (k := 34) _ _ _ (by omega) ha (by decide) (by omega))) 8
        rw [eK]
        subst_vars
        rfl
      · skip
        refine v_bipush (v := (-4)) F d_T_best_23 kb_m4 ?_
        refine v_iret F hr rfl d_T_best_25 ?_
        unfold tBest
        first | (rw [if_pos (by first | exact fun q => h4 q.1 | exact fun q => h11 q.2)]; done) | (rw [if_neg (fun q => q ⟨hm0, ha0⟩), if_pos (by assumption)]; done)
    · skip
      refine v_iconst (v := (-1)) F d_T_best_14 ki_m1 ?_
      refine v_iret F hr rfl d_T_best_15 ?_
      unfold tBest
      first | (rw [if_pos (by first | exact fun q => h4 q.1 | exact fun q => h11 q.2)]; done) | (rw [if_neg (fun q => q ⟨hm0, ha0⟩), if_pos (by assumption)]; done)
abbrev b_T_ways : ByteArray := prog_1_method_26_code
abbrev y_T_ways : MethodName := ⟨"TakerBook", "ways", "(I)I"⟩
theorem d_T_ways_0 : decode b_T_ways 0 = .ok (.iload_n 1, 1) := by decide +kernel
theorem d_T_ways_1 : decode b_T_ways 1 = .ok (.invokestatic 214, 3) := by decide +kernel
theorem d_T_ways_4 : decode b_T_ways 4 = .ok (.ifCond .ne 5, 3) := by decide +kernel
theorem d_T_ways_7 : decode b_T_ways 7 = .ok (.iconst (-1), 1) := by decide +kernel
theorem d_T_ways_8 : decode b_T_ways 8 = .ok (.ireturn, 1) := by decide +kernel
theorem d_T_ways_9 : decode b_T_ways 9 = .ok (.aload_n 0, 1) := by decide +kernel
theorem d_T_ways_10 : decode b_T_ways 10 = .ok (.invokevirtual 142, 3) := by decide +kernel
theorem d_T_ways_13 : decode b_T_ways 13 = .ok (.ifCond .ne 6, 3) := by decide +kernel
theorem d_T_ways_16 : decode b_T_ways 16 = .ok (.bipush (-4), 2) := by decide +kernel
theorem d_T_ways_18 : decode b_T_ways 18 = .ok (.ireturn, 1) := by decide +kernel
theorem d_T_ways_19 : decode b_T_ways 19 = .ok (.aload_n 0, 1) := by decide +kernel
theorem d_T_ways_20 : decode b_T_ways 20 = .ok (.getfield 43, 3) := by decide +kernel
theorem d_T_ways_23 : decode b_T_ways 23 = .ok (.aload_n 0, 1) := by decide +kernel
theorem d_T_ways_24 : decode b_T_ways 24 = .ok (.getfield 36, 3) := by decide +kernel
theorem d_T_ways_27 : decode b_T_ways 27 = .ok (.iload_n 1, 1) := by decide +kernel
theorem d_T_ways_28 : decode b_T_ways 28 = .ok (.invokevirtual 217, 3) := by decide +kernel
theorem d_T_ways_31 : decode b_T_ways 31 = .ok (.aload_n 0, 1) := by decide +kernel
theorem d_T_ways_32 : decode b_T_ways 32 = .ok (.aload_n 0, 1) := by decide +kernel
theorem d_T_ways_33 : decode b_T_ways 33 = .ok (.getfield 43, 3) := by decide +kernel
theorem d_T_ways_36 : decode b_T_ways 36 = .ok (.getfield 230, 3) := by decide +kernel
theorem d_T_ways_39 : decode b_T_ways 39 = .ok (.i2l, 1) := by decide +kernel
theorem d_T_ways_40 : decode b_T_ways 40 = .ok (.lconst 1, 1) := by decide +kernel
theorem d_T_ways_41 : decode b_T_ways 41 = .ok (.invokevirtual 233, 3) := by decide +kernel
theorem d_T_ways_44 : decode b_T_ways 44 = .ok (.aload_n 0, 1) := by decide +kernel
theorem d_T_ways_45 : decode b_T_ways 45 = .ok (.aload_n 0, 1) := by decide +kernel
theorem d_T_ways_46 : decode b_T_ways 46 = .ok (.getfield 43, 3) := by decide +kernel
theorem d_T_ways_49 : decode b_T_ways 49 = .ok (.getfield 230, 3) := by decide +kernel
theorem d_T_ways_52 : decode b_T_ways 52 = .ok (.ifCond .ne 7, 3) := by decide +kernel
theorem d_T_ways_55 : decode b_T_ways 55 = .ok (.iconst 0, 1) := by decide +kernel
theorem d_T_ways_56 : decode b_T_ways 56 = .ok (.goto 10, 3) := by decide +kernel
theorem d_T_ways_59 : decode b_T_ways 59 = .ok (.aload_n 0, 1) := by decide +kernel
theorem d_T_ways_60 : decode b_T_ways 60 = .ok (.getfield 43, 3) := by decide +kernel
theorem d_T_ways_63 : decode b_T_ways 63 = .ok (.getfield 237, 3) := by decide +kernel
theorem d_T_ways_66 : decode b_T_ways 66 = .ok (.putfield 88, 3) := by decide +kernel
theorem d_T_ways_69 : decode b_T_ways 69 = .ok (.iconst 1, 1) := by decide +kernel
theorem d_T_ways_70 : decode b_T_ways 70 = .ok (.ireturn, 1) := by decide +kernel
theorem mo_T_ways : mok y_T_ways b_T_ways 2 (some .int) 1 := ⟨List.mem_of_getElem? (i := 795) (by decide +kernel), ⟨by decide +kernel, by decide +kernel, by decide +kernel⟩, List.mem_of_getElem? (i := 74) (by decide +kernel), by decide⟩
set_option maxHeartbeats 4000000 in
theorem c_T_ways (l : Launch) (u : Un) (hA : Ap u) (σ : St) {n G : Nat} {kd : Nat → Nat} (hb : bkOk σ n G kd) {L : Nat} (hL : σ.1 19 14 = nI L) (hL64 : L < 64) (m : Int32) : MTi l u y_T_ways b_T_ways 2 .int 15 [.ref (u.2.1 0), .int m] σ (fun ans σ' => (ans, σ') = tWays σ G kd n L m) := by
  refine MT_of hA rfl (by decide) (Nat.le_of_ble_eq_true rfl) (fun X hl F hr => ?_)
  subst hl
  refine v_to (ls' := [(0, .ref (u.2.1 0)), (1, .int m)]) rfl ?_
  obtain ⟨hn, hn6, hG, hG64, hkd, hk6⟩ := id hb
  refine v_iload_n F d_T_ways_0 rfl 1 rfl ?_
  refine v_runi (r_S F (c_T_isPlanSize X.2.1 u hA σ m ) mo_T_isPlanSize st_T_214 (by decide) rfl (Nat.le_of_ble_eq_true rfl) d_T_ways_1) (fun r1 σ2 q3 => ?_)
  obtain ⟨rfl, rfl⟩ := q3
  refine v_bf F 9 d_T_ways_4 rfl (fun h4 => ?_) (fun h4 => ?_)
  · skip
    have hm0 := h4
    obtain ⟨m, hm4, xm, rfl⟩ := nat_of (M := 4) h4.1 h4.2 rfl (by decide)
    obtain ⟨U, hU, eU⟩ := pln_ut σ G kd n L hm4
    refine v_aload_n F d_T_ways_9 rfl 0 rfl ?_
    refine v_runi (r_V F (c_T_isOpen X.2.1 u hA σ  ) mo_T_isOpen st_T_142 rc_0 (by decide) rfl (Nat.le_of_ble_eq_true rfl) d_T_ways_10) (fun r4 σ5 q6 => ?_)
    obtain ⟨rfl, rfl⟩ := q6
    refine v_bf F 19 d_T_ways_13 rfl (fun h13 => ?_) (fun h13 => ?_)
    · skip
      refine v_aload_n F d_T_ways_19 rfl 0 rfl ?_
      refine v_getr (r := 34) F fk_T_43 G0 rfl d_T_ways_20 ?_
      refine v_aload_n F d_T_ways_23 rfl 0 rfl ?_
      refine v_getr (r := 19) F fk_T_36 G0 rfl d_T_ways_24 ?_
      refine v_iload_n F d_T_ways_27 rfl 1 rfl ?_
      refine v_runv (r_V F (c_P_goThrough X.2.1 u hA σ hb hL hL64 (m := m) (by omega)) mo_P_goThrough st_T_217 rc_34 (by decide) rfl (Nat.le_of_ble_eq_true rfl) d_T_ways_28) (fun σ8 q9 => ?_)
      refine v_aload_n F d_T_ways_31 rfl 0 rfl ?_
      refine v_aload_n F d_T_ways_32 rfl 0 rfl ?_
      refine v_getr (r := 34) F fk_T_43 G0 rfl d_T_ways_33 ?_
      refine v_geti F fk_T_230 G34 rfl d_T_ways_36 ?_
      refine v_te (y := nI U) (by subst_vars; exact eU) ?_
      refine v_i2l F d_T_ways_39 ?_
      refine v_tl (y := lN U) (nI_l (by omega)) ?_
      refine v_lconst (v := 1) F d_T_ways_40 rfl ?_
      refine v_runv (r_V F (c_T_tellNumbers X.2.1 u hA σ8 U 1 (by omega) (by omega) (by omega)) mo_T_tellNumbers st_T_233 rc_0 (by decide) rfl (Nat.le_of_ble_eq_true rfl) d_T_ways_41) (fun σ11 q12 => ?_)
      refine v_aload_n F d_T_ways_44 rfl 0 rfl ?_
      refine v_aload_n F d_T_ways_45 rfl 0 rfl ?_
      refine v_getr (r := 34) F fk_T_43 G0 rfl d_T_ways_46 ?_
      refine v_geti F fk_T_230 G34 rfl d_T_ways_49 ?_
      refine v_te (y := nI U) (by subst_vars; exact eU) ?_
      refine v_if_ne F 59 d_T_ways_52 rfl (fun h52 => ?_) (fun h52 => ?_)
      · skip
        have h52 : ¬ U = 0 := fun q => h52 ((nI_eq (a := U) (b := 0) (by omega) (by omega)).mpr q)
        refine v_aload_n F d_T_ways_59 rfl 0 rfl ?_
        refine v_getr (r := 34) F fk_T_43 G0 rfl d_T_ways_60 ?_
        refine v_geti F fk_T_237 G34 rfl d_T_ways_63 ?_
        refine v_te (y := (plnS σ G kd n L m).1 34 10) (by subst_vars; rfl) ?_
        refine v_puti F fk_T_88 pk_T_told G0 rfl d_T_ways_66 ?_
        refine v_ns (fun σ13 eσ13 => ?_)
        refine v_iconst (v := 1) F d_T_ways_69 ki_1 ?_
        refine v_iret F hr rfl d_T_ways_70 ?_
        unfold tWays
        rw [if_neg (fun q => q hm0), if_neg (fun q => q (by assumption)), xm, eU, ix_nI (by omega)]
        first | (rw [if_pos (by rw [h52]; rfl)]; subst_vars; simp only [Nat.gcd_one_right, Nat.div_one]; done) | (rw [if_neg (show ¬ nI U = 0 from fun q => h52 ((nI_eq (b := 0) (by omega) (by omega)).mp q))]; subst_vars; simp only [Nat.gcd_one_right, Nat.div_one]; done)
      · skip
        have h52 : U = 0 := (nI_eq (a := U) (b := 0) (by omega) (by omega)).mp h52
        refine v_iconst (v := 0) F d_T_ways_55 ki_0 ?_
        refine v_goto F 66 d_T_ways_56 rfl ?_
        refine v_puti F fk_T_88 pk_T_told G0 rfl d_T_ways_66 ?_
        refine v_ns (fun σ14 eσ14 => ?_)
        refine v_iconst (v := 1) F d_T_ways_69 ki_1 ?_
        refine v_iret F hr rfl d_T_ways_70 ?_
        unfold tWays
        rw [if_neg (fun q => q hm0), if_neg (fun q => q (by assumption)), xm, eU, ix_nI (by omega)]
        first | (rw [if_pos (by rw [h52]; rfl)]; subst_vars; simp only [Nat.gcd_one_right, Nat.div_one]; done) | (rw [if_neg (show ¬ nI U = 0 from fun q => h52 ((nI_eq (b := 0) (by omega) (by omega)).mp q))]; subst_vars; simp only [Nat.gcd_one_right, Nat.div_one]; done)
    · skip
      refine v_bipush (v := (-4)) F d_T_ways_16 kb_m4 ?_
      refine v_iret F hr rfl d_T_ways_18 ?_
      unfold tWays
      first | (rw [if_pos (by assumption)]; done) | (rw [if_neg (fun q => q hm0), if_pos (by assumption)]; done)
  · skip
    refine v_iconst (v := (-1)) F d_T_ways_7 ki_m1 ?_
    refine v_iret F hr rfl d_T_ways_8 ?_
    unfold tWays
    first | (rw [if_pos (by assumption)]; done) | (rw [if_neg (fun q => q hm0), if_pos (by assumption)]; done)
abbrev b_T_brings : ByteArray := prog_1_method_27_code
abbrev y_T_brings : MethodName := ⟨"TakerBook", "brings", "(I)I"⟩
theorem d_T_brings_0 : decode b_T_brings 0 = .ok (.iload_n 1, 1) := by decide +kernel
theorem d_T_brings_1 : decode b_T_brings 1 = .ok (.invokestatic 76, 3) := by decide +kernel
theorem d_T_brings_4 : decode b_T_brings 4 = .ok (.ifCond .ne 5, 3) := by decide +kernel
theorem d_T_brings_7 : decode b_T_brings 7 = .ok (.iconst (-1), 1) := by decide +kernel
theorem d_T_brings_8 : decode b_T_brings 8 = .ok (.ireturn, 1) := by decide +kernel
theorem d_T_brings_9 : decode b_T_brings 9 = .ok (.aload_n 0, 1) := by decide +kernel
theorem d_T_brings_10 : decode b_T_brings 10 = .ok (.invokevirtual 142, 3) := by decide +kernel
theorem d_T_brings_13 : decode b_T_brings 13 = .ok (.ifCond .ne 6, 3) := by decide +kernel
theorem d_T_brings_16 : decode b_T_brings 16 = .ok (.bipush (-4), 2) := by decide +kernel
theorem d_T_brings_18 : decode b_T_brings 18 = .ok (.ireturn, 1) := by decide +kernel
theorem d_T_brings_19 : decode b_T_brings 19 = .ok (.aload_n 0, 1) := by decide +kernel
theorem d_T_brings_20 : decode b_T_brings 20 = .ok (.getfield 14, 3) := by decide +kernel
theorem d_T_brings_23 : decode b_T_brings 23 = .ok (.iload_n 1, 1) := by decide +kernel
theorem d_T_brings_24 : decode b_T_brings 24 = .ok (.iaload, 1) := by decide +kernel
theorem d_T_brings_25 : decode b_T_brings 25 = .ok (.ifCond .ge 9, 3) := by decide +kernel
theorem d_T_brings_28 : decode b_T_brings 28 = .ok (.aload_n 0, 1) := by decide +kernel
theorem d_T_brings_29 : decode b_T_brings 29 = .ok (.iconst 1, 1) := by decide +kernel
theorem d_T_brings_30 : decode b_T_brings 30 = .ok (.invokevirtual 80, 3) := by decide +kernel
theorem d_T_brings_33 : decode b_T_brings 33 = .ok (.ireturn, 1) := by decide +kernel
theorem d_T_brings_34 : decode b_T_brings 34 = .ok (.aload_n 0, 1) := by decide +kernel
theorem d_T_brings_35 : decode b_T_brings 35 = .ok (.getfield 14, 3) := by decide +kernel
theorem d_T_brings_38 : decode b_T_brings 38 = .ok (.iload_n 1, 1) := by decide +kernel
theorem d_T_brings_39 : decode b_T_brings 39 = .ok (.iaload, 1) := by decide +kernel
theorem d_T_brings_40 : decode b_T_brings 40 = .ok (.iconst 4, 1) := by decide +kernel
theorem d_T_brings_41 : decode b_T_brings 41 = .ok (.if_icmp .le 9, 3) := by decide +kernel
theorem d_T_brings_44 : decode b_T_brings 44 = .ok (.aload_n 0, 1) := by decide +kernel
theorem d_T_brings_45 : decode b_T_brings 45 = .ok (.iconst 5, 1) := by decide +kernel
theorem d_T_brings_46 : decode b_T_brings 46 = .ok (.invokevirtual 80, 3) := by decide +kernel
theorem d_T_brings_49 : decode b_T_brings 49 = .ok (.ireturn, 1) := by decide +kernel
theorem d_T_brings_50 : decode b_T_brings 50 = .ok (.aload_n 0, 1) := by decide +kernel
theorem d_T_brings_51 : decode b_T_brings 51 = .ok (.aload_n 0, 1) := by decide +kernel
theorem d_T_brings_52 : decode b_T_brings 52 = .ok (.getfield 11, 3) := by decide +kernel
theorem d_T_brings_55 : decode b_T_brings 55 = .ok (.iload_n 1, 1) := by decide +kernel
theorem d_T_brings_56 : decode b_T_brings 56 = .ok (.aaload, 1) := by decide +kernel
theorem d_T_brings_57 : decode b_T_brings 57 = .ok (.aload_n 0, 1) := by decide +kernel
theorem d_T_brings_58 : decode b_T_brings 58 = .ok (.getfield 14, 3) := by decide +kernel
theorem d_T_brings_61 : decode b_T_brings 61 = .ok (.iload_n 1, 1) := by decide +kernel
theorem d_T_brings_62 : decode b_T_brings 62 = .ok (.iaload, 1) := by decide +kernel
theorem d_T_brings_63 : decode b_T_brings 63 = .ok (.invokevirtual 240, 3) := by decide +kernel
theorem d_T_brings_66 : decode b_T_brings 66 = .ok (.ifCond .ne 9, 3) := by decide +kernel
theorem d_T_brings_69 : decode b_T_brings 69 = .ok (.aload_n 0, 1) := by decide +kernel
theorem d_T_brings_70 : decode b_T_brings 70 = .ok (.iconst 3, 1) := by decide +kernel
theorem d_T_brings_71 : decode b_T_brings 71 = .ok (.invokevirtual 80, 3) := by decide +kernel
theorem d_T_brings_74 : decode b_T_brings 74 = .ok (.ireturn, 1) := by decide +kernel
theorem d_T_brings_75 : decode b_T_brings 75 = .ok (.aload_n 0, 1) := by decide +kernel
theorem d_T_brings_76 : decode b_T_brings 76 = .ok (.getfield 43, 3) := by decide +kernel
theorem d_T_brings_79 : decode b_T_brings 79 = .ok (.aload_n 0, 1) := by decide +kernel
theorem d_T_brings_80 : decode b_T_brings 80 = .ok (.getfield 36, 3) := by decide +kernel
theorem d_T_brings_83 : decode b_T_brings 83 = .ok (.aload_n 0, 1) := by decide +kernel
theorem d_T_brings_84 : decode b_T_brings 84 = .ok (.getfield 11, 3) := by decide +kernel
theorem d_T_brings_87 : decode b_T_brings 87 = .ok (.iload_n 1, 1) := by decide +kernel
theorem d_T_brings_88 : decode b_T_brings 88 = .ok (.aaload, 1) := by decide +kernel
theorem d_T_brings_89 : decode b_T_brings 89 = .ok (.aload_n 0, 1) := by decide +kernel
theorem d_T_brings_90 : decode b_T_brings 90 = .ok (.getfield 14, 3) := by decide +kernel
theorem d_T_brings_93 : decode b_T_brings 93 = .ok (.iload_n 1, 1) := by decide +kernel
theorem d_T_brings_94 : decode b_T_brings 94 = .ok (.iaload, 1) := by decide +kernel
theorem d_T_brings_95 : decode b_T_brings 95 = .ok (.invokevirtual 244, 3) := by decide +kernel
theorem d_T_brings_98 : decode b_T_brings 98 = .ok (.istore_n 2, 1) := by decide +kernel
theorem d_T_brings_99 : decode b_T_brings 99 = .ok (.aload_n 0, 1) := by decide +kernel
theorem d_T_brings_100 : decode b_T_brings 100 = .ok (.aload_n 0, 1) := by decide +kernel
theorem d_T_brings_101 : decode b_T_brings 101 = .ok (.getfield 43, 3) := by decide +kernel
theorem d_T_brings_104 : decode b_T_brings 104 = .ok (.getfield 248, 3) := by decide +kernel
theorem d_T_brings_107 : decode b_T_brings 107 = .ok (.putfield 88, 3) := by decide +kernel
theorem d_T_brings_110 : decode b_T_brings 110 = .ok (.iload_n 2, 1) := by decide +kernel
theorem d_T_brings_111 : decode b_T_brings 111 = .ok (.ireturn, 1) := by decide +kernel
theorem mo_T_brings : mok y_T_brings b_T_brings 3 (some .int) 1 := ⟨List.mem_of_getElem? (i := 803) (by decide +kernel), ⟨by decide +kernel, by decide +kernel, by decide +kernel⟩, List.mem_of_getElem? (i := 74) (by decide +kernel), by decide⟩
set_option maxHeartbeats 4000000 in
theorem c_T_brings (l : Launch) (u : Un) (hA : Ap u) (σ : St) {n G : Nat} {kd : Nat → Nat} (hb : bkOk σ n G kd) {L : Nat} (hL : σ.1 19 14 = nI L) (hL64 : L < 64) (r : Int32) : MTi l u y_T_brings b_T_brings 3 .int 9 [.ref (u.2.1 0), .int r] σ (fun ans σ' => (ans, σ') = tBrings σ G kd n L r) := by
  refine MT_of hA rfl (by decide) (Nat.le_of_ble_eq_true rfl) (fun X hl F hr => ?_)
  subst hl
  refine v_to (ls' := [(0, .ref (u.2.1 0)), (1, .int r)]) rfl ?_
  obtain ⟨hn, hn6, hG, hG64, hkd, hk6⟩ := id hb
  refine v_iload_n F d_T_brings_0 rfl 1 rfl ?_
  refine v_runi (r_S F (c_T_isRow X.2.1 u hA σ r ) mo_T_isRow st_T_76 (by decide) rfl (Nat.le_of_ble_eq_true rfl) d_T_brings_1) (fun r1 σ2 q3 => ?_)
  obtain ⟨rfl, rfl⟩ := q3
  refine v_bf F 9 d_T_brings_4 rfl (fun h4 => ?_) (fun h4 => ?_)
  · skip
    have ha0 := h4
    obtain ⟨a, ha, xa, rfl⟩ := inR_nat (N := 6) h4 rfl (by decide)
    refine v_aload_n F d_T_brings_9 rfl 0 rfl ?_
    refine v_runi (r_V F (c_T_isOpen X.2.1 u hA σ  ) mo_T_isOpen st_T_142 rc_0 (by decide) rfl (Nat.le_of_ble_eq_true rfl) d_T_brings_10) (fun r4 σ5 q6 => ?_)
    obtain ⟨rfl, rfl⟩ := q6
    refine v_bf F 19 d_T_brings_13 rfl (fun h13 => ?_) (fun h13 => ?_)
    · skip
      refine v_aload_n F d_T_brings_19 rfl 0 rfl ?_
      refine v_getr (r := 8) F fk_T_14 G0 rfl d_T_brings_20 ?_
      refine v_iload_n F d_T_brings_23 rfl 1 rfl ?_
      refine v_ial F a G8 rfl (by omega) d_T_brings_24 ?_
      refine v_if_ge F 34 d_T_brings_25 rfl (fun h25 => ?_) (fun h25 => ?_)
      · skip
        refine v_aload_n F d_T_brings_34 rfl 0 rfl ?_
        refine v_getr (r := 8) F fk_T_14 G0 rfl d_T_brings_35 ?_
        refine v_iload_n F d_T_brings_38 rfl 1 rfl ?_
        refine v_ial F a G8 rfl (by omega) d_T_brings_39 ?_
        refine v_iconst (v := 4) F d_T_brings_40 ki_4 ?_
        refine v_icmp_le F 50 d_T_brings_41 rfl (fun h41 => ?_) (fun h41 => ?_)
        · skip
          obtain ⟨N, hN, xN, eN⟩ := nat_of (M := 4) h25 h41 rfl (by decide)
          refine v_aload_n F d_T_brings_50 rfl 0 rfl ?_
          refine v_aload_n F d_T_brings_51 rfl 0 rfl ?_
          refine v_getr (r := 1) F fk_T_11 G0 rfl d_T_brings_52 ?_
          refine v_iload_n F d_T_brings_55 rfl 1 rfl ?_
          refine v_aal F a G1 rfl rfl (by omega) d_T_brings_56 ?_
          refine v_aload_n F d_T_brings_57 rfl 0 rfl ?_
          refine v_getr (r := 8) F fk_T_14 G0 rfl d_T_brings_58 ?_
          refine v_iload_n F d_T_brings_61 rfl 1 rfl ?_
          refine v_ial F a G8 rfl (by omega) d_T_brings_62 ?_
          refine v_te (y := nI N) eN ?_
          refine v_runi (r_V F (c_T_isPlan X.2.1 u hA σ hb hL hL64 (a := a) (N := N) ha (by omega)) mo_T_isPlan st_T_240 rc_0 (by decide) rfl (Nat.le_of_ble_eq_true rfl) d_T_brings_63) (fun r7 σ8 q9 => ?_)
          obtain ⟨rfl, rfl⟩ := q9
          refine v_bf F 75 d_T_brings_66 rfl (fun h66 => ?_) (fun h66 => ?_)
          · skip
            refine v_aload_n F d_T_brings_75 rfl 0 rfl ?_
            refine v_getr (r := 34) F fk_T_43 G0 rfl d_T_brings_76 ?_
            refine v_aload_n F d_T_brings_79 rfl 0 rfl ?_
            refine v_getr (r := 19) F fk_T_36 G0 rfl d_T_brings_80 ?_
            refine v_aload_n F d_T_brings_83 rfl 0 rfl ?_
            refine v_getr (r := 1) F fk_T_11 G0 rfl d_T_brings_84 ?_
            refine v_iload_n F d_T_brings_87 rfl 1 rfl ?_
            refine v_aal F a G1 rfl rfl (by omega) d_T_brings_88 ?_
            refine v_aload_n F d_T_brings_89 rfl 0 rfl ?_
            refine v_getr (r := 8) F fk_T_14 G0 rfl d_T_brings_90 ?_
            refine v_iload_n F d_T_brings_93 rfl 1 rfl ?_
            refine v_ial F a G8 rfl (by omega) d_T_brings_94 ?_
            refine v_te (y := nI N) eN ?_
            refine v_runi (r_V F (c_P_follow X.2.1 u hA σ hb hL hL64 (a := a) (N := N) ha (by omega) (okS_in h66)) mo_P_follow st_T_244 rc_34 (by decide) rfl (Nat.le_of_ble_eq_true rfl) d_T_brings_95) (fun r10 σ11 q12 => ?_)
            obtain ⟨eV, eS⟩ := q12
            refine v_istore_n (ls' := [(2, .int r10), (0, .ref (u.2.1 0)), (1, .int (nI a))]) F d_T_brings_98 rfl (by decide) rfl ?_
            refine v_aload_n F d_T_brings_99 rfl 1 rfl ?_
            refine v_aload_n F d_T_brings_100 rfl 1 rfl ?_
            refine v_getr (r := 34) F fk_T_43 G0 rfl d_T_brings_101 ?_
            refine v_geti F fk_T_248 G34 rfl d_T_brings_104 ?_
            refine v_te (y := oI (flS σ G kd n L (2 + a) N).t) (by rw [eS]; exact uI_s _ _ _ _) ?_
            refine v_puti F fk_T_88 pk_T_told G0 rfl d_T_brings_107 ?_
            refine v_ns (fun σ13 eσ13 => ?_)
            refine v_iload_n F d_T_brings_110 rfl 0 rfl ?_
            refine v_iret F hr rfl d_T_brings_111 ?_
            unfold tBrings
            rw [if_neg (fun q => q ha0), if_neg (fun q => q (by assumption)), xa, if_neg (i_nlt.mpr h25), if_neg (i_nlt.mpr h41), xN, if_neg (fun q => q h66)]
            subst_vars
            rfl
          · skip
            refine v_aload_n F d_T_brings_69 rfl 0 rfl ?_
            refine v_iconst (v := 3) F d_T_brings_70 ki_3 ?_
            refine v_runi (r_V F (c_T_refuse X.2.1 u hA σ 3 (by decide)) mo_T_refuse st_T_80 rc_0 (by decide) rfl (Nat.le_of_ble_eq_true rfl) d_T_brings_71) (fun r14 σ15 q16 => ?_)
            obtain ⟨rfl, eσ15⟩ := q16
            refine v_iret F hr rfl d_T_brings_74 ?_
            unfold tBrings
            first | (rw [if_pos (by assumption)]; done) | (rw [if_neg (fun q => q ha0), if_pos (by assumption)]; done) | (rw [if_neg (fun q => q ha0), if_neg (fun q => q (by assumption)), xa, if_pos (i_lt_le.mp h25)]; subst_vars; rfl) | (rw [if_neg (fun q => q ha0), if_neg (fun q => q (by assumption)), xa, if_neg (i_nlt.mpr h25), if_pos (i_lt_le.mp h41)]; subst_vars; rfl) | (rw [if_neg (fun q => q ha0), if_neg (fun q => q (by assumption)), xa, if_neg (i_nlt.mpr h25), if_neg (i_nlt.mpr h41), xN, if_pos h66]; subst_vars; rfl)
        · skip
          refine v_aload_n F d_T_brings_44 rfl 0 rfl ?_
          refine v_iconst (v := 5) F d_T_brings_45 ki_5 ?_
          refine v_runi (r_V F (c_T_refuse X.2.1 u hA σ 5 (by decide)) mo_T_refuse st_T_80 rc_0 (by decide) rfl (Nat.le_of_ble_eq_true rfl) d_T_brings_46) (fun r17 σ18 q19 => ?_)
          obtain ⟨rfl, eσ18⟩ := q19
          refine v_iret F hr rfl d_T_brings_49 ?_
          unfold tBrings
          first | (rw [if_pos (by assumption)]; done) | (rw [if_neg (fun q => q ha0), if_pos (by assumption)]; done) | (rw [if_neg (fun q => q ha0), if_neg (fun q => q (by assumption)), xa, if_pos (i_lt_le.mp h25)]; subst_vars; rfl) | (rw [if_neg (fun q => q ha0), if_neg (fun q => q (by assumption)), xa, if_neg (i_nlt.mpr h25), if_pos (i_lt_le.mp h41)]; subst_vars; rfl) | (rw [if_neg (fun q => q ha0), if_neg (fun q => q (by assumption)), xa, if_neg (i_nlt.mpr h25), if_neg (i_nlt.mpr h41), xN, if_pos h66]; subst_vars; rfl)
      · skip
        refine v_aload_n F d_T_brings_28 rfl 0 rfl ?_
        refine v_iconst (v := 1) F d_T_brings_29 ki_1 ?_
        refine v_runi (r_V F (c_T_refuse X.2.1 u hA σ 1 (by decide)) mo_T_refuse st_T_80 rc_0 (by decide) rfl (Nat.le_of_ble_eq_true rfl) d_T_brings_30) (fun r20 σ21 q22 => ?_)
        obtain ⟨rfl, eσ21⟩ := q22
        refine v_iret F hr rfl d_T_brings_33 ?_
        unfold tBrings
        first | (rw [if_pos (by assumption)]; done) | (rw [if_neg (fun q => q ha0), if_pos (by assumption)]; done) | (rw [if_neg (fun q => q ha0), if_neg (fun q => q (by assumption)), xa, if_pos (i_lt_le.mp h25)]; subst_vars; rfl) | (rw [if_neg (fun q => q ha0), if_neg (fun q => q (by assumption)), xa, if_neg (i_nlt.mpr h25), if_pos (i_lt_le.mp h41)]; subst_vars; rfl) | (rw [if_neg (fun q => q ha0), if_neg (fun q => q (by assumption)), xa, if_neg (i_nlt.mpr h25), if_neg (i_nlt.mpr h41), xN, if_pos h66]; subst_vars; rfl)
    · skip
      refine v_bipush (v := (-4)) F d_T_brings_16 kb_m4 ?_
      refine v_iret F hr rfl d_T_brings_18 ?_
      unfold tBrings
      first | (rw [if_pos (by assumption)]; done) | (rw [if_neg (fun q => q ha0), if_pos (by assumption)]; done) | (rw [if_neg (fun q => q ha0), if_neg (fun q => q (by assumption)), xa, if_pos (i_lt_le.mp h25)]; subst_vars; rfl) | (rw [if_neg (fun q => q ha0), if_neg (fun q => q (by assumption)), xa, if_neg (i_nlt.mpr h25), if_pos (i_lt_le.mp h41)]; subst_vars; rfl) | (rw [if_neg (fun q => q ha0), if_neg (fun q => q (by assumption)), xa, if_neg (i_nlt.mpr h25), if_neg (i_nlt.mpr h41), xN, if_pos h66]; subst_vars; rfl)
  · skip
    refine v_iconst (v := (-1)) F d_T_brings_7 ki_m1 ?_
    refine v_iret F hr rfl d_T_brings_8 ?_
    unfold tBrings
    first | (rw [if_pos (by assumption)]; done) | (rw [if_neg (fun q => q ha0), if_pos (by assumption)]; done) | (rw [if_neg (fun q => q ha0), if_neg (fun q => q (by assumption)), xa, if_pos (i_lt_le.mp h25)]; subst_vars; rfl) | (rw [if_neg (fun q => q ha0), if_neg (fun q => q (by assumption)), xa, if_neg (i_nlt.mpr h25), if_pos (i_lt_le.mp h41)]; subst_vars; rfl) | (rw [if_neg (fun q => q ha0), if_neg (fun q => q (by assumption)), xa, if_neg (i_nlt.mpr h25), if_neg (i_nlt.mpr h41), xN, if_pos h66]; subst_vars; rfl)
