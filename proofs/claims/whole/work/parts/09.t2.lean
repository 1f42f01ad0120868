theorem st_T_107 : siteV "TakerBook" 107 ⟨"TakerBook", "refusedText", "(I)I"⟩ := ⟨List.mem_of_getElem? (i := 457) (by decide +kernel), List.mem_of_getElem? (i := 459) (by decide +kernel), List.mem_of_getElem? (i := 3) (by decide +kernel)⟩
theorem fk_T_20 : fok "TakerBook" 20 0 2 := ⟨(R_T, F_T, 15), rfl, by decide, List.mem_of_getElem? (i := 357) (by decide +kernel), rfl⟩
theorem G9 : Gam[9]? = some (.inr (.inl ((.array .byte), 4, fun j => 10 + j))) := rfl
theorem ks_1000 : (Int16.ofInt 1000).toInt32 = (1000 : Int32) := by decide
theorem kb_40 : (Int8.ofInt 40).toInt32 = (40 : Int32) := by decide
theorem ki_5 : Int32.ofInt 5 = (5 : Int32) := by decide
theorem kb_32 : (Int8.ofInt 32).toInt32 = (32 : Int32) := by decide
theorem kb_60 : (Int8.ofInt 60).toInt32 = (60 : Int32) := by decide
theorem st_T_94 : siteS "TakerBook" 94 ⟨"TakerBook", "holds", "(III)Z"⟩ := ⟨List.mem_of_getElem? (i := 436) (by decide +kernel), List.mem_of_getElem? (i := 437) (by decide +kernel)⟩
theorem fk_T_312 : fok "TakerBook" 312 0 13 := ⟨(R_T, F_T, 15), rfl, by decide, List.mem_of_getElem? (i := 368) (by decide +kernel), rfl⟩
theorem fk_T_68 : fok "TakerBook" 68 0 14 := ⟨(R_T, F_T, 15), rfl, by decide, List.mem_of_getElem? (i := 369) (by decide +kernel), rfl⟩
abbrev b_T_at : ByteArray := prog_1_method_4_code
abbrev y_T_at : MethodName := ⟨"TakerBook", "at", "(II)I"⟩
theorem d_T_at_0 : decode b_T_at 0 = .ok (.aload_n 0, 1) := by decide +kernel
theorem d_T_at_1 : decode b_T_at 1 = .ok (.iload_n 1, 1) := by decide +kernel
theorem d_T_at_2 : decode b_T_at 2 = .ok (.iload_n 2, 1) := by decide +kernel
theorem d_T_at_3 : decode b_T_at 3 = .ok (.invokevirtual 84, 3) := by decide +kernel
theorem d_T_at_6 : decode b_T_at 6 = .ok (.istore_n 3, 1) := by decide +kernel
theorem d_T_at_7 : decode b_T_at 7 = .ok (.iload_n 3, 1) := by decide +kernel
theorem d_T_at_8 : decode b_T_at 8 = .ok (.ifCond .eq 5, 3) := by decide +kernel
theorem d_T_at_11 : decode b_T_at 11 = .ok (.iload_n 3, 1) := by decide +kernel
theorem d_T_at_12 : decode b_T_at 12 = .ok (.ireturn, 1) := by decide +kernel
theorem d_T_at_13 : decode b_T_at 13 = .ok (.aload_n 0, 1) := by decide +kernel
theorem d_T_at_14 : decode b_T_at 14 = .ok (.aload_n 0, 1) := by decide +kernel
theorem d_T_at_15 : decode b_T_at 15 = .ok (.getfield 11, 3) := by decide +kernel
theorem d_T_at_18 : decode b_T_at 18 = .ok (.iload_n 1, 1) := by decide +kernel
theorem d_T_at_19 : decode b_T_at 19 = .ok (.aaload, 1) := by decide +kernel
theorem d_T_at_20 : decode b_T_at 20 = .ok (.iload_n 2, 1) := by decide +kernel
theorem d_T_at_21 : decode b_T_at 21 = .ok (.iaload, 1) := by decide +kernel
theorem d_T_at_22 : decode b_T_at 22 = .ok (.putfield 88, 3) := by decide +kernel
theorem d_T_at_25 : decode b_T_at 25 = .ok (.iconst 1, 1) := by decide +kernel
theorem d_T_at_26 : decode b_T_at 26 = .ok (.ireturn, 1) := by decide +kernel
theorem mo_T_at : mok y_T_at b_T_at 4 (some .int) 2 := ⟨List.mem_of_getElem? (i := 427) (by decide +kernel), ⟨by decide +kernel, by decide +kernel, by decide +kernel⟩, List.mem_of_getElem? (i := 74) (by decide +kernel), by decide⟩
set_option maxHeartbeats 4000000 in
theorem c_T_at (l : Launch) (u : Un) (hA : Ap u) (σ : St) (r i : Int32) (hI : rowsOk σ) : MTi l u y_T_at b_T_at 4 .int 3 [.ref (u.2.1 0), .int r, .int i] σ (fun ans σ' => (ans, σ') = tAt σ r i) := by
  refine MT_of hA rfl (by decide) (Nat.le_of_ble_eq_true rfl) (fun X hl F hr => ?_)
  subst hl
  refine v_to (ls' := [(0, .ref (u.2.1 0)), (1, .int r), (2, .int i)]) rfl ?_
  refine v_aload_n F d_T_at_0 rfl 0 rfl ?_
  refine v_iload_n F d_T_at_1 rfl 1 rfl ?_
  refine v_iload_n F d_T_at_2 rfl 2 rfl ?_
  refine v_runi (r_V F (c_T_refusedPlace X.2.1 u hA σ r i) mo_T_refusedPlace st_T_84 rc_0 (by decide) rfl (Nat.le_of_ble_eq_true rfl) d_T_at_3) (fun r1 σ2 q3 => ?_)
  rcases q3 with ⟨a1, rfl, rfl⟩ | ⟨a1, a2, rfl, eσ2⟩ | ⟨a1, a2, a3, rfl, eσ2⟩ | ⟨a1, a2, a3, a4, rfl, rfl⟩
  · skip
    refine v_istore_n (ls' := [(3, .int (-1)), (0, .ref (u.2.1 0)), (1, .int r), (2, .int i)]) F d_T_at_6 rfl (by decide) rfl ?_
    refine v_iload_n F d_T_at_7 rfl 0 rfl ?_
    refine v_if_eq F 13 d_T_at_8 rfl (fun h => absurd h (by decide)) (fun _ => ?_)
    refine v_iload_n F d_T_at_11 rfl 0 rfl ?_
    refine v_iret F hr rfl d_T_at_12 ?_
    first | (simp_all [tAt, inR]; done) | grind [tAt]
  · skip
    refine v_istore_n (ls' := [(3, .int (-3)), (0, .ref (u.2.1 0)), (1, .int r), (2, .int i)]) F d_T_at_6 rfl (by decide) rfl ?_
    refine v_iload_n F d_T_at_7 rfl 0 rfl ?_
    refine v_if_eq F 13 d_T_at_8 rfl (fun h => absurd h (by decide)) (fun _ => ?_)
    refine v_iload_n F d_T_at_11 rfl 0 rfl ?_
    refine v_iret F hr rfl d_T_at_12 ?_
    first | (simp_all [tAt, inR]; done) | grind [tAt]
  · skip
    refine v_istore_n (ls' := [(3, .int (-3)), (0, .ref (u.2.1 0)), (1, .int r), (2, .int i)]) F d_T_at_6 rfl (by decide) rfl ?_
    refine v_iload_n F d_T_at_7 rfl 0 rfl ?_
    refine v_if_eq F 13 d_T_at_8 rfl (fun h => absurd h (by decide)) (fun _ => ?_)
    refine v_iload_n F d_T_at_11 rfl 0 rfl ?_
    refine v_iret F hr rfl d_T_at_12 ?_
    first | (simp_all [tAt, inR]; done) | grind [tAt]
  · skip
    refine v_istore_n (ls' := [(3, .int 0), (0, .ref (u.2.1 0)), (1, .int r), (2, .int i)]) F d_T_at_6 rfl (by decide) rfl ?_
    refine v_iload_n F d_T_at_7 rfl 0 rfl ?_
    refine v_if_eq F 13 d_T_at_8 rfl (fun _ => ?_) (fun h => absurd (by decide) h)
    refine v_aload_n F d_T_at_13 rfl 1 rfl ?_
    refine v_aload_n F d_T_at_14 rfl 1 rfl ?_
    refine v_getr (r := 1) F fk_T_11 G0 rfl d_T_at_15 ?_
    refine v_iload_n F d_T_at_18 rfl 2 rfl ?_
    refine v_aal F (ix r) G1 rfl (ix_eq a1.1) (ix_lt a1.1 a1.2 rfl (by decide)) d_T_at_19 ?_
    refine v_iload_n F d_T_at_20 rfl 3 rfl ?_
    refine v_ial F (ix i) (gam_row _ (ix_lt a1.1 a1.2 rfl (by decide))) (ix_eq a3) (ix_lt a3 (i_lt_of a4 (hI _ (ix_lt a1.1 a1.2 rfl (by decide)))) rfl (by decide)) d_T_at_21 ?_
    refine v_puti F fk_T_88 pk_T_told G0 rfl d_T_at_22 ?_
    refine v_ns (fun σ4 eσ4 => ?_)
    refine v_iconst (v := 1) F d_T_at_25 ki_1 ?_
    refine v_iret F hr rfl d_T_at_26 ?_
    first | (simp_all [tAt, inR]; done) | grind [tAt]
abbrev b_T_tear : ByteArray := prog_1_method_5_code
abbrev y_T_tear : MethodName := ⟨"TakerBook", "tear", "(I)I"⟩
theorem d_T_tear_0 : decode b_T_tear 0 = .ok (.aload_n 0, 1) := by decide +kernel
theorem d_T_tear_1 : decode b_T_tear 1 = .ok (.iload_n 1, 1) := by decide +kernel
theorem d_T_tear_2 : decode b_T_tear 2 = .ok (.invokevirtual 91, 3) := by decide +kernel
theorem d_T_tear_5 : decode b_T_tear 5 = .ok (.istore_n 2, 1) := by decide +kernel
theorem d_T_tear_6 : decode b_T_tear 6 = .ok (.iload_n 2, 1) := by decide +kernel
theorem d_T_tear_7 : decode b_T_tear 7 = .ok (.ifCond .eq 5, 3) := by decide +kernel
theorem d_T_tear_10 : decode b_T_tear 10 = .ok (.iload_n 2, 1) := by decide +kernel
theorem d_T_tear_11 : decode b_T_tear 11 = .ok (.ireturn, 1) := by decide +kernel
theorem d_T_tear_12 : decode b_T_tear 12 = .ok (.aload_n 0, 1) := by decide +kernel
theorem d_T_tear_13 : decode b_T_tear 13 = .ok (.getfield 14, 3) := by decide +kernel
theorem d_T_tear_16 : decode b_T_tear 16 = .ok (.iload_n 1, 1) := by decide +kernel
theorem d_T_tear_17 : decode b_T_tear 17 = .ok (.iconst (-1), 1) := by decide +kernel
theorem d_T_tear_18 : decode b_T_tear 18 = .ok (.iastore, 1) := by decide +kernel
theorem d_T_tear_19 : decode b_T_tear 19 = .ok (.iconst 1, 1) := by decide +kernel
theorem d_T_tear_20 : decode b_T_tear 20 = .ok (.ireturn, 1) := by decide +kernel
theorem mo_T_tear : mok y_T_tear b_T_tear 3 (some .int) 1 := ⟨List.mem_of_getElem? (i := 431) (by decide +kernel), ⟨by decide +kernel, by decide +kernel, by decide +kernel⟩, List.mem_of_getElem? (i := 74) (by decide +kernel), by decide⟩
set_option maxHeartbeats 4000000 in
theorem c_T_tear (l : Launch) (u : Un) (hA : Ap u) (σ : St) (r : Int32) : MTi l u y_T_tear b_T_tear 3 .int 2 [.ref (u.2.1 0), .int r] σ (fun ans σ' => (ans, σ') = tTear σ r) := by
  refine MT_of hA rfl (by decide) (Nat.le_of_ble_eq_true rfl) (fun X hl F hr => ?_)
  subst hl
  refine v_to (ls' := [(0, .ref (u.2.1 0)), (1, .int r)]) rfl ?_
  refine v_aload_n F d_T_tear_0 rfl 0 rfl ?_
  refine v_iload_n F d_T_tear_1 rfl 1 rfl ?_
  refine v_runi (r_V F (c_T_refusedRow X.2.1 u hA σ r) mo_T_refusedRow st_T_91 rc_0 (by decide) rfl (Nat.le_of_ble_eq_true rfl) d_T_tear_2) (fun r1 σ2 q3 => ?_)
  rcases q3 with ⟨a1, rfl, rfl⟩ | ⟨a1, a2, rfl, eσ2⟩ | ⟨a1, a2, rfl, rfl⟩
  · skip
    refine v_istore_n (ls' := [(2, .int (-1)), (0, .ref (u.2.1 0)), (1, .int r)]) F d_T_tear_5 rfl (by decide) rfl ?_
    refine v_iload_n F d_T_tear_6 rfl 0 rfl ?_
    refine v_if_eq F 12 d_T_tear_7 rfl (fun h => absurd h (by decide)) (fun _ => ?_)
    refine v_iload_n F d_T_tear_10 rfl 0 rfl ?_
    refine v_iret F hr rfl d_T_tear_11 ?_
    first | (simp_all [tTear, inR]; done) | grind [tTear]
  · skip
    refine v_istore_n (ls' := [(2, .int (-3)), (0, .ref (u.2.1 0)), (1, .int r)]) F d_T_tear_5 rfl (by decide) rfl ?_
    refine v_iload_n F d_T_tear_6 rfl 0 rfl ?_
    refine v_if_eq F 12 d_T_tear_7 rfl (fun h => absurd h (by decide)) (fun _ => ?_)
    refine v_iload_n F d_T_tear_10 rfl 0 rfl ?_
    refine v_iret F hr rfl d_T_tear_11 ?_
    first | (simp_all [tTear, inR]; done) | grind [tTear]
  · skip
    refine v_istore_n (ls' := [(2, .int 0), (0, .ref (u.2.1 0)), (1, .int r)]) F d_T_tear_5 rfl (by decide) rfl ?_
    refine v_iload_n F d_T_tear_6 rfl 0 rfl ?_
    refine v_if_eq F 12 d_T_tear_7 rfl (fun _ => ?_) (fun h => absurd (by decide) h)
    refine v_aload_n F d_T_tear_12 rfl 1 rfl ?_
    refine v_getr (r := 8) F fk_T_14 G0 rfl d_T_tear_13 ?_
    refine v_iload_n F d_T_tear_16 rfl 2 rfl ?_
    refine v_iconst (v := (-1)) F d_T_tear_17 ki_m1 ?_
    refine v_ias F (ix r) G8 (ix_eq a1.1) (ix_lt a1.1 a1.2 rfl (by decide)) d_T_tear_18 ?_
    refine v_ns (fun σ4 eσ4 => ?_)
    refine v_iconst (v := 1) F d_T_tear_19 ki_1 ?_
    refine v_iret F hr rfl d_T_tear_20 ?_
    first | (simp_all [tTear, inR]; done) | grind [tTear]
abbrev b_T_put : ByteArray := prog_1_method_9_code
abbrev y_T_put : MethodName := ⟨"TakerBook", "put", "(III)I"⟩
theorem d_T_put_0 : decode b_T_put 0 = .ok (.aload_n 0, 1) := by decide +kernel
theorem d_T_put_1 : decode b_T_put 1 = .ok (.iload_n 1, 1) := by decide +kernel
theorem d_T_put_2 : decode b_T_put 2 = .ok (.invokevirtual 107, 3) := by decide +kernel
theorem d_T_put_5 : decode b_T_put 5 = .ok (.istore 4, 2) := by decide +kernel
theorem d_T_put_7 : decode b_T_put 7 = .ok (.iload 4, 2) := by decide +kernel
theorem d_T_put_9 : decode b_T_put 9 = .ok (.ifCond .eq 6, 3) := by decide +kernel
theorem d_T_put_12 : decode b_T_put 12 = .ok (.iload 4, 2) := by decide +kernel
theorem d_T_put_14 : decode b_T_put 14 = .ok (.ireturn, 1) := by decide +kernel
theorem d_T_put_15 : decode b_T_put 15 = .ok (.iload_n 2, 1) := by decide +kernel
theorem d_T_put_16 : decode b_T_put 16 = .ok (.ifCond .lt 13, 3) := by decide +kernel
theorem d_T_put_19 : decode b_T_put 19 = .ok (.iload_n 2, 1) := by decide +kernel
theorem d_T_put_20 : decode b_T_put 20 = .ok (.aload_n 0, 1) := by decide +kernel
theorem d_T_put_21 : decode b_T_put 21 = .ok (.getfield 23, 3) := by decide +kernel
theorem d_T_put_24 : decode b_T_put 24 = .ok (.iload_n 1, 1) := by decide +kernel
theorem d_T_put_25 : decode b_T_put 25 = .ok (.iaload, 1) := by decide +kernel
theorem d_T_put_26 : decode b_T_put 26 = .ok (.if_icmp .lt 9, 3) := by decide +kernel
theorem d_T_put_29 : decode b_T_put 29 = .ok (.aload_n 0, 1) := by decide +kernel
theorem d_T_put_30 : decode b_T_put 30 = .ok (.iconst 2, 1) := by decide +kernel
theorem d_T_put_31 : decode b_T_put 31 = .ok (.invokevirtual 80, 3) := by decide +kernel
theorem d_T_put_34 : decode b_T_put 34 = .ok (.ireturn, 1) := by decide +kernel
theorem d_T_put_35 : decode b_T_put 35 = .ok (.aload_n 0, 1) := by decide +kernel
theorem d_T_put_36 : decode b_T_put 36 = .ok (.getfield 20, 3) := by decide +kernel
theorem d_T_put_39 : decode b_T_put 39 = .ok (.iload_n 1, 1) := by decide +kernel
theorem d_T_put_40 : decode b_T_put 40 = .ok (.aaload, 1) := by decide +kernel
theorem d_T_put_41 : decode b_T_put 41 = .ok (.iload_n 2, 1) := by decide +kernel
theorem d_T_put_42 : decode b_T_put 42 = .ok (.baload, 1) := by decide +kernel
theorem d_T_put_43 : decode b_T_put 43 = .ok (.istore 5, 2) := by decide +kernel
theorem d_T_put_45 : decode b_T_put 45 = .ok (.aload_n 0, 1) := by decide +kernel
theorem d_T_put_46 : decode b_T_put 46 = .ok (.getfield 20, 3) := by decide +kernel
theorem d_T_put_49 : decode b_T_put 49 = .ok (.iload_n 1, 1) := by decide +kernel
theorem d_T_put_50 : decode b_T_put 50 = .ok (.aaload, 1) := by decide +kernel
theorem d_T_put_51 : decode b_T_put 51 = .ok (.iload_n 2, 1) := by decide +kernel
theorem d_T_put_52 : decode b_T_put 52 = .ok (.iload_n 3, 1) := by decide +kernel
theorem d_T_put_53 : decode b_T_put 53 = .ok (.i2b, 1) := by decide +kernel
theorem d_T_put_54 : decode b_T_put 54 = .ok (.bastore, 1) := by decide +kernel
theorem d_T_put_55 : decode b_T_put 55 = .ok (.iload 5, 2) := by decide +kernel
theorem d_T_put_57 : decode b_T_put 57 = .ok (.sipush 1000, 3) := by decide +kernel
theorem d_T_put_60 : decode b_T_put 60 = .ok (.iadd, 1) := by decide +kernel
theorem d_T_put_61 : decode b_T_put 61 = .ok (.ireturn, 1) := by decide +kernel
theorem mo_T_put : mok y_T_put b_T_put 6 (some .int) 3 := ⟨List.mem_of_getElem? (i := 456) (by decide +kernel), ⟨by decide +kernel, by decide +kernel, by decide +kernel⟩, List.mem_of_getElem? (i := 74) (by decide +kernel), by decide⟩
set_option maxHeartbeats 4000000 in
theorem c_T_put (l : Launch) (u : Un) (hA : Ap u) (σ : St) (t i v : Int32) (hI : textsOk σ) : MTi l u y_T_put b_T_put 6 .int 2 [.ref (u.2.1 0), .int t, .int i, .int v] σ (fun ans σ' => (ans, σ') = tPut σ t i v) := by
  refine MT_of hA rfl (by decide) (Nat.le_of_ble_eq_true rfl) (fun X hl F hr => ?_)
  subst hl
  refine v_to (ls' := [(0, .ref (u.2.1 0)), (1, .int t), (2, .int i), (3, .int v)]) rfl ?_
  refine v_aload_n F d_T_put_0 rfl 0 rfl ?_
  refine v_iload_n F d_T_put_1 rfl 1 rfl ?_
  refine v_runi (r_V F (c_T_refusedText X.2.1 u hA σ t) mo_T_refusedText st_T_107 rc_0 (by decide) rfl (Nat.le_of_ble_eq_true rfl) d_T_put_2) (fun r1 σ2 q3 => ?_)
  rcases q3 with ⟨a1, rfl, rfl⟩ | ⟨a1, a2, rfl, eσ2⟩ | ⟨a1, a2, rfl, rfl⟩
  · skip
    refine v_istore (ls' := [(4, .int (-1)), (0, .ref (u.2.1 0)), (1, .int t), (2, .int i), (3, .int v)]) F d_T_put_5 (by decide) rfl ?_
    refine v_iload F d_T_put_7 0 rfl ?_
    refine v_if_eq F 15 d_T_put_9 rfl (fun h => absurd h (by decide)) (fun _ => ?_)
    refine v_iload F d_T_put_12 0 rfl ?_
    refine v_iret F hr rfl d_T_put_14 ?_
    first | (simp_all [tPut, inR]; done) | grind [tPut]
  · skip
    refine v_istore (ls' := [(4, .int (-3)), (0, .ref (u.2.1 0)), (1, .int t), (2, .int i), (3, .int v)]) F d_T_put_5 (by decide) rfl ?_
    refine v_iload F d_T_put_7 0 rfl ?_
    refine v_if_eq F 15 d_T_put_9 rfl (fun h => absurd h (by decide)) (fun _ => ?_)
    refine v_iload F d_T_put_12 0 rfl ?_
    refine v_iret F hr rfl d_T_put_14 ?_
    first | (simp_all [tPut, inR]; done) | grind [tPut]
  · skip
    refine v_istore (ls' := [(4, .int 0), (0, .ref (u.2.1 0)), (1, .int t), (2, .int i), (3, .int v)]) F d_T_put_5 (by decide) rfl ?_
    refine v_iload F d_T_put_7 0 rfl ?_
    refine v_if_eq F 15 d_T_put_9 rfl (fun _ => ?_) (fun h => absurd (by decide) h)
    refine v_iload_n F d_T_put_15 rfl 3 rfl ?_
    refine v_if_lt F 29 d_T_put_16 rfl (fun h16 => ?_) (fun h16 => ?_)
    · skip
      refine v_aload_n F d_T_put_29 rfl 1 rfl ?_
      refine v_iconst (v := 2) F d_T_put_30 ki_2 ?_
      refine v_runi (r_V F (c_T_refuse X.2.1 u hA σ 2 (by decide)) mo_T_refuse st_T_80 rc_0 (by decide) rfl (Nat.le_of_ble_eq_true rfl) d_T_put_31) (fun r4 σ5 q6 => ?_)
      obtain ⟨rfl, eσ5⟩ := q6
      refine v_iret F hr rfl d_T_put_34 ?_
      first | (simp_all [tPut, inR]; done) | grind [tPut]
    · skip
      refine v_iload_n F d_T_put_19 rfl 3 rfl ?_
      refine v_aload_n F d_T_put_20 rfl 1 rfl ?_
      refine v_getr (r := 14) F fk_T_23 G0 rfl d_T_put_21 ?_
      refine v_iload_n F d_T_put_24 rfl 2 rfl ?_
      refine v_ial F (ix t) G14 (ix_eq a1.1) (ix_lt a1.1 a1.2 rfl (by decide)) d_T_put_25 ?_
      refine v_icmp_lt F 35 d_T_put_26 rfl (fun h26 => ?_) (fun h26 => ?_)
      · skip
        refine v_aload_n F d_T_put_35 rfl 1 rfl ?_
        refine v_getr (r := 9) F fk_T_20 G0 rfl d_T_put_36 ?_
        refine v_iload_n F d_T_put_39 rfl 2 rfl ?_
        refine v_aal F (ix t) G9 rfl (ix_eq a1.1) (ix_lt a1.1 a1.2 rfl (by decide)) d_T_put_40 ?_
        refine v_iload_n F d_T_put_41 rfl 3 rfl ?_
        refine v_bal F (ix i) (gam_text _ (ix_lt a1.1 a1.2 rfl (by decide))) (ix_eq (i_nlt.mp h16)) (ix_lt (i_nlt.mp h16) (i_lt_of h26 (hI _ (ix_lt a1.1 a1.2 rfl (by decide)))) rfl (by decide)) d_T_put_42 ?_
        refine v_ni (fun x7 ex7 => ?_)
        refine v_istore (ls' := [(5, .int x7), (4, .int 0), (0, .ref (u.2.1 0)), (1, .int t), (2, .int i), (3, .int v)]) F d_T_put_43 (by decide) rfl ?_
        refine v_aload_n F d_T_put_45 rfl 2 rfl ?_
        refine v_getr (r := 9) F fk_T_20 G0 rfl d_T_put_46 ?_
        refine v_iload_n F d_T_put_49 rfl 3 rfl ?_
        refine v_aal F (ix t) G9 rfl (ix_eq a1.1) (ix_lt a1.1 a1.2 rfl (by decide)) d_T_put_50 ?_
        refine v_iload_n F d_T_put_51 rfl 4 rfl ?_
        refine v_iload_n F d_T_put_52 rfl 5 rfl ?_
        refine v_i2b F d_T_put_53 ?_
        refine v_bas F (ix i) (gam_text _ (ix_lt a1.1 a1.2 rfl (by decide))) (ix_eq (i_nlt.mp h16)) (ix_lt (i_nlt.mp h16) (i_lt_of h26 (hI _ (ix_lt a1.1 a1.2 rfl (by decide)))) rfl (by decide)) d_T_put_54 ?_
        refine v_ns (fun σ8 eσ8 => ?_)
        refine v_iload F d_T_put_55 0 rfl ?_
        refine v_sipush (v := 1000) F d_T_put_57 ks_1000 ?_
        refine v_iadd F d_T_put_60 ?_
        refine v_iret F hr rfl d_T_put_61 ?_
        first | (simp_all [tPut, inR]; done) | grind [tPut]
      · skip
        refine v_aload_n F d_T_put_29 rfl 1 rfl ?_
        refine v_iconst (v := 2) F d_T_put_30 ki_2 ?_
        refine v_runi (r_V F (c_T_refuse X.2.1 u hA σ 2 (by decide)) mo_T_refuse st_T_80 rc_0 (by decide) rfl (Nat.le_of_ble_eq_true rfl) d_T_put_31) (fun r9 σ10 q11 => ?_)
        obtain ⟨rfl, eσ10⟩ := q11
        refine v_iret F hr rfl d_T_put_34 ?_
        first | (simp_all [tPut, inR]; done) | grind [tPut]
abbrev b_T_mean : ByteArray := prog_1_method_7_code
abbrev y_T_mean : MethodName := ⟨"TakerBook", "mean", "(I)I"⟩
theorem d_T_mean_0 : decode b_T_mean 0 = .ok (.aload_n 0, 1) := by decide +kernel
theorem d_T_mean_1 : decode b_T_mean 1 = .ok (.iload_n 1, 1) := by decide +kernel
theorem d_T_mean_2 : decode b_T_mean 2 = .ok (.invokevirtual 91, 3) := by decide +kernel
theorem d_T_mean_5 : decode b_T_mean 5 = .ok (.istore_n 2, 1) := by decide +kernel
theorem d_T_mean_6 : decode b_T_mean 6 = .ok (.iload_n 2, 1) := by decide +kernel
theorem d_T_mean_7 : decode b_T_mean 7 = .ok (.ifCond .eq 5, 3) := by decide +kernel
theorem d_T_mean_10 : decode b_T_mean 10 = .ok (.iload_n 2, 1) := by decide +kernel
theorem d_T_mean_11 : decode b_T_mean 11 = .ok (.ireturn, 1) := by decide +kernel
theorem d_T_mean_12 : decode b_T_mean 12 = .ok (.aload_n 0, 1) := by decide +kernel
theorem d_T_mean_13 : decode b_T_mean 13 = .ok (.getfield 14, 3) := by decide +kernel
theorem d_T_mean_16 : decode b_T_mean 16 = .ok (.iload_n 1, 1) := by decide +kernel
theorem d_T_mean_17 : decode b_T_mean 17 = .ok (.iaload, 1) := by decide +kernel
theorem d_T_mean_18 : decode b_T_mean 18 = .ok (.istore_n 3, 1) := by decide +kernel
theorem d_T_mean_19 : decode b_T_mean 19 = .ok (.iload_n 3, 1) := by decide +kernel
theorem d_T_mean_20 : decode b_T_mean 20 = .ok (.ifCond .ne 9, 3) := by decide +kernel
theorem d_T_mean_23 : decode b_T_mean 23 = .ok (.aload_n 0, 1) := by decide +kernel
theorem d_T_mean_24 : decode b_T_mean 24 = .ok (.iconst 4, 1) := by decide +kernel
theorem d_T_mean_25 : decode b_T_mean 25 = .ok (.invokevirtual 80, 3) := by decide +kernel
theorem d_T_mean_28 : decode b_T_mean 28 = .ok (.ireturn, 1) := by decide +kernel
theorem d_T_mean_29 : decode b_T_mean 29 = .ok (.lconst 0, 1) := by decide +kernel
theorem d_T_mean_30 : decode b_T_mean 30 = .ok (.lstore 4, 2) := by decide +kernel
theorem d_T_mean_32 : decode b_T_mean 32 = .ok (.iconst 0, 1) := by decide +kernel
theorem d_T_mean_33 : decode b_T_mean 33 = .ok (.istore 6, 2) := by decide +kernel
theorem d_T_mean_35 : decode b_T_mean 35 = .ok (.iload 6, 2) := by decide +kernel
theorem d_T_mean_37 : decode b_T_mean 37 = .ok (.iload_n 3, 1) := by decide +kernel
theorem d_T_mean_38 : decode b_T_mean 38 = .ok (.if_icmp .ge 24, 3) := by decide +kernel
theorem d_T_mean_41 : decode b_T_mean 41 = .ok (.lload 4, 2) := by decide +kernel
theorem d_T_mean_43 : decode b_T_mean 43 = .ok (.aload_n 0, 1) := by decide +kernel
theorem d_T_mean_44 : decode b_T_mean 44 = .ok (.getfield 11, 3) := by decide +kernel
theorem d_T_mean_47 : decode b_T_mean 47 = .ok (.iload_n 1, 1) := by decide +kernel
theorem d_T_mean_48 : decode b_T_mean 48 = .ok (.aaload, 1) := by decide +kernel
theorem d_T_mean_49 : decode b_T_mean 49 = .ok (.iload 6, 2) := by decide +kernel
theorem d_T_mean_51 : decode b_T_mean 51 = .ok (.iaload, 1) := by decide +kernel
theorem d_T_mean_52 : decode b_T_mean 52 = .ok (.i2l, 1) := by decide +kernel
theorem d_T_mean_53 : decode b_T_mean 53 = .ok (.ladd, 1) := by decide +kernel
theorem d_T_mean_54 : decode b_T_mean 54 = .ok (.lstore 4, 2) := by decide +kernel
theorem d_T_mean_56 : decode b_T_mean 56 = .ok (.iinc 6 1, 3) := by decide +kernel
theorem d_T_mean_59 : decode b_T_mean 59 = .ok (.goto (-24), 3) := by decide +kernel
theorem d_T_mean_62 : decode b_T_mean 62 = .ok (.aload_n 0, 1) := by decide +kernel
theorem d_T_mean_63 : decode b_T_mean 63 = .ok (.lload 4, 2) := by decide +kernel
theorem d_T_mean_65 : decode b_T_mean 65 = .ok (.iload_n 3, 1) := by decide +kernel
theorem d_T_mean_66 : decode b_T_mean 66 = .ok (.i2l, 1) := by decide +kernel
theorem d_T_mean_67 : decode b_T_mean 67 = .ok (.ldiv, 1) := by decide +kernel
theorem d_T_mean_68 : decode b_T_mean 68 = .ok (.l2i, 1) := by decide +kernel
theorem d_T_mean_69 : decode b_T_mean 69 = .ok (.putfield 88, 3) := by decide +kernel
theorem d_T_mean_72 : decode b_T_mean 72 = .ok (.iconst 1, 1) := by decide +kernel
theorem d_T_mean_73 : decode b_T_mean 73 = .ok (.ireturn, 1) := by decide +kernel
theorem mo_T_mean : mok y_T_mean b_T_mean 7 (some .int) 1 := ⟨List.mem_of_getElem? (i := 445) (by decide +kernel), ⟨by decide +kernel, by decide +kernel, by decide +kernel⟩, List.mem_of_getElem? (i := 74) (by decide +kernel), by decide⟩
set_option maxHeartbeats 4000000 in
theorem L_T_mean_35 {X : FX} {u : Un} (hA : Ap u) {Q : State → Prop} (F : Fr X u "TakerBook" b_T_mean 7) {σ : St} {r : Int32} {N : Nat} (hr1 : inR r 6) (hN : N ≤ 40) (k : V X u 2 7 Q 62 [(0, .ref (u.2.1 0)), (1, .int r), (3, .int (nI N)), (4, .long (sumL (σ.1 (2 + ix r)) N)), (6, .int (nI N))] [] (σ)) : ∀ (nn i : Nat), i ≤ N → N - i < nn → V X u 2 7 Q 35 [(0, .ref (u.2.1 0)), (1, .int r), (3, .int (nI N)), (4, .long (sumL (σ.1 (2 + ix r)) i)), (6, .int (nI i))] [] (σ) := by
  intro nn
  induction nn with
  | zero =>
    intro i h1 h2
    exact absurd h2 (Nat.not_lt_zero _)
  | succ nn ih =>
    intro i hii hnn
    refine v_iload F d_T_mean_35 4 rfl ?_
    refine v_iload_n F d_T_mean_37 rfl 2 rfl ?_
    refine v_icmp_ge F 62 d_T_mean_38 rfl (fun h38 => ?_) (fun h38 => ?_)
    · skip
      have h38 : N ≤ i := (nI_leI (a := N) (b := i) (by omega) (by omega)).mp h38
      have he : i = N := by omega
      subst he
      exact k
    · skip
      have h38 : ¬ N ≤ i := fun q => h38 ((nI_leI (a := N) (b := i) (by omega) (by omega)).mpr q)
      refine v_lload F d_T_mean_41 3 rfl ?_
      refine v_aload_n F d_T_mean_43 rfl 0 rfl ?_
      refine v_getr (r := 1) F fk_T_11 G0 rfl d_T_mean_44 ?_
      refine v_iload_n F d_T_mean_47 rfl 1 rfl ?_
      refine v_aal F (ix r) G1 rfl (ix_eq hr1.1) (ix_lt hr1.1 hr1.2 rfl (by decide)) d_T_mean_48 ?_
      refine v_iload F d_T_mean_49 4 rfl ?_
      refine v_ial F i (gam_row _ (ix_lt hr1.1 hr1.2 rfl (by decide))) rfl (by omega) d_T_mean_51 ?_
      refine v_i2l F d_T_mean_52 ?_
      refine v_ladd F d_T_mean_53 ?_
      refine v_nl (fun x1 ex1 => ?_)
      refine v_lstore (ls' := [(4, .long x1), (0, .ref (u.2.1 0)), (1, .int r), (3, .int (nI N)), (6, .int (nI i))]) F d_T_mean_54 (by decide) rfl ?_
      refine v_iinc (v := nI (i + 1)) (ls' := [(6, .int (nI (i + 1))), (4, .long x1), (0, .ref (u.2.1 0)), (1, .int r), (3, .int (nI N))]) F d_T_mean_56 (j := 4) rfl (nI_inc _) (by decide) rfl ?_
      refine v_goto F 35 d_T_mean_59 rfl ?_
      refine v_sub [2, 3, 4, 1, 0] (ls' := [(0, .ref (u.2.1 0)), (1, .int r), (3, .int (nI N)), (4, .long x1), (6, .int (nI (i + 1)))]) rfl ?_
      have g2 : x1 = (sumL (σ.1 (2 + ix r)) (i + 1)) := (by first | rfl | (simp [sumL, *]; done) | (simp_all [sumL]; done) | grind [sumL])
      refine v_to (ls' := [(0, .ref (u.2.1 0)), (1, .int r), (3, .int (nI N)), (4, .long (sumL (σ.1 (2 + ix r)) (i + 1))), (6, .int (nI (i + 1)))]) (by first | rfl | rw [g2] | simp_all) ?_
      exact ih (i + 1) (by omega) (by omega)
set_option maxHeartbeats 4000000 in
theorem c_T_mean (l : Launch) (u : Un) (hA : Ap u) (σ : St) (r : Int32) (hI : rowsOk σ) : MTi l u y_T_mean b_T_mean 7 .int 2 [.ref (u.2.1 0), .int r] σ (fun ans σ' => (ans, σ') = tMean σ r) := by
  refine MT_of hA rfl (by decide) (Nat.le_of_ble_eq_true rfl) (fun X hl F hr => ?_)
  subst hl
  refine v_to (ls' := [(0, .ref (u.2.1 0)), (1, .int r)]) rfl ?_
  refine v_aload_n F d_T_mean_0 rfl 0 rfl ?_
  refine v_iload_n F d_T_mean_1 rfl 1 rfl ?_
  refine v_runi (r_V F (c_T_refusedRow X.2.1 u hA σ r) mo_T_refusedRow st_T_91 rc_0 (by decide) rfl (Nat.le_of_ble_eq_true rfl) d_T_mean_2) (fun r1 σ2 q3 => ?_)
  rcases q3 with ⟨a1, rfl, rfl⟩ | ⟨a1, a2, rfl, eσ2⟩ | ⟨a1, a2, rfl, rfl⟩
  · skip
    refine v_istore_n (ls' := [(2, .int (-1)), (0, .ref (u.2.1 0)), (1, .int r)]) F d_T_mean_5 rfl (by decide) rfl ?_
    refine v_iload_n F d_T_mean_6 rfl 0 rfl ?_
    refine v_if_eq F 12 d_T_mean_7 rfl (fun h => absurd h (by decide)) (fun _ => ?_)
    refine v_iload_n F d_T_mean_10 rfl 0 rfl ?_
    refine v_iret F hr rfl d_T_mean_11 ?_
    first | (simp_all [tMean, inR]; done) | grind [tMean]
  · skip
    refine v_istore_n (ls' := [(2, .int (-3)), (0, .ref (u.2.1 0)), (1, .int r)]) F d_T_mean_5 rfl (by decide) rfl ?_
    refine v_iload_n F d_T_mean_6 rfl 0 rfl ?_
    refine v_if_eq F 12 d_T_mean_7 rfl (fun h => absurd h (by decide)) (fun _ => ?_)
    refine v_iload_n F d_T_mean_10 rfl 0 rfl ?_
    refine v_iret F hr rfl d_T_mean_11 ?_
    first | (simp_all [tMean, inR]; done) | grind [tMean]
  · skip
    refine v_istore_n (ls' := [(2, .int 0), (0, .ref (u.2.1 0)), (1, .int r)]) F d_T_mean_5 rfl (by decide) rfl ?_
    refine v_iload_n F d_T_mean_6 rfl 0 rfl ?_
    refine v_if_eq F 12 d_T_mean_7 rfl (fun _ => ?_) (fun h => absurd (by decide) h)
    obtain ⟨N, hN, xN, eN⟩ := nat_of (M := 40) a2 (hI _ (ix_lt a1.1 a1.2 rfl (by decide))) rfl (by decide)
    refine v_aload_n F d_T_mean_12 rfl 1 rfl ?_
    refine v_getr (r := 8) F fk_T_14 G0 rfl d_T_mean_13 ?_
    refine v_iload_n F d_T_mean_16 rfl 2 rfl ?_
    refine v_ial F (ix r) G8 (ix_eq a1.1) (ix_lt a1.1 a1.2 rfl (by decide)) d_T_mean_17 ?_
    refine v_te (y := nI N) eN ?_
    refine v_istore_n (ls' := [(3, .int (nI N)), (2, .int 0), (0, .ref (u.2.1 0)), (1, .int r)]) F d_T_mean_18 rfl (by decide) rfl ?_
    refine v_iload_n F d_T_mean_19 rfl 0 rfl ?_
    refine v_if_ne F 29 d_T_mean_20 rfl (fun h20 => ?_) (fun h20 => ?_)
    · skip
      refine v_lconst (v := 0) F d_T_mean_29 rfl ?_
      refine v_lstore (ls' := [(4, .long 0), (3, .int (nI N)), (2, .int 0), (0, .ref (u.2.1 0)), (1, .int r)]) F d_T_mean_30 (by decide) rfl ?_
      refine v_iconst (v := 0) F d_T_mean_32 ki_0 ?_
      refine v_istore (ls' := [(6, .int 0), (4, .long 0), (3, .int (nI N)), (2, .int 0), (0, .ref (u.2.1 0)), (1, .int r)]) F d_T_mean_33 (by decide) rfl ?_
      refine v_sub [4, 5, 2, 1, 0] (ls' := [(0, .ref (u.2.1 0)), (1, .int r), (3, .int (nI N)), (4, .long 0), (6, .int 0)]) rfl ?_
      have g4 : 0 = (sumL (σ.1 (2 + ix r)) 0) := (by first | rfl | (simp [sumL, *]; done) | (simp_all [sumL]; done) | grind [sumL])
      have g5 : 0 = (nI 0) := (by first | rfl | (simp [sumL, *]; done) | (simp_all [sumL]; done) | grind [sumL])
      refine v_to (ls' := [(0, .ref (u.2.1 0)), (1, .int r), (3, .int (nI N)), (4, .long (sumL (σ.1 (2 + ix r)) 0)), (6, .int (nI 0))]) (by first | rfl | rw [g4, g5] | simp_all) ?_
      refine L_T_mean_35 hA F a1 (by omega) ?_ _ 0 (Nat.zero_le _) (Nat.lt_succ_self _)
      refine v_aload_n F d_T_mean_62 rfl 0 rfl ?_
      refine v_lload F d_T_mean_63 3 rfl ?_
      refine v_iload_n F d_T_mean_65 rfl 2 rfl ?_
      refine v_i2l F d_T_mean_66 ?_
      refine v_ldiv F d_T_mean_67 (l_ne0 h20) ?_
      refine v_l2i F d_T_mean_68 ?_
      refine v_puti F fk_T_88 pk_T_told G0 rfl d_T_mean_69 ?_
      refine v_ns (fun σ6 eσ6 => ?_)
      refine v_iconst (v := 1) F d_T_mean_72 ki_1 ?_
      refine v_iret F hr rfl d_T_mean_73 ?_
      first | (simp_all [tMean, inR]; done) | grind [tMean]
    · skip
      refine v_aload_n F d_T_mean_23 rfl 2 rfl ?_
      refine v_iconst (v := 4) F d_T_mean_24 ki_4 ?_
      refine v_runi (r_V F (c_T_refuse X.2.1 u hA σ 4 (by decide)) mo_T_refuse st_T_80 rc_0 (by decide) rfl (Nat.le_of_ble_eq_true rfl) d_T_mean_25) (fun r7 σ8 q9 => ?_)
      obtain ⟨rfl, eσ8⟩ := q9
      refine v_iret F hr rfl d_T_mean_28 ?_
      first | (simp_all [tMean, inR]; done) | grind [tMean]
abbrev b_T_row : ByteArray := prog_1_method_2_code
abbrev y_T_row : MethodName := ⟨"TakerBook", "row", "(II)I"⟩
theorem d_T_row_0 : decode b_T_row 0 = .ok (.iload_n 1, 1) := by decide +kernel
theorem d_T_row_1 : decode b_T_row 1 = .ok (.invokestatic 76, 3) := by decide +kernel
theorem d_T_row_4 : decode b_T_row 4 = .ok (.ifCond .eq 9, 3) := by decide +kernel
theorem d_T_row_7 : decode b_T_row 7 = .ok (.iload_n 2, 1) := by decide +kernel
theorem d_T_row_8 : decode b_T_row 8 = .ok (.bipush 40, 2) := by decide +kernel
theorem d_T_row_10 : decode b_T_row 10 = .ok (.if_icmp .le 5, 3) := by decide +kernel
theorem d_T_row_13 : decode b_T_row 13 = .ok (.iconst (-1), 1) := by decide +kernel
theorem d_T_row_14 : decode b_T_row 14 = .ok (.ireturn, 1) := by decide +kernel
theorem d_T_row_15 : decode b_T_row 15 = .ok (.iload_n 2, 1) := by decide +kernel
theorem d_T_row_16 : decode b_T_row 16 = .ok (.ifCond .ge 9, 3) := by decide +kernel
theorem d_T_row_19 : decode b_T_row 19 = .ok (.aload_n 0, 1) := by decide +kernel
theorem d_T_row_20 : decode b_T_row 20 = .ok (.iconst 5, 1) := by decide +kernel
theorem d_T_row_21 : decode b_T_row 21 = .ok (.invokevirtual 80, 3) := by decide +kernel
theorem d_T_row_24 : decode b_T_row 24 = .ok (.ireturn, 1) := by decide +kernel
theorem d_T_row_25 : decode b_T_row 25 = .ok (.aload_n 0, 1) := by decide +kernel
theorem d_T_row_26 : decode b_T_row 26 = .ok (.getfield 14, 3) := by decide +kernel
theorem d_T_row_29 : decode b_T_row 29 = .ok (.iload_n 1, 1) := by decide +kernel
theorem d_T_row_30 : decode b_T_row 30 = .ok (.iload_n 2, 1) := by decide +kernel
theorem d_T_row_31 : decode b_T_row 31 = .ok (.iastore, 1) := by decide +kernel
theorem d_T_row_32 : decode b_T_row 32 = .ok (.iconst 0, 1) := by decide +kernel
theorem d_T_row_33 : decode b_T_row 33 = .ok (.istore_n 3, 1) := by decide +kernel
theorem d_T_row_34 : decode b_T_row 34 = .ok (.iload_n 3, 1) := by decide +kernel
theorem d_T_row_35 : decode b_T_row 35 = .ok (.iload_n 2, 1) := by decide +kernel
theorem d_T_row_36 : decode b_T_row 36 = .ok (.if_icmp .ge 18, 3) := by decide +kernel
theorem d_T_row_39 : decode b_T_row 39 = .ok (.aload_n 0, 1) := by decide +kernel
theorem d_T_row_40 : decode b_T_row 40 = .ok (.getfield 11, 3) := by decide +kernel
theorem d_T_row_43 : decode b_T_row 43 = .ok (.iload_n 1, 1) := by decide +kernel
theorem d_T_row_44 : decode b_T_row 44 = .ok (.aaload, 1) := by decide +kernel
theorem d_T_row_45 : decode b_T_row 45 = .ok (.iload_n 3, 1) := by decide +kernel
theorem d_T_row_46 : decode b_T_row 46 = .ok (.iconst 0, 1) := by decide +kernel
theorem d_T_row_47 : decode b_T_row 47 = .ok (.iastore, 1) := by decide +kernel
theorem d_T_row_48 : decode b_T_row 48 = .ok (.iinc 3 1, 3) := by decide +kernel
theorem d_T_row_51 : decode b_T_row 51 = .ok (.goto (-17), 3) := by decide +kernel
theorem d_T_row_54 : decode b_T_row 54 = .ok (.iload_n 2, 1) := by decide +kernel
theorem d_T_row_55 : decode b_T_row 55 = .ok (.ireturn, 1) := by decide +kernel
theorem mo_T_row : mok y_T_row b_T_row 4 (some .int) 2 := ⟨List.mem_of_getElem? (i := 404) (by decide +kernel), ⟨by decide +kernel, by decide +kernel, by decide +kernel⟩, List.mem_of_getElem? (i := 74) (by decide +kernel), by decide⟩
set_option maxHeartbeats 4000000 in
theorem L_T_row_34 {X : FX} {u : Un} (hA : Ap u) {Q : State → Prop} (F : Fr X u "TakerBook" b_T_row 4) {σ : St} {r : Int32} {N : Nat} (hr1 : inR r 6) (hN : N ≤ 40) (k : V X u 1 4 Q 54 [(0, .ref (u.2.1 0)), (1, .int r), (2, .int (nI N)), (3, .int (nI N))] [] ((fl (uI σ 8 (ix r) (nI N)) (2 + ix r) 0 0 N))) : ∀ (nn i : Nat), i ≤ N → N - i < nn → V X u 1 4 Q 34 [(0, .ref (u.2.1 0)), (1, .int r), (2, .int (nI N)), (3, .int (nI i))] [] ((fl (uI σ 8 (ix r) (nI N)) (2 + ix r) 0 0 i)) := by
  intro nn
  induction nn with
  | zero =>
    intro i h1 h2
    exact absurd h2 (Nat.not_lt_zero _)
  | succ nn ih =>
    intro i hii hnn
    refine v_iload_n F d_T_row_34 rfl 3 rfl ?_
    refine v_iload_n F d_T_row_35 rfl 2 rfl ?_
    refine v_icmp_ge F 54 d_T_row_36 rfl (fun h36 => ?_) (fun h36 => ?_)
    · skip
      have h36 : N ≤ i := (nI_leI (a := N) (b := i) (by omega) (by omega)).mp h36
      have he : i = N := by omega
      subst he
      exact k
    · skip
      have h36 : ¬ N ≤ i := fun q => h36 ((nI_leI (a := N) (b := i) (by omega) (by omega)).mpr q)
      refine v_aload_n F d_T_row_39 rfl 0 rfl ?_
      refine v_getr (r := 1) F fk_T_11 G0 rfl d_T_row_40 ?_
      refine v_iload_n F d_T_row_43 rfl 1 rfl ?_
      refine v_aal F (ix r) G1 rfl (ix_eq hr1.1) (ix_lt hr1.1 hr1.2 rfl (by decide)) d_T_row_44 ?_
      refine v_iload_n F d_T_row_45 rfl 3 rfl ?_
      refine v_iconst (v := 0) F d_T_row_46 ki_0 ?_
      refine v_ias F i (gam_row _ (ix_lt hr1.1 hr1.2 rfl (by decide))) rfl (by omega) d_T_row_47 ?_
      refine v_ns (fun σ1 eσ1 => ?_)
      refine v_iinc (v := nI (i + 1)) (ls' := [(3, .int (nI (i + 1))), (0, .ref (u.2.1 0)), (1, .int r), (2, .int (nI N))]) F d_T_row_48 (j := 3) rfl (nI_inc _) (by decide) rfl ?_
      refine v_goto F 34 d_T_row_51 rfl ?_
      refine v_sub [1, 2, 3, 0] (ls' := [(0, .ref (u.2.1 0)), (1, .int r), (2, .int (nI N)), (3, .int (nI (i + 1)))]) rfl ?_
      refine v_st (show σ1 = (fl (uI σ 8 (ix r) (nI N)) (2 + ix r) 0 0 (i + 1)) from (by first | rfl | (simp [fl, vp_nar32, *]; done) | (simp_all [fl, vp_nar32]; done) | grind [fl, vp_nar32])) ?_
      exact ih (i + 1) (by omega) (by omega)
set_option maxHeartbeats 4000000 in
theorem c_T_row (l : Launch) (u : Un) (hA : Ap u) (σ : St) (r n : Int32) : MTi l u y_T_row b_T_row 4 .int 1 [.ref (u.2.1 0), .int r, .int n] σ (fun ans σ' => (ans, σ') = tRow σ r n) := by
  refine MT_of hA rfl (by decide) (Nat.le_of_ble_eq_true rfl) (fun X hl F hr => ?_)
  subst hl
  refine v_to (ls' := [(0, .ref (u.2.1 0)), (1, .int r), (2, .int n)]) rfl ?_
  refine v_iload_n F d_T_row_0 rfl 1 rfl ?_
  refine v_runi (r_S F (c_T_isRow X.2.1 u hA σ r ) mo_T_isRow st_T_76 (by decide) rfl (Nat.le_of_ble_eq_true rfl) d_T_row_1) (fun r1 σ2 q3 => ?_)
  obtain ⟨rfl, rfl⟩ := q3
  refine v_bt F 13 d_T_row_4 rfl (fun h4 => ?_) (fun h4 => ?_)
  · skip
    refine v_iconst (v := (-1)) F d_T_row_13 ki_m1 ?_
    refine v_iret F hr rfl d_T_row_14 ?_
    first | (simp_all [tRow, inR]; done) | grind [tRow]
  · skip
    refine v_iload_n F d_T_row_7 rfl 2 rfl ?_
    refine v_bipush (v := 40) F d_T_row_8 kb_40 ?_
    refine v_icmp_le F 15 d_T_row_10 rfl (fun h10 => ?_) (fun h10 => ?_)
    · skip
      refine v_iload_n F d_T_row_15 rfl 2 rfl ?_
      refine v_if_ge F 25 d_T_row_16 rfl (fun h16 => ?_) (fun h16 => ?_)
      · skip
        obtain ⟨N, hN, xN, rfl⟩ := nat_of (M := 40) h16 h10 rfl (by decide)
        have hr1 := h4
        refine v_aload_n F d_T_row_25 rfl 0 rfl ?_
        refine v_getr (r := 8) F fk_T_14 G0 rfl d_T_row_26 ?_
        refine v_iload_n F d_T_row_29 rfl 1 rfl ?_
        refine v_iload_n F d_T_row_30 rfl 2 rfl ?_
        refine v_ias F (ix r) G8 (ix_eq h4.1) (ix_lt h4.1 h4.2 rfl (by decide)) d_T_row_31 ?_
        refine v_ns (fun σ4 eσ4 => ?_)
        refine v_iconst (v := 0) F d_T_row_32 ki_0 ?_
        refine v_istore_n (ls' := [(3, .int 0), (0, .ref (u.2.1 0)), (1, .int r), (2, .int (nI N))]) F d_T_row_33 rfl (by decide) rfl ?_
        refine v_sub [1, 2, 3, 0] (ls' := [(0, .ref (u.2.1 0)), (1, .int r), (2, .int (nI N)), (3, .int 0)]) rfl ?_
        have g5 : 0 = (nI 0) := (by first | rfl | (simp [fl, vp_nar32, *]; done) | (simp_all [fl, vp_nar32]; done) | grind [fl, vp_nar32])
        refine v_to (ls' := [(0, .ref (u.2.1 0)), (1, .int r), (2, .int (nI N)), (3, .int (nI 0))]) (by first | rfl | rw [g5] | simp_all) ?_
        refine v_st (show σ4 = (fl (uI σ 8 (ix r) (nI N)) (2 + ix r) 0 0 0) from (by first | rfl | (simp [fl, vp_nar32, *]; done) | (simp_all [fl, vp_nar32]; done) | grind [fl, vp_nar32])) ?_
        refine L_T_row_34 hA F hr1 (by omega) ?_ _ 0 (Nat.zero_le _) (Nat.lt_succ_self _)
        refine v_iload_n F d_T_row_54 rfl 2 rfl ?_
        refine v_iret F hr rfl d_T_row_55 ?_
        first | (simp_all [tRow, inR]; done) | grind [tRow]
      · skip
        refine v_aload_n F d_T_row_19 rfl 0 rfl ?_
        refine v_iconst (v := 5) F d_T_row_20 ki_5 ?_
        refine v_runi (r_V F (c_T_refuse X.2.1 u hA σ 5 (by decide)) mo_T_refuse st_T_80 rc_0 (by decide) rfl (Nat.le_of_ble_eq_true rfl) d_T_row_21) (fun r6 σ7 q8 => ?_)
        obtain ⟨rfl, eσ7⟩ := q8
        refine v_iret F hr rfl d_T_row_24 ?_
        first | (simp_all [tRow, inR]; done) | grind [tRow]
    · skip
      refine v_iconst (v := (-1)) F d_T_row_13 ki_m1 ?_
      refine v_iret F hr rfl d_T_row_14 ?_
      first | (simp_all [tRow, inR]; done) | grind [tRow]
abbrev b_T_text : ByteArray := prog_1_method_8_code
abbrev y_T_text : MethodName := ⟨"TakerBook", "text", "(II)I"⟩
theorem d_T_text_0 : decode b_T_text 0 = .ok (.iload_n 1, 1) := by decide +kernel
theorem d_T_text_1 : decode b_T_text 1 = .ok (.invokestatic 104, 3) := by decide +kernel
theorem d_T_text_4 : decode b_T_text 4 = .ok (.ifCond .eq 9, 3) := by decide +kernel
theorem d_T_text_7 : decode b_T_text 7 = .ok (.iload_n 2, 1) := by decide +kernel
theorem d_T_text_8 : decode b_T_text 8 = .ok (.bipush 60, 2) := by decide +kernel
theorem d_T_text_10 : decode b_T_text 10 = .ok (.if_icmp .le 5, 3) := by decide +kernel
theorem d_T_text_13 : decode b_T_text 13 = .ok (.iconst (-1), 1) := by decide +kernel
theorem d_T_text_14 : decode b_T_text 14 = .ok (.ireturn, 1) := by decide +kernel
theorem d_T_text_15 : decode b_T_text 15 = .ok (.iload_n 2, 1) := by decide +kernel
theorem d_T_text_16 : decode b_T_text 16 = .ok (.ifCond .ge 9, 3) := by decide +kernel
theorem d_T_text_19 : decode b_T_text 19 = .ok (.aload_n 0, 1) := by decide +kernel
theorem d_T_text_20 : decode b_T_text 20 = .ok (.iconst 5, 1) := by decide +kernel
theorem d_T_text_21 : decode b_T_text 21 = .ok (.invokevirtual 80, 3) := by decide +kernel
theorem d_T_text_24 : decode b_T_text 24 = .ok (.ireturn, 1) := by decide +kernel
theorem d_T_text_25 : decode b_T_text 25 = .ok (.aload_n 0, 1) := by decide +kernel
theorem d_T_text_26 : decode b_T_text 26 = .ok (.getfield 23, 3) := by decide +kernel
theorem d_T_text_29 : decode b_T_text 29 = .ok (.iload_n 1, 1) := by decide +kernel
theorem d_T_text_30 : decode b_T_text 30 = .ok (.iload_n 2, 1) := by decide +kernel
theorem d_T_text_31 : decode b_T_text 31 = .ok (.iastore, 1) := by decide +kernel
theorem d_T_text_32 : decode b_T_text 32 = .ok (.iconst 0, 1) := by decide +kernel
theorem d_T_text_33 : decode b_T_text 33 = .ok (.istore_n 3, 1) := by decide +kernel
theorem d_T_text_34 : decode b_T_text 34 = .ok (.iload_n 3, 1) := by decide +kernel
theorem d_T_text_35 : decode b_T_text 35 = .ok (.iload_n 2, 1) := by decide +kernel
theorem d_T_text_36 : decode b_T_text 36 = .ok (.if_icmp .ge 19, 3) := by decide +kernel
theorem d_T_text_39 : decode b_T_text 39 = .ok (.aload_n 0, 1) := by decide +kernel
theorem d_T_text_40 : decode b_T_text 40 = .ok (.getfield 20, 3) := by decide +kernel
theorem d_T_text_43 : decode b_T_text 43 = .ok (.iload_n 1, 1) := by decide +kernel
theorem d_T_text_44 : decode b_T_text 44 = .ok (.aaload, 1) := by decide +kernel
theorem d_T_text_45 : decode b_T_text 45 = .ok (.iload_n 3, 1) := by decide +kernel
theorem d_T_text_46 : decode b_T_text 46 = .ok (.bipush 32, 2) := by decide +kernel
theorem d_T_text_48 : decode b_T_text 48 = .ok (.bastore, 1) := by decide +kernel
theorem d_T_text_49 : decode b_T_text 49 = .ok (.iinc 3 1, 3) := by decide +kernel
theorem d_T_text_52 : decode b_T_text 52 = .ok (.goto (-18), 3) := by decide +kernel
theorem d_T_text_55 : decode b_T_text 55 = .ok (.iload_n 2, 1) := by decide +kernel
theorem d_T_text_56 : decode b_T_text 56 = .ok (.ireturn, 1) := by decide +kernel
theorem mo_T_text : mok y_T_text b_T_text 4 (some .int) 2 := ⟨List.mem_of_getElem? (i := 449) (by decide +kernel), ⟨by decide +kernel, by decide +kernel, by decide +kernel⟩, List.mem_of_getElem? (i := 74) (by decide +kernel), by decide⟩
set_option maxHeartbeats 4000000 in
theorem L_T_text_34 {X : FX} {u : Un} (hA : Ap u) {Q : State → Prop} (F : Fr X u "TakerBook" b_T_text 4) {σ : St} {r : Int32} {N : Nat} (hr1 : inR r 4) (hN : N ≤ 60) (k : V X u 1 4 Q 55 [(0, .ref (u.2.1 0)), (1, .int r), (2, .int (nI N)), (3, .int (nI N))] [] ((fl (uI σ 14 (ix r) (nI N)) (10 + ix r) 0 32 N))) : ∀ (nn i : Nat), i ≤ N → N - i < nn → V X u 1 4 Q 34 [(0, .ref (u.2.1 0)), (1, .int r), (2, .int (nI N)), (3, .int (nI i))] [] ((fl (uI σ 14 (ix r) (nI N)) (10 + ix r) 0 32 i)) := by
  intro nn
  induction nn with
  | zero =>
    intro i h1 h2
    exact absurd h2 (Nat.not_lt_zero _)
  | succ nn ih =>
    intro i hii hnn
    refine v_iload_n F d_T_text_34 rfl 3 rfl ?_
    refine v_iload_n F d_T_text_35 rfl 2 rfl ?_
    refine v_icmp_ge F 55 d_T_text_36 rfl (fun h36 => ?_) (fun h36 => ?_)
    · skip
      have h36 : N ≤ i := (nI_leI (a := N) (b := i) (by omega) (by omega)).mp h36
      have he : i = N := by omega
      subst he
      exact k
    · skip
      have h36 : ¬ N ≤ i := fun q => h36 ((nI_leI (a := N) (b := i) (by omega) (by omega)).mpr q)
      refine v_aload_n F d_T_text_39 rfl 0 rfl ?_
      refine v_getr (r := 9) F fk_T_20 G0 rfl d_T_text_40 ?_
      refine v_iload_n F d_T_text_43 rfl 1 rfl ?_
      refine v_aal F (ix r) G9 rfl (ix_eq hr1.1) (ix_lt hr1.1 hr1.2 rfl (by decide)) d_T_text_44 ?_
      refine v_iload_n F d_T_text_45 rfl 3 rfl ?_
      refine v_bipush (v := 32) F d_T_text_46 kb_32 ?_
      refine v_bas F i (gam_text _ (ix_lt hr1.1 hr1.2 rfl (by decide))) rfl (by omega) d_T_text_48 ?_
      refine v_ns (fun σ1 eσ1 => ?_)
      refine v_iinc (v := nI (i + 1)) (ls' := [(3, .int (nI (i + 1))), (0, .ref (u.2.1 0)), (1, .int r), (2, .int (nI N))]) F d_T_text_49 (j := 3) rfl (nI_inc _) (by decide) rfl ?_
      refine v_goto F 34 d_T_text_52 rfl ?_
      refine v_sub [1, 2, 3, 0] (ls' := [(0, .ref (u.2.1 0)), (1, .int r), (2, .int (nI N)), (3, .int (nI (i + 1)))]) rfl ?_
      refine v_st (show σ1 = (fl (uI σ 14 (ix r) (nI N)) (10 + ix r) 0 32 (i + 1)) from (by first | rfl | (simp [fl, vp_nar32, *]; done) | (simp_all [fl, vp_nar32]; done) | grind [fl, vp_nar32])) ?_
      exact ih (i + 1) (by omega) (by omega)
set_option maxHeartbeats 4000000 in
theorem c_T_text (l : Launch) (u : Un) (hA : Ap u) (σ : St) (r n : Int32) : MTi l u y_T_text b_T_text 4 .int 1 [.ref (u.2.1 0), .int r, .int n] σ (fun ans σ' => (ans, σ') = tText σ r n) := by
  refine MT_of hA rfl (by decide) (Nat.le_of_ble_eq_true rfl) (fun X hl F hr => ?_)
  subst hl
  refine v_to (ls' := [(0, .ref (u.2.1 0)), (1, .int r), (2, .int n)]) rfl ?_
  refine v_iload_n F d_T_text_0 rfl 1 rfl ?_
  refine v_runi (r_S F (c_T_isText X.2.1 u hA σ r ) mo_T_isText st_T_104 (by decide) rfl (Nat.le_of_ble_eq_true rfl) d_T_text_1) (fun r1 σ2 q3 => ?_)
  obtain ⟨rfl, rfl⟩ := q3
  refine v_bt F 13 d_T_text_4 rfl (fun h4 => ?_) (fun h4 => ?_)
  · skip
    refine v_iconst (v := (-1)) F d_T_text_13 ki_m1 ?_
    refine v_iret F hr rfl d_T_text_14 ?_
    first | (simp_all [tText, inR]; done) | grind [tText]
  · skip
    refine v_iload_n F d_T_text_7 rfl 2 rfl ?_
    refine v_bipush (v := 60) F d_T_text_8 kb_60 ?_
    refine v_icmp_le F 15 d_T_text_10 rfl (fun h10 => ?_) (fun h10 => ?_)
    · skip
      refine v_iload_n F d_T_text_15 rfl 2 rfl ?_
      refine v_if_ge F 25 d_T_text_16 rfl (fun h16 => ?_) (fun h16 => ?_)
      · skip
        obtain ⟨N, hN, xN, rfl⟩ := nat_of (M := 60) h16 h10 rfl (by decide)
        have hr1 := h4
        refine v_aload_n F d_T_text_25 rfl 0 rfl ?_
        refine v_getr (r := 14) F fk_T_23 G0 rfl d_T_text_26 ?_
        refine v_iload_n F d_T_text_29 rfl 1 rfl ?_
        refine v_iload_n F d_T_text_30 rfl 2 rfl ?_
        refine v_ias F (ix r) G14 (ix_eq h4.1) (ix_lt h4.1 h4.2 rfl (by decide)) d_T_text_31 ?_
        refine v_ns (fun σ4 eσ4 => ?_)
        refine v_iconst (v := 0) F d_T_text_32 ki_0 ?_
        refine v_istore_n (ls' := [(3, .int 0), (0, .ref (u.2.1 0)), (1, .int r), (2, .int (nI N))]) F d_T_text_33 rfl (by decide) rfl ?_
        refine v_sub [1, 2, 3, 0] (ls' := [(0, .ref (u.2.1 0)), (1, .int r), (2, .int (nI N)), (3, .int 0)]) rfl ?_
        have g5 : 0 = (nI 0) := (by first | rfl | (simp [fl, vp_nar32, *]; done) | (simp_all [fl, vp_nar32]; done) | grind [fl, vp_nar32])
        refine v_to (ls' := [(0, .ref (u.2.1 0)), (1, .int r), (2, .int (nI N)), (3, .int (nI 0))]) (by first | rfl | rw [g5] | simp_all) ?_
        refine v_st (show σ4 = (fl (uI σ 14 (ix r) (nI N)) (10 + ix r) 0 32 0) from (by first | rfl | (simp [fl, vp_nar32, *]; done) | (simp_all [fl, vp_nar32]; done) | grind [fl, vp_nar32])) ?_
        refine L_T_text_34 hA F hr1 (by omega) ?_ _ 0 (Nat.zero_le _) (Nat.lt_succ_self _)
        refine v_iload_n F d_T_text_55 rfl 2 rfl ?_
        refine v_iret F hr rfl d_T_text_56 ?_
        first | (simp_all [tText, inR]; done) | grind [tText]
      · skip
        refine v_aload_n F d_T_text_19 rfl 0 rfl ?_
        refine v_iconst (v := 5) F d_T_text_20 ki_5 ?_
        refine v_runi (r_V F (c_T_refuse X.2.1 u hA σ 5 (by decide)) mo_T_refuse st_T_80 rc_0 (by decide) rfl (Nat.le_of_ble_eq_true rfl) d_T_text_21) (fun r6 σ7 q8 => ?_)
        obtain ⟨rfl, eσ7⟩ := q8
        refine v_iret F hr rfl d_T_text_24 ?_
        first | (simp_all [tText, inR]; done) | grind [tText]
    · skip
      refine v_iconst (v := (-1)) F d_T_text_13 ki_m1 ?_
      refine v_iret F hr rfl d_T_text_14 ?_
      first | (simp_all [tText, inR]; done) | grind [tText]
abbrev b_T_copy : ByteArray := prog_1_method_6_code
abbrev y_T_copy : MethodName := ⟨"TakerBook", "copy", "(IIIII)I"⟩
theorem d_T_copy_0 : decode b_T_copy 0 = .ok (.iload_n 1, 1) := by decide +kernel
theorem d_T_copy_1 : decode b_T_copy 1 = .ok (.invokestatic 76, 3) := by decide +kernel
theorem d_T_copy_4 : decode b_T_copy 4 = .ok (.ifCond .eq 10, 3) := by decide +kernel
theorem d_T_copy_7 : decode b_T_copy 7 = .ok (.iload_n 3, 1) := by decide +kernel
theorem d_T_copy_8 : decode b_T_copy 8 = .ok (.invokestatic 76, 3) := by decide +kernel
theorem d_T_copy_11 : decode b_T_copy 11 = .ok (.ifCond .ne 5, 3) := by decide +kernel
theorem d_T_copy_14 : decode b_T_copy 14 = .ok (.iconst (-1), 1) := by decide +kernel
theorem d_T_copy_15 : decode b_T_copy 15 = .ok (.ireturn, 1) := by decide +kernel
theorem d_T_copy_16 : decode b_T_copy 16 = .ok (.iload 5, 2) := by decide +kernel
theorem d_T_copy_18 : decode b_T_copy 18 = .ok (.ifCond .ge 9, 3) := by decide +kernel
theorem d_T_copy_21 : decode b_T_copy 21 = .ok (.aload_n 0, 1) := by decide +kernel
theorem d_T_copy_22 : decode b_T_copy 22 = .ok (.iconst 5, 1) := by decide +kernel
theorem d_T_copy_23 : decode b_T_copy 23 = .ok (.invokevirtual 80, 3) := by decide +kernel
theorem d_T_copy_26 : decode b_T_copy 26 = .ok (.ireturn, 1) := by decide +kernel
theorem d_T_copy_27 : decode b_T_copy 27 = .ok (.aload_n 0, 1) := by decide +kernel
theorem d_T_copy_28 : decode b_T_copy 28 = .ok (.getfield 14, 3) := by decide +kernel
theorem d_T_copy_31 : decode b_T_copy 31 = .ok (.iload_n 1, 1) := by decide +kernel
theorem d_T_copy_32 : decode b_T_copy 32 = .ok (.iaload, 1) := by decide +kernel
theorem d_T_copy_33 : decode b_T_copy 33 = .ok (.ifCond .lt 12, 3) := by decide +kernel
theorem d_T_copy_36 : decode b_T_copy 36 = .ok (.aload_n 0, 1) := by decide +kernel
theorem d_T_copy_37 : decode b_T_copy 37 = .ok (.getfield 14, 3) := by decide +kernel
theorem d_T_copy_40 : decode b_T_copy 40 = .ok (.iload_n 3, 1) := by decide +kernel
theorem d_T_copy_41 : decode b_T_copy 41 = .ok (.iaload, 1) := by decide +kernel
theorem d_T_copy_42 : decode b_T_copy 42 = .ok (.ifCond .ge 9, 3) := by decide +kernel
theorem d_T_copy_45 : decode b_T_copy 45 = .ok (.aload_n 0, 1) := by decide +kernel
theorem d_T_copy_46 : decode b_T_copy 46 = .ok (.iconst 1, 1) := by decide +kernel
theorem d_T_copy_47 : decode b_T_copy 47 = .ok (.invokevirtual 80, 3) := by decide +kernel
theorem d_T_copy_50 : decode b_T_copy 50 = .ok (.ireturn, 1) := by decide +kernel
theorem d_T_copy_51 : decode b_T_copy 51 = .ok (.aload_n 0, 1) := by decide +kernel
theorem d_T_copy_52 : decode b_T_copy 52 = .ok (.getfield 14, 3) := by decide +kernel
theorem d_T_copy_55 : decode b_T_copy 55 = .ok (.iload_n 1, 1) := by decide +kernel
theorem d_T_copy_56 : decode b_T_copy 56 = .ok (.iaload, 1) := by decide +kernel
theorem d_T_copy_57 : decode b_T_copy 57 = .ok (.iload_n 2, 1) := by decide +kernel
theorem d_T_copy_58 : decode b_T_copy 58 = .ok (.iload 5, 2) := by decide +kernel
theorem d_T_copy_60 : decode b_T_copy 60 = .ok (.invokestatic 94, 3) := by decide +kernel
theorem d_T_copy_63 : decode b_T_copy 63 = .ok (.ifCond .eq 19, 3) := by decide +kernel
theorem d_T_copy_66 : decode b_T_copy 66 = .ok (.aload_n 0, 1) := by decide +kernel
theorem d_T_copy_67 : decode b_T_copy 67 = .ok (.getfield 14, 3) := by decide +kernel
theorem d_T_copy_70 : decode b_T_copy 70 = .ok (.iload_n 3, 1) := by decide +kernel
theorem d_T_copy_71 : decode b_T_copy 71 = .ok (.iaload, 1) := by decide +kernel
theorem d_T_copy_72 : decode b_T_copy 72 = .ok (.iload 4, 2) := by decide +kernel
theorem d_T_copy_74 : decode b_T_copy 74 = .ok (.iload 5, 2) := by decide +kernel
theorem d_T_copy_76 : decode b_T_copy 76 = .ok (.invokestatic 94, 3) := by decide +kernel
theorem d_T_copy_79 : decode b_T_copy 79 = .ok (.ifCond .ne 9, 3) := by decide +kernel
theorem d_T_copy_82 : decode b_T_copy 82 = .ok (.aload_n 0, 1) := by decide +kernel
theorem d_T_copy_83 : decode b_T_copy 83 = .ok (.iconst 2, 1) := by decide +kernel
theorem d_T_copy_84 : decode b_T_copy 84 = .ok (.invokevirtual 80, 3) := by decide +kernel
theorem d_T_copy_87 : decode b_T_copy 87 = .ok (.ireturn, 1) := by decide +kernel
theorem d_T_copy_88 : decode b_T_copy 88 = .ok (.aload_n 0, 1) := by decide +kernel
theorem d_T_copy_89 : decode b_T_copy 89 = .ok (.getfield 11, 3) := by decide +kernel
theorem d_T_copy_92 : decode b_T_copy 92 = .ok (.iload_n 1, 1) := by decide +kernel
theorem d_T_copy_93 : decode b_T_copy 93 = .ok (.aaload, 1) := by decide +kernel
theorem d_T_copy_94 : decode b_T_copy 94 = .ok (.iload_n 2, 1) := by decide +kernel
theorem d_T_copy_95 : decode b_T_copy 95 = .ok (.aload_n 0, 1) := by decide +kernel
theorem d_T_copy_96 : decode b_T_copy 96 = .ok (.getfield 11, 3) := by decide +kernel
theorem d_T_copy_99 : decode b_T_copy 99 = .ok (.iload_n 3, 1) := by decide +kernel
theorem d_T_copy_100 : decode b_T_copy 100 = .ok (.aaload, 1) := by decide +kernel
theorem d_T_copy_101 : decode b_T_copy 101 = .ok (.iload 4, 2) := by decide +kernel
theorem d_T_copy_103 : decode b_T_copy 103 = .ok (.iload 5, 2) := by decide +kernel
theorem d_T_copy_105 : decode b_T_copy 105 = .ok (.invokestatic 98, 3) := by decide +kernel
theorem d_T_copy_108 : decode b_T_copy 108 = .ok (.iconst 1, 1) := by decide +kernel
theorem d_T_copy_109 : decode b_T_copy 109 = .ok (.ireturn, 1) := by decide +kernel
theorem mo_T_copy : mok y_T_copy b_T_copy 6 (some .int) 5 := ⟨List.mem_of_getElem? (i := 435) (by decide +kernel), ⟨by decide +kernel, by decide +kernel, by decide +kernel⟩, List.mem_of_getElem? (i := 74) (by decide +kernel), by decide⟩
set_option maxHeartbeats 4000000 in
theorem c_T_copy (l : Launch) (u : Un) (hA : Ap u) (σ : St) (r i to j n : Int32) (hI : rowsOk σ) : MTi l u y_T_copy b_T_copy 6 .int 2 [.ref (u.2.1 0), .int r, .int i, .int to, .int j, .int n] σ (fun ans σ' => (ans, σ') = tCopy σ r i to j n) := by
  refine MT_of hA rfl (by decide) (Nat.le_of_ble_eq_true rfl) (fun X hl F hr => ?_)
  subst hl
  refine v_to (ls' := [(0, .ref (u.2.1 0)), (1, .int r), (2, .int i), (3, .int to), (4, .int j), (5, .int n)]) rfl ?_
  refine v_iload_n F d_T_copy_0 rfl 1 rfl ?_
  refine v_runi (r_S F (c_T_isRow X.2.1 u hA σ r ) mo_T_isRow st_T_76 (by decide) rfl (Nat.le_of_ble_eq_true rfl) d_T_copy_1) (fun r1 σ2 q3 => ?_)
  obtain ⟨rfl, rfl⟩ := q3
  refine v_bt F 14 d_T_copy_4 rfl (fun h4 => ?_) (fun h4 => ?_)
  · skip
    refine v_iconst (v := (-1)) F d_T_copy_14 ki_m1 ?_
    refine v_iret F hr rfl d_T_copy_15 ?_
    first | (simp_all [tCopy, inR]; done) | grind [tCopy]
  · skip
    refine v_iload_n F d_T_copy_7 rfl 3 rfl ?_
    refine v_runi (r_S F (c_T_isRow X.2.1 u hA σ to ) mo_T_isRow st_T_76 (by decide) rfl (Nat.le_of_ble_eq_true rfl) d_T_copy_8) (fun r4 σ5 q6 => ?_)
    obtain ⟨rfl, rfl⟩ := q6
    refine v_bf F 16 d_T_copy_11 rfl (fun h11 => ?_) (fun h11 => ?_)
    · skip
      refine v_iload F d_T_copy_16 5 rfl ?_
      refine v_if_ge F 27 d_T_copy_18 rfl (fun h18 => ?_) (fun h18 => ?_)
      · skip
        refine v_aload_n F d_T_copy_27 rfl 0 rfl ?_
        refine v_getr (r := 8) F fk_T_14 G0 rfl d_T_copy_28 ?_
        refine v_iload_n F d_T_copy_31 rfl 1 rfl ?_
        refine v_ial F (ix r) G8 (ix_eq h4.1) (ix_lt h4.1 h4.2 rfl (by decide)) d_T_copy_32 ?_
        refine v_if_lt F 45 d_T_copy_33 rfl (fun h33 => ?_) (fun h33 => ?_)
        · skip
          refine v_aload_n F d_T_copy_45 rfl 0 rfl ?_
          refine v_iconst (v := 1) F d_T_copy_46 ki_1 ?_
          refine v_runi (r_V F (c_T_refuse X.2.1 u hA σ 1 (by decide)) mo_T_refuse st_T_80 rc_0 (by decide) rfl (Nat.le_of_ble_eq_true rfl) d_T_copy_47) (fun r7 σ8 q9 => ?_)
          obtain ⟨rfl, eσ8⟩ := q9
          refine v_iret F hr rfl d_T_copy_50 ?_
          first | (simp_all [tCopy, inR]; done) | grind [tCopy]
        · skip
          refine v_aload_n F d_T_copy_36 rfl 0 rfl ?_
          refine v_getr (r := 8) F fk_T_14 G0 rfl d_T_copy_37 ?_
          refine v_iload_n F d_T_copy_40 rfl 3 rfl ?_
          refine v_ial F (ix to) G8 (ix_eq h11.1) (ix_lt h11.1 h11.2 rfl (by decide)) d_T_copy_41 ?_
          refine v_if_ge F 51 d_T_copy_42 rfl (fun h42 => ?_) (fun h42 => ?_)
          · skip
            refine v_aload_n F d_T_copy_51 rfl 0 rfl ?_
            refine v_getr (r := 8) F fk_T_14 G0 rfl d_T_copy_52 ?_
            refine v_iload_n F d_T_copy_55 rfl 1 rfl ?_
            refine v_ial F (ix r) G8 (ix_eq h4.1) (ix_lt h4.1 h4.2 rfl (by decide)) d_T_copy_56 ?_
            refine v_iload_n F d_T_copy_57 rfl 2 rfl ?_
            refine v_iload F d_T_copy_58 5 rfl ?_
            refine v_runi (r_S F (c_T_holds X.2.1 u hA σ (σ.1 8 (ix r)) i n ) mo_T_holds st_T_94 (by decide) rfl (Nat.le_of_ble_eq_true rfl) d_T_copy_60) (fun r10 σ11 q12 => ?_)
            obtain ⟨rfl, rfl⟩ := q12
            refine v_bt F 82 d_T_copy_63 rfl (fun h63 => ?_) (fun h63 => ?_)
            · skip
              refine v_aload_n F d_T_copy_82 rfl 0 rfl ?_
              refine v_iconst (v := 2) F d_T_copy_83 ki_2 ?_
              refine v_runi (r_V F (c_T_refuse X.2.1 u hA σ 2 (by decide)) mo_T_refuse st_T_80 rc_0 (by decide) rfl (Nat.le_of_ble_eq_true rfl) d_T_copy_84) (fun r13 σ14 q15 => ?_)
              obtain ⟨rfl, eσ14⟩ := q15
              refine v_iret F hr rfl d_T_copy_87 ?_
              first | (simp_all [tCopy, inR]; done) | grind [tCopy]
            · skip
              refine v_aload_n F d_T_copy_66 rfl 0 rfl ?_
              refine v_getr (r := 8) F fk_T_14 G0 rfl d_T_copy_67 ?_
              refine v_iload_n F d_T_copy_70 rfl 3 rfl ?_
              refine v_ial F (ix to) G8 (ix_eq h11.1) (ix_lt h11.1 h11.2 rfl (by decide)) d_T_copy_71 ?_
              refine v_iload F d_T_copy_72 4 rfl ?_
              refine v_iload F d_T_copy_74 5 rfl ?_
              refine v_runi (r_S F (c_T_holds X.2.1 u hA σ (σ.1 8 (ix to)) j n ) mo_T_holds st_T_94 (by decide) rfl (Nat.le_of_ble_eq_true rfl) d_T_copy_76) (fun r16 σ17 q18 => ?_)
              obtain ⟨rfl, rfl⟩ := q18
              refine v_bf F 88 d_T_copy_79 rfl (fun h79 => ?_) (fun h79 => ?_)
              · skip
                refine v_aload_n F d_T_copy_88 rfl 0 rfl ?_
                refine v_getr (r := 1) F fk_T_11 G0 rfl d_T_copy_89 ?_
                refine v_iload_n F d_T_copy_92 rfl 1 rfl ?_
                refine v_aal F (ix r) G1 rfl (ix_eq h4.1) (ix_lt h4.1 h4.2 rfl (by decide)) d_T_copy_93 ?_
                refine v_iload_n F d_T_copy_94 rfl 2 rfl ?_
                refine v_aload_n F d_T_copy_95 rfl 0 rfl ?_
                refine v_getr (r := 1) F fk_T_11 G0 rfl d_T_copy_96 ?_
                refine v_iload_n F d_T_copy_99 rfl 3 rfl ?_
                refine v_aal F (ix to) G1 rfl (ix_eq h11.1) (ix_lt h11.1 h11.2 rfl (by decide)) d_T_copy_100 ?_
                refine v_iload F d_T_copy_101 4 rfl ?_
                refine v_iload F d_T_copy_103 5 rfl ?_
                refine v_copy F (gam_row _ (ix_lt h4.1 h4.2 rfl (by decide))) (gam_row _ (ix_lt h11.1 h11.2 rfl (by decide))) (List.mem_of_getElem? (i := 439) (by decide +kernel)) (List.mem_of_getElem? (i := 441) (by decide +kernel)) (List.mem_of_getElem? (i := 440) (by decide +kernel)) (List.mem_of_getElem? (i := 87) (by decide +kernel)) (i_nlt.mpr h63.1) (i_nlt.mpr h79.1) (i_nlt.mpr h18) (hld_le (i_nlt.mp h33) (hI _ (ix_lt h4.1 h4.2 rfl (by decide))) h18 h63) (hld_le h42 (hI _ (ix_lt h11.1 h11.2 rfl (by decide))) h18 h79) (by decide) (Nat.le_of_ble_eq_true rfl) d_T_copy_105 ?_
                refine v_ns (fun σ19 eσ19 => ?_)
                refine v_iconst (v := 1) F d_T_copy_108 ki_1 ?_
                refine v_iret F hr rfl d_T_copy_109 ?_
                first | (simp_all [tCopy, inR]; done) | grind [tCopy]
              · skip
                refine v_aload_n F d_T_copy_82 rfl 0 rfl ?_
                refine v_iconst (v := 2) F d_T_copy_83 ki_2 ?_
                refine v_runi (r_V F (c_T_refuse X.2.1 u hA σ 2 (by decide)) mo_T_refuse st_T_80 rc_0 (by decide) rfl (Nat.le_of_ble_eq_true rfl) d_T_copy_84) (fun r20 σ21 q22 => ?_)
                obtain ⟨rfl, eσ21⟩ := q22
                refine v_iret F hr rfl d_T_copy_87 ?_
                first | (simp_all [tCopy, inR]; done) | grind [tCopy]
          · skip
            refine v_aload_n F d_T_copy_45 rfl 0 rfl ?_
            refine v_iconst (v := 1) F d_T_copy_46 ki_1 ?_
            refine v_runi (r_V F (c_T_refuse X.2.1 u hA σ 1 (by decide)) mo_T_refuse st_T_80 rc_0 (by decide) rfl (Nat.le_of_ble_eq_true rfl) d_T_copy_47) (fun r23 σ24 q25 => ?_)
            obtain ⟨rfl, eσ24⟩ := q25
            refine v_iret F hr rfl d_T_copy_50 ?_
            first | (simp_all [tCopy, inR]; done) | grind [tCopy]
      · skip
        refine v_aload_n F d_T_copy_21 rfl 0 rfl ?_
        refine v_iconst (v := 5) F d_T_copy_22 ki_5 ?_
        refine v_runi (r_V F (c_T_refuse X.2.1 u hA σ 5 (by decide)) mo_T_refuse st_T_80 rc_0 (by decide) rfl (Nat.le_of_ble_eq_true rfl) d_T_copy_23) (fun r26 σ27 q28 => ?_)
        obtain ⟨rfl, eσ27⟩ := q28
        refine v_iret F hr rfl d_T_copy_26 ?_
        first | (simp_all [tCopy, inR]; done) | grind [tCopy]
    · skip
      refine v_iconst (v := (-1)) F d_T_copy_14 ki_m1 ?_
      refine v_iret F hr rfl d_T_copy_15 ?_
      first | (simp_all [tCopy, inR]; done) | grind [tCopy]
abbrev b_T_asked : ByteArray := prog_1_method_39_code
abbrev y_T_asked : MethodName := ⟨"TakerBook", "asked", "()I"⟩
theorem d_T_asked_0 : decode b_T_asked 0 = .ok (.aload_n 0, 1) := by decide +kernel
theorem d_T_asked_1 : decode b_T_asked 1 = .ok (.getfield 88, 3) := by decide +kernel
theorem d_T_asked_4 : decode b_T_asked 4 = .ok (.ireturn, 1) := by decide +kernel
theorem mo_T_asked : mok y_T_asked b_T_asked 1 (some .int) 0 := ⟨List.mem_of_getElem? (i := 938) (by decide +kernel), ⟨by decide +kernel, by decide +kernel, by decide +kernel⟩, List.mem_of_getElem? (i := 74) (by decide +kernel), by decide⟩
set_option maxHeartbeats 4000000 in
theorem c_T_asked (l : Launch) (u : Un) (hA : Ap u) (σ : St) : MTi l u y_T_asked b_T_asked 1 .int 0 [.ref (u.2.1 0)] σ (fun ans σ' => σ.1 0 12 = ans ∧ σ = σ') := by
  refine MT_of hA rfl (by decide) (Nat.le_of_ble_eq_true rfl) (fun X hl F hr => ?_)
  subst hl
  refine v_to (ls' := [(0, .ref (u.2.1 0))]) rfl ?_
  refine v_aload_n F d_T_asked_0 rfl 0 rfl ?_
  refine v_geti F fk_T_88 G0 rfl d_T_asked_1 ?_
  refine v_iret F hr rfl d_T_asked_4 ?_
  exact ⟨by simp_all, rfl⟩
abbrev b_T_finding : ByteArray := prog_1_method_43_code
abbrev y_T_finding : MethodName := ⟨"TakerBook", "finding", "()I"⟩
theorem d_T_finding_0 : decode b_T_finding 0 = .ok (.aload_n 0, 1) := by decide +kernel
theorem d_T_finding_1 : decode b_T_finding 1 = .ok (.getfield 329, 3) := by decide +kernel
theorem d_T_finding_4 : decode b_T_finding 4 = .ok (.ireturn, 1) := by decide +kernel
theorem mo_T_finding : mok y_T_finding b_T_finding 1 (some .int) 0 := ⟨List.mem_of_getElem? (i := 961) (by decide +kernel), ⟨by decide +kernel, by decide +kernel, by decide +kernel⟩, List.mem_of_getElem? (i := 74) (by decide +kernel), by decide⟩
set_option maxHeartbeats 4000000 in
theorem c_T_finding (l : Launch) (u : Un) (hA : Ap u) (σ : St) : MTi l u y_T_finding b_T_finding 1 .int 0 [.ref (u.2.1 0)] σ (fun ans σ' => σ.1 0 11 = ans ∧ σ = σ') := by
  refine MT_of hA rfl (by decide) (Nat.le_of_ble_eq_true rfl) (fun X hl F hr => ?_)
  subst hl
  refine v_to (ls' := [(0, .ref (u.2.1 0))]) rfl ?_
  refine v_aload_n F d_T_finding_0 rfl 0 rfl ?_
  refine v_geti F fk_T_329 G0 rfl d_T_finding_1 ?_
  refine v_iret F hr rfl d_T_finding_4 ?_
  exact ⟨by simp_all, rfl⟩
abbrev b_T_upper : ByteArray := prog_1_method_40_code
abbrev y_T_upper : MethodName := ⟨"TakerBook", "upper", "()J"⟩
theorem d_T_upper_0 : decode b_T_upper 0 = .ok (.aload_n 0, 1) := by decide +kernel
theorem d_T_upper_1 : decode b_T_upper 1 = .ok (.getfield 312, 3) := by decide +kernel
theorem d_T_upper_4 : decode b_T_upper 4 = .ok (.lreturn, 1) := by decide +kernel
theorem mo_T_upper : mok y_T_upper b_T_upper 1 (some .long) 0 := ⟨List.mem_of_getElem? (i := 942) (by decide +kernel), ⟨by decide +kernel, by decide +kernel, by decide +kernel⟩, List.mem_of_getElem? (i := 74) (by decide +kernel), by decide⟩
set_option maxHeartbeats 4000000 in
theorem c_T_upper (l : Launch) (u : Un) (hA : Ap u) (σ : St) : MTl l u y_T_upper b_T_upper 1 0 [.ref (u.2.1 0)] σ (fun ans σ' => σ.2 0 13 = ans ∧ σ = σ') := by
  refine MT_of hA rfl (by decide) (Nat.le_of_ble_eq_true rfl) (fun X hl F hr => ?_)
  subst hl
  refine v_to (ls' := [(0, .ref (u.2.1 0))]) rfl ?_
  refine v_aload_n F d_T_upper_0 rfl 0 rfl ?_
  refine v_getl F fk_T_312 G0 rfl d_T_upper_1 ?_
  refine v_lret F hr d_T_upper_4 ?_
  exact ⟨by simp_all, rfl⟩
abbrev b_T_lower : ByteArray := prog_1_method_41_code
abbrev y_T_lower : MethodName := ⟨"TakerBook", "lower", "()J"⟩
theorem d_T_lower_0 : decode b_T_lower 0 = .ok (.aload_n 0, 1) := by decide +kernel
theorem d_T_lower_1 : decode b_T_lower 1 = .ok (.getfield 68, 3) := by decide +kernel
theorem d_T_lower_4 : decode b_T_lower 4 = .ok (.lreturn, 1) := by decide +kernel
theorem mo_T_lower : mok y_T_lower b_T_lower 1 (some .long) 0 := ⟨List.mem_of_getElem? (i := 946) (by decide +kernel), ⟨by decide +kernel, by decide +kernel, by decide +kernel⟩, List.mem_of_getElem? (i := 74) (by decide +kernel), by decide⟩
set_option maxHeartbeats 4000000 in
theorem c_T_lower (l : Launch) (u : Un) (hA : Ap u) (σ : St) : MTl l u y_T_lower b_T_lower 1 0 [.ref (u.2.1 0)] σ (fun ans σ' => σ.2 0 14 = ans ∧ σ = σ') := by
  refine MT_of hA rfl (by decide) (Nat.le_of_ble_eq_true rfl) (fun X hl F hr => ?_)
  subst hl
  refine v_to (ls' := [(0, .ref (u.2.1 0))]) rfl ?_
  refine v_aload_n F d_T_lower_0 rfl 0 rfl ?_
  refine v_getl F fk_T_68 G0 rfl d_T_lower_1 ?_
  refine v_lret F hr d_T_lower_4 ?_
  exact ⟨by simp_all, rfl⟩
