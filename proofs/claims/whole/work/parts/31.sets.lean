theorem st_T_180 : siteV "TakerBook" 180 ⟨"TakerBook$Band", "wouldBeTried", "(I)Z"⟩ := ⟨List.mem_of_getElem? (i := 717) (by decide +kernel), List.mem_of_getElem? (i := 718) (by decide +kernel), List.mem_of_getElem? (i := 719) (by decide +kernel)⟩
theorem st_T_183 : siteV "TakerBook" 183 ⟨"TakerBook$Band", "talkers", "(I)I"⟩ := ⟨List.mem_of_getElem? (i := 721) (by decide +kernel), List.mem_of_getElem? (i := 646) (by decide +kernel), List.mem_of_getElem? (i := 647) (by decide +kernel)⟩
theorem kb_64 : (Int8.ofInt 64).toInt32 = (64 : Int32) := by decide
theorem st_T_186 : siteV "TakerBook" 186 ⟨"TakerBook$Band", "isOfLeft", "(I)Z"⟩ := ⟨List.mem_of_getElem? (i := 726) (by decide +kernel), List.mem_of_getElem? (i := 727) (by decide +kernel), List.mem_of_getElem? (i := 728) (by decide +kernel)⟩
theorem st_T_189 : siteS "TakerBook" 189 ⟨"java/lang/Integer", "bitCount", "(I)I"⟩ := ⟨List.mem_of_getElem? (i := 730) (by decide +kernel), List.mem_of_getElem? (i := 556) (by decide +kernel)⟩
theorem fk_T_207 : fok "TakerBook" 207 1 7 := ⟨(R_B, F_B, 19), rfl, by decide, List.mem_of_getElem? (i := 192) (by decide +kernel), rfl⟩
theorem st_T_210 : siteS "TakerBook" 210 ⟨"TakerBook", "total", "(I[I)I"⟩ := ⟨List.mem_of_getElem? (i := 760) (by decide +kernel), List.mem_of_getElem? (i := 761) (by decide +kernel)⟩
theorem st_T_204 : siteV "TakerBook" 204 ⟨"TakerBook$Band", "weigh", "()V"⟩ := ⟨List.mem_of_getElem? (i := 756) (by decide +kernel), List.mem_of_getElem? (i := 757) (by decide +kernel), List.mem_of_getElem? (i := 758) (by decide +kernel)⟩
theorem kb_m9 : (Int8.ofInt (-9)).toInt32 = ((-9) : Int32) := by decide
abbrev b_T_speak : ByteArray := prog_1_method_21_code
abbrev y_T_speak : MethodName := ⟨"TakerBook", "speak", "()I"⟩
theorem d_T_speak_0 : decode b_T_speak 0 = .ok (.aload_n 0, 1) := by decide +kernel
theorem d_T_speak_1 : decode b_T_speak 1 = .ok (.getfield 36, 3) := by decide +kernel
theorem d_T_speak_4 : decode b_T_speak 4 = .ok (.getfield 118, 3) := by decide +kernel
theorem d_T_speak_7 : decode b_T_speak 7 = .ok (.ifCond .ne 6, 3) := by decide +kernel
theorem d_T_speak_10 : decode b_T_speak 10 = .ok (.bipush (-4), 2) := by decide +kernel
theorem d_T_speak_12 : decode b_T_speak 12 = .ok (.ireturn, 1) := by decide +kernel
theorem d_T_speak_13 : decode b_T_speak 13 = .ok (.aload_n 0, 1) := by decide +kernel
theorem d_T_speak_14 : decode b_T_speak 14 = .ok (.aload_n 0, 1) := by decide +kernel
theorem d_T_speak_15 : decode b_T_speak 15 = .ok (.getfield 36, 3) := by decide +kernel
theorem d_T_speak_18 : decode b_T_speak 18 = .ok (.aload_n 0, 1) := by decide +kernel
theorem d_T_speak_19 : decode b_T_speak 19 = .ok (.getfield 36, 3) := by decide +kernel
theorem d_T_speak_22 : decode b_T_speak 22 = .ok (.getfield 166, 3) := by decide +kernel
theorem d_T_speak_25 : decode b_T_speak 25 = .ok (.invokevirtual 180, 3) := by decide +kernel
theorem d_T_speak_28 : decode b_T_speak 28 = .ok (.ifCond .eq 7, 3) := by decide +kernel
theorem d_T_speak_31 : decode b_T_speak 31 = .ok (.iconst 1, 1) := by decide +kernel
theorem d_T_speak_32 : decode b_T_speak 32 = .ok (.goto 4, 3) := by decide +kernel
theorem d_T_speak_35 : decode b_T_speak 35 = .ok (.iconst 0, 1) := by decide +kernel
theorem d_T_speak_36 : decode b_T_speak 36 = .ok (.putfield 88, 3) := by decide +kernel
theorem d_T_speak_39 : decode b_T_speak 39 = .ok (.aload_n 0, 1) := by decide +kernel
theorem d_T_speak_40 : decode b_T_speak 40 = .ok (.getfield 36, 3) := by decide +kernel
theorem d_T_speak_43 : decode b_T_speak 43 = .ok (.aload_n 0, 1) := by decide +kernel
theorem d_T_speak_44 : decode b_T_speak 44 = .ok (.getfield 36, 3) := by decide +kernel
theorem d_T_speak_47 : decode b_T_speak 47 = .ok (.getfield 166, 3) := by decide +kernel
theorem d_T_speak_50 : decode b_T_speak 50 = .ok (.invokevirtual 183, 3) := by decide +kernel
theorem d_T_speak_53 : decode b_T_speak 53 = .ok (.ireturn, 1) := by decide +kernel
theorem mo_T_speak : mok y_T_speak b_T_speak 1 (some .int) 0 := ⟨List.mem_of_getElem? (i := 716) (by decide +kernel), ⟨by decide +kernel, by decide +kernel, by decide +kernel⟩, List.mem_of_getElem? (i := 74) (by decide +kernel), by decide⟩
set_option maxHeartbeats 4000000 in
theorem c_T_speak (l : Launch) (u : Un) (hA : Ap u) (σ : St) {n G : Nat} {kd : Nat → Nat} (hb : bkOk σ n G kd) {L : Nat} (hL : σ.1 19 14 = nI L) (hL64 : L < 64) : MTi l u y_T_speak b_T_speak 1 .int 7 [.ref (u.2.1 0)] σ (fun ans σ' => (ans, σ') = tSpeak σ G kd n L) := by
  refine MT_of hA rfl (by decide) (Nat.le_of_ble_eq_true rfl) (fun X hl F hr => ?_)
  subst hl
  refine v_to (ls' := [(0, .ref (u.2.1 0))]) rfl ?_
  obtain ⟨hn, hn6, hG, hG64, hkd, hk6⟩ := id hb
  refine v_aload_n F d_T_speak_0 rfl 0 rfl ?_
  refine v_getr (r := 19) F fk_T_36 G0 rfl d_T_speak_1 ?_
  refine v_geti F fk_T_118 G19 rfl d_T_speak_4 ?_
  refine v_if_ne F 13 d_T_speak_7 rfl (fun h7 => ?_) (fun h7 => ?_)
  · skip
    refine v_aload_n F d_T_speak_13 rfl 0 rfl ?_
    refine v_aload_n F d_T_speak_14 rfl 0 rfl ?_
    refine v_getr (r := 19) F fk_T_36 G0 rfl d_T_speak_15 ?_
    refine v_aload_n F d_T_speak_18 rfl 0 rfl ?_
    refine v_getr (r := 19) F fk_T_36 G0 rfl d_T_speak_19 ?_
    refine v_geti F fk_T_166 G19 rfl d_T_speak_22 ?_
    refine v_te (y := nI L) hL ?_
    refine v_runi (r_V F (c_B_wouldBeTried X.2.1 u hA σ hb L (by omega)) mo_B_wouldBeTried st_T_180 rc_19 (by decide) rfl (Nat.le_of_ble_eq_true rfl) d_T_speak_25) (fun r1 σ2 q3 => ?_)
    obtain ⟨rfl, rfl⟩ := q3
    refine v_bt F 35 d_T_speak_28 rfl (fun h28 => ?_) (fun h28 => ?_)
    · skip
      refine v_iconst (v := 0) F d_T_speak_35 ki_0 ?_
      refine v_puti F fk_T_88 pk_T_told G0 rfl d_T_speak_36 ?_
      refine v_ns (fun σ4 eσ4 => ?_)
      refine v_aload_n F d_T_speak_39 rfl 0 rfl ?_
      refine v_getr (r := 19) F fk_T_36 G0 rfl d_T_speak_40 ?_
      refine v_aload_n F d_T_speak_43 rfl 0 rfl ?_
      refine v_getr (r := 19) F fk_T_36 G0 rfl d_T_speak_44 ?_
      refine v_geti F fk_T_166 G19 rfl d_T_speak_47 ?_
      refine v_te (y := nI L) (by simp_all [uI_o]) ?_
      refine v_runi (r_V F (c_B_talkers X.2.1 u hA σ4 (bkOk_of hb (by simp_all [uI_o]) (by simp_all [uI_o]) (by simp_all [uI_o])) L (by omega)) mo_B_talkers st_T_183 rc_19 (by decide) rfl (Nat.le_of_ble_eq_true rfl) d_T_speak_50) (fun r5 σ6 q7 => ?_)
      obtain ⟨rfl, rfl⟩ := q7
      refine v_iret F hr rfl d_T_speak_53 ?_
      first | (simp_all [tSpeak, tkS, uI_o]; done) | (simp_all [tSpeak, tkS, uI_o]; grind)
    · skip
      refine v_iconst (v := 1) F d_T_speak_31 ki_1 ?_
      refine v_goto F 36 d_T_speak_32 rfl ?_
      refine v_puti F fk_T_88 pk_T_told G0 rfl d_T_speak_36 ?_
      refine v_ns (fun σ8 eσ8 => ?_)
      refine v_aload_n F d_T_speak_39 rfl 0 rfl ?_
      refine v_getr (r := 19) F fk_T_36 G0 rfl d_T_speak_40 ?_
      refine v_aload_n F d_T_speak_43 rfl 0 rfl ?_
      refine v_getr (r := 19) F fk_T_36 G0 rfl d_T_speak_44 ?_
      refine v_geti F fk_T_166 G19 rfl d_T_speak_47 ?_
      refine v_te (y := nI L) (by simp_all [uI_o]) ?_
      refine v_runi (r_V F (c_B_talkers X.2.1 u hA σ8 (bkOk_of hb (by simp_all [uI_o]) (by simp_all [uI_o]) (by simp_all [uI_o])) L (by omega)) mo_B_talkers st_T_183 rc_19 (by decide) rfl (Nat.le_of_ble_eq_true rfl) d_T_speak_50) (fun r9 σ10 q11 => ?_)
      obtain ⟨rfl, rfl⟩ := q11
      refine v_iret F hr rfl d_T_speak_53 ?_
      first | (simp_all [tSpeak, tkS, uI_o]; done) | (simp_all [tSpeak, tkS, uI_o]; grind)
  · skip
    refine v_bipush (v := (-4)) F d_T_speak_10 kb_m4 ?_
    refine v_iret F hr rfl d_T_speak_12 ?_
    first | (simp_all [tSpeak, tkS, uI_o]; done) | (simp_all [tSpeak, tkS, uI_o]; grind)
abbrev b_T_safe : ByteArray := prog_1_method_22_code
abbrev y_T_safe : MethodName := ⟨"TakerBook", "safe", "()I"⟩
theorem d_T_safe_0 : decode b_T_safe 0 = .ok (.aload_n 0, 1) := by decide +kernel
theorem d_T_safe_1 : decode b_T_safe 1 = .ok (.getfield 36, 3) := by decide +kernel
theorem d_T_safe_4 : decode b_T_safe 4 = .ok (.getfield 118, 3) := by decide +kernel
theorem d_T_safe_7 : decode b_T_safe 7 = .ok (.ifCond .ne 6, 3) := by decide +kernel
theorem d_T_safe_10 : decode b_T_safe 10 = .ok (.bipush (-4), 2) := by decide +kernel
theorem d_T_safe_12 : decode b_T_safe 12 = .ok (.ireturn, 1) := by decide +kernel
theorem d_T_safe_13 : decode b_T_safe 13 = .ok (.bipush 7, 2) := by decide +kernel
theorem d_T_safe_15 : decode b_T_safe 15 = .ok (.istore_n 1, 1) := by decide +kernel
theorem d_T_safe_16 : decode b_T_safe 16 = .ok (.iconst 0, 1) := by decide +kernel
theorem d_T_safe_17 : decode b_T_safe 17 = .ok (.istore_n 2, 1) := by decide +kernel
theorem d_T_safe_18 : decode b_T_safe 18 = .ok (.iload_n 2, 1) := by decide +kernel
theorem d_T_safe_19 : decode b_T_safe 19 = .ok (.bipush 64, 2) := by decide +kernel
theorem d_T_safe_21 : decode b_T_safe 21 = .ok (.if_icmp .ge 59, 3) := by decide +kernel
theorem d_T_safe_24 : decode b_T_safe 24 = .ok (.aload_n 0, 1) := by decide +kernel
theorem d_T_safe_25 : decode b_T_safe 25 = .ok (.getfield 36, 3) := by decide +kernel
theorem d_T_safe_28 : decode b_T_safe 28 = .ok (.iload_n 2, 1) := by decide +kernel
theorem d_T_safe_29 : decode b_T_safe 29 = .ok (.invokevirtual 186, 3) := by decide +kernel
theorem d_T_safe_32 : decode b_T_safe 32 = .ok (.ifCond .eq 42, 3) := by decide +kernel
theorem d_T_safe_35 : decode b_T_safe 35 = .ok (.iload_n 2, 1) := by decide +kernel
theorem d_T_safe_36 : decode b_T_safe 36 = .ok (.invokestatic 189, 3) := by decide +kernel
theorem d_T_safe_39 : decode b_T_safe 39 = .ok (.iload_n 1, 1) := by decide +kernel
theorem d_T_safe_40 : decode b_T_safe 40 = .ok (.if_icmp .ge 34, 3) := by decide +kernel
theorem d_T_safe_43 : decode b_T_safe 43 = .ok (.aload_n 0, 1) := by decide +kernel
theorem d_T_safe_44 : decode b_T_safe 44 = .ok (.getfield 36, 3) := by decide +kernel
theorem d_T_safe_47 : decode b_T_safe 47 = .ok (.aload_n 0, 1) := by decide +kernel
theorem d_T_safe_48 : decode b_T_safe 48 = .ok (.getfield 36, 3) := by decide +kernel
theorem d_T_safe_51 : decode b_T_safe 51 = .ok (.getfield 166, 3) := by decide +kernel
theorem d_T_safe_54 : decode b_T_safe 54 = .ok (.iload_n 2, 1) := by decide +kernel
theorem d_T_safe_55 : decode b_T_safe 55 = .ok (.iconst (-1), 1) := by decide +kernel
theorem d_T_safe_56 : decode b_T_safe 56 = .ok (.ixor, 1) := by decide +kernel
theorem d_T_safe_57 : decode b_T_safe 57 = .ok (.iand, 1) := by decide +kernel
theorem d_T_safe_58 : decode b_T_safe 58 = .ok (.invokevirtual 180, 3) := by decide +kernel
theorem d_T_safe_61 : decode b_T_safe 61 = .ok (.ifCond .ne 13, 3) := by decide +kernel
theorem d_T_safe_64 : decode b_T_safe 64 = .ok (.iload_n 2, 1) := by decide +kernel
theorem d_T_safe_65 : decode b_T_safe 65 = .ok (.invokestatic 189, 3) := by decide +kernel
theorem d_T_safe_68 : decode b_T_safe 68 = .ok (.istore_n 1, 1) := by decide +kernel
theorem d_T_safe_69 : decode b_T_safe 69 = .ok (.aload_n 0, 1) := by decide +kernel
theorem d_T_safe_70 : decode b_T_safe 70 = .ok (.iload_n 2, 1) := by decide +kernel
theorem d_T_safe_71 : decode b_T_safe 71 = .ok (.putfield 88, 3) := by decide +kernel
theorem d_T_safe_74 : decode b_T_safe 74 = .ok (.iinc 2 1, 3) := by decide +kernel
theorem d_T_safe_77 : decode b_T_safe 77 = .ok (.goto (-59), 3) := by decide +kernel
theorem d_T_safe_80 : decode b_T_safe 80 = .ok (.iload_n 1, 1) := by decide +kernel
theorem d_T_safe_81 : decode b_T_safe 81 = .ok (.ireturn, 1) := by decide +kernel
theorem mo_T_safe : mok y_T_safe b_T_safe 3 (some .int) 0 := ⟨List.mem_of_getElem? (i := 725) (by decide +kernel), ⟨by decide +kernel, by decide +kernel, by decide +kernel⟩, List.mem_of_getElem? (i := 74) (by decide +kernel), by decide⟩
set_option maxHeartbeats 4000000 in
theorem L_T_safe_18 {X : FX} {u : Un} (hA : Ap u) {Q : State → Prop} (F : Fr X u "TakerBook" b_T_safe 3) {σ : St} {n G : Nat} {kd : Nat → Nat} (hb : bkOk σ n G kd) {L : Nat} (hL : σ.1 19 14 = nI L) (hL64 : L < 64) (k : V X u 7 3 Q 80 [(0, .ref (u.2.1 0)), (1, .int (nI ((itr (safeF σ G kd n L) (7, none) 64).1))), (2, .int (nI 64))] [] ((tdS σ (itr (safeF σ G kd n L) (7, none) 64).2))) : ∀ (nn s : Nat), s ≤ 64 → 64 - s < nn → V X u 7 3 Q 18 [(0, .ref (u.2.1 0)), (1, .int (nI ((itr (safeF σ G kd n L) (7, none) s).1))), (2, .int (nI s))] [] ((tdS σ (itr (safeF σ G kd n L) (7, none) s).2)) := by
  intro nn
  induction nn with
  | zero =>
    intro s h1 h2
    exact absurd h2 (Nat.not_lt_zero _)
  | succ nn ih =>
    intro s hii hnn
    obtain ⟨hn, hn6, hG, hG64, hkd, hk6⟩ := id hb
    have hfb := safeF_b (σ := σ) (G := G) (kd := kd) (n := n) (L := L) s hii
    have hpl : s < 64 → pcN s ≤ 6 := pc_le s
    refine v_iload_n F d_T_safe_18 rfl 2 rfl ?_
    refine v_bipush (v := 64) F d_T_safe_19 kb_64 ?_
    refine v_icmp_ge F 80 d_T_safe_21 rfl (fun h21 => ?_) (fun h21 => ?_)
    · skip
      have h21 : 64 ≤ s := (nI_leI (a := 64) (b := s) (by omega) (by omega)).mp h21
      have he : s = 64 := by omega
      subst he
      exact k
    · skip
      have h21 : ¬ 64 ≤ s := fun q => h21 ((nI_leI (a := 64) (b := s) (by omega) (by omega)).mpr q)
      refine v_aload_n F d_T_safe_24 rfl 0 rfl ?_
      refine v_getr (r := 19) F fk_T_36 G0 rfl d_T_safe_25 ?_
      refine v_iload_n F d_T_safe_28 rfl 2 rfl ?_
      refine v_runi (r_V F (c_B_isOfLeft X.2.1 u hA (tdS σ (itr (safeF σ G kd n L) (7, none) s).2) (by rw [tdS_k _ _ (by decide)]; exact hL) hL64 s (by omega)) mo_B_isOfLeft st_T_186 rc_19 (by decide) rfl (Nat.le_of_ble_eq_true rfl) d_T_safe_29) (fun r1 σ2 q3 => ?_)
      obtain ⟨rfl, rfl⟩ := q3
      refine v_bt F 74 d_T_safe_32 rfl (fun h32 => ?_) (fun h32 => ?_)
      · skip
        refine v_iinc (v := nI (s + 1)) (ls' := [(2, .int (nI (s + 1))), (0, .ref (u.2.1 0)), (1, .int (nI ((itr (safeF σ G kd n L) (7, none) s).1)))]) F d_T_safe_74 (j := 2) rfl (nI_inc _) (by decide) rfl ?_
        refine v_goto F 18 d_T_safe_77 rfl ?_
        refine v_sub [1, 2, 0] (ls' := [(0, .ref (u.2.1 0)), (1, .int (nI ((itr (safeF σ G kd n L) (7, none) s).1))), (2, .int (nI (s + 1)))]) rfl ?_
        have g4 : (nI ((itr (safeF σ G kd n L) (7, none) s).1)) = (nI ((itr (safeF σ G kd n L) (7, none) (s + 1)).1)) := (by first | rfl | (simp only [itr, safeF]; rw [if_pos ⟨(by first | assumption | omega), (by first | assumption | omega), (by first | assumption | omega)⟩]; first | done | rfl | (subst_vars; rfl) | (subst_vars; exact tdS_u _ _ _)) | (simp only [itr, safeF]; rw [if_neg (by rintro ⟨q0, q1, q2⟩; first | exact absurd q0 (by assumption) | exact q0 (by assumption) | exact absurd q1 (by assumption) | exact q1 (by assumption) | exact absurd q2 (by assumption) | exact q2 (by assumption) | omega)]))
        refine v_to (ls' := [(0, .ref (u.2.1 0)), (1, .int (nI ((itr (safeF σ G kd n L) (7, none) (s + 1)).1))), (2, .int (nI (s + 1)))]) (by first | rfl | rw [g4] | simp_all) ?_
        refine v_st (show (tdS σ (itr (safeF σ G kd n L) (7, none) s).2) = (tdS σ (itr (safeF σ G kd n L) (7, none) (s + 1)).2) from (by first | rfl | (simp only [itr, safeF]; rw [if_pos ⟨(by first | assumption | omega), (by first | assumption | omega), (by first | assumption | omega)⟩]; first | done | rfl | (subst_vars; rfl) | (subst_vars; exact tdS_u _ _ _)) | (simp only [itr, safeF]; rw [if_neg (by rintro ⟨q0, q1, q2⟩; first | exact absurd q0 (by assumption) | exact q0 (by assumption) | exact absurd q1 (by assumption) | exact q1 (by assumption) | exact absurd q2 (by assumption) | exact q2 (by assumption) | omega)]))) ?_
        exact ih (s + 1) (by omega) (by omega)
      · skip
        refine v_iload_n F d_T_safe_35 rfl 2 rfl ?_
        refine v_runi (r_S F (c_I_bitCount X.2.1 u hA (tdS σ (itr (safeF σ G kd n L) (7, none) s).2) s (by omega)) mo_I_bitCount st_T_189 (by decide) rfl (Nat.le_of_ble_eq_true rfl) d_T_safe_36) (fun r5 σ6 q7 => ?_)
        obtain ⟨rfl, rfl⟩ := q7
        refine v_iload_n F d_T_safe_39 rfl 1 rfl ?_
        refine v_icmp_ge F 74 d_T_safe_40 rfl (fun h40 => ?_) (fun h40 => ?_)
        · skip
          have h40 : (itr (safeF σ G kd n L) (7, none) s).1 ≤ pcN s := (nI_leI (a := (itr (safeF σ G kd n L) (7, none) s).1) (b := pcN s) (by omega) (by omega)).mp h40
          refine v_iinc (v := nI (s + 1)) (ls' := [(2, .int (nI (s + 1))), (0, .ref (u.2.1 0)), (1, .int (nI ((itr (safeF σ G kd n L) (7, none) s).1)))]) F d_T_safe_74 (j := 2) rfl (nI_inc _) (by decide) rfl ?_
          refine v_goto F 18 d_T_safe_77 rfl ?_
          refine v_sub [1, 2, 0] (ls' := [(0, .ref (u.2.1 0)), (1, .int (nI ((itr (safeF σ G kd n L) (7, none) s).1))), (2, .int (nI (s + 1)))]) rfl ?_
          have g8 : (nI ((itr (safeF σ G kd n L) (7, none) s).1)) = (nI ((itr (safeF σ G kd n L) (7, none) (s + 1)).1)) := (by first | rfl | (simp only [itr, safeF]; rw [if_pos ⟨(by first | assumption | omega), (by first | assumption | omega), (by first | assumption | omega)⟩]; first | done | rfl | (subst_vars; rfl) | (subst_vars; exact tdS_u _ _ _)) | (simp only [itr, safeF]; rw [if_neg (by rintro ⟨q0, q1, q2⟩; first | exact absurd q0 (by assumption) | exact q0 (by assumption) | exact absurd q1 (by assumption) | exact q1 (by assumption) | exact absurd q2 (by assumption) | exact q2 (by assumption) | omega)]))
          refine v_to (ls' := [(0, .ref (u.2.1 0)), (1, .int (nI ((itr (safeF σ G kd n L) (7, none) (s + 1)).1))), (2, .int (nI (s + 1)))]) (by first | rfl | rw [g8] | simp_all) ?_
          refine v_st (show (tdS σ (itr (safeF σ G kd n L) (7, none) s).2) = (tdS σ (itr (safeF σ G kd n L) (7, none) (s + 1)).2) from (by first | rfl | (simp only [itr, safeF]; rw [if_pos ⟨(by first | assumption | omega), (by first | assumption | omega), (by first | assumption | omega)⟩]; first | done | rfl | (subst_vars; rfl) | (subst_vars; exact tdS_u _ _ _)) | (simp only [itr, safeF]; rw [if_neg (by rintro ⟨q0, q1, q2⟩; first | exact absurd q0 (by assumption) | exact q0 (by assumption) | exact absurd q1 (by assumption) | exact q1 (by assumption) | exact absurd q2 (by assumption) | exact q2 (by assumption) | omega)]))) ?_
          exact ih (s + 1) (by omega) (by omega)
        · skip
          have h40 : ¬ (itr (safeF σ G kd n L) (7, none) s).1 ≤ pcN s := fun q => h40 ((nI_leI (a := (itr (safeF σ G kd n L) (7, none) s).1) (b := pcN s) (by omega) (by omega)).mpr q)
          refine v_aload_n F d_T_safe_43 rfl 0 rfl ?_
          refine v_getr (r := 19) F fk_T_36 G0 rfl d_T_safe_44 ?_
          refine v_aload_n F d_T_safe_47 rfl 0 rfl ?_
          refine v_getr (r := 19) F fk_T_36 G0 rfl d_T_safe_48 ?_
          refine v_geti F fk_T_166 G19 rfl d_T_safe_51 ?_
          refine v_te (y := nI L) (by rw [tdS_k _ _ (by decide)]; exact hL) ?_
          refine v_iload_n F d_T_safe_54 rfl 2 rfl ?_
          refine v_iconst (v := (-1)) F d_T_safe_55 ki_m1 ?_
          refine v_ixor F d_T_safe_56 ?_
          refine v_iand F d_T_safe_57 ?_
          refine v_te (y := nI (L &&& (63 ^^^ s))) (sub6 hL64 (by omega)) ?_
          refine v_runi (r_V F (c_B_wouldBeTried X.2.1 u hA (tdS σ (itr (safeF σ G kd n L) (7, none) s).2) (tdS_ok hb) (L &&& (63 ^^^ s)) (and_lt hL64)) mo_B_wouldBeTried st_T_180 rc_19 (by decide) rfl (Nat.le_of_ble_eq_true rfl) d_T_safe_58) (fun r9 σ10 q11 => ?_)
          obtain ⟨rfl, rfl⟩ := q11
          refine v_bf F 74 d_T_safe_61 rfl (fun h61 => ?_) (fun h61 => ?_)
          · skip
            rw [tkS_td, tdS_k _ _ (by decide)] at h61
            refine v_iinc (v := nI (s + 1)) (ls' := [(2, .int (nI (s + 1))), (0, .ref (u.2.1 0)), (1, .int (nI ((itr (safeF σ G kd n L) (7, none) s).1)))]) F d_T_safe_74 (j := 2) rfl (nI_inc _) (by decide) rfl ?_
            refine v_goto F 18 d_T_safe_77 rfl ?_
            refine v_sub [1, 2, 0] (ls' := [(0, .ref (u.2.1 0)), (1, .int (nI ((itr (safeF σ G kd n L) (7, none) s).1))), (2, .int (nI (s + 1)))]) rfl ?_
            have g12 : (nI ((itr (safeF σ G kd n L) (7, none) s).1)) = (nI ((itr (safeF σ G kd n L) (7, none) (s + 1)).1)) := (by first | rfl | (simp only [itr, safeF]; rw [if_pos ⟨(by first | assumption | omega), (by first | assumption | omega), (by first | assumption | omega)⟩]; first | done | rfl | (subst_vars; rfl) | (subst_vars; exact tdS_u _ _ _)) | (simp only [itr, safeF]; rw [if_neg (by rintro ⟨q0, q1, q2⟩; first | exact absurd q0 (by assumption) | exact q0 (by assumption) | exact absurd q1 (by assumption) | exact q1 (by assumption) | exact absurd q2 (by assumption) | exact q2 (by assumption) | omega)]))
            refine v_to (ls' := [(0, .ref (u.2.1 0)), (1, .int (nI ((itr (safeF σ G kd n L) (7, none) (s + 1)).1))), (2, .int (nI (s + 1)))]) (by first | rfl | rw [g12] | simp_all) ?_
            refine v_st (show (tdS σ (itr (safeF σ G kd n L) (7, none) s).2) = (tdS σ (itr (safeF σ G kd n L) (7, none) (s + 1)).2) from (by first | rfl | (simp only [itr, safeF]; rw [if_pos ⟨(by first | assumption | omega), (by first | assumption | omega), (by first | assumption | omega)⟩]; first | done | rfl | (subst_vars; rfl) | (subst_vars; exact tdS_u _ _ _)) | (simp only [itr, safeF]; rw [if_neg (by rintro ⟨q0, q1, q2⟩; first | exact absurd q0 (by assumption) | exact q0 (by assumption) | exact absurd q1 (by assumption) | exact q1 (by assumption) | exact absurd q2 (by assumption) | exact q2 (by assumption) | omega)]))) ?_
            exact ih (s + 1) (by omega) (by omega)
          · skip
            rw [tkS_td, tdS_k _ _ (by decide)] at h61
            refine v_iload_n F d_T_safe_64 rfl 2 rfl ?_
            refine v_runi (r_S F (c_I_bitCount X.2.1 u hA (tdS σ (itr (safeF σ G kd n L) (7, none) s).2) s (by omega)) mo_I_bitCount st_T_189 (by decide) rfl (Nat.le_of_ble_eq_true rfl) d_T_safe_65) (fun r13 σ14 q15 => ?_)
            obtain ⟨rfl, rfl⟩ := q15
            refine v_istore_n (ls' := [(1, .int (nI (pcN s))), (0, .ref (u.2.1 0)), (2, .int (nI s))]) F d_T_safe_68 rfl (by decide) rfl ?_
            refine v_aload_n F d_T_safe_69 rfl 1 rfl ?_
            refine v_iload_n F d_T_safe_70 rfl 2 rfl ?_
            refine v_puti F fk_T_88 pk_T_told G0 rfl d_T_safe_71 ?_
            refine v_ns (fun σ16 eσ16 => ?_)
            refine v_iinc (v := nI (s + 1)) (ls' := [(2, .int (nI (s + 1))), (1, .int (nI (pcN s))), (0, .ref (u.2.1 0))]) F d_T_safe_74 (j := 2) rfl (nI_inc _) (by decide) rfl ?_
            refine v_goto F 18 d_T_safe_77 rfl ?_
            refine v_sub [2, 1, 0] (ls' := [(0, .ref (u.2.1 0)), (1, .int (nI (pcN s))), (2, .int (nI (s + 1)))]) rfl ?_
            have g17 : (nI (pcN s)) = (nI ((itr (safeF σ G kd n L) (7, none) (s + 1)).1)) := (by first | rfl | (simp only [itr, safeF]; rw [if_pos ⟨(by first | assumption | omega), (by first | assumption | omega), (by first | assumption | omega)⟩]; first | done | rfl | (subst_vars; rfl) | (subst_vars; exact tdS_u _ _ _)) | (simp only [itr, safeF]; rw [if_neg (by rintro ⟨q0, q1, q2⟩; first | exact absurd q0 (by assumption) | exact q0 (by assumption) | exact absurd q1 (by assumption) | exact q1 (by assumption) | exact absurd q2 (by assumption) | exact q2 (by assumption) | omega)]))
            refine v_to (ls' := [(0, .ref (u.2.1 0)), (1, .int (nI ((itr (safeF σ G kd n L) (7, none) (s + 1)).1))), (2, .int (nI (s + 1)))]) (by first | rfl | rw [g17] | simp_all) ?_
            refine v_st (show σ16 = (tdS σ (itr (safeF σ G kd n L) (7, none) (s + 1)).2) from (by first | rfl | (simp only [itr, safeF]; rw [if_pos ⟨(by first | assumption | omega), (by first | assumption | omega), (by first | assumption | omega)⟩]; first | done | rfl | (subst_vars; rfl) | (subst_vars; exact tdS_u _ _ _)) | (simp only [itr, safeF]; rw [if_neg (by rintro ⟨q0, q1, q2⟩; first | exact absurd q0 (by assumption) | exact q0 (by assumption) | exact absurd q1 (by assumption) | exact q1 (by assumption) | exact absurd q2 (by assumption) | exact q2 (by assumption) | omega)]))) ?_
            exact ih (s + 1) (by omega) (by omega)
set_option maxHeartbeats 4000000 in
theorem c_T_safe (l : Launch) (u : Un) (hA : Ap u) (σ : St) {n G : Nat} {kd : Nat → Nat} (hb : bkOk σ n G kd) {L : Nat} (hL : σ.1 19 14 = nI L) (hL64 : L < 64) : MTi l u y_T_safe b_T_safe 3 .int 7 [.ref (u.2.1 0)] σ (fun ans σ' => (ans, σ') = tSafe σ G kd n L) := by
  refine MT_of hA rfl (by decide) (Nat.le_of_ble_eq_true rfl) (fun X hl F hr => ?_)
  subst hl
  refine v_to (ls' := [(0, .ref (u.2.1 0))]) rfl ?_
  obtain ⟨hn, hn6, hG, hG64, hkd, hk6⟩ := id hb
  refine v_aload_n F d_T_safe_0 rfl 0 rfl ?_
  refine v_getr (r := 19) F fk_T_36 G0 rfl d_T_safe_1 ?_
  refine v_geti F fk_T_118 G19 rfl d_T_safe_4 ?_
  refine v_te (y := nI n) hn ?_
  refine v_if_ne F 13 d_T_safe_7 rfl (fun h7 => ?_) (fun h7 => ?_)
  · skip
    have h7 : ¬ n = 0 := fun q => h7 ((nI_eq (a := n) (b := 0) (by omega) (by omega)).mpr q)
    refine v_bipush (v := 7) F d_T_safe_13 kb_7 ?_
    refine v_istore_n (ls' := [(1, .int 7), (0, .ref (u.2.1 0))]) F d_T_safe_15 rfl (by decide) rfl ?_
    refine v_iconst (v := 0) F d_T_safe_16 ki_0 ?_
    refine v_istore_n (ls' := [(2, .int 0), (1, .int 7), (0, .ref (u.2.1 0))]) F d_T_safe_17 rfl (by decide) rfl ?_
    refine v_sub [2, 1, 0] (ls' := [(0, .ref (u.2.1 0)), (1, .int 7), (2, .int 0)]) rfl ?_
    have g1 : 7 = (nI ((itr (safeF σ G kd n L) (7, none) 0).1)) := (by first | rfl | (simp only [itr, safeF]; rw [if_pos ⟨(by first | assumption | omega), (by first | assumption | omega), (by first | assumption | omega)⟩]; first | done | rfl | (subst_vars; rfl) | (subst_vars; exact tdS_u _ _ _)) | (simp only [itr, safeF]; rw [if_neg (by rintro ⟨q0, q1, q2⟩; first | exact absurd q0 (by assumption) | exact q0 (by assumption) | exact absurd q1 (by assumption) | exact q1 (by assumption) | exact absurd q2 (by assumption) | exact q2 (by assumption) | omega)]))
    have g2 : 0 = (nI 0) := (by first | rfl | (simp only [itr, safeF]; rw [if_pos ⟨(by first | assumption | omega), (by first | assumption | omega), (by first | assumption | omega)⟩]; first | done | rfl | (subst_vars; rfl) | (subst_vars; exact tdS_u _ _ _)) | (simp only [itr, safeF]; rw [if_neg (by rintro ⟨q0, q1, q2⟩; first | exact absurd q0 (by assumption) | exact q0 (by assumption) | exact absurd q1 (by assumption) | exact q1 (by assumption) | exact absurd q2 (by assumption) | exact q2 (by assumption) | omega)]))
    refine v_to (ls' := [(0, .ref (u.2.1 0)), (1, .int (nI ((itr (safeF σ G kd n L) (7, none) 0).1))), (2, .int (nI 0))]) (by first | rfl | rw [g1, g2] | simp_all) ?_
    refine v_st (show σ = (tdS σ (itr (safeF σ G kd n L) (7, none) 0).2) from (by first | rfl | (simp only [itr, safeF]; rw [if_pos ⟨(by first | assumption | omega), (by first | assumption | omega), (by first | assumption | omega)⟩]; first | done | rfl | (subst_vars; rfl) | (subst_vars; exact tdS_u _ _ _)) | (simp only [itr, safeF]; rw [if_neg (by rintro ⟨q0, q1, q2⟩; first | exact absurd q0 (by assumption) | exact q0 (by assumption) | exact absurd q1 (by assumption) | exact q1 (by assumption) | exact absurd q2 (by assumption) | exact q2 (by assumption) | omega)]))) ?_
    refine L_T_safe_18 hA F hb hL hL64 ?_ _ 0 (Nat.zero_le _) (Nat.lt_succ_self _)
    refine v_iload_n F d_T_safe_80 rfl 1 rfl ?_
    refine v_iret F hr rfl d_T_safe_81 ?_
    first | (simp_all [tSafe]; done) | (simp_all [tSafe]; grind)
  · skip
    have h7 : n = 0 := (nI_eq (a := n) (b := 0) (by omega) (by omega)).mp h7
    refine v_bipush (v := (-4)) F d_T_safe_10 kb_m4 ?_
    refine v_iret F hr rfl d_T_safe_12 ?_
    first | (simp_all [tSafe]; done) | (simp_all [tSafe]; grind)
abbrev b_T_total : ByteArray := prog_1_method_65_code
abbrev y_T_total : MethodName := ⟨"TakerBook", "total", "(I[I)I"⟩
theorem d_T_total_0 : decode b_T_total 0 = .ok (.iconst 0, 1) := by decide +kernel
theorem d_T_total_1 : decode b_T_total 1 = .ok (.istore_n 2, 1) := by decide +kernel
theorem d_T_total_2 : decode b_T_total 2 = .ok (.iconst 0, 1) := by decide +kernel
theorem d_T_total_3 : decode b_T_total 3 = .ok (.istore_n 3, 1) := by decide +kernel
theorem d_T_total_4 : decode b_T_total 4 = .ok (.iload_n 3, 1) := by decide +kernel
theorem d_T_total_5 : decode b_T_total 5 = .ok (.bipush 6, 2) := by decide +kernel
theorem d_T_total_7 : decode b_T_total 7 = .ok (.if_icmp .ge 23, 3) := by decide +kernel
theorem d_T_total_10 : decode b_T_total 10 = .ok (.iload_n 3, 1) := by decide +kernel
theorem d_T_total_11 : decode b_T_total 11 = .ok (.iload_n 0, 1) := by decide +kernel
theorem d_T_total_12 : decode b_T_total 12 = .ok (.invokestatic 169, 3) := by decide +kernel
theorem d_T_total_15 : decode b_T_total 15 = .ok (.ifCond .eq 9, 3) := by decide +kernel
theorem d_T_total_18 : decode b_T_total 18 = .ok (.iload_n 2, 1) := by decide +kernel
theorem d_T_total_19 : decode b_T_total 19 = .ok (.aload_n 1, 1) := by decide +kernel
theorem d_T_total_20 : decode b_T_total 20 = .ok (.iload_n 3, 1) := by decide +kernel
theorem d_T_total_21 : decode b_T_total 21 = .ok (.iaload, 1) := by decide +kernel
theorem d_T_total_22 : decode b_T_total 22 = .ok (.iadd, 1) := by decide +kernel
theorem d_T_total_23 : decode b_T_total 23 = .ok (.istore_n 2, 1) := by decide +kernel
theorem d_T_total_24 : decode b_T_total 24 = .ok (.iinc 3 1, 3) := by decide +kernel
theorem d_T_total_27 : decode b_T_total 27 = .ok (.goto (-23), 3) := by decide +kernel
theorem d_T_total_30 : decode b_T_total 30 = .ok (.iload_n 2, 1) := by decide +kernel
theorem d_T_total_31 : decode b_T_total 31 = .ok (.ireturn, 1) := by decide +kernel
theorem mo_T_total : mok y_T_total b_T_total 4 (some .int) 2 := ⟨List.mem_of_getElem? (i := 762) (by decide +kernel), ⟨by decide +kernel, by decide +kernel, by decide +kernel⟩, List.mem_of_getElem? (i := 74) (by decide +kernel), by decide⟩
set_option maxHeartbeats 4000000 in
theorem L_T_total_4 {X : FX} {u : Un} (hA : Ap u) {Q : State → Prop} (F : Fr X u "TakerBook" b_T_total 4) {σ : St} {s kc : Nat} (hk : nowOk kc) (hs : s < 64) (k : V X u 1 4 Q 30 [(0, .int (nI s)), (1, .ref (u.2.1 kc)), (2, .int (totF (σ.1 kc) s 6)), (3, .int (nI 6))] [] (σ)) : ∀ (nn i : Nat), i ≤ 6 → 6 - i < nn → V X u 1 4 Q 4 [(0, .int (nI s)), (1, .ref (u.2.1 kc)), (2, .int (totF (σ.1 kc) s i)), (3, .int (nI i))] [] (σ) := by
  intro nn
  induction nn with
  | zero =>
    intro i h1 h2
    exact absurd h2 (Nat.not_lt_zero _)
  | succ nn ih =>
    intro i hii hnn
    refine v_iload_n F d_T_total_4 rfl 3 rfl ?_
    refine v_bipush (v := 6) F d_T_total_5 kb_6 ?_
    refine v_icmp_ge F 30 d_T_total_7 rfl (fun h7 => ?_) (fun h7 => ?_)
    · skip
      have h7 : 6 ≤ i := (nI_leI (a := 6) (b := i) (by omega) (by omega)).mp h7
      have he : i = 6 := by omega
      subst he
      exact k
    · skip
      have h7 : ¬ 6 ≤ i := fun q => h7 ((nI_leI (a := 6) (b := i) (by omega) (by omega)).mpr q)
      refine v_iload_n F d_T_total_10 rfl 3 rfl ?_
      refine v_iload_n F d_T_total_11 rfl 0 rfl ?_
      refine v_runi (r_S F (c_T_isIn2 X.2.1 u hA σ i s (by omega) (by omega)) mo_T_isIn st_T_169 (by decide) rfl (Nat.le_of_ble_eq_true rfl) d_T_total_12) (fun r1 σ2 q3 => ?_)
      obtain ⟨rfl, rfl⟩ := q3
      refine v_bt F 24 d_T_total_15 rfl (fun h15 => ?_) (fun h15 => ?_)
      · skip
        refine v_iinc (v := nI (i + 1)) (ls' := [(3, .int (nI (i + 1))), (0, .int (nI s)), (1, .ref (u.2.1 kc)), (2, .int (totF (σ.1 kc) s i))]) F d_T_total_24 (j := 3) rfl (nI_inc _) (by decide) rfl ?_
        refine v_goto F 4 d_T_total_27 rfl ?_
        refine v_sub [1, 2, 3, 0] (ls' := [(0, .int (nI s)), (1, .ref (u.2.1 kc)), (2, .int (totF (σ.1 kc) s i)), (3, .int (nI (i + 1)))]) rfl ?_
        have g4 : (totF (σ.1 kc) s i) = (totF (σ.1 kc) s (i + 1)) := (by first | rfl | (simp [totF, *]; done) | (simp_all [totF]; done) | grind [totF])
        refine v_to (ls' := [(0, .int (nI s)), (1, .ref (u.2.1 kc)), (2, .int (totF (σ.1 kc) s (i + 1))), (3, .int (nI (i + 1)))]) (by first | rfl | rw [g4] | simp_all) ?_
        exact ih (i + 1) (by omega) (by omega)
      · skip
        refine v_iload_n F d_T_total_18 rfl 2 rfl ?_
        refine v_aload_n F d_T_total_19 rfl 1 rfl ?_
        refine v_iload_n F d_T_total_20 rfl 3 rfl ?_
        refine v_ial F i hk.gam rfl (by omega) d_T_total_21 ?_
        refine v_iadd F d_T_total_22 ?_
        refine v_ni (fun x5 ex5 => ?_)
        refine v_istore_n (ls' := [(2, .int x5), (0, .int (nI s)), (1, .ref (u.2.1 kc)), (3, .int (nI i))]) F d_T_total_23 rfl (by decide) rfl ?_
        refine v_iinc (v := nI (i + 1)) (ls' := [(3, .int (nI (i + 1))), (2, .int x5), (0, .int (nI s)), (1, .ref (u.2.1 kc))]) F d_T_total_24 (j := 3) rfl (nI_inc _) (by decide) rfl ?_
        refine v_goto F 4 d_T_total_27 rfl ?_
        refine v_sub [2, 3, 1, 0] (ls' := [(0, .int (nI s)), (1, .ref (u.2.1 kc)), (2, .int x5), (3, .int (nI (i + 1)))]) rfl ?_
        have g6 : x5 = (totF (σ.1 kc) s (i + 1)) := (by first | rfl | (simp [totF, *]; done) | (simp_all [totF]; done) | grind [totF])
        refine v_to (ls' := [(0, .int (nI s)), (1, .ref (u.2.1 kc)), (2, .int (totF (σ.1 kc) s (i + 1))), (3, .int (nI (i + 1)))]) (by first | rfl | rw [g6] | simp_all) ?_
        exact ih (i + 1) (by omega) (by omega)
set_option maxHeartbeats 4000000 in
theorem c_T_total (l : Launch) (u : Un) (hA : Ap u) (σ : St) {s kc : Nat} (hk : nowOk kc) (hs : s < 64) : MTi l u y_T_total b_T_total 4 .int 1 [.int (nI s), .ref (u.2.1 kc)] σ (fun ans σ' => totF (σ.1 kc) s 6 = ans ∧ σ = σ') := by
  refine MT_of hA rfl (by decide) (Nat.le_of_ble_eq_true rfl) (fun X hl F hr => ?_)
  subst hl
  refine v_to (ls' := [(0, .int (nI s)), (1, .ref (u.2.1 kc))]) rfl ?_
  refine v_iconst (v := 0) F d_T_total_0 ki_0 ?_
  refine v_istore_n (ls' := [(2, .int 0), (0, .int (nI s)), (1, .ref (u.2.1 kc))]) F d_T_total_1 rfl (by decide) rfl ?_
  refine v_iconst (v := 0) F d_T_total_2 ki_0 ?_
  refine v_istore_n (ls' := [(3, .int 0), (2, .int 0), (0, .int (nI s)), (1, .ref (u.2.1 kc))]) F d_T_total_3 rfl (by decide) rfl ?_
  refine v_sub [2, 3, 1, 0] (ls' := [(0, .int (nI s)), (1, .ref (u.2.1 kc)), (2, .int 0), (3, .int 0)]) rfl ?_
  have g1 : 0 = (totF (σ.1 kc) s 0) := (by first | rfl | (simp [totF, *]; done) | (simp_all [totF]; done) | grind [totF])
  have g2 : 0 = (nI 0) := (by first | rfl | (simp [totF, *]; done) | (simp_all [totF]; done) | grind [totF])
  refine v_to (ls' := [(0, .int (nI s)), (1, .ref (u.2.1 kc)), (2, .int (totF (σ.1 kc) s 0)), (3, .int (nI 0))]) (by first | rfl | rw [g1, g2] | simp_all) ?_
  refine L_T_total_4 hA F hk hs ?_ _ 0 (Nat.zero_le _) (Nat.lt_succ_self _)
  refine v_iload_n F d_T_total_30 rfl 2 rfl ?_
  refine v_iret F hr rfl d_T_total_31 ?_
  exact ⟨rfl, rfl⟩
abbrev b_T_heads : ByteArray := prog_1_method_24_code
abbrev y_T_heads : MethodName := ⟨"TakerBook", "heads", "(I)I"⟩
theorem d_T_heads_0 : decode b_T_heads 0 = .ok (.iload_n 1, 1) := by decide +kernel
theorem d_T_heads_1 : decode b_T_heads 1 = .ok (.ifCond .lt 9, 3) := by decide +kernel
theorem d_T_heads_4 : decode b_T_heads 4 = .ok (.iload_n 1, 1) := by decide +kernel
theorem d_T_heads_5 : decode b_T_heads 5 = .ok (.bipush 6, 2) := by decide +kernel
theorem d_T_heads_7 : decode b_T_heads 7 = .ok (.if_icmp .le 5, 3) := by decide +kernel
theorem d_T_heads_10 : decode b_T_heads 10 = .ok (.iconst (-1), 1) := by decide +kernel
theorem d_T_heads_11 : decode b_T_heads 11 = .ok (.ireturn, 1) := by decide +kernel
theorem d_T_heads_12 : decode b_T_heads 12 = .ok (.aload_n 0, 1) := by decide +kernel
theorem d_T_heads_13 : decode b_T_heads 13 = .ok (.getfield 36, 3) := by decide +kernel
theorem d_T_heads_16 : decode b_T_heads 16 = .ok (.getfield 118, 3) := by decide +kernel
theorem d_T_heads_19 : decode b_T_heads 19 = .ok (.ifCond .ne 6, 3) := by decide +kernel
theorem d_T_heads_22 : decode b_T_heads 22 = .ok (.bipush (-4), 2) := by decide +kernel
theorem d_T_heads_24 : decode b_T_heads 24 = .ok (.ireturn, 1) := by decide +kernel
theorem d_T_heads_25 : decode b_T_heads 25 = .ok (.aload_n 0, 1) := by decide +kernel
theorem d_T_heads_26 : decode b_T_heads 26 = .ok (.getfield 36, 3) := by decide +kernel
theorem d_T_heads_29 : decode b_T_heads 29 = .ok (.getfield 166, 3) := by decide +kernel
theorem d_T_heads_32 : decode b_T_heads 32 = .ok (.invokestatic 189, 3) := by decide +kernel
theorem d_T_heads_35 : decode b_T_heads 35 = .ok (.iload_n 1, 1) := by decide +kernel
theorem d_T_heads_36 : decode b_T_heads 36 = .ok (.if_icmp .ge 6, 3) := by decide +kernel
theorem d_T_heads_39 : decode b_T_heads 39 = .ok (.bipush (-9), 2) := by decide +kernel
theorem d_T_heads_41 : decode b_T_heads 41 = .ok (.ireturn, 1) := by decide +kernel
theorem d_T_heads_42 : decode b_T_heads 42 = .ok (.aload_n 0, 1) := by decide +kernel
theorem d_T_heads_43 : decode b_T_heads 43 = .ok (.getfield 36, 3) := by decide +kernel
theorem d_T_heads_46 : decode b_T_heads 46 = .ok (.invokevirtual 204, 3) := by decide +kernel
theorem d_T_heads_49 : decode b_T_heads 49 = .ok (.iconst (-1), 1) := by decide +kernel
theorem d_T_heads_50 : decode b_T_heads 50 = .ok (.istore_n 2, 1) := by decide +kernel
theorem d_T_heads_51 : decode b_T_heads 51 = .ok (.iconst 0, 1) := by decide +kernel
theorem d_T_heads_52 : decode b_T_heads 52 = .ok (.istore_n 3, 1) := by decide +kernel
theorem d_T_heads_53 : decode b_T_heads 53 = .ok (.iload_n 3, 1) := by decide +kernel
theorem d_T_heads_54 : decode b_T_heads 54 = .ok (.bipush 64, 2) := by decide +kernel
theorem d_T_heads_56 : decode b_T_heads 56 = .ok (.if_icmp .ge 60, 3) := by decide +kernel
theorem d_T_heads_59 : decode b_T_heads 59 = .ok (.aload_n 0, 1) := by decide +kernel
theorem d_T_heads_60 : decode b_T_heads 60 = .ok (.getfield 36, 3) := by decide +kernel
theorem d_T_heads_63 : decode b_T_heads 63 = .ok (.iload_n 3, 1) := by decide +kernel
theorem d_T_heads_64 : decode b_T_heads 64 = .ok (.invokevirtual 186, 3) := by decide +kernel
theorem d_T_heads_67 : decode b_T_heads 67 = .ok (.ifCond .eq 43, 3) := by decide +kernel
theorem d_T_heads_70 : decode b_T_heads 70 = .ok (.iload_n 3, 1) := by decide +kernel
theorem d_T_heads_71 : decode b_T_heads 71 = .ok (.invokestatic 189, 3) := by decide +kernel
theorem d_T_heads_74 : decode b_T_heads 74 = .ok (.iload_n 1, 1) := by decide +kernel
theorem d_T_heads_75 : decode b_T_heads 75 = .ok (.if_icmp .ne 35, 3) := by decide +kernel
theorem d_T_heads_78 : decode b_T_heads 78 = .ok (.iload_n 3, 1) := by decide +kernel
theorem d_T_heads_79 : decode b_T_heads 79 = .ok (.aload_n 0, 1) := by decide +kernel
theorem d_T_heads_80 : decode b_T_heads 80 = .ok (.getfield 36, 3) := by decide +kernel
theorem d_T_heads_83 : decode b_T_heads 83 = .ok (.getfield 207, 3) := by decide +kernel
theorem d_T_heads_86 : decode b_T_heads 86 = .ok (.invokestatic 210, 3) := by decide +kernel
theorem d_T_heads_89 : decode b_T_heads 89 = .ok (.iload_n 2, 1) := by decide +kernel
theorem d_T_heads_90 : decode b_T_heads 90 = .ok (.if_icmp .le 20, 3) := by decide +kernel
theorem d_T_heads_93 : decode b_T_heads 93 = .ok (.iload_n 3, 1) := by decide +kernel
theorem d_T_heads_94 : decode b_T_heads 94 = .ok (.aload_n 0, 1) := by decide +kernel
theorem d_T_heads_95 : decode b_T_heads 95 = .ok (.getfield 36, 3) := by decide +kernel
theorem d_T_heads_98 : decode b_T_heads 98 = .ok (.getfield 207, 3) := by decide +kernel
theorem d_T_heads_101 : decode b_T_heads 101 = .ok (.invokestatic 210, 3) := by decide +kernel
theorem d_T_heads_104 : decode b_T_heads 104 = .ok (.istore_n 2, 1) := by decide +kernel
theorem d_T_heads_105 : decode b_T_heads 105 = .ok (.aload_n 0, 1) := by decide +kernel
theorem d_T_heads_106 : decode b_T_heads 106 = .ok (.iload_n 3, 1) := by decide +kernel
theorem d_T_heads_107 : decode b_T_heads 107 = .ok (.putfield 88, 3) := by decide +kernel
theorem d_T_heads_110 : decode b_T_heads 110 = .ok (.iinc 3 1, 3) := by decide +kernel
theorem d_T_heads_113 : decode b_T_heads 113 = .ok (.goto (-60), 3) := by decide +kernel
theorem d_T_heads_116 : decode b_T_heads 116 = .ok (.iload_n 2, 1) := by decide +kernel
theorem d_T_heads_117 : decode b_T_heads 117 = .ok (.ireturn, 1) := by decide +kernel
theorem mo_T_heads : mok y_T_heads b_T_heads 4 (some .int) 1 := ⟨List.mem_of_getElem? (i := 755) (by decide +kernel), ⟨by decide +kernel, by decide +kernel, by decide +kernel⟩, List.mem_of_getElem? (i := 74) (by decide +kernel), by decide⟩
set_option maxHeartbeats 4000000 in
theorem L_T_heads_53 {X : FX} {u : Un} (hA : Ap u) {Q : State → Prop} (F : Fr X u "TakerBook" b_T_heads 4) {σ : St} {n G : Nat} {kd : Nat → Nat} (hb : bkOk σ n G kd) {L : Nat} (hL : σ.1 19 14 = nI L) (hL64 : L < 64) {m : Nat} (hm : m ≤ 6) (k : V X u 7 4 Q 116 [(0, .ref (u.2.1 0)), (1, .int (nI m)), (2, .int ((itr (headF (wgd σ G kd n L) m L) (-1, none) 64).1)), (3, .int (nI 64))] [] ((tdS (wgd σ G kd n L) (itr (headF (wgd σ G kd n L) m L) (-1, none) 64).2))) : ∀ (nn s : Nat), s ≤ 64 → 64 - s < nn → V X u 7 4 Q 53 [(0, .ref (u.2.1 0)), (1, .int (nI m)), (2, .int ((itr (headF (wgd σ G kd n L) m L) (-1, none) s).1)), (3, .int (nI s))] [] ((tdS (wgd σ G kd n L) (itr (headF (wgd σ G kd n L) m L) (-1, none) s).2)) := by
  intro nn
  induction nn with
  | zero =>
    intro s h1 h2
    exact absurd h2 (Nat.not_lt_zero _)
  | succ nn ih =>
    intro s hii hnn
    obtain ⟨hn, hn6, hG, hG64, hkd, hk6⟩ := id hb
    have hpl : s < 64 → pcN s ≤ 6 := pc_le s
    refine v_iload_n F d_T_heads_53 rfl 3 rfl ?_
    refine v_bipush (v := 64) F d_T_heads_54 kb_64 ?_
    refine v_icmp_ge F 116 d_T_heads_56 rfl (fun h56 => ?_) (fun h56 => ?_)
    · skip
      have h56 : 64 ≤ s := (nI_leI (a := 64) (b := s) (by omega) (by omega)).mp h56
      have he : s = 64 := by omega
      subst he
      exact k
    · skip
      have h56 : ¬ 64 ≤ s := fun q => h56 ((nI_leI (a := 64) (b := s) (by omega) (by omega)).mpr q)
      refine v_aload_n F d_T_heads_59 rfl 0 rfl ?_
      refine v_getr (r := 19) F fk_T_36 G0 rfl d_T_heads_60 ?_
      refine v_iload_n F d_T_heads_63 rfl 3 rfl ?_
      refine v_runi (r_V F (c_B_isOfLeft X.2.1 u hA (tdS (wgd σ G kd n L) (itr (headF (wgd σ G kd n L) m L) (-1, none) s).2) (by rw [tdS_k _ _ (by decide), wgd_k _ _ _ _ _ (by decide) (by decide)]; exact hL) hL64 s (by omega)) mo_B_isOfLeft st_T_186 rc_19 (by decide) rfl (Nat.le_of_ble_eq_true rfl) d_T_heads_64) (fun r1 σ2 q3 => ?_)
      obtain ⟨rfl, rfl⟩ := q3
      refine v_bt F 110 d_T_heads_67 rfl (fun h67 => ?_) (fun h67 => ?_)
      · skip
        refine v_iinc (v := nI (s + 1)) (ls' := [(3, .int (nI (s + 1))), (0, .ref (u.2.1 0)), (1, .int (nI m)), (2, .int ((itr (headF (wgd σ G kd n L) m L) (-1, none) s).1))]) F d_T_heads_110 (j := 3) rfl (nI_inc _) (by decide) rfl ?_
        refine v_goto F 53 d_T_heads_113 rfl ?_
        refine v_sub [1, 2, 3, 0] (ls' := [(0, .ref (u.2.1 0)), (1, .int (nI m)), (2, .int ((itr (headF (wgd σ G kd n L) m L) (-1, none) s).1)), (3, .int (nI (s + 1)))]) rfl ?_
        have g4 : ((itr (headF (wgd σ G kd n L) m L) (-1, none) s).1) = ((itr (headF (wgd σ G kd n L) m L) (-1, none) (s + 1)).1) := (by first | rfl | (simp only [itr, headF]; rw [if_pos ⟨(by first | assumption | omega), (by first | assumption | omega), (by first | assumption | omega)⟩]; first | done | rfl | (subst_vars; rfl) | (simp only [tdS_k _ _ (show 33 ≠ 0 by decide)] at *; subst_vars; rfl) | (subst_vars; exact tdS_u _ _ _)) | (simp only [itr, headF]; rw [if_neg (by rintro ⟨q0, q1, q2⟩; first | exact absurd q0 (by assumption) | exact q0 (by assumption) | exact absurd q1 (by assumption) | exact q1 (by assumption) | exact absurd q2 (by assumption) | exact q2 (by assumption) | omega)]))
        refine v_to (ls' := [(0, .ref (u.2.1 0)), (1, .int (nI m)), (2, .int ((itr (headF (wgd σ G kd n L) m L) (-1, none) (s + 1)).1)), (3, .int (nI (s + 1)))]) (by first | rfl | rw [g4] | simp_all) ?_
        refine v_st (show (tdS (wgd σ G kd n L) (itr (headF (wgd σ G kd n L) m L) (-1, none) s).2) = (tdS (wgd σ G kd n L) (itr (headF (wgd σ G kd n L) m L) (-1, none) (s + 1)).2) from (by first | rfl | (simp only [itr, headF]; rw [if_pos ⟨(by first | assumption | omega), (by first | assumption | omega), (by first | assumption | omega)⟩]; first | done | rfl | (subst_vars; rfl) | (simp only [tdS_k _ _ (show 33 ≠ 0 by decide)] at *; subst_vars; rfl) | (subst_vars; exact tdS_u _ _ _)) | (simp only [itr, headF]; rw [if_neg (by rintro ⟨q0, q1, q2⟩; first | exact absurd q0 (by assumption) | exact q0 (by assumption) | exact absurd q1 (by assumption) | exact q1 (by assumption) | exact absurd q2 (by assumption) | exact q2 (by assumption) | omega)]))) ?_
        exact ih (s + 1) (by omega) (by omega)
      · skip
        refine v_iload_n F d_T_heads_70 rfl 3 rfl ?_
        refine v_runi (r_S F (c_I_bitCount X.2.1 u hA (tdS (wgd σ G kd n L) (itr (headF (wgd σ G kd n L) m L) (-1, none) s).2) s (by omega)) mo_I_bitCount st_T_189 (by decide) rfl (Nat.le_of_ble_eq_true rfl) d_T_heads_71) (fun r5 σ6 q7 => ?_)
        obtain ⟨rfl, rfl⟩ := q7
        refine v_iload_n F d_T_heads_74 rfl 1 rfl ?_
        refine v_icmp_ne F 110 d_T_heads_75 rfl (fun h75 => ?_) (fun h75 => ?_)
        · skip
          have h75 : ¬ pcN s = m := fun q => h75 ((nI_eq (a := pcN s) (b := m) (by omega) (by omega)).mpr q)
          refine v_iinc (v := nI (s + 1)) (ls' := [(3, .int (nI (s + 1))), (0, .ref (u.2.1 0)), (1, .int (nI m)), (2, .int ((itr (headF (wgd σ G kd n L) m L) (-1, none) s).1))]) F d_T_heads_110 (j := 3) rfl (nI_inc _) (by decide) rfl ?_
          refine v_goto F 53 d_T_heads_113 rfl ?_
          refine v_sub [1, 2, 3, 0] (ls' := [(0, .ref (u.2.1 0)), (1, .int (nI m)), (2, .int ((itr (headF (wgd σ G kd n L) m L) (-1, none) s).1)), (3, .int (nI (s + 1)))]) rfl ?_
          have g8 : ((itr (headF (wgd σ G kd n L) m L) (-1, none) s).1) = ((itr (headF (wgd σ G kd n L) m L) (-1, none) (s + 1)).1) := (by first | rfl | (simp only [itr, headF]; rw [if_pos ⟨(by first | assumption | omega), (by first | assumption | omega), (by first | assumption | omega)⟩]; first | done | rfl | (subst_vars; rfl) | (simp only [tdS_k _ _ (show 33 ≠ 0 by decide)] at *; subst_vars; rfl) | (subst_vars; exact tdS_u _ _ _)) | (simp only [itr, headF]; rw [if_neg (by rintro ⟨q0, q1, q2⟩; first | exact absurd q0 (by assumption) | exact q0 (by assumption) | exact absurd q1 (by assumption) | exact q1 (by assumption) | exact absurd q2 (by assumption) | exact q2 (by assumption) | omega)]))
          refine v_to (ls' := [(0, .ref (u.2.1 0)), (1, .int (nI m)), (2, .int ((itr (headF (wgd σ G kd n L) m L) (-1, none) (s + 1)).1)), (3, .int (nI (s + 1)))]) (by first | rfl | rw [g8] | simp_all) ?_
          refine v_st (show (tdS (wgd σ G kd n L) (itr (headF (wgd σ G kd n L) m L) (-1, none) s).2) = (tdS (wgd σ G kd n L) (itr (headF (wgd σ G kd n L) m L) (-1, none) (s + 1)).2) from (by first | rfl | (simp only [itr, headF]; rw [if_pos ⟨(by first | assumption | omega), (by first | assumption | omega), (by first | assumption | omega)⟩]; first | done | rfl | (subst_vars; rfl) | (simp only [tdS_k _ _ (show 33 ≠ 0 by decide)] at *; subst_vars; rfl) | (subst_vars; exact tdS_u _ _ _)) | (simp only [itr, headF]; rw [if_neg (by rintro ⟨q0, q1, q2⟩; first | exact absurd q0 (by assumption) | exact q0 (by assumption) | exact absurd q1 (by assumption) | exact q1 (by assumption) | exact absurd q2 (by assumption) | exact q2 (by assumption) | omega)]))) ?_
          exact ih (s + 1) (by omega) (by omega)
        · skip
          have h75 : pcN s = m := (nI_eq (a := pcN s) (b := m) (by omega) (by omega)).mp h75
          refine v_iload_n F d_T_heads_78 rfl 3 rfl ?_
          refine v_aload_n F d_T_heads_79 rfl 0 rfl ?_
          refine v_getr (r := 19) F fk_T_36 G0 rfl d_T_heads_80 ?_
          refine v_getr (r := 33) F fk_T_207 G19 rfl d_T_heads_83 ?_
          refine v_runi (r_S F (c_T_total X.2.1 u hA (tdS (wgd σ G kd n L) (itr (headF (wgd σ G kd n L) m L) (-1, none) s).2) (s := s) (kc := 33) (Or.inr rfl) (by omega)) mo_T_total st_T_210 (by decide) rfl (Nat.le_of_ble_eq_true rfl) d_T_heads_86) (fun r9 σ10 q11 => ?_)
          obtain ⟨rfl, rfl⟩ := q11
          refine v_iload_n F d_T_heads_89 rfl 2 rfl ?_
          refine v_icmp_le F 110 d_T_heads_90 rfl (fun h90 => ?_) (fun h90 => ?_)
          · skip
            rw [tdS_k _ _ (by decide)] at h90
            have h90 := i_nlt.mpr h90
            refine v_iinc (v := nI (s + 1)) (ls' := [(3, .int (nI (s + 1))), (0, .ref (u.2.1 0)), (1, .int (nI m)), (2, .int ((itr (headF (wgd σ G kd n L) m L) (-1, none) s).1))]) F d_T_heads_110 (j := 3) rfl (nI_inc _) (by decide) rfl ?_
            refine v_goto F 53 d_T_heads_113 rfl ?_
            refine v_sub [1, 2, 3, 0] (ls' := [(0, .ref (u.2.1 0)), (1, .int (nI m)), (2, .int ((itr (headF (wgd σ G kd n L) m L) (-1, none) s).1)), (3, .int (nI (s + 1)))]) rfl ?_
            have g12 : ((itr (headF (wgd σ G kd n L) m L) (-1, none) s).1) = ((itr (headF (wgd σ G kd n L) m L) (-1, none) (s + 1)).1) := (by first | rfl | (simp only [itr, headF]; rw [if_pos ⟨(by first | assumption | omega), (by first | assumption | omega), (by first | assumption | omega)⟩]; first | done | rfl | (subst_vars; rfl) | (simp only [tdS_k _ _ (show 33 ≠ 0 by decide)] at *; subst_vars; rfl) | (subst_vars; exact tdS_u _ _ _)) | (simp only [itr, headF]; rw [if_neg (by rintro ⟨q0, q1, q2⟩; first | exact absurd q0 (by assumption) | exact q0 (by assumption) | exact absurd q1 (by assumption) | exact q1 (by assumption) | exact absurd q2 (by assumption) | exact q2 (by assumption) | omega)]))
            refine v_to (ls' := [(0, .ref (u.2.1 0)), (1, .int (nI m)), (2, .int ((itr (headF (wgd σ G kd n L) m L) (-1, none) (s + 1)).1)), (3, .int (nI (s + 1)))]) (by first | rfl | rw [g12] | simp_all) ?_
            refine v_st (show (tdS (wgd σ G kd n L) (itr (headF (wgd σ G kd n L) m L) (-1, none) s).2) = (tdS (wgd σ G kd n L) (itr (headF (wgd σ G kd n L) m L) (-1, none) (s + 1)).2) from (by first | rfl | (simp only [itr, headF]; rw [if_pos ⟨(by first | assumption | omega), (by first | assumption | omega), (by first | assumption | omega)⟩]; first | done | rfl | (subst_vars; rfl) | (simp only [tdS_k _ _ (show 33 ≠ 0 by decide)] at *; subst_vars; rfl) | (subst_vars; exact tdS_u _ _ _)) | (simp only [itr, headF]; rw [if_neg (by rintro ⟨q0, q1, q2⟩; first | exact absurd q0 (by assumption) | exact q0 (by assumption) | exact absurd q1 (by assumption) | exact q1 (by assumption) | exact absurd q2 (by assumption) | exact q2 (by assumption) | omega)]))) ?_
            exact ih (s + 1) (by omega) (by omega)
          · skip
            rw [tdS_k _ _ (by decide)] at h90
            have h90 := i_lt_le.mp h90
            refine v_iload_n F d_T_heads_93 rfl 3 rfl ?_
            refine v_aload_n F d_T_heads_94 rfl 0 rfl ?_
            refine v_getr (r := 19) F fk_T_36 G0 rfl d_T_heads_95 ?_
            refine v_getr (r := 33) F fk_T_207 G19 rfl d_T_heads_98 ?_
            refine v_runi (r_S F (c_T_total X.2.1 u hA (tdS (wgd σ G kd n L) (itr (headF (wgd σ G kd n L) m L) (-1, none) s).2) (s := s) (kc := 33) (Or.inr rfl) (by omega)) mo_T_total st_T_210 (by decide) rfl (Nat.le_of_ble_eq_true rfl) d_T_heads_101) (fun r13 σ14 q15 => ?_)
            obtain ⟨rfl, rfl⟩ := q15
            refine v_ni (fun x16 ex16 => ?_)
            refine v_istore_n (ls' := [(2, .int x16), (0, .ref (u.2.1 0)), (1, .int (nI m)), (3, .int (nI s))]) F d_T_heads_104 rfl (by decide) rfl ?_
            refine v_aload_n F d_T_heads_105 rfl 1 rfl ?_
            refine v_iload_n F d_T_heads_106 rfl 3 rfl ?_
            refine v_puti F fk_T_88 pk_T_told G0 rfl d_T_heads_107 ?_
            refine v_ns (fun σ17 eσ17 => ?_)
            refine v_iinc (v := nI (s + 1)) (ls' := [(3, .int (nI (s + 1))), (2, .int x16), (0, .ref (u.2.1 0)), (1, .int (nI m))]) F d_T_heads_110 (j := 3) rfl (nI_inc _) (by decide) rfl ?_
            refine v_goto F 53 d_T_heads_113 rfl ?_
            refine v_sub [2, 3, 1, 0] (ls' := [(0, .ref (u.2.1 0)), (1, .int (nI m)), (2, .int x16), (3, .int (nI (s + 1)))]) rfl ?_
            have g18 : x16 = ((itr (headF (wgd σ G kd n L) m L) (-1, none) (s + 1)).1) := (by first | rfl | (simp only [itr, headF]; rw [if_pos ⟨(by first | assumption | omega), (by first | assumption | omega), (by first | assumption | omega)⟩]; first | done | rfl | (subst_vars; rfl) | (simp only [tdS_k _ _ (show 33 ≠ 0 by decide)] at *; subst_vars; rfl) | (subst_vars; exact tdS_u _ _ _)) | (simp only [itr, headF]; rw [if_neg (by rintro ⟨q0, q1, q2⟩; first | exact absurd q0 (by assumption) | exact q0 (by assumption) | exact absurd q1 (by assumption) | exact q1 (by assumption) | exact absurd q2 (by assumption) | exact q2 (by assumption) | omega)]))
            refine v_to (ls' := [(0, .ref (u.2.1 0)), (1, .int (nI m)), (2, .int ((itr (headF (wgd σ G kd n L) m L) (-1, none) (s + 1)).1)), (3, .int (nI (s + 1)))]) (by first | rfl | rw [g18] | simp_all) ?_
            refine v_st (show σ17 = (tdS (wgd σ G kd n L) (itr (headF (wgd σ G kd n L) m L) (-1, none) (s + 1)).2) from (by first | rfl | (simp only [itr, headF]; rw [if_pos ⟨(by first | assumption | omega), (by first | assumption | omega), (by first | assumption | omega)⟩]; first | done | rfl | (subst_vars; rfl) | (simp only [tdS_k _ _ (show 33 ≠ 0 by decide)] at *; subst_vars; rfl) | (subst_vars; exact tdS_u _ _ _)) | (simp only [itr, headF]; rw [if_neg (by rintro ⟨q0, q1, q2⟩; first | exact absurd q0 (by assumption) | exact q0 (by assumption) | exact absurd q1 (by assumption) | exact q1 (by assumption) | exact absurd q2 (by assumption) | exact q2 (by assumption) | omega)]))) ?_
            exact ih (s + 1) (by omega) (by omega)
set_option maxHeartbeats 4000000 in
theorem c_T_heads (l : Launch) (u : Un) (hA : Ap u) (σ : St) {n G : Nat} {kd : Nat → Nat} (hb : bkOk σ n G kd) {L : Nat} (hL : σ.1 19 14 = nI L) (hL64 : L < 64) (x : Int32) : MTi l u y_T_heads b_T_heads 4 .int 7 [.ref (u.2.1 0), .int x] σ (fun ans σ' => (ans, σ') = tHeads σ G kd n L x) := by
  refine MT_of hA rfl (by decide) (Nat.le_of_ble_eq_true rfl) (fun X hl F hr => ?_)
  subst hl
  refine v_to (ls' := [(0, .ref (u.2.1 0)), (1, .int x)]) rfl ?_
  obtain ⟨hn, hn6, hG, hG64, hkd, hk6⟩ := id hb
  have hpl6 := pc_le L hL64
  refine v_iload_n F d_T_heads_0 rfl 1 rfl ?_
  refine v_if_lt F 10 d_T_heads_1 rfl (fun h1 => ?_) (fun h1 => ?_)
  · skip
    refine v_iconst (v := (-1)) F d_T_heads_10 ki_m1 ?_
    refine v_iret F hr rfl d_T_heads_11 ?_
    unfold tHeads
    (repeat' split) <;> first | rfl | (exfalso; grind) | (subst_vars; rfl) | grind
  · skip
    refine v_iload_n F d_T_heads_4 rfl 1 rfl ?_
    refine v_bipush (v := 6) F d_T_heads_5 kb_6 ?_
    refine v_icmp_le F 12 d_T_heads_7 rfl (fun h7 => ?_) (fun h7 => ?_)
    · skip
      obtain ⟨m, hm, xm, rfl⟩ := nat_of (M := 6) (i_nlt.mp h1) h7 rfl (by decide)
      refine v_aload_n F d_T_heads_12 rfl 0 rfl ?_
      refine v_getr (r := 19) F fk_T_36 G0 rfl d_T_heads_13 ?_
      refine v_geti F fk_T_118 G19 rfl d_T_heads_16 ?_
      refine v_te (y := nI n) hn ?_
      refine v_if_ne F 25 d_T_heads_19 rfl (fun h19 => ?_) (fun h19 => ?_)
      · skip
        have h19 : ¬ n = 0 := fun q => h19 ((nI_eq (a := n) (b := 0) (by omega) (by omega)).mpr q)
        refine v_aload_n F d_T_heads_25 rfl 0 rfl ?_
        refine v_getr (r := 19) F fk_T_36 G0 rfl d_T_heads_26 ?_
        refine v_geti F fk_T_166 G19 rfl d_T_heads_29 ?_
        refine v_te (y := nI L) hL ?_
        refine v_runi (r_S F (c_I_bitCount X.2.1 u hA σ L hL64) mo_I_bitCount st_T_189 (by decide) rfl (Nat.le_of_ble_eq_true rfl) d_T_heads_32) (fun r1 σ2 q3 => ?_)
        obtain ⟨rfl, rfl⟩ := q3
        refine v_iload_n F d_T_heads_35 rfl 1 rfl ?_
        refine v_icmp_ge F 42 d_T_heads_36 rfl (fun h36 => ?_) (fun h36 => ?_)
        · skip
          have h36 : m ≤ pcN L := (nI_leI (a := m) (b := pcN L) (by omega) (by omega)).mp h36
          have hpl := pc_le L hL64
          refine v_aload_n F d_T_heads_42 rfl 0 rfl ?_
          refine v_getr (r := 19) F fk_T_36 G0 rfl d_T_heads_43 ?_
          refine v_runv (r_V F (c_B_weigh X.2.1 u hA σ hb hL hL64) mo_B_weigh st_T_204 rc_19 (by decide) rfl (Nat.le_of_ble_eq_true rfl) d_T_heads_46) (fun σ5 q6 => ?_)
          refine v_iconst (v := (-1)) F d_T_heads_49 ki_m1 ?_
          refine v_istore_n (ls' := [(2, .int (-1)), (0, .ref (u.2.1 0)), (1, .int (nI m))]) F d_T_heads_50 rfl (by decide) rfl ?_
          refine v_iconst (v := 0) F d_T_heads_51 ki_0 ?_
          refine v_istore_n (ls' := [(3, .int 0), (2, .int (-1)), (0, .ref (u.2.1 0)), (1, .int (nI m))]) F d_T_heads_52 rfl (by decide) rfl ?_
          have eW : σ5 = wgd σ G kd n L := q6
          refine v_st eW ?_
          refine v_sub [2, 3, 1, 0] (ls' := [(0, .ref (u.2.1 0)), (1, .int (nI m)), (2, .int (-1)), (3, .int 0)]) rfl ?_
          have g7 : (-1) = ((itr (headF (wgd σ G kd n L) m L) (-1, none) 0).1) := (by first | rfl | (simp only [itr, headF]; rw [if_pos ⟨(by first | assumption | omega), (by first | assumption | omega), (by first | assumption | omega)⟩]; first | done | rfl | (subst_vars; rfl) | (simp only [tdS_k _ _ (show 33 ≠ 0 by decide)] at *; subst_vars; rfl) | (subst_vars; exact tdS_u _ _ _)) | (simp only [itr, headF]; rw [if_neg (by rintro ⟨q0, q1, q2⟩; first | exact absurd q0 (by assumption) | exact q0 (by assumption) | exact absurd q1 (by assumption) | exact q1 (by assumption) | exact absurd q2 (by assumption) | exact q2 (by assumption) | omega)]))
          have g8 : 0 = (nI 0) := (by first | rfl | (simp only [itr, headF]; rw [if_pos ⟨(by first | assumption | omega), (by first | assumption | omega), (by first | assumption | omega)⟩]; first | done | rfl | (subst_vars; rfl) | (simp only [tdS_k _ _ (show 33 ≠ 0 by decide)] at *; subst_vars; rfl) | (subst_vars; exact tdS_u _ _ _)) | (simp only [itr, headF]; rw [if_neg (by rintro ⟨q0, q1, q2⟩; first | exact absurd q0 (by assumption) | exact q0 (by assumption) | exact absurd q1 (by assumption) | exact q1 (by assumption) | exact absurd q2 (by assumption) | exact q2 (by assumption) | omega)]))
          refine v_to (ls' := [(0, .ref (u.2.1 0)), (1, .int (nI m)), (2, .int ((itr (headF (wgd σ G kd n L) m L) (-1, none) 0).1)), (3, .int (nI 0))]) (by first | rfl | rw [g7, g8] | simp_all) ?_
          refine v_st (show (wgd σ G kd n L) = (tdS (wgd σ G kd n L) (itr (headF (wgd σ G kd n L) m L) (-1, none) 0).2) from (by first | rfl | (simp only [itr, headF]; rw [if_pos ⟨(by first | assumption | omega), (by first | assumption | omega), (by first | assumption | omega)⟩]; first | done | rfl | (subst_vars; rfl) | (simp only [tdS_k _ _ (show 33 ≠ 0 by decide)] at *; subst_vars; rfl) | (subst_vars; exact tdS_u _ _ _)) | (simp only [itr, headF]; rw [if_neg (by rintro ⟨q0, q1, q2⟩; first | exact absurd q0 (by assumption) | exact q0 (by assumption) | exact absurd q1 (by assumption) | exact q1 (by assumption) | exact absurd q2 (by assumption) | exact q2 (by assumption) | omega)]))) ?_
          refine L_T_heads_53 hA F hb hL hL64 hm ?_ _ 0 (Nat.zero_le _) (Nat.lt_succ_self _)
          refine v_iload_n F d_T_heads_116 rfl 2 rfl ?_
          refine v_iret F hr rfl d_T_heads_117 ?_
          unfold tHeads
          simp only [xm]
          (repeat' split) <;> first | rfl | (exfalso; grind) | (subst_vars; rfl) | grind
        · skip
          have h36 : ¬ m ≤ pcN L := fun q => h36 ((nI_leI (a := m) (b := pcN L) (by omega) (by omega)).mpr q)
          skip
          refine v_bipush (v := (-9)) F d_T_heads_39 kb_m9 ?_
          refine v_iret F hr rfl d_T_heads_41 ?_
          unfold tHeads
          simp only [xm]
          (repeat' split) <;> first | rfl | (exfalso; grind) | (subst_vars; rfl) | grind
      · skip
        have h19 : n = 0 := (nI_eq (a := n) (b := 0) (by omega) (by omega)).mp h19
        refine v_bipush (v := (-4)) F d_T_heads_22 kb_m4 ?_
        refine v_iret F hr rfl d_T_heads_24 ?_
        unfold tHeads
        (repeat' split) <;> first | rfl | (exfalso; grind) | (subst_vars; rfl) | grind
    · skip
      refine v_iconst (v := (-1)) F d_T_heads_10 ki_m1 ?_
      refine v_iret F hr rfl d_T_heads_11 ?_
      unfold tHeads
      (repeat' split) <;> first | rfl | (exfalso; grind) | (subst_vars; rfl) | grind
