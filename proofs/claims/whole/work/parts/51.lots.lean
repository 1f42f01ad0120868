theorem kc_T_303 : Cond.constantLong "TakerBook" 303 (48271) ∈ lw_tbl := List.mem_of_getElem? (i := 928) (by decide +kernel)
theorem kc_T_301 : Cond.constantLong "TakerBook" 301 (2147483647) ∈ lw_tbl := List.mem_of_getElem? (i := 927) (by decide +kernel)
theorem kc_T_305 : Cond.constantLong "TakerBook" 305 (8) ∈ lw_tbl := List.mem_of_getElem? (i := 929) (by decide +kernel)
theorem kc_T_307 : Cond.constantLong "TakerBook" 307 (4) ∈ lw_tbl := List.mem_of_getElem? (i := 930) (by decide +kernel)
theorem st_T_309 : siteV "TakerBook" 309 ⟨"TakerBook", "deedByLot", "(II)I"⟩ := ⟨List.mem_of_getElem? (i := 931) (by decide +kernel), List.mem_of_getElem? (i := 933) (by decide +kernel), List.mem_of_getElem? (i := 26) (by decide +kernel)⟩
theorem kb_20 : (Int8.ofInt 20).toInt32 = (20 : Int32) := by decide
abbrev b_T_deedByLot : ByteArray := prog_1_method_62_code
abbrev y_T_deedByLot : MethodName := ⟨"TakerBook", "deedByLot", "(II)I"⟩
theorem d_T_deedByLot_0 : decode b_T_deedByLot 0 = .ok (.iload_n 1, 1) := by decide +kernel
theorem d_T_deedByLot_1 : decode b_T_deedByLot 1 = .ok (.iconst 2, 1) := by decide +kernel
theorem d_T_deedByLot_2 : decode b_T_deedByLot 2 = .ok (.if_icmp .ne 19, 3) := by decide +kernel
theorem d_T_deedByLot_5 : decode b_T_deedByLot 5 = .ok (.iload_n 2, 1) := by decide +kernel
theorem d_T_deedByLot_6 : decode b_T_deedByLot 6 = .ok (.aload_n 0, 1) := by decide +kernel
theorem d_T_deedByLot_7 : decode b_T_deedByLot 7 = .ok (.getfield 36, 3) := by decide +kernel
theorem d_T_deedByLot_10 : decode b_T_deedByLot 10 = .ok (.getfield 166, 3) := by decide +kernel
theorem d_T_deedByLot_13 : decode b_T_deedByLot 13 = .ok (.invokestatic 169, 3) := by decide +kernel
theorem d_T_deedByLot_16 : decode b_T_deedByLot 16 = .ok (.ifCond .eq 5, 3) := by decide +kernel
theorem d_T_deedByLot_19 : decode b_T_deedByLot 19 = .ok (.iconst 3, 1) := by decide +kernel
theorem d_T_deedByLot_20 : decode b_T_deedByLot 20 = .ok (.ireturn, 1) := by decide +kernel
theorem d_T_deedByLot_21 : decode b_T_deedByLot 21 = .ok (.iload_n 1, 1) := by decide +kernel
theorem d_T_deedByLot_22 : decode b_T_deedByLot 22 = .ok (.iconst 3, 1) := by decide +kernel
theorem d_T_deedByLot_23 : decode b_T_deedByLot 23 = .ok (.if_icmp .ne 18, 3) := by decide +kernel
theorem d_T_deedByLot_26 : decode b_T_deedByLot 26 = .ok (.aload_n 0, 1) := by decide +kernel
theorem d_T_deedByLot_27 : decode b_T_deedByLot 27 = .ok (.getfield 36, 3) := by decide +kernel
theorem d_T_deedByLot_30 : decode b_T_deedByLot 30 = .ok (.iload_n 2, 1) := by decide +kernel
theorem d_T_deedByLot_31 : decode b_T_deedByLot 31 = .ok (.invokevirtual 160, 3) := by decide +kernel
theorem d_T_deedByLot_34 : decode b_T_deedByLot 34 = .ok (.ifCond .eq 7, 3) := by decide +kernel
theorem d_T_deedByLot_37 : decode b_T_deedByLot 37 = .ok (.iconst 2, 1) := by decide +kernel
theorem d_T_deedByLot_38 : decode b_T_deedByLot 38 = .ok (.goto 4, 3) := by decide +kernel
theorem d_T_deedByLot_41 : decode b_T_deedByLot 41 = .ok (.iconst 0, 1) := by decide +kernel
theorem d_T_deedByLot_42 : decode b_T_deedByLot 42 = .ok (.ireturn, 1) := by decide +kernel
theorem mo_T_deedByLot : mok y_T_deedByLot b_T_deedByLot 3 (some .int) 2 := ⟨List.mem_of_getElem? (i := 934) (by decide +kernel), ⟨by decide +kernel, by decide +kernel, by decide +kernel⟩, List.mem_of_getElem? (i := 74) (by decide +kernel), by decide⟩
set_option maxHeartbeats 4000000 in
theorem c_T_deedByLot (l : Launch) (u : Un) (hA : Ap u) (σ : St) {L : Nat} (hL : σ.1 19 14 = nI L) (hL64 : L < 64) (act a : Nat) (hact : act < 4) (ha : a < 6) : MTi l u y_T_deedByLot b_T_deedByLot 3 .int 2 [.ref (u.2.1 0), .int (nI act), .int (nI a)] σ (fun ans σ' => nI (lotW σ L act a) = ans ∧ σ = σ') := by
  refine MT_of hA rfl (by decide) (Nat.le_of_ble_eq_true rfl) (fun X hl F hr => ?_)
  subst hl
  refine v_to (ls' := [(0, .ref (u.2.1 0)), (1, .int (nI act)), (2, .int (nI a))]) rfl ?_
  refine v_iload_n F d_T_deedByLot_0 rfl 1 rfl ?_
  refine v_iconst (v := 2) F d_T_deedByLot_1 ki_2 ?_
  refine v_icmp_ne F 21 d_T_deedByLot_2 rfl (fun h2 => ?_) (fun h2 => ?_)
  · skip
    have h2 : ¬ act = 2 := fun q => h2 ((nI_eq (a := act) (b := 2) (by omega) (by omega)).mpr q)
    refine v_iload_n F d_T_deedByLot_21 rfl 1 rfl ?_
    refine v_iconst (v := 3) F d_T_deedByLot_22 ki_3 ?_
    refine v_icmp_ne F 41 d_T_deedByLot_23 rfl (fun h23 => ?_) (fun h23 => ?_)
    · skip
      have h23 : ¬ act = 3 := fun q => h23 ((nI_eq (a := act) (b := 3) (by omega) (by omega)).mpr q)
      refine v_iconst (v := 0) F d_T_deedByLot_41 ki_0 ?_
      refine v_iret F hr rfl d_T_deedByLot_42 ?_
      refine ⟨?_, rfl⟩
      unfold lotW
      first | (rw [if_pos ⟨by assumption, by assumption⟩]; rfl) | (rw [if_neg (by rintro ⟨q1, q2⟩; first | exact absurd q1 (by assumption) | exact absurd q2 (by assumption)), if_pos ⟨by assumption, by assumption⟩]; rfl) | (rw [if_neg (by rintro ⟨q1, q2⟩; first | exact absurd q1 (by assumption) | exact absurd q2 (by assumption)), if_neg (by rintro ⟨q1, q2⟩; first | exact absurd q1 (by assumption) | exact absurd q2 (by assumption))]; rfl)
    · skip
      have h23 : act = 3 := (nI_eq (a := act) (b := 3) (by omega) (by omega)).mp h23
      refine v_aload_n F d_T_deedByLot_26 rfl 0 rfl ?_
      refine v_getr (r := 19) F fk_T_36 G0 rfl d_T_deedByLot_27 ?_
      refine v_iload_n F d_T_deedByLot_30 rfl 2 rfl ?_
      refine v_runi (r_V F (c_B_canBeCrossed X.2.1 u hA σ hL hL64 a (by omega)) mo_B_canBeCrossed st_T_160 rc_19 (by decide) rfl (Nat.le_of_ble_eq_true rfl) d_T_deedByLot_31) (fun r1 σ2 q3 => ?_)
      obtain ⟨rfl, rfl⟩ := q3
      refine v_bt F 41 d_T_deedByLot_34 rfl (fun h34 => ?_) (fun h34 => ?_)
      · skip
        refine v_iconst (v := 0) F d_T_deedByLot_41 ki_0 ?_
        refine v_iret F hr rfl d_T_deedByLot_42 ?_
        refine ⟨?_, rfl⟩
        unfold lotW
        first | (rw [if_pos ⟨by assumption, by assumption⟩]; rfl) | (rw [if_neg (by rintro ⟨q1, q2⟩; first | exact absurd q1 (by assumption) | exact absurd q2 (by assumption)), if_pos ⟨by assumption, by assumption⟩]; rfl) | (rw [if_neg (by rintro ⟨q1, q2⟩; first | exact absurd q1 (by assumption) | exact absurd q2 (by assumption)), if_neg (by rintro ⟨q1, q2⟩; first | exact absurd q1 (by assumption) | exact absurd q2 (by assumption))]; rfl)
      · skip
        refine v_iconst (v := 2) F d_T_deedByLot_37 ki_2 ?_
        refine v_goto F 42 d_T_deedByLot_38 rfl ?_
        refine v_iret F hr rfl d_T_deedByLot_42 ?_
        refine ⟨?_, rfl⟩
        unfold lotW
        first | (rw [if_pos ⟨by assumption, by assumption⟩]; rfl) | (rw [if_neg (by rintro ⟨q1, q2⟩; first | exact absurd q1 (by assumption) | exact absurd q2 (by assumption)), if_pos ⟨by assumption, by assumption⟩]; rfl) | (rw [if_neg (by rintro ⟨q1, q2⟩; first | exact absurd q1 (by assumption) | exact absurd q2 (by assumption)), if_neg (by rintro ⟨q1, q2⟩; first | exact absurd q1 (by assumption) | exact absurd q2 (by assumption))]; rfl)
  · skip
    have h2 : act = 2 := (nI_eq (a := act) (b := 2) (by omega) (by omega)).mp h2
    refine v_iload_n F d_T_deedByLot_5 rfl 2 rfl ?_
    refine v_aload_n F d_T_deedByLot_6 rfl 0 rfl ?_
    refine v_getr (r := 19) F fk_T_36 G0 rfl d_T_deedByLot_7 ?_
    refine v_geti F fk_T_166 G19 rfl d_T_deedByLot_10 ?_
    refine v_te (y := nI L) hL ?_
    refine v_runi (r_S F (c_T_isIn2 X.2.1 u hA σ a L (by omega) (by omega)) mo_T_isIn st_T_169 (by decide) rfl (Nat.le_of_ble_eq_true rfl) d_T_deedByLot_13) (fun r4 σ5 q6 => ?_)
    obtain ⟨rfl, rfl⟩ := q6
    refine v_bt F 21 d_T_deedByLot_16 rfl (fun h16 => ?_) (fun h16 => ?_)
    · skip
      refine v_iload_n F d_T_deedByLot_21 rfl 1 rfl ?_
      refine v_iconst (v := 3) F d_T_deedByLot_22 ki_3 ?_
      refine v_icmp_ne F 41 d_T_deedByLot_23 rfl (fun h23 => ?_) (fun h23 => ?_)
      · skip
        have h23 : ¬ act = 3 := fun q => h23 ((nI_eq (a := act) (b := 3) (by omega) (by omega)).mpr q)
        refine v_iconst (v := 0) F d_T_deedByLot_41 ki_0 ?_
        refine v_iret F hr rfl d_T_deedByLot_42 ?_
        refine ⟨?_, rfl⟩
        unfold lotW
        first | (rw [if_pos ⟨by assumption, by assumption⟩]; rfl) | (rw [if_neg (by rintro ⟨q1, q2⟩; first | exact absurd q1 (by assumption) | exact absurd q2 (by assumption)), if_pos ⟨by assumption, by assumption⟩]; rfl) | (rw [if_neg (by rintro ⟨q1, q2⟩; first | exact absurd q1 (by assumption) | exact absurd q2 (by assumption)), if_neg (by rintro ⟨q1, q2⟩; first | exact absurd q1 (by assumption) | exact absurd q2 (by assumption))]; rfl)
      · skip
        have h23 : act = 3 := (nI_eq (a := act) (b := 3) (by omega) (by omega)).mp h23
        refine v_aload_n F d_T_deedByLot_26 rfl 0 rfl ?_
        refine v_getr (r := 19) F fk_T_36 G0 rfl d_T_deedByLot_27 ?_
        refine v_iload_n F d_T_deedByLot_30 rfl 2 rfl ?_
        refine v_runi (r_V F (c_B_canBeCrossed X.2.1 u hA σ hL hL64 a (by omega)) mo_B_canBeCrossed st_T_160 rc_19 (by decide) rfl (Nat.le_of_ble_eq_true rfl) d_T_deedByLot_31) (fun r7 σ8 q9 => ?_)
        obtain ⟨rfl, rfl⟩ := q9
        refine v_bt F 41 d_T_deedByLot_34 rfl (fun h34 => ?_) (fun h34 => ?_)
        · skip
          refine v_iconst (v := 0) F d_T_deedByLot_41 ki_0 ?_
          refine v_iret F hr rfl d_T_deedByLot_42 ?_
          refine ⟨?_, rfl⟩
          unfold lotW
          first | (rw [if_pos ⟨by assumption, by assumption⟩]; rfl) | (rw [if_neg (by rintro ⟨q1, q2⟩; first | exact absurd q1 (by assumption) | exact absurd q2 (by assumption)), if_pos ⟨by assumption, by assumption⟩]; rfl) | (rw [if_neg (by rintro ⟨q1, q2⟩; first | exact absurd q1 (by assumption) | exact absurd q2 (by assumption)), if_neg (by rintro ⟨q1, q2⟩; first | exact absurd q1 (by assumption) | exact absurd q2 (by assumption))]; rfl)
        · skip
          refine v_iconst (v := 2) F d_T_deedByLot_37 ki_2 ?_
          refine v_goto F 42 d_T_deedByLot_38 rfl ?_
          refine v_iret F hr rfl d_T_deedByLot_42 ?_
          refine ⟨?_, rfl⟩
          unfold lotW
          first | (rw [if_pos ⟨by assumption, by assumption⟩]; rfl) | (rw [if_neg (by rintro ⟨q1, q2⟩; first | exact absurd q1 (by assumption) | exact absurd q2 (by assumption)), if_pos ⟨by assumption, by assumption⟩]; rfl) | (rw [if_neg (by rintro ⟨q1, q2⟩; first | exact absurd q1 (by assumption) | exact absurd q2 (by assumption)), if_neg (by rintro ⟨q1, q2⟩; first | exact absurd q1 (by assumption) | exact absurd q2 (by assumption))]; rfl)
    · skip
      refine v_iconst (v := 3) F d_T_deedByLot_19 ki_3 ?_
      refine v_iret F hr rfl d_T_deedByLot_20 ?_
      refine ⟨?_, rfl⟩
      unfold lotW
      first | (rw [if_pos ⟨by assumption, by assumption⟩]; rfl) | (rw [if_neg (by rintro ⟨q1, q2⟩; first | exact absurd q1 (by assumption) | exact absurd q2 (by assumption)), if_pos ⟨by assumption, by assumption⟩]; rfl) | (rw [if_neg (by rintro ⟨q1, q2⟩; first | exact absurd q1 (by assumption) | exact absurd q2 (by assumption)), if_neg (by rintro ⟨q1, q2⟩; first | exact absurd q1 (by assumption) | exact absurd q2 (by assumption))]; rfl)
abbrev b_T_lots : ByteArray := prog_1_method_38_code
abbrev y_T_lots : MethodName := ⟨"TakerBook", "lots", "(II)I"⟩
theorem d_T_lots_0 : decode b_T_lots 0 = .ok (.iload_n 1, 1) := by decide +kernel
theorem d_T_lots_1 : decode b_T_lots 1 = .ok (.iconst 1, 1) := by decide +kernel
theorem d_T_lots_2 : decode b_T_lots 2 = .ok (.if_icmp .lt 23, 3) := by decide +kernel
theorem d_T_lots_5 : decode b_T_lots 5 = .ok (.iload_n 1, 1) := by decide +kernel
theorem d_T_lots_6 : decode b_T_lots 6 = .ok (.bipush 20, 2) := by decide +kernel
theorem d_T_lots_8 : decode b_T_lots 8 = .ok (.if_icmp .gt 17, 3) := by decide +kernel
theorem d_T_lots_11 : decode b_T_lots 11 = .ok (.iload_n 2, 1) := by decide +kernel
theorem d_T_lots_12 : decode b_T_lots 12 = .ok (.iconst 1, 1) := by decide +kernel
theorem d_T_lots_13 : decode b_T_lots 13 = .ok (.if_icmp .lt 12, 3) := by decide +kernel
theorem d_T_lots_16 : decode b_T_lots 16 = .ok (.iload_n 2, 1) := by decide +kernel
theorem d_T_lots_17 : decode b_T_lots 17 = .ok (.i2l, 1) := by decide +kernel
theorem d_T_lots_18 : decode b_T_lots 18 = .ok (.ldc2_w 301, 3) := by decide +kernel
theorem d_T_lots_21 : decode b_T_lots 21 = .ok (.lcmp, 1) := by decide +kernel
theorem d_T_lots_22 : decode b_T_lots 22 = .ok (.ifCond .lt 5, 3) := by decide +kernel
theorem d_T_lots_25 : decode b_T_lots 25 = .ok (.iconst (-1), 1) := by decide +kernel
theorem d_T_lots_26 : decode b_T_lots 26 = .ok (.ireturn, 1) := by decide +kernel
theorem d_T_lots_27 : decode b_T_lots 27 = .ok (.aload_n 0, 1) := by decide +kernel
theorem d_T_lots_28 : decode b_T_lots 28 = .ok (.invokevirtual 142, 3) := by decide +kernel
theorem d_T_lots_31 : decode b_T_lots 31 = .ok (.ifCond .ne 6, 3) := by decide +kernel
theorem d_T_lots_34 : decode b_T_lots 34 = .ok (.bipush (-4), 2) := by decide +kernel
theorem d_T_lots_36 : decode b_T_lots 36 = .ok (.ireturn, 1) := by decide +kernel
theorem d_T_lots_37 : decode b_T_lots 37 = .ok (.aload_n 0, 1) := by decide +kernel
theorem d_T_lots_38 : decode b_T_lots 38 = .ok (.getfield 57, 3) := by decide +kernel
theorem d_T_lots_41 : decode b_T_lots 41 = .ok (.getfield 72, 3) := by decide +kernel
theorem d_T_lots_44 : decode b_T_lots 44 = .ok (.iload_n 1, 1) := by decide +kernel
theorem d_T_lots_45 : decode b_T_lots 45 = .ok (.iadd, 1) := by decide +kernel
theorem d_T_lots_46 : decode b_T_lots 46 = .ok (.bipush 40, 2) := by decide +kernel
theorem d_T_lots_48 : decode b_T_lots 48 = .ok (.if_icmp .le 6, 3) := by decide +kernel
theorem d_T_lots_51 : decode b_T_lots 51 = .ok (.bipush (-2), 2) := by decide +kernel
theorem d_T_lots_53 : decode b_T_lots 53 = .ok (.ireturn, 1) := by decide +kernel
theorem d_T_lots_54 : decode b_T_lots 54 = .ok (.aload_n 0, 1) := by decide +kernel
theorem d_T_lots_55 : decode b_T_lots 55 = .ok (.getfield 57, 3) := by decide +kernel
theorem d_T_lots_58 : decode b_T_lots 58 = .ok (.getfield 72, 3) := by decide +kernel
theorem d_T_lots_61 : decode b_T_lots 61 = .ok (.istore_n 3, 1) := by decide +kernel
theorem d_T_lots_62 : decode b_T_lots 62 = .ok (.iload_n 2, 1) := by decide +kernel
theorem d_T_lots_63 : decode b_T_lots 63 = .ok (.i2l, 1) := by decide +kernel
theorem d_T_lots_64 : decode b_T_lots 64 = .ok (.lstore 4, 2) := by decide +kernel
theorem d_T_lots_66 : decode b_T_lots 66 = .ok (.iconst 0, 1) := by decide +kernel
theorem d_T_lots_67 : decode b_T_lots 67 = .ok (.istore 6, 2) := by decide +kernel
theorem d_T_lots_69 : decode b_T_lots 69 = .ok (.iload 6, 2) := by decide +kernel
theorem d_T_lots_71 : decode b_T_lots 71 = .ok (.iload_n 1, 1) := by decide +kernel
theorem d_T_lots_72 : decode b_T_lots 72 = .ok (.if_icmp .ge 68, 3) := by decide +kernel
theorem d_T_lots_75 : decode b_T_lots 75 = .ok (.aload_n 0, 1) := by decide +kernel
theorem d_T_lots_76 : decode b_T_lots 76 = .ok (.getfield 36, 3) := by decide +kernel
theorem d_T_lots_79 : decode b_T_lots 79 = .ok (.getfield 150, 3) := by decide +kernel
theorem d_T_lots_82 : decode b_T_lots 82 = .ok (.ifCond .ne 58, 3) := by decide +kernel
theorem d_T_lots_85 : decode b_T_lots 85 = .ok (.lload 4, 2) := by decide +kernel
theorem d_T_lots_87 : decode b_T_lots 87 = .ok (.ldc2_w 303, 3) := by decide +kernel
theorem d_T_lots_90 : decode b_T_lots 90 = .ok (.lmul, 1) := by decide +kernel
theorem d_T_lots_91 : decode b_T_lots 91 = .ok (.ldc2_w 301, 3) := by decide +kernel
theorem d_T_lots_94 : decode b_T_lots 94 = .ok (.lrem, 1) := by decide +kernel
theorem d_T_lots_95 : decode b_T_lots 95 = .ok (.lstore 4, 2) := by decide +kernel
theorem d_T_lots_97 : decode b_T_lots 97 = .ok (.lload 4, 2) := by decide +kernel
theorem d_T_lots_99 : decode b_T_lots 99 = .ok (.ldc2_w 305, 3) := by decide +kernel
theorem d_T_lots_102 : decode b_T_lots 102 = .ok (.ldiv, 1) := by decide +kernel
theorem d_T_lots_103 : decode b_T_lots 103 = .ok (.aload_n 0, 1) := by decide +kernel
theorem d_T_lots_104 : decode b_T_lots 104 = .ok (.getfield 36, 3) := by decide +kernel
theorem d_T_lots_107 : decode b_T_lots 107 = .ok (.getfield 118, 3) := by decide +kernel
theorem d_T_lots_110 : decode b_T_lots 110 = .ok (.i2l, 1) := by decide +kernel
theorem d_T_lots_111 : decode b_T_lots 111 = .ok (.lrem, 1) := by decide +kernel
theorem d_T_lots_112 : decode b_T_lots 112 = .ok (.l2i, 1) := by decide +kernel
theorem d_T_lots_113 : decode b_T_lots 113 = .ok (.istore 7, 2) := by decide +kernel
theorem d_T_lots_115 : decode b_T_lots 115 = .ok (.aload_n 0, 1) := by decide +kernel
theorem d_T_lots_116 : decode b_T_lots 116 = .ok (.aload_n 0, 1) := by decide +kernel
theorem d_T_lots_117 : decode b_T_lots 117 = .ok (.lload 4, 2) := by decide +kernel
theorem d_T_lots_119 : decode b_T_lots 119 = .ok (.ldc2_w 307, 3) := by decide +kernel
theorem d_T_lots_122 : decode b_T_lots 122 = .ok (.lrem, 1) := by decide +kernel
theorem d_T_lots_123 : decode b_T_lots 123 = .ok (.l2i, 1) := by decide +kernel
theorem d_T_lots_124 : decode b_T_lots 124 = .ok (.iload 7, 2) := by decide +kernel
theorem d_T_lots_126 : decode b_T_lots 126 = .ok (.invokevirtual 309, 3) := by decide +kernel
theorem d_T_lots_129 : decode b_T_lots 129 = .ok (.iload 7, 2) := by decide +kernel
theorem d_T_lots_131 : decode b_T_lots 131 = .ok (.invokevirtual 146, 3) := by decide +kernel
theorem d_T_lots_134 : decode b_T_lots 134 = .ok (.iinc 6 1, 3) := by decide +kernel
theorem d_T_lots_137 : decode b_T_lots 137 = .ok (.goto (-68), 3) := by decide +kernel
theorem d_T_lots_140 : decode b_T_lots 140 = .ok (.aload_n 0, 1) := by decide +kernel
theorem d_T_lots_141 : decode b_T_lots 141 = .ok (.getfield 57, 3) := by decide +kernel
theorem d_T_lots_144 : decode b_T_lots 144 = .ok (.getfield 72, 3) := by decide +kernel
theorem d_T_lots_147 : decode b_T_lots 147 = .ok (.iload_n 3, 1) := by decide +kernel
theorem d_T_lots_148 : decode b_T_lots 148 = .ok (.isub, 1) := by decide +kernel
theorem d_T_lots_149 : decode b_T_lots 149 = .ok (.ireturn, 1) := by decide +kernel
theorem mo_T_lots : mok y_T_lots b_T_lots 8 (some .int) 2 := ⟨List.mem_of_getElem? (i := 926) (by decide +kernel), ⟨by decide +kernel, by decide +kernel, by decide +kernel⟩, List.mem_of_getElem? (i := 74) (by decide +kernel), by decide⟩
set_option maxHeartbeats 4000000 in
theorem L_T_lots_69 {X : FX} {u : Un} (hA : Ap u) {Q : State → Prop} (F : Fr X u "TakerBook" b_T_lots 8) {σ : St} {n G : Nat} {kd : Nat → Nat} (hb : bkOk σ n G kd) {L : Nat} (hL : σ.1 19 14 = nI L) (hL64 : L < 64) {D : Nat} (hD : σ.1 49 2 = nI D) {m s : Nat} (hm : D + m ≤ 40) (hs : s < 2147483647) (hn0 : 0 < n) (k0 : ∀ (i : Nat), (loS σ G kd n L D s i) = (loS σ G kd n L D s m) → i ≤ m → V X u 9 8 Q 140 [(0, .ref (u.2.1 0)), (3, .int (nI D))] [] ((loS σ G kd n L D s i).1)) : ∀ (nn : Nat) (i : Nat), i ≤ m → m - i < nn → V X u 9 8 Q 69 [(0, .ref (u.2.1 0)), (1, .int (nI m)), (2, .int (nI s)), (3, .int (nI D)), (4, .long (lN (lotN s i))), (6, .int (nI i))] [] ((loS σ G kd n L D s i).1) := by
  intro nn
  induction nn with
  | zero =>
    intro i hi h2
    exact absurd h2 (Nat.not_lt_zero _)
  | succ nn ih =>
    intro i hi hm
    obtain ⟨hn, hn6, hG, hG64, hkd, hk6⟩ := id hb
    have hlt1 := lotN_lt hs (i + 1)
    have hlt := lotN_lt hs i
    have ha : lotA s n i < n := Nat.mod_lt _ hn0
    refine v_iload F d_T_lots_69 5 rfl ?_
    refine v_iload_n F d_T_lots_71 rfl 1 rfl ?_
    refine v_icmp_ge F 140 d_T_lots_72 rfl (fun h72 => ?_) (fun h72 => ?_)
    · skip
      have h72 : m ≤ i := (nI_leI (a := m) (b := i) (by omega) (by omega)).mp h72
      refine v_sub [0, 3] (ls' := [(0, .ref (u.2.1 0)), (3, .int (nI D))]) rfl ?_
      exact k0 i (by first | (have e : i = m := (by omega); rw [e]; done) | (obtain ⟨d, rfl⟩ : ∃ d, m = i + d := ⟨m - i, by omega⟩; exact (loS_n (by assumption) d).symm)) hi
    · skip
      have h72 : ¬ m ≤ i := fun q => h72 ((nI_leI (a := m) (b := i) (by omega) (by omega)).mpr q)
      refine v_aload_n F d_T_lots_75 rfl 0 rfl ?_
      refine v_getr (r := 19) F fk_T_36 G0 rfl d_T_lots_76 ?_
      refine v_geti F fk_T_150 G19 rfl d_T_lots_79 ?_
      refine v_if_ne F 140 d_T_lots_82 rfl (fun h82 => ?_) (fun h82 => ?_)
      · skip
        refine v_sub [0, 3] (ls' := [(0, .ref (u.2.1 0)), (3, .int (nI D))]) rfl ?_
        exact k0 i (by first | (have e : i = m := (by omega); rw [e]; done) | (obtain ⟨d, rfl⟩ : ∃ d, m = i + d := ⟨m - i, by omega⟩; exact (loS_n (by assumption) d).symm)) hi
      · skip
        refine v_lload F d_T_lots_85 4 rfl ?_
        refine v_ldc2 (v := 48271) F kc_T_303 d_T_lots_87 ?_
        refine v_lmul F d_T_lots_90 ?_
        refine v_tl (y := (lN (lotN s i * 48271))) (lN_mul _ _) ?_
        refine v_ldc2 (v := 2147483647) F kc_T_301 d_T_lots_91 ?_
        refine v_lrem F d_T_lots_94 (by decide) ?_
        refine v_tl (y := (lN (lotN s (i + 1)))) (lrem_N (by omega) (by decide) (by decide)) ?_
        refine v_lstore (ls' := [(4, .long (lN (lotN s (i + 1)))), (0, .ref (u.2.1 0)), (1, .int (nI m)), (2, .int (nI s)), (3, .int (nI D)), (6, .int (nI i))]) F d_T_lots_95 (by decide) rfl ?_
        refine v_lload F d_T_lots_97 0 rfl ?_
        refine v_ldc2 (v := 8) F kc_T_305 d_T_lots_99 ?_
        refine v_ldiv F d_T_lots_102 (by decide) ?_
        refine v_tl (y := (lN (lotN s (i + 1) / 8))) (ldiv_N (by omega) (by decide) (by decide)) ?_
        refine v_aload_n F d_T_lots_103 rfl 1 rfl ?_
        refine v_getr (r := 19) F fk_T_36 G0 rfl d_T_lots_104 ?_
        refine v_geti F fk_T_118 G19 rfl d_T_lots_107 ?_
        refine v_te (y := nI n) (loS_P hb hL hL64 hD (s := s) i).1.1 ?_
        refine v_i2l F d_T_lots_110 ?_
        refine v_tl (y := (lN n)) (nI_l (by omega)) ?_
        refine v_lrem F d_T_lots_111 (lne0 (by omega) hn0) ?_
        refine v_tl (y := (lN (lotA s n i))) (lrem_N (by omega) (by omega) hn0) ?_
        refine v_l2i F d_T_lots_112 ?_
        refine v_te (y := nI (lotA s n i)) (lN_i _) ?_
        refine v_istore (ls' := [(7, .int (nI (lotA s n i))), (4, .long (lN (lotN s (i + 1)))), (0, .ref (u.2.1 0)), (1, .int (nI m)), (2, .int (nI s)), (3, .int (nI D)), (6, .int (nI i))]) F d_T_lots_113 (by decide) rfl ?_
        refine v_aload_n F d_T_lots_115 rfl 2 rfl ?_
        refine v_aload_n F d_T_lots_116 rfl 2 rfl ?_
        refine v_lload F d_T_lots_117 1 rfl ?_
        refine v_ldc2 (v := 4) F kc_T_307 d_T_lots_119 ?_
        refine v_lrem F d_T_lots_122 (by decide) ?_
        refine v_tl (y := (lN (lotN s (i + 1) % 4))) (lrem_N (by omega) (by decide) (by decide)) ?_
        refine v_l2i F d_T_lots_123 ?_
        refine v_te (y := nI (lotN s (i + 1) % 4)) (lN_i _) ?_
        refine v_iload F d_T_lots_124 0 rfl ?_
        refine v_runi (r_V F (c_T_deedByLot X.2.1 u hA (loS σ G kd n L D s i).1 (L := (loS σ G kd n L D s i).2.1) (loS_P hb hL hL64 hD (s := s) i).2.1 (loS_P hb hL hL64 hD (s := s) i).2.2.1 (lotN s (i + 1) % 4) (lotA s n i) (Nat.mod_lt _ (by decide)) (by omega)) mo_T_deedByLot st_T_309 rc_0 (by decide) rfl (Nat.le_of_ble_eq_true rfl) d_T_lots_126) (fun r1 σ2 q3 => ?_)
        obtain ⟨rfl, rfl⟩ := q3
        refine v_iload F d_T_lots_129 0 rfl ?_
        refine v_runv (r_V F (c_T_enact X.2.1 u hA (loS σ G kd n L D s i).1 (loS_P hb hL hL64 hD (s := s) i).1 (loS_P hb hL hL64 hD (s := s) i).2.1 (loS_P hb hL hL64 hD (s := s) i).2.2.1 (loS_P hb hL hL64 hD (s := s) i).2.2.2.1 (by have := (loS_P hb hL hL64 hD (s := s) i).2.2.2.2.2; omega) (lotW (loS σ G kd n L D s i).1 (loS σ G kd n L D s i).2.1 (lotN s (i + 1) % 4) (lotA s n i)) (lotA s n i) lotW_4 (fun _ => ha)) mo_T_enact st_T_146 rc_0 (by decide) rfl (Nat.le_of_ble_eq_true rfl) d_T_lots_131) (fun σ5 q6 => ?_)
        refine v_iinc (v := nI (i + 1)) (ls' := [(6, .int (nI (i + 1))), (7, .int (nI (lotA s n i))), (4, .long (lN (lotN s (i + 1)))), (0, .ref (u.2.1 0)), (1, .int (nI m)), (2, .int (nI s)), (3, .int (nI D))]) F d_T_lots_134 (j := 6) rfl (nI_inc _) (by decide) rfl ?_
        refine v_goto F 69 d_T_lots_137 rfl ?_
        have eZ := loS_y (s := s) h82
        refine v_sub [3, 4, 5, 6, 2, 0] (ls' := [(0, .ref (u.2.1 0)), (1, .int (nI m)), (2, .int (nI s)), (3, .int (nI D)), (4, .long (lN (lotN s (i + 1)))), (6, .int (nI (i + 1)))]) rfl ?_
        refine v_st (show σ5 = (loS σ G kd n L D s (i + 1)).1 from (by first | rfl | (rw [eZ]; first | done | assumption | (subst_vars; rfl)))) ?_
        exact ih (i + 1) (by omega) (by omega)
set_option maxHeartbeats 4000000 in
theorem c_T_lots (l : Launch) (u : Un) (hA : Ap u) (σ : St) {n G : Nat} {kd : Nat → Nat} (hb : bkOk σ n G kd) {L : Nat} (hL : σ.1 19 14 = nI L) (hL64 : L < 64) {D : Nat} (hD : σ.1 49 2 = nI D) (hD1 : D ≤ 40) (m seed : Int32) : MTi l u y_T_lots b_T_lots 8 .int 9 [.ref (u.2.1 0), .int m, .int seed] σ (fun ans σ' => (ans, σ') = tLots σ G kd n L D m seed) := by
  refine MT_of hA rfl (by decide) (Nat.le_of_ble_eq_true rfl) (fun X hl F hr => ?_)
  subst hl
  refine v_to (ls' := [(0, .ref (u.2.1 0)), (1, .int m), (2, .int seed)]) rfl ?_
  obtain ⟨hn, hn6, hG, hG64, hkd, hk6⟩ := id hb
  refine v_iload_n F d_T_lots_0 rfl 1 rfl ?_
  refine v_iconst (v := 1) F d_T_lots_1 ki_1 ?_
  refine v_icmp_lt F 25 d_T_lots_2 rfl (fun h2 => ?_) (fun h2 => ?_)
  · skip
    refine v_iconst (v := (-1)) F d_T_lots_25 ki_m1 ?_
    refine v_iret F hr rfl d_T_lots_26 ?_
    unfold tLots
    first | (rw [if_pos (by first | exact Or.inl (by assumption) | exact Or.inr (Or.inl (by first | assumption | exact i_lt_le.mp (by assumption))) | exact Or.inr (Or.inr (Or.inl (by assumption))) | exact Or.inr (Or.inr (Or.inr (by rw [nI_l (by omega)]; exact hsl))))]; done) | (rw [if_neg (by rintro (q | q | q | q); exact absurd q h2; exact absurd q (i_nlt.mpr (by first | exact h8 | exact i_nlt.mp h8)); exact absurd q h13; exact q (by rw [nI_l (by omega)]; exact hsl)), if_pos (by assumption)]; done) | (rw [if_neg (by rintro (q | q | q | q); exact absurd q h2; exact absurd q (i_nlt.mpr (by first | exact h8 | exact i_nlt.mp h8)); exact absurd q h13; exact q (by rw [nI_l (by omega)]; exact hsl)), if_neg (fun q => q (by assumption)), xm, if_pos (by omega)]; done)
  · skip
    refine v_iload_n F d_T_lots_5 rfl 1 rfl ?_
    refine v_bipush (v := 20) F d_T_lots_6 kb_20 ?_
    refine v_icmp_gt F 25 d_T_lots_8 rfl (fun h8 => ?_) (fun h8 => ?_)
    · skip
      refine v_iconst (v := (-1)) F d_T_lots_25 ki_m1 ?_
      refine v_iret F hr rfl d_T_lots_26 ?_
      unfold tLots
      first | (rw [if_pos (by first | exact Or.inl (by assumption) | exact Or.inr (Or.inl (by first | assumption | exact i_lt_le.mp (by assumption))) | exact Or.inr (Or.inr (Or.inl (by assumption))) | exact Or.inr (Or.inr (Or.inr (by rw [nI_l (by omega)]; exact hsl))))]; done) | (rw [if_neg (by rintro (q | q | q | q); exact absurd q h2; exact absurd q (i_nlt.mpr (by first | exact h8 | exact i_nlt.mp h8)); exact absurd q h13; exact q (by rw [nI_l (by omega)]; exact hsl)), if_pos (by assumption)]; done) | (rw [if_neg (by rintro (q | q | q | q); exact absurd q h2; exact absurd q (i_nlt.mpr (by first | exact h8 | exact i_nlt.mp h8)); exact absurd q h13; exact q (by rw [nI_l (by omega)]; exact hsl)), if_neg (fun q => q (by assumption)), xm, if_pos (by omega)]; done)
    · skip
      obtain ⟨m, hm, xm, rfl⟩ := nat_of (M := 20) (le_trans1 h2) (i_nlt.mp h8) rfl (by decide)
      refine v_iload_n F d_T_lots_11 rfl 2 rfl ?_
      refine v_iconst (v := 1) F d_T_lots_12 ki_1 ?_
      refine v_icmp_lt F 25 d_T_lots_13 rfl (fun h13 => ?_) (fun h13 => ?_)
      · skip
        refine v_iconst (v := (-1)) F d_T_lots_25 ki_m1 ?_
        refine v_iret F hr rfl d_T_lots_26 ?_
        unfold tLots
        first | (rw [if_pos (by first | exact Or.inl (by assumption) | exact Or.inr (Or.inl (by first | assumption | exact i_lt_le.mp (by assumption))) | exact Or.inr (Or.inr (Or.inl (by assumption))) | exact Or.inr (Or.inr (Or.inr (by rw [nI_l (by omega)]; exact hsl))))]; done) | (rw [if_neg (by rintro (q | q | q | q); exact absurd q h2; exact absurd q (i_nlt.mpr (by first | exact h8 | exact i_nlt.mp h8)); exact absurd q h13; exact q (by rw [nI_l (by omega)]; exact hsl)), if_pos (by assumption)]; done) | (rw [if_neg (by rintro (q | q | q | q); exact absurd q h2; exact absurd q (i_nlt.mpr (by first | exact h8 | exact i_nlt.mp h8)); exact absurd q h13; exact q (by rw [nI_l (by omega)]; exact hsl)), if_neg (fun q => q (by assumption)), xm, if_pos (by omega)]; done)
      · skip
        obtain ⟨s, hs31, rfl⟩ := nI_of (i_nlt.mpr (le_trans1 h13))
        have xs : ix (nI s) = s := ix_nI hs31
        refine v_iload_n F d_T_lots_16 rfl 2 rfl ?_
        refine v_i2l F d_T_lots_17 ?_
        refine v_tl (y := (lN s)) (nI_l (by omega)) ?_
        refine v_ldc2 (v := 2147483647) F kc_T_301 d_T_lots_18 ?_
        refine v_lcmp F d_T_lots_21 ?_
        refine v_if_lt F 27 d_T_lots_22 rfl (fun h22 => ?_) (fun h22 => ?_)
        · skip
          have hsl : lN s < 2147483647 := lg_neg.mp h22
          have hs : s < 2147483647 := (pk_lLT (b := 2147483647) (by omega) (by omega)).mp hsl
          refine v_aload_n F d_T_lots_27 rfl 0 rfl ?_
          refine v_runi (r_V F (c_T_isOpen X.2.1 u hA σ  ) mo_T_isOpen st_T_142 rc_0 (by decide) rfl (Nat.le_of_ble_eq_true rfl) d_T_lots_28) (fun r1 σ2 q3 => ?_)
          obtain ⟨rfl, rfl⟩ := q3
          refine v_bf F 37 d_T_lots_31 rfl (fun h31 => ?_) (fun h31 => ?_)
          · skip
            have hn0 : 0 < n := (nI_ltI (a := 0) (b := n) (by omega) (by omega)).mp (hn ▸ h31.1)
            refine v_aload_n F d_T_lots_37 rfl 0 rfl ?_
            refine v_getr (r := 49) F fk_T_57 G0 rfl d_T_lots_38 ?_
            refine v_geti F fk_T_72 G49 rfl d_T_lots_41 ?_
            refine v_te (y := nI D) hD ?_
            refine v_iload_n F d_T_lots_44 rfl 1 rfl ?_
            refine v_iadd F d_T_lots_45 ?_
            refine v_te (y := nI (D + m)) (nI_add _ _) ?_
            refine v_bipush (v := 40) F d_T_lots_46 kb_40 ?_
            refine v_icmp_le F 54 d_T_lots_48 rfl (fun h48 => ?_) (fun h48 => ?_)
            · skip
              have h48 : D + m ≤ 40 := (nI_leI (a := D + m) (b := 40) (by omega) (by omega)).mp h48
              refine v_aload_n F d_T_lots_54 rfl 0 rfl ?_
              refine v_getr (r := 49) F fk_T_57 G0 rfl d_T_lots_55 ?_
              refine v_geti F fk_T_72 G49 rfl d_T_lots_58 ?_
              refine v_te (y := nI D) hD ?_
              refine v_istore_n (ls' := [(3, .int (nI D)), (0, .ref (u.2.1 0)), (1, .int (nI m)), (2, .int (nI s))]) F d_T_lots_61 rfl (by decide) rfl ?_
              refine v_iload_n F d_T_lots_62 rfl 3 rfl ?_
              refine v_i2l F d_T_lots_63 ?_
              refine v_tl (y := (lN s)) (nI_l (by omega)) ?_
              refine v_lstore (ls' := [(4, .long (lN s)), (3, .int (nI D)), (0, .ref (u.2.1 0)), (1, .int (nI m)), (2, .int (nI s))]) F d_T_lots_64 (by decide) rfl ?_
              refine v_iconst (v := 0) F d_T_lots_66 ki_0 ?_
              refine v_istore (ls' := [(6, .int 0), (4, .long (lN s)), (3, .int (nI D)), (0, .ref (u.2.1 0)), (1, .int (nI m)), (2, .int (nI s))]) F d_T_lots_67 (by decide) rfl ?_
              refine v_sub [3, 4, 5, 2, 1, 0] (ls' := [(0, .ref (u.2.1 0)), (1, .int (nI m)), (2, .int (nI s)), (3, .int (nI D)), (4, .long (lN s)), (6, .int 0)]) rfl ?_
              have g4 : (lN s) = (lN (lotN s 0)) := (by first | rfl | (simp_all; done) | grind)
              have g5 : 0 = (nI 0) := (by first | rfl | (simp_all; done) | grind)
              refine v_to (ls' := [(0, .ref (u.2.1 0)), (1, .int (nI m)), (2, .int (nI s)), (3, .int (nI D)), (4, .long (lN (lotN s 0))), (6, .int (nI 0))]) (by first | rfl | rw [g4, g5] | simp_all) ?_
              refine v_st (show σ = (loS σ G kd n L D s 0).1 from rfl) ?_
              refine L_T_lots_69 hA F hb hL hL64 hD (by omega) hs hn0 (fun i hE hi => ?_) _ 0 (Nat.zero_le _) (Nat.lt_succ_self _)
              have hP := (loS_P hb hL hL64 hD (s := s) i)
              refine v_aload_n F d_T_lots_140 rfl 0 rfl ?_
              refine v_getr (r := 49) F fk_T_57 G0 rfl d_T_lots_141 ?_
              refine v_geti F fk_T_72 G49 rfl d_T_lots_144 ?_
              refine v_te (y := nI (loS σ G kd n L D s i).2.2) hP.2.2.2.1 ?_
              refine v_iload_n F d_T_lots_147 rfl 1 rfl ?_
              refine v_isub F d_T_lots_148 ?_
              refine v_te (y := nI ((loS σ G kd n L D s i).2.2 - D)) (pk_sub hP.2.2.2.2.1) ?_
              refine v_iret F hr rfl d_T_lots_149 ?_
              unfold tLots
              rw [if_neg (by rintro (q | q | q | q); exact absurd q h2; exact absurd q (i_nlt.mpr (by first | exact h8 | exact i_nlt.mp h8)); exact absurd q h13; exact q (by rw [nI_l (by omega)]; exact hsl)), if_neg (fun q => q h31), xm, xs, if_neg (by omega), hE]
            · skip
              have h48 : ¬ D + m ≤ 40 := fun q => h48 ((nI_leI (a := D + m) (b := 40) (by omega) (by omega)).mpr q)
              refine v_bipush (v := (-2)) F d_T_lots_51 kb_m2 ?_
              refine v_iret F hr rfl d_T_lots_53 ?_
              unfold tLots
              first | (rw [if_pos (by first | exact Or.inl (by assumption) | exact Or.inr (Or.inl (by first | assumption | exact i_lt_le.mp (by assumption))) | exact Or.inr (Or.inr (Or.inl (by assumption))) | exact Or.inr (Or.inr (Or.inr (by rw [nI_l (by omega)]; exact hsl))))]; done) | (rw [if_neg (by rintro (q | q | q | q); exact absurd q h2; exact absurd q (i_nlt.mpr (by first | exact h8 | exact i_nlt.mp h8)); exact absurd q h13; exact q (by rw [nI_l (by omega)]; exact hsl)), if_pos (by assumption)]; done) | (rw [if_neg (by rintro (q | q | q | q); exact absurd q h2; exact absurd q (i_nlt.mpr (by first | exact h8 | exact i_nlt.mp h8)); exact absurd q h13; exact q (by rw [nI_l (by omega)]; exact hsl)), if_neg (fun q => q (by assumption)), xm, if_pos (by omega)]; done)
          · skip
            refine v_bipush (v := (-4)) F d_T_lots_34 kb_m4 ?_
            refine v_iret F hr rfl d_T_lots_36 ?_
            unfold tLots
            first | (rw [if_pos (by first | exact Or.inl (by assumption) | exact Or.inr (Or.inl (by first | assumption | exact i_lt_le.mp (by assumption))) | exact Or.inr (Or.inr (Or.inl (by assumption))) | exact Or.inr (Or.inr (Or.inr (by rw [nI_l (by omega)]; exact hsl))))]; done) | (rw [if_neg (by rintro (q | q | q | q); exact absurd q h2; exact absurd q (i_nlt.mpr (by first | exact h8 | exact i_nlt.mp h8)); exact absurd q h13; exact q (by rw [nI_l (by omega)]; exact hsl)), if_pos (by assumption)]; done) | (rw [if_neg (by rintro (q | q | q | q); exact absurd q h2; exact absurd q (i_nlt.mpr (by first | exact h8 | exact i_nlt.mp h8)); exact absurd q h13; exact q (by rw [nI_l (by omega)]; exact hsl)), if_neg (fun q => q (by assumption)), xm, if_pos (by omega)]; done)
        · skip
          have hsl : ¬ lN s < 2147483647 := fun q => h22 (lg_neg.mpr q)
          refine v_iconst (v := (-1)) F d_T_lots_25 ki_m1 ?_
          refine v_iret F hr rfl d_T_lots_26 ?_
          unfold tLots
          first | (rw [if_pos (by first | exact Or.inl (by assumption) | exact Or.inr (Or.inl (by first | assumption | exact i_lt_le.mp (by assumption))) | exact Or.inr (Or.inr (Or.inl (by assumption))) | exact Or.inr (Or.inr (Or.inr (by rw [nI_l (by omega)]; exact hsl))))]; done) | (rw [if_neg (by rintro (q | q | q | q); exact absurd q h2; exact absurd q (i_nlt.mpr (by first | exact h8 | exact i_nlt.mp h8)); exact absurd q h13; exact q (by rw [nI_l (by omega)]; exact hsl)), if_pos (by assumption)]; done) | (rw [if_neg (by rintro (q | q | q | q); exact absurd q h2; exact absurd q (i_nlt.mpr (by first | exact h8 | exact i_nlt.mp h8)); exact absurd q h13; exact q (by rw [nI_l (by omega)]; exact hsl)), if_neg (fun q => q (by assumption)), xm, if_pos (by omega)]; done)
