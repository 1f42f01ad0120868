theorem ki_0 : Int32.ofInt 0 = (0 : Int32) := by decide
theorem kb_6 : (Int8.ofInt 6).toInt32 = (6 : Int32) := by decide
theorem ki_1 : Int32.ofInt 1 = (1 : Int32) := by decide
theorem ki_4 : Int32.ofInt 4 = (4 : Int32) := by decide
theorem kb_99 : (Int8.ofInt 99).toInt32 = (99 : Int32) := by decide
theorem kb_12 : (Int8.ofInt 12).toInt32 = (12 : Int32) := by decide
theorem G0 : Gam[0]? = some (.inr (.inr (0, [.inl 1, .inl 8, .inl 9, .inl 14, .inl 15, .inl 19, .inl 34, .inl 40, .inl 49, .inl 52, .inl 62, .inr false, .inr false, .inr true, .inr true]))) := rfl
theorem rc_0 : recv 0 "TakerBook" := ⟨0, _, (R_T, F_T, 15), G0, rfl, rfl⟩
theorem fk_T_36 : fok "TakerBook" 36 0 5 := ⟨(R_T, F_T, 15), rfl, by decide, List.mem_of_getElem? (i := 360) (by decide +kernel), rfl⟩
theorem G19 : Gam[19]? = some (.inr (.inr (1, [.inl 20, .inl 27, .inl 28, .inl 29, .inl 30, .inl 31, .inl 32, .inl 33, .inr false, .inr false, .inr false, .inr false, .inr false, .inr false, .inr false, .inr false, .inr false, .inr false, .inr false]))) := rfl
theorem rc_19 : recv 19 "TakerBook$Band" := ⟨1, _, (R_B, F_B, 19), G19, rfl, rfl⟩
theorem fk_T_118 : fok "TakerBook" 118 1 8 := ⟨(R_B, F_B, 19), rfl, by decide, List.mem_of_getElem? (i := 196) (by decide +kernel), rfl⟩
theorem fk_T_150 : fok "TakerBook" 150 1 18 := ⟨(R_B, F_B, 19), rfl, by decide, List.mem_of_getElem? (i := 218) (by decide +kernel), rfl⟩
theorem fk_T_329 : fok "TakerBook" 329 0 11 := ⟨(R_T, F_T, 15), rfl, by decide, List.mem_of_getElem? (i := 366) (by decide +kernel), rfl⟩
theorem pk_T_latestFinding : pok 0 11 .int := ⟨(R_T, F_T, 15), rfl, rfl, by decide +kernel⟩
theorem fk_T_65 : fok "TakerBook" 65 0 10 := ⟨(R_T, F_T, 15), rfl, by decide, List.mem_of_getElem? (i := 365) (by decide +kernel), rfl⟩
theorem G62 : Gam[62]? = some (.inl (.int, 6)) := rfl
theorem kb_m3 : (Int8.ofInt (-3)).toInt32 = ((-3) : Int32) := by decide
theorem st_T_76 : siteS "TakerBook" 76 ⟨"TakerBook", "isRow", "(I)Z"⟩ := ⟨List.mem_of_getElem? (i := 405) (by decide +kernel), List.mem_of_getElem? (i := 406) (by decide +kernel)⟩
theorem fk_T_14 : fok "TakerBook" 14 0 1 := ⟨(R_T, F_T, 15), rfl, by decide, List.mem_of_getElem? (i := 356) (by decide +kernel), rfl⟩
theorem G8 : Gam[8]? = some (.inl (.int, 6)) := rfl
theorem st_T_80 : siteV "TakerBook" 80 ⟨"TakerBook", "refuse", "(I)I"⟩ := ⟨List.mem_of_getElem? (i := 408) (by decide +kernel), List.mem_of_getElem? (i := 410) (by decide +kernel), List.mem_of_getElem? (i := 0) (by decide +kernel)⟩
theorem ki_m1 : Int32.ofInt (-1) = ((-1) : Int32) := by decide
theorem st_T_104 : siteS "TakerBook" 104 ⟨"TakerBook", "isText", "(I)Z"⟩ := ⟨List.mem_of_getElem? (i := 450) (by decide +kernel), List.mem_of_getElem? (i := 451) (by decide +kernel)⟩
theorem fk_T_23 : fok "TakerBook" 23 0 3 := ⟨(R_T, F_T, 15), rfl, by decide, List.mem_of_getElem? (i := 358) (by decide +kernel), rfl⟩
theorem G14 : Gam[14]? = some (.inl (.int, 4)) := rfl
theorem st_T_91 : siteV "TakerBook" 91 ⟨"TakerBook", "refusedRow", "(I)I"⟩ := ⟨List.mem_of_getElem? (i := 420) (by decide +kernel), List.mem_of_getElem? (i := 422) (by decide +kernel), List.mem_of_getElem? (i := 2) (by decide +kernel)⟩
theorem ki_2 : Int32.ofInt 2 = (2 : Int32) := by decide
theorem st_T_84 : siteV "TakerBook" 84 ⟨"TakerBook", "refusedPlace", "(II)I"⟩ := ⟨List.mem_of_getElem? (i := 416) (by decide +kernel), List.mem_of_getElem? (i := 418) (by decide +kernel), List.mem_of_getElem? (i := 1) (by decide +kernel)⟩
theorem fk_T_11 : fok "TakerBook" 11 0 0 := ⟨(R_T, F_T, 15), rfl, by decide, List.mem_of_getElem? (i := 355) (by decide +kernel), rfl⟩
theorem G1 : Gam[1]? = some (.inr (.inl ((.array .int), 6, fun j => 2 + j))) := rfl
theorem fk_T_88 : fok "TakerBook" 88 0 12 := ⟨(R_T, F_T, 15), rfl, by decide, List.mem_of_getElem? (i := 367) (by decide +kernel), rfl⟩
theorem pk_T_told : pok 0 12 .int := ⟨(R_T, F_T, 15), rfl, rfl, by decide +kernel⟩
abbrev b_T_isRow : ByteArray := prog_1_method_52_code
abbrev y_T_isRow : MethodName := ⟨"TakerBook", "isRow", "(I)Z"⟩
theorem d_T_isRow_0 : decode b_T_isRow 0 = .ok (.iload_n 0, 1) := by decide +kernel
theorem d_T_isRow_1 : decode b_T_isRow 1 = .ok (.ifCond .lt 13, 3) := by decide +kernel
theorem d_T_isRow_4 : decode b_T_isRow 4 = .ok (.iload_n 0, 1) := by decide +kernel
theorem d_T_isRow_5 : decode b_T_isRow 5 = .ok (.bipush 6, 2) := by decide +kernel
theorem d_T_isRow_7 : decode b_T_isRow 7 = .ok (.if_icmp .ge 7, 3) := by decide +kernel
theorem d_T_isRow_10 : decode b_T_isRow 10 = .ok (.iconst 1, 1) := by decide +kernel
theorem d_T_isRow_11 : decode b_T_isRow 11 = .ok (.goto 4, 3) := by decide +kernel
theorem d_T_isRow_14 : decode b_T_isRow 14 = .ok (.iconst 0, 1) := by decide +kernel
theorem d_T_isRow_15 : decode b_T_isRow 15 = .ok (.ireturn, 1) := by decide +kernel
theorem mo_T_isRow : mok y_T_isRow b_T_isRow 1 (some .boolean) 1 := ⟨List.mem_of_getElem? (i := 407) (by decide +kernel), ⟨by decide +kernel, by decide +kernel, by decide +kernel⟩, List.mem_of_getElem? (i := 74) (by decide +kernel), by decide⟩
set_option maxHeartbeats 4000000 in
theorem c_T_isRow (l : Launch) (u : Un) (hA : Ap u) (σ : St) (x : Int32) : MTi l u y_T_isRow b_T_isRow 1 .boolean 0 [.int x] σ (fun ans σ' => bI (inR x 6) = ans ∧ σ = σ') := by
  refine MT_of hA rfl (by decide) (Nat.le_of_ble_eq_true rfl) (fun X hl F hr => ?_)
  subst hl
  refine v_to (ls' := [(0, .int x)]) rfl ?_
  refine v_iload_n F d_T_isRow_0 rfl 0 rfl ?_
  refine v_if_lt F 14 d_T_isRow_1 rfl (fun h1 => ?_) (fun h1 => ?_)
  · skip
    refine v_iconst (v := 0) F d_T_isRow_14 ki_0 ?_
    refine v_iret F hr rfl d_T_isRow_15 ?_
    exact ⟨(bI_f (by first | (simp_all [inR]; done) | grind)), rfl⟩
  · skip
    refine v_iload_n F d_T_isRow_4 rfl 0 rfl ?_
    refine v_bipush (v := 6) F d_T_isRow_5 kb_6 ?_
    refine v_icmp_ge F 14 d_T_isRow_7 rfl (fun h7 => ?_) (fun h7 => ?_)
    · skip
      refine v_iconst (v := 0) F d_T_isRow_14 ki_0 ?_
      refine v_iret F hr rfl d_T_isRow_15 ?_
      exact ⟨(bI_f (by first | (simp_all [inR]; done) | grind)), rfl⟩
    · skip
      refine v_iconst (v := 1) F d_T_isRow_10 ki_1 ?_
      refine v_goto F 15 d_T_isRow_11 rfl ?_
      refine v_iret F hr rfl d_T_isRow_15 ?_
      exact ⟨(bI_t (by first | (simp_all [inR]; done) | grind)), rfl⟩
abbrev b_T_isText : ByteArray := prog_1_method_53_code
abbrev y_T_isText : MethodName := ⟨"TakerBook", "isText", "(I)Z"⟩
theorem d_T_isText_0 : decode b_T_isText 0 = .ok (.iload_n 0, 1) := by decide +kernel
theorem d_T_isText_1 : decode b_T_isText 1 = .ok (.ifCond .lt 12, 3) := by decide +kernel
theorem d_T_isText_4 : decode b_T_isText 4 = .ok (.iload_n 0, 1) := by decide +kernel
theorem d_T_isText_5 : decode b_T_isText 5 = .ok (.iconst 4, 1) := by decide +kernel
theorem d_T_isText_6 : decode b_T_isText 6 = .ok (.if_icmp .ge 7, 3) := by decide +kernel
theorem d_T_isText_9 : decode b_T_isText 9 = .ok (.iconst 1, 1) := by decide +kernel
theorem d_T_isText_10 : decode b_T_isText 10 = .ok (.goto 4, 3) := by decide +kernel
theorem d_T_isText_13 : decode b_T_isText 13 = .ok (.iconst 0, 1) := by decide +kernel
theorem d_T_isText_14 : decode b_T_isText 14 = .ok (.ireturn, 1) := by decide +kernel
theorem mo_T_isText : mok y_T_isText b_T_isText 1 (some .boolean) 1 := ⟨List.mem_of_getElem? (i := 452) (by decide +kernel), ⟨by decide +kernel, by decide +kernel, by decide +kernel⟩, List.mem_of_getElem? (i := 74) (by decide +kernel), by decide⟩
set_option maxHeartbeats 4000000 in
theorem c_T_isText (l : Launch) (u : Un) (hA : Ap u) (σ : St) (x : Int32) : MTi l u y_T_isText b_T_isText 1 .boolean 0 [.int x] σ (fun ans σ' => bI (inR x 4) = ans ∧ σ = σ') := by
  refine MT_of hA rfl (by decide) (Nat.le_of_ble_eq_true rfl) (fun X hl F hr => ?_)
  subst hl
  refine v_to (ls' := [(0, .int x)]) rfl ?_
  refine v_iload_n F d_T_isText_0 rfl 0 rfl ?_
  refine v_if_lt F 13 d_T_isText_1 rfl (fun h1 => ?_) (fun h1 => ?_)
  · skip
    refine v_iconst (v := 0) F d_T_isText_13 ki_0 ?_
    refine v_iret F hr rfl d_T_isText_14 ?_
    exact ⟨(bI_f (by first | (simp_all [inR]; done) | grind)), rfl⟩
  · skip
    refine v_iload_n F d_T_isText_4 rfl 0 rfl ?_
    refine v_iconst (v := 4) F d_T_isText_5 ki_4 ?_
    refine v_icmp_ge F 13 d_T_isText_6 rfl (fun h6 => ?_) (fun h6 => ?_)
    · skip
      refine v_iconst (v := 0) F d_T_isText_13 ki_0 ?_
      refine v_iret F hr rfl d_T_isText_14 ?_
      exact ⟨(bI_f (by first | (simp_all [inR]; done) | grind)), rfl⟩
    · skip
      refine v_iconst (v := 1) F d_T_isText_9 ki_1 ?_
      refine v_goto F 14 d_T_isText_10 rfl ?_
      refine v_iret F hr rfl d_T_isText_14 ?_
      exact ⟨(bI_t (by first | (simp_all [inR]; done) | grind)), rfl⟩
abbrev b_T_isPlanSize : ByteArray := prog_1_method_54_code
abbrev y_T_isPlanSize : MethodName := ⟨"TakerBook", "isPlanSize", "(I)Z"⟩
theorem d_T_isPlanSize_0 : decode b_T_isPlanSize 0 = .ok (.iload_n 0, 1) := by decide +kernel
theorem d_T_isPlanSize_1 : decode b_T_isPlanSize 1 = .ok (.ifCond .lt 12, 3) := by decide +kernel
theorem d_T_isPlanSize_4 : decode b_T_isPlanSize 4 = .ok (.iload_n 0, 1) := by decide +kernel
theorem d_T_isPlanSize_5 : decode b_T_isPlanSize 5 = .ok (.iconst 4, 1) := by decide +kernel
theorem d_T_isPlanSize_6 : decode b_T_isPlanSize 6 = .ok (.if_icmp .gt 7, 3) := by decide +kernel
theorem d_T_isPlanSize_9 : decode b_T_isPlanSize 9 = .ok (.iconst 1, 1) := by decide +kernel
theorem d_T_isPlanSize_10 : decode b_T_isPlanSize 10 = .ok (.goto 4, 3) := by decide +kernel
theorem d_T_isPlanSize_13 : decode b_T_isPlanSize 13 = .ok (.iconst 0, 1) := by decide +kernel
theorem d_T_isPlanSize_14 : decode b_T_isPlanSize 14 = .ok (.ireturn, 1) := by decide +kernel
theorem mo_T_isPlanSize : mok y_T_isPlanSize b_T_isPlanSize 1 (some .boolean) 1 := ⟨List.mem_of_getElem? (i := 769) (by decide +kernel), ⟨by decide +kernel, by decide +kernel, by decide +kernel⟩, List.mem_of_getElem? (i := 74) (by decide +kernel), by decide⟩
set_option maxHeartbeats 4000000 in
theorem c_T_isPlanSize (l : Launch) (u : Un) (hA : Ap u) (σ : St) (x : Int32) : MTi l u y_T_isPlanSize b_T_isPlanSize 1 .boolean 0 [.int x] σ (fun ans σ' => bI (0 ≤ x ∧ x ≤ 4) = ans ∧ σ = σ') := by
  refine MT_of hA rfl (by decide) (Nat.le_of_ble_eq_true rfl) (fun X hl F hr => ?_)
  subst hl
  refine v_to (ls' := [(0, .int x)]) rfl ?_
  refine v_iload_n F d_T_isPlanSize_0 rfl 0 rfl ?_
  refine v_if_lt F 13 d_T_isPlanSize_1 rfl (fun h1 => ?_) (fun h1 => ?_)
  · skip
    refine v_iconst (v := 0) F d_T_isPlanSize_13 ki_0 ?_
    refine v_iret F hr rfl d_T_isPlanSize_14 ?_
    exact ⟨(bI_f (by first | (simp_all [inR]; done) | grind)), rfl⟩
  · skip
    refine v_iload_n F d_T_isPlanSize_4 rfl 0 rfl ?_
    refine v_iconst (v := 4) F d_T_isPlanSize_5 ki_4 ?_
    refine v_icmp_gt F 13 d_T_isPlanSize_6 rfl (fun h6 => ?_) (fun h6 => ?_)
    · skip
      refine v_iconst (v := 0) F d_T_isPlanSize_13 ki_0 ?_
      refine v_iret F hr rfl d_T_isPlanSize_14 ?_
      exact ⟨(bI_f (by first | (simp_all [inR]; done) | grind)), rfl⟩
    · skip
      refine v_iconst (v := 1) F d_T_isPlanSize_9 ki_1 ?_
      refine v_goto F 14 d_T_isPlanSize_10 rfl ?_
      refine v_iret F hr rfl d_T_isPlanSize_14 ?_
      exact ⟨(bI_t (by first | (simp_all [inR]; done) | grind)), rfl⟩
abbrev b_T_isSum : ByteArray := prog_1_method_55_code
abbrev y_T_isSum : MethodName := ⟨"TakerBook", "isSum", "(I)Z"⟩
theorem d_T_isSum_0 : decode b_T_isSum 0 = .ok (.iload_n 0, 1) := by decide +kernel
theorem d_T_isSum_1 : decode b_T_isSum 1 = .ok (.ifCond .lt 13, 3) := by decide +kernel
theorem d_T_isSum_4 : decode b_T_isSum 4 = .ok (.iload_n 0, 1) := by decide +kernel
theorem d_T_isSum_5 : decode b_T_isSum 5 = .ok (.bipush 99, 2) := by decide +kernel
theorem d_T_isSum_7 : decode b_T_isSum 7 = .ok (.if_icmp .gt 7, 3) := by decide +kernel
theorem d_T_isSum_10 : decode b_T_isSum 10 = .ok (.iconst 1, 1) := by decide +kernel
theorem d_T_isSum_11 : decode b_T_isSum 11 = .ok (.goto 4, 3) := by decide +kernel
theorem d_T_isSum_14 : decode b_T_isSum 14 = .ok (.iconst 0, 1) := by decide +kernel
theorem d_T_isSum_15 : decode b_T_isSum 15 = .ok (.ireturn, 1) := by decide +kernel
theorem mo_T_isSum : mok y_T_isSum b_T_isSum 1 (some .boolean) 1 := ⟨List.mem_of_getElem? (i := 818) (by decide +kernel), ⟨by decide +kernel, by decide +kernel, by decide +kernel⟩, List.mem_of_getElem? (i := 74) (by decide +kernel), by decide⟩
set_option maxHeartbeats 4000000 in
theorem c_T_isSum (l : Launch) (u : Un) (hA : Ap u) (σ : St) (x : Int32) : MTi l u y_T_isSum b_T_isSum 1 .boolean 0 [.int x] σ (fun ans σ' => bI (0 ≤ x ∧ x ≤ 99) = ans ∧ σ = σ') := by
  refine MT_of hA rfl (by decide) (Nat.le_of_ble_eq_true rfl) (fun X hl F hr => ?_)
  subst hl
  refine v_to (ls' := [(0, .int x)]) rfl ?_
  refine v_iload_n F d_T_isSum_0 rfl 0 rfl ?_
  refine v_if_lt F 14 d_T_isSum_1 rfl (fun h1 => ?_) (fun h1 => ?_)
  · skip
    refine v_iconst (v := 0) F d_T_isSum_14 ki_0 ?_
    refine v_iret F hr rfl d_T_isSum_15 ?_
    exact ⟨(bI_f (by first | (simp_all [inR]; done) | grind)), rfl⟩
  · skip
    refine v_iload_n F d_T_isSum_4 rfl 0 rfl ?_
    refine v_bipush (v := 99) F d_T_isSum_5 kb_99 ?_
    refine v_icmp_gt F 14 d_T_isSum_7 rfl (fun h7 => ?_) (fun h7 => ?_)
    · skip
      refine v_iconst (v := 0) F d_T_isSum_14 ki_0 ?_
      refine v_iret F hr rfl d_T_isSum_15 ?_
      exact ⟨(bI_f (by first | (simp_all [inR]; done) | grind)), rfl⟩
    · skip
      refine v_iconst (v := 1) F d_T_isSum_10 ki_1 ?_
      refine v_goto F 15 d_T_isSum_11 rfl ?_
      refine v_iret F hr rfl d_T_isSum_15 ?_
      exact ⟨(bI_t (by first | (simp_all [inR]; done) | grind)), rfl⟩
abbrev b_T_isChance : ByteArray := prog_1_method_56_code
abbrev y_T_isChance : MethodName := ⟨"TakerBook", "isChance", "(I)Z"⟩
theorem d_T_isChance_0 : decode b_T_isChance 0 = .ok (.iload_n 0, 1) := by decide +kernel
theorem d_T_isChance_1 : decode b_T_isChance 1 = .ok (.ifCond .lt 13, 3) := by decide +kernel
theorem d_T_isChance_4 : decode b_T_isChance 4 = .ok (.iload_n 0, 1) := by decide +kernel
theorem d_T_isChance_5 : decode b_T_isChance 5 = .ok (.bipush 12, 2) := by decide +kernel
theorem d_T_isChance_7 : decode b_T_isChance 7 = .ok (.if_icmp .gt 7, 3) := by decide +kernel
theorem d_T_isChance_10 : decode b_T_isChance 10 = .ok (.iconst 1, 1) := by decide +kernel
theorem d_T_isChance_11 : decode b_T_isChance 11 = .ok (.goto 4, 3) := by decide +kernel
theorem d_T_isChance_14 : decode b_T_isChance 14 = .ok (.iconst 0, 1) := by decide +kernel
theorem d_T_isChance_15 : decode b_T_isChance 15 = .ok (.ireturn, 1) := by decide +kernel
theorem mo_T_isChance : mok y_T_isChance b_T_isChance 1 (some .boolean) 1 := ⟨List.mem_of_getElem? (i := 906) (by decide +kernel), ⟨by decide +kernel, by decide +kernel, by decide +kernel⟩, List.mem_of_getElem? (i := 74) (by decide +kernel), by decide⟩
set_option maxHeartbeats 4000000 in
theorem c_T_isChance (l : Launch) (u : Un) (hA : Ap u) (σ : St) (x : Int32) : MTi l u y_T_isChance b_T_isChance 1 .boolean 0 [.int x] σ (fun ans σ' => bI (0 ≤ x ∧ x ≤ 12) = ans ∧ σ = σ') := by
  refine MT_of hA rfl (by decide) (Nat.le_of_ble_eq_true rfl) (fun X hl F hr => ?_)
  subst hl
  refine v_to (ls' := [(0, .int x)]) rfl ?_
  refine v_iload_n F d_T_isChance_0 rfl 0 rfl ?_
  refine v_if_lt F 14 d_T_isChance_1 rfl (fun h1 => ?_) (fun h1 => ?_)
  · skip
    refine v_iconst (v := 0) F d_T_isChance_14 ki_0 ?_
    refine v_iret F hr rfl d_T_isChance_15 ?_
    exact ⟨(bI_f (by first | (simp_all [inR]; done) | grind)), rfl⟩
  · skip
    refine v_iload_n F d_T_isChance_4 rfl 0 rfl ?_
    refine v_bipush (v := 12) F d_T_isChance_5 kb_12 ?_
    refine v_icmp_gt F 14 d_T_isChance_7 rfl (fun h7 => ?_) (fun h7 => ?_)
    · skip
      refine v_iconst (v := 0) F d_T_isChance_14 ki_0 ?_
      refine v_iret F hr rfl d_T_isChance_15 ?_
      exact ⟨(bI_f (by first | (simp_all [inR]; done) | grind)), rfl⟩
    · skip
      refine v_iconst (v := 1) F d_T_isChance_10 ki_1 ?_
      refine v_goto F 15 d_T_isChance_11 rfl ?_
      refine v_iret F hr rfl d_T_isChance_15 ?_
      exact ⟨(bI_t (by first | (simp_all [inR]; done) | grind)), rfl⟩
abbrev b_T_isOpen : ByteArray := prog_1_method_57_code
abbrev y_T_isOpen : MethodName := ⟨"TakerBook", "isOpen", "()Z"⟩
theorem d_T_isOpen_0 : decode b_T_isOpen 0 = .ok (.aload_n 0, 1) := by decide +kernel
theorem d_T_isOpen_1 : decode b_T_isOpen 1 = .ok (.getfield 36, 3) := by decide +kernel
theorem d_T_isOpen_4 : decode b_T_isOpen 4 = .ok (.getfield 118, 3) := by decide +kernel
theorem d_T_isOpen_7 : decode b_T_isOpen 7 = .ok (.ifCond .le 17, 3) := by decide +kernel
theorem d_T_isOpen_10 : decode b_T_isOpen 10 = .ok (.aload_n 0, 1) := by decide +kernel
theorem d_T_isOpen_11 : decode b_T_isOpen 11 = .ok (.getfield 36, 3) := by decide +kernel
theorem d_T_isOpen_14 : decode b_T_isOpen 14 = .ok (.getfield 150, 3) := by decide +kernel
theorem d_T_isOpen_17 : decode b_T_isOpen 17 = .ok (.ifCond .ne 7, 3) := by decide +kernel
theorem d_T_isOpen_20 : decode b_T_isOpen 20 = .ok (.iconst 1, 1) := by decide +kernel
theorem d_T_isOpen_21 : decode b_T_isOpen 21 = .ok (.goto 4, 3) := by decide +kernel
theorem d_T_isOpen_24 : decode b_T_isOpen 24 = .ok (.iconst 0, 1) := by decide +kernel
theorem d_T_isOpen_25 : decode b_T_isOpen 25 = .ok (.ireturn, 1) := by decide +kernel
theorem mo_T_isOpen : mok y_T_isOpen b_T_isOpen 1 (some .boolean) 0 := ⟨List.mem_of_getElem? (i := 657) (by decide +kernel), ⟨by decide +kernel, by decide +kernel, by decide +kernel⟩, List.mem_of_getElem? (i := 74) (by decide +kernel), by decide⟩
set_option maxHeartbeats 4000000 in
theorem c_T_isOpen (l : Launch) (u : Un) (hA : Ap u) (σ : St) : MTi l u y_T_isOpen b_T_isOpen 1 .boolean 0 [.ref (u.2.1 0)] σ (fun ans σ' => bI (0 < σ.1 19 8 ∧ σ.1 19 18 = 0) = ans ∧ σ = σ') := by
  refine MT_of hA rfl (by decide) (Nat.le_of_ble_eq_true rfl) (fun X hl F hr => ?_)
  subst hl
  refine v_to (ls' := [(0, .ref (u.2.1 0))]) rfl ?_
  refine v_aload_n F d_T_isOpen_0 rfl 0 rfl ?_
  refine v_getr (r := 19) F fk_T_36 G0 rfl d_T_isOpen_1 ?_
  refine v_geti F fk_T_118 G19 rfl d_T_isOpen_4 ?_
  refine v_if_le F 24 d_T_isOpen_7 rfl (fun h7 => ?_) (fun h7 => ?_)
  · skip
    refine v_iconst (v := 0) F d_T_isOpen_24 ki_0 ?_
    refine v_iret F hr rfl d_T_isOpen_25 ?_
    exact ⟨(bI_f (by first | (simp_all [inR]; done) | grind)), rfl⟩
  · skip
    refine v_aload_n F d_T_isOpen_10 rfl 0 rfl ?_
    refine v_getr (r := 19) F fk_T_36 G0 rfl d_T_isOpen_11 ?_
    refine v_geti F fk_T_150 G19 rfl d_T_isOpen_14 ?_
    refine v_if_ne F 24 d_T_isOpen_17 rfl (fun h17 => ?_) (fun h17 => ?_)
    · skip
      refine v_iconst (v := 0) F d_T_isOpen_24 ki_0 ?_
      refine v_iret F hr rfl d_T_isOpen_25 ?_
      exact ⟨(bI_f (by first | (simp_all [inR]; done) | grind)), rfl⟩
    · skip
      refine v_iconst (v := 1) F d_T_isOpen_20 ki_1 ?_
      refine v_goto F 25 d_T_isOpen_21 rfl ?_
      refine v_iret F hr rfl d_T_isOpen_25 ?_
      exact ⟨(bI_t (by first | (simp_all [inR]; done) | grind)), rfl⟩
abbrev b_T_holds : ByteArray := prog_1_method_58_code
abbrev y_T_holds : MethodName := ⟨"TakerBook", "holds", "(III)Z"⟩
theorem d_T_holds_0 : decode b_T_holds 0 = .ok (.iload_n 1, 1) := by decide +kernel
theorem d_T_holds_1 : decode b_T_holds 1 = .ok (.ifCond .lt 19, 3) := by decide +kernel
theorem d_T_holds_4 : decode b_T_holds 4 = .ok (.iload_n 1, 1) := by decide +kernel
theorem d_T_holds_5 : decode b_T_holds 5 = .ok (.iload_n 0, 1) := by decide +kernel
theorem d_T_holds_6 : decode b_T_holds 6 = .ok (.if_icmp .gt 14, 3) := by decide +kernel
theorem d_T_holds_9 : decode b_T_holds 9 = .ok (.iload_n 2, 1) := by decide +kernel
theorem d_T_holds_10 : decode b_T_holds 10 = .ok (.iload_n 0, 1) := by decide +kernel
theorem d_T_holds_11 : decode b_T_holds 11 = .ok (.iload_n 1, 1) := by decide +kernel
theorem d_T_holds_12 : decode b_T_holds 12 = .ok (.isub, 1) := by decide +kernel
theorem d_T_holds_13 : decode b_T_holds 13 = .ok (.if_icmp .gt 7, 3) := by decide +kernel
theorem d_T_holds_16 : decode b_T_holds 16 = .ok (.iconst 1, 1) := by decide +kernel
theorem d_T_holds_17 : decode b_T_holds 17 = .ok (.goto 4, 3) := by decide +kernel
theorem d_T_holds_20 : decode b_T_holds 20 = .ok (.iconst 0, 1) := by decide +kernel
theorem d_T_holds_21 : decode b_T_holds 21 = .ok (.ireturn, 1) := by decide +kernel
theorem mo_T_holds : mok y_T_holds b_T_holds 3 (some .boolean) 3 := ⟨List.mem_of_getElem? (i := 438) (by decide +kernel), ⟨by decide +kernel, by decide +kernel, by decide +kernel⟩, List.mem_of_getElem? (i := 74) (by decide +kernel), by decide⟩
set_option maxHeartbeats 4000000 in
theorem c_T_holds (l : Launch) (u : Un) (hA : Ap u) (σ : St) (z i n : Int32) : MTi l u y_T_holds b_T_holds 3 .boolean 0 [.int z, .int i, .int n] σ (fun ans σ' => bI (0 ≤ i ∧ i ≤ z ∧ n ≤ z - i) = ans ∧ σ = σ') := by
  refine MT_of hA rfl (by decide) (Nat.le_of_ble_eq_true rfl) (fun X hl F hr => ?_)
  subst hl
  refine v_to (ls' := [(0, .int z), (1, .int i), (2, .int n)]) rfl ?_
  refine v_iload_n F d_T_holds_0 rfl 1 rfl ?_
  refine v_if_lt F 20 d_T_holds_1 rfl (fun h1 => ?_) (fun h1 => ?_)
  · skip
    refine v_iconst (v := 0) F d_T_holds_20 ki_0 ?_
    refine v_iret F hr rfl d_T_holds_21 ?_
    exact ⟨(bI_f (by first | (simp_all [inR]; done) | grind)), rfl⟩
  · skip
    refine v_iload_n F d_T_holds_4 rfl 1 rfl ?_
    refine v_iload_n F d_T_holds_5 rfl 0 rfl ?_
    refine v_icmp_gt F 20 d_T_holds_6 rfl (fun h6 => ?_) (fun h6 => ?_)
    · skip
      refine v_iconst (v := 0) F d_T_holds_20 ki_0 ?_
      refine v_iret F hr rfl d_T_holds_21 ?_
      exact ⟨(bI_f (by first | (simp_all [inR]; done) | grind)), rfl⟩
    · skip
      refine v_iload_n F d_T_holds_9 rfl 2 rfl ?_
      refine v_iload_n F d_T_holds_10 rfl 0 rfl ?_
      refine v_iload_n F d_T_holds_11 rfl 1 rfl ?_
      refine v_isub F d_T_holds_12 ?_
      refine v_icmp_gt F 20 d_T_holds_13 rfl (fun h13 => ?_) (fun h13 => ?_)
      · skip
        refine v_iconst (v := 0) F d_T_holds_20 ki_0 ?_
        refine v_iret F hr rfl d_T_holds_21 ?_
        exact ⟨(bI_f (by first | (simp_all [inR]; done) | grind)), rfl⟩
      · skip
        refine v_iconst (v := 1) F d_T_holds_16 ki_1 ?_
        refine v_goto F 21 d_T_holds_17 rfl ?_
        refine v_iret F hr rfl d_T_holds_21 ?_
        exact ⟨(bI_t (by first | (simp_all [inR]; done) | grind)), rfl⟩
abbrev b_T_isIn : ByteArray := prog_1_method_64_code
abbrev y_T_isIn : MethodName := ⟨"TakerBook", "isIn", "(II)Z"⟩
theorem d_T_isIn_0 : decode b_T_isIn 0 = .ok (.iload_n 1, 1) := by decide +kernel
theorem d_T_isIn_1 : decode b_T_isIn 1 = .ok (.iload_n 0, 1) := by decide +kernel
theorem d_T_isIn_2 : decode b_T_isIn 2 = .ok (.ishr, 1) := by decide +kernel
theorem d_T_isIn_3 : decode b_T_isIn 3 = .ok (.iconst 1, 1) := by decide +kernel
theorem d_T_isIn_4 : decode b_T_isIn 4 = .ok (.iand, 1) := by decide +kernel
theorem d_T_isIn_5 : decode b_T_isIn 5 = .ok (.iconst 1, 1) := by decide +kernel
theorem d_T_isIn_6 : decode b_T_isIn 6 = .ok (.if_icmp .ne 7, 3) := by decide +kernel
theorem d_T_isIn_9 : decode b_T_isIn 9 = .ok (.iconst 1, 1) := by decide +kernel
theorem d_T_isIn_10 : decode b_T_isIn 10 = .ok (.goto 4, 3) := by decide +kernel
theorem d_T_isIn_13 : decode b_T_isIn 13 = .ok (.iconst 0, 1) := by decide +kernel
theorem d_T_isIn_14 : decode b_T_isIn 14 = .ok (.ireturn, 1) := by decide +kernel
theorem mo_T_isIn : mok y_T_isIn b_T_isIn 2 (some .boolean) 2 := ⟨List.mem_of_getElem? (i := 609) (by decide +kernel), ⟨by decide +kernel, by decide +kernel, by decide +kernel⟩, List.mem_of_getElem? (i := 74) (by decide +kernel), by decide⟩
set_option maxHeartbeats 4000000 in
theorem c_T_isIn (l : Launch) (u : Un) (hA : Ap u) (σ : St) (i z : Int32) : MTi l u y_T_isIn b_T_isIn 2 .boolean 0 [.int i, .int z] σ (fun ans σ' => bI ((z >>> (i &&& 31)) &&& 1 = 1) = ans ∧ σ = σ') := by
  refine MT_of hA rfl (by decide) (Nat.le_of_ble_eq_true rfl) (fun X hl F hr => ?_)
  subst hl
  refine v_to (ls' := [(0, .int i), (1, .int z)]) rfl ?_
  refine v_iload_n F d_T_isIn_0 rfl 1 rfl ?_
  refine v_iload_n F d_T_isIn_1 rfl 0 rfl ?_
  refine v_ishr F d_T_isIn_2 ?_
  refine v_iconst (v := 1) F d_T_isIn_3 ki_1 ?_
  refine v_iand F d_T_isIn_4 ?_
  refine v_iconst (v := 1) F d_T_isIn_5 ki_1 ?_
  refine v_icmp_ne F 13 d_T_isIn_6 rfl (fun h6 => ?_) (fun h6 => ?_)
  · skip
    refine v_iconst (v := 0) F d_T_isIn_13 ki_0 ?_
    refine v_iret F hr rfl d_T_isIn_14 ?_
    exact ⟨(bI_f (by first | (simp_all [inR]; done) | grind)), rfl⟩
  · skip
    refine v_iconst (v := 1) F d_T_isIn_9 ki_1 ?_
    refine v_goto F 14 d_T_isIn_10 rfl ?_
    refine v_iret F hr rfl d_T_isIn_14 ?_
    exact ⟨(bI_t (by first | (simp_all [inR]; done) | grind)), rfl⟩
abbrev b_T_refuse : ByteArray := prog_1_method_46_code
abbrev y_T_refuse : MethodName := ⟨"TakerBook", "refuse", "(I)I"⟩
theorem d_T_refuse_0 : decode b_T_refuse 0 = .ok (.aload_n 0, 1) := by decide +kernel
theorem d_T_refuse_1 : decode b_T_refuse 1 = .ok (.iload_n 1, 1) := by decide +kernel
theorem d_T_refuse_2 : decode b_T_refuse 2 = .ok (.putfield 329, 3) := by decide +kernel
theorem d_T_refuse_5 : decode b_T_refuse 5 = .ok (.aload_n 0, 1) := by decide +kernel
theorem d_T_refuse_6 : decode b_T_refuse 6 = .ok (.getfield 65, 3) := by decide +kernel
theorem d_T_refuse_9 : decode b_T_refuse 9 = .ok (.iload_n 1, 1) := by decide +kernel
theorem d_T_refuse_10 : decode b_T_refuse 10 = .ok (.dup2, 1) := by decide +kernel
theorem d_T_refuse_11 : decode b_T_refuse 11 = .ok (.iaload, 1) := by decide +kernel
theorem d_T_refuse_12 : decode b_T_refuse 12 = .ok (.iconst 1, 1) := by decide +kernel
theorem d_T_refuse_13 : decode b_T_refuse 13 = .ok (.iadd, 1) := by decide +kernel
theorem d_T_refuse_14 : decode b_T_refuse 14 = .ok (.iastore, 1) := by decide +kernel
theorem d_T_refuse_15 : decode b_T_refuse 15 = .ok (.bipush (-3), 2) := by decide +kernel
theorem d_T_refuse_17 : decode b_T_refuse 17 = .ok (.ireturn, 1) := by decide +kernel
theorem mo_T_refuse : mok y_T_refuse b_T_refuse 2 (some .int) 1 := ⟨List.mem_of_getElem? (i := 411) (by decide +kernel), ⟨by decide +kernel, by decide +kernel, by decide +kernel⟩, List.mem_of_getElem? (i := 74) (by decide +kernel), by decide⟩
set_option maxHeartbeats 4000000 in
theorem c_T_refuse (l : Launch) (u : Un) (hA : Ap u) (σ : St) (n : Nat) (hn : n < 6) : MTi l u y_T_refuse b_T_refuse 2 .int 0 [.ref (u.2.1 0), .int (nI n)] σ (fun r σ' => -3 = r ∧ σ' = tRef σ n) := by
  refine MT_of hA rfl (by decide) (Nat.le_of_ble_eq_true rfl) (fun X hl F hr => ?_)
  subst hl
  refine v_to (ls' := [(0, .ref (u.2.1 0)), (1, .int (nI n))]) rfl ?_
  refine v_aload_n F d_T_refuse_0 rfl 0 rfl ?_
  refine v_iload_n F d_T_refuse_1 rfl 1 rfl ?_
  refine v_puti F fk_T_329 pk_T_latestFinding G0 rfl d_T_refuse_2 ?_
  refine v_ns (fun σ1 eσ1 => ?_)
  refine v_aload_n F d_T_refuse_5 rfl 0 rfl ?_
  refine v_getr (r := 62) F fk_T_65 G0 rfl d_T_refuse_6 ?_
  refine v_iload_n F d_T_refuse_9 rfl 1 rfl ?_
  refine v_dup2_11 F d_T_refuse_10 rfl rfl ?_
  refine v_ial F n G62 rfl (by omega) d_T_refuse_11 ?_
  refine v_iconst (v := 1) F d_T_refuse_12 ki_1 ?_
  refine v_iadd F d_T_refuse_13 ?_
  refine v_ias F n G62 rfl (by omega) d_T_refuse_14 ?_
  refine v_ns (fun σ2 eσ2 => ?_)
  refine v_bipush (v := (-3)) F d_T_refuse_15 kb_m3 ?_
  refine v_iret F hr rfl d_T_refuse_17 ?_
  exact ⟨rfl, by simp [tRef, uI, *]⟩
abbrev b_T_refusedRow : ByteArray := prog_1_method_47_code
abbrev y_T_refusedRow : MethodName := ⟨"TakerBook", "refusedRow", "(I)I"⟩
theorem d_T_refusedRow_0 : decode b_T_refusedRow 0 = .ok (.iload_n 1, 1) := by decide +kernel
theorem d_T_refusedRow_1 : decode b_T_refusedRow 1 = .ok (.invokestatic 76, 3) := by decide +kernel
theorem d_T_refusedRow_4 : decode b_T_refusedRow 4 = .ok (.ifCond .ne 5, 3) := by decide +kernel
theorem d_T_refusedRow_7 : decode b_T_refusedRow 7 = .ok (.iconst (-1), 1) := by decide +kernel
theorem d_T_refusedRow_8 : decode b_T_refusedRow 8 = .ok (.ireturn, 1) := by decide +kernel
theorem d_T_refusedRow_9 : decode b_T_refusedRow 9 = .ok (.aload_n 0, 1) := by decide +kernel
theorem d_T_refusedRow_10 : decode b_T_refusedRow 10 = .ok (.getfield 14, 3) := by decide +kernel
theorem d_T_refusedRow_13 : decode b_T_refusedRow 13 = .ok (.iload_n 1, 1) := by decide +kernel
theorem d_T_refusedRow_14 : decode b_T_refusedRow 14 = .ok (.iaload, 1) := by decide +kernel
theorem d_T_refusedRow_15 : decode b_T_refusedRow 15 = .ok (.ifCond .ge 11, 3) := by decide +kernel
theorem d_T_refusedRow_18 : decode b_T_refusedRow 18 = .ok (.aload_n 0, 1) := by decide +kernel
theorem d_T_refusedRow_19 : decode b_T_refusedRow 19 = .ok (.iconst 1, 1) := by decide +kernel
theorem d_T_refusedRow_20 : decode b_T_refusedRow 20 = .ok (.invokevirtual 80, 3) := by decide +kernel
theorem d_T_refusedRow_23 : decode b_T_refusedRow 23 = .ok (.goto 4, 3) := by decide +kernel
theorem d_T_refusedRow_26 : decode b_T_refusedRow 26 = .ok (.iconst 0, 1) := by decide +kernel
theorem d_T_refusedRow_27 : decode b_T_refusedRow 27 = .ok (.ireturn, 1) := by decide +kernel
theorem mo_T_refusedRow : mok y_T_refusedRow b_T_refusedRow 2 (some .int) 1 := ⟨List.mem_of_getElem? (i := 423) (by decide +kernel), ⟨by decide +kernel, by decide +kernel, by decide +kernel⟩, List.mem_of_getElem? (i := 74) (by decide +kernel), by decide⟩
set_option maxHeartbeats 4000000 in
theorem c_T_refusedRow (l : Launch) (u : Un) (hA : Ap u) (σ : St) (r : Int32) : MTi l u y_T_refusedRow b_T_refusedRow 2 .int 1 [.ref (u.2.1 0), .int r] σ (fun x σ' => (¬ inR r 6 ∧ -1 = x ∧ σ = σ') ∨ (inR r 6 ∧ σ.1 8 (ix r) < 0 ∧ -3 = x ∧ σ' = tRef σ 1) ∨ (inR r 6 ∧ 0 ≤ σ.1 8 (ix r) ∧ 0 = x ∧ σ = σ')) := by
  refine MT_of hA rfl (by decide) (Nat.le_of_ble_eq_true rfl) (fun X hl F hr => ?_)
  subst hl
  refine v_to (ls' := [(0, .ref (u.2.1 0)), (1, .int r)]) rfl ?_
  refine v_iload_n F d_T_refusedRow_0 rfl 1 rfl ?_
  refine v_runi (r_S F (c_T_isRow X.2.1 u hA σ r ) mo_T_isRow st_T_76 (by decide) rfl (Nat.le_of_ble_eq_true rfl) d_T_refusedRow_1) (fun r1 σ2 q3 => ?_)
  obtain ⟨rfl, rfl⟩ := q3
  refine v_bf F 9 d_T_refusedRow_4 rfl (fun h4 => ?_) (fun h4 => ?_)
  · skip
    refine v_aload_n F d_T_refusedRow_9 rfl 0 rfl ?_
    refine v_getr (r := 8) F fk_T_14 G0 rfl d_T_refusedRow_10 ?_
    refine v_iload_n F d_T_refusedRow_13 rfl 1 rfl ?_
    refine v_ial F (ix r) G8 (ix_eq h4.1) (ix_lt h4.1 h4.2 rfl (by decide)) d_T_refusedRow_14 ?_
    refine v_if_ge F 26 d_T_refusedRow_15 rfl (fun h15 => ?_) (fun h15 => ?_)
    · skip
      refine v_iconst (v := 0) F d_T_refusedRow_26 ki_0 ?_
      refine v_iret F hr rfl d_T_refusedRow_27 ?_
      first | (simp_all [inR]; done) | grind
    · skip
      refine v_aload_n F d_T_refusedRow_18 rfl 0 rfl ?_
      refine v_iconst (v := 1) F d_T_refusedRow_19 ki_1 ?_
      refine v_runi (r_V F (c_T_refuse X.2.1 u hA σ 1 (by decide)) mo_T_refuse st_T_80 rc_0 (by decide) rfl (Nat.le_of_ble_eq_true rfl) d_T_refusedRow_20) (fun r4 σ5 q6 => ?_)
      obtain ⟨rfl, eσ5⟩ := q6
      refine v_goto F 27 d_T_refusedRow_23 rfl ?_
      refine v_iret F hr rfl d_T_refusedRow_27 ?_
      first | (simp_all [inR]; done) | grind
  · skip
    refine v_iconst (v := (-1)) F d_T_refusedRow_7 ki_m1 ?_
    refine v_iret F hr rfl d_T_refusedRow_8 ?_
    first | (simp_all [inR]; done) | grind
abbrev b_T_refusedText : ByteArray := prog_1_method_49_code
abbrev y_T_refusedText : MethodName := ⟨"TakerBook", "refusedText", "(I)I"⟩
theorem d_T_refusedText_0 : decode b_T_refusedText 0 = .ok (.iload_n 1, 1) := by decide +kernel
theorem d_T_refusedText_1 : decode b_T_refusedText 1 = .ok (.invokestatic 104, 3) := by decide +kernel
theorem d_T_refusedText_4 : decode b_T_refusedText 4 = .ok (.ifCond .ne 5, 3) := by decide +kernel
theorem d_T_refusedText_7 : decode b_T_refusedText 7 = .ok (.iconst (-1), 1) := by decide +kernel
theorem d_T_refusedText_8 : decode b_T_refusedText 8 = .ok (.ireturn, 1) := by decide +kernel
theorem d_T_refusedText_9 : decode b_T_refusedText 9 = .ok (.aload_n 0, 1) := by decide +kernel
theorem d_T_refusedText_10 : decode b_T_refusedText 10 = .ok (.getfield 23, 3) := by decide +kernel
theorem d_T_refusedText_13 : decode b_T_refusedText 13 = .ok (.iload_n 1, 1) := by decide +kernel
theorem d_T_refusedText_14 : decode b_T_refusedText 14 = .ok (.iaload, 1) := by decide +kernel
theorem d_T_refusedText_15 : decode b_T_refusedText 15 = .ok (.ifCond .ge 11, 3) := by decide +kernel
theorem d_T_refusedText_18 : decode b_T_refusedText 18 = .ok (.aload_n 0, 1) := by decide +kernel
theorem d_T_refusedText_19 : decode b_T_refusedText 19 = .ok (.iconst 1, 1) := by decide +kernel
theorem d_T_refusedText_20 : decode b_T_refusedText 20 = .ok (.invokevirtual 80, 3) := by decide +kernel
theorem d_T_refusedText_23 : decode b_T_refusedText 23 = .ok (.goto 4, 3) := by decide +kernel
theorem d_T_refusedText_26 : decode b_T_refusedText 26 = .ok (.iconst 0, 1) := by decide +kernel
theorem d_T_refusedText_27 : decode b_T_refusedText 27 = .ok (.ireturn, 1) := by decide +kernel
theorem mo_T_refusedText : mok y_T_refusedText b_T_refusedText 2 (some .int) 1 := ⟨List.mem_of_getElem? (i := 460) (by decide +kernel), ⟨by decide +kernel, by decide +kernel, by decide +kernel⟩, List.mem_of_getElem? (i := 74) (by decide +kernel), by decide⟩
set_option maxHeartbeats 4000000 in
theorem c_T_refusedText (l : Launch) (u : Un) (hA : Ap u) (σ : St) (t : Int32) : MTi l u y_T_refusedText b_T_refusedText 2 .int 1 [.ref (u.2.1 0), .int t] σ (fun x σ' => (¬ inR t 4 ∧ -1 = x ∧ σ = σ') ∨ (inR t 4 ∧ σ.1 14 (ix t) < 0 ∧ -3 = x ∧ σ' = tRef σ 1) ∨ (inR t 4 ∧ 0 ≤ σ.1 14 (ix t) ∧ 0 = x ∧ σ = σ')) := by
  refine MT_of hA rfl (by decide) (Nat.le_of_ble_eq_true rfl) (fun X hl F hr => ?_)
  subst hl
  refine v_to (ls' := [(0, .ref (u.2.1 0)), (1, .int t)]) rfl ?_
  refine v_iload_n F d_T_refusedText_0 rfl 1 rfl ?_
  refine v_runi (r_S F (c_T_isText X.2.1 u hA σ t ) mo_T_isText st_T_104 (by decide) rfl (Nat.le_of_ble_eq_true rfl) d_T_refusedText_1) (fun r1 σ2 q3 => ?_)
  obtain ⟨rfl, rfl⟩ := q3
  refine v_bf F 9 d_T_refusedText_4 rfl (fun h4 => ?_) (fun h4 => ?_)
  · skip
    refine v_aload_n F d_T_refusedText_9 rfl 0 rfl ?_
    refine v_getr (r := 14) F fk_T_23 G0 rfl d_T_refusedText_10 ?_
    refine v_iload_n F d_T_refusedText_13 rfl 1 rfl ?_
    refine v_ial F (ix t) G14 (ix_eq h4.1) (ix_lt h4.1 h4.2 rfl (by decide)) d_T_refusedText_14 ?_
    refine v_if_ge F 26 d_T_refusedText_15 rfl (fun h15 => ?_) (fun h15 => ?_)
    · skip
      refine v_iconst (v := 0) F d_T_refusedText_26 ki_0 ?_
      refine v_iret F hr rfl d_T_refusedText_27 ?_
      first | (simp_all [inR]; done) | grind
    · skip
      refine v_aload_n F d_T_refusedText_18 rfl 0 rfl ?_
      refine v_iconst (v := 1) F d_T_refusedText_19 ki_1 ?_
      refine v_runi (r_V F (c_T_refuse X.2.1 u hA σ 1 (by decide)) mo_T_refuse st_T_80 rc_0 (by decide) rfl (Nat.le_of_ble_eq_true rfl) d_T_refusedText_20) (fun r4 σ5 q6 => ?_)
      obtain ⟨rfl, eσ5⟩ := q6
      refine v_goto F 27 d_T_refusedText_23 rfl ?_
      refine v_iret F hr rfl d_T_refusedText_27 ?_
      first | (simp_all [inR]; done) | grind
  · skip
    refine v_iconst (v := (-1)) F d_T_refusedText_7 ki_m1 ?_
    refine v_iret F hr rfl d_T_refusedText_8 ?_
    first | (simp_all [inR]; done) | grind
abbrev b_T_refusedPlace : ByteArray := prog_1_method_48_code
abbrev y_T_refusedPlace : MethodName := ⟨"TakerBook", "refusedPlace", "(II)I"⟩
theorem d_T_refusedPlace_0 : decode b_T_refusedPlace 0 = .ok (.aload_n 0, 1) := by decide +kernel
theorem d_T_refusedPlace_1 : decode b_T_refusedPlace 1 = .ok (.iload_n 1, 1) := by decide +kernel
theorem d_T_refusedPlace_2 : decode b_T_refusedPlace 2 = .ok (.invokevirtual 91, 3) := by decide +kernel
theorem d_T_refusedPlace_5 : decode b_T_refusedPlace 5 = .ok (.istore_n 3, 1) := by decide +kernel
theorem d_T_refusedPlace_6 : decode b_T_refusedPlace 6 = .ok (.iload_n 3, 1) := by decide +kernel
theorem d_T_refusedPlace_7 : decode b_T_refusedPlace 7 = .ok (.ifCond .eq 5, 3) := by decide +kernel
theorem d_T_refusedPlace_10 : decode b_T_refusedPlace 10 = .ok (.iload_n 3, 1) := by decide +kernel
theorem d_T_refusedPlace_11 : decode b_T_refusedPlace 11 = .ok (.ireturn, 1) := by decide +kernel
theorem d_T_refusedPlace_12 : decode b_T_refusedPlace 12 = .ok (.iload_n 2, 1) := by decide +kernel
theorem d_T_refusedPlace_13 : decode b_T_refusedPlace 13 = .ok (.ifCond .lt 13, 3) := by decide +kernel
theorem d_T_refusedPlace_16 : decode b_T_refusedPlace 16 = .ok (.iload_n 2, 1) := by decide +kernel
theorem d_T_refusedPlace_17 : decode b_T_refusedPlace 17 = .ok (.aload_n 0, 1) := by decide +kernel
theorem d_T_refusedPlace_18 : decode b_T_refusedPlace 18 = .ok (.getfield 14, 3) := by decide +kernel
theorem d_T_refusedPlace_21 : decode b_T_refusedPlace 21 = .ok (.iload_n 1, 1) := by decide +kernel
theorem d_T_refusedPlace_22 : decode b_T_refusedPlace 22 = .ok (.iaload, 1) := by decide +kernel
theorem d_T_refusedPlace_23 : decode b_T_refusedPlace 23 = .ok (.if_icmp .lt 11, 3) := by decide +kernel
theorem d_T_refusedPlace_26 : decode b_T_refusedPlace 26 = .ok (.aload_n 0, 1) := by decide +kernel
theorem d_T_refusedPlace_27 : decode b_T_refusedPlace 27 = .ok (.iconst 2, 1) := by decide +kernel
theorem d_T_refusedPlace_28 : decode b_T_refusedPlace 28 = .ok (.invokevirtual 80, 3) := by decide +kernel
theorem d_T_refusedPlace_31 : decode b_T_refusedPlace 31 = .ok (.goto 4, 3) := by decide +kernel
theorem d_T_refusedPlace_34 : decode b_T_refusedPlace 34 = .ok (.iconst 0, 1) := by decide +kernel
theorem d_T_refusedPlace_35 : decode b_T_refusedPlace 35 = .ok (.ireturn, 1) := by decide +kernel
theorem mo_T_refusedPlace : mok y_T_refusedPlace b_T_refusedPlace 4 (some .int) 2 := ⟨List.mem_of_getElem? (i := 419) (by decide +kernel), ⟨by decide +kernel, by decide +kernel, by decide +kernel⟩, List.mem_of_getElem? (i := 74) (by decide +kernel), by decide⟩
set_option maxHeartbeats 4000000 in
theorem c_T_refusedPlace (l : Launch) (u : Un) (hA : Ap u) (σ : St) (r i : Int32) : MTi l u y_T_refusedPlace b_T_refusedPlace 4 .int 2 [.ref (u.2.1 0), .int r, .int i] σ (fun x σ' => (¬ inR r 6 ∧ -1 = x ∧ σ = σ') ∨ (inR r 6 ∧ σ.1 8 (ix r) < 0 ∧ -3 = x ∧ σ' = tRef σ 1) ∨ (inR r 6 ∧ 0 ≤ σ.1 8 (ix r) ∧ (i < 0 ∨ σ.1 8 (ix r) ≤ i) ∧ -3 = x ∧ σ' = tRef σ 2) ∨ (inR r 6 ∧ 0 ≤ σ.1 8 (ix r) ∧ 0 ≤ i ∧ i < σ.1 8 (ix r) ∧ 0 = x ∧ σ = σ')) := by
  refine MT_of hA rfl (by decide) (Nat.le_of_ble_eq_true rfl) (fun X hl F hr => ?_)
  subst hl
  refine v_to (ls' := [(0, .ref (u.2.1 0)), (1, .int r), (2, .int i)]) rfl ?_
  refine v_aload_n F d_T_refusedPlace_0 rfl 0 rfl ?_
  refine v_iload_n F d_T_refusedPlace_1 rfl 1 rfl ?_
  refine v_runi (r_V F (c_T_refusedRow X.2.1 u hA σ r) mo_T_refusedRow st_T_91 rc_0 (by decide) rfl (Nat.le_of_ble_eq_true rfl) d_T_refusedPlace_2) (fun r1 σ2 q3 => ?_)
  rcases q3 with ⟨a1, rfl, rfl⟩ | ⟨a1, a2, rfl, eσ2⟩ | ⟨a1, a2, rfl, rfl⟩
  · skip
    refine v_istore_n (ls' := [(3, .int (-1)), (0, .ref (u.2.1 0)), (1, .int r), (2, .int i)]) F d_T_refusedPlace_5 rfl (by decide) rfl ?_
    refine v_iload_n F d_T_refusedPlace_6 rfl 0 rfl ?_
    refine v_if_eq F 12 d_T_refusedPlace_7 rfl (fun h => absurd h (by decide)) (fun _ => ?_)
    refine v_iload_n F d_T_refusedPlace_10 rfl 0 rfl ?_
    refine v_iret F hr rfl d_T_refusedPlace_11 ?_
    first | (simp_all [inR]; done) | grind
  · skip
    refine v_istore_n (ls' := [(3, .int (-3)), (0, .ref (u.2.1 0)), (1, .int r), (2, .int i)]) F d_T_refusedPlace_5 rfl (by decide) rfl ?_
    refine v_iload_n F d_T_refusedPlace_6 rfl 0 rfl ?_
    refine v_if_eq F 12 d_T_refusedPlace_7 rfl (fun h => absurd h (by decide)) (fun _ => ?_)
    refine v_iload_n F d_T_refusedPlace_10 rfl 0 rfl ?_
    refine v_iret F hr rfl d_T_refusedPlace_11 ?_
    first | (simp_all [inR]; done) | grind
  · skip
    refine v_istore_n (ls' := [(3, .int 0), (0, .ref (u.2.1 0)), (1, .int r), (2, .int i)]) F d_T_refusedPlace_5 rfl (by decide) rfl ?_
    refine v_iload_n F d_T_refusedPlace_6 rfl 0 rfl ?_
    refine v_if_eq F 12 d_T_refusedPlace_7 rfl (fun _ => ?_) (fun h => absurd (by decide) h)
    refine v_iload_n F d_T_refusedPlace_12 rfl 3 rfl ?_
    refine v_if_lt F 26 d_T_refusedPlace_13 rfl (fun h13 => ?_) (fun h13 => ?_)
    · skip
      refine v_aload_n F d_T_refusedPlace_26 rfl 1 rfl ?_
      refine v_iconst (v := 2) F d_T_refusedPlace_27 ki_2 ?_
      refine v_runi (r_V F (c_T_refuse X.2.1 u hA σ 2 (by decide)) mo_T_refuse st_T_80 rc_0 (by decide) rfl (Nat.le_of_ble_eq_true rfl) d_T_refusedPlace_28) (fun r4 σ5 q6 => ?_)
      obtain ⟨rfl, eσ5⟩ := q6
      refine v_goto F 35 d_T_refusedPlace_31 rfl ?_
      refine v_iret F hr rfl d_T_refusedPlace_35 ?_
      first | (simp_all [inR]; done) | grind
    · skip
      refine v_iload_n F d_T_refusedPlace_16 rfl 3 rfl ?_
      refine v_aload_n F d_T_refusedPlace_17 rfl 1 rfl ?_
      refine v_getr (r := 8) F fk_T_14 G0 rfl d_T_refusedPlace_18 ?_
      refine v_iload_n F d_T_refusedPlace_21 rfl 2 rfl ?_
      refine v_ial F (ix r) G8 (ix_eq a1.1) (ix_lt a1.1 a1.2 rfl (by decide)) d_T_refusedPlace_22 ?_
      refine v_icmp_lt F 34 d_T_refusedPlace_23 rfl (fun h23 => ?_) (fun h23 => ?_)
      · skip
        refine v_iconst (v := 0) F d_T_refusedPlace_34 ki_0 ?_
        refine v_iret F hr rfl d_T_refusedPlace_35 ?_
        first | (simp_all [inR]; done) | grind
      · skip
        refine v_aload_n F d_T_refusedPlace_26 rfl 1 rfl ?_
        refine v_iconst (v := 2) F d_T_refusedPlace_27 ki_2 ?_
        refine v_runi (r_V F (c_T_refuse X.2.1 u hA σ 2 (by decide)) mo_T_refuse st_T_80 rc_0 (by decide) rfl (Nat.le_of_ble_eq_true rfl) d_T_refusedPlace_28) (fun r7 σ8 q9 => ?_)
        obtain ⟨rfl, eσ8⟩ := q9
        refine v_goto F 35 d_T_refusedPlace_31 rfl ?_
        refine v_iret F hr rfl d_T_refusedPlace_35 ?_
        first | (simp_all [inR]; done) | grind
abbrev b_T_lay : ByteArray := prog_1_method_3_code
abbrev y_T_lay : MethodName := ⟨"TakerBook", "lay", "(III)I"⟩
theorem d_T_lay_0 : decode b_T_lay 0 = .ok (.aload_n 0, 1) := by decide +kernel
theorem d_T_lay_1 : decode b_T_lay 1 = .ok (.iload_n 1, 1) := by decide +kernel
theorem d_T_lay_2 : decode b_T_lay 2 = .ok (.iload_n 2, 1) := by decide +kernel
theorem d_T_lay_3 : decode b_T_lay 3 = .ok (.invokevirtual 84, 3) := by decide +kernel
theorem d_T_lay_6 : decode b_T_lay 6 = .ok (.istore 4, 2) := by decide +kernel
theorem d_T_lay_8 : decode b_T_lay 8 = .ok (.iload 4, 2) := by decide +kernel
theorem d_T_lay_10 : decode b_T_lay 10 = .ok (.ifCond .eq 6, 3) := by decide +kernel
theorem d_T_lay_13 : decode b_T_lay 13 = .ok (.iload 4, 2) := by decide +kernel
theorem d_T_lay_15 : decode b_T_lay 15 = .ok (.ireturn, 1) := by decide +kernel
theorem d_T_lay_16 : decode b_T_lay 16 = .ok (.aload_n 0, 1) := by decide +kernel
theorem d_T_lay_17 : decode b_T_lay 17 = .ok (.aload_n 0, 1) := by decide +kernel
theorem d_T_lay_18 : decode b_T_lay 18 = .ok (.getfield 11, 3) := by decide +kernel
theorem d_T_lay_21 : decode b_T_lay 21 = .ok (.iload_n 1, 1) := by decide +kernel
theorem d_T_lay_22 : decode b_T_lay 22 = .ok (.aaload, 1) := by decide +kernel
theorem d_T_lay_23 : decode b_T_lay 23 = .ok (.iload_n 2, 1) := by decide +kernel
theorem d_T_lay_24 : decode b_T_lay 24 = .ok (.iaload, 1) := by decide +kernel
theorem d_T_lay_25 : decode b_T_lay 25 = .ok (.putfield 88, 3) := by decide +kernel
theorem d_T_lay_28 : decode b_T_lay 28 = .ok (.aload_n 0, 1) := by decide +kernel
theorem d_T_lay_29 : decode b_T_lay 29 = .ok (.getfield 11, 3) := by decide +kernel
theorem d_T_lay_32 : decode b_T_lay 32 = .ok (.iload_n 1, 1) := by decide +kernel
theorem d_T_lay_33 : decode b_T_lay 33 = .ok (.aaload, 1) := by decide +kernel
theorem d_T_lay_34 : decode b_T_lay 34 = .ok (.iload_n 2, 1) := by decide +kernel
theorem d_T_lay_35 : decode b_T_lay 35 = .ok (.iload_n 3, 1) := by decide +kernel
theorem d_T_lay_36 : decode b_T_lay 36 = .ok (.iastore, 1) := by decide +kernel
theorem d_T_lay_37 : decode b_T_lay 37 = .ok (.iconst 1, 1) := by decide +kernel
theorem d_T_lay_38 : decode b_T_lay 38 = .ok (.ireturn, 1) := by decide +kernel
theorem mo_T_lay : mok y_T_lay b_T_lay 5 (some .int) 3 := ⟨List.mem_of_getElem? (i := 415) (by decide +kernel), ⟨by decide +kernel, by decide +kernel, by decide +kernel⟩, List.mem_of_getElem? (i := 74) (by decide +kernel), by decide⟩
set_option maxHeartbeats 4000000 in
theorem c_T_lay (l : Launch) (u : Un) (hA : Ap u) (σ : St) (r i v : Int32) (hI : rowsOk σ) : MTi l u y_T_lay b_T_lay 5 .int 3 [.ref (u.2.1 0), .int r, .int i, .int v] σ (fun ans σ' => (ans, σ') = tLay σ r i v) := by
  refine MT_of hA rfl (by decide) (Nat.le_of_ble_eq_true rfl) (fun X hl F hr => ?_)
  subst hl
  refine v_to (ls' := [(0, .ref (u.2.1 0)), (1, .int r), (2, .int i), (3, .int v)]) rfl ?_
  refine v_aload_n F d_T_lay_0 rfl 0 rfl ?_
  refine v_iload_n F d_T_lay_1 rfl 1 rfl ?_
  refine v_iload_n F d_T_lay_2 rfl 2 rfl ?_
  refine v_runi (r_V F (c_T_refusedPlace X.2.1 u hA σ r i) mo_T_refusedPlace st_T_84 rc_0 (by decide) rfl (Nat.le_of_ble_eq_true rfl) d_T_lay_3) (fun r1 σ2 q3 => ?_)
  rcases q3 with ⟨a1, rfl, rfl⟩ | ⟨a1, a2, rfl, eσ2⟩ | ⟨a1, a2, a3, rfl, eσ2⟩ | ⟨a1, a2, a3, a4, rfl, rfl⟩
  · skip
    refine v_istore (ls' := [(4, .int (-1)), (0, .ref (u.2.1 0)), (1, .int r), (2, .int i), (3, .int v)]) F d_T_lay_6 (by decide) rfl ?_
    refine v_iload F d_T_lay_8 0 rfl ?_
    refine v_if_eq F 16 d_T_lay_10 rfl (fun h => absurd h (by decide)) (fun _ => ?_)
    refine v_iload F d_T_lay_13 0 rfl ?_
    refine v_iret F hr rfl d_T_lay_15 ?_
    first | (simp_all [tLay, inR]; done) | grind [tLay]
  · skip
    refine v_istore (ls' := [(4, .int (-3)), (0, .ref (u.2.1 0)), (1, .int r), (2, .int i), (3, .int v)]) F d_T_lay_6 (by decide) rfl ?_
    refine v_iload F d_T_lay_8 0 rfl ?_
    refine v_if_eq F 16 d_T_lay_10 rfl (fun h => absurd h (by decide)) (fun _ => ?_)
    refine v_iload F d_T_lay_13 0 rfl ?_
    refine v_iret F hr rfl d_T_lay_15 ?_
    first | (simp_all [tLay, inR]; done) | grind [tLay]
  · skip
    refine v_istore (ls' := [(4, .int (-3)), (0, .ref (u.2.1 0)), (1, .int r), (2, .int i), (3, .int v)]) F d_T_lay_6 (by decide) rfl ?_
    refine v_iload F d_T_lay_8 0 rfl ?_
    refine v_if_eq F 16 d_T_lay_10 rfl (fun h => absurd h (by decide)) (fun _ => ?_)
    refine v_iload F d_T_lay_13 0 rfl ?_
    refine v_iret F hr rfl d_T_lay_15 ?_
    first | (simp_all [tLay, inR]; done) | grind [tLay]
  · skip
    refine v_istore (ls' := [(4, .int 0), (0, .ref (u.2.1 0)), (1, .int r), (2, .int i), (3, .int v)]) F d_T_lay_6 (by decide) rfl ?_
    refine v_iload F d_T_lay_8 0 rfl ?_
    refine v_if_eq F 16 d_T_lay_10 rfl (fun _ => ?_) (fun h => absurd (by decide) h)
    refine v_aload_n F d_T_lay_16 rfl 1 rfl ?_
    refine v_aload_n F d_T_lay_17 rfl 1 rfl ?_
    refine v_getr (r := 1) F fk_T_11 G0 rfl d_T_lay_18 ?_
    refine v_iload_n F d_T_lay_21 rfl 2 rfl ?_
    refine v_aal F (ix r) G1 rfl (ix_eq a1.1) (ix_lt a1.1 a1.2 rfl (by decide)) d_T_lay_22 ?_
    refine v_iload_n F d_T_lay_23 rfl 3 rfl ?_
    refine v_ial F (ix i) (gam_row _ (ix_lt a1.1 a1.2 rfl (by decide))) (ix_eq a3) (ix_lt a3 (i_lt_of a4 (hI _ (ix_lt a1.1 a1.2 rfl (by decide)))) rfl (by decide)) d_T_lay_24 ?_
    refine v_puti F fk_T_88 pk_T_told G0 rfl d_T_lay_25 ?_
    refine v_ns (fun σ4 eσ4 => ?_)
    refine v_aload_n F d_T_lay_28 rfl 1 rfl ?_
    refine v_getr (r := 1) F fk_T_11 G0 rfl d_T_lay_29 ?_
    refine v_iload_n F d_T_lay_32 rfl 2 rfl ?_
    refine v_aal F (ix r) G1 rfl (ix_eq a1.1) (ix_lt a1.1 a1.2 rfl (by decide)) d_T_lay_33 ?_
    refine v_iload_n F d_T_lay_34 rfl 3 rfl ?_
    refine v_iload_n F d_T_lay_35 rfl 4 rfl ?_
    refine v_ias F (ix i) (gam_row _ (ix_lt a1.1 a1.2 rfl (by decide))) (ix_eq a3) (ix_lt a3 (i_lt_of a4 (hI _ (ix_lt a1.1 a1.2 rfl (by decide)))) rfl (by decide)) d_T_lay_36 ?_
    refine v_ns (fun σ5 eσ5 => ?_)
    refine v_iconst (v := 1) F d_T_lay_37 ki_1 ?_
    refine v_iret F hr rfl d_T_lay_38 ?_
    first | (simp_all [tLay, inR]; done) | grind [tLay]
