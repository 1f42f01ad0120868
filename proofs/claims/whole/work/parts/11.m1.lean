theorem st_M_89 : siteS "TakerBookModel" 89 ⟨"TakerBookModel", "in", "(III)Z"⟩ := ⟨List.mem_of_getElem? (i := 1108) (by decide +kernel), List.mem_of_getElem? (i := 1109) (by decide +kernel)⟩
theorem ki_3 : Int32.ofInt 3 = (3 : Int32) := by decide
theorem G63 : Gam[63]? = some (.inr (.inr (12, [.inr false, .inl 64, .inr false, .inr true, .inr true, .inl 65, .inl 66, .inl 67, .inl 68, .inl 69, .inr false, .inl 70, .inl 71, .inl 72, .inl 73, .inr false, .inr false, .inr false, .inl 74, .inl 75, .inl 76, .inl 77, .inr false, .inl 78, .inl 79, .inl 80, .inl 81, .inl 82, .inl 83, .inr false, .inr false, .inr false, .inr false, .inr false, .inl 84, .inl 85, .inl 86, .inr true, .inr true, .inr true]))) := rfl
theorem rc_63 : recv 63 "TakerBookModel" := ⟨12, _, (R_M, F_M, 40), G63, rfl, rfl⟩
theorem fk_M_85 : fok "TakerBookModel" 85 12 0 := ⟨(R_M, F_M, 40), rfl, by decide, List.mem_of_getElem? (i := 979) (by decide +kernel), rfl⟩
theorem pk_M_latest : pok 12 0 .int := ⟨(R_M, F_M, 40), rfl, rfl, by decide +kernel⟩
theorem fk_M_7 : fok "TakerBookModel" 7 12 1 := ⟨(R_M, F_M, 40), rfl, by decide, List.mem_of_getElem? (i := 980) (by decide +kernel), rfl⟩
theorem G64 : Gam[64]? = some (.inl (.int, 6)) := rfl
theorem fk_M_93 : fok "TakerBookModel" 93 12 2 := ⟨(R_M, F_M, 40), rfl, by decide, List.mem_of_getElem? (i := 981) (by decide +kernel), rfl⟩
theorem pk_M_asked : pok 12 2 .int := ⟨(R_M, F_M, 40), rfl, rfl, by decide +kernel⟩
theorem fk_M_20 : fok "TakerBookModel" 20 12 6 := ⟨(R_M, F_M, 40), rfl, by decide, List.mem_of_getElem? (i := 985) (by decide +kernel), rfl⟩
theorem G66 : Gam[66]? = some (.inl (.int, 240)) := rfl
theorem fk_M_96 : fok "TakerBookModel" 96 12 3 := ⟨(R_M, F_M, 40), rfl, by decide, List.mem_of_getElem? (i := 982) (by decide +kernel), rfl⟩
theorem fk_M_13 : fok "TakerBookModel" 13 12 4 := ⟨(R_M, F_M, 40), rfl, by decide, List.mem_of_getElem? (i := 983) (by decide +kernel), rfl⟩
theorem st_M_99 : siteS "TakerBookModel" 99 ⟨"TakerBookModel", "isRow", "(I)Z"⟩ := ⟨List.mem_of_getElem? (i := 1127) (by decide +kernel), List.mem_of_getElem? (i := 1128) (by decide +kernel)⟩
theorem fk_M_17 : fok "TakerBookModel" 17 12 5 := ⟨(R_M, F_M, 40), rfl, by decide, List.mem_of_getElem? (i := 984) (by decide +kernel), rfl⟩
theorem G65 : Gam[65]? = some (.inl (.int, 6)) := rfl
theorem st_M_107 : siteV "TakerBookModel" 107 ⟨"TakerBookModel", "rowAt", "(II)I"⟩ := ⟨List.mem_of_getElem? (i := 1138) (by decide +kernel), List.mem_of_getElem? (i := 1140) (by decide +kernel), List.mem_of_getElem? (i := 29) (by decide +kernel)⟩
theorem st_M_111 : siteV "TakerBookModel" 111 ⟨"TakerBookModel", "tells", "(II)I"⟩ := ⟨List.mem_of_getElem? (i := 1142) (by decide +kernel), List.mem_of_getElem? (i := 1144) (by decide +kernel), List.mem_of_getElem? (i := 30) (by decide +kernel)⟩
theorem st_M_103 : siteV "TakerBookModel" 103 ⟨"TakerBookModel", "meets", "(I)I"⟩ := ⟨List.mem_of_getElem? (i := 1130) (by decide +kernel), List.mem_of_getElem? (i := 1132) (by decide +kernel), List.mem_of_getElem? (i := 28) (by decide +kernel)⟩
theorem st_M_114 : siteS "TakerBookModel" 114 ⟨"TakerBookModel", "isText", "(I)Z"⟩ := ⟨List.mem_of_getElem? (i := 1166) (by decide +kernel), List.mem_of_getElem? (i := 1167) (by decide +kernel)⟩
theorem fk_M_26 : fok "TakerBookModel" 26 12 8 := ⟨(R_M, F_M, 40), rfl, by decide, List.mem_of_getElem? (i := 987) (by decide +kernel), rfl⟩
theorem G68 : Gam[68]? = some (.inl (.int, 4)) := rfl
theorem fk_M_29 : fok "TakerBookModel" 29 12 9 := ⟨(R_M, F_M, 40), rfl, by decide, List.mem_of_getElem? (i := 988) (by decide +kernel), rfl⟩
theorem G69 : Gam[69]? = some (.inl (.byte, 240)) := rfl
abbrev b_M_in : ByteArray := prog_14_method_2_code
abbrev y_M_in : MethodName := ⟨"TakerBookModel", "in", "(III)Z"⟩
theorem d_M_in_0 : decode b_M_in 0 = .ok (.iload_n 0, 1) := by decide +kernel
theorem d_M_in_1 : decode b_M_in 1 = .ok (.iload_n 1, 1) := by decide +kernel
theorem d_M_in_2 : decode b_M_in 2 = .ok (.if_icmp .lt 12, 3) := by decide +kernel
theorem d_M_in_5 : decode b_M_in 5 = .ok (.iload_n 0, 1) := by decide +kernel
theorem d_M_in_6 : decode b_M_in 6 = .ok (.iload_n 2, 1) := by decide +kernel
theorem d_M_in_7 : decode b_M_in 7 = .ok (.if_icmp .gt 7, 3) := by decide +kernel
theorem d_M_in_10 : decode b_M_in 10 = .ok (.iconst 1, 1) := by decide +kernel
theorem d_M_in_11 : decode b_M_in 11 = .ok (.goto 4, 3) := by decide +kernel
theorem d_M_in_14 : decode b_M_in 14 = .ok (.iconst 0, 1) := by decide +kernel
theorem d_M_in_15 : decode b_M_in 15 = .ok (.ireturn, 1) := by decide +kernel
theorem mo_M_in : mok y_M_in b_M_in 3 (some .boolean) 3 := ⟨List.mem_of_getElem? (i := 1110) (by decide +kernel), ⟨by decide +kernel, by decide +kernel, by decide +kernel⟩, List.mem_of_getElem? (i := 86) (by decide +kernel), by decide⟩
set_option maxHeartbeats 4000000 in
theorem c_M_in (l : Launch) (u : Un) (hA : Ap u) (σ : St) (x a b : Int32) : MTi l u y_M_in b_M_in 3 .boolean 0 [.int x, .int a, .int b] σ (fun ans σ' => bI (a ≤ x ∧ x ≤ b) = ans ∧ σ = σ') := by
  refine MT_of hA rfl (by decide) (Nat.le_of_ble_eq_true rfl) (fun X hl F hr => ?_)
  subst hl
  refine v_to (ls' := [(0, .int x), (1, .int a), (2, .int b)]) rfl ?_
  refine v_iload_n F d_M_in_0 rfl 0 rfl ?_
  refine v_iload_n F d_M_in_1 rfl 1 rfl ?_
  refine v_icmp_lt F 14 d_M_in_2 rfl (fun h2 => ?_) (fun h2 => ?_)
  · skip
    refine v_iconst (v := 0) F d_M_in_14 ki_0 ?_
    refine v_iret F hr rfl d_M_in_15 ?_
    exact ⟨(bI_f (by first | (simp_all [inR]; done) | grind)), rfl⟩
  · skip
    refine v_iload_n F d_M_in_5 rfl 0 rfl ?_
    refine v_iload_n F d_M_in_6 rfl 2 rfl ?_
    refine v_icmp_gt F 14 d_M_in_7 rfl (fun h7 => ?_) (fun h7 => ?_)
    · skip
      refine v_iconst (v := 0) F d_M_in_14 ki_0 ?_
      refine v_iret F hr rfl d_M_in_15 ?_
      exact ⟨(bI_f (by first | (simp_all [inR]; done) | grind)), rfl⟩
    · skip
      refine v_iconst (v := 1) F d_M_in_10 ki_1 ?_
      refine v_goto F 15 d_M_in_11 rfl ?_
      refine v_iret F hr rfl d_M_in_15 ?_
      exact ⟨(bI_t (by first | (simp_all [inR]; done) | grind)), rfl⟩
abbrev b_M_has : ByteArray := prog_14_method_3_code
abbrev y_M_has : MethodName := ⟨"TakerBookModel", "has", "(II)Z"⟩
theorem d_M_has_0 : decode b_M_has 0 = .ok (.iload_n 0, 1) := by decide +kernel
theorem d_M_has_1 : decode b_M_has 1 = .ok (.iload_n 1, 1) := by decide +kernel
theorem d_M_has_2 : decode b_M_has 2 = .ok (.ishr, 1) := by decide +kernel
theorem d_M_has_3 : decode b_M_has 3 = .ok (.iconst 1, 1) := by decide +kernel
theorem d_M_has_4 : decode b_M_has 4 = .ok (.iand, 1) := by decide +kernel
theorem d_M_has_5 : decode b_M_has 5 = .ok (.iconst 1, 1) := by decide +kernel
theorem d_M_has_6 : decode b_M_has 6 = .ok (.if_icmp .ne 7, 3) := by decide +kernel
theorem d_M_has_9 : decode b_M_has 9 = .ok (.iconst 1, 1) := by decide +kernel
theorem d_M_has_10 : decode b_M_has 10 = .ok (.goto 4, 3) := by decide +kernel
theorem d_M_has_13 : decode b_M_has 13 = .ok (.iconst 0, 1) := by decide +kernel
theorem d_M_has_14 : decode b_M_has 14 = .ok (.ireturn, 1) := by decide +kernel
theorem mo_M_has : mok y_M_has b_M_has 2 (some .boolean) 2 := ⟨List.mem_of_getElem? (i := 1230) (by decide +kernel), ⟨by decide +kernel, by decide +kernel, by decide +kernel⟩, List.mem_of_getElem? (i := 86) (by decide +kernel), by decide⟩
set_option maxHeartbeats 4000000 in
theorem c_M_has (l : Launch) (u : Un) (hA : Ap u) (σ : St) (z i : Int32) : MTi l u y_M_has b_M_has 2 .boolean 0 [.int z, .int i] σ (fun ans σ' => bI ((z >>> (i &&& 31)) &&& 1 = 1) = ans ∧ σ = σ') := by
  refine MT_of hA rfl (by decide) (Nat.le_of_ble_eq_true rfl) (fun X hl F hr => ?_)
  subst hl
  refine v_to (ls' := [(0, .int z), (1, .int i)]) rfl ?_
  refine v_iload_n F d_M_has_0 rfl 0 rfl ?_
  refine v_iload_n F d_M_has_1 rfl 1 rfl ?_
  refine v_ishr F d_M_has_2 ?_
  refine v_iconst (v := 1) F d_M_has_3 ki_1 ?_
  refine v_iand F d_M_has_4 ?_
  refine v_iconst (v := 1) F d_M_has_5 ki_1 ?_
  refine v_icmp_ne F 13 d_M_has_6 rfl (fun h6 => ?_) (fun h6 => ?_)
  · skip
    refine v_iconst (v := 0) F d_M_has_13 ki_0 ?_
    refine v_iret F hr rfl d_M_has_14 ?_
    exact ⟨(bI_f (by first | (simp_all [inR]; done) | grind)), rfl⟩
  · skip
    refine v_iconst (v := 1) F d_M_has_9 ki_1 ?_
    refine v_goto F 14 d_M_has_10 rfl ?_
    refine v_iret F hr rfl d_M_has_14 ?_
    exact ⟨(bI_t (by first | (simp_all [inR]; done) | grind)), rfl⟩
abbrev b_M_isRow : ByteArray := prog_14_method_13_code
abbrev y_M_isRow : MethodName := ⟨"TakerBookModel", "isRow", "(I)Z"⟩
theorem d_M_isRow_0 : decode b_M_isRow 0 = .ok (.iload_n 0, 1) := by decide +kernel
theorem d_M_isRow_1 : decode b_M_isRow 1 = .ok (.iconst 0, 1) := by decide +kernel
theorem d_M_isRow_2 : decode b_M_isRow 2 = .ok (.iconst 5, 1) := by decide +kernel
theorem d_M_isRow_3 : decode b_M_isRow 3 = .ok (.invokestatic 89, 3) := by decide +kernel
theorem d_M_isRow_6 : decode b_M_isRow 6 = .ok (.ireturn, 1) := by decide +kernel
theorem mo_M_isRow : mok y_M_isRow b_M_isRow 1 (some .boolean) 1 := ⟨List.mem_of_getElem? (i := 1129) (by decide +kernel), ⟨by decide +kernel, by decide +kernel, by decide +kernel⟩, List.mem_of_getElem? (i := 86) (by decide +kernel), by decide⟩
set_option maxHeartbeats 4000000 in
theorem c_M_isRow (l : Launch) (u : Un) (hA : Ap u) (σ : St) (x : Int32) : MTi l u y_M_isRow b_M_isRow 1 .boolean 1 [.int x] σ (fun ans σ' => bI (inR x 6) = ans ∧ σ = σ') := by
  refine MT_of hA rfl (by decide) (Nat.le_of_ble_eq_true rfl) (fun X hl F hr => ?_)
  subst hl
  refine v_to (ls' := [(0, .int x)]) rfl ?_
  refine v_iload_n F d_M_isRow_0 rfl 0 rfl ?_
  refine v_iconst (v := 0) F d_M_isRow_1 ki_0 ?_
  refine v_iconst (v := 5) F d_M_isRow_2 ki_5 ?_
  refine v_runi (r_S F (c_M_in X.2.1 u hA σ x 0 5 ) mo_M_in st_M_89 (by decide) rfl (Nat.le_of_ble_eq_true rfl) d_M_isRow_3) (fun r1 σ2 q3 => ?_)
  obtain ⟨rfl, rfl⟩ := q3
  refine v_iret F hr bI_nar d_M_isRow_6 ?_
  exact ⟨bI_c le5.symm, rfl⟩
abbrev b_M_isText : ByteArray := prog_14_method_21_code
abbrev y_M_isText : MethodName := ⟨"TakerBookModel", "isText", "(I)Z"⟩
theorem d_M_isText_0 : decode b_M_isText 0 = .ok (.iload_n 0, 1) := by decide +kernel
theorem d_M_isText_1 : decode b_M_isText 1 = .ok (.iconst 0, 1) := by decide +kernel
theorem d_M_isText_2 : decode b_M_isText 2 = .ok (.iconst 3, 1) := by decide +kernel
theorem d_M_isText_3 : decode b_M_isText 3 = .ok (.invokestatic 89, 3) := by decide +kernel
theorem d_M_isText_6 : decode b_M_isText 6 = .ok (.ireturn, 1) := by decide +kernel
theorem mo_M_isText : mok y_M_isText b_M_isText 1 (some .boolean) 1 := ⟨List.mem_of_getElem? (i := 1168) (by decide +kernel), ⟨by decide +kernel, by decide +kernel, by decide +kernel⟩, List.mem_of_getElem? (i := 86) (by decide +kernel), by decide⟩
set_option maxHeartbeats 4000000 in
theorem c_M_isText (l : Launch) (u : Un) (hA : Ap u) (σ : St) (x : Int32) : MTi l u y_M_isText b_M_isText 1 .boolean 1 [.int x] σ (fun ans σ' => bI (inR x 4) = ans ∧ σ = σ') := by
  refine MT_of hA rfl (by decide) (Nat.le_of_ble_eq_true rfl) (fun X hl F hr => ?_)
  subst hl
  refine v_to (ls' := [(0, .int x)]) rfl ?_
  refine v_iload_n F d_M_isText_0 rfl 0 rfl ?_
  refine v_iconst (v := 0) F d_M_isText_1 ki_0 ?_
  refine v_iconst (v := 3) F d_M_isText_2 ki_3 ?_
  refine v_runi (r_S F (c_M_in X.2.1 u hA σ x 0 3 ) mo_M_in st_M_89 (by decide) rfl (Nat.le_of_ble_eq_true rfl) d_M_isText_3) (fun r1 σ2 q3 => ?_)
  obtain ⟨rfl, rfl⟩ := q3
  refine v_iret F hr bI_nar d_M_isText_6 ?_
  exact ⟨bI_c le3.symm, rfl⟩
abbrev b_M_meets : ByteArray := prog_14_method_5_code
abbrev y_M_meets : MethodName := ⟨"TakerBookModel", "meets", "(I)I"⟩
theorem d_M_meets_0 : decode b_M_meets 0 = .ok (.aload_n 0, 1) := by decide +kernel
theorem d_M_meets_1 : decode b_M_meets 1 = .ok (.iload_n 1, 1) := by decide +kernel
theorem d_M_meets_2 : decode b_M_meets 2 = .ok (.putfield 85, 3) := by decide +kernel
theorem d_M_meets_5 : decode b_M_meets 5 = .ok (.aload_n 0, 1) := by decide +kernel
theorem d_M_meets_6 : decode b_M_meets 6 = .ok (.getfield 7, 3) := by decide +kernel
theorem d_M_meets_9 : decode b_M_meets 9 = .ok (.iload_n 1, 1) := by decide +kernel
theorem d_M_meets_10 : decode b_M_meets 10 = .ok (.dup2, 1) := by decide +kernel
theorem d_M_meets_11 : decode b_M_meets 11 = .ok (.iaload, 1) := by decide +kernel
theorem d_M_meets_12 : decode b_M_meets 12 = .ok (.iconst 1, 1) := by decide +kernel
theorem d_M_meets_13 : decode b_M_meets 13 = .ok (.iadd, 1) := by decide +kernel
theorem d_M_meets_14 : decode b_M_meets 14 = .ok (.iastore, 1) := by decide +kernel
theorem d_M_meets_15 : decode b_M_meets 15 = .ok (.bipush (-3), 2) := by decide +kernel
theorem d_M_meets_17 : decode b_M_meets 17 = .ok (.ireturn, 1) := by decide +kernel
theorem mo_M_meets : mok y_M_meets b_M_meets 2 (some .int) 1 := ⟨List.mem_of_getElem? (i := 1133) (by decide +kernel), ⟨by decide +kernel, by decide +kernel, by decide +kernel⟩, List.mem_of_getElem? (i := 86) (by decide +kernel), by decide⟩
set_option maxHeartbeats 4000000 in
theorem c_M_meets (l : Launch) (u : Un) (hA : Ap u) (σ : St) (n : Nat) (hn : n < 6) : MTi l u y_M_meets b_M_meets 2 .int 0 [.ref (u.2.1 63), .int (nI n)] σ (fun ans σ' => -3 = ans ∧ σ' = mRef σ n) := by
  refine MT_of hA rfl (by decide) (Nat.le_of_ble_eq_true rfl) (fun X hl F hr => ?_)
  subst hl
  refine v_to (ls' := [(0, .ref (u.2.1 63)), (1, .int (nI n))]) rfl ?_
  refine v_aload_n F d_M_meets_0 rfl 0 rfl ?_
  refine v_iload_n F d_M_meets_1 rfl 1 rfl ?_
  refine v_puti F fk_M_85 pk_M_latest G63 rfl d_M_meets_2 ?_
  refine v_ns (fun σ1 eσ1 => ?_)
  refine v_aload_n F d_M_meets_5 rfl 0 rfl ?_
  refine v_getr (r := 64) F fk_M_7 G63 rfl d_M_meets_6 ?_
  refine v_iload_n F d_M_meets_9 rfl 1 rfl ?_
  refine v_dup2_11 F d_M_meets_10 rfl rfl ?_
  refine v_ial F n G64 rfl (by omega) d_M_meets_11 ?_
  refine v_iconst (v := 1) F d_M_meets_12 ki_1 ?_
  refine v_iadd F d_M_meets_13 ?_
  refine v_ias F n G64 rfl (by omega) d_M_meets_14 ?_
  refine v_ns (fun σ2 eσ2 => ?_)
  refine v_bipush (v := (-3)) F d_M_meets_15 kb_m3 ?_
  refine v_iret F hr rfl d_M_meets_17 ?_
  exact ⟨rfl, by simp [mRef, uI, *]⟩
abbrev b_M_tells : ByteArray := prog_14_method_8_code
abbrev y_M_tells : MethodName := ⟨"TakerBookModel", "tells", "(II)I"⟩
theorem d_M_tells_0 : decode b_M_tells 0 = .ok (.aload_n 0, 1) := by decide +kernel
theorem d_M_tells_1 : decode b_M_tells 1 = .ok (.iload_n 1, 1) := by decide +kernel
theorem d_M_tells_2 : decode b_M_tells 2 = .ok (.putfield 93, 3) := by decide +kernel
theorem d_M_tells_5 : decode b_M_tells 5 = .ok (.iload_n 2, 1) := by decide +kernel
theorem d_M_tells_6 : decode b_M_tells 6 = .ok (.ireturn, 1) := by decide +kernel
theorem mo_M_tells : mok y_M_tells b_M_tells 3 (some .int) 2 := ⟨List.mem_of_getElem? (i := 1145) (by decide +kernel), ⟨by decide +kernel, by decide +kernel, by decide +kernel⟩, List.mem_of_getElem? (i := 86) (by decide +kernel), by decide⟩
set_option maxHeartbeats 4000000 in
theorem c_M_tells (l : Launch) (u : Un) (hA : Ap u) (σ : St) (v a : Int32) : MTi l u y_M_tells b_M_tells 3 .int 0 [.ref (u.2.1 63), .int v, .int a] σ (fun ans σ' => a = ans ∧ σ' = uI σ 63 2 v) := by
  refine MT_of hA rfl (by decide) (Nat.le_of_ble_eq_true rfl) (fun X hl F hr => ?_)
  subst hl
  refine v_to (ls' := [(0, .ref (u.2.1 63)), (1, .int v), (2, .int a)]) rfl ?_
  refine v_aload_n F d_M_tells_0 rfl 0 rfl ?_
  refine v_iload_n F d_M_tells_1 rfl 1 rfl ?_
  refine v_puti F fk_M_93 pk_M_asked G63 rfl d_M_tells_2 ?_
  refine v_ns (fun σ1 eσ1 => ?_)
  refine v_iload_n F d_M_tells_5 rfl 2 rfl ?_
  refine v_iret F hr rfl d_M_tells_6 ?_
  exact ⟨rfl, by simp [*]⟩
abbrev b_M_rowAt : ByteArray := prog_14_method_14_code
abbrev y_M_rowAt : MethodName := ⟨"TakerBookModel", "rowAt", "(II)I"⟩
theorem d_M_rowAt_0 : decode b_M_rowAt 0 = .ok (.aload_n 0, 1) := by decide +kernel
theorem d_M_rowAt_1 : decode b_M_rowAt 1 = .ok (.getfield 20, 3) := by decide +kernel
theorem d_M_rowAt_4 : decode b_M_rowAt 4 = .ok (.bipush 40, 2) := by decide +kernel
theorem d_M_rowAt_6 : decode b_M_rowAt 6 = .ok (.iload_n 1, 1) := by decide +kernel
theorem d_M_rowAt_7 : decode b_M_rowAt 7 = .ok (.imul, 1) := by decide +kernel
theorem d_M_rowAt_8 : decode b_M_rowAt 8 = .ok (.iload_n 2, 1) := by decide +kernel
theorem d_M_rowAt_9 : decode b_M_rowAt 9 = .ok (.iadd, 1) := by decide +kernel
theorem d_M_rowAt_10 : decode b_M_rowAt 10 = .ok (.iaload, 1) := by decide +kernel
theorem d_M_rowAt_11 : decode b_M_rowAt 11 = .ok (.ireturn, 1) := by decide +kernel
theorem mo_M_rowAt : mok y_M_rowAt b_M_rowAt 3 (some .int) 2 := ⟨List.mem_of_getElem? (i := 1141) (by decide +kernel), ⟨by decide +kernel, by decide +kernel, by decide +kernel⟩, List.mem_of_getElem? (i := 86) (by decide +kernel), by decide⟩
set_option maxHeartbeats 4000000 in
theorem c_M_rowAt (l : Launch) (u : Un) (hA : Ap u) (σ : St) (a b : Nat) (h : 40 * a + b < 240) : MTi l u y_M_rowAt b_M_rowAt 3 .int 0 [.ref (u.2.1 63), .int (nI a), .int (nI b)] σ (fun ans σ' => σ.1 66 (40 * a + b) = ans ∧ σ = σ') := by
  refine MT_of hA rfl (by decide) (Nat.le_of_ble_eq_true rfl) (fun X hl F hr => ?_)
  subst hl
  refine v_to (ls' := [(0, .ref (u.2.1 63)), (1, .int (nI a)), (2, .int (nI b))]) rfl ?_
  refine v_aload_n F d_M_rowAt_0 rfl 0 rfl ?_
  refine v_getr (r := 66) F fk_M_20 G63 rfl d_M_rowAt_1 ?_
  refine v_bipush (v := 40) F d_M_rowAt_4 kb_40 ?_
  refine v_iload_n F d_M_rowAt_6 rfl 1 rfl ?_
  refine v_imul F d_M_rowAt_7 ?_
  refine v_te (y := nI (40 * a)) (pk_mul _ _) ?_
  refine v_iload_n F d_M_rowAt_8 rfl 2 rfl ?_
  refine v_iadd F d_M_rowAt_9 ?_
  refine v_te (y := nI (40 * a + b)) (nI_add _ _) ?_
  refine v_ial F (40 * a + b) G66 rfl (by omega) d_M_rowAt_10 ?_
  refine v_iret F hr rfl d_M_rowAt_11 ?_
  exact ⟨rfl, rfl⟩
abbrev b_M_asked : ByteArray := prog_14_method_9_code
abbrev y_M_asked : MethodName := ⟨"TakerBookModel", "asked", "()I"⟩
theorem d_M_asked_0 : decode b_M_asked 0 = .ok (.aload_n 0, 1) := by decide +kernel
theorem d_M_asked_1 : decode b_M_asked 1 = .ok (.getfield 93, 3) := by decide +kernel
theorem d_M_asked_4 : decode b_M_asked 4 = .ok (.ireturn, 1) := by decide +kernel
theorem mo_M_asked : mok y_M_asked b_M_asked 1 (some .int) 0 := ⟨List.mem_of_getElem? (i := 1114) (by decide +kernel), ⟨by decide +kernel, by decide +kernel, by decide +kernel⟩, List.mem_of_getElem? (i := 86) (by decide +kernel), by decide⟩
set_option maxHeartbeats 4000000 in
theorem c_M_asked (l : Launch) (u : Un) (hA : Ap u) (σ : St) : MTi l u y_M_asked b_M_asked 1 .int 0 [.ref (u.2.1 63)] σ (fun ans σ' => σ.1 63 2 = ans ∧ σ = σ') := by
  refine MT_of hA rfl (by decide) (Nat.le_of_ble_eq_true rfl) (fun X hl F hr => ?_)
  subst hl
  refine v_to (ls' := [(0, .ref (u.2.1 63))]) rfl ?_
  refine v_aload_n F d_M_asked_0 rfl 0 rfl ?_
  refine v_geti F fk_M_93 G63 rfl d_M_asked_1 ?_
  refine v_iret F hr rfl d_M_asked_4 ?_
  exact ⟨by simp_all, rfl⟩
abbrev b_M_finding : ByteArray := prog_14_method_6_code
abbrev y_M_finding : MethodName := ⟨"TakerBookModel", "finding", "()I"⟩
theorem d_M_finding_0 : decode b_M_finding 0 = .ok (.aload_n 0, 1) := by decide +kernel
theorem d_M_finding_1 : decode b_M_finding 1 = .ok (.getfield 85, 3) := by decide +kernel
theorem d_M_finding_4 : decode b_M_finding 4 = .ok (.ireturn, 1) := by decide +kernel
theorem mo_M_finding : mok y_M_finding b_M_finding 1 (some .int) 0 := ⟨List.mem_of_getElem? (i := 1103) (by decide +kernel), ⟨by decide +kernel, by decide +kernel, by decide +kernel⟩, List.mem_of_getElem? (i := 86) (by decide +kernel), by decide⟩
set_option maxHeartbeats 4000000 in
theorem c_M_finding (l : Launch) (u : Un) (hA : Ap u) (σ : St) : MTi l u y_M_finding b_M_finding 1 .int 0 [.ref (u.2.1 63)] σ (fun ans σ' => σ.1 63 0 = ans ∧ σ = σ') := by
  refine MT_of hA rfl (by decide) (Nat.le_of_ble_eq_true rfl) (fun X hl F hr => ?_)
  subst hl
  refine v_to (ls' := [(0, .ref (u.2.1 63))]) rfl ?_
  refine v_aload_n F d_M_finding_0 rfl 0 rfl ?_
  refine v_geti F fk_M_85 G63 rfl d_M_finding_1 ?_
  refine v_iret F hr rfl d_M_finding_4 ?_
  exact ⟨by simp_all, rfl⟩
abbrev b_M_upper : ByteArray := prog_14_method_11_code
abbrev y_M_upper : MethodName := ⟨"TakerBookModel", "upper", "()J"⟩
theorem d_M_upper_0 : decode b_M_upper 0 = .ok (.aload_n 0, 1) := by decide +kernel
theorem d_M_upper_1 : decode b_M_upper 1 = .ok (.getfield 96, 3) := by decide +kernel
theorem d_M_upper_4 : decode b_M_upper 4 = .ok (.lreturn, 1) := by decide +kernel
theorem mo_M_upper : mok y_M_upper b_M_upper 1 (some .long) 0 := ⟨List.mem_of_getElem? (i := 1118) (by decide +kernel), ⟨by decide +kernel, by decide +kernel, by decide +kernel⟩, List.mem_of_getElem? (i := 86) (by decide +kernel), by decide⟩
set_option maxHeartbeats 4000000 in
theorem c_M_upper (l : Launch) (u : Un) (hA : Ap u) (σ : St) : MTl l u y_M_upper b_M_upper 1 0 [.ref (u.2.1 63)] σ (fun ans σ' => σ.2 63 3 = ans ∧ σ = σ') := by
  refine MT_of hA rfl (by decide) (Nat.le_of_ble_eq_true rfl) (fun X hl F hr => ?_)
  subst hl
  refine v_to (ls' := [(0, .ref (u.2.1 63))]) rfl ?_
  refine v_aload_n F d_M_upper_0 rfl 0 rfl ?_
  refine v_getl F fk_M_96 G63 rfl d_M_upper_1 ?_
  refine v_lret F hr d_M_upper_4 ?_
  exact ⟨by simp_all, rfl⟩
abbrev b_M_lower : ByteArray := prog_14_method_12_code
abbrev y_M_lower : MethodName := ⟨"TakerBookModel", "lower", "()J"⟩
theorem d_M_lower_0 : decode b_M_lower 0 = .ok (.aload_n 0, 1) := by decide +kernel
theorem d_M_lower_1 : decode b_M_lower 1 = .ok (.getfield 13, 3) := by decide +kernel
theorem d_M_lower_4 : decode b_M_lower 4 = .ok (.lreturn, 1) := by decide +kernel
theorem mo_M_lower : mok y_M_lower b_M_lower 1 (some .long) 0 := ⟨List.mem_of_getElem? (i := 1122) (by decide +kernel), ⟨by decide +kernel, by decide +kernel, by decide +kernel⟩, List.mem_of_getElem? (i := 86) (by decide +kernel), by decide⟩
set_option maxHeartbeats 4000000 in
theorem c_M_lower (l : Launch) (u : Un) (hA : Ap u) (σ : St) : MTl l u y_M_lower b_M_lower 1 0 [.ref (u.2.1 63)] σ (fun ans σ' => σ.2 63 4 = ans ∧ σ = σ') := by
  refine MT_of hA rfl (by decide) (Nat.le_of_ble_eq_true rfl) (fun X hl F hr => ?_)
  subst hl
  refine v_to (ls' := [(0, .ref (u.2.1 63))]) rfl ?_
  refine v_aload_n F d_M_lower_0 rfl 0 rfl ?_
  refine v_getl F fk_M_13 G63 rfl d_M_lower_1 ?_
  refine v_lret F hr d_M_lower_4 ?_
  exact ⟨by simp_all, rfl⟩
abbrev b_M_lay : ByteArray := prog_14_method_16_code
abbrev y_M_lay : MethodName := ⟨"TakerBookModel", "lay", "(III)I"⟩
theorem d_M_lay_0 : decode b_M_lay 0 = .ok (.iload_n 1, 1) := by decide +kernel
theorem d_M_lay_1 : decode b_M_lay 1 = .ok (.invokestatic 99, 3) := by decide +kernel
theorem d_M_lay_4 : decode b_M_lay 4 = .ok (.ifCond .ne 5, 3) := by decide +kernel
theorem d_M_lay_7 : decode b_M_lay 7 = .ok (.iconst (-1), 1) := by decide +kernel
theorem d_M_lay_8 : decode b_M_lay 8 = .ok (.ireturn, 1) := by decide +kernel
theorem d_M_lay_9 : decode b_M_lay 9 = .ok (.aload_n 0, 1) := by decide +kernel
theorem d_M_lay_10 : decode b_M_lay 10 = .ok (.getfield 17, 3) := by decide +kernel
theorem d_M_lay_13 : decode b_M_lay 13 = .ok (.iload_n 1, 1) := by decide +kernel
theorem d_M_lay_14 : decode b_M_lay 14 = .ok (.iaload, 1) := by decide +kernel
theorem d_M_lay_15 : decode b_M_lay 15 = .ok (.ifCond .ge 9, 3) := by decide +kernel
theorem d_M_lay_18 : decode b_M_lay 18 = .ok (.aload_n 0, 1) := by decide +kernel
theorem d_M_lay_19 : decode b_M_lay 19 = .ok (.iconst 1, 1) := by decide +kernel
theorem d_M_lay_20 : decode b_M_lay 20 = .ok (.invokevirtual 103, 3) := by decide +kernel
theorem d_M_lay_23 : decode b_M_lay 23 = .ok (.ireturn, 1) := by decide +kernel
theorem d_M_lay_24 : decode b_M_lay 24 = .ok (.iload_n 2, 1) := by decide +kernel
theorem d_M_lay_25 : decode b_M_lay 25 = .ok (.iconst 0, 1) := by decide +kernel
theorem d_M_lay_26 : decode b_M_lay 26 = .ok (.aload_n 0, 1) := by decide +kernel
theorem d_M_lay_27 : decode b_M_lay 27 = .ok (.getfield 17, 3) := by decide +kernel
theorem d_M_lay_30 : decode b_M_lay 30 = .ok (.iload_n 1, 1) := by decide +kernel
theorem d_M_lay_31 : decode b_M_lay 31 = .ok (.iaload, 1) := by decide +kernel
theorem d_M_lay_32 : decode b_M_lay 32 = .ok (.iconst 1, 1) := by decide +kernel
theorem d_M_lay_33 : decode b_M_lay 33 = .ok (.isub, 1) := by decide +kernel
theorem d_M_lay_34 : decode b_M_lay 34 = .ok (.invokestatic 89, 3) := by decide +kernel
theorem d_M_lay_37 : decode b_M_lay 37 = .ok (.ifCond .ne 9, 3) := by decide +kernel
theorem d_M_lay_40 : decode b_M_lay 40 = .ok (.aload_n 0, 1) := by decide +kernel
theorem d_M_lay_41 : decode b_M_lay 41 = .ok (.iconst 2, 1) := by decide +kernel
theorem d_M_lay_42 : decode b_M_lay 42 = .ok (.invokevirtual 103, 3) := by decide +kernel
theorem d_M_lay_45 : decode b_M_lay 45 = .ok (.ireturn, 1) := by decide +kernel
theorem d_M_lay_46 : decode b_M_lay 46 = .ok (.aload_n 0, 1) := by decide +kernel
theorem d_M_lay_47 : decode b_M_lay 47 = .ok (.iload_n 1, 1) := by decide +kernel
theorem d_M_lay_48 : decode b_M_lay 48 = .ok (.iload_n 2, 1) := by decide +kernel
theorem d_M_lay_49 : decode b_M_lay 49 = .ok (.invokevirtual 107, 3) := by decide +kernel
theorem d_M_lay_52 : decode b_M_lay 52 = .ok (.istore 4, 2) := by decide +kernel
theorem d_M_lay_54 : decode b_M_lay 54 = .ok (.aload_n 0, 1) := by decide +kernel
theorem d_M_lay_55 : decode b_M_lay 55 = .ok (.getfield 20, 3) := by decide +kernel
theorem d_M_lay_58 : decode b_M_lay 58 = .ok (.bipush 40, 2) := by decide +kernel
theorem d_M_lay_60 : decode b_M_lay 60 = .ok (.iload_n 1, 1) := by decide +kernel
theorem d_M_lay_61 : decode b_M_lay 61 = .ok (.imul, 1) := by decide +kernel
theorem d_M_lay_62 : decode b_M_lay 62 = .ok (.iload_n 2, 1) := by decide +kernel
theorem d_M_lay_63 : decode b_M_lay 63 = .ok (.iadd, 1) := by decide +kernel
theorem d_M_lay_64 : decode b_M_lay 64 = .ok (.iload_n 3, 1) := by decide +kernel
theorem d_M_lay_65 : decode b_M_lay 65 = .ok (.iastore, 1) := by decide +kernel
theorem d_M_lay_66 : decode b_M_lay 66 = .ok (.aload_n 0, 1) := by decide +kernel
theorem d_M_lay_67 : decode b_M_lay 67 = .ok (.iload 4, 2) := by decide +kernel
theorem d_M_lay_69 : decode b_M_lay 69 = .ok (.iconst 1, 1) := by decide +kernel
theorem d_M_lay_70 : decode b_M_lay 70 = .ok (.invokevirtual 111, 3) := by decide +kernel
theorem d_M_lay_73 : decode b_M_lay 73 = .ok (.ireturn, 1) := by decide +kernel
theorem mo_M_lay : mok y_M_lay b_M_lay 5 (some .int) 3 := ⟨List.mem_of_getElem? (i := 1137) (by decide +kernel), ⟨by decide +kernel, by decide +kernel, by decide +kernel⟩, List.mem_of_getElem? (i := 86) (by decide +kernel), by decide⟩
set_option maxHeartbeats 4000000 in
theorem c_M_lay (l : Launch) (u : Un) (hA : Ap u) (σ : St) (r i v : Int32) (hI : mRowsOk σ) : MTi l u y_M_lay b_M_lay 5 .int 2 [.ref (u.2.1 63), .int r, .int i, .int v] σ (fun ans σ' => (ans, σ') = mLay σ r i v) := by
  refine MT_of hA rfl (by decide) (Nat.le_of_ble_eq_true rfl) (fun X hl F hr => ?_)
  subst hl
  refine v_to (ls' := [(0, .ref (u.2.1 63)), (1, .int r), (2, .int i), (3, .int v)]) rfl ?_
  refine v_iload_n F d_M_lay_0 rfl 1 rfl ?_
  refine v_runi (r_S F (c_M_isRow X.2.1 u hA σ r ) mo_M_isRow st_M_99 (by decide) rfl (Nat.le_of_ble_eq_true rfl) d_M_lay_1) (fun r1 σ2 q3 => ?_)
  obtain ⟨rfl, rfl⟩ := q3
  refine v_bf F 9 d_M_lay_4 rfl (fun h4 => ?_) (fun h4 => ?_)
  · skip
    obtain ⟨a, ha, xa, rfl⟩ := inR_nat (N := 6) h4 rfl (by decide)
    refine v_aload_n F d_M_lay_9 rfl 0 rfl ?_
    refine v_getr (r := 65) F fk_M_17 G63 rfl d_M_lay_10 ?_
    refine v_iload_n F d_M_lay_13 rfl 1 rfl ?_
    refine v_ial F a G65 rfl (by omega) d_M_lay_14 ?_
    refine v_if_ge F 24 d_M_lay_15 rfl (fun h15 => ?_) (fun h15 => ?_)
    · skip
      refine v_iload_n F d_M_lay_24 rfl 2 rfl ?_
      refine v_iconst (v := 0) F d_M_lay_25 ki_0 ?_
      refine v_aload_n F d_M_lay_26 rfl 0 rfl ?_
      refine v_getr (r := 65) F fk_M_17 G63 rfl d_M_lay_27 ?_
      refine v_iload_n F d_M_lay_30 rfl 1 rfl ?_
      refine v_ial F a G65 rfl (by omega) d_M_lay_31 ?_
      refine v_iconst (v := 1) F d_M_lay_32 ki_1 ?_
      refine v_isub F d_M_lay_33 ?_
      refine v_runi (r_S F (c_M_in X.2.1 u hA σ i 0 ((σ.1 65 a) - 1) ) mo_M_in st_M_89 (by decide) rfl (Nat.le_of_ble_eq_true rfl) d_M_lay_34) (fun r4 σ5 q6 => ?_)
      obtain ⟨rfl, rfl⟩ := q6
      refine v_bf F 46 d_M_lay_37 rfl (fun h37 => ?_) (fun h37 => ?_)
      · skip
        obtain ⟨b, hb, xb, rfl⟩ := pred_nat (N := 40) h15 (hI _ ha) (by decide) h37
        refine v_aload_n F d_M_lay_46 rfl 0 rfl ?_
        refine v_iload_n F d_M_lay_47 rfl 1 rfl ?_
        refine v_iload_n F d_M_lay_48 rfl 2 rfl ?_
        refine v_runi (r_V F (c_M_rowAt X.2.1 u hA σ a b (by omega)) mo_M_rowAt st_M_107 rc_63 (by decide) rfl (Nat.le_of_ble_eq_true rfl) d_M_lay_49) (fun r7 σ8 q9 => ?_)
        obtain ⟨rfl, rfl⟩ := q9
        refine v_ni (fun x10 ex10 => ?_)
        refine v_istore (ls' := [(4, .int x10), (0, .ref (u.2.1 63)), (1, .int (nI a)), (2, .int (nI b)), (3, .int v)]) F d_M_lay_52 (by decide) rfl ?_
        refine v_aload_n F d_M_lay_54 rfl 1 rfl ?_
        refine v_getr (r := 66) F fk_M_20 G63 rfl d_M_lay_55 ?_
        refine v_bipush (v := 40) F d_M_lay_58 kb_40 ?_
        refine v_iload_n F d_M_lay_60 rfl 2 rfl ?_
        refine v_imul F d_M_lay_61 ?_
        refine v_te (y := nI (40 * a)) (pk_mul _ _) ?_
        refine v_iload_n F d_M_lay_62 rfl 3 rfl ?_
        refine v_iadd F d_M_lay_63 ?_
        refine v_te (y := nI (40 * a + b)) (nI_add _ _) ?_
        refine v_iload_n F d_M_lay_64 rfl 4 rfl ?_
        refine v_ias F (40 * a + b) G66 rfl (by omega) d_M_lay_65 ?_
        refine v_ns (fun σ11 eσ11 => ?_)
        refine v_aload_n F d_M_lay_66 rfl 1 rfl ?_
        refine v_iload F d_M_lay_67 0 rfl ?_
        refine v_iconst (v := 1) F d_M_lay_69 ki_1 ?_
        refine v_runi (r_V F (c_M_tells X.2.1 u hA σ11 x10 1) mo_M_tells st_M_111 rc_63 (by decide) rfl (Nat.le_of_ble_eq_true rfl) d_M_lay_70) (fun r12 σ13 q14 => ?_)
        obtain ⟨rfl, eσ13⟩ := q14
        refine v_iret F hr rfl d_M_lay_73 ?_
        first | (simp_all [mLay, inR]; done) | grind [mLay]
      · skip
        refine v_aload_n F d_M_lay_40 rfl 0 rfl ?_
        refine v_iconst (v := 2) F d_M_lay_41 ki_2 ?_
        refine v_runi (r_V F (c_M_meets X.2.1 u hA σ 2 (by decide)) mo_M_meets st_M_103 rc_63 (by decide) rfl (Nat.le_of_ble_eq_true rfl) d_M_lay_42) (fun r15 σ16 q17 => ?_)
        obtain ⟨rfl, eσ16⟩ := q17
        refine v_iret F hr rfl d_M_lay_45 ?_
        first | (simp_all [mLay, inR]; done) | grind [mLay]
    · skip
      refine v_aload_n F d_M_lay_18 rfl 0 rfl ?_
      refine v_iconst (v := 1) F d_M_lay_19 ki_1 ?_
      refine v_runi (r_V F (c_M_meets X.2.1 u hA σ 1 (by decide)) mo_M_meets st_M_103 rc_63 (by decide) rfl (Nat.le_of_ble_eq_true rfl) d_M_lay_20) (fun r18 σ19 q20 => ?_)
      obtain ⟨rfl, eσ19⟩ := q20
      refine v_iret F hr rfl d_M_lay_23 ?_
      first | (simp_all [mLay, inR]; done) | grind [mLay]
  · skip
    refine v_iconst (v := (-1)) F d_M_lay_7 ki_m1 ?_
    refine v_iret F hr rfl d_M_lay_8 ?_
    first | (simp_all [mLay, inR]; done) | grind [mLay]
abbrev b_M_at : ByteArray := prog_14_method_17_code
abbrev y_M_at : MethodName := ⟨"TakerBookModel", "at", "(II)I"⟩
theorem d_M_at_0 : decode b_M_at 0 = .ok (.iload_n 1, 1) := by decide +kernel
theorem d_M_at_1 : decode b_M_at 1 = .ok (.invokestatic 99, 3) := by decide +kernel
theorem d_M_at_4 : decode b_M_at 4 = .ok (.ifCond .ne 5, 3) := by decide +kernel
theorem d_M_at_7 : decode b_M_at 7 = .ok (.iconst (-1), 1) := by decide +kernel
theorem d_M_at_8 : decode b_M_at 8 = .ok (.ireturn, 1) := by decide +kernel
theorem d_M_at_9 : decode b_M_at 9 = .ok (.aload_n 0, 1) := by decide +kernel
theorem d_M_at_10 : decode b_M_at 10 = .ok (.getfield 17, 3) := by decide +kernel
theorem d_M_at_13 : decode b_M_at 13 = .ok (.iload_n 1, 1) := by decide +kernel
theorem d_M_at_14 : decode b_M_at 14 = .ok (.iaload, 1) := by decide +kernel
theorem d_M_at_15 : decode b_M_at 15 = .ok (.ifCond .ge 9, 3) := by decide +kernel
theorem d_M_at_18 : decode b_M_at 18 = .ok (.aload_n 0, 1) := by decide +kernel
theorem d_M_at_19 : decode b_M_at 19 = .ok (.iconst 1, 1) := by decide +kernel
theorem d_M_at_20 : decode b_M_at 20 = .ok (.invokevirtual 103, 3) := by decide +kernel
theorem d_M_at_23 : decode b_M_at 23 = .ok (.ireturn, 1) := by decide +kernel
theorem d_M_at_24 : decode b_M_at 24 = .ok (.iload_n 2, 1) := by decide +kernel
theorem d_M_at_25 : decode b_M_at 25 = .ok (.iconst 0, 1) := by decide +kernel
theorem d_M_at_26 : decode b_M_at 26 = .ok (.aload_n 0, 1) := by decide +kernel
theorem d_M_at_27 : decode b_M_at 27 = .ok (.getfield 17, 3) := by decide +kernel
theorem d_M_at_30 : decode b_M_at 30 = .ok (.iload_n 1, 1) := by decide +kernel
theorem d_M_at_31 : decode b_M_at 31 = .ok (.iaload, 1) := by decide +kernel
theorem d_M_at_32 : decode b_M_at 32 = .ok (.iconst 1, 1) := by decide +kernel
theorem d_M_at_33 : decode b_M_at 33 = .ok (.isub, 1) := by decide +kernel
theorem d_M_at_34 : decode b_M_at 34 = .ok (.invokestatic 89, 3) := by decide +kernel
theorem d_M_at_37 : decode b_M_at 37 = .ok (.ifCond .eq 17, 3) := by decide +kernel
theorem d_M_at_40 : decode b_M_at 40 = .ok (.aload_n 0, 1) := by decide +kernel
theorem d_M_at_41 : decode b_M_at 41 = .ok (.aload_n 0, 1) := by decide +kernel
theorem d_M_at_42 : decode b_M_at 42 = .ok (.iload_n 1, 1) := by decide +kernel
theorem d_M_at_43 : decode b_M_at 43 = .ok (.iload_n 2, 1) := by decide +kernel
theorem d_M_at_44 : decode b_M_at 44 = .ok (.invokevirtual 107, 3) := by decide +kernel
theorem d_M_at_47 : decode b_M_at 47 = .ok (.iconst 1, 1) := by decide +kernel
theorem d_M_at_48 : decode b_M_at 48 = .ok (.invokevirtual 111, 3) := by decide +kernel
theorem d_M_at_51 : decode b_M_at 51 = .ok (.goto 8, 3) := by decide +kernel
theorem d_M_at_54 : decode b_M_at 54 = .ok (.aload_n 0, 1) := by decide +kernel
theorem d_M_at_55 : decode b_M_at 55 = .ok (.iconst 2, 1) := by decide +kernel
theorem d_M_at_56 : decode b_M_at 56 = .ok (.invokevirtual 103, 3) := by decide +kernel
theorem d_M_at_59 : decode b_M_at 59 = .ok (.ireturn, 1) := by decide +kernel
theorem mo_M_at : mok y_M_at b_M_at 3 (some .int) 2 := ⟨List.mem_of_getElem? (i := 1149) (by decide +kernel), ⟨by decide +kernel, by decide +kernel, by decide +kernel⟩, List.mem_of_getElem? (i := 86) (by decide +kernel), by decide⟩
set_option maxHeartbeats 4000000 in
theorem c_M_at (l : Launch) (u : Un) (hA : Ap u) (σ : St) (r i : Int32) (hI : mRowsOk σ) : MTi l u y_M_at b_M_at 3 .int 2 [.ref (u.2.1 63), .int r, .int i] σ (fun ans σ' => (ans, σ') = mAt σ r i) := by
  refine MT_of hA rfl (by decide) (Nat.le_of_ble_eq_true rfl) (fun X hl F hr => ?_)
  subst hl
  refine v_to (ls' := [(0, .ref (u.2.1 63)), (1, .int r), (2, .int i)]) rfl ?_
  refine v_iload_n F d_M_at_0 rfl 1 rfl ?_
  refine v_runi (r_S F (c_M_isRow X.2.1 u hA σ r ) mo_M_isRow st_M_99 (by decide) rfl (Nat.le_of_ble_eq_true rfl) d_M_at_1) (fun r1 σ2 q3 => ?_)
  obtain ⟨rfl, rfl⟩ := q3
  refine v_bf F 9 d_M_at_4 rfl (fun h4 => ?_) (fun h4 => ?_)
  · skip
    obtain ⟨a, ha, xa, rfl⟩ := inR_nat (N := 6) h4 rfl (by decide)
    refine v_aload_n F d_M_at_9 rfl 0 rfl ?_
    refine v_getr (r := 65) F fk_M_17 G63 rfl d_M_at_10 ?_
    refine v_iload_n F d_M_at_13 rfl 1 rfl ?_
    refine v_ial F a G65 rfl (by omega) d_M_at_14 ?_
    refine v_if_ge F 24 d_M_at_15 rfl (fun h15 => ?_) (fun h15 => ?_)
    · skip
      refine v_iload_n F d_M_at_24 rfl 2 rfl ?_
      refine v_iconst (v := 0) F d_M_at_25 ki_0 ?_
      refine v_aload_n F d_M_at_26 rfl 0 rfl ?_
      refine v_getr (r := 65) F fk_M_17 G63 rfl d_M_at_27 ?_
      refine v_iload_n F d_M_at_30 rfl 1 rfl ?_
      refine v_ial F a G65 rfl (by omega) d_M_at_31 ?_
      refine v_iconst (v := 1) F d_M_at_32 ki_1 ?_
      refine v_isub F d_M_at_33 ?_
      refine v_runi (r_S F (c_M_in X.2.1 u hA σ i 0 ((σ.1 65 a) - 1) ) mo_M_in st_M_89 (by decide) rfl (Nat.le_of_ble_eq_true rfl) d_M_at_34) (fun r4 σ5 q6 => ?_)
      obtain ⟨rfl, rfl⟩ := q6
      refine v_bt F 54 d_M_at_37 rfl (fun h37 => ?_) (fun h37 => ?_)
      · skip
        refine v_aload_n F d_M_at_54 rfl 0 rfl ?_
        refine v_iconst (v := 2) F d_M_at_55 ki_2 ?_
        refine v_runi (r_V F (c_M_meets X.2.1 u hA σ 2 (by decide)) mo_M_meets st_M_103 rc_63 (by decide) rfl (Nat.le_of_ble_eq_true rfl) d_M_at_56) (fun r7 σ8 q9 => ?_)
        obtain ⟨rfl, eσ8⟩ := q9
        refine v_iret F hr rfl d_M_at_59 ?_
        first | (simp_all [mAt, inR]; done) | grind [mAt]
      · skip
        obtain ⟨b, hb, xb, rfl⟩ := pred_nat (N := 40) h15 (hI _ ha) (by decide) h37
        refine v_aload_n F d_M_at_40 rfl 0 rfl ?_
        refine v_aload_n F d_M_at_41 rfl 0 rfl ?_
        refine v_iload_n F d_M_at_42 rfl 1 rfl ?_
        refine v_iload_n F d_M_at_43 rfl 2 rfl ?_
        refine v_runi (r_V F (c_M_rowAt X.2.1 u hA σ a b (by omega)) mo_M_rowAt st_M_107 rc_63 (by decide) rfl (Nat.le_of_ble_eq_true rfl) d_M_at_44) (fun r10 σ11 q12 => ?_)
        obtain ⟨rfl, rfl⟩ := q12
        refine v_iconst (v := 1) F d_M_at_47 ki_1 ?_
        refine v_runi (r_V F (c_M_tells X.2.1 u hA σ (σ.1 66 (40 * a + b)) 1) mo_M_tells st_M_111 rc_63 (by decide) rfl (Nat.le_of_ble_eq_true rfl) d_M_at_48) (fun r13 σ14 q15 => ?_)
        obtain ⟨rfl, eσ14⟩ := q15
        refine v_goto F 59 d_M_at_51 rfl ?_
        refine v_iret F hr rfl d_M_at_59 ?_
        first | (simp_all [mAt, inR]; done) | grind [mAt]
    · skip
      refine v_aload_n F d_M_at_18 rfl 0 rfl ?_
      refine v_iconst (v := 1) F d_M_at_19 ki_1 ?_
      refine v_runi (r_V F (c_M_meets X.2.1 u hA σ 1 (by decide)) mo_M_meets st_M_103 rc_63 (by decide) rfl (Nat.le_of_ble_eq_true rfl) d_M_at_20) (fun r16 σ17 q18 => ?_)
      obtain ⟨rfl, eσ17⟩ := q18
      refine v_iret F hr rfl d_M_at_23 ?_
      first | (simp_all [mAt, inR]; done) | grind [mAt]
  · skip
    refine v_iconst (v := (-1)) F d_M_at_7 ki_m1 ?_
    refine v_iret F hr rfl d_M_at_8 ?_
    first | (simp_all [mAt, inR]; done) | grind [mAt]
abbrev b_M_tear : ByteArray := prog_14_method_18_code
abbrev y_M_tear : MethodName := ⟨"TakerBookModel", "tear", "(I)I"⟩
theorem d_M_tear_0 : decode b_M_tear 0 = .ok (.iload_n 1, 1) := by decide +kernel
theorem d_M_tear_1 : decode b_M_tear 1 = .ok (.invokestatic 99, 3) := by decide +kernel
theorem d_M_tear_4 : decode b_M_tear 4 = .ok (.ifCond .ne 5, 3) := by decide +kernel
theorem d_M_tear_7 : decode b_M_tear 7 = .ok (.iconst (-1), 1) := by decide +kernel
theorem d_M_tear_8 : decode b_M_tear 8 = .ok (.ireturn, 1) := by decide +kernel
theorem d_M_tear_9 : decode b_M_tear 9 = .ok (.aload_n 0, 1) := by decide +kernel
theorem d_M_tear_10 : decode b_M_tear 10 = .ok (.getfield 17, 3) := by decide +kernel
theorem d_M_tear_13 : decode b_M_tear 13 = .ok (.iload_n 1, 1) := by decide +kernel
theorem d_M_tear_14 : decode b_M_tear 14 = .ok (.iaload, 1) := by decide +kernel
theorem d_M_tear_15 : decode b_M_tear 15 = .ok (.ifCond .ge 9, 3) := by decide +kernel
theorem d_M_tear_18 : decode b_M_tear 18 = .ok (.aload_n 0, 1) := by decide +kernel
theorem d_M_tear_19 : decode b_M_tear 19 = .ok (.iconst 1, 1) := by decide +kernel
theorem d_M_tear_20 : decode b_M_tear 20 = .ok (.invokevirtual 103, 3) := by decide +kernel
theorem d_M_tear_23 : decode b_M_tear 23 = .ok (.ireturn, 1) := by decide +kernel
theorem d_M_tear_24 : decode b_M_tear 24 = .ok (.aload_n 0, 1) := by decide +kernel
theorem d_M_tear_25 : decode b_M_tear 25 = .ok (.getfield 17, 3) := by decide +kernel
theorem d_M_tear_28 : decode b_M_tear 28 = .ok (.iload_n 1, 1) := by decide +kernel
theorem d_M_tear_29 : decode b_M_tear 29 = .ok (.iconst (-1), 1) := by decide +kernel
theorem d_M_tear_30 : decode b_M_tear 30 = .ok (.iastore, 1) := by decide +kernel
theorem d_M_tear_31 : decode b_M_tear 31 = .ok (.iconst 1, 1) := by decide +kernel
theorem d_M_tear_32 : decode b_M_tear 32 = .ok (.ireturn, 1) := by decide +kernel
theorem mo_M_tear : mok y_M_tear b_M_tear 2 (some .int) 1 := ⟨List.mem_of_getElem? (i := 1153) (by decide +kernel), ⟨by decide +kernel, by decide +kernel, by decide +kernel⟩, List.mem_of_getElem? (i := 86) (by decide +kernel), by decide⟩
set_option maxHeartbeats 4000000 in
theorem c_M_tear (l : Launch) (u : Un) (hA : Ap u) (σ : St) (r : Int32) : MTi l u y_M_tear b_M_tear 2 .int 2 [.ref (u.2.1 63), .int r] σ (fun ans σ' => (ans, σ') = mTear σ r) := by
  refine MT_of hA rfl (by decide) (Nat.le_of_ble_eq_true rfl) (fun X hl F hr => ?_)
  subst hl
  refine v_to (ls' := [(0, .ref (u.2.1 63)), (1, .int r)]) rfl ?_
  refine v_iload_n F d_M_tear_0 rfl 1 rfl ?_
  refine v_runi (r_S F (c_M_isRow X.2.1 u hA σ r ) mo_M_isRow st_M_99 (by decide) rfl (Nat.le_of_ble_eq_true rfl) d_M_tear_1) (fun r1 σ2 q3 => ?_)
  obtain ⟨rfl, rfl⟩ := q3
  refine v_bf F 9 d_M_tear_4 rfl (fun h4 => ?_) (fun h4 => ?_)
  · skip
    obtain ⟨a, ha, xa, rfl⟩ := inR_nat (N := 6) h4 rfl (by decide)
    refine v_aload_n F d_M_tear_9 rfl 0 rfl ?_
    refine v_getr (r := 65) F fk_M_17 G63 rfl d_M_tear_10 ?_
    refine v_iload_n F d_M_tear_13 rfl 1 rfl ?_
    refine v_ial F a G65 rfl (by omega) d_M_tear_14 ?_
    refine v_if_ge F 24 d_M_tear_15 rfl (fun h15 => ?_) (fun h15 => ?_)
    · skip
      refine v_aload_n F d_M_tear_24 rfl 0 rfl ?_
      refine v_getr (r := 65) F fk_M_17 G63 rfl d_M_tear_25 ?_
      refine v_iload_n F d_M_tear_28 rfl 1 rfl ?_
      refine v_iconst (v := (-1)) F d_M_tear_29 ki_m1 ?_
      refine v_ias F a G65 rfl (by omega) d_M_tear_30 ?_
      refine v_ns (fun σ4 eσ4 => ?_)
      refine v_iconst (v := 1) F d_M_tear_31 ki_1 ?_
      refine v_iret F hr rfl d_M_tear_32 ?_
      first | (simp_all [mTear, inR]; done) | grind [mTear]
    · skip
      refine v_aload_n F d_M_tear_18 rfl 0 rfl ?_
      refine v_iconst (v := 1) F d_M_tear_19 ki_1 ?_
      refine v_runi (r_V F (c_M_meets X.2.1 u hA σ 1 (by decide)) mo_M_meets st_M_103 rc_63 (by decide) rfl (Nat.le_of_ble_eq_true rfl) d_M_tear_20) (fun r5 σ6 q7 => ?_)
      obtain ⟨rfl, eσ6⟩ := q7
      refine v_iret F hr rfl d_M_tear_23 ?_
      first | (simp_all [mTear, inR]; done) | grind [mTear]
  · skip
    refine v_iconst (v := (-1)) F d_M_tear_7 ki_m1 ?_
    refine v_iret F hr rfl d_M_tear_8 ?_
    first | (simp_all [mTear, inR]; done) | grind [mTear]
abbrev b_M_put : ByteArray := prog_14_method_23_code
abbrev y_M_put : MethodName := ⟨"TakerBookModel", "put", "(III)I"⟩
theorem d_M_put_0 : decode b_M_put 0 = .ok (.iload_n 1, 1) := by decide +kernel
theorem d_M_put_1 : decode b_M_put 1 = .ok (.invokestatic 114, 3) := by decide +kernel
theorem d_M_put_4 : decode b_M_put 4 = .ok (.ifCond .ne 5, 3) := by decide +kernel
theorem d_M_put_7 : decode b_M_put 7 = .ok (.iconst (-1), 1) := by decide +kernel
theorem d_M_put_8 : decode b_M_put 8 = .ok (.ireturn, 1) := by decide +kernel
theorem d_M_put_9 : decode b_M_put 9 = .ok (.aload_n 0, 1) := by decide +kernel
theorem d_M_put_10 : decode b_M_put 10 = .ok (.getfield 26, 3) := by decide +kernel
theorem d_M_put_13 : decode b_M_put 13 = .ok (.iload_n 1, 1) := by decide +kernel
theorem d_M_put_14 : decode b_M_put 14 = .ok (.iaload, 1) := by decide +kernel
theorem d_M_put_15 : decode b_M_put 15 = .ok (.ifCond .ge 9, 3) := by decide +kernel
theorem d_M_put_18 : decode b_M_put 18 = .ok (.aload_n 0, 1) := by decide +kernel
theorem d_M_put_19 : decode b_M_put 19 = .ok (.iconst 1, 1) := by decide +kernel
theorem d_M_put_20 : decode b_M_put 20 = .ok (.invokevirtual 103, 3) := by decide +kernel
theorem d_M_put_23 : decode b_M_put 23 = .ok (.ireturn, 1) := by decide +kernel
theorem d_M_put_24 : decode b_M_put 24 = .ok (.iload_n 2, 1) := by decide +kernel
theorem d_M_put_25 : decode b_M_put 25 = .ok (.iconst 0, 1) := by decide +kernel
theorem d_M_put_26 : decode b_M_put 26 = .ok (.aload_n 0, 1) := by decide +kernel
theorem d_M_put_27 : decode b_M_put 27 = .ok (.getfield 26, 3) := by decide +kernel
theorem d_M_put_30 : decode b_M_put 30 = .ok (.iload_n 1, 1) := by decide +kernel
theorem d_M_put_31 : decode b_M_put 31 = .ok (.iaload, 1) := by decide +kernel
theorem d_M_put_32 : decode b_M_put 32 = .ok (.iconst 1, 1) := by decide +kernel
theorem d_M_put_33 : decode b_M_put 33 = .ok (.isub, 1) := by decide +kernel
theorem d_M_put_34 : decode b_M_put 34 = .ok (.invokestatic 89, 3) := by decide +kernel
theorem d_M_put_37 : decode b_M_put 37 = .ok (.ifCond .ne 9, 3) := by decide +kernel
theorem d_M_put_40 : decode b_M_put 40 = .ok (.aload_n 0, 1) := by decide +kernel
theorem d_M_put_41 : decode b_M_put 41 = .ok (.iconst 2, 1) := by decide +kernel
theorem d_M_put_42 : decode b_M_put 42 = .ok (.invokevirtual 103, 3) := by decide +kernel
theorem d_M_put_45 : decode b_M_put 45 = .ok (.ireturn, 1) := by decide +kernel
theorem d_M_put_46 : decode b_M_put 46 = .ok (.aload_n 0, 1) := by decide +kernel
theorem d_M_put_47 : decode b_M_put 47 = .ok (.getfield 29, 3) := by decide +kernel
theorem d_M_put_50 : decode b_M_put 50 = .ok (.bipush 60, 2) := by decide +kernel
theorem d_M_put_52 : decode b_M_put 52 = .ok (.iload_n 1, 1) := by decide +kernel
theorem d_M_put_53 : decode b_M_put 53 = .ok (.imul, 1) := by decide +kernel
theorem d_M_put_54 : decode b_M_put 54 = .ok (.iload_n 2, 1) := by decide +kernel
theorem d_M_put_55 : decode b_M_put 55 = .ok (.iadd, 1) := by decide +kernel
theorem d_M_put_56 : decode b_M_put 56 = .ok (.baload, 1) := by decide +kernel
theorem d_M_put_57 : decode b_M_put 57 = .ok (.istore 4, 2) := by decide +kernel
theorem d_M_put_59 : decode b_M_put 59 = .ok (.aload_n 0, 1) := by decide +kernel
theorem d_M_put_60 : decode b_M_put 60 = .ok (.getfield 29, 3) := by decide +kernel
theorem d_M_put_63 : decode b_M_put 63 = .ok (.bipush 60, 2) := by decide +kernel
theorem d_M_put_65 : decode b_M_put 65 = .ok (.iload_n 1, 1) := by decide +kernel
theorem d_M_put_66 : decode b_M_put 66 = .ok (.imul, 1) := by decide +kernel
theorem d_M_put_67 : decode b_M_put 67 = .ok (.iload_n 2, 1) := by decide +kernel
theorem d_M_put_68 : decode b_M_put 68 = .ok (.iadd, 1) := by decide +kernel
theorem d_M_put_69 : decode b_M_put 69 = .ok (.iload_n 3, 1) := by decide +kernel
theorem d_M_put_70 : decode b_M_put 70 = .ok (.i2b, 1) := by decide +kernel
theorem d_M_put_71 : decode b_M_put 71 = .ok (.bastore, 1) := by decide +kernel
theorem d_M_put_72 : decode b_M_put 72 = .ok (.sipush 1000, 3) := by decide +kernel
theorem d_M_put_75 : decode b_M_put 75 = .ok (.iload 4, 2) := by decide +kernel
theorem d_M_put_77 : decode b_M_put 77 = .ok (.iadd, 1) := by decide +kernel
theorem d_M_put_78 : decode b_M_put 78 = .ok (.ireturn, 1) := by decide +kernel
theorem mo_M_put : mok y_M_put b_M_put 5 (some .int) 3 := ⟨List.mem_of_getElem? (i := 1172) (by decide +kernel), ⟨by decide +kernel, by decide +kernel, by decide +kernel⟩, List.mem_of_getElem? (i := 86) (by decide +kernel), by decide⟩
set_option maxHeartbeats 4000000 in
theorem c_M_put (l : Launch) (u : Un) (hA : Ap u) (σ : St) (t i v : Int32) (hI : mTextsOk σ) : MTi l u y_M_put b_M_put 5 .int 2 [.ref (u.2.1 63), .int t, .int i, .int v] σ (fun ans σ' => (ans, σ') = mPut σ t i v) := by
  refine MT_of hA rfl (by decide) (Nat.le_of_ble_eq_true rfl) (fun X hl F hr => ?_)
  subst hl
  refine v_to (ls' := [(0, .ref (u.2.1 63)), (1, .int t), (2, .int i), (3, .int v)]) rfl ?_
  refine v_iload_n F d_M_put_0 rfl 1 rfl ?_
  refine v_runi (r_S F (c_M_isText X.2.1 u hA σ t ) mo_M_isText st_M_114 (by decide) rfl (Nat.le_of_ble_eq_true rfl) d_M_put_1) (fun r1 σ2 q3 => ?_)
  obtain ⟨rfl, rfl⟩ := q3
  refine v_bf F 9 d_M_put_4 rfl (fun h4 => ?_) (fun h4 => ?_)
  · skip
    obtain ⟨a, ha, xa, rfl⟩ := inR_nat (N := 4) h4 rfl (by decide)
    refine v_aload_n F d_M_put_9 rfl 0 rfl ?_
    refine v_getr (r := 68) F fk_M_26 G63 rfl d_M_put_10 ?_
    refine v_iload_n F d_M_put_13 rfl 1 rfl ?_
    refine v_ial F a G68 rfl (by omega) d_M_put_14 ?_
    refine v_if_ge F 24 d_M_put_15 rfl (fun h15 => ?_) (fun h15 => ?_)
    · skip
      refine v_iload_n F d_M_put_24 rfl 2 rfl ?_
      refine v_iconst (v := 0) F d_M_put_25 ki_0 ?_
      refine v_aload_n F d_M_put_26 rfl 0 rfl ?_
      refine v_getr (r := 68) F fk_M_26 G63 rfl d_M_put_27 ?_
      refine v_iload_n F d_M_put_30 rfl 1 rfl ?_
      refine v_ial F a G68 rfl (by omega) d_M_put_31 ?_
      refine v_iconst (v := 1) F d_M_put_32 ki_1 ?_
      refine v_isub F d_M_put_33 ?_
      refine v_runi (r_S F (c_M_in X.2.1 u hA σ i 0 ((σ.1 68 a) - 1) ) mo_M_in st_M_89 (by decide) rfl (Nat.le_of_ble_eq_true rfl) d_M_put_34) (fun r4 σ5 q6 => ?_)
      obtain ⟨rfl, rfl⟩ := q6
      refine v_bf F 46 d_M_put_37 rfl (fun h37 => ?_) (fun h37 => ?_)
      · skip
        obtain ⟨b, hb, xb, rfl⟩ := pred_nat (N := 60) h15 (hI _ ha) (by decide) h37
        refine v_aload_n F d_M_put_46 rfl 0 rfl ?_
        refine v_getr (r := 69) F fk_M_29 G63 rfl d_M_put_47 ?_
        refine v_bipush (v := 60) F d_M_put_50 kb_60 ?_
        refine v_iload_n F d_M_put_52 rfl 1 rfl ?_
        refine v_imul F d_M_put_53 ?_
        refine v_te (y := nI (60 * a)) (pk_mul _ _) ?_
        refine v_iload_n F d_M_put_54 rfl 2 rfl ?_
        refine v_iadd F d_M_put_55 ?_
        refine v_te (y := nI (60 * a + b)) (nI_add _ _) ?_
        refine v_bal F (60 * a + b) G69 rfl (by omega) d_M_put_56 ?_
        refine v_ni (fun x7 ex7 => ?_)
        refine v_istore (ls' := [(4, .int x7), (0, .ref (u.2.1 63)), (1, .int (nI a)), (2, .int (nI b)), (3, .int v)]) F d_M_put_57 (by decide) rfl ?_
        refine v_aload_n F d_M_put_59 rfl 1 rfl ?_
        refine v_getr (r := 69) F fk_M_29 G63 rfl d_M_put_60 ?_
        refine v_bipush (v := 60) F d_M_put_63 kb_60 ?_
        refine v_iload_n F d_M_put_65 rfl 2 rfl ?_
        refine v_imul F d_M_put_66 ?_
        refine v_te (y := nI (60 * a)) (pk_mul _ _) ?_
        refine v_iload_n F d_M_put_67 rfl 3 rfl ?_
        refine v_iadd F d_M_put_68 ?_
        refine v_te (y := nI (60 * a + b)) (nI_add _ _) ?_
        refine v_iload_n F d_M_put_69 rfl 4 rfl ?_
        refine v_i2b F d_M_put_70 ?_
        refine v_bas F (60 * a + b) G69 rfl (by omega) d_M_put_71 ?_
        refine v_ns (fun σ8 eσ8 => ?_)
        refine v_sipush (v := 1000) F d_M_put_72 ks_1000 ?_
        refine v_iload F d_M_put_75 0 rfl ?_
        refine v_iadd F d_M_put_77 ?_
        refine v_iret F hr rfl d_M_put_78 ?_
        first | (simp_all [mPut, inR]; done) | grind [mPut]
      · skip
        refine v_aload_n F d_M_put_40 rfl 0 rfl ?_
        refine v_iconst (v := 2) F d_M_put_41 ki_2 ?_
        refine v_runi (r_V F (c_M_meets X.2.1 u hA σ 2 (by decide)) mo_M_meets st_M_103 rc_63 (by decide) rfl (Nat.le_of_ble_eq_true rfl) d_M_put_42) (fun r9 σ10 q11 => ?_)
        obtain ⟨rfl, eσ10⟩ := q11
        refine v_iret F hr rfl d_M_put_45 ?_
        first | (simp_all [mPut, inR]; done) | grind [mPut]
    · skip
      refine v_aload_n F d_M_put_18 rfl 0 rfl ?_
      refine v_iconst (v := 1) F d_M_put_19 ki_1 ?_
      refine v_runi (r_V F (c_M_meets X.2.1 u hA σ 1 (by decide)) mo_M_meets st_M_103 rc_63 (by decide) rfl (Nat.le_of_ble_eq_true rfl) d_M_put_20) (fun r12 σ13 q14 => ?_)
      obtain ⟨rfl, eσ13⟩ := q14
      refine v_iret F hr rfl d_M_put_23 ?_
      first | (simp_all [mPut, inR]; done) | grind [mPut]
  · skip
    refine v_iconst (v := (-1)) F d_M_put_7 ki_m1 ?_
    refine v_iret F hr rfl d_M_put_8 ?_
    first | (simp_all [mPut, inR]; done) | grind [mPut]
abbrev b_M_mean : ByteArray := prog_14_method_20_code
abbrev y_M_mean : MethodName := ⟨"TakerBookModel", "mean", "(I)I"⟩
theorem d_M_mean_0 : decode b_M_mean 0 = .ok (.iload_n 1, 1) := by decide +kernel
theorem d_M_mean_1 : decode b_M_mean 1 = .ok (.invokestatic 99, 3) := by decide +kernel
theorem d_M_mean_4 : decode b_M_mean 4 = .ok (.ifCond .ne 5, 3) := by decide +kernel
theorem d_M_mean_7 : decode b_M_mean 7 = .ok (.iconst (-1), 1) := by decide +kernel
theorem d_M_mean_8 : decode b_M_mean 8 = .ok (.ireturn, 1) := by decide +kernel
theorem d_M_mean_9 : decode b_M_mean 9 = .ok (.aload_n 0, 1) := by decide +kernel
theorem d_M_mean_10 : decode b_M_mean 10 = .ok (.getfield 17, 3) := by decide +kernel
theorem d_M_mean_13 : decode b_M_mean 13 = .ok (.iload_n 1, 1) := by decide +kernel
theorem d_M_mean_14 : decode b_M_mean 14 = .ok (.iaload, 1) := by decide +kernel
theorem d_M_mean_15 : decode b_M_mean 15 = .ok (.ifCond .ge 9, 3) := by decide +kernel
theorem d_M_mean_18 : decode b_M_mean 18 = .ok (.aload_n 0, 1) := by decide +kernel
theorem d_M_mean_19 : decode b_M_mean 19 = .ok (.iconst 1, 1) := by decide +kernel
theorem d_M_mean_20 : decode b_M_mean 20 = .ok (.invokevirtual 103, 3) := by decide +kernel
theorem d_M_mean_23 : decode b_M_mean 23 = .ok (.ireturn, 1) := by decide +kernel
theorem d_M_mean_24 : decode b_M_mean 24 = .ok (.aload_n 0, 1) := by decide +kernel
theorem d_M_mean_25 : decode b_M_mean 25 = .ok (.getfield 17, 3) := by decide +kernel
theorem d_M_mean_28 : decode b_M_mean 28 = .ok (.iload_n 1, 1) := by decide +kernel
theorem d_M_mean_29 : decode b_M_mean 29 = .ok (.iaload, 1) := by decide +kernel
theorem d_M_mean_30 : decode b_M_mean 30 = .ok (.ifCond .ne 9, 3) := by decide +kernel
theorem d_M_mean_33 : decode b_M_mean 33 = .ok (.aload_n 0, 1) := by decide +kernel
theorem d_M_mean_34 : decode b_M_mean 34 = .ok (.iconst 4, 1) := by decide +kernel
theorem d_M_mean_35 : decode b_M_mean 35 = .ok (.invokevirtual 103, 3) := by decide +kernel
theorem d_M_mean_38 : decode b_M_mean 38 = .ok (.ireturn, 1) := by decide +kernel
theorem d_M_mean_39 : decode b_M_mean 39 = .ok (.lconst 0, 1) := by decide +kernel
theorem d_M_mean_40 : decode b_M_mean 40 = .ok (.lstore_n 2, 1) := by decide +kernel
theorem d_M_mean_41 : decode b_M_mean 41 = .ok (.iconst 0, 1) := by decide +kernel
theorem d_M_mean_42 : decode b_M_mean 42 = .ok (.istore 4, 2) := by decide +kernel
theorem d_M_mean_44 : decode b_M_mean 44 = .ok (.iload 4, 2) := by decide +kernel
theorem d_M_mean_46 : decode b_M_mean 46 = .ok (.aload_n 0, 1) := by decide +kernel
theorem d_M_mean_47 : decode b_M_mean 47 = .ok (.getfield 17, 3) := by decide +kernel
theorem d_M_mean_50 : decode b_M_mean 50 = .ok (.iload_n 1, 1) := by decide +kernel
theorem d_M_mean_51 : decode b_M_mean 51 = .ok (.iaload, 1) := by decide +kernel
theorem d_M_mean_52 : decode b_M_mean 52 = .ok (.if_icmp .ge 20, 3) := by decide +kernel
theorem d_M_mean_55 : decode b_M_mean 55 = .ok (.lload_n 2, 1) := by decide +kernel
theorem d_M_mean_56 : decode b_M_mean 56 = .ok (.aload_n 0, 1) := by decide +kernel
theorem d_M_mean_57 : decode b_M_mean 57 = .ok (.iload_n 1, 1) := by decide +kernel
theorem d_M_mean_58 : decode b_M_mean 58 = .ok (.iload 4, 2) := by decide +kernel
theorem d_M_mean_60 : decode b_M_mean 60 = .ok (.invokevirtual 107, 3) := by decide +kernel
theorem d_M_mean_63 : decode b_M_mean 63 = .ok (.i2l, 1) := by decide +kernel
theorem d_M_mean_64 : decode b_M_mean 64 = .ok (.ladd, 1) := by decide +kernel
theorem d_M_mean_65 : decode b_M_mean 65 = .ok (.lstore_n 2, 1) := by decide +kernel
theorem d_M_mean_66 : decode b_M_mean 66 = .ok (.iinc 4 1, 3) := by decide +kernel
theorem d_M_mean_69 : decode b_M_mean 69 = .ok (.goto (-25), 3) := by decide +kernel
theorem d_M_mean_72 : decode b_M_mean 72 = .ok (.aload_n 0, 1) := by decide +kernel
theorem d_M_mean_73 : decode b_M_mean 73 = .ok (.lload_n 2, 1) := by decide +kernel
theorem d_M_mean_74 : decode b_M_mean 74 = .ok (.aload_n 0, 1) := by decide +kernel
theorem d_M_mean_75 : decode b_M_mean 75 = .ok (.getfield 17, 3) := by decide +kernel
theorem d_M_mean_78 : decode b_M_mean 78 = .ok (.iload_n 1, 1) := by decide +kernel
theorem d_M_mean_79 : decode b_M_mean 79 = .ok (.iaload, 1) := by decide +kernel
theorem d_M_mean_80 : decode b_M_mean 80 = .ok (.i2l, 1) := by decide +kernel
theorem d_M_mean_81 : decode b_M_mean 81 = .ok (.ldiv, 1) := by decide +kernel
theorem d_M_mean_82 : decode b_M_mean 82 = .ok (.l2i, 1) := by decide +kernel
theorem d_M_mean_83 : decode b_M_mean 83 = .ok (.iconst 1, 1) := by decide +kernel
theorem d_M_mean_84 : decode b_M_mean 84 = .ok (.invokevirtual 111, 3) := by decide +kernel
theorem d_M_mean_87 : decode b_M_mean 87 = .ok (.ireturn, 1) := by decide +kernel
theorem mo_M_mean : mok y_M_mean b_M_mean 5 (some .int) 1 := ⟨List.mem_of_getElem? (i := 1161) (by decide +kernel), ⟨by decide +kernel, by decide +kernel, by decide +kernel⟩, List.mem_of_getElem? (i := 86) (by decide +kernel), by decide⟩
set_option maxHeartbeats 4000000 in
theorem L_M_mean_44 {X : FX} {u : Un} (hA : Ap u) {Q : State → Prop} (F : Fr X u "TakerBookModel" b_M_mean 5) {σ : St} {a N : Nat} (ha : a < 6) (hN : N ≤ 40) (eN : σ.1 65 a = nI N) (k : V X u 2 5 Q 72 [(0, .ref (u.2.1 63)), (1, .int (nI a)), (2, .long (sumL (fun j => σ.1 66 (40 * a + j)) N)), (4, .int (nI N))] [] (σ)) : ∀ (nn i : Nat), i ≤ N → N - i < nn → V X u 2 5 Q 44 [(0, .ref (u.2.1 63)), (1, .int (nI a)), (2, .long (sumL (fun j => σ.1 66 (40 * a + j)) i)), (4, .int (nI i))] [] (σ) := by
  intro nn
  induction nn with
  | zero =>
    intro i h1 h2
    exact absurd h2 (Nat.not_lt_zero _)
  | succ nn ih =>
    intro i hii hnn
    refine v_iload F d_M_mean_44 3 rfl ?_
    refine v_aload_n F d_M_mean_46 rfl 0 rfl ?_
    refine v_getr (r := 65) F fk_M_17 G63 rfl d_M_mean_47 ?_
    refine v_iload_n F d_M_mean_50 rfl 1 rfl ?_
    refine v_ial F a G65 rfl (by omega) d_M_mean_51 ?_
    refine v_te (y := nI N) eN ?_
    refine v_icmp_ge F 72 d_M_mean_52 rfl (fun h52 => ?_) (fun h52 => ?_)
    · skip
      have h52 : N ≤ i := (nI_leI (a := N) (b := i) (by omega) (by omega)).mp h52
      have he : i = N := by omega
      subst he
      exact k
    · skip
      have h52 : ¬ N ≤ i := fun q => h52 ((nI_leI (a := N) (b := i) (by omega) (by omega)).mpr q)
      refine v_lload_n F d_M_mean_55 rfl 2 rfl ?_
      refine v_aload_n F d_M_mean_56 rfl 0 rfl ?_
      refine v_iload_n F d_M_mean_57 rfl 1 rfl ?_
      refine v_iload F d_M_mean_58 3 rfl ?_
      refine v_runi (r_V F (c_M_rowAt X.2.1 u hA σ a i (by omega)) mo_M_rowAt st_M_107 rc_63 (by decide) rfl (Nat.le_of_ble_eq_true rfl) d_M_mean_60) (fun r1 σ2 q3 => ?_)
      obtain ⟨rfl, rfl⟩ := q3
      refine v_i2l F d_M_mean_63 ?_
      refine v_ladd F d_M_mean_64 ?_
      refine v_nl (fun x4 ex4 => ?_)
      refine v_lstore_n (ls' := [(2, .long x4), (0, .ref (u.2.1 63)), (1, .int (nI a)), (4, .int (nI i))]) F d_M_mean_65 rfl (by decide) rfl ?_
      refine v_iinc (v := nI (i + 1)) (ls' := [(4, .int (nI (i + 1))), (2, .long x4), (0, .ref (u.2.1 63)), (1, .int (nI a))]) F d_M_mean_66 (j := 3) rfl (nI_inc _) (by decide) rfl ?_
      refine v_goto F 44 d_M_mean_69 rfl ?_
      refine v_sub [2, 3, 1, 0] (ls' := [(0, .ref (u.2.1 63)), (1, .int (nI a)), (2, .long x4), (4, .int (nI (i + 1)))]) rfl ?_
      have g5 : x4 = (sumL (fun j => σ.1 66 (40 * a + j)) (i + 1)) := (by first | rfl | (simp [sumL, *]; done) | (simp_all [sumL]; done) | grind [sumL])
      refine v_to (ls' := [(0, .ref (u.2.1 63)), (1, .int (nI a)), (2, .long (sumL (fun j => σ.1 66 (40 * a + j)) (i + 1))), (4, .int (nI (i + 1)))]) (by first | rfl | rw [g5] | simp_all) ?_
      exact ih (i + 1) (by omega) (by omega)
set_option maxHeartbeats 4000000 in
theorem c_M_mean (l : Launch) (u : Un) (hA : Ap u) (σ : St) (r : Int32) (hI : mRowsOk σ) : MTi l u y_M_mean b_M_mean 5 .int 2 [.ref (u.2.1 63), .int r] σ (fun ans σ' => (ans, σ') = mMean σ r) := by
  refine MT_of hA rfl (by decide) (Nat.le_of_ble_eq_true rfl) (fun X hl F hr => ?_)
  subst hl
  refine v_to (ls' := [(0, .ref (u.2.1 63)), (1, .int r)]) rfl ?_
  refine v_iload_n F d_M_mean_0 rfl 1 rfl ?_
  refine v_runi (r_S F (c_M_isRow X.2.1 u hA σ r ) mo_M_isRow st_M_99 (by decide) rfl (Nat.le_of_ble_eq_true rfl) d_M_mean_1) (fun r1 σ2 q3 => ?_)
  obtain ⟨rfl, rfl⟩ := q3
  refine v_bf F 9 d_M_mean_4 rfl (fun h4 => ?_) (fun h4 => ?_)
  · skip
    obtain ⟨a, ha, xa, rfl⟩ := inR_nat (N := 6) h4 rfl (by decide)
    refine v_aload_n F d_M_mean_9 rfl 0 rfl ?_
    refine v_getr (r := 65) F fk_M_17 G63 rfl d_M_mean_10 ?_
    refine v_iload_n F d_M_mean_13 rfl 1 rfl ?_
    refine v_ial F a G65 rfl (by omega) d_M_mean_14 ?_
    refine v_if_ge F 24 d_M_mean_15 rfl (fun h15 => ?_) (fun h15 => ?_)
    · skip
      obtain ⟨N, hN, xN, eN⟩ := nat_of (M := 40) h15 (hI _ ha) rfl (by decide)
      refine v_aload_n F d_M_mean_24 rfl 0 rfl ?_
      refine v_getr (r := 65) F fk_M_17 G63 rfl d_M_mean_25 ?_
      refine v_iload_n F d_M_mean_28 rfl 1 rfl ?_
      refine v_ial F a G65 rfl (by omega) d_M_mean_29 ?_
      refine v_te (y := nI N) eN ?_
      refine v_if_ne F 39 d_M_mean_30 rfl (fun h30 => ?_) (fun h30 => ?_)
      · skip
        refine v_lconst (v := 0) F d_M_mean_39 rfl ?_
        refine v_lstore_n (ls' := [(2, .long 0), (0, .ref (u.2.1 63)), (1, .int (nI a))]) F d_M_mean_40 rfl (by decide) rfl ?_
        refine v_iconst (v := 0) F d_M_mean_41 ki_0 ?_
        refine v_istore (ls' := [(4, .int 0), (2, .long 0), (0, .ref (u.2.1 63)), (1, .int (nI a))]) F d_M_mean_42 (by decide) rfl ?_
        refine v_sub [2, 3, 1, 0] (ls' := [(0, .ref (u.2.1 63)), (1, .int (nI a)), (2, .long 0), (4, .int 0)]) rfl ?_
        have g4 : 0 = (sumL (fun j => σ.1 66 (40 * a + j)) 0) := (by first | rfl | (simp [sumL, *]; done) | (simp_all [sumL]; done) | grind [sumL])
        have g5 : 0 = (nI 0) := (by first | rfl | (simp [sumL, *]; done) | (simp_all [sumL]; done) | grind [sumL])
        refine v_to (ls' := [(0, .ref (u.2.1 63)), (1, .int (nI a)), (2, .long (sumL (fun j => σ.1 66 (40 * a + j)) 0)), (4, .int (nI 0))]) (by first | rfl | rw [g4, g5] | simp_all) ?_
        refine L_M_mean_44 hA F ha (by omega) eN ?_ _ 0 (Nat.zero_le _) (Nat.lt_succ_self _)
        refine v_aload_n F d_M_mean_72 rfl 0 rfl ?_
        refine v_lload_n F d_M_mean_73 rfl 2 rfl ?_
        refine v_aload_n F d_M_mean_74 rfl 0 rfl ?_
        refine v_getr (r := 65) F fk_M_17 G63 rfl d_M_mean_75 ?_
        refine v_iload_n F d_M_mean_78 rfl 1 rfl ?_
        refine v_ial F a G65 rfl (by omega) d_M_mean_79 ?_
        refine v_te (y := nI N) eN ?_
        refine v_i2l F d_M_mean_80 ?_
        refine v_ldiv F d_M_mean_81 (l_ne0 h30) ?_
        refine v_l2i F d_M_mean_82 ?_
        refine v_iconst (v := 1) F d_M_mean_83 ki_1 ?_
        refine v_runi (r_V F (c_M_tells X.2.1 u hA σ (((sumL (fun j => σ.1 66 (40 * a + j)) N) / ((nI N).toInt64)).toInt32) 1) mo_M_tells st_M_111 rc_63 (by decide) rfl (Nat.le_of_ble_eq_true rfl) d_M_mean_84) (fun r6 σ7 q8 => ?_)
        obtain ⟨rfl, eσ7⟩ := q8
        refine v_iret F hr rfl d_M_mean_87 ?_
        first | (simp_all [mMean, inR]; done) | grind [mMean]
      · skip
        refine v_aload_n F d_M_mean_33 rfl 0 rfl ?_
        refine v_iconst (v := 4) F d_M_mean_34 ki_4 ?_
        refine v_runi (r_V F (c_M_meets X.2.1 u hA σ 4 (by decide)) mo_M_meets st_M_103 rc_63 (by decide) rfl (Nat.le_of_ble_eq_true rfl) d_M_mean_35) (fun r9 σ10 q11 => ?_)
        obtain ⟨rfl, eσ10⟩ := q11
        refine v_iret F hr rfl d_M_mean_38 ?_
        first | (simp_all [mMean, inR]; done) | grind [mMean]
    · skip
      refine v_aload_n F d_M_mean_18 rfl 0 rfl ?_
      refine v_iconst (v := 1) F d_M_mean_19 ki_1 ?_
      refine v_runi (r_V F (c_M_meets X.2.1 u hA σ 1 (by decide)) mo_M_meets st_M_103 rc_63 (by decide) rfl (Nat.le_of_ble_eq_true rfl) d_M_mean_20) (fun r12 σ13 q14 => ?_)
      obtain ⟨rfl, eσ13⟩ := q14
      refine v_iret F hr rfl d_M_mean_23 ?_
      first | (simp_all [mMean, inR]; done) | grind [mMean]
  · skip
    refine v_iconst (v := (-1)) F d_M_mean_7 ki_m1 ?_
    refine v_iret F hr rfl d_M_mean_8 ?_
    first | (simp_all [mMean, inR]; done) | grind [mMean]
abbrev b_M_row : ByteArray := prog_14_method_15_code
abbrev y_M_row : MethodName := ⟨"TakerBookModel", "row", "(II)I"⟩
theorem d_M_row_0 : decode b_M_row 0 = .ok (.iload_n 1, 1) := by decide +kernel
theorem d_M_row_1 : decode b_M_row 1 = .ok (.invokestatic 99, 3) := by decide +kernel
theorem d_M_row_4 : decode b_M_row 4 = .ok (.ifCond .eq 9, 3) := by decide +kernel
theorem d_M_row_7 : decode b_M_row 7 = .ok (.iload_n 2, 1) := by decide +kernel
theorem d_M_row_8 : decode b_M_row 8 = .ok (.bipush 40, 2) := by decide +kernel
theorem d_M_row_10 : decode b_M_row 10 = .ok (.if_icmp .le 5, 3) := by decide +kernel
theorem d_M_row_13 : decode b_M_row 13 = .ok (.iconst (-1), 1) := by decide +kernel
theorem d_M_row_14 : decode b_M_row 14 = .ok (.ireturn, 1) := by decide +kernel
theorem d_M_row_15 : decode b_M_row 15 = .ok (.iload_n 2, 1) := by decide +kernel
theorem d_M_row_16 : decode b_M_row 16 = .ok (.ifCond .ge 9, 3) := by decide +kernel
theorem d_M_row_19 : decode b_M_row 19 = .ok (.aload_n 0, 1) := by decide +kernel
theorem d_M_row_20 : decode b_M_row 20 = .ok (.iconst 5, 1) := by decide +kernel
theorem d_M_row_21 : decode b_M_row 21 = .ok (.invokevirtual 103, 3) := by decide +kernel
theorem d_M_row_24 : decode b_M_row 24 = .ok (.ireturn, 1) := by decide +kernel
theorem d_M_row_25 : decode b_M_row 25 = .ok (.aload_n 0, 1) := by decide +kernel
theorem d_M_row_26 : decode b_M_row 26 = .ok (.getfield 17, 3) := by decide +kernel
theorem d_M_row_29 : decode b_M_row 29 = .ok (.iload_n 1, 1) := by decide +kernel
theorem d_M_row_30 : decode b_M_row 30 = .ok (.iload_n 2, 1) := by decide +kernel
theorem d_M_row_31 : decode b_M_row 31 = .ok (.iastore, 1) := by decide +kernel
theorem d_M_row_32 : decode b_M_row 32 = .ok (.iconst 0, 1) := by decide +kernel
theorem d_M_row_33 : decode b_M_row 33 = .ok (.istore_n 3, 1) := by decide +kernel
theorem d_M_row_34 : decode b_M_row 34 = .ok (.iload_n 3, 1) := by decide +kernel
theorem d_M_row_35 : decode b_M_row 35 = .ok (.bipush 40, 2) := by decide +kernel
theorem d_M_row_37 : decode b_M_row 37 = .ok (.if_icmp .ge 21, 3) := by decide +kernel
theorem d_M_row_40 : decode b_M_row 40 = .ok (.aload_n 0, 1) := by decide +kernel
theorem d_M_row_41 : decode b_M_row 41 = .ok (.getfield 20, 3) := by decide +kernel
theorem d_M_row_44 : decode b_M_row 44 = .ok (.bipush 40, 2) := by decide +kernel
theorem d_M_row_46 : decode b_M_row 46 = .ok (.iload_n 1, 1) := by decide +kernel
theorem d_M_row_47 : decode b_M_row 47 = .ok (.imul, 1) := by decide +kernel
theorem d_M_row_48 : decode b_M_row 48 = .ok (.iload_n 3, 1) := by decide +kernel
theorem d_M_row_49 : decode b_M_row 49 = .ok (.iadd, 1) := by decide +kernel
theorem d_M_row_50 : decode b_M_row 50 = .ok (.iconst 0, 1) := by decide +kernel
theorem d_M_row_51 : decode b_M_row 51 = .ok (.iastore, 1) := by decide +kernel
theorem d_M_row_52 : decode b_M_row 52 = .ok (.iinc 3 1, 3) := by decide +kernel
theorem d_M_row_55 : decode b_M_row 55 = .ok (.goto (-21), 3) := by decide +kernel
theorem d_M_row_58 : decode b_M_row 58 = .ok (.iload_n 2, 1) := by decide +kernel
theorem d_M_row_59 : decode b_M_row 59 = .ok (.ireturn, 1) := by decide +kernel
theorem mo_M_row : mok y_M_row b_M_row 4 (some .int) 2 := ⟨List.mem_of_getElem? (i := 1126) (by decide +kernel), ⟨by decide +kernel, by decide +kernel, by decide +kernel⟩, List.mem_of_getElem? (i := 86) (by decide +kernel), by decide⟩
set_option maxHeartbeats 4000000 in
theorem L_M_row_34 {X : FX} {u : Un} (hA : Ap u) {Q : State → Prop} (F : Fr X u "TakerBookModel" b_M_row 4) {σ : St} {a N : Nat} (ha : a < 6) (k : V X u 2 4 Q 58 [(0, .ref (u.2.1 63)), (1, .int (nI a)), (2, .int (nI N)), (3, .int (nI 40))] [] ((fl (uI σ 65 a (nI N)) 66 (40 * a) 0 40))) : ∀ (nn i : Nat), i ≤ 40 → 40 - i < nn → V X u 2 4 Q 34 [(0, .ref (u.2.1 63)), (1, .int (nI a)), (2, .int (nI N)), (3, .int (nI i))] [] ((fl (uI σ 65 a (nI N)) 66 (40 * a) 0 i)) := by
  intro nn
  induction nn with
  | zero =>
    intro i h1 h2
    exact absurd h2 (Nat.not_lt_zero _)
  | succ nn ih =>
    intro i hii hnn
    refine v_iload_n F d_M_row_34 rfl 3 rfl ?_
    refine v_bipush (v := 40) F d_M_row_35 kb_40 ?_
    refine v_icmp_ge F 58 d_M_row_37 rfl (fun h37 => ?_) (fun h37 => ?_)
    · skip
      have h37 : 40 ≤ i := (nI_leI (a := 40) (b := i) (by omega) (by omega)).mp h37
      have he : i = 40 := by omega
      subst he
      exact k
    · skip
      have h37 : ¬ 40 ≤ i := fun q => h37 ((nI_leI (a := 40) (b := i) (by omega) (by omega)).mpr q)
      refine v_aload_n F d_M_row_40 rfl 0 rfl ?_
      refine v_getr (r := 66) F fk_M_20 G63 rfl d_M_row_41 ?_
      refine v_bipush (v := 40) F d_M_row_44 kb_40 ?_
      refine v_iload_n F d_M_row_46 rfl 1 rfl ?_
      refine v_imul F d_M_row_47 ?_
      refine v_te (y := nI (40 * a)) (pk_mul _ _) ?_
      refine v_iload_n F d_M_row_48 rfl 3 rfl ?_
      refine v_iadd F d_M_row_49 ?_
      refine v_te (y := nI (40 * a + i)) (nI_add _ _) ?_
      refine v_iconst (v := 0) F d_M_row_50 ki_0 ?_
      refine v_ias F (40 * a + i) G66 rfl (by omega) d_M_row_51 ?_
      refine v_ns (fun σ1 eσ1 => ?_)
      refine v_iinc (v := nI (i + 1)) (ls' := [(3, .int (nI (i + 1))), (0, .ref (u.2.1 63)), (1, .int (nI a)), (2, .int (nI N))]) F d_M_row_52 (j := 3) rfl (nI_inc _) (by decide) rfl ?_
      refine v_goto F 34 d_M_row_55 rfl ?_
      refine v_sub [1, 2, 3, 0] (ls' := [(0, .ref (u.2.1 63)), (1, .int (nI a)), (2, .int (nI N)), (3, .int (nI (i + 1)))]) rfl ?_
      refine v_st (show σ1 = (fl (uI σ 65 a (nI N)) 66 (40 * a) 0 (i + 1)) from (by first | rfl | (simp [fl, vp_nar32, *]; done) | (simp_all [fl, vp_nar32]; done) | grind [fl, vp_nar32])) ?_
      exact ih (i + 1) (by omega) (by omega)
set_option maxHeartbeats 4000000 in
theorem c_M_row (l : Launch) (u : Un) (hA : Ap u) (σ : St) (r n : Int32) : MTi l u y_M_row b_M_row 4 .int 2 [.ref (u.2.1 63), .int r, .int n] σ (fun ans σ' => (ans, σ') = mRow σ r n) := by
  refine MT_of hA rfl (by decide) (Nat.le_of_ble_eq_true rfl) (fun X hl F hr => ?_)
  subst hl
  refine v_to (ls' := [(0, .ref (u.2.1 63)), (1, .int r), (2, .int n)]) rfl ?_
  refine v_iload_n F d_M_row_0 rfl 1 rfl ?_
  refine v_runi (r_S F (c_M_isRow X.2.1 u hA σ r ) mo_M_isRow st_M_99 (by decide) rfl (Nat.le_of_ble_eq_true rfl) d_M_row_1) (fun r1 σ2 q3 => ?_)
  obtain ⟨rfl, rfl⟩ := q3
  refine v_bt F 13 d_M_row_4 rfl (fun h4 => ?_) (fun h4 => ?_)
  · skip
    refine v_iconst (v := (-1)) F d_M_row_13 ki_m1 ?_
    refine v_iret F hr rfl d_M_row_14 ?_
    first | (simp_all [mRow, inR]; done) | grind [mRow]
  · skip
    refine v_iload_n F d_M_row_7 rfl 2 rfl ?_
    refine v_bipush (v := 40) F d_M_row_8 kb_40 ?_
    refine v_icmp_le F 15 d_M_row_10 rfl (fun h10 => ?_) (fun h10 => ?_)
    · skip
      refine v_iload_n F d_M_row_15 rfl 2 rfl ?_
      refine v_if_ge F 25 d_M_row_16 rfl (fun h16 => ?_) (fun h16 => ?_)
      · skip
        obtain ⟨a, ha, xa, rfl⟩ := inR_nat (N := 6) h4 rfl (by decide)
        obtain ⟨N, hN, xN, rfl⟩ := nat_of (M := 40) h16 h10 rfl (by decide)
        refine v_aload_n F d_M_row_25 rfl 0 rfl ?_
        refine v_getr (r := 65) F fk_M_17 G63 rfl d_M_row_26 ?_
        refine v_iload_n F d_M_row_29 rfl 1 rfl ?_
        refine v_iload_n F d_M_row_30 rfl 2 rfl ?_
        refine v_ias F a G65 rfl (by omega) d_M_row_31 ?_
        refine v_ns (fun σ4 eσ4 => ?_)
        refine v_iconst (v := 0) F d_M_row_32 ki_0 ?_
        refine v_istore_n (ls' := [(3, .int 0), (0, .ref (u.2.1 63)), (1, .int (nI a)), (2, .int (nI N))]) F d_M_row_33 rfl (by decide) rfl ?_
        refine v_sub [1, 2, 3, 0] (ls' := [(0, .ref (u.2.1 63)), (1, .int (nI a)), (2, .int (nI N)), (3, .int 0)]) rfl ?_
        have g5 : 0 = (nI 0) := (by first | rfl | (simp [fl, vp_nar32, *]; done) | (simp_all [fl, vp_nar32]; done) | grind [fl, vp_nar32])
        refine v_to (ls' := [(0, .ref (u.2.1 63)), (1, .int (nI a)), (2, .int (nI N)), (3, .int (nI 0))]) (by first | rfl | rw [g5] | simp_all) ?_
        refine v_st (show σ4 = (fl (uI σ 65 a (nI N)) 66 (40 * a) 0 0) from (by first | rfl | (simp [fl, vp_nar32, *]; done) | (simp_all [fl, vp_nar32]; done) | grind [fl, vp_nar32])) ?_
        refine L_M_row_34 hA F ha ?_ _ 0 (Nat.zero_le _) (Nat.lt_succ_self _)
        refine v_iload_n F d_M_row_58 rfl 2 rfl ?_
        refine v_iret F hr rfl d_M_row_59 ?_
        first | (simp_all [mRow, inR]; done) | grind [mRow]
      · skip
        refine v_aload_n F d_M_row_19 rfl 0 rfl ?_
        refine v_iconst (v := 5) F d_M_row_20 ki_5 ?_
        refine v_runi (r_V F (c_M_meets X.2.1 u hA σ 5 (by decide)) mo_M_meets st_M_103 rc_63 (by decide) rfl (Nat.le_of_ble_eq_true rfl) d_M_row_21) (fun r6 σ7 q8 => ?_)
        obtain ⟨rfl, eσ7⟩ := q8
        refine v_iret F hr rfl d_M_row_24 ?_
        first | (simp_all [mRow, inR]; done) | grind [mRow]
    · skip
      refine v_iconst (v := (-1)) F d_M_row_13 ki_m1 ?_
      refine v_iret F hr rfl d_M_row_14 ?_
      first | (simp_all [mRow, inR]; done) | grind [mRow]
abbrev b_M_text : ByteArray := prog_14_method_22_code
abbrev y_M_text : MethodName := ⟨"TakerBookModel", "text", "(II)I"⟩
theorem d_M_text_0 : decode b_M_text 0 = .ok (.iload_n 1, 1) := by decide +kernel
theorem d_M_text_1 : decode b_M_text 1 = .ok (.invokestatic 114, 3) := by decide +kernel
theorem d_M_text_4 : decode b_M_text 4 = .ok (.ifCond .eq 9, 3) := by decide +kernel
theorem d_M_text_7 : decode b_M_text 7 = .ok (.iload_n 2, 1) := by decide +kernel
theorem d_M_text_8 : decode b_M_text 8 = .ok (.bipush 60, 2) := by decide +kernel
theorem d_M_text_10 : decode b_M_text 10 = .ok (.if_icmp .le 5, 3) := by decide +kernel
theorem d_M_text_13 : decode b_M_text 13 = .ok (.iconst (-1), 1) := by decide +kernel
theorem d_M_text_14 : decode b_M_text 14 = .ok (.ireturn, 1) := by decide +kernel
theorem d_M_text_15 : decode b_M_text 15 = .ok (.iload_n 2, 1) := by decide +kernel
theorem d_M_text_16 : decode b_M_text 16 = .ok (.ifCond .ge 9, 3) := by decide +kernel
theorem d_M_text_19 : decode b_M_text 19 = .ok (.aload_n 0, 1) := by decide +kernel
theorem d_M_text_20 : decode b_M_text 20 = .ok (.iconst 5, 1) := by decide +kernel
theorem d_M_text_21 : decode b_M_text 21 = .ok (.invokevirtual 103, 3) := by decide +kernel
theorem d_M_text_24 : decode b_M_text 24 = .ok (.ireturn, 1) := by decide +kernel
theorem d_M_text_25 : decode b_M_text 25 = .ok (.aload_n 0, 1) := by decide +kernel
theorem d_M_text_26 : decode b_M_text 26 = .ok (.getfield 26, 3) := by decide +kernel
theorem d_M_text_29 : decode b_M_text 29 = .ok (.iload_n 1, 1) := by decide +kernel
theorem d_M_text_30 : decode b_M_text 30 = .ok (.iload_n 2, 1) := by decide +kernel
theorem d_M_text_31 : decode b_M_text 31 = .ok (.iastore, 1) := by decide +kernel
theorem d_M_text_32 : decode b_M_text 32 = .ok (.iconst 0, 1) := by decide +kernel
theorem d_M_text_33 : decode b_M_text 33 = .ok (.istore_n 3, 1) := by decide +kernel
theorem d_M_text_34 : decode b_M_text 34 = .ok (.iload_n 3, 1) := by decide +kernel
theorem d_M_text_35 : decode b_M_text 35 = .ok (.bipush 60, 2) := by decide +kernel
theorem d_M_text_37 : decode b_M_text 37 = .ok (.if_icmp .ge 22, 3) := by decide +kernel
theorem d_M_text_40 : decode b_M_text 40 = .ok (.aload_n 0, 1) := by decide +kernel
theorem d_M_text_41 : decode b_M_text 41 = .ok (.getfield 29, 3) := by decide +kernel
theorem d_M_text_44 : decode b_M_text 44 = .ok (.bipush 60, 2) := by decide +kernel
theorem d_M_text_46 : decode b_M_text 46 = .ok (.iload_n 1, 1) := by decide +kernel
theorem d_M_text_47 : decode b_M_text 47 = .ok (.imul, 1) := by decide +kernel
theorem d_M_text_48 : decode b_M_text 48 = .ok (.iload_n 3, 1) := by decide +kernel
theorem d_M_text_49 : decode b_M_text 49 = .ok (.iadd, 1) := by decide +kernel
theorem d_M_text_50 : decode b_M_text 50 = .ok (.bipush 32, 2) := by decide +kernel
theorem d_M_text_52 : decode b_M_text 52 = .ok (.bastore, 1) := by decide +kernel
theorem d_M_text_53 : decode b_M_text 53 = .ok (.iinc 3 1, 3) := by decide +kernel
theorem d_M_text_56 : decode b_M_text 56 = .ok (.goto (-22), 3) := by decide +kernel
theorem d_M_text_59 : decode b_M_text 59 = .ok (.iload_n 2, 1) := by decide +kernel
theorem d_M_text_60 : decode b_M_text 60 = .ok (.ireturn, 1) := by decide +kernel
theorem mo_M_text : mok y_M_text b_M_text 4 (some .int) 2 := ⟨List.mem_of_getElem? (i := 1165) (by decide +kernel), ⟨by decide +kernel, by decide +kernel, by decide +kernel⟩, List.mem_of_getElem? (i := 86) (by decide +kernel), by decide⟩
set_option maxHeartbeats 4000000 in
theorem L_M_text_34 {X : FX} {u : Un} (hA : Ap u) {Q : State → Prop} (F : Fr X u "TakerBookModel" b_M_text 4) {σ : St} {a N : Nat} (ha : a < 4) (k : V X u 2 4 Q 59 [(0, .ref (u.2.1 63)), (1, .int (nI a)), (2, .int (nI N)), (3, .int (nI 60))] [] ((fl (uI σ 68 a (nI N)) 69 (60 * a) 32 60))) : ∀ (nn i : Nat), i ≤ 60 → 60 - i < nn → V X u 2 4 Q 34 [(0, .ref (u.2.1 63)), (1, .int (nI a)), (2, .int (nI N)), (3, .int (nI i))] [] ((fl (uI σ 68 a (nI N)) 69 (60 * a) 32 i)) := by
  intro nn
  induction nn with
  | zero =>
    intro i h1 h2
    exact absurd h2 (Nat.not_lt_zero _)
  | succ nn ih =>
    intro i hii hnn
    refine v_iload_n F d_M_text_34 rfl 3 rfl ?_
    refine v_bipush (v := 60) F d_M_text_35 kb_60 ?_
    refine v_icmp_ge F 59 d_M_text_37 rfl (fun h37 => ?_) (fun h37 => ?_)
    · skip
      have h37 : 60 ≤ i := (nI_leI (a := 60) (b := i) (by omega) (by omega)).mp h37
      have he : i = 60 := by omega
      subst he
      exact k
    · skip
      have h37 : ¬ 60 ≤ i := fun q => h37 ((nI_leI (a := 60) (b := i) (by omega) (by omega)).mpr q)
      refine v_aload_n F d_M_text_40 rfl 0 rfl ?_
      refine v_getr (r := 69) F fk_M_29 G63 rfl d_M_text_41 ?_
      refine v_bipush (v := 60) F d_M_text_44 kb_60 ?_
      refine v_iload_n F d_M_text_46 rfl 1 rfl ?_
      refine v_imul F d_M_text_47 ?_
      refine v_te (y := nI (60 * a)) (pk_mul _ _) ?_
      refine v_iload_n F d_M_text_48 rfl 3 rfl ?_
      refine v_iadd F d_M_text_49 ?_
      refine v_te (y := nI (60 * a + i)) (nI_add _ _) ?_
      refine v_bipush (v := 32) F d_M_text_50 kb_32 ?_
      refine v_bas F (60 * a + i) G69 rfl (by omega) d_M_text_52 ?_
      refine v_ns (fun σ1 eσ1 => ?_)
      refine v_iinc (v := nI (i + 1)) (ls' := [(3, .int (nI (i + 1))), (0, .ref (u.2.1 63)), (1, .int (nI a)), (2, .int (nI N))]) F d_M_text_53 (j := 3) rfl (nI_inc _) (by decide) rfl ?_
      refine v_goto F 34 d_M_text_56 rfl ?_
      refine v_sub [1, 2, 3, 0] (ls' := [(0, .ref (u.2.1 63)), (1, .int (nI a)), (2, .int (nI N)), (3, .int (nI (i + 1)))]) rfl ?_
      refine v_st (show σ1 = (fl (uI σ 68 a (nI N)) 69 (60 * a) 32 (i + 1)) from (by first | rfl | (simp [fl, vp_nar32, *]; done) | (simp_all [fl, vp_nar32]; done) | grind [fl, vp_nar32])) ?_
      exact ih (i + 1) (by omega) (by omega)
set_option maxHeartbeats 4000000 in
theorem c_M_text (l : Launch) (u : Un) (hA : Ap u) (σ : St) (r n : Int32) : MTi l u y_M_text b_M_text 4 .int 2 [.ref (u.2.1 63), .int r, .int n] σ (fun ans σ' => (ans, σ') = mText σ r n) := by
  refine MT_of hA rfl (by decide) (Nat.le_of_ble_eq_true rfl) (fun X hl F hr => ?_)
  subst hl
  refine v_to (ls' := [(0, .ref (u.2.1 63)), (1, .int r), (2, .int n)]) rfl ?_
  refine v_iload_n F d_M_text_0 rfl 1 rfl ?_
  refine v_runi (r_S F (c_M_isText X.2.1 u hA σ r ) mo_M_isText st_M_114 (by decide) rfl (Nat.le_of_ble_eq_true rfl) d_M_text_1) (fun r1 σ2 q3 => ?_)
  obtain ⟨rfl, rfl⟩ := q3
  refine v_bt F 13 d_M_text_4 rfl (fun h4 => ?_) (fun h4 => ?_)
  · skip
    refine v_iconst (v := (-1)) F d_M_text_13 ki_m1 ?_
    refine v_iret F hr rfl d_M_text_14 ?_
    first | (simp_all [mText, inR]; done) | grind [mText]
  · skip
    refine v_iload_n F d_M_text_7 rfl 2 rfl ?_
    refine v_bipush (v := 60) F d_M_text_8 kb_60 ?_
    refine v_icmp_le F 15 d_M_text_10 rfl (fun h10 => ?_) (fun h10 => ?_)
    · skip
      refine v_iload_n F d_M_text_15 rfl 2 rfl ?_
      refine v_if_ge F 25 d_M_text_16 rfl (fun h16 => ?_) (fun h16 => ?_)
      · skip
        obtain ⟨a, ha, xa, rfl⟩ := inR_nat (N := 4) h4 rfl (by decide)
        obtain ⟨N, hN, xN, rfl⟩ := nat_of (M := 60) h16 h10 rfl (by decide)
        refine v_aload_n F d_M_text_25 rfl 0 rfl ?_
        refine v_getr (r := 68) F fk_M_26 G63 rfl d_M_text_26 ?_
        refine v_iload_n F d_M_text_29 rfl 1 rfl ?_
        refine v_iload_n F d_M_text_30 rfl 2 rfl ?_
        refine v_ias F a G68 rfl (by omega) d_M_text_31 ?_
        refine v_ns (fun σ4 eσ4 => ?_)
        refine v_iconst (v := 0) F d_M_text_32 ki_0 ?_
        refine v_istore_n (ls' := [(3, .int 0), (0, .ref (u.2.1 63)), (1, .int (nI a)), (2, .int (nI N))]) F d_M_text_33 rfl (by decide) rfl ?_
        refine v_sub [1, 2, 3, 0] (ls' := [(0, .ref (u.2.1 63)), (1, .int (nI a)), (2, .int (nI N)), (3, .int 0)]) rfl ?_
        have g5 : 0 = (nI 0) := (by first | rfl | (simp [fl, vp_nar32, *]; done) | (simp_all [fl, vp_nar32]; done) | grind [fl, vp_nar32])
        refine v_to (ls' := [(0, .ref (u.2.1 63)), (1, .int (nI a)), (2, .int (nI N)), (3, .int (nI 0))]) (by first | rfl | rw [g5] | simp_all) ?_
        refine v_st (show σ4 = (fl (uI σ 68 a (nI N)) 69 (60 * a) 32 0) from (by first | rfl | (simp [fl, vp_nar32, *]; done) | (simp_all [fl, vp_nar32]; done) | grind [fl, vp_nar32])) ?_
        refine L_M_text_34 hA F ha ?_ _ 0 (Nat.zero_le _) (Nat.lt_succ_self _)
        refine v_iload_n F d_M_text_59 rfl 2 rfl ?_
        refine v_iret F hr rfl d_M_text_60 ?_
        first | (simp_all [mText, inR]; done) | grind [mText]
      · skip
        refine v_aload_n F d_M_text_19 rfl 0 rfl ?_
        refine v_iconst (v := 5) F d_M_text_20 ki_5 ?_
        refine v_runi (r_V F (c_M_meets X.2.1 u hA σ 5 (by decide)) mo_M_meets st_M_103 rc_63 (by decide) rfl (Nat.le_of_ble_eq_true rfl) d_M_text_21) (fun r6 σ7 q8 => ?_)
        obtain ⟨rfl, eσ7⟩ := q8
        refine v_iret F hr rfl d_M_text_24 ?_
        first | (simp_all [mText, inR]; done) | grind [mText]
    · skip
      refine v_iconst (v := (-1)) F d_M_text_13 ki_m1 ?_
      refine v_iret F hr rfl d_M_text_14 ?_
      first | (simp_all [mText, inR]; done) | grind [mText]
