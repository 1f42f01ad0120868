theorem fk_M_36 : fok "TakerBookModel" 36 12 12 := ⟨(R_M, F_M, 40), rfl, by decide, List.mem_of_getElem? (i := 991) (by decide +kernel), rfl⟩
theorem G71 : Gam[71]? = some (.inl (.int, 6)) := rfl
theorem fk_M_146 : fok "TakerBookModel" 146 12 10 := ⟨(R_M, F_M, 40), rfl, by decide, List.mem_of_getElem? (i := 989) (by decide +kernel), rfl⟩
theorem st_M_152 : siteV "TakerBookModel" 152 ⟨"TakerBookModel", "isGang", "(I)Z"⟩ := ⟨List.mem_of_getElem? (i := 1224) (by decide +kernel), List.mem_of_getElem? (i := 1226) (by decide +kernel), List.mem_of_getElem? (i := 40) (by decide +kernel)⟩
theorem st_M_155 : siteS "TakerBookModel" 155 ⟨"TakerBookModel", "has", "(II)Z"⟩ := ⟨List.mem_of_getElem? (i := 1228) (by decide +kernel), List.mem_of_getElem? (i := 1229) (by decide +kernel)⟩
theorem fk_M_39 : fok "TakerBookModel" 39 12 13 := ⟨(R_M, F_M, 40), rfl, by decide, List.mem_of_getElem? (i := 992) (by decide +kernel), rfl⟩
theorem G72 : Gam[72]? = some (.inl (.int, 6)) := rfl
theorem st_M_159 : siteV "TakerBookModel" 159 ⟨"TakerBookModel", "others", "([II)I"⟩ := ⟨List.mem_of_getElem? (i := 1220) (by decide +kernel), List.mem_of_getElem? (i := 1222) (by decide +kernel), List.mem_of_getElem? (i := 39) (by decide +kernel)⟩
theorem fk_M_42 : fok "TakerBookModel" 42 12 14 := ⟨(R_M, F_M, 40), rfl, by decide, List.mem_of_getElem? (i := 993) (by decide +kernel), rfl⟩
theorem G73 : Gam[73]? = some (.inl (.int, 6)) := rfl
theorem fk_M_33 : fok "TakerBookModel" 33 12 11 := ⟨(R_M, F_M, 40), rfl, by decide, List.mem_of_getElem? (i := 990) (by decide +kernel), rfl⟩
theorem G70 : Gam[70]? = some (.inl (.int, 4)) := rfl
theorem st_M_163 : siteS "TakerBookModel" 163 ⟨"TakerBookModel", "isSpeakingBy", "(IIIII)Z"⟩ := ⟨List.mem_of_getElem? (i := 1235) (by decide +kernel), List.mem_of_getElem? (i := 1236) (by decide +kernel)⟩
theorem st_M_167 : siteV "TakerBookModel" 167 ⟨"TakerBookModel", "isSpeaking", "([II)Z"⟩ := ⟨List.mem_of_getElem? (i := 1231) (by decide +kernel), List.mem_of_getElem? (i := 1233) (by decide +kernel), List.mem_of_getElem? (i := 41) (by decide +kernel)⟩
theorem st_M_171 : siteV "TakerBookModel" 171 ⟨"TakerBookModel", "speakers", "([I)I"⟩ := ⟨List.mem_of_getElem? (i := 1246) (by decide +kernel), List.mem_of_getElem? (i := 1248) (by decide +kernel), List.mem_of_getElem? (i := 43) (by decide +kernel)⟩
theorem st_M_175 : siteS "TakerBookModel" 175 ⟨"TakerBookModel", "bits", "(I)I"⟩ := ⟨List.mem_of_getElem? (i := 1250) (by decide +kernel), List.mem_of_getElem? (i := 1251) (by decide +kernel)⟩
theorem st_M_178 : siteV "TakerBookModel" 178 ⟨"TakerBookModel", "steals", "([II)I"⟩ := ⟨List.mem_of_getElem? (i := 1216) (by decide +kernel), List.mem_of_getElem? (i := 1218) (by decide +kernel), List.mem_of_getElem? (i := 38) (by decide +kernel)⟩
theorem st_M_181 : siteV "TakerBookModel" 181 ⟨"TakerBookModel", "isTrial", "([I)Z"⟩ := ⟨List.mem_of_getElem? (i := 1269) (by decide +kernel), List.mem_of_getElem? (i := 1271) (by decide +kernel), List.mem_of_getElem? (i := 47) (by decide +kernel)⟩
theorem st_M_185 : siteV "TakerBookModel" 185 ⟨"TakerBookModel", "loot", "([I)I"⟩ := ⟨List.mem_of_getElem? (i := 1273) (by decide +kernel), List.mem_of_getElem? (i := 1275) (by decide +kernel), List.mem_of_getElem? (i := 48) (by decide +kernel)⟩
theorem st_M_188 : siteV "TakerBookModel" 188 ⟨"TakerBookModel", "headOf", "([II)I"⟩ := ⟨List.mem_of_getElem? (i := 1238) (by decide +kernel), List.mem_of_getElem? (i := 1240) (by decide +kernel), List.mem_of_getElem? (i := 42) (by decide +kernel)⟩
theorem kb_11 : (Int8.ofInt 11).toInt32 = (11 : Int32) := by decide
theorem fk_M_54 : fok "TakerBookModel" 54 12 21 := ⟨(R_M, F_M, 40), rfl, by decide, List.mem_of_getElem? (i := 1000) (by decide +kernel), rfl⟩
theorem fk_M_51 : fok "TakerBookModel" 51 12 20 := ⟨(R_M, F_M, 40), rfl, by decide, List.mem_of_getElem? (i := 999) (by decide +kernel), rfl⟩
theorem G76 : Gam[76]? = some (.inl (.int, 11)) := rfl
theorem G77 : Gam[77]? = some (.inl (.int, 11)) := rfl
abbrev b_M_isGang : ByteArray := prog_14_method_33_code
abbrev y_M_isGang : MethodName := ⟨"TakerBookModel", "isGang", "(I)Z"⟩
theorem d_M_isGang_0 : decode b_M_isGang 0 = .ok (.aload_n 0, 1) := by decide +kernel
theorem d_M_isGang_1 : decode b_M_isGang 1 = .ok (.getfield 36, 3) := by decide +kernel
theorem d_M_isGang_4 : decode b_M_isGang 4 = .ok (.iload_n 1, 1) := by decide +kernel
theorem d_M_isGang_5 : decode b_M_isGang 5 = .ok (.iaload, 1) := by decide +kernel
theorem d_M_isGang_6 : decode b_M_isGang 6 = .ok (.iconst 3, 1) := by decide +kernel
theorem d_M_isGang_7 : decode b_M_isGang 7 = .ok (.if_icmp .eq 13, 3) := by decide +kernel
theorem d_M_isGang_10 : decode b_M_isGang 10 = .ok (.aload_n 0, 1) := by decide +kernel
theorem d_M_isGang_11 : decode b_M_isGang 11 = .ok (.getfield 36, 3) := by decide +kernel
theorem d_M_isGang_14 : decode b_M_isGang 14 = .ok (.iload_n 1, 1) := by decide +kernel
theorem d_M_isGang_15 : decode b_M_isGang 15 = .ok (.iaload, 1) := by decide +kernel
theorem d_M_isGang_16 : decode b_M_isGang 16 = .ok (.iconst 5, 1) := by decide +kernel
theorem d_M_isGang_17 : decode b_M_isGang 17 = .ok (.if_icmp .ne 7, 3) := by decide +kernel
theorem d_M_isGang_20 : decode b_M_isGang 20 = .ok (.iconst 1, 1) := by decide +kernel
theorem d_M_isGang_21 : decode b_M_isGang 21 = .ok (.goto 4, 3) := by decide +kernel
theorem d_M_isGang_24 : decode b_M_isGang 24 = .ok (.iconst 0, 1) := by decide +kernel
theorem d_M_isGang_25 : decode b_M_isGang 25 = .ok (.ireturn, 1) := by decide +kernel
theorem mo_M_isGang : mok y_M_isGang b_M_isGang 2 (some .boolean) 1 := ⟨List.mem_of_getElem? (i := 1227) (by decide +kernel), ⟨by decide +kernel, by decide +kernel, by decide +kernel⟩, List.mem_of_getElem? (i := 86) (by decide +kernel), by decide⟩
set_option maxHeartbeats 4000000 in
theorem c_M_isGang (l : Launch) (u : Un) (hA : Ap u) (σ : St) {n : Nat} {kd : Nat → Nat} (hb : mkOk σ n kd) (i : Nat) (hi : i < n) : MTi l u y_M_isGang b_M_isGang 2 .boolean 0 [.ref (u.2.1 63), .int (nI i)] σ (fun ans σ' => bI (isG (kd i) = true) = ans ∧ σ = σ') := by
  refine MT_of hA rfl (by decide) (Nat.le_of_ble_eq_true rfl) (fun X hl F hr => ?_)
  subst hl
  refine v_to (ls' := [(0, .ref (u.2.1 63)), (1, .int (nI i))]) rfl ?_
  obtain ⟨hn, hn6, hkd, hk6⟩ := id hb
  have hki := hk6 i hi
  refine v_aload_n F d_M_isGang_0 rfl 0 rfl ?_
  refine v_getr (r := 71) F fk_M_36 G63 rfl d_M_isGang_1 ?_
  refine v_iload_n F d_M_isGang_4 rfl 1 rfl ?_
  refine v_ial F i G71 rfl (by omega) d_M_isGang_5 ?_
  refine v_te (y := nI (kd i)) (hkd _ (by omega)) ?_
  refine v_iconst (v := 3) F d_M_isGang_6 ki_3 ?_
  refine v_icmp_eq F 20 d_M_isGang_7 rfl (fun h7 => ?_) (fun h7 => ?_)
  · skip
    have h7 : kd i = 3 := (nI_eq (a := kd i) (b := 3) (by omega) (by omega)).mp h7
    refine v_iconst (v := 1) F d_M_isGang_20 ki_1 ?_
    refine v_goto F 25 d_M_isGang_21 rfl ?_
    refine v_iret F hr rfl d_M_isGang_25 ?_
    exact ⟨bI_t (by simp_all [isG]), rfl⟩
  · skip
    have h7 : ¬ kd i = 3 := fun q => h7 ((nI_eq (a := kd i) (b := 3) (by omega) (by omega)).mpr q)
    refine v_aload_n F d_M_isGang_10 rfl 0 rfl ?_
    refine v_getr (r := 71) F fk_M_36 G63 rfl d_M_isGang_11 ?_
    refine v_iload_n F d_M_isGang_14 rfl 1 rfl ?_
    refine v_ial F i G71 rfl (by omega) d_M_isGang_15 ?_
    refine v_te (y := nI (kd i)) (hkd _ (by omega)) ?_
    refine v_iconst (v := 5) F d_M_isGang_16 ki_5 ?_
    refine v_icmp_ne F 24 d_M_isGang_17 rfl (fun h17 => ?_) (fun h17 => ?_)
    · skip
      have h17 : ¬ kd i = 5 := fun q => h17 ((nI_eq (a := kd i) (b := 5) (by omega) (by omega)).mpr q)
      refine v_iconst (v := 0) F d_M_isGang_24 ki_0 ?_
      refine v_iret F hr rfl d_M_isGang_25 ?_
      exact ⟨bI_f (by simp_all [isG]), rfl⟩
    · skip
      have h17 : kd i = 5 := (nI_eq (a := kd i) (b := 5) (by omega) (by omega)).mp h17
      refine v_iconst (v := 1) F d_M_isGang_20 ki_1 ?_
      refine v_goto F 25 d_M_isGang_21 rfl ?_
      refine v_iret F hr rfl d_M_isGang_25 ?_
      exact ⟨bI_t (by simp_all [isG]), rfl⟩
abbrev b_M_others : ByteArray := prog_14_method_34_code
abbrev y_M_others : MethodName := ⟨"TakerBookModel", "others", "([II)I"⟩
theorem d_M_others_0 : decode b_M_others 0 = .ok (.iconst 0, 1) := by decide +kernel
theorem d_M_others_1 : decode b_M_others 1 = .ok (.istore_n 3, 1) := by decide +kernel
theorem d_M_others_2 : decode b_M_others 2 = .ok (.iconst 0, 1) := by decide +kernel
theorem d_M_others_3 : decode b_M_others 3 = .ok (.istore 4, 2) := by decide +kernel
theorem d_M_others_5 : decode b_M_others 5 = .ok (.iload 4, 2) := by decide +kernel
theorem d_M_others_7 : decode b_M_others 7 = .ok (.aload_n 0, 1) := by decide +kernel
theorem d_M_others_8 : decode b_M_others 8 = .ok (.getfield 146, 3) := by decide +kernel
theorem d_M_others_11 : decode b_M_others 11 = .ok (.if_icmp .ge 43, 3) := by decide +kernel
theorem d_M_others_14 : decode b_M_others 14 = .ok (.iload_n 3, 1) := by decide +kernel
theorem d_M_others_15 : decode b_M_others 15 = .ok (.iload 4, 2) := by decide +kernel
theorem d_M_others_17 : decode b_M_others 17 = .ok (.iload_n 2, 1) := by decide +kernel
theorem d_M_others_18 : decode b_M_others 18 = .ok (.if_icmp .eq 27, 3) := by decide +kernel
theorem d_M_others_21 : decode b_M_others 21 = .ok (.aload_n 0, 1) := by decide +kernel
theorem d_M_others_22 : decode b_M_others 22 = .ok (.iload 4, 2) := by decide +kernel
theorem d_M_others_24 : decode b_M_others 24 = .ok (.invokevirtual 152, 3) := by decide +kernel
theorem d_M_others_27 : decode b_M_others 27 = .ok (.ifCond .eq 18, 3) := by decide +kernel
theorem d_M_others_30 : decode b_M_others 30 = .ok (.aload_n 1, 1) := by decide +kernel
theorem d_M_others_31 : decode b_M_others 31 = .ok (.iconst 0, 1) := by decide +kernel
theorem d_M_others_32 : decode b_M_others 32 = .ok (.iaload, 1) := by decide +kernel
theorem d_M_others_33 : decode b_M_others 33 = .ok (.iload 4, 2) := by decide +kernel
theorem d_M_others_35 : decode b_M_others 35 = .ok (.invokestatic 155, 3) := by decide +kernel
theorem d_M_others_38 : decode b_M_others 38 = .ok (.ifCond .eq 7, 3) := by decide +kernel
theorem d_M_others_41 : decode b_M_others 41 = .ok (.iconst 1, 1) := by decide +kernel
theorem d_M_others_42 : decode b_M_others 42 = .ok (.goto 4, 3) := by decide +kernel
theorem d_M_others_45 : decode b_M_others 45 = .ok (.iconst 0, 1) := by decide +kernel
theorem d_M_others_46 : decode b_M_others 46 = .ok (.iadd, 1) := by decide +kernel
theorem d_M_others_47 : decode b_M_others 47 = .ok (.istore_n 3, 1) := by decide +kernel
theorem d_M_others_48 : decode b_M_others 48 = .ok (.iinc 4 1, 3) := by decide +kernel
theorem d_M_others_51 : decode b_M_others 51 = .ok (.goto (-46), 3) := by decide +kernel
theorem d_M_others_54 : decode b_M_others 54 = .ok (.iload_n 3, 1) := by decide +kernel
theorem d_M_others_55 : decode b_M_others 55 = .ok (.ireturn, 1) := by decide +kernel
theorem mo_M_others : mok y_M_others b_M_others 5 (some .int) 2 := ⟨List.mem_of_getElem? (i := 1223) (by decide +kernel), ⟨by decide +kernel, by decide +kernel, by decide +kernel⟩, List.mem_of_getElem? (i := 86) (by decide +kernel), by decide⟩
set_option maxHeartbeats 4000000 in
theorem L_M_others_5 {X : FX} {u : Un} (hA : Ap u) {Q : State → Prop} (F : Fr X u "TakerBookModel" b_M_others 5) {σ : St} {n : Nat} {kd : Nat → Nat} (hb : mkOk σ n kd) {kO a : Nat} (hO : ofOk kO) (ha : a < 64) (h0 : σ.1 kO 0 = nI a) {i : Nat} (hi : i < 6) (k : V X u 1 5 Q 54 [(0, .ref (u.2.1 63)), (1, .ref (u.2.1 kO)), (2, .int (nI i)), (3, .int (nI (cntN (othF kd a i) n))), (4, .int (nI n))] [] (σ)) : ∀ (nn k : Nat), k ≤ n → n - k < nn → V X u 1 5 Q 5 [(0, .ref (u.2.1 63)), (1, .ref (u.2.1 kO)), (2, .int (nI i)), (3, .int (nI (cntN (othF kd a i) k))), (4, .int (nI k))] [] (σ) := by
  intro nn
  induction nn with
  | zero =>
    intro k h1 h2
    exact absurd h2 (Nat.not_lt_zero _)
  | succ nn ih =>
    intro k hii hnn
    obtain ⟨hn, hn6, hkd, hk6⟩ := id hb
    refine v_iload F d_M_others_5 4 rfl ?_
    refine v_aload_n F d_M_others_7 rfl 0 rfl ?_
    refine v_geti F fk_M_146 G63 rfl d_M_others_8 ?_
    refine v_te (y := nI n) hn ?_
    refine v_icmp_ge F 54 d_M_others_11 rfl (fun h11 => ?_) (fun h11 => ?_)
    · skip
      have h11 : n ≤ k := (nI_leI (a := n) (b := k) (by omega) (by omega)).mp h11
      have he : k = n := by omega
      subst he
      exact k
    · skip
      have h11 : ¬ n ≤ k := fun q => h11 ((nI_leI (a := n) (b := k) (by omega) (by omega)).mpr q)
      refine v_iload_n F d_M_others_14 rfl 3 rfl ?_
      refine v_iload F d_M_others_15 4 rfl ?_
      refine v_iload_n F d_M_others_17 rfl 2 rfl ?_
      refine v_icmp_eq F 45 d_M_others_18 rfl (fun h18 => ?_) (fun h18 => ?_)
      · skip
        have h18 : k = i := (nI_eq (a := k) (b := i) (by omega) (by omega)).mp h18
        refine v_iconst (v := 0) F d_M_others_45 ki_0 ?_
        refine v_iadd F d_M_others_46 ?_
        refine v_te (y := nI (cntN (othF kd a i) k + 0)) (nI_add _ _) ?_
        refine v_istore_n (ls' := [(3, .int (nI (cntN (othF kd a i) k + 0))), (0, .ref (u.2.1 63)), (1, .ref (u.2.1 kO)), (2, .int (nI i)), (4, .int (nI k))]) F d_M_others_47 rfl (by decide) rfl ?_
        refine v_iinc (v := nI (k + 1)) (ls' := [(4, .int (nI (k + 1))), (3, .int (nI (cntN (othF kd a i) k + 0))), (0, .ref (u.2.1 63)), (1, .ref (u.2.1 kO)), (2, .int (nI i))]) F d_M_others_48 (j := 4) rfl (nI_inc _) (by decide) rfl ?_
        refine v_goto F 5 d_M_others_51 rfl ?_
        refine v_sub [2, 3, 4, 1, 0] (ls' := [(0, .ref (u.2.1 63)), (1, .ref (u.2.1 kO)), (2, .int (nI i)), (3, .int (nI (cntN (othF kd a i) k + 0))), (4, .int (nI (k + 1)))]) rfl ?_
        have g1 : (nI (cntN (othF kd a i) k + 0)) = (nI (cntN (othF kd a i) (k + 1))) := (by first | rfl | (simp [cntN, othF, *]; done) | (simp_all [cntN, othF]; done) | grind [cntN, othF])
        refine v_to (ls' := [(0, .ref (u.2.1 63)), (1, .ref (u.2.1 kO)), (2, .int (nI i)), (3, .int (nI (cntN (othF kd a i) (k + 1)))), (4, .int (nI (k + 1)))]) (by first | rfl | rw [g1] | simp_all) ?_
        exact ih (k + 1) (by omega) (by omega)
      · skip
        have h18 : ¬ k = i := fun q => h18 ((nI_eq (a := k) (b := i) (by omega) (by omega)).mpr q)
        refine v_aload_n F d_M_others_21 rfl 0 rfl ?_
        refine v_iload F d_M_others_22 4 rfl ?_
        refine v_runi (r_V F (c_M_isGang X.2.1 u hA σ hb k (by omega)) mo_M_isGang st_M_152 rc_63 (by decide) rfl (Nat.le_of_ble_eq_true rfl) d_M_others_24) (fun r2 σ3 q4 => ?_)
        obtain ⟨rfl, rfl⟩ := q4
        refine v_bt F 45 d_M_others_27 rfl (fun h27 => ?_) (fun h27 => ?_)
        · skip
          refine v_iconst (v := 0) F d_M_others_45 ki_0 ?_
          refine v_iadd F d_M_others_46 ?_
          refine v_te (y := nI (cntN (othF kd a i) k + 0)) (nI_add _ _) ?_
          refine v_istore_n (ls' := [(3, .int (nI (cntN (othF kd a i) k + 0))), (0, .ref (u.2.1 63)), (1, .ref (u.2.1 kO)), (2, .int (nI i)), (4, .int (nI k))]) F d_M_others_47 rfl (by decide) rfl ?_
          refine v_iinc (v := nI (k + 1)) (ls' := [(4, .int (nI (k + 1))), (3, .int (nI (cntN (othF kd a i) k + 0))), (0, .ref (u.2.1 63)), (1, .ref (u.2.1 kO)), (2, .int (nI i))]) F d_M_others_48 (j := 4) rfl (nI_inc _) (by decide) rfl ?_
          refine v_goto F 5 d_M_others_51 rfl ?_
          refine v_sub [2, 3, 4, 1, 0] (ls' := [(0, .ref (u.2.1 63)), (1, .ref (u.2.1 kO)), (2, .int (nI i)), (3, .int (nI (cntN (othF kd a i) k + 0))), (4, .int (nI (k + 1)))]) rfl ?_
          have g5 : (nI (cntN (othF kd a i) k + 0)) = (nI (cntN (othF kd a i) (k + 1))) := (by first | rfl | (simp [cntN, othF, *]; done) | (simp_all [cntN, othF]; done) | grind [cntN, othF])
          refine v_to (ls' := [(0, .ref (u.2.1 63)), (1, .ref (u.2.1 kO)), (2, .int (nI i)), (3, .int (nI (cntN (othF kd a i) (k + 1)))), (4, .int (nI (k + 1)))]) (by first | rfl | rw [g5] | simp_all) ?_
          exact ih (k + 1) (by omega) (by omega)
        · skip
          refine v_aload_n F d_M_others_30 rfl 1 rfl ?_
          refine v_iconst (v := 0) F d_M_others_31 ki_0 ?_
          refine v_ial F 0 hO.gam rfl (by omega) d_M_others_32 ?_
          refine v_te (y := nI a) h0 ?_
          refine v_iload F d_M_others_33 4 rfl ?_
          refine v_runi (r_S F (c_M_has2 X.2.1 u hA σ k a (by omega) (by omega)) mo_M_has st_M_155 (by decide) rfl (Nat.le_of_ble_eq_true rfl) d_M_others_35) (fun r6 σ7 q8 => ?_)
          obtain ⟨rfl, rfl⟩ := q8
          refine v_bt F 45 d_M_others_38 rfl (fun h38 => ?_) (fun h38 => ?_)
          · skip
            refine v_iconst (v := 0) F d_M_others_45 ki_0 ?_
            refine v_iadd F d_M_others_46 ?_
            refine v_te (y := nI (cntN (othF kd a i) k + 0)) (nI_add _ _) ?_
            refine v_istore_n (ls' := [(3, .int (nI (cntN (othF kd a i) k + 0))), (0, .ref (u.2.1 63)), (1, .ref (u.2.1 kO)), (2, .int (nI i)), (4, .int (nI k))]) F d_M_others_47 rfl (by decide) rfl ?_
            refine v_iinc (v := nI (k + 1)) (ls' := [(4, .int (nI (k + 1))), (3, .int (nI (cntN (othF kd a i) k + 0))), (0, .ref (u.2.1 63)), (1, .ref (u.2.1 kO)), (2, .int (nI i))]) F d_M_others_48 (j := 4) rfl (nI_inc _) (by decide) rfl ?_
            refine v_goto F 5 d_M_others_51 rfl ?_
            refine v_sub [2, 3, 4, 1, 0] (ls' := [(0, .ref (u.2.1 63)), (1, .ref (u.2.1 kO)), (2, .int (nI i)), (3, .int (nI (cntN (othF kd a i) k + 0))), (4, .int (nI (k + 1)))]) rfl ?_
            have g9 : (nI (cntN (othF kd a i) k + 0)) = (nI (cntN (othF kd a i) (k + 1))) := (by first | rfl | (simp [cntN, othF, *]; done) | (simp_all [cntN, othF]; done) | grind [cntN, othF])
            refine v_to (ls' := [(0, .ref (u.2.1 63)), (1, .ref (u.2.1 kO)), (2, .int (nI i)), (3, .int (nI (cntN (othF kd a i) (k + 1)))), (4, .int (nI (k + 1)))]) (by first | rfl | rw [g9] | simp_all) ?_
            exact ih (k + 1) (by omega) (by omega)
          · skip
            refine v_iconst (v := 1) F d_M_others_41 ki_1 ?_
            refine v_goto F 46 d_M_others_42 rfl ?_
            refine v_iadd F d_M_others_46 ?_
            refine v_te (y := nI (cntN (othF kd a i) k + 1)) (nI_add _ _) ?_
            refine v_istore_n (ls' := [(3, .int (nI (cntN (othF kd a i) k + 1))), (0, .ref (u.2.1 63)), (1, .ref (u.2.1 kO)), (2, .int (nI i)), (4, .int (nI k))]) F d_M_others_47 rfl (by decide) rfl ?_
            refine v_iinc (v := nI (k + 1)) (ls' := [(4, .int (nI (k + 1))), (3, .int (nI (cntN (othF kd a i) k + 1))), (0, .ref (u.2.1 63)), (1, .ref (u.2.1 kO)), (2, .int (nI i))]) F d_M_others_48 (j := 4) rfl (nI_inc _) (by decide) rfl ?_
            refine v_goto F 5 d_M_others_51 rfl ?_
            refine v_sub [2, 3, 4, 1, 0] (ls' := [(0, .ref (u.2.1 63)), (1, .ref (u.2.1 kO)), (2, .int (nI i)), (3, .int (nI (cntN (othF kd a i) k + 1))), (4, .int (nI (k + 1)))]) rfl ?_
            have g10 : (nI (cntN (othF kd a i) k + 1)) = (nI (cntN (othF kd a i) (k + 1))) := (by first | rfl | (simp [cntN, othF, *]; done) | (simp_all [cntN, othF]; done) | grind [cntN, othF])
            refine v_to (ls' := [(0, .ref (u.2.1 63)), (1, .ref (u.2.1 kO)), (2, .int (nI i)), (3, .int (nI (cntN (othF kd a i) (k + 1)))), (4, .int (nI (k + 1)))]) (by first | rfl | rw [g10] | simp_all) ?_
            exact ih (k + 1) (by omega) (by omega)
set_option maxHeartbeats 4000000 in
theorem c_M_others (l : Launch) (u : Un) (hA : Ap u) (σ : St) {n : Nat} {kd : Nat → Nat} (hb : mkOk σ n kd) {kO a : Nat} (hO : ofOk kO) (ha : a < 64) (h0 : σ.1 kO 0 = nI a) (i : Nat) (hi : i < 6) : MTi l u y_M_others b_M_others 5 .int 1 [.ref (u.2.1 63), .ref (u.2.1 kO), .int (nI i)] σ (fun ans σ' => nI (othN a (gaN kd n) i) = ans ∧ σ = σ') := by
  refine MT_of hA rfl (by decide) (Nat.le_of_ble_eq_true rfl) (fun X hl F hr => ?_)
  subst hl
  refine v_to (ls' := [(0, .ref (u.2.1 63)), (1, .ref (u.2.1 kO)), (2, .int (nI i))]) rfl ?_
  obtain ⟨hn, hn6, hkd, hk6⟩ := id hb
  refine v_iconst (v := 0) F d_M_others_0 ki_0 ?_
  refine v_istore_n (ls' := [(3, .int 0), (0, .ref (u.2.1 63)), (1, .ref (u.2.1 kO)), (2, .int (nI i))]) F d_M_others_1 rfl (by decide) rfl ?_
  refine v_iconst (v := 0) F d_M_others_2 ki_0 ?_
  refine v_istore (ls' := [(4, .int 0), (3, .int 0), (0, .ref (u.2.1 63)), (1, .ref (u.2.1 kO)), (2, .int (nI i))]) F d_M_others_3 (by decide) rfl ?_
  refine v_sub [2, 3, 4, 1, 0] (ls' := [(0, .ref (u.2.1 63)), (1, .ref (u.2.1 kO)), (2, .int (nI i)), (3, .int 0), (4, .int 0)]) rfl ?_
  have g1 : 0 = (nI (cntN (othF kd a i) 0)) := (by first | rfl | (simp [cntN, othF, *]; done) | (simp_all [cntN, othF]; done) | grind [cntN, othF])
  have g2 : 0 = (nI 0) := (by first | rfl | (simp [cntN, othF, *]; done) | (simp_all [cntN, othF]; done) | grind [cntN, othF])
  refine v_to (ls' := [(0, .ref (u.2.1 63)), (1, .ref (u.2.1 kO)), (2, .int (nI i)), (3, .int (nI (cntN (othF kd a i) 0))), (4, .int (nI 0))]) (by first | rfl | rw [g1, g2] | simp_all) ?_
  refine L_M_others_5 hA F hb hO ha h0 hi ?_ _ 0 (Nat.zero_le _) (Nat.lt_succ_self _)
  refine v_iload_n F d_M_others_54 rfl 3 rfl ?_
  refine v_iret F hr rfl d_M_others_55 ?_
  exact ⟨by rw [oth_eq hn6 ha hi], rfl⟩
abbrev b_M_steals : ByteArray := prog_14_method_35_code
abbrev y_M_steals : MethodName := ⟨"TakerBookModel", "steals", "([II)I"⟩
theorem d_M_steals_0 : decode b_M_steals 0 = .ok (.aload_n 0, 1) := by decide +kernel
theorem d_M_steals_1 : decode b_M_steals 1 = .ok (.getfield 36, 3) := by decide +kernel
theorem d_M_steals_4 : decode b_M_steals 4 = .ok (.iload_n 2, 1) := by decide +kernel
theorem d_M_steals_5 : decode b_M_steals 5 = .ok (.iaload, 1) := by decide +kernel
theorem d_M_steals_6 : decode b_M_steals 6 = .ok (.tableswitch 82 1 5 #[34, 43, 52, 34, 66], 34) := by decide +kernel
theorem d_M_steals_40 : decode b_M_steals 40 = .ok (.aload_n 0, 1) := by decide +kernel
theorem d_M_steals_41 : decode b_M_steals 41 = .ok (.getfield 39, 3) := by decide +kernel
theorem d_M_steals_44 : decode b_M_steals 44 = .ok (.iload_n 2, 1) := by decide +kernel
theorem d_M_steals_45 : decode b_M_steals 45 = .ok (.iaload, 1) := by decide +kernel
theorem d_M_steals_46 : decode b_M_steals 46 = .ok (.iconst 1, 1) := by decide +kernel
theorem d_M_steals_47 : decode b_M_steals 47 = .ok (.iadd, 1) := by decide +kernel
theorem d_M_steals_48 : decode b_M_steals 48 = .ok (.ireturn, 1) := by decide +kernel
theorem d_M_steals_49 : decode b_M_steals 49 = .ok (.aload_n 0, 1) := by decide +kernel
theorem d_M_steals_50 : decode b_M_steals 50 = .ok (.getfield 39, 3) := by decide +kernel
theorem d_M_steals_53 : decode b_M_steals 53 = .ok (.iload_n 2, 1) := by decide +kernel
theorem d_M_steals_54 : decode b_M_steals 54 = .ok (.iaload, 1) := by decide +kernel
theorem d_M_steals_55 : decode b_M_steals 55 = .ok (.iconst 2, 1) := by decide +kernel
theorem d_M_steals_56 : decode b_M_steals 56 = .ok (.idiv, 1) := by decide +kernel
theorem d_M_steals_57 : decode b_M_steals 57 = .ok (.ireturn, 1) := by decide +kernel
theorem d_M_steals_58 : decode b_M_steals 58 = .ok (.aload_n 0, 1) := by decide +kernel
theorem d_M_steals_59 : decode b_M_steals 59 = .ok (.getfield 39, 3) := by decide +kernel
theorem d_M_steals_62 : decode b_M_steals 62 = .ok (.iload_n 2, 1) := by decide +kernel
theorem d_M_steals_63 : decode b_M_steals 63 = .ok (.iaload, 1) := by decide +kernel
theorem d_M_steals_64 : decode b_M_steals 64 = .ok (.aload_n 0, 1) := by decide +kernel
theorem d_M_steals_65 : decode b_M_steals 65 = .ok (.aload_n 1, 1) := by decide +kernel
theorem d_M_steals_66 : decode b_M_steals 66 = .ok (.iload_n 2, 1) := by decide +kernel
theorem d_M_steals_67 : decode b_M_steals 67 = .ok (.invokevirtual 159, 3) := by decide +kernel
theorem d_M_steals_70 : decode b_M_steals 70 = .ok (.iadd, 1) := by decide +kernel
theorem d_M_steals_71 : decode b_M_steals 71 = .ok (.ireturn, 1) := by decide +kernel
theorem d_M_steals_72 : decode b_M_steals 72 = .ok (.aload_n 0, 1) := by decide +kernel
theorem d_M_steals_73 : decode b_M_steals 73 = .ok (.getfield 39, 3) := by decide +kernel
theorem d_M_steals_76 : decode b_M_steals 76 = .ok (.iload_n 2, 1) := by decide +kernel
theorem d_M_steals_77 : decode b_M_steals 77 = .ok (.iaload, 1) := by decide +kernel
theorem d_M_steals_78 : decode b_M_steals 78 = .ok (.aload_n 0, 1) := by decide +kernel
theorem d_M_steals_79 : decode b_M_steals 79 = .ok (.aload_n 1, 1) := by decide +kernel
theorem d_M_steals_80 : decode b_M_steals 80 = .ok (.iload_n 2, 1) := by decide +kernel
theorem d_M_steals_81 : decode b_M_steals 81 = .ok (.invokevirtual 159, 3) := by decide +kernel
theorem d_M_steals_84 : decode b_M_steals 84 = .ok (.iadd, 1) := by decide +kernel
theorem d_M_steals_85 : decode b_M_steals 85 = .ok (.iconst 2, 1) := by decide +kernel
theorem d_M_steals_86 : decode b_M_steals 86 = .ok (.idiv, 1) := by decide +kernel
theorem d_M_steals_87 : decode b_M_steals 87 = .ok (.ireturn, 1) := by decide +kernel
theorem d_M_steals_88 : decode b_M_steals 88 = .ok (.aload_n 0, 1) := by decide +kernel
theorem d_M_steals_89 : decode b_M_steals 89 = .ok (.getfield 39, 3) := by decide +kernel
theorem d_M_steals_92 : decode b_M_steals 92 = .ok (.iload_n 2, 1) := by decide +kernel
theorem d_M_steals_93 : decode b_M_steals 93 = .ok (.iaload, 1) := by decide +kernel
theorem d_M_steals_94 : decode b_M_steals 94 = .ok (.ireturn, 1) := by decide +kernel
theorem mo_M_steals : mok y_M_steals b_M_steals 3 (some .int) 2 := ⟨List.mem_of_getElem? (i := 1219) (by decide +kernel), ⟨by decide +kernel, by decide +kernel, by decide +kernel⟩, List.mem_of_getElem? (i := 86) (by decide +kernel), by decide⟩
set_option maxHeartbeats 4000000 in
theorem c_M_steals (l : Launch) (u : Un) (hA : Ap u) (σ : St) {n : Nat} {kd : Nat → Nat} (hb : mkOk σ n kd) {kO a : Nat} (hO : ofOk kO) (ha : a < 64) (h0 : σ.1 kO 0 = nI a) (i : Nat) (hi : i < n) : MTi l u y_M_steals b_M_steals 3 .int 2 [.ref (u.2.1 63), .ref (u.2.1 kO), .int (nI i)] σ (fun ans σ' => ltF kd (σ.1 72) (gaN kd n) a i = ans ∧ σ = σ') := by
  refine MT_of hA rfl (by decide) (Nat.le_of_ble_eq_true rfl) (fun X hl F hr => ?_)
  subst hl
  refine v_to (ls' := [(0, .ref (u.2.1 63)), (1, .ref (u.2.1 kO)), (2, .int (nI i))]) rfl ?_
  obtain ⟨hn, hn6, hkd, hk6⟩ := id hb
  have hki := hk6 i hi
  refine v_aload_n F d_M_steals_0 rfl 0 rfl ?_
  refine v_getr (r := 71) F fk_M_36 G63 rfl d_M_steals_1 ?_
  refine v_iload_n F d_M_steals_4 rfl 2 rfl ?_
  refine v_ial F i G71 rfl (by omega) d_M_steals_5 ?_
  refine v_te (y := nI (kd i)) (hkd _ (by omega)) ?_
  rcases (show (kd i) = 0 ∨ (kd i) = 1 ∨ (kd i) = 2 ∨ (kd i) = 3 ∨ (kd i) = 4 ∨ (kd i) = 5 from by omega) with hs | hs | hs | hs | hs | hs
  · refine v_te (y := 0) (show nI (kd i) = 0 from by rw [hs]; rfl) ?_
    refine v_tableOut F 88 d_M_steals_6 (by decide) rfl ?_
    refine v_aload_n F d_M_steals_88 rfl 0 rfl ?_
    refine v_getr (r := 72) F fk_M_39 G63 rfl d_M_steals_89 ?_
    refine v_iload_n F d_M_steals_92 rfl 2 rfl ?_
    refine v_ial F i G72 rfl (by omega) d_M_steals_93 ?_
    refine v_iret F hr rfl d_M_steals_94 ?_
    exact ⟨by simp [ltF, lootS, hs], rfl⟩
  · refine v_te (y := 1) (show nI (kd i) = 1 from by rw [hs]; rfl) ?_
    refine v_tableIn (off := 34) F 40 d_M_steals_6 (by decide) (by decide) (by decide) rfl ?_
    refine v_aload_n F d_M_steals_40 rfl 0 rfl ?_
    refine v_getr (r := 72) F fk_M_39 G63 rfl d_M_steals_41 ?_
    refine v_iload_n F d_M_steals_44 rfl 2 rfl ?_
    refine v_ial F i G72 rfl (by omega) d_M_steals_45 ?_
    refine v_iconst (v := 1) F d_M_steals_46 ki_1 ?_
    refine v_iadd F d_M_steals_47 ?_
    refine v_iret F hr rfl d_M_steals_48 ?_
    exact ⟨by simp [ltF, lootS, hs], rfl⟩
  · refine v_te (y := 2) (show nI (kd i) = 2 from by rw [hs]; rfl) ?_
    refine v_tableIn (off := 43) F 49 d_M_steals_6 (by decide) (by decide) (by decide) rfl ?_
    refine v_aload_n F d_M_steals_49 rfl 0 rfl ?_
    refine v_getr (r := 72) F fk_M_39 G63 rfl d_M_steals_50 ?_
    refine v_iload_n F d_M_steals_53 rfl 2 rfl ?_
    refine v_ial F i G72 rfl (by omega) d_M_steals_54 ?_
    refine v_iconst (v := 2) F d_M_steals_55 ki_2 ?_
    refine v_idiv F d_M_steals_56 (by decide) ?_
    refine v_iret F hr rfl d_M_steals_57 ?_
    exact ⟨by simp [ltF, lootS, hs], rfl⟩
  · refine v_te (y := 3) (show nI (kd i) = 3 from by rw [hs]; rfl) ?_
    refine v_tableIn (off := 52) F 58 d_M_steals_6 (by decide) (by decide) (by decide) rfl ?_
    refine v_aload_n F d_M_steals_58 rfl 0 rfl ?_
    refine v_getr (r := 72) F fk_M_39 G63 rfl d_M_steals_59 ?_
    refine v_iload_n F d_M_steals_62 rfl 2 rfl ?_
    refine v_ial F i G72 rfl (by omega) d_M_steals_63 ?_
    refine v_aload_n F d_M_steals_64 rfl 0 rfl ?_
    refine v_aload_n F d_M_steals_65 rfl 1 rfl ?_
    refine v_iload_n F d_M_steals_66 rfl 2 rfl ?_
    refine v_runi (r_V F (c_M_others X.2.1 u hA σ hb (kO := kO) hO (by omega) h0 i (by omega)) mo_M_others st_M_159 rc_63 (by decide) rfl (Nat.le_of_ble_eq_true rfl) d_M_steals_67) (fun r1 σ2 q3 => ?_)
    obtain ⟨rfl, rfl⟩ := q3
    refine v_iadd F d_M_steals_70 ?_
    refine v_iret F hr rfl d_M_steals_71 ?_
    exact ⟨by simp [ltF, lootS, hs], rfl⟩
  · refine v_te (y := 4) (show nI (kd i) = 4 from by rw [hs]; rfl) ?_
    refine v_tableIn (off := 34) F 40 d_M_steals_6 (by decide) (by decide) (by decide) rfl ?_
    refine v_aload_n F d_M_steals_40 rfl 0 rfl ?_
    refine v_getr (r := 72) F fk_M_39 G63 rfl d_M_steals_41 ?_
    refine v_iload_n F d_M_steals_44 rfl 2 rfl ?_
    refine v_ial F i G72 rfl (by omega) d_M_steals_45 ?_
    refine v_iconst (v := 1) F d_M_steals_46 ki_1 ?_
    refine v_iadd F d_M_steals_47 ?_
    refine v_iret F hr rfl d_M_steals_48 ?_
    exact ⟨by simp [ltF, lootS, hs], rfl⟩
  · refine v_te (y := 5) (show nI (kd i) = 5 from by rw [hs]; rfl) ?_
    refine v_tableIn (off := 66) F 72 d_M_steals_6 (by decide) (by decide) (by decide) rfl ?_
    refine v_aload_n F d_M_steals_72 rfl 0 rfl ?_
    refine v_getr (r := 72) F fk_M_39 G63 rfl d_M_steals_73 ?_
    refine v_iload_n F d_M_steals_76 rfl 2 rfl ?_
    refine v_ial F i G72 rfl (by omega) d_M_steals_77 ?_
    refine v_aload_n F d_M_steals_78 rfl 0 rfl ?_
    refine v_aload_n F d_M_steals_79 rfl 1 rfl ?_
    refine v_iload_n F d_M_steals_80 rfl 2 rfl ?_
    refine v_runi (r_V F (c_M_others X.2.1 u hA σ hb (kO := kO) hO (by omega) h0 i (by omega)) mo_M_others st_M_159 rc_63 (by decide) rfl (Nat.le_of_ble_eq_true rfl) d_M_steals_81) (fun r4 σ5 q6 => ?_)
    obtain ⟨rfl, rfl⟩ := q6
    refine v_iadd F d_M_steals_84 ?_
    refine v_iconst (v := 2) F d_M_steals_85 ki_2 ?_
    refine v_idiv F d_M_steals_86 (by decide) ?_
    refine v_iret F hr rfl d_M_steals_87 ?_
    exact ⟨by simp [ltF, lootS, hs], rfl⟩
abbrev b_M_isSpeakingBy : ByteArray := prog_14_method_36_code
abbrev y_M_isSpeakingBy : MethodName := ⟨"TakerBookModel", "isSpeakingBy", "(IIIII)Z"⟩
theorem d_M_isSpeakingBy_0 : decode b_M_isSpeakingBy 0 = .ok (.iload_n 1, 1) := by decide +kernel
theorem d_M_isSpeakingBy_1 : decode b_M_isSpeakingBy 1 = .ok (.iload_n 2, 1) := by decide +kernel
theorem d_M_isSpeakingBy_2 : decode b_M_isSpeakingBy 2 = .ok (.iconst 2, 1) := by decide +kernel
theorem d_M_isSpeakingBy_3 : decode b_M_isSpeakingBy 3 = .ok (.iload_n 3, 1) := by decide +kernel
theorem d_M_isSpeakingBy_4 : decode b_M_isSpeakingBy 4 = .ok (.imul, 1) := by decide +kernel
theorem d_M_isSpeakingBy_5 : decode b_M_isSpeakingBy 5 = .ok (.iadd, 1) := by decide +kernel
theorem d_M_isSpeakingBy_6 : decode b_M_isSpeakingBy 6 = .ok (.if_icmp .le 7, 3) := by decide +kernel
theorem d_M_isSpeakingBy_9 : decode b_M_isSpeakingBy 9 = .ok (.iconst 1, 1) := by decide +kernel
theorem d_M_isSpeakingBy_10 : decode b_M_isSpeakingBy 10 = .ok (.goto 4, 3) := by decide +kernel
theorem d_M_isSpeakingBy_13 : decode b_M_isSpeakingBy 13 = .ok (.iconst 0, 1) := by decide +kernel
theorem d_M_isSpeakingBy_14 : decode b_M_isSpeakingBy 14 = .ok (.istore 5, 2) := by decide +kernel
theorem d_M_isSpeakingBy_16 : decode b_M_isSpeakingBy 16 = .ok (.iload_n 0, 1) := by decide +kernel
theorem d_M_isSpeakingBy_17 : decode b_M_isSpeakingBy 17 = .ok (.tableswitch 103 1 5 #[35, 48, 63, 37, 80], 35) := by decide +kernel
theorem d_M_isSpeakingBy_52 : decode b_M_isSpeakingBy 52 = .ok (.iconst 0, 1) := by decide +kernel
theorem d_M_isSpeakingBy_53 : decode b_M_isSpeakingBy 53 = .ok (.ireturn, 1) := by decide +kernel
theorem d_M_isSpeakingBy_54 : decode b_M_isSpeakingBy 54 = .ok (.iload_n 3, 1) := by decide +kernel
theorem d_M_isSpeakingBy_55 : decode b_M_isSpeakingBy 55 = .ok (.iconst 2, 1) := by decide +kernel
theorem d_M_isSpeakingBy_56 : decode b_M_isSpeakingBy 56 = .ok (.if_icmp .ne 7, 3) := by decide +kernel
theorem d_M_isSpeakingBy_59 : decode b_M_isSpeakingBy 59 = .ok (.iconst 1, 1) := by decide +kernel
theorem d_M_isSpeakingBy_60 : decode b_M_isSpeakingBy 60 = .ok (.goto 4, 3) := by decide +kernel
theorem d_M_isSpeakingBy_63 : decode b_M_isSpeakingBy 63 = .ok (.iconst 0, 1) := by decide +kernel
theorem d_M_isSpeakingBy_64 : decode b_M_isSpeakingBy 64 = .ok (.ireturn, 1) := by decide +kernel
theorem d_M_isSpeakingBy_65 : decode b_M_isSpeakingBy 65 = .ok (.iload 5, 2) := by decide +kernel
theorem d_M_isSpeakingBy_67 : decode b_M_isSpeakingBy 67 = .ok (.ifCond .eq 11, 3) := by decide +kernel
theorem d_M_isSpeakingBy_70 : decode b_M_isSpeakingBy 70 = .ok (.iload_n 3, 1) := by decide +kernel
theorem d_M_isSpeakingBy_71 : decode b_M_isSpeakingBy 71 = .ok (.ifCond .ne 7, 3) := by decide +kernel
theorem d_M_isSpeakingBy_74 : decode b_M_isSpeakingBy 74 = .ok (.iconst 1, 1) := by decide +kernel
theorem d_M_isSpeakingBy_75 : decode b_M_isSpeakingBy 75 = .ok (.goto 4, 3) := by decide +kernel
theorem d_M_isSpeakingBy_78 : decode b_M_isSpeakingBy 78 = .ok (.iconst 0, 1) := by decide +kernel
theorem d_M_isSpeakingBy_79 : decode b_M_isSpeakingBy 79 = .ok (.ireturn, 1) := by decide +kernel
theorem d_M_isSpeakingBy_80 : decode b_M_isSpeakingBy 80 = .ok (.iload 5, 2) := by decide +kernel
theorem d_M_isSpeakingBy_82 : decode b_M_isSpeakingBy 82 = .ok (.ifCond .eq 13, 3) := by decide +kernel
theorem d_M_isSpeakingBy_85 : decode b_M_isSpeakingBy 85 = .ok (.iload 4, 2) := by decide +kernel
theorem d_M_isSpeakingBy_87 : decode b_M_isSpeakingBy 87 = .ok (.iconst 1, 1) := by decide +kernel
theorem d_M_isSpeakingBy_88 : decode b_M_isSpeakingBy 88 = .ok (.if_icmp .gt 7, 3) := by decide +kernel
theorem d_M_isSpeakingBy_91 : decode b_M_isSpeakingBy 91 = .ok (.iconst 1, 1) := by decide +kernel
theorem d_M_isSpeakingBy_92 : decode b_M_isSpeakingBy 92 = .ok (.goto 4, 3) := by decide +kernel
theorem d_M_isSpeakingBy_95 : decode b_M_isSpeakingBy 95 = .ok (.iconst 0, 1) := by decide +kernel
theorem d_M_isSpeakingBy_96 : decode b_M_isSpeakingBy 96 = .ok (.ireturn, 1) := by decide +kernel
theorem d_M_isSpeakingBy_97 : decode b_M_isSpeakingBy 97 = .ok (.iload_n 1, 1) := by decide +kernel
theorem d_M_isSpeakingBy_98 : decode b_M_isSpeakingBy 98 = .ok (.iconst 2, 1) := by decide +kernel
theorem d_M_isSpeakingBy_99 : decode b_M_isSpeakingBy 99 = .ok (.iadd, 1) := by decide +kernel
theorem d_M_isSpeakingBy_100 : decode b_M_isSpeakingBy 100 = .ok (.iload_n 2, 1) := by decide +kernel
theorem d_M_isSpeakingBy_101 : decode b_M_isSpeakingBy 101 = .ok (.iconst 2, 1) := by decide +kernel
theorem d_M_isSpeakingBy_102 : decode b_M_isSpeakingBy 102 = .ok (.iload_n 3, 1) := by decide +kernel
theorem d_M_isSpeakingBy_103 : decode b_M_isSpeakingBy 103 = .ok (.imul, 1) := by decide +kernel
theorem d_M_isSpeakingBy_104 : decode b_M_isSpeakingBy 104 = .ok (.iadd, 1) := by decide +kernel
theorem d_M_isSpeakingBy_105 : decode b_M_isSpeakingBy 105 = .ok (.if_icmp .le 13, 3) := by decide +kernel
theorem d_M_isSpeakingBy_108 : decode b_M_isSpeakingBy 108 = .ok (.iload 4, 2) := by decide +kernel
theorem d_M_isSpeakingBy_110 : decode b_M_isSpeakingBy 110 = .ok (.iconst 1, 1) := by decide +kernel
theorem d_M_isSpeakingBy_111 : decode b_M_isSpeakingBy 111 = .ok (.if_icmp .gt 7, 3) := by decide +kernel
theorem d_M_isSpeakingBy_114 : decode b_M_isSpeakingBy 114 = .ok (.iconst 1, 1) := by decide +kernel
theorem d_M_isSpeakingBy_115 : decode b_M_isSpeakingBy 115 = .ok (.goto 4, 3) := by decide +kernel
theorem d_M_isSpeakingBy_118 : decode b_M_isSpeakingBy 118 = .ok (.iconst 0, 1) := by decide +kernel
theorem d_M_isSpeakingBy_119 : decode b_M_isSpeakingBy 119 = .ok (.ireturn, 1) := by decide +kernel
theorem d_M_isSpeakingBy_120 : decode b_M_isSpeakingBy 120 = .ok (.iload 5, 2) := by decide +kernel
theorem d_M_isSpeakingBy_122 : decode b_M_isSpeakingBy 122 = .ok (.ireturn, 1) := by decide +kernel
theorem mo_M_isSpeakingBy : mok y_M_isSpeakingBy b_M_isSpeakingBy 6 (some .boolean) 5 := ⟨List.mem_of_getElem? (i := 1237) (by decide +kernel), ⟨by decide +kernel, by decide +kernel, by decide +kernel⟩, List.mem_of_getElem? (i := 86) (by decide +kernel), by decide⟩
set_option maxHeartbeats 4000000 in
theorem c_M_isSpeakingBy (l : Launch) (u : Un) (hA : Ap u) (σ : St) (k : Nat) (hk : k < 6) (b f c o : Int32) : MTi l u y_M_isSpeakingBy b_M_isSpeakingBy 6 .boolean 0 [.int (nI k), .int b, .int f, .int c, .int o] σ (fun ans σ' => bI (talkB k b f c o = true) = ans ∧ σ = σ') := by
  refine MT_of hA rfl (by decide) (Nat.le_of_ble_eq_true rfl) (fun X hl F hr => ?_)
  subst hl
  refine v_to (ls' := [(0, .int (nI k)), (1, .int b), (2, .int f), (3, .int c), (4, .int o)]) rfl ?_
  refine v_iload_n F d_M_isSpeakingBy_0 rfl 1 rfl ?_
  refine v_iload_n F d_M_isSpeakingBy_1 rfl 2 rfl ?_
  refine v_iconst (v := 2) F d_M_isSpeakingBy_2 ki_2 ?_
  refine v_iload_n F d_M_isSpeakingBy_3 rfl 3 rfl ?_
  refine v_imul F d_M_isSpeakingBy_4 ?_
  refine v_iadd F d_M_isSpeakingBy_5 ?_
  refine v_icmp_le F 13 d_M_isSpeakingBy_6 rfl (fun h6 => ?_) (fun h6 => ?_)
  · skip
    refine v_iconst (v := 0) F d_M_isSpeakingBy_13 ki_0 ?_
    refine v_istore (ls' := [(5, .int 0), (0, .int (nI k)), (1, .int b), (2, .int f), (3, .int c), (4, .int o)]) F d_M_isSpeakingBy_14 (by decide) rfl ?_
    refine v_iload_n F d_M_isSpeakingBy_16 rfl 1 rfl ?_
    rcases (show k = 0 ∨ k = 1 ∨ k = 2 ∨ k = 3 ∨ k = 4 ∨ k = 5 from by omega) with hs | hs | hs | hs | hs | hs
    · refine v_te (y := 0) (show nI k = 0 from by rw [hs]; rfl) ?_
      refine v_tableOut F 120 d_M_isSpeakingBy_17 (by decide) rfl ?_
      refine v_iload F d_M_isSpeakingBy_120 0 rfl ?_
      refine v_iret F hr rfl d_M_isSpeakingBy_122 ?_
      exact ⟨(bI_f (by first | (simp_all [talkB]; done) | grind [talkB])), rfl⟩
    · refine v_te (y := 1) (show nI k = 1 from by rw [hs]; rfl) ?_
      refine v_tableIn (off := 35) F 52 d_M_isSpeakingBy_17 (by decide) (by decide) (by decide) rfl ?_
      refine v_iconst (v := 0) F d_M_isSpeakingBy_52 ki_0 ?_
      refine v_iret F hr rfl d_M_isSpeakingBy_53 ?_
      exact ⟨(bI_f (by first | (simp_all [talkB]; done) | grind [talkB])), rfl⟩
    · refine v_te (y := 2) (show nI k = 2 from by rw [hs]; rfl) ?_
      refine v_tableIn (off := 48) F 65 d_M_isSpeakingBy_17 (by decide) (by decide) (by decide) rfl ?_
      refine v_iload F d_M_isSpeakingBy_65 0 rfl ?_
      refine v_if_eq F 78 d_M_isSpeakingBy_67 rfl (fun _ => ?_) (fun h => absurd (by decide) h)
      refine v_iconst (v := 0) F d_M_isSpeakingBy_78 ki_0 ?_
      refine v_iret F hr rfl d_M_isSpeakingBy_79 ?_
      exact ⟨(bI_f (by first | (simp_all [talkB]; done) | grind [talkB])), rfl⟩
    · refine v_te (y := 3) (show nI k = 3 from by rw [hs]; rfl) ?_
      refine v_tableIn (off := 63) F 80 d_M_isSpeakingBy_17 (by decide) (by decide) (by decide) rfl ?_
      refine v_iload F d_M_isSpeakingBy_80 0 rfl ?_
      refine v_if_eq F 95 d_M_isSpeakingBy_82 rfl (fun _ => ?_) (fun h => absurd (by decide) h)
      refine v_iconst (v := 0) F d_M_isSpeakingBy_95 ki_0 ?_
      refine v_iret F hr rfl d_M_isSpeakingBy_96 ?_
      exact ⟨(bI_f (by first | (simp_all [talkB]; done) | grind [talkB])), rfl⟩
    · refine v_te (y := 4) (show nI k = 4 from by rw [hs]; rfl) ?_
      refine v_tableIn (off := 37) F 54 d_M_isSpeakingBy_17 (by decide) (by decide) (by decide) rfl ?_
      refine v_iload_n F d_M_isSpeakingBy_54 rfl 4 rfl ?_
      refine v_iconst (v := 2) F d_M_isSpeakingBy_55 ki_2 ?_
      refine v_icmp_ne F 63 d_M_isSpeakingBy_56 rfl (fun h56 => ?_) (fun h56 => ?_)
      · skip
        refine v_iconst (v := 0) F d_M_isSpeakingBy_63 ki_0 ?_
        refine v_iret F hr rfl d_M_isSpeakingBy_64 ?_
        exact ⟨(bI_f (by first | (simp_all [talkB]; done) | grind [talkB])), rfl⟩
      · skip
        refine v_iconst (v := 1) F d_M_isSpeakingBy_59 ki_1 ?_
        refine v_goto F 64 d_M_isSpeakingBy_60 rfl ?_
        refine v_iret F hr rfl d_M_isSpeakingBy_64 ?_
        exact ⟨(bI_t (by first | (simp_all [talkB]; done) | grind [talkB])), rfl⟩
    · refine v_te (y := 5) (show nI k = 5 from by rw [hs]; rfl) ?_
      refine v_tableIn (off := 80) F 97 d_M_isSpeakingBy_17 (by decide) (by decide) (by decide) rfl ?_
      refine v_iload_n F d_M_isSpeakingBy_97 rfl 2 rfl ?_
      refine v_iconst (v := 2) F d_M_isSpeakingBy_98 ki_2 ?_
      refine v_iadd F d_M_isSpeakingBy_99 ?_
      refine v_iload_n F d_M_isSpeakingBy_100 rfl 3 rfl ?_
      refine v_iconst (v := 2) F d_M_isSpeakingBy_101 ki_2 ?_
      refine v_iload_n F d_M_isSpeakingBy_102 rfl 4 rfl ?_
      refine v_imul F d_M_isSpeakingBy_103 ?_
      refine v_iadd F d_M_isSpeakingBy_104 ?_
      refine v_icmp_le F 118 d_M_isSpeakingBy_105 rfl (fun h105 => ?_) (fun h105 => ?_)
      · skip
        refine v_iconst (v := 0) F d_M_isSpeakingBy_118 ki_0 ?_
        refine v_iret F hr rfl d_M_isSpeakingBy_119 ?_
        exact ⟨(bI_f (by first | (simp_all [talkB]; done) | grind [talkB])), rfl⟩
      · skip
        refine v_iload F d_M_isSpeakingBy_108 5 rfl ?_
        refine v_iconst (v := 1) F d_M_isSpeakingBy_110 ki_1 ?_
        refine v_icmp_gt F 118 d_M_isSpeakingBy_111 rfl (fun h111 => ?_) (fun h111 => ?_)
        · skip
          refine v_iconst (v := 0) F d_M_isSpeakingBy_118 ki_0 ?_
          refine v_iret F hr rfl d_M_isSpeakingBy_119 ?_
          exact ⟨(bI_f (by first | (simp_all [talkB]; done) | grind [talkB])), rfl⟩
        · skip
          refine v_iconst (v := 1) F d_M_isSpeakingBy_114 ki_1 ?_
          refine v_goto F 119 d_M_isSpeakingBy_115 rfl ?_
          refine v_iret F hr rfl d_M_isSpeakingBy_119 ?_
          exact ⟨(bI_t (by first | (simp_all [talkB]; done) | grind [talkB])), rfl⟩
  · skip
    refine v_iconst (v := 1) F d_M_isSpeakingBy_9 ki_1 ?_
    refine v_goto F 14 d_M_isSpeakingBy_10 rfl ?_
    refine v_istore (ls' := [(5, .int 1), (0, .int (nI k)), (1, .int b), (2, .int f), (3, .int c), (4, .int o)]) F d_M_isSpeakingBy_14 (by decide) rfl ?_
    refine v_iload_n F d_M_isSpeakingBy_16 rfl 1 rfl ?_
    rcases (show k = 0 ∨ k = 1 ∨ k = 2 ∨ k = 3 ∨ k = 4 ∨ k = 5 from by omega) with hs | hs | hs | hs | hs | hs
    · refine v_te (y := 0) (show nI k = 0 from by rw [hs]; rfl) ?_
      refine v_tableOut F 120 d_M_isSpeakingBy_17 (by decide) rfl ?_
      refine v_iload F d_M_isSpeakingBy_120 0 rfl ?_
      refine v_iret F hr rfl d_M_isSpeakingBy_122 ?_
      exact ⟨(bI_t (by first | (simp_all [talkB]; done) | grind [talkB])), rfl⟩
    · refine v_te (y := 1) (show nI k = 1 from by rw [hs]; rfl) ?_
      refine v_tableIn (off := 35) F 52 d_M_isSpeakingBy_17 (by decide) (by decide) (by decide) rfl ?_
      refine v_iconst (v := 0) F d_M_isSpeakingBy_52 ki_0 ?_
      refine v_iret F hr rfl d_M_isSpeakingBy_53 ?_
      exact ⟨(bI_f (by first | (simp_all [talkB]; done) | grind [talkB])), rfl⟩
    · refine v_te (y := 2) (show nI k = 2 from by rw [hs]; rfl) ?_
      refine v_tableIn (off := 48) F 65 d_M_isSpeakingBy_17 (by decide) (by decide) (by decide) rfl ?_
      refine v_iload F d_M_isSpeakingBy_65 0 rfl ?_
      refine v_if_eq F 78 d_M_isSpeakingBy_67 rfl (fun h => absurd h (by decide)) (fun _ => ?_)
      refine v_iload_n F d_M_isSpeakingBy_70 rfl 4 rfl ?_
      refine v_if_ne F 78 d_M_isSpeakingBy_71 rfl (fun h71 => ?_) (fun h71 => ?_)
      · skip
        refine v_iconst (v := 0) F d_M_isSpeakingBy_78 ki_0 ?_
        refine v_iret F hr rfl d_M_isSpeakingBy_79 ?_
        exact ⟨(bI_f (by first | (simp_all [talkB]; done) | grind [talkB])), rfl⟩
      · skip
        refine v_iconst (v := 1) F d_M_isSpeakingBy_74 ki_1 ?_
        refine v_goto F 79 d_M_isSpeakingBy_75 rfl ?_
        refine v_iret F hr rfl d_M_isSpeakingBy_79 ?_
        exact ⟨(bI_t (by first | (simp_all [talkB]; done) | grind [talkB])), rfl⟩
    · refine v_te (y := 3) (show nI k = 3 from by rw [hs]; rfl) ?_
      refine v_tableIn (off := 63) F 80 d_M_isSpeakingBy_17 (by decide) (by decide) (by decide) rfl ?_
      refine v_iload F d_M_isSpeakingBy_80 0 rfl ?_
      refine v_if_eq F 95 d_M_isSpeakingBy_82 rfl (fun h => absurd h (by decide)) (fun _ => ?_)
      refine v_iload F d_M_isSpeakingBy_85 5 rfl ?_
      refine v_iconst (v := 1) F d_M_isSpeakingBy_87 ki_1 ?_
      refine v_icmp_gt F 95 d_M_isSpeakingBy_88 rfl (fun h88 => ?_) (fun h88 => ?_)
      · skip
        refine v_iconst (v := 0) F d_M_isSpeakingBy_95 ki_0 ?_
        refine v_iret F hr rfl d_M_isSpeakingBy_96 ?_
        exact ⟨(bI_f (by first | (simp_all [talkB]; done) | grind [talkB])), rfl⟩
      · skip
        refine v_iconst (v := 1) F d_M_isSpeakingBy_91 ki_1 ?_
        refine v_goto F 96 d_M_isSpeakingBy_92 rfl ?_
        refine v_iret F hr rfl d_M_isSpeakingBy_96 ?_
        exact ⟨(bI_t (by first | (simp_all [talkB]; done) | grind [talkB])), rfl⟩
    · refine v_te (y := 4) (show nI k = 4 from by rw [hs]; rfl) ?_
      refine v_tableIn (off := 37) F 54 d_M_isSpeakingBy_17 (by decide) (by decide) (by decide) rfl ?_
      refine v_iload_n F d_M_isSpeakingBy_54 rfl 4 rfl ?_
      refine v_iconst (v := 2) F d_M_isSpeakingBy_55 ki_2 ?_
      refine v_icmp_ne F 63 d_M_isSpeakingBy_56 rfl (fun h56 => ?_) (fun h56 => ?_)
      · skip
        refine v_iconst (v := 0) F d_M_isSpeakingBy_63 ki_0 ?_
        refine v_iret F hr rfl d_M_isSpeakingBy_64 ?_
        exact ⟨(bI_f (by first | (simp_all [talkB]; done) | grind [talkB])), rfl⟩
      · skip
        refine v_iconst (v := 1) F d_M_isSpeakingBy_59 ki_1 ?_
        refine v_goto F 64 d_M_isSpeakingBy_60 rfl ?_
        refine v_iret F hr rfl d_M_isSpeakingBy_64 ?_
        exact ⟨(bI_t (by first | (simp_all [talkB]; done) | grind [talkB])), rfl⟩
    · refine v_te (y := 5) (show nI k = 5 from by rw [hs]; rfl) ?_
      refine v_tableIn (off := 80) F 97 d_M_isSpeakingBy_17 (by decide) (by decide) (by decide) rfl ?_
      refine v_iload_n F d_M_isSpeakingBy_97 rfl 2 rfl ?_
      refine v_iconst (v := 2) F d_M_isSpeakingBy_98 ki_2 ?_
      refine v_iadd F d_M_isSpeakingBy_99 ?_
      refine v_iload_n F d_M_isSpeakingBy_100 rfl 3 rfl ?_
      refine v_iconst (v := 2) F d_M_isSpeakingBy_101 ki_2 ?_
      refine v_iload_n F d_M_isSpeakingBy_102 rfl 4 rfl ?_
      refine v_imul F d_M_isSpeakingBy_103 ?_
      refine v_iadd F d_M_isSpeakingBy_104 ?_
      refine v_icmp_le F 118 d_M_isSpeakingBy_105 rfl (fun h105 => ?_) (fun h105 => ?_)
      · skip
        refine v_iconst (v := 0) F d_M_isSpeakingBy_118 ki_0 ?_
        refine v_iret F hr rfl d_M_isSpeakingBy_119 ?_
        exact ⟨(bI_f (by first | (simp_all [talkB]; done) | grind [talkB])), rfl⟩
      · skip
        refine v_iload F d_M_isSpeakingBy_108 5 rfl ?_
        refine v_iconst (v := 1) F d_M_isSpeakingBy_110 ki_1 ?_
        refine v_icmp_gt F 118 d_M_isSpeakingBy_111 rfl (fun h111 => ?_) (fun h111 => ?_)
        · skip
          refine v_iconst (v := 0) F d_M_isSpeakingBy_118 ki_0 ?_
          refine v_iret F hr rfl d_M_isSpeakingBy_119 ?_
          exact ⟨(bI_f (by first | (simp_all [talkB]; done) | grind [talkB])), rfl⟩
        · skip
          refine v_iconst (v := 1) F d_M_isSpeakingBy_114 ki_1 ?_
          refine v_goto F 119 d_M_isSpeakingBy_115 rfl ?_
          refine v_iret F hr rfl d_M_isSpeakingBy_119 ?_
          exact ⟨(bI_t (by first | (simp_all [talkB]; done) | grind [talkB])), rfl⟩
abbrev b_M_isSpeaking : ByteArray := prog_14_method_37_code
abbrev y_M_isSpeaking : MethodName := ⟨"TakerBookModel", "isSpeaking", "([II)Z"⟩
theorem d_M_isSpeaking_0 : decode b_M_isSpeaking 0 = .ok (.aload_n 0, 1) := by decide +kernel
theorem d_M_isSpeaking_1 : decode b_M_isSpeaking 1 = .ok (.getfield 36, 3) := by decide +kernel
theorem d_M_isSpeaking_4 : decode b_M_isSpeaking 4 = .ok (.iload_n 2, 1) := by decide +kernel
theorem d_M_isSpeaking_5 : decode b_M_isSpeaking 5 = .ok (.iaload, 1) := by decide +kernel
theorem d_M_isSpeaking_6 : decode b_M_isSpeaking 6 = .ok (.aload_n 0, 1) := by decide +kernel
theorem d_M_isSpeaking_7 : decode b_M_isSpeaking 7 = .ok (.getfield 42, 3) := by decide +kernel
theorem d_M_isSpeaking_10 : decode b_M_isSpeaking 10 = .ok (.iload_n 2, 1) := by decide +kernel
theorem d_M_isSpeaking_11 : decode b_M_isSpeaking 11 = .ok (.iaload, 1) := by decide +kernel
theorem d_M_isSpeaking_12 : decode b_M_isSpeaking 12 = .ok (.aload_n 0, 1) := by decide +kernel
theorem d_M_isSpeaking_13 : decode b_M_isSpeaking 13 = .ok (.getfield 33, 3) := by decide +kernel
theorem d_M_isSpeaking_16 : decode b_M_isSpeaking 16 = .ok (.iconst 2, 1) := by decide +kernel
theorem d_M_isSpeaking_17 : decode b_M_isSpeaking 17 = .ok (.iaload, 1) := by decide +kernel
theorem d_M_isSpeaking_18 : decode b_M_isSpeaking 18 = .ok (.aload_n 1, 1) := by decide +kernel
theorem d_M_isSpeaking_19 : decode b_M_isSpeaking 19 = .ok (.iconst 5, 1) := by decide +kernel
theorem d_M_isSpeaking_20 : decode b_M_isSpeaking 20 = .ok (.iload_n 2, 1) := by decide +kernel
theorem d_M_isSpeaking_21 : decode b_M_isSpeaking 21 = .ok (.iadd, 1) := by decide +kernel
theorem d_M_isSpeaking_22 : decode b_M_isSpeaking 22 = .ok (.iaload, 1) := by decide +kernel
theorem d_M_isSpeaking_23 : decode b_M_isSpeaking 23 = .ok (.aload_n 0, 1) := by decide +kernel
theorem d_M_isSpeaking_24 : decode b_M_isSpeaking 24 = .ok (.aload_n 1, 1) := by decide +kernel
theorem d_M_isSpeaking_25 : decode b_M_isSpeaking 25 = .ok (.iload_n 2, 1) := by decide +kernel
theorem d_M_isSpeaking_26 : decode b_M_isSpeaking 26 = .ok (.invokevirtual 159, 3) := by decide +kernel
theorem d_M_isSpeaking_29 : decode b_M_isSpeaking 29 = .ok (.invokestatic 163, 3) := by decide +kernel
theorem d_M_isSpeaking_32 : decode b_M_isSpeaking 32 = .ok (.ireturn, 1) := by decide +kernel
theorem mo_M_isSpeaking : mok y_M_isSpeaking b_M_isSpeaking 3 (some .boolean) 2 := ⟨List.mem_of_getElem? (i := 1234) (by decide +kernel), ⟨by decide +kernel, by decide +kernel, by decide +kernel⟩, List.mem_of_getElem? (i := 86) (by decide +kernel), by decide⟩
set_option maxHeartbeats 4000000 in
theorem c_M_isSpeaking (l : Launch) (u : Un) (hA : Ap u) (σ : St) {n : Nat} {kd : Nat → Nat} (hb : mkOk σ n kd) {kO a : Nat} (hO : ofOk kO) (ha : a < 64) (h0 : σ.1 kO 0 = nI a) (i : Nat) (hi : i < n) : MTi l u y_M_isSpeaking b_M_isSpeaking 3 .boolean 2 [.ref (u.2.1 63), .ref (u.2.1 kO), .int (nI i)] σ (fun ans σ' => bI (talkB (kd i) (σ.1 73 i) (σ.1 70 2) (σ.1 kO (5 + i)) (nI (othN a (gaN kd n) i)) = true) = ans ∧ σ = σ') := by
  refine MT_of hA rfl (by decide) (Nat.le_of_ble_eq_true rfl) (fun X hl F hr => ?_)
  subst hl
  refine v_to (ls' := [(0, .ref (u.2.1 63)), (1, .ref (u.2.1 kO)), (2, .int (nI i))]) rfl ?_
  obtain ⟨hn, hn6, hkd, hk6⟩ := id hb
  refine v_aload_n F d_M_isSpeaking_0 rfl 0 rfl ?_
  refine v_getr (r := 71) F fk_M_36 G63 rfl d_M_isSpeaking_1 ?_
  refine v_iload_n F d_M_isSpeaking_4 rfl 2 rfl ?_
  refine v_ial F i G71 rfl (by omega) d_M_isSpeaking_5 ?_
  refine v_te (y := nI (kd i)) (hkd _ (by omega)) ?_
  refine v_aload_n F d_M_isSpeaking_6 rfl 0 rfl ?_
  refine v_getr (r := 73) F fk_M_42 G63 rfl d_M_isSpeaking_7 ?_
  refine v_iload_n F d_M_isSpeaking_10 rfl 2 rfl ?_
  refine v_ial F i G73 rfl (by omega) d_M_isSpeaking_11 ?_
  refine v_aload_n F d_M_isSpeaking_12 rfl 0 rfl ?_
  refine v_getr (r := 70) F fk_M_33 G63 rfl d_M_isSpeaking_13 ?_
  refine v_iconst (v := 2) F d_M_isSpeaking_16 ki_2 ?_
  refine v_ial F 2 G70 rfl (by omega) d_M_isSpeaking_17 ?_
  refine v_aload_n F d_M_isSpeaking_18 rfl 1 rfl ?_
  refine v_iconst (v := 5) F d_M_isSpeaking_19 ki_5 ?_
  refine v_iload_n F d_M_isSpeaking_20 rfl 2 rfl ?_
  refine v_iadd F d_M_isSpeaking_21 ?_
  refine v_te (y := nI (5 + i)) (nI_add _ _) ?_
  refine v_ial F (5 + i) hO.gam rfl (by omega) d_M_isSpeaking_22 ?_
  refine v_aload_n F d_M_isSpeaking_23 rfl 0 rfl ?_
  refine v_aload_n F d_M_isSpeaking_24 rfl 1 rfl ?_
  refine v_iload_n F d_M_isSpeaking_25 rfl 2 rfl ?_
  refine v_runi (r_V F (c_M_others X.2.1 u hA σ hb (kO := kO) hO (by omega) h0 i (by omega)) mo_M_others st_M_159 rc_63 (by decide) rfl (Nat.le_of_ble_eq_true rfl) d_M_isSpeaking_26) (fun r1 σ2 q3 => ?_)
  obtain ⟨rfl, rfl⟩ := q3
  refine v_runi (r_S F (c_M_isSpeakingBy X.2.1 u hA σ (kd i) (hk6 _ (by omega)) (σ.1 73 i) (σ.1 70 2) (σ.1 kO (5 + i)) (nI (othN a (gaN kd n) i))) mo_M_isSpeakingBy st_M_163 (by decide) rfl (Nat.le_of_ble_eq_true rfl) d_M_isSpeaking_29) (fun r4 σ5 q6 => ?_)
  obtain ⟨rfl, rfl⟩ := q6
  refine v_iret F hr bI_nar d_M_isSpeaking_32 ?_
  exact ⟨rfl, rfl⟩
abbrev b_M_headOf : ByteArray := prog_14_method_38_code
abbrev y_M_headOf : MethodName := ⟨"TakerBookModel", "headOf", "([II)I"⟩
theorem d_M_headOf_0 : decode b_M_headOf 0 = .ok (.aload_n 0, 1) := by decide +kernel
theorem d_M_headOf_1 : decode b_M_headOf 1 = .ok (.getfield 33, 3) := by decide +kernel
theorem d_M_headOf_4 : decode b_M_headOf 4 = .ok (.iconst 0, 1) := by decide +kernel
theorem d_M_headOf_5 : decode b_M_headOf 5 = .ok (.iaload, 1) := by decide +kernel
theorem d_M_headOf_6 : decode b_M_headOf 6 = .ok (.aload_n 1, 1) := by decide +kernel
theorem d_M_headOf_7 : decode b_M_headOf 7 = .ok (.iconst 5, 1) := by decide +kernel
theorem d_M_headOf_8 : decode b_M_headOf 8 = .ok (.iload_n 2, 1) := by decide +kernel
theorem d_M_headOf_9 : decode b_M_headOf 9 = .ok (.iadd, 1) := by decide +kernel
theorem d_M_headOf_10 : decode b_M_headOf 10 = .ok (.iaload, 1) := by decide +kernel
theorem d_M_headOf_11 : decode b_M_headOf 11 = .ok (.iadd, 1) := by decide +kernel
theorem d_M_headOf_12 : decode b_M_headOf 12 = .ok (.istore_n 3, 1) := by decide +kernel
theorem d_M_headOf_13 : decode b_M_headOf 13 = .ok (.aload_n 0, 1) := by decide +kernel
theorem d_M_headOf_14 : decode b_M_headOf 14 = .ok (.getfield 36, 3) := by decide +kernel
theorem d_M_headOf_17 : decode b_M_headOf 17 = .ok (.iload_n 2, 1) := by decide +kernel
theorem d_M_headOf_18 : decode b_M_headOf 18 = .ok (.iaload, 1) := by decide +kernel
theorem d_M_headOf_19 : decode b_M_headOf 19 = .ok (.iconst 2, 1) := by decide +kernel
theorem d_M_headOf_20 : decode b_M_headOf 20 = .ok (.if_icmp .ne 9, 3) := by decide +kernel
theorem d_M_headOf_23 : decode b_M_headOf 23 = .ok (.iload_n 3, 1) := by decide +kernel
theorem d_M_headOf_24 : decode b_M_headOf 24 = .ok (.iconst 2, 1) := by decide +kernel
theorem d_M_headOf_25 : decode b_M_headOf 25 = .ok (.idiv, 1) := by decide +kernel
theorem d_M_headOf_26 : decode b_M_headOf 26 = .ok (.goto 28, 3) := by decide +kernel
theorem d_M_headOf_29 : decode b_M_headOf 29 = .ok (.aload_n 0, 1) := by decide +kernel
theorem d_M_headOf_30 : decode b_M_headOf 30 = .ok (.getfield 36, 3) := by decide +kernel
theorem d_M_headOf_33 : decode b_M_headOf 33 = .ok (.iload_n 2, 1) := by decide +kernel
theorem d_M_headOf_34 : decode b_M_headOf 34 = .ok (.iaload, 1) := by decide +kernel
theorem d_M_headOf_35 : decode b_M_headOf 35 = .ok (.iconst 5, 1) := by decide +kernel
theorem d_M_headOf_36 : decode b_M_headOf 36 = .ok (.if_icmp .ne 17, 3) := by decide +kernel
theorem d_M_headOf_39 : decode b_M_headOf 39 = .ok (.iload_n 3, 1) := by decide +kernel
theorem d_M_headOf_40 : decode b_M_headOf 40 = .ok (.ifCond .le 9, 3) := by decide +kernel
theorem d_M_headOf_43 : decode b_M_headOf 43 = .ok (.iload_n 3, 1) := by decide +kernel
theorem d_M_headOf_44 : decode b_M_headOf 44 = .ok (.iconst 1, 1) := by decide +kernel
theorem d_M_headOf_45 : decode b_M_headOf 45 = .ok (.isub, 1) := by decide +kernel
theorem d_M_headOf_46 : decode b_M_headOf 46 = .ok (.goto 8, 3) := by decide +kernel
theorem d_M_headOf_49 : decode b_M_headOf 49 = .ok (.iconst 0, 1) := by decide +kernel
theorem d_M_headOf_50 : decode b_M_headOf 50 = .ok (.goto 4, 3) := by decide +kernel
theorem d_M_headOf_53 : decode b_M_headOf 53 = .ok (.iload_n 3, 1) := by decide +kernel
theorem d_M_headOf_54 : decode b_M_headOf 54 = .ok (.ireturn, 1) := by decide +kernel
theorem mo_M_headOf : mok y_M_headOf b_M_headOf 4 (some .int) 2 := ⟨List.mem_of_getElem? (i := 1241) (by decide +kernel), ⟨by decide +kernel, by decide +kernel, by decide +kernel⟩, List.mem_of_getElem? (i := 86) (by decide +kernel), by decide⟩
set_option maxHeartbeats 4000000 in
theorem c_M_headOf (l : Launch) (u : Un) (hA : Ap u) (σ : St) {n : Nat} {kd : Nat → Nat} (hb : mkOk σ n kd) {kO a : Nat} (hO : ofOk kO) (ha : a < 64) (h0 : σ.1 kO 0 = nI a) (i : Nat) (hi : i < n) : MTi l u y_M_headOf b_M_headOf 4 .int 0 [.ref (u.2.1 63), .ref (u.2.1 kO), .int (nI i)] σ (fun ans σ' => priceM (kd i) (σ.1 70 0) (σ.1 kO (5 + i)) = ans ∧ σ = σ') := by
  refine MT_of hA rfl (by decide) (Nat.le_of_ble_eq_true rfl) (fun X hl F hr => ?_)
  subst hl
  refine v_to (ls' := [(0, .ref (u.2.1 63)), (1, .ref (u.2.1 kO)), (2, .int (nI i))]) rfl ?_
  obtain ⟨hn, hn6, hkd, hk6⟩ := id hb
  have hki := hk6 i hi
  refine v_aload_n F d_M_headOf_0 rfl 0 rfl ?_
  refine v_getr (r := 70) F fk_M_33 G63 rfl d_M_headOf_1 ?_
  refine v_iconst (v := 0) F d_M_headOf_4 ki_0 ?_
  refine v_ial F 0 G70 rfl (by omega) d_M_headOf_5 ?_
  refine v_aload_n F d_M_headOf_6 rfl 1 rfl ?_
  refine v_iconst (v := 5) F d_M_headOf_7 ki_5 ?_
  refine v_iload_n F d_M_headOf_8 rfl 2 rfl ?_
  refine v_iadd F d_M_headOf_9 ?_
  refine v_te (y := nI (5 + i)) (nI_add _ _) ?_
  refine v_ial F (5 + i) hO.gam rfl (by omega) d_M_headOf_10 ?_
  refine v_iadd F d_M_headOf_11 ?_
  refine v_ni (fun x1 ex1 => ?_)
  refine v_istore_n (ls' := [(3, .int x1), (0, .ref (u.2.1 63)), (1, .ref (u.2.1 kO)), (2, .int (nI i))]) F d_M_headOf_12 rfl (by decide) rfl ?_
  refine v_aload_n F d_M_headOf_13 rfl 1 rfl ?_
  refine v_getr (r := 71) F fk_M_36 G63 rfl d_M_headOf_14 ?_
  refine v_iload_n F d_M_headOf_17 rfl 3 rfl ?_
  refine v_ial F i G71 rfl (by omega) d_M_headOf_18 ?_
  refine v_te (y := nI (kd i)) (hkd _ (by omega)) ?_
  refine v_iconst (v := 2) F d_M_headOf_19 ki_2 ?_
  refine v_icmp_ne F 29 d_M_headOf_20 rfl (fun h20 => ?_) (fun h20 => ?_)
  · skip
    have h20 : ¬ kd i = 2 := fun q => h20 ((nI_eq (a := kd i) (b := 2) (by omega) (by omega)).mpr q)
    refine v_aload_n F d_M_headOf_29 rfl 1 rfl ?_
    refine v_getr (r := 71) F fk_M_36 G63 rfl d_M_headOf_30 ?_
    refine v_iload_n F d_M_headOf_33 rfl 3 rfl ?_
    refine v_ial F i G71 rfl (by omega) d_M_headOf_34 ?_
    refine v_te (y := nI (kd i)) (hkd _ (by omega)) ?_
    refine v_iconst (v := 5) F d_M_headOf_35 ki_5 ?_
    refine v_icmp_ne F 53 d_M_headOf_36 rfl (fun h36 => ?_) (fun h36 => ?_)
    · skip
      have h36 : ¬ kd i = 5 := fun q => h36 ((nI_eq (a := kd i) (b := 5) (by omega) (by omega)).mpr q)
      refine v_iload_n F d_M_headOf_53 rfl 0 rfl ?_
      refine v_iret F hr rfl d_M_headOf_54 ?_
      exact ⟨by first | (simp_all [priceM]; done) | (simp_all [priceM]; grind), rfl⟩
    · skip
      have h36 : kd i = 5 := (nI_eq (a := kd i) (b := 5) (by omega) (by omega)).mp h36
      refine v_iload_n F d_M_headOf_39 rfl 0 rfl ?_
      refine v_if_le F 49 d_M_headOf_40 rfl (fun h40 => ?_) (fun h40 => ?_)
      · skip
        have h40 := i_nlt.mpr h40
        refine v_iconst (v := 0) F d_M_headOf_49 ki_0 ?_
        refine v_goto F 54 d_M_headOf_50 rfl ?_
        refine v_iret F hr rfl d_M_headOf_54 ?_
        exact ⟨by first | (simp_all [priceM]; done) | (simp_all [priceM]; grind), rfl⟩
      · skip
        refine v_iload_n F d_M_headOf_43 rfl 0 rfl ?_
        refine v_iconst (v := 1) F d_M_headOf_44 ki_1 ?_
        refine v_isub F d_M_headOf_45 ?_
        refine v_goto F 54 d_M_headOf_46 rfl ?_
        refine v_iret F hr rfl d_M_headOf_54 ?_
        exact ⟨by first | (simp_all [priceM]; done) | (simp_all [priceM]; grind), rfl⟩
  · skip
    have h20 : kd i = 2 := (nI_eq (a := kd i) (b := 2) (by omega) (by omega)).mp h20
    refine v_iload_n F d_M_headOf_23 rfl 0 rfl ?_
    refine v_iconst (v := 2) F d_M_headOf_24 ki_2 ?_
    refine v_idiv F d_M_headOf_25 (by decide) ?_
    refine v_goto F 54 d_M_headOf_26 rfl ?_
    refine v_iret F hr rfl d_M_headOf_54 ?_
    exact ⟨by first | (simp_all [priceM]; done) | (simp_all [priceM]; grind), rfl⟩
abbrev b_M_speakers : ByteArray := prog_14_method_39_code
abbrev y_M_speakers : MethodName := ⟨"TakerBookModel", "speakers", "([I)I"⟩
theorem d_M_speakers_0 : decode b_M_speakers 0 = .ok (.iconst 0, 1) := by decide +kernel
theorem d_M_speakers_1 : decode b_M_speakers 1 = .ok (.istore_n 2, 1) := by decide +kernel
theorem d_M_speakers_2 : decode b_M_speakers 2 = .ok (.iconst 0, 1) := by decide +kernel
theorem d_M_speakers_3 : decode b_M_speakers 3 = .ok (.istore_n 3, 1) := by decide +kernel
theorem d_M_speakers_4 : decode b_M_speakers 4 = .ok (.iload_n 3, 1) := by decide +kernel
theorem d_M_speakers_5 : decode b_M_speakers 5 = .ok (.aload_n 0, 1) := by decide +kernel
theorem d_M_speakers_6 : decode b_M_speakers 6 = .ok (.getfield 146, 3) := by decide +kernel
theorem d_M_speakers_9 : decode b_M_speakers 9 = .ok (.if_icmp .ge 38, 3) := by decide +kernel
theorem d_M_speakers_12 : decode b_M_speakers 12 = .ok (.iload_n 2, 1) := by decide +kernel
theorem d_M_speakers_13 : decode b_M_speakers 13 = .ok (.aload_n 1, 1) := by decide +kernel
theorem d_M_speakers_14 : decode b_M_speakers 14 = .ok (.iconst 0, 1) := by decide +kernel
theorem d_M_speakers_15 : decode b_M_speakers 15 = .ok (.iaload, 1) := by decide +kernel
theorem d_M_speakers_16 : decode b_M_speakers 16 = .ok (.iload_n 3, 1) := by decide +kernel
theorem d_M_speakers_17 : decode b_M_speakers 17 = .ok (.invokestatic 155, 3) := by decide +kernel
theorem d_M_speakers_20 : decode b_M_speakers 20 = .ok (.ifCond .eq 18, 3) := by decide +kernel
theorem d_M_speakers_23 : decode b_M_speakers 23 = .ok (.aload_n 0, 1) := by decide +kernel
theorem d_M_speakers_24 : decode b_M_speakers 24 = .ok (.aload_n 1, 1) := by decide +kernel
theorem d_M_speakers_25 : decode b_M_speakers 25 = .ok (.iload_n 3, 1) := by decide +kernel
theorem d_M_speakers_26 : decode b_M_speakers 26 = .ok (.invokevirtual 167, 3) := by decide +kernel
theorem d_M_speakers_29 : decode b_M_speakers 29 = .ok (.ifCond .eq 9, 3) := by decide +kernel
theorem d_M_speakers_32 : decode b_M_speakers 32 = .ok (.iconst 1, 1) := by decide +kernel
theorem d_M_speakers_33 : decode b_M_speakers 33 = .ok (.iload_n 3, 1) := by decide +kernel
theorem d_M_speakers_34 : decode b_M_speakers 34 = .ok (.ishl, 1) := by decide +kernel
theorem d_M_speakers_35 : decode b_M_speakers 35 = .ok (.goto 4, 3) := by decide +kernel
theorem d_M_speakers_38 : decode b_M_speakers 38 = .ok (.iconst 0, 1) := by decide +kernel
theorem d_M_speakers_39 : decode b_M_speakers 39 = .ok (.ior, 1) := by decide +kernel
theorem d_M_speakers_40 : decode b_M_speakers 40 = .ok (.istore_n 2, 1) := by decide +kernel
theorem d_M_speakers_41 : decode b_M_speakers 41 = .ok (.iinc 3 1, 3) := by decide +kernel
theorem d_M_speakers_44 : decode b_M_speakers 44 = .ok (.goto (-40), 3) := by decide +kernel
theorem d_M_speakers_47 : decode b_M_speakers 47 = .ok (.iload_n 2, 1) := by decide +kernel
theorem d_M_speakers_48 : decode b_M_speakers 48 = .ok (.ireturn, 1) := by decide +kernel
theorem mo_M_speakers : mok y_M_speakers b_M_speakers 4 (some .int) 1 := ⟨List.mem_of_getElem? (i := 1249) (by decide +kernel), ⟨by decide +kernel, by decide +kernel, by decide +kernel⟩, List.mem_of_getElem? (i := 86) (by decide +kernel), by decide⟩
set_option maxHeartbeats 4000000 in
theorem L_M_speakers_4 {X : FX} {u : Un} (hA : Ap u) {Q : State → Prop} (F : Fr X u "TakerBookModel" b_M_speakers 4) {σ : St} {n : Nat} {kd : Nat → Nat} (hb : mkOk σ n kd) {kO a : Nat} (hO : ofOk kO) (ha : a < 64) (h0 : σ.1 kO 0 = nI a) (k : V X u 3 4 Q 47 [(0, .ref (u.2.1 63)), (1, .ref (u.2.1 kO)), (2, .int (nI (mkN (tkM σ kO kd n a) n))), (3, .int (nI n))] [] (σ)) : ∀ (nn i : Nat), i ≤ n → n - i < nn → V X u 3 4 Q 4 [(0, .ref (u.2.1 63)), (1, .ref (u.2.1 kO)), (2, .int (nI (mkN (tkM σ kO kd n a) i))), (3, .int (nI i))] [] (σ) := by
  intro nn
  induction nn with
  | zero =>
    intro i h1 h2
    exact absurd h2 (Nat.not_lt_zero _)
  | succ nn ih =>
    intro i hii hnn
    obtain ⟨hn, hn6, hkd, hk6⟩ := id hb
    refine v_iload_n F d_M_speakers_4 rfl 3 rfl ?_
    refine v_aload_n F d_M_speakers_5 rfl 0 rfl ?_
    refine v_geti F fk_M_146 G63 rfl d_M_speakers_6 ?_
    refine v_te (y := nI n) hn ?_
    refine v_icmp_ge F 47 d_M_speakers_9 rfl (fun h9 => ?_) (fun h9 => ?_)
    · skip
      have h9 : n ≤ i := (nI_leI (a := n) (b := i) (by omega) (by omega)).mp h9
      have he : i = n := by omega
      subst he
      exact k
    · skip
      have h9 : ¬ n ≤ i := fun q => h9 ((nI_leI (a := n) (b := i) (by omega) (by omega)).mpr q)
      refine v_iload_n F d_M_speakers_12 rfl 2 rfl ?_
      refine v_aload_n F d_M_speakers_13 rfl 1 rfl ?_
      refine v_iconst (v := 0) F d_M_speakers_14 ki_0 ?_
      refine v_ial F 0 hO.gam rfl (by omega) d_M_speakers_15 ?_
      refine v_te (y := nI a) h0 ?_
      refine v_iload_n F d_M_speakers_16 rfl 3 rfl ?_
      refine v_runi (r_S F (c_M_has2 X.2.1 u hA σ i a (by omega) (by omega)) mo_M_has st_M_155 (by decide) rfl (Nat.le_of_ble_eq_true rfl) d_M_speakers_17) (fun r1 σ2 q3 => ?_)
      obtain ⟨rfl, rfl⟩ := q3
      refine v_bt F 38 d_M_speakers_20 rfl (fun h20 => ?_) (fun h20 => ?_)
      · skip
        refine v_iconst (v := 0) F d_M_speakers_38 ki_0 ?_
        refine v_ior F d_M_speakers_39 ?_
        refine v_te (y := nI ((mkN (tkM σ kO kd n a) i) ||| 0)) nI_or ?_
        refine v_ni (fun x4 ex4 => ?_)
        refine v_istore_n (ls' := [(2, .int x4), (0, .ref (u.2.1 63)), (1, .ref (u.2.1 kO)), (3, .int (nI i))]) F d_M_speakers_40 rfl (by decide) rfl ?_
        refine v_iinc (v := nI (i + 1)) (ls' := [(3, .int (nI (i + 1))), (2, .int x4), (0, .ref (u.2.1 63)), (1, .ref (u.2.1 kO))]) F d_M_speakers_41 (j := 3) rfl (nI_inc _) (by decide) rfl ?_
        refine v_goto F 4 d_M_speakers_44 rfl ?_
        refine v_sub [2, 3, 1, 0] (ls' := [(0, .ref (u.2.1 63)), (1, .ref (u.2.1 kO)), (2, .int x4), (3, .int (nI (i + 1)))]) rfl ?_
        have g5 : x4 = (nI (mkN (tkM σ kO kd n a) (i + 1))) := (by first | rfl | (simp [mkN, tkM, tkF, *]; done) | (simp_all [mkN, tkM, tkF]; done) | grind [mkN, tkM, tkF])
        refine v_to (ls' := [(0, .ref (u.2.1 63)), (1, .ref (u.2.1 kO)), (2, .int (nI (mkN (tkM σ kO kd n a) (i + 1)))), (3, .int (nI (i + 1)))]) (by first | rfl | rw [g5] | simp_all) ?_
        exact ih (i + 1) (by omega) (by omega)
      · skip
        refine v_aload_n F d_M_speakers_23 rfl 0 rfl ?_
        refine v_aload_n F d_M_speakers_24 rfl 1 rfl ?_
        refine v_iload_n F d_M_speakers_25 rfl 3 rfl ?_
        refine v_runi (r_V F (c_M_isSpeaking X.2.1 u hA σ hb (kO := kO) hO (by omega) h0 i (by omega)) mo_M_isSpeaking st_M_167 rc_63 (by decide) rfl (Nat.le_of_ble_eq_true rfl) d_M_speakers_26) (fun r6 σ7 q8 => ?_)
        obtain ⟨rfl, rfl⟩ := q8
        refine v_bt F 38 d_M_speakers_29 rfl (fun h29 => ?_) (fun h29 => ?_)
        · skip
          refine v_iconst (v := 0) F d_M_speakers_38 ki_0 ?_
          refine v_ior F d_M_speakers_39 ?_
          refine v_te (y := nI ((mkN (tkM σ kO kd n a) i) ||| 0)) nI_or ?_
          refine v_ni (fun x9 ex9 => ?_)
          refine v_istore_n (ls' := [(2, .int x9), (0, .ref (u.2.1 63)), (1, .ref (u.2.1 kO)), (3, .int (nI i))]) F d_M_speakers_40 rfl (by decide) rfl ?_
          refine v_iinc (v := nI (i + 1)) (ls' := [(3, .int (nI (i + 1))), (2, .int x9), (0, .ref (u.2.1 63)), (1, .ref (u.2.1 kO))]) F d_M_speakers_41 (j := 3) rfl (nI_inc _) (by decide) rfl ?_
          refine v_goto F 4 d_M_speakers_44 rfl ?_
          refine v_sub [2, 3, 1, 0] (ls' := [(0, .ref (u.2.1 63)), (1, .ref (u.2.1 kO)), (2, .int x9), (3, .int (nI (i + 1)))]) rfl ?_
          have g10 : x9 = (nI (mkN (tkM σ kO kd n a) (i + 1))) := (by first | rfl | (simp [mkN, tkM, tkF, *]; done) | (simp_all [mkN, tkM, tkF]; done) | grind [mkN, tkM, tkF])
          refine v_to (ls' := [(0, .ref (u.2.1 63)), (1, .ref (u.2.1 kO)), (2, .int (nI (mkN (tkM σ kO kd n a) (i + 1)))), (3, .int (nI (i + 1)))]) (by first | rfl | rw [g10] | simp_all) ?_
          exact ih (i + 1) (by omega) (by omega)
        · skip
          refine v_iconst (v := 1) F d_M_speakers_32 ki_1 ?_
          refine v_iload_n F d_M_speakers_33 rfl 3 rfl ?_
          refine v_ishl F d_M_speakers_34 ?_
          refine v_te (y := nI (2 ^ i)) (bit6 _ (by omega)) ?_
          refine v_goto F 39 d_M_speakers_35 rfl ?_
          refine v_ior F d_M_speakers_39 ?_
          refine v_te (y := nI ((mkN (tkM σ kO kd n a) i) ||| (2 ^ i))) nI_or ?_
          refine v_ni (fun x11 ex11 => ?_)
          refine v_istore_n (ls' := [(2, .int x11), (0, .ref (u.2.1 63)), (1, .ref (u.2.1 kO)), (3, .int (nI i))]) F d_M_speakers_40 rfl (by decide) rfl ?_
          refine v_iinc (v := nI (i + 1)) (ls' := [(3, .int (nI (i + 1))), (2, .int x11), (0, .ref (u.2.1 63)), (1, .ref (u.2.1 kO))]) F d_M_speakers_41 (j := 3) rfl (nI_inc _) (by decide) rfl ?_
          refine v_goto F 4 d_M_speakers_44 rfl ?_
          refine v_sub [2, 3, 1, 0] (ls' := [(0, .ref (u.2.1 63)), (1, .ref (u.2.1 kO)), (2, .int x11), (3, .int (nI (i + 1)))]) rfl ?_
          have g12 : x11 = (nI (mkN (tkM σ kO kd n a) (i + 1))) := (by first | rfl | (simp [mkN, tkM, tkF, *]; done) | (simp_all [mkN, tkM, tkF]; done) | grind [mkN, tkM, tkF])
          refine v_to (ls' := [(0, .ref (u.2.1 63)), (1, .ref (u.2.1 kO)), (2, .int (nI (mkN (tkM σ kO kd n a) (i + 1)))), (3, .int (nI (i + 1)))]) (by first | rfl | rw [g12] | simp_all) ?_
          exact ih (i + 1) (by omega) (by omega)
set_option maxHeartbeats 4000000 in
theorem c_M_speakers (l : Launch) (u : Un) (hA : Ap u) (σ : St) {n : Nat} {kd : Nat → Nat} (hb : mkOk σ n kd) {kO a : Nat} (hO : ofOk kO) (ha : a < 64) (h0 : σ.1 kO 0 = nI a) : MTi l u y_M_speakers b_M_speakers 4 .int 3 [.ref (u.2.1 63), .ref (u.2.1 kO)] σ (fun ans σ' => nI (mkN (tkM σ kO kd n a) n) = ans ∧ σ = σ') := by
  refine MT_of hA rfl (by decide) (Nat.le_of_ble_eq_true rfl) (fun X hl F hr => ?_)
  subst hl
  refine v_to (ls' := [(0, .ref (u.2.1 63)), (1, .ref (u.2.1 kO))]) rfl ?_
  obtain ⟨hn, hn6, hkd, hk6⟩ := id hb
  refine v_iconst (v := 0) F d_M_speakers_0 ki_0 ?_
  refine v_istore_n (ls' := [(2, .int 0), (0, .ref (u.2.1 63)), (1, .ref (u.2.1 kO))]) F d_M_speakers_1 rfl (by decide) rfl ?_
  refine v_iconst (v := 0) F d_M_speakers_2 ki_0 ?_
  refine v_istore_n (ls' := [(3, .int 0), (2, .int 0), (0, .ref (u.2.1 63)), (1, .ref (u.2.1 kO))]) F d_M_speakers_3 rfl (by decide) rfl ?_
  refine v_sub [2, 3, 1, 0] (ls' := [(0, .ref (u.2.1 63)), (1, .ref (u.2.1 kO)), (2, .int 0), (3, .int 0)]) rfl ?_
  have g1 : 0 = (nI (mkN (tkM σ kO kd n a) 0)) := (by first | rfl | (simp [mkN, tkM, tkF, *]; done) | (simp_all [mkN, tkM, tkF]; done) | grind [mkN, tkM, tkF])
  have g2 : 0 = (nI 0) := (by first | rfl | (simp [mkN, tkM, tkF, *]; done) | (simp_all [mkN, tkM, tkF]; done) | grind [mkN, tkM, tkF])
  refine v_to (ls' := [(0, .ref (u.2.1 63)), (1, .ref (u.2.1 kO)), (2, .int (nI (mkN (tkM σ kO kd n a) 0))), (3, .int (nI 0))]) (by first | rfl | rw [g1, g2] | simp_all) ?_
  refine L_M_speakers_4 hA F hb hO ha h0 ?_ _ 0 (Nat.zero_le _) (Nat.lt_succ_self _)
  refine v_iload_n F d_M_speakers_47 rfl 2 rfl ?_
  refine v_iret F hr rfl d_M_speakers_48 ?_
  exact ⟨rfl, rfl⟩
abbrev b_M_isTrial : ByteArray := prog_14_method_40_code
abbrev y_M_isTrial : MethodName := ⟨"TakerBookModel", "isTrial", "([I)Z"⟩
theorem d_M_isTrial_0 : decode b_M_isTrial 0 = .ok (.aload_n 0, 1) := by decide +kernel
theorem d_M_isTrial_1 : decode b_M_isTrial 1 = .ok (.aload_n 1, 1) := by decide +kernel
theorem d_M_isTrial_2 : decode b_M_isTrial 2 = .ok (.invokevirtual 171, 3) := by decide +kernel
theorem d_M_isTrial_5 : decode b_M_isTrial 5 = .ok (.invokestatic 175, 3) := by decide +kernel
theorem d_M_isTrial_8 : decode b_M_isTrial 8 = .ok (.aload_n 0, 1) := by decide +kernel
theorem d_M_isTrial_9 : decode b_M_isTrial 9 = .ok (.getfield 33, 3) := by decide +kernel
theorem d_M_isTrial_12 : decode b_M_isTrial 12 = .ok (.iconst 3, 1) := by decide +kernel
theorem d_M_isTrial_13 : decode b_M_isTrial 13 = .ok (.iaload, 1) := by decide +kernel
theorem d_M_isTrial_14 : decode b_M_isTrial 14 = .ok (.if_icmp .lt 7, 3) := by decide +kernel
theorem d_M_isTrial_17 : decode b_M_isTrial 17 = .ok (.iconst 1, 1) := by decide +kernel
theorem d_M_isTrial_18 : decode b_M_isTrial 18 = .ok (.goto 4, 3) := by decide +kernel
theorem d_M_isTrial_21 : decode b_M_isTrial 21 = .ok (.iconst 0, 1) := by decide +kernel
theorem d_M_isTrial_22 : decode b_M_isTrial 22 = .ok (.ireturn, 1) := by decide +kernel
theorem mo_M_isTrial : mok y_M_isTrial b_M_isTrial 2 (some .boolean) 1 := ⟨List.mem_of_getElem? (i := 1272) (by decide +kernel), ⟨by decide +kernel, by decide +kernel, by decide +kernel⟩, List.mem_of_getElem? (i := 86) (by decide +kernel), by decide⟩
set_option maxHeartbeats 4000000 in
theorem c_M_isTrial (l : Launch) (u : Un) (hA : Ap u) (σ : St) {n : Nat} {kd : Nat → Nat} (hb : mkOk σ n kd) {kO a : Nat} (hO : ofOk kO) (ha : a < 64) (h0 : σ.1 kO 0 = nI a) : MTi l u y_M_isTrial b_M_isTrial 2 .boolean 4 [.ref (u.2.1 63), .ref (u.2.1 kO)] σ (fun ans σ' => bI (σ.1 70 3 ≤ nI (pcN (mkN (tkM σ kO kd n a) n))) = ans ∧ σ = σ') := by
  refine MT_of hA rfl (by decide) (Nat.le_of_ble_eq_true rfl) (fun X hl F hr => ?_)
  subst hl
  refine v_to (ls' := [(0, .ref (u.2.1 63)), (1, .ref (u.2.1 kO))]) rfl ?_
  obtain ⟨hn, hn6, hkd, hk6⟩ := id hb
  refine v_aload_n F d_M_isTrial_0 rfl 0 rfl ?_
  refine v_aload_n F d_M_isTrial_1 rfl 1 rfl ?_
  refine v_runi (r_V F (c_M_speakers X.2.1 u hA σ hb (kO := kO) hO (by omega) h0  ) mo_M_speakers st_M_171 rc_63 (by decide) rfl (Nat.le_of_ble_eq_true rfl) d_M_isTrial_2) (fun r1 σ2 q3 => ?_)
  obtain ⟨rfl, rfl⟩ := q3
  refine v_runi (r_S F (c_M_bits X.2.1 u hA σ (mkN (tkM σ kO kd n a) n) (mkN_64 _ hn6)) mo_M_bits st_M_175 (by decide) rfl (Nat.le_of_ble_eq_true rfl) d_M_isTrial_5) (fun r4 σ5 q6 => ?_)
  obtain ⟨rfl, rfl⟩ := q6
  refine v_aload_n F d_M_isTrial_8 rfl 0 rfl ?_
  refine v_getr (r := 70) F fk_M_33 G63 rfl d_M_isTrial_9 ?_
  refine v_iconst (v := 3) F d_M_isTrial_12 ki_3 ?_
  refine v_ial F 3 G70 rfl (by omega) d_M_isTrial_13 ?_
  refine v_icmp_lt F 21 d_M_isTrial_14 rfl (fun h14 => ?_) (fun h14 => ?_)
  · skip
    refine v_iconst (v := 0) F d_M_isTrial_21 ki_0 ?_
    refine v_iret F hr rfl d_M_isTrial_22 ?_
    exact ⟨(bI_f (by first | (simp_all [inR]; done) | grind)), rfl⟩
  · skip
    refine v_iconst (v := 1) F d_M_isTrial_17 ki_1 ?_
    refine v_goto F 22 d_M_isTrial_18 rfl ?_
    refine v_iret F hr rfl d_M_isTrial_22 ?_
    exact ⟨(bI_t (by first | (simp_all [inR]; done) | grind)), rfl⟩
abbrev b_M_loot : ByteArray := prog_14_method_41_code
abbrev y_M_loot : MethodName := ⟨"TakerBookModel", "loot", "([I)I"⟩
theorem d_M_loot_0 : decode b_M_loot 0 = .ok (.iconst 0, 1) := by decide +kernel
theorem d_M_loot_1 : decode b_M_loot 1 = .ok (.istore_n 2, 1) := by decide +kernel
theorem d_M_loot_2 : decode b_M_loot 2 = .ok (.iconst 0, 1) := by decide +kernel
theorem d_M_loot_3 : decode b_M_loot 3 = .ok (.istore_n 3, 1) := by decide +kernel
theorem d_M_loot_4 : decode b_M_loot 4 = .ok (.iload_n 3, 1) := by decide +kernel
theorem d_M_loot_5 : decode b_M_loot 5 = .ok (.aload_n 0, 1) := by decide +kernel
theorem d_M_loot_6 : decode b_M_loot 6 = .ok (.getfield 146, 3) := by decide +kernel
theorem d_M_loot_9 : decode b_M_loot 9 = .ok (.if_icmp .ge 32, 3) := by decide +kernel
theorem d_M_loot_12 : decode b_M_loot 12 = .ok (.iload_n 2, 1) := by decide +kernel
theorem d_M_loot_13 : decode b_M_loot 13 = .ok (.aload_n 1, 1) := by decide +kernel
theorem d_M_loot_14 : decode b_M_loot 14 = .ok (.iconst 0, 1) := by decide +kernel
theorem d_M_loot_15 : decode b_M_loot 15 = .ok (.iaload, 1) := by decide +kernel
theorem d_M_loot_16 : decode b_M_loot 16 = .ok (.iload_n 3, 1) := by decide +kernel
theorem d_M_loot_17 : decode b_M_loot 17 = .ok (.invokestatic 155, 3) := by decide +kernel
theorem d_M_loot_20 : decode b_M_loot 20 = .ok (.ifCond .eq 12, 3) := by decide +kernel
theorem d_M_loot_23 : decode b_M_loot 23 = .ok (.aload_n 0, 1) := by decide +kernel
theorem d_M_loot_24 : decode b_M_loot 24 = .ok (.aload_n 1, 1) := by decide +kernel
theorem d_M_loot_25 : decode b_M_loot 25 = .ok (.iload_n 3, 1) := by decide +kernel
theorem d_M_loot_26 : decode b_M_loot 26 = .ok (.invokevirtual 178, 3) := by decide +kernel
theorem d_M_loot_29 : decode b_M_loot 29 = .ok (.goto 4, 3) := by decide +kernel
theorem d_M_loot_32 : decode b_M_loot 32 = .ok (.iconst 0, 1) := by decide +kernel
theorem d_M_loot_33 : decode b_M_loot 33 = .ok (.iadd, 1) := by decide +kernel
theorem d_M_loot_34 : decode b_M_loot 34 = .ok (.istore_n 2, 1) := by decide +kernel
theorem d_M_loot_35 : decode b_M_loot 35 = .ok (.iinc 3 1, 3) := by decide +kernel
theorem d_M_loot_38 : decode b_M_loot 38 = .ok (.goto (-34), 3) := by decide +kernel
theorem d_M_loot_41 : decode b_M_loot 41 = .ok (.iload_n 2, 1) := by decide +kernel
theorem d_M_loot_42 : decode b_M_loot 42 = .ok (.ireturn, 1) := by decide +kernel
theorem mo_M_loot : mok y_M_loot b_M_loot 4 (some .int) 1 := ⟨List.mem_of_getElem? (i := 1276) (by decide +kernel), ⟨by decide +kernel, by decide +kernel, by decide +kernel⟩, List.mem_of_getElem? (i := 86) (by decide +kernel), by decide⟩
set_option maxHeartbeats 4000000 in
theorem L_M_loot_4 {X : FX} {u : Un} (hA : Ap u) {Q : State → Prop} (F : Fr X u "TakerBookModel" b_M_loot 4) {σ : St} {n : Nat} {kd : Nat → Nat} (hb : mkOk σ n kd) {kO a : Nat} (hO : ofOk kO) (ha : a < 64) (h0 : σ.1 kO 0 = nI a) (k : V X u 3 4 Q 41 [(0, .ref (u.2.1 63)), (1, .ref (u.2.1 kO)), (2, .int (sumI (ltA kd (σ.1 72) (gaN kd n) a) n)), (3, .int (nI n))] [] (σ)) : ∀ (nn i : Nat), i ≤ n → n - i < nn → V X u 3 4 Q 4 [(0, .ref (u.2.1 63)), (1, .ref (u.2.1 kO)), (2, .int (sumI (ltA kd (σ.1 72) (gaN kd n) a) i)), (3, .int (nI i))] [] (σ) := by
  intro nn
  induction nn with
  | zero =>
    intro i h1 h2
    exact absurd h2 (Nat.not_lt_zero _)
  | succ nn ih =>
    intro i hii hnn
    obtain ⟨hn, hn6, hkd, hk6⟩ := id hb
    refine v_iload_n F d_M_loot_4 rfl 3 rfl ?_
    refine v_aload_n F d_M_loot_5 rfl 0 rfl ?_
    refine v_geti F fk_M_146 G63 rfl d_M_loot_6 ?_
    refine v_te (y := nI n) hn ?_
    refine v_icmp_ge F 41 d_M_loot_9 rfl (fun h9 => ?_) (fun h9 => ?_)
    · skip
      have h9 : n ≤ i := (nI_leI (a := n) (b := i) (by omega) (by omega)).mp h9
      have he : i = n := by omega
      subst he
      exact k
    · skip
      have h9 : ¬ n ≤ i := fun q => h9 ((nI_leI (a := n) (b := i) (by omega) (by omega)).mpr q)
      refine v_iload_n F d_M_loot_12 rfl 2 rfl ?_
      refine v_aload_n F d_M_loot_13 rfl 1 rfl ?_
      refine v_iconst (v := 0) F d_M_loot_14 ki_0 ?_
      refine v_ial F 0 hO.gam rfl (by omega) d_M_loot_15 ?_
      refine v_te (y := nI a) h0 ?_
      refine v_iload_n F d_M_loot_16 rfl 3 rfl ?_
      refine v_runi (r_S F (c_M_has2 X.2.1 u hA σ i a (by omega) (by omega)) mo_M_has st_M_155 (by decide) rfl (Nat.le_of_ble_eq_true rfl) d_M_loot_17) (fun r1 σ2 q3 => ?_)
      obtain ⟨rfl, rfl⟩ := q3
      refine v_bt F 32 d_M_loot_20 rfl (fun h20 => ?_) (fun h20 => ?_)
      · skip
        refine v_iconst (v := 0) F d_M_loot_32 ki_0 ?_
        refine v_iadd F d_M_loot_33 ?_
        refine v_ni (fun x4 ex4 => ?_)
        refine v_istore_n (ls' := [(2, .int x4), (0, .ref (u.2.1 63)), (1, .ref (u.2.1 kO)), (3, .int (nI i))]) F d_M_loot_34 rfl (by decide) rfl ?_
        refine v_iinc (v := nI (i + 1)) (ls' := [(3, .int (nI (i + 1))), (2, .int x4), (0, .ref (u.2.1 63)), (1, .ref (u.2.1 kO))]) F d_M_loot_35 (j := 3) rfl (nI_inc _) (by decide) rfl ?_
        refine v_goto F 4 d_M_loot_38 rfl ?_
        refine v_sub [2, 3, 1, 0] (ls' := [(0, .ref (u.2.1 63)), (1, .ref (u.2.1 kO)), (2, .int x4), (3, .int (nI (i + 1)))]) rfl ?_
        have g5 : x4 = (sumI (ltA kd (σ.1 72) (gaN kd n) a) (i + 1)) := (by first | rfl | (simp [sumI, ltA, *]; done) | (simp_all [sumI, ltA]; done) | grind [sumI, ltA])
        refine v_to (ls' := [(0, .ref (u.2.1 63)), (1, .ref (u.2.1 kO)), (2, .int (sumI (ltA kd (σ.1 72) (gaN kd n) a) (i + 1))), (3, .int (nI (i + 1)))]) (by first | rfl | rw [g5] | simp_all) ?_
        exact ih (i + 1) (by omega) (by omega)
      · skip
        refine v_aload_n F d_M_loot_23 rfl 0 rfl ?_
        refine v_aload_n F d_M_loot_24 rfl 1 rfl ?_
        refine v_iload_n F d_M_loot_25 rfl 3 rfl ?_
        refine v_runi (r_V F (c_M_steals X.2.1 u hA σ hb (kO := kO) hO (by omega) h0 i (by omega)) mo_M_steals st_M_178 rc_63 (by decide) rfl (Nat.le_of_ble_eq_true rfl) d_M_loot_26) (fun r6 σ7 q8 => ?_)
        obtain ⟨rfl, rfl⟩ := q8
        refine v_goto F 33 d_M_loot_29 rfl ?_
        refine v_iadd F d_M_loot_33 ?_
        refine v_ni (fun x9 ex9 => ?_)
        refine v_istore_n (ls' := [(2, .int x9), (0, .ref (u.2.1 63)), (1, .ref (u.2.1 kO)), (3, .int (nI i))]) F d_M_loot_34 rfl (by decide) rfl ?_
        refine v_iinc (v := nI (i + 1)) (ls' := [(3, .int (nI (i + 1))), (2, .int x9), (0, .ref (u.2.1 63)), (1, .ref (u.2.1 kO))]) F d_M_loot_35 (j := 3) rfl (nI_inc _) (by decide) rfl ?_
        refine v_goto F 4 d_M_loot_38 rfl ?_
        refine v_sub [2, 3, 1, 0] (ls' := [(0, .ref (u.2.1 63)), (1, .ref (u.2.1 kO)), (2, .int x9), (3, .int (nI (i + 1)))]) rfl ?_
        have g10 : x9 = (sumI (ltA kd (σ.1 72) (gaN kd n) a) (i + 1)) := (by first | rfl | (simp [sumI, ltA, *]; done) | (simp_all [sumI, ltA]; done) | grind [sumI, ltA])
        refine v_to (ls' := [(0, .ref (u.2.1 63)), (1, .ref (u.2.1 kO)), (2, .int (sumI (ltA kd (σ.1 72) (gaN kd n) a) (i + 1))), (3, .int (nI (i + 1)))]) (by first | rfl | rw [g10] | simp_all) ?_
        exact ih (i + 1) (by omega) (by omega)
set_option maxHeartbeats 4000000 in
theorem c_M_loot (l : Launch) (u : Un) (hA : Ap u) (σ : St) {n : Nat} {kd : Nat → Nat} (hb : mkOk σ n kd) {kO a : Nat} (hO : ofOk kO) (ha : a < 64) (h0 : σ.1 kO 0 = nI a) : MTi l u y_M_loot b_M_loot 4 .int 3 [.ref (u.2.1 63), .ref (u.2.1 kO)] σ (fun ans σ' => sumI (ltA kd (σ.1 72) (gaN kd n) a) n = ans ∧ σ = σ') := by
  refine MT_of hA rfl (by decide) (Nat.le_of_ble_eq_true rfl) (fun X hl F hr => ?_)
  subst hl
  refine v_to (ls' := [(0, .ref (u.2.1 63)), (1, .ref (u.2.1 kO))]) rfl ?_
  obtain ⟨hn, hn6, hkd, hk6⟩ := id hb
  refine v_iconst (v := 0) F d_M_loot_0 ki_0 ?_
  refine v_istore_n (ls' := [(2, .int 0), (0, .ref (u.2.1 63)), (1, .ref (u.2.1 kO))]) F d_M_loot_1 rfl (by decide) rfl ?_
  refine v_iconst (v := 0) F d_M_loot_2 ki_0 ?_
  refine v_istore_n (ls' := [(3, .int 0), (2, .int 0), (0, .ref (u.2.1 63)), (1, .ref (u.2.1 kO))]) F d_M_loot_3 rfl (by decide) rfl ?_
  refine v_sub [2, 3, 1, 0] (ls' := [(0, .ref (u.2.1 63)), (1, .ref (u.2.1 kO)), (2, .int 0), (3, .int 0)]) rfl ?_
  have g1 : 0 = (sumI (ltA kd (σ.1 72) (gaN kd n) a) 0) := (by first | rfl | (simp [sumI, ltA, *]; done) | (simp_all [sumI, ltA]; done) | grind [sumI, ltA])
  have g2 : 0 = (nI 0) := (by first | rfl | (simp [sumI, ltA, *]; done) | (simp_all [sumI, ltA]; done) | grind [sumI, ltA])
  refine v_to (ls' := [(0, .ref (u.2.1 63)), (1, .ref (u.2.1 kO)), (2, .int (sumI (ltA kd (σ.1 72) (gaN kd n) a) 0)), (3, .int (nI 0))]) (by first | rfl | rw [g1, g2] | simp_all) ?_
  refine L_M_loot_4 hA F hb hO ha h0 ?_ _ 0 (Nat.zero_le _) (Nat.lt_succ_self _)
  refine v_iload_n F d_M_loot_41 rfl 2 rfl ?_
  refine v_iret F hr rfl d_M_loot_42 ?_
  exact ⟨rfl, rfl⟩
abbrev b_M_passes : ByteArray := prog_14_method_42_code
abbrev y_M_passes : MethodName := ⟨"TakerBookModel", "passes", "([I)V"⟩
theorem d_M_passes_0 : decode b_M_passes 0 = .ok (.aload_n 0, 1) := by decide +kernel
theorem d_M_passes_1 : decode b_M_passes 1 = .ok (.aload_n 1, 1) := by decide +kernel
theorem d_M_passes_2 : decode b_M_passes 2 = .ok (.invokevirtual 181, 3) := by decide +kernel
theorem d_M_passes_5 : decode b_M_passes 5 = .ok (.istore_n 2, 1) := by decide +kernel
theorem d_M_passes_6 : decode b_M_passes 6 = .ok (.aload_n 1, 1) := by decide +kernel
theorem d_M_passes_7 : decode b_M_passes 7 = .ok (.iconst 3, 1) := by decide +kernel
theorem d_M_passes_8 : decode b_M_passes 8 = .ok (.dup2, 1) := by decide +kernel
theorem d_M_passes_9 : decode b_M_passes 9 = .ok (.iaload, 1) := by decide +kernel
theorem d_M_passes_10 : decode b_M_passes 10 = .ok (.iconst 1, 1) := by decide +kernel
theorem d_M_passes_11 : decode b_M_passes 11 = .ok (.iadd, 1) := by decide +kernel
theorem d_M_passes_12 : decode b_M_passes 12 = .ok (.iastore, 1) := by decide +kernel
theorem d_M_passes_13 : decode b_M_passes 13 = .ok (.aload_n 1, 1) := by decide +kernel
theorem d_M_passes_14 : decode b_M_passes 14 = .ok (.iconst 4, 1) := by decide +kernel
theorem d_M_passes_15 : decode b_M_passes 15 = .ok (.iload_n 2, 1) := by decide +kernel
theorem d_M_passes_16 : decode b_M_passes 16 = .ok (.ifCond .eq 7, 3) := by decide +kernel
theorem d_M_passes_19 : decode b_M_passes 19 = .ok (.iconst 1, 1) := by decide +kernel
theorem d_M_passes_20 : decode b_M_passes 20 = .ok (.goto 4, 3) := by decide +kernel
theorem d_M_passes_23 : decode b_M_passes 23 = .ok (.iconst 0, 1) := by decide +kernel
theorem d_M_passes_24 : decode b_M_passes 24 = .ok (.iastore, 1) := by decide +kernel
theorem d_M_passes_25 : decode b_M_passes 25 = .ok (.aload_n 1, 1) := by decide +kernel
theorem d_M_passes_26 : decode b_M_passes 26 = .ok (.iconst 2, 1) := by decide +kernel
theorem d_M_passes_27 : decode b_M_passes 27 = .ok (.dup2, 1) := by decide +kernel
theorem d_M_passes_28 : decode b_M_passes 28 = .ok (.iaload, 1) := by decide +kernel
theorem d_M_passes_29 : decode b_M_passes 29 = .ok (.iload_n 2, 1) := by decide +kernel
theorem d_M_passes_30 : decode b_M_passes 30 = .ok (.ifCond .eq 7, 3) := by decide +kernel
theorem d_M_passes_33 : decode b_M_passes 33 = .ok (.iconst 0, 1) := by decide +kernel
theorem d_M_passes_34 : decode b_M_passes 34 = .ok (.goto 8, 3) := by decide +kernel
theorem d_M_passes_37 : decode b_M_passes 37 = .ok (.aload_n 0, 1) := by decide +kernel
theorem d_M_passes_38 : decode b_M_passes 38 = .ok (.aload_n 1, 1) := by decide +kernel
theorem d_M_passes_39 : decode b_M_passes 39 = .ok (.invokevirtual 185, 3) := by decide +kernel
theorem d_M_passes_42 : decode b_M_passes 42 = .ok (.iadd, 1) := by decide +kernel
theorem d_M_passes_43 : decode b_M_passes 43 = .ok (.iastore, 1) := by decide +kernel
theorem d_M_passes_44 : decode b_M_passes 44 = .ok (.return_, 1) := by decide +kernel
theorem mo_M_passes : mok y_M_passes b_M_passes 3 none 1 := ⟨List.mem_of_getElem? (i := 1268) (by decide +kernel), ⟨by decide +kernel, by decide +kernel, by decide +kernel⟩, List.mem_of_getElem? (i := 86) (by decide +kernel), by decide⟩
set_option maxHeartbeats 4000000 in
theorem c_M_passes (l : Launch) (u : Un) (hA : Ap u) (σ : St) {n : Nat} {kd : Nat → Nat} (hb : mkOk σ n kd) {kO a : Nat} (hO : ofOk kO) (ha : a < 64) (h0 : σ.1 kO 0 = nI a) : MTv l u y_M_passes b_M_passes 3 5 [.ref (u.2.1 63), .ref (u.2.1 kO)] σ (fun σ' => σ' = paM σ kO kd n a) := by
  refine MT_of hA rfl (by decide) (Nat.le_of_ble_eq_true rfl) (fun X hl F hr => ?_)
  subst hl
  refine v_to (ls' := [(0, .ref (u.2.1 63)), (1, .ref (u.2.1 kO))]) rfl ?_
  obtain ⟨hn, hn6, hkd, hk6⟩ := id hb
  obtain ⟨ne1, ne2, ne3, ne4, ne5, ne6, ne7, ne8, ne9, ne10⟩ := hO.ne
  refine v_aload_n F d_M_passes_0 rfl 0 rfl ?_
  refine v_aload_n F d_M_passes_1 rfl 1 rfl ?_
  refine v_runi (r_V F (c_M_isTrial X.2.1 u hA σ hb (kO := kO) hO (by omega) h0  ) mo_M_isTrial st_M_181 rc_63 (by decide) rfl (Nat.le_of_ble_eq_true rfl) d_M_passes_2) (fun r1 σ2 q3 => ?_)
  obtain ⟨rfl, rfl⟩ := q3
  refine v_istore_n (ls' := [(2, .int (bI (σ.1 70 3 ≤ nI (pcN (mkN (tkM σ kO kd n a) n))))), (0, .ref (u.2.1 63)), (1, .ref (u.2.1 kO))]) F d_M_passes_5 rfl (by decide) rfl ?_
  refine v_aload_n F d_M_passes_6 rfl 2 rfl ?_
  refine v_iconst (v := 3) F d_M_passes_7 ki_3 ?_
  refine v_dup2_11 F d_M_passes_8 rfl rfl ?_
  refine v_ial F 3 hO.gam rfl (by omega) d_M_passes_9 ?_
  refine v_iconst (v := 1) F d_M_passes_10 ki_1 ?_
  refine v_iadd F d_M_passes_11 ?_
  refine v_ias F 3 hO.gam rfl (by omega) d_M_passes_12 ?_
  refine v_ns (fun σ4 eσ4 => ?_)
  refine v_aload_n F d_M_passes_13 rfl 2 rfl ?_
  refine v_iconst (v := 4) F d_M_passes_14 ki_4 ?_
  refine v_iload_n F d_M_passes_15 rfl 0 rfl ?_
  refine v_bt F 23 d_M_passes_16 rfl (fun h16 => ?_) (fun h16 => ?_)
  · skip
    refine v_iconst (v := 0) F d_M_passes_23 ki_0 ?_
    refine v_ias F 4 hO.gam rfl (by omega) d_M_passes_24 ?_
    refine v_ns (fun σ5 eσ5 => ?_)
    refine v_aload_n F d_M_passes_25 rfl 2 rfl ?_
    refine v_iconst (v := 2) F d_M_passes_26 ki_2 ?_
    refine v_dup2_11 F d_M_passes_27 rfl rfl ?_
    refine v_ial F 2 hO.gam rfl (by omega) d_M_passes_28 ?_
    refine v_iload_n F d_M_passes_29 rfl 0 rfl ?_
    refine v_bt F 37 d_M_passes_30 rfl (fun h30 => ?_) (fun h30 => ?_)
    · skip
      have hb2 : mkOk σ5 n kd := mkOk_of hb (by simp_all [uI]) (by simp_all [uI])
      have h02 : σ5.1 kO 0 = nI a := by simp_all [uI, upd]
      refine v_aload_n F d_M_passes_37 rfl 1 rfl ?_
      refine v_aload_n F d_M_passes_38 rfl 2 rfl ?_
      refine v_runi (r_V F (c_M_loot X.2.1 u hA σ5 hb2 (kO := kO) hO (by omega) h02  ) mo_M_loot st_M_185 rc_63 (by decide) rfl (Nat.le_of_ble_eq_true rfl) d_M_passes_39) (fun r6 σ7 q8 => ?_)
      obtain ⟨rfl, rfl⟩ := q8
      refine v_iadd F d_M_passes_42 ?_
      refine v_ias F 2 hO.gam rfl (by omega) d_M_passes_43 ?_
      refine v_ns (fun σ9 eσ9 => ?_)
      refine v_vret F hr d_M_passes_44 ?_
      first | (rw [paM, if_neg h30, if_neg h30]; simp_all [uI, upd]; done) | (rw [paM, if_pos h30, if_pos h30]; simp_all [uI, upd]; done)
    · skip
      refine v_iconst (v := 0) F d_M_passes_33 ki_0 ?_
      refine v_goto F 42 d_M_passes_34 rfl ?_
      refine v_iadd F d_M_passes_42 ?_
      refine v_ias F 2 hO.gam rfl (by omega) d_M_passes_43 ?_
      refine v_ns (fun σ10 eσ10 => ?_)
      refine v_vret F hr d_M_passes_44 ?_
      first | (rw [paM, if_neg h30, if_neg h30]; simp_all [uI, upd]; done) | (rw [paM, if_pos h30, if_pos h30]; simp_all [uI, upd]; done)
  · skip
    refine v_iconst (v := 1) F d_M_passes_19 ki_1 ?_
    refine v_goto F 24 d_M_passes_20 rfl ?_
    refine v_ias F 4 hO.gam rfl (by omega) d_M_passes_24 ?_
    refine v_ns (fun σ11 eσ11 => ?_)
    refine v_aload_n F d_M_passes_25 rfl 2 rfl ?_
    refine v_iconst (v := 2) F d_M_passes_26 ki_2 ?_
    refine v_dup2_11 F d_M_passes_27 rfl rfl ?_
    refine v_ial F 2 hO.gam rfl (by omega) d_M_passes_28 ?_
    refine v_iload_n F d_M_passes_29 rfl 0 rfl ?_
    refine v_bt F 37 d_M_passes_30 rfl (fun h30 => ?_) (fun h30 => ?_)
    · skip
      have hb2 : mkOk σ11 n kd := mkOk_of hb (by simp_all [uI]) (by simp_all [uI])
      have h02 : σ11.1 kO 0 = nI a := by simp_all [uI, upd]
      refine v_aload_n F d_M_passes_37 rfl 1 rfl ?_
      refine v_aload_n F d_M_passes_38 rfl 2 rfl ?_
      refine v_runi (r_V F (c_M_loot X.2.1 u hA σ11 hb2 (kO := kO) hO (by omega) h02  ) mo_M_loot st_M_185 rc_63 (by decide) rfl (Nat.le_of_ble_eq_true rfl) d_M_passes_39) (fun r12 σ13 q14 => ?_)
      obtain ⟨rfl, rfl⟩ := q14
      refine v_iadd F d_M_passes_42 ?_
      refine v_ias F 2 hO.gam rfl (by omega) d_M_passes_43 ?_
      refine v_ns (fun σ15 eσ15 => ?_)
      refine v_vret F hr d_M_passes_44 ?_
      first | (rw [paM, if_neg h30, if_neg h30]; simp_all [uI, upd]; done) | (rw [paM, if_pos h30, if_pos h30]; simp_all [uI, upd]; done)
    · skip
      refine v_iconst (v := 0) F d_M_passes_33 ki_0 ?_
      refine v_goto F 42 d_M_passes_34 rfl ?_
      refine v_iadd F d_M_passes_42 ?_
      refine v_ias F 2 hO.gam rfl (by omega) d_M_passes_43 ?_
      refine v_ns (fun σ16 eσ16 => ?_)
      refine v_vret F hr d_M_passes_44 ?_
      first | (rw [paM, if_neg h30, if_neg h30]; simp_all [uI, upd]; done) | (rw [paM, if_pos h30, if_pos h30]; simp_all [uI, upd]; done)
abbrev b_M_givesUp : ByteArray := prog_14_method_43_code
abbrev y_M_givesUp : MethodName := ⟨"TakerBookModel", "givesUp", "([II)V"⟩
theorem d_M_givesUp_0 : decode b_M_givesUp 0 = .ok (.aload_n 1, 1) := by decide +kernel
theorem d_M_givesUp_1 : decode b_M_givesUp 1 = .ok (.iconst 1, 1) := by decide +kernel
theorem d_M_givesUp_2 : decode b_M_givesUp 2 = .ok (.dup2, 1) := by decide +kernel
theorem d_M_givesUp_3 : decode b_M_givesUp 3 = .ok (.iaload, 1) := by decide +kernel
theorem d_M_givesUp_4 : decode b_M_givesUp 4 = .ok (.aload_n 0, 1) := by decide +kernel
theorem d_M_givesUp_5 : decode b_M_givesUp 5 = .ok (.aload_n 1, 1) := by decide +kernel
theorem d_M_givesUp_6 : decode b_M_givesUp 6 = .ok (.iload_n 2, 1) := by decide +kernel
theorem d_M_givesUp_7 : decode b_M_givesUp 7 = .ok (.invokevirtual 188, 3) := by decide +kernel
theorem d_M_givesUp_10 : decode b_M_givesUp 10 = .ok (.iadd, 1) := by decide +kernel
theorem d_M_givesUp_11 : decode b_M_givesUp 11 = .ok (.iastore, 1) := by decide +kernel
theorem d_M_givesUp_12 : decode b_M_givesUp 12 = .ok (.aload_n 1, 1) := by decide +kernel
theorem d_M_givesUp_13 : decode b_M_givesUp 13 = .ok (.iconst 0, 1) := by decide +kernel
theorem d_M_givesUp_14 : decode b_M_givesUp 14 = .ok (.dup2, 1) := by decide +kernel
theorem d_M_givesUp_15 : decode b_M_givesUp 15 = .ok (.iaload, 1) := by decide +kernel
theorem d_M_givesUp_16 : decode b_M_givesUp 16 = .ok (.iconst 1, 1) := by decide +kernel
theorem d_M_givesUp_17 : decode b_M_givesUp 17 = .ok (.iload_n 2, 1) := by decide +kernel
theorem d_M_givesUp_18 : decode b_M_givesUp 18 = .ok (.ishl, 1) := by decide +kernel
theorem d_M_givesUp_19 : decode b_M_givesUp 19 = .ok (.iconst (-1), 1) := by decide +kernel
theorem d_M_givesUp_20 : decode b_M_givesUp 20 = .ok (.ixor, 1) := by decide +kernel
theorem d_M_givesUp_21 : decode b_M_givesUp 21 = .ok (.iand, 1) := by decide +kernel
theorem d_M_givesUp_22 : decode b_M_givesUp 22 = .ok (.iastore, 1) := by decide +kernel
theorem d_M_givesUp_23 : decode b_M_givesUp 23 = .ok (.return_, 1) := by decide +kernel
theorem mo_M_givesUp : mok y_M_givesUp b_M_givesUp 3 none 2 := ⟨List.mem_of_getElem? (i := 1296) (by decide +kernel), ⟨by decide +kernel, by decide +kernel, by decide +kernel⟩, List.mem_of_getElem? (i := 86) (by decide +kernel), by decide⟩
set_option maxHeartbeats 4000000 in
theorem c_M_givesUp (l : Launch) (u : Un) (hA : Ap u) (σ : St) {n : Nat} {kd : Nat → Nat} (hb : mkOk σ n kd) {kO a : Nat} (hO : ofOk kO) (ha : a < 64) (h0 : σ.1 kO 0 = nI a) (i : Nat) (hi : i < n) : MTv l u y_M_givesUp b_M_givesUp 3 1 [.ref (u.2.1 63), .ref (u.2.1 kO), .int (nI i)] σ (fun σ' => σ' = guM σ kO kd a i) := by
  refine MT_of hA rfl (by decide) (Nat.le_of_ble_eq_true rfl) (fun X hl F hr => ?_)
  subst hl
  refine v_to (ls' := [(0, .ref (u.2.1 63)), (1, .ref (u.2.1 kO)), (2, .int (nI i))]) rfl ?_
  obtain ⟨hn, hn6, hkd, hk6⟩ := id hb
  obtain ⟨ne1, ne2, ne3, ne4, ne5, ne6, ne7, ne8, ne9, ne10⟩ := hO.ne
  refine v_aload_n F d_M_givesUp_0 rfl 1 rfl ?_
  refine v_iconst (v := 1) F d_M_givesUp_1 ki_1 ?_
  refine v_dup2_11 F d_M_givesUp_2 rfl rfl ?_
  refine v_ial F 1 hO.gam rfl (by omega) d_M_givesUp_3 ?_
  refine v_aload_n F d_M_givesUp_4 rfl 0 rfl ?_
  refine v_aload_n F d_M_givesUp_5 rfl 1 rfl ?_
  refine v_iload_n F d_M_givesUp_6 rfl 2 rfl ?_
  refine v_runi (r_V F (c_M_headOf X.2.1 u hA σ hb (kO := kO) hO (by omega) h0 i (by omega)) mo_M_headOf st_M_188 rc_63 (by decide) rfl (Nat.le_of_ble_eq_true rfl) d_M_givesUp_7) (fun r1 σ2 q3 => ?_)
  obtain ⟨rfl, rfl⟩ := q3
  refine v_iadd F d_M_givesUp_10 ?_
  refine v_ias F 1 hO.gam rfl (by omega) d_M_givesUp_11 ?_
  refine v_ns (fun σ4 eσ4 => ?_)
  refine v_aload_n F d_M_givesUp_12 rfl 1 rfl ?_
  refine v_iconst (v := 0) F d_M_givesUp_13 ki_0 ?_
  refine v_dup2_11 F d_M_givesUp_14 rfl rfl ?_
  refine v_ial F 0 hO.gam rfl (by omega) d_M_givesUp_15 ?_
  refine v_te (y := nI a) (by simp_all [uI, upd]) ?_
  refine v_iconst (v := 1) F d_M_givesUp_16 ki_1 ?_
  refine v_iload_n F d_M_givesUp_17 rfl 2 rfl ?_
  refine v_ishl F d_M_givesUp_18 ?_
  refine v_iconst (v := (-1)) F d_M_givesUp_19 ki_m1 ?_
  refine v_ixor F d_M_givesUp_20 ?_
  refine v_iand F d_M_givesUp_21 ?_
  refine v_te (y := nI (a &&& (63 ^^^ 2 ^ i))) (mask6 _ ha _ (by omega)) ?_
  refine v_ias F 0 hO.gam rfl (by omega) d_M_givesUp_22 ?_
  refine v_ns (fun σ5 eσ5 => ?_)
  refine v_vret F hr d_M_givesUp_23 ?_
  simp_all [guM, uI, upd]
abbrev b_M_copyNow : ByteArray := prog_14_method_44_code
abbrev y_M_copyNow : MethodName := ⟨"TakerBookModel", "copyNow", "()V"⟩
theorem d_M_copyNow_0 : decode b_M_copyNow 0 = .ok (.iconst 0, 1) := by decide +kernel
theorem d_M_copyNow_1 : decode b_M_copyNow 1 = .ok (.istore_n 1, 1) := by decide +kernel
theorem d_M_copyNow_2 : decode b_M_copyNow 2 = .ok (.iload_n 1, 1) := by decide +kernel
theorem d_M_copyNow_3 : decode b_M_copyNow 3 = .ok (.bipush 11, 2) := by decide +kernel
theorem d_M_copyNow_5 : decode b_M_copyNow 5 = .ok (.if_icmp .ge 21, 3) := by decide +kernel
theorem d_M_copyNow_8 : decode b_M_copyNow 8 = .ok (.aload_n 0, 1) := by decide +kernel
theorem d_M_copyNow_9 : decode b_M_copyNow 9 = .ok (.getfield 54, 3) := by decide +kernel
theorem d_M_copyNow_12 : decode b_M_copyNow 12 = .ok (.iload_n 1, 1) := by decide +kernel
theorem d_M_copyNow_13 : decode b_M_copyNow 13 = .ok (.aload_n 0, 1) := by decide +kernel
theorem d_M_copyNow_14 : decode b_M_copyNow 14 = .ok (.getfield 51, 3) := by decide +kernel
theorem d_M_copyNow_17 : decode b_M_copyNow 17 = .ok (.iload_n 1, 1) := by decide +kernel
theorem d_M_copyNow_18 : decode b_M_copyNow 18 = .ok (.iaload, 1) := by decide +kernel
theorem d_M_copyNow_19 : decode b_M_copyNow 19 = .ok (.iastore, 1) := by decide +kernel
theorem d_M_copyNow_20 : decode b_M_copyNow 20 = .ok (.iinc 1 1, 3) := by decide +kernel
theorem d_M_copyNow_23 : decode b_M_copyNow 23 = .ok (.goto (-21), 3) := by decide +kernel
theorem d_M_copyNow_26 : decode b_M_copyNow 26 = .ok (.return_, 1) := by decide +kernel
theorem mo_M_copyNow : mok y_M_copyNow b_M_copyNow 2 none 0 := ⟨List.mem_of_getElem? (i := 1320) (by decide +kernel), ⟨by decide +kernel, by decide +kernel, by decide +kernel⟩, List.mem_of_getElem? (i := 86) (by decide +kernel), by decide⟩
set_option maxHeartbeats 4000000 in
theorem L_M_copyNow_2 {X : FX} {u : Un} (hA : Ap u) {Q : State → Prop} (F : Fr X u "TakerBookModel" b_M_copyNow 2) {σ : St} (k : V X u 0 2 Q 26 [(0, .ref (u.2.1 63)), (1, .int (nI 11))] [] ((cpF σ 77 0 (σ.1 76) 11))) : ∀ (nn i : Nat), i ≤ 11 → 11 - i < nn → V X u 0 2 Q 2 [(0, .ref (u.2.1 63)), (1, .int (nI i))] [] ((cpF σ 77 0 (σ.1 76) i)) := by
  intro nn
  induction nn with
  | zero =>
    intro i h1 h2
    exact absurd h2 (Nat.not_lt_zero _)
  | succ nn ih =>
    intro i hii hnn
    refine v_iload_n F d_M_copyNow_2 rfl 1 rfl ?_
    refine v_bipush (v := 11) F d_M_copyNow_3 kb_11 ?_
    refine v_icmp_ge F 26 d_M_copyNow_5 rfl (fun h5 => ?_) (fun h5 => ?_)
    · skip
      have h5 : 11 ≤ i := (nI_leI (a := 11) (b := i) (by omega) (by omega)).mp h5
      have he : i = 11 := by omega
      subst he
      exact k
    · skip
      have h5 : ¬ 11 ≤ i := fun q => h5 ((nI_leI (a := 11) (b := i) (by omega) (by omega)).mpr q)
      refine v_aload_n F d_M_copyNow_8 rfl 0 rfl ?_
      refine v_getr (r := 77) F fk_M_54 G63 rfl d_M_copyNow_9 ?_
      refine v_iload_n F d_M_copyNow_12 rfl 1 rfl ?_
      refine v_aload_n F d_M_copyNow_13 rfl 0 rfl ?_
      refine v_getr (r := 76) F fk_M_51 G63 rfl d_M_copyNow_14 ?_
      refine v_iload_n F d_M_copyNow_17 rfl 1 rfl ?_
      refine v_ial F i G76 rfl (by omega) d_M_copyNow_18 ?_
      refine v_ias F i G77 rfl (by omega) d_M_copyNow_19 ?_
      refine v_ns (fun σ1 eσ1 => ?_)
      refine v_iinc (v := nI (i + 1)) (ls' := [(1, .int (nI (i + 1))), (0, .ref (u.2.1 63))]) F d_M_copyNow_20 (j := 1) rfl (nI_inc _) (by decide) rfl ?_
      refine v_goto F 2 d_M_copyNow_23 rfl ?_
      refine v_sub [1, 0] (ls' := [(0, .ref (u.2.1 63)), (1, .int (nI (i + 1)))]) rfl ?_
      refine v_st (show σ1 = (cpF σ 77 0 (σ.1 76) (i + 1)) from (by first | rfl | (simp [cpF, cpF_other, *]; done) | (simp_all [cpF, cpF_other]; done) | grind [cpF, cpF_other])) ?_
      exact ih (i + 1) (by omega) (by omega)
set_option maxHeartbeats 4000000 in
theorem c_M_copyNow (l : Launch) (u : Un) (hA : Ap u) (σ : St) : MTv l u y_M_copyNow b_M_copyNow 2 0 [.ref (u.2.1 63)] σ (fun σ' => σ' = cpF σ 77 0 (σ.1 76) 11) := by
  refine MT_of hA rfl (by decide) (Nat.le_of_ble_eq_true rfl) (fun X hl F hr => ?_)
  subst hl
  refine v_to (ls' := [(0, .ref (u.2.1 63))]) rfl ?_
  refine v_iconst (v := 0) F d_M_copyNow_0 ki_0 ?_
  refine v_istore_n (ls' := [(1, .int 0), (0, .ref (u.2.1 63))]) F d_M_copyNow_1 rfl (by decide) rfl ?_
  refine v_sub [1, 0] (ls' := [(0, .ref (u.2.1 63)), (1, .int 0)]) rfl ?_
  have g1 : 0 = (nI 0) := (by first | rfl | (simp [cpF, cpF_other, *]; done) | (simp_all [cpF, cpF_other]; done) | grind [cpF, cpF_other])
  refine v_to (ls' := [(0, .ref (u.2.1 63)), (1, .int (nI 0))]) (by first | rfl | rw [g1] | simp_all) ?_
  refine v_st (show σ = (cpF σ 77 0 (σ.1 76) 0) from (by first | rfl | (simp [cpF, cpF_other, *]; done) | (simp_all [cpF, cpF_other]; done) | grind [cpF, cpF_other])) ?_
  refine L_M_copyNow_2 hA F  ?_ _ 0 (Nat.zero_le _) (Nat.lt_succ_self _)
  refine v_vret F hr d_M_copyNow_26 ?_
  rfl
