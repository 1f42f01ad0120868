theorem fk_M_76 : fok "TakerBookModel" 76 12 34 := ⟨(R_M, F_M, 40), rfl, by decide, List.mem_of_getElem? (i := 1013) (by decide +kernel), rfl⟩
theorem G84 : Gam[84]? = some (.inl (.int, 6)) := rfl
theorem st_M_267 : siteV "TakerBookModel" 267 ⟨"TakerBookModel", "isFit", "(II)Z"⟩ := ⟨List.mem_of_getElem? (i := 1390) (by decide +kernel), List.mem_of_getElem? (i := 1392) (by decide +kernel), List.mem_of_getElem? (i := 63) (by decide +kernel)⟩
theorem fk_M_255 : fok "TakerBookModel" 255 12 30 := ⟨(R_M, F_M, 40), rfl, by decide, List.mem_of_getElem? (i := 1009) (by decide +kernel), rfl⟩
theorem fk_M_258 : fok "TakerBookModel" 258 12 31 := ⟨(R_M, F_M, 40), rfl, by decide, List.mem_of_getElem? (i := 1010) (by decide +kernel), rfl⟩
theorem pk_M_fitFirst : pok 12 31 .int := ⟨(R_M, F_M, 40), rfl, rfl, by decide +kernel⟩
theorem pk_M_fitMany : pok 12 30 .int := ⟨(R_M, F_M, 40), rfl, rfl, by decide +kernel⟩
theorem fk_M_261 : fok "TakerBookModel" 261 12 32 := ⟨(R_M, F_M, 40), rfl, by decide, List.mem_of_getElem? (i := 1011) (by decide +kernel), rfl⟩
theorem pk_M_fitAll : pok 12 32 .int := ⟨(R_M, F_M, 40), rfl, rfl, by decide +kernel⟩
theorem fk_M_264 : fok "TakerBookModel" 264 12 33 := ⟨(R_M, F_M, 40), rfl, by decide, List.mem_of_getElem? (i := 1012) (by decide +kernel), rfl⟩
theorem pk_M_fitAny : pok 12 33 .int := ⟨(R_M, F_M, 40), rfl, rfl, by decide +kernel⟩
theorem st_M_270 : siteV "TakerBookModel" 270 ⟨"TakerBookModel", "layFits", "(I)V"⟩ := ⟨List.mem_of_getElem? (i := 1386) (by decide +kernel), List.mem_of_getElem? (i := 1388) (by decide +kernel), List.mem_of_getElem? (i := 62) (by decide +kernel)⟩
theorem st_M_251 : siteV "TakerBookModel" 251 ⟨"TakerBookModel", "fraction", "(JJ)I"⟩ := ⟨List.mem_of_getElem? (i := 1374) (by decide +kernel), List.mem_of_getElem? (i := 1376) (by decide +kernel), List.mem_of_getElem? (i := 61) (by decide +kernel)⟩
theorem kc_M_218 : Cond.constant "TakerBookModel" 218 (1000000) ∈ lw_tbl := List.mem_of_getElem? (i := 1325) (by decide +kernel)
theorem st_M_288 : siteV "TakerBookModel" 288 ⟨"TakerBookModel", "goodsOf", "(I)I"⟩ := ⟨List.mem_of_getElem? (i := 1438) (by decide +kernel), List.mem_of_getElem? (i := 1440) (by decide +kernel), List.mem_of_getElem? (i := 68) (by decide +kernel)⟩
abbrev b_M_isFit : ByteArray := prog_14_method_74_code
abbrev y_M_isFit : MethodName := ⟨"TakerBookModel", "isFit", "(II)Z"⟩
theorem d_M_isFit_0 : decode b_M_isFit 0 = .ok (.iconst 0, 1) := by decide +kernel
theorem d_M_isFit_1 : decode b_M_isFit 1 = .ok (.istore_n 3, 1) := by decide +kernel
theorem d_M_isFit_2 : decode b_M_isFit 2 = .ok (.iconst 0, 1) := by decide +kernel
theorem d_M_isFit_3 : decode b_M_isFit 3 = .ok (.istore 4, 2) := by decide +kernel
theorem d_M_isFit_5 : decode b_M_isFit 5 = .ok (.iload 4, 2) := by decide +kernel
theorem d_M_isFit_7 : decode b_M_isFit 7 = .ok (.aload_n 0, 1) := by decide +kernel
theorem d_M_isFit_8 : decode b_M_isFit 8 = .ok (.getfield 146, 3) := by decide +kernel
theorem d_M_isFit_11 : decode b_M_isFit 11 = .ok (.if_icmp .ge 35, 3) := by decide +kernel
theorem d_M_isFit_14 : decode b_M_isFit 14 = .ok (.iload_n 3, 1) := by decide +kernel
theorem d_M_isFit_15 : decode b_M_isFit 15 = .ok (.iload_n 1, 1) := by decide +kernel
theorem d_M_isFit_16 : decode b_M_isFit 16 = .ok (.iload 4, 2) := by decide +kernel
theorem d_M_isFit_18 : decode b_M_isFit 18 = .ok (.invokestatic 155, 3) := by decide +kernel
theorem d_M_isFit_21 : decode b_M_isFit 21 = .ok (.ifCond .eq 16, 3) := by decide +kernel
theorem d_M_isFit_24 : decode b_M_isFit 24 = .ok (.aload_n 0, 1) := by decide +kernel
theorem d_M_isFit_25 : decode b_M_isFit 25 = .ok (.aload_n 0, 1) := by decide +kernel
theorem d_M_isFit_26 : decode b_M_isFit 26 = .ok (.getfield 51, 3) := by decide +kernel
theorem d_M_isFit_29 : decode b_M_isFit 29 = .ok (.iload 4, 2) := by decide +kernel
theorem d_M_isFit_31 : decode b_M_isFit 31 = .ok (.invokevirtual 178, 3) := by decide +kernel
theorem d_M_isFit_34 : decode b_M_isFit 34 = .ok (.goto 4, 3) := by decide +kernel
theorem d_M_isFit_37 : decode b_M_isFit 37 = .ok (.iconst 0, 1) := by decide +kernel
theorem d_M_isFit_38 : decode b_M_isFit 38 = .ok (.iadd, 1) := by decide +kernel
theorem d_M_isFit_39 : decode b_M_isFit 39 = .ok (.istore_n 3, 1) := by decide +kernel
theorem d_M_isFit_40 : decode b_M_isFit 40 = .ok (.iinc 4 1, 3) := by decide +kernel
theorem d_M_isFit_43 : decode b_M_isFit 43 = .ok (.goto (-38), 3) := by decide +kernel
theorem d_M_isFit_46 : decode b_M_isFit 46 = .ok (.iload_n 1, 1) := by decide +kernel
theorem d_M_isFit_47 : decode b_M_isFit 47 = .ok (.aload_n 0, 1) := by decide +kernel
theorem d_M_isFit_48 : decode b_M_isFit 48 = .ok (.getfield 51, 3) := by decide +kernel
theorem d_M_isFit_51 : decode b_M_isFit 51 = .ok (.iconst 0, 1) := by decide +kernel
theorem d_M_isFit_52 : decode b_M_isFit 52 = .ok (.iaload, 1) := by decide +kernel
theorem d_M_isFit_53 : decode b_M_isFit 53 = .ok (.iconst (-1), 1) := by decide +kernel
theorem d_M_isFit_54 : decode b_M_isFit 54 = .ok (.ixor, 1) := by decide +kernel
theorem d_M_isFit_55 : decode b_M_isFit 55 = .ok (.iand, 1) := by decide +kernel
theorem d_M_isFit_56 : decode b_M_isFit 56 = .ok (.ifCond .ne 12, 3) := by decide +kernel
theorem d_M_isFit_59 : decode b_M_isFit 59 = .ok (.iload_n 3, 1) := by decide +kernel
theorem d_M_isFit_60 : decode b_M_isFit 60 = .ok (.iload_n 2, 1) := by decide +kernel
theorem d_M_isFit_61 : decode b_M_isFit 61 = .ok (.if_icmp .ne 7, 3) := by decide +kernel
theorem d_M_isFit_64 : decode b_M_isFit 64 = .ok (.iconst 1, 1) := by decide +kernel
theorem d_M_isFit_65 : decode b_M_isFit 65 = .ok (.goto 4, 3) := by decide +kernel
theorem d_M_isFit_68 : decode b_M_isFit 68 = .ok (.iconst 0, 1) := by decide +kernel
theorem d_M_isFit_69 : decode b_M_isFit 69 = .ok (.ireturn, 1) := by decide +kernel
theorem mo_M_isFit : mok y_M_isFit b_M_isFit 5 (some .boolean) 2 := ⟨List.mem_of_getElem? (i := 1393) (by decide +kernel), ⟨by decide +kernel, by decide +kernel, by decide +kernel⟩, List.mem_of_getElem? (i := 86) (by decide +kernel), by decide⟩
set_option maxHeartbeats 4000000 in
theorem L_M_isFit_5 {X : FX} {u : Un} (hA : Ap u) {Q : State → Prop} (F : Fr X u "TakerBookModel" b_M_isFit 5) {σ : St} {n : Nat} {kd : Nat → Nat} (hb : mkOk σ n kd) {a : Nat} (ha : a < 64) (h0 : σ.1 76 0 = nI a) {τ : St} (fτ : fr σ τ) {s : Nat} {v : Int32} (hs : s < 64) (k : V X u 3 5 Q 46 [(0, .ref (u.2.1 63)), (1, .int (nI s)), (2, .int v), (3, .int (sumI (stM σ kd n a s) n)), (4, .int (nI n))] [] (τ)) : ∀ (nn i : Nat), i ≤ n → n - i < nn → V X u 3 5 Q 5 [(0, .ref (u.2.1 63)), (1, .int (nI s)), (2, .int v), (3, .int (sumI (stM σ kd n a s) i)), (4, .int (nI i))] [] (τ) := by
  intro nn
  induction nn with
  | zero =>
    intro i h1 h2
    exact absurd h2 (Nat.not_lt_zero _)
  | succ nn ih =>
    intro i hii hnn
    obtain ⟨hn, hn6, hkd, hk6⟩ := id hb
    refine v_iload F d_M_isFit_5 4 rfl ?_
    refine v_aload_n F d_M_isFit_7 rfl 0 rfl ?_
    refine v_geti F fk_M_146 G63 rfl d_M_isFit_8 ?_
    refine v_te (y := nI n) (fτ.v rfl hn) ?_
    refine v_icmp_ge F 46 d_M_isFit_11 rfl (fun h11 => ?_) (fun h11 => ?_)
    · skip
      have h11 : n ≤ i := (nI_leI (a := n) (b := i) (by omega) (by omega)).mp h11
      have he : i = n := by omega
      subst he
      exact k
    · skip
      have h11 : ¬ n ≤ i := fun q => h11 ((nI_leI (a := n) (b := i) (by omega) (by omega)).mpr q)
      refine v_iload_n F d_M_isFit_14 rfl 3 rfl ?_
      refine v_iload_n F d_M_isFit_15 rfl 1 rfl ?_
      refine v_iload F d_M_isFit_16 4 rfl ?_
      refine v_runi (r_S F (c_M_has2 X.2.1 u hA τ i s (by omega) (by omega)) mo_M_has st_M_155 (by decide) rfl (Nat.le_of_ble_eq_true rfl) d_M_isFit_18) (fun r1 σ2 q3 => ?_)
      obtain ⟨rfl, rfl⟩ := q3
      refine v_bt F 37 d_M_isFit_21 rfl (fun h21 => ?_) (fun h21 => ?_)
      · skip
        refine v_iconst (v := 0) F d_M_isFit_37 ki_0 ?_
        refine v_iadd F d_M_isFit_38 ?_
        refine v_ni (fun x4 ex4 => ?_)
        refine v_istore_n (ls' := [(3, .int x4), (0, .ref (u.2.1 63)), (1, .int (nI s)), (2, .int v), (4, .int (nI i))]) F d_M_isFit_39 rfl (by decide) rfl ?_
        refine v_iinc (v := nI (i + 1)) (ls' := [(4, .int (nI (i + 1))), (3, .int x4), (0, .ref (u.2.1 63)), (1, .int (nI s)), (2, .int v)]) F d_M_isFit_40 (j := 4) rfl (nI_inc _) (by decide) rfl ?_
        refine v_goto F 5 d_M_isFit_43 rfl ?_
        refine v_sub [2, 3, 4, 1, 0] (ls' := [(0, .ref (u.2.1 63)), (1, .int (nI s)), (2, .int v), (3, .int x4), (4, .int (nI (i + 1)))]) rfl ?_
        have g5 : x4 = (sumI (stM σ kd n a s) (i + 1)) := (by first | rfl | (simp [sumI, stM, *]; done) | (simp_all [sumI, stM]; done) | grind [sumI, stM])
        refine v_to (ls' := [(0, .ref (u.2.1 63)), (1, .int (nI s)), (2, .int v), (3, .int (sumI (stM σ kd n a s) (i + 1))), (4, .int (nI (i + 1)))]) (by first | rfl | rw [g5] | simp_all) ?_
        exact ih (i + 1) (by omega) (by omega)
      · skip
        refine v_aload_n F d_M_isFit_24 rfl 0 rfl ?_
        refine v_aload_n F d_M_isFit_25 rfl 0 rfl ?_
        refine v_getr (r := 76) F fk_M_51 G63 rfl d_M_isFit_26 ?_
        refine v_iload F d_M_isFit_29 4 rfl ?_
        refine v_runi (r_V F (c_M_steals_f X.2.1 u hA fτ hb (kO := 76) (Or.inl rfl) ha (fτ.v rfl h0)  i (by omega)) mo_M_steals st_M_178 rc_63 (by decide) rfl (Nat.le_of_ble_eq_true rfl) d_M_isFit_31) (fun r6 σ7 q8 => ?_)
        obtain ⟨rfl, rfl⟩ := q8
        refine v_goto F 38 d_M_isFit_34 rfl ?_
        refine v_iadd F d_M_isFit_38 ?_
        refine v_ni (fun x9 ex9 => ?_)
        refine v_istore_n (ls' := [(3, .int x9), (0, .ref (u.2.1 63)), (1, .int (nI s)), (2, .int v), (4, .int (nI i))]) F d_M_isFit_39 rfl (by decide) rfl ?_
        refine v_iinc (v := nI (i + 1)) (ls' := [(4, .int (nI (i + 1))), (3, .int x9), (0, .ref (u.2.1 63)), (1, .int (nI s)), (2, .int v)]) F d_M_isFit_40 (j := 4) rfl (nI_inc _) (by decide) rfl ?_
        refine v_goto F 5 d_M_isFit_43 rfl ?_
        refine v_sub [2, 3, 4, 1, 0] (ls' := [(0, .ref (u.2.1 63)), (1, .int (nI s)), (2, .int v), (3, .int x9), (4, .int (nI (i + 1)))]) rfl ?_
        have g10 : x9 = (sumI (stM σ kd n a s) (i + 1)) := (by first | rfl | (simp [sumI, stM, *]; done) | (simp_all [sumI, stM]; done) | grind [sumI, stM])
        refine v_to (ls' := [(0, .ref (u.2.1 63)), (1, .int (nI s)), (2, .int v), (3, .int (sumI (stM σ kd n a s) (i + 1))), (4, .int (nI (i + 1)))]) (by first | rfl | rw [g10] | simp_all) ?_
        exact ih (i + 1) (by omega) (by omega)
set_option maxHeartbeats 4000000 in
theorem c_M_isFit (l : Launch) (u : Un) (hA : Ap u) {σ τ : St} (fτ : fr σ τ) {n : Nat} {kd : Nat → Nat} (hb : mkOk σ n kd) {a : Nat} (ha : a < 64) (h0 : σ.1 76 0 = nI a) (s : Nat) (v : Int32) (hs : s < 64) : MTi l u y_M_isFit b_M_isFit 5 .boolean 3 [.ref (u.2.1 63), .int (nI s), .int v] τ (fun ans σ' => bI (fiP σ kd n a v s) = ans ∧ τ = σ') := by
  refine MT_of hA rfl (by decide) (Nat.le_of_ble_eq_true rfl) (fun X hl F hr => ?_)
  subst hl
  refine v_to (ls' := [(0, .ref (u.2.1 63)), (1, .int (nI s)), (2, .int v)]) rfl ?_
  obtain ⟨hn, hn6, hkd, hk6⟩ := id hb
  have hsL : s &&& (63 ^^^ a) ≤ s := Nat.and_le_left
  refine v_iconst (v := 0) F d_M_isFit_0 ki_0 ?_
  refine v_istore_n (ls' := [(3, .int 0), (0, .ref (u.2.1 63)), (1, .int (nI s)), (2, .int v)]) F d_M_isFit_1 rfl (by decide) rfl ?_
  refine v_iconst (v := 0) F d_M_isFit_2 ki_0 ?_
  refine v_istore (ls' := [(4, .int 0), (3, .int 0), (0, .ref (u.2.1 63)), (1, .int (nI s)), (2, .int v)]) F d_M_isFit_3 (by decide) rfl ?_
  refine v_sub [2, 3, 4, 1, 0] (ls' := [(0, .ref (u.2.1 63)), (1, .int (nI s)), (2, .int v), (3, .int 0), (4, .int 0)]) rfl ?_
  have g1 : 0 = (sumI (stM σ kd n a s) 0) := (by first | rfl | (simp [sumI, stM, *]; done) | (simp_all [sumI, stM]; done) | grind [sumI, stM])
  have g2 : 0 = (nI 0) := (by first | rfl | (simp [sumI, stM, *]; done) | (simp_all [sumI, stM]; done) | grind [sumI, stM])
  refine v_to (ls' := [(0, .ref (u.2.1 63)), (1, .int (nI s)), (2, .int v), (3, .int (sumI (stM σ kd n a s) 0)), (4, .int (nI 0))]) (by first | rfl | rw [g1, g2] | simp_all) ?_
  refine L_M_isFit_5 hA F hb ha h0 fτ hs ?_ _ 0 (Nat.zero_le _) (Nat.lt_succ_self _)
  refine v_iload_n F d_M_isFit_46 rfl 1 rfl ?_
  refine v_aload_n F d_M_isFit_47 rfl 0 rfl ?_
  refine v_getr (r := 76) F fk_M_51 G63 rfl d_M_isFit_48 ?_
  refine v_iconst (v := 0) F d_M_isFit_51 ki_0 ?_
  refine v_ial F 0 G76 rfl (by omega) d_M_isFit_52 ?_
  refine v_te (y := nI a) (fτ.v rfl h0) ?_
  refine v_iconst (v := (-1)) F d_M_isFit_53 ki_m1 ?_
  refine v_ixor F d_M_isFit_54 ?_
  refine v_iand F d_M_isFit_55 ?_
  refine v_te (y := nI (s &&& (63 ^^^ a))) (sub6 hs ha) ?_
  refine v_if_ne F 68 d_M_isFit_56 rfl (fun h56 => ?_) (fun h56 => ?_)
  · skip
    have h56 : ¬ s &&& (63 ^^^ a) = 0 := fun q => h56 ((nI_eq (a := s &&& (63 ^^^ a)) (b := 0) (by omega) (by omega)).mpr q)
    refine v_iconst (v := 0) F d_M_isFit_68 ki_0 ?_
    refine v_iret F hr rfl d_M_isFit_69 ?_
    exact ⟨bI_f (by rintro ⟨q1, q2⟩; first | exact absurd q1 (by assumption) | exact absurd q2 (by assumption)), rfl⟩
  · skip
    have h56 : s &&& (63 ^^^ a) = 0 := (nI_eq (a := s &&& (63 ^^^ a)) (b := 0) (by omega) (by omega)).mp h56
    refine v_iload_n F d_M_isFit_59 rfl 3 rfl ?_
    refine v_iload_n F d_M_isFit_60 rfl 2 rfl ?_
    refine v_icmp_ne F 68 d_M_isFit_61 rfl (fun h61 => ?_) (fun h61 => ?_)
    · skip
      refine v_iconst (v := 0) F d_M_isFit_68 ki_0 ?_
      refine v_iret F hr rfl d_M_isFit_69 ?_
      exact ⟨bI_f (by rintro ⟨q1, q2⟩; first | exact absurd q1 (by assumption) | exact absurd q2 (by assumption)), rfl⟩
    · skip
      refine v_iconst (v := 1) F d_M_isFit_64 ki_1 ?_
      refine v_goto F 69 d_M_isFit_65 rfl ?_
      refine v_iret F hr rfl d_M_isFit_69 ?_
      exact ⟨bI_t ⟨by assumption, by assumption⟩, rfl⟩
abbrev b_M_layFits : ByteArray := prog_14_method_75_code
abbrev y_M_layFits : MethodName := ⟨"TakerBookModel", "layFits", "(I)V"⟩
theorem d_M_layFits_0 : decode b_M_layFits 0 = .ok (.aload_n 0, 1) := by decide +kernel
theorem d_M_layFits_1 : decode b_M_layFits 1 = .ok (.iconst 0, 1) := by decide +kernel
theorem d_M_layFits_2 : decode b_M_layFits 2 = .ok (.putfield 255, 3) := by decide +kernel
theorem d_M_layFits_5 : decode b_M_layFits 5 = .ok (.aload_n 0, 1) := by decide +kernel
theorem d_M_layFits_6 : decode b_M_layFits 6 = .ok (.bipush (-9), 2) := by decide +kernel
theorem d_M_layFits_8 : decode b_M_layFits 8 = .ok (.putfield 258, 3) := by decide +kernel
theorem d_M_layFits_11 : decode b_M_layFits 11 = .ok (.aload_n 0, 1) := by decide +kernel
theorem d_M_layFits_12 : decode b_M_layFits 12 = .ok (.aload_n 0, 1) := by decide +kernel
theorem d_M_layFits_13 : decode b_M_layFits 13 = .ok (.getfield 51, 3) := by decide +kernel
theorem d_M_layFits_16 : decode b_M_layFits 16 = .ok (.iconst 0, 1) := by decide +kernel
theorem d_M_layFits_17 : decode b_M_layFits 17 = .ok (.iaload, 1) := by decide +kernel
theorem d_M_layFits_18 : decode b_M_layFits 18 = .ok (.putfield 261, 3) := by decide +kernel
theorem d_M_layFits_21 : decode b_M_layFits 21 = .ok (.aload_n 0, 1) := by decide +kernel
theorem d_M_layFits_22 : decode b_M_layFits 22 = .ok (.iconst 0, 1) := by decide +kernel
theorem d_M_layFits_23 : decode b_M_layFits 23 = .ok (.putfield 264, 3) := by decide +kernel
theorem d_M_layFits_26 : decode b_M_layFits 26 = .ok (.iconst 0, 1) := by decide +kernel
theorem d_M_layFits_27 : decode b_M_layFits 27 = .ok (.istore_n 2, 1) := by decide +kernel
theorem d_M_layFits_28 : decode b_M_layFits 28 = .ok (.iload_n 2, 1) := by decide +kernel
theorem d_M_layFits_29 : decode b_M_layFits 29 = .ok (.aload_n 0, 1) := by decide +kernel
theorem d_M_layFits_30 : decode b_M_layFits 30 = .ok (.getfield 146, 3) := by decide +kernel
theorem d_M_layFits_33 : decode b_M_layFits 33 = .ok (.if_icmp .ge 16, 3) := by decide +kernel
theorem d_M_layFits_36 : decode b_M_layFits 36 = .ok (.aload_n 0, 1) := by decide +kernel
theorem d_M_layFits_37 : decode b_M_layFits 37 = .ok (.getfield 76, 3) := by decide +kernel
theorem d_M_layFits_40 : decode b_M_layFits 40 = .ok (.iload_n 2, 1) := by decide +kernel
theorem d_M_layFits_41 : decode b_M_layFits 41 = .ok (.iconst 0, 1) := by decide +kernel
theorem d_M_layFits_42 : decode b_M_layFits 42 = .ok (.iastore, 1) := by decide +kernel
theorem d_M_layFits_43 : decode b_M_layFits 43 = .ok (.iinc 2 1, 3) := by decide +kernel
theorem d_M_layFits_46 : decode b_M_layFits 46 = .ok (.goto (-18), 3) := by decide +kernel
theorem d_M_layFits_49 : decode b_M_layFits 49 = .ok (.iconst 0, 1) := by decide +kernel
theorem d_M_layFits_50 : decode b_M_layFits 50 = .ok (.istore_n 2, 1) := by decide +kernel
theorem d_M_layFits_51 : decode b_M_layFits 51 = .ok (.iload_n 2, 1) := by decide +kernel
theorem d_M_layFits_52 : decode b_M_layFits 52 = .ok (.iconst 1, 1) := by decide +kernel
theorem d_M_layFits_53 : decode b_M_layFits 53 = .ok (.aload_n 0, 1) := by decide +kernel
theorem d_M_layFits_54 : decode b_M_layFits 54 = .ok (.getfield 146, 3) := by decide +kernel
theorem d_M_layFits_57 : decode b_M_layFits 57 = .ok (.ishl, 1) := by decide +kernel
theorem d_M_layFits_58 : decode b_M_layFits 58 = .ok (.if_icmp .ge 105, 3) := by decide +kernel
theorem d_M_layFits_61 : decode b_M_layFits 61 = .ok (.aload_n 0, 1) := by decide +kernel
theorem d_M_layFits_62 : decode b_M_layFits 62 = .ok (.iload_n 2, 1) := by decide +kernel
theorem d_M_layFits_63 : decode b_M_layFits 63 = .ok (.iload_n 1, 1) := by decide +kernel
theorem d_M_layFits_64 : decode b_M_layFits 64 = .ok (.invokevirtual 267, 3) := by decide +kernel
theorem d_M_layFits_67 : decode b_M_layFits 67 = .ok (.ifCond .eq 90, 3) := by decide +kernel
theorem d_M_layFits_70 : decode b_M_layFits 70 = .ok (.aload_n 0, 1) := by decide +kernel
theorem d_M_layFits_71 : decode b_M_layFits 71 = .ok (.aload_n 0, 1) := by decide +kernel
theorem d_M_layFits_72 : decode b_M_layFits 72 = .ok (.getfield 255, 3) := by decide +kernel
theorem d_M_layFits_75 : decode b_M_layFits 75 = .ok (.ifCond .ne 7, 3) := by decide +kernel
theorem d_M_layFits_78 : decode b_M_layFits 78 = .ok (.iload_n 2, 1) := by decide +kernel
theorem d_M_layFits_79 : decode b_M_layFits 79 = .ok (.goto 7, 3) := by decide +kernel
theorem d_M_layFits_82 : decode b_M_layFits 82 = .ok (.aload_n 0, 1) := by decide +kernel
theorem d_M_layFits_83 : decode b_M_layFits 83 = .ok (.getfield 258, 3) := by decide +kernel
theorem d_M_layFits_86 : decode b_M_layFits 86 = .ok (.putfield 258, 3) := by decide +kernel
theorem d_M_layFits_89 : decode b_M_layFits 89 = .ok (.aload_n 0, 1) := by decide +kernel
theorem d_M_layFits_90 : decode b_M_layFits 90 = .ok (.dup, 1) := by decide +kernel
theorem d_M_layFits_91 : decode b_M_layFits 91 = .ok (.getfield 255, 3) := by decide +kernel
theorem d_M_layFits_94 : decode b_M_layFits 94 = .ok (.iconst 1, 1) := by decide +kernel
theorem d_M_layFits_95 : decode b_M_layFits 95 = .ok (.iadd, 1) := by decide +kernel
theorem d_M_layFits_96 : decode b_M_layFits 96 = .ok (.putfield 255, 3) := by decide +kernel
theorem d_M_layFits_99 : decode b_M_layFits 99 = .ok (.aload_n 0, 1) := by decide +kernel
theorem d_M_layFits_100 : decode b_M_layFits 100 = .ok (.dup, 1) := by decide +kernel
theorem d_M_layFits_101 : decode b_M_layFits 101 = .ok (.getfield 261, 3) := by decide +kernel
theorem d_M_layFits_104 : decode b_M_layFits 104 = .ok (.iload_n 2, 1) := by decide +kernel
theorem d_M_layFits_105 : decode b_M_layFits 105 = .ok (.iand, 1) := by decide +kernel
theorem d_M_layFits_106 : decode b_M_layFits 106 = .ok (.putfield 261, 3) := by decide +kernel
theorem d_M_layFits_109 : decode b_M_layFits 109 = .ok (.aload_n 0, 1) := by decide +kernel
theorem d_M_layFits_110 : decode b_M_layFits 110 = .ok (.dup, 1) := by decide +kernel
theorem d_M_layFits_111 : decode b_M_layFits 111 = .ok (.getfield 264, 3) := by decide +kernel
theorem d_M_layFits_114 : decode b_M_layFits 114 = .ok (.iload_n 2, 1) := by decide +kernel
theorem d_M_layFits_115 : decode b_M_layFits 115 = .ok (.ior, 1) := by decide +kernel
theorem d_M_layFits_116 : decode b_M_layFits 116 = .ok (.putfield 264, 3) := by decide +kernel
theorem d_M_layFits_119 : decode b_M_layFits 119 = .ok (.iconst 0, 1) := by decide +kernel
theorem d_M_layFits_120 : decode b_M_layFits 120 = .ok (.istore_n 3, 1) := by decide +kernel
theorem d_M_layFits_121 : decode b_M_layFits 121 = .ok (.iload_n 3, 1) := by decide +kernel
theorem d_M_layFits_122 : decode b_M_layFits 122 = .ok (.aload_n 0, 1) := by decide +kernel
theorem d_M_layFits_123 : decode b_M_layFits 123 = .ok (.getfield 146, 3) := by decide +kernel
theorem d_M_layFits_126 : decode b_M_layFits 126 = .ok (.if_icmp .ge 31, 3) := by decide +kernel
theorem d_M_layFits_129 : decode b_M_layFits 129 = .ok (.aload_n 0, 1) := by decide +kernel
theorem d_M_layFits_130 : decode b_M_layFits 130 = .ok (.getfield 76, 3) := by decide +kernel
theorem d_M_layFits_133 : decode b_M_layFits 133 = .ok (.iload_n 3, 1) := by decide +kernel
theorem d_M_layFits_134 : decode b_M_layFits 134 = .ok (.dup2, 1) := by decide +kernel
theorem d_M_layFits_135 : decode b_M_layFits 135 = .ok (.iaload, 1) := by decide +kernel
theorem d_M_layFits_136 : decode b_M_layFits 136 = .ok (.iload_n 2, 1) := by decide +kernel
theorem d_M_layFits_137 : decode b_M_layFits 137 = .ok (.iload_n 3, 1) := by decide +kernel
theorem d_M_layFits_138 : decode b_M_layFits 138 = .ok (.invokestatic 155, 3) := by decide +kernel
theorem d_M_layFits_141 : decode b_M_layFits 141 = .ok (.ifCond .eq 7, 3) := by decide +kernel
theorem d_M_layFits_144 : decode b_M_layFits 144 = .ok (.iconst 1, 1) := by decide +kernel
theorem d_M_layFits_145 : decode b_M_layFits 145 = .ok (.goto 4, 3) := by decide +kernel
theorem d_M_layFits_148 : decode b_M_layFits 148 = .ok (.iconst 0, 1) := by decide +kernel
theorem d_M_layFits_149 : decode b_M_layFits 149 = .ok (.iadd, 1) := by decide +kernel
theorem d_M_layFits_150 : decode b_M_layFits 150 = .ok (.iastore, 1) := by decide +kernel
theorem d_M_layFits_151 : decode b_M_layFits 151 = .ok (.iinc 3 1, 3) := by decide +kernel
theorem d_M_layFits_154 : decode b_M_layFits 154 = .ok (.goto (-33), 3) := by decide +kernel
theorem d_M_layFits_157 : decode b_M_layFits 157 = .ok (.iinc 2 1, 3) := by decide +kernel
theorem d_M_layFits_160 : decode b_M_layFits 160 = .ok (.goto (-109), 3) := by decide +kernel
theorem d_M_layFits_163 : decode b_M_layFits 163 = .ok (.return_, 1) := by decide +kernel
theorem mo_M_layFits : mok y_M_layFits b_M_layFits 4 none 1 := ⟨List.mem_of_getElem? (i := 1389) (by decide +kernel), ⟨by decide +kernel, by decide +kernel, by decide +kernel⟩, List.mem_of_getElem? (i := 86) (by decide +kernel), by decide⟩
set_option maxHeartbeats 4000000 in
theorem L_M_layFits_28 {X : FX} {u : Un} (hA : Ap u) {Q : State → Prop} (F : Fr X u "TakerBookModel" b_M_layFits 4) {σ : St} {n : Nat} {kd : Nat → Nat} (hb : mkOk σ n kd) {a : Nat} (ha : a < 64) (h0 : σ.1 76 0 = nI a) {v : Int32} (k0 : ∀ (i : Nat) (τ : St), fr σ τ → lf0 a n τ → V X u 4 4 Q 49 [(0, .ref (u.2.1 63)), (1, .int v), (2, .int (nI i))] [] (τ)) : ∀ (nn : Nat) (i : Nat) (τ : St), i ≤ n → fr σ τ → lf0 a i τ → n - i < nn → V X u 4 4 Q 28 [(0, .ref (u.2.1 63)), (1, .int v), (2, .int (nI i))] [] (τ) := by
  intro nn
  induction nn with
  | zero =>
    intro i τ hi fτ hl h2
    exact absurd h2 (Nat.not_lt_zero _)
  | succ nn ih =>
    intro i τ hi fτ hl hm
    obtain ⟨hn, hn6, hkd, hk6⟩ := id hb
    refine v_iload_n F d_M_layFits_28 rfl 2 rfl ?_
    refine v_aload_n F d_M_layFits_29 rfl 0 rfl ?_
    refine v_geti F fk_M_146 G63 rfl d_M_layFits_30 ?_
    refine v_te (y := nI n) (fτ.v rfl hn) ?_
    refine v_icmp_ge F 49 d_M_layFits_33 rfl (fun h33 => ?_) (fun h33 => ?_)
    · skip
      have h33 : n ≤ i := (nI_leI (a := n) (b := i) (by omega) (by omega)).mp h33
      exact k0 i τ fτ (by have e : i = n := (by omega); rw [← e]; exact hl)
    · skip
      have h33 : ¬ n ≤ i := fun q => h33 ((nI_leI (a := n) (b := i) (by omega) (by omega)).mpr q)
      refine v_aload_n F d_M_layFits_36 rfl 0 rfl ?_
      refine v_getr (r := 84) F fk_M_76 G63 rfl d_M_layFits_37 ?_
      refine v_iload_n F d_M_layFits_40 rfl 2 rfl ?_
      refine v_iconst (v := 0) F d_M_layFits_41 ki_0 ?_
      refine v_ias F i G84 rfl (by omega) d_M_layFits_42 ?_
      refine v_ns (fun σ1 eσ1 => ?_)
      have fσ1 : fr σ σ1 := by rw [eσ1]; exact fτ.u rfl
      refine v_iinc (v := nI (i + 1)) (ls' := [(2, .int (nI (i + 1))), (0, .ref (u.2.1 63)), (1, .int v)]) F d_M_layFits_43 (j := 2) rfl (nI_inc _) (by decide) rfl ?_
      refine v_goto F 28 d_M_layFits_46 rfl ?_
      refine v_sub [1, 2, 0] (ls' := [(0, .ref (u.2.1 63)), (1, .int v), (2, .int (nI (i + 1)))]) rfl ?_
      exact ih (i + 1) (σ1) (by omega) fσ1 (by rw [eσ1]; exact lf0_s hl) (by omega)
set_option maxHeartbeats 4000000 in
theorem L_M_layFits_121 {X : FX} {u : Un} (hA : Ap u) {Q : State → Prop} (F : Fr X u "TakerBookModel" b_M_layFits 4) {σ : St} {n : Nat} {kd : Nat → Nat} (hb : mkOk σ n kd) {a : Nat} (ha : a < 64) (h0 : σ.1 76 0 = nI a) {v : Int32} {s : Nat} (hs : s < 64) (k0 : ∀ (i : Nat) (τ : St), fr σ τ → lgOk (fiB σ kd n a v) a n s n τ → V X u 4 4 Q 157 [(0, .ref (u.2.1 63)), (1, .int v), (2, .int (nI s))] [] (τ)) : ∀ (nn : Nat) (i : Nat) (τ : St), i ≤ n → fr σ τ → lgOk (fiB σ kd n a v) a n s i τ → n - i < nn → V X u 4 4 Q 121 [(0, .ref (u.2.1 63)), (1, .int v), (2, .int (nI s)), (3, .int (nI i))] [] (τ) := by
  intro nn
  induction nn with
  | zero =>
    intro i τ hi fτ hl h2
    exact absurd h2 (Nat.not_lt_zero _)
  | succ nn ih =>
    intro i τ hi fτ hl hm
    obtain ⟨hn, hn6, hkd, hk6⟩ := id hb
    refine v_iload_n F d_M_layFits_121 rfl 3 rfl ?_
    refine v_aload_n F d_M_layFits_122 rfl 0 rfl ?_
    refine v_geti F fk_M_146 G63 rfl d_M_layFits_123 ?_
    refine v_te (y := nI n) (fτ.v rfl hn) ?_
    refine v_icmp_ge F 157 d_M_layFits_126 rfl (fun h126 => ?_) (fun h126 => ?_)
    · skip
      have h126 : n ≤ i := (nI_leI (a := n) (b := i) (by omega) (by omega)).mp h126
      refine v_sub [0, 1, 2] (ls' := [(0, .ref (u.2.1 63)), (1, .int v), (2, .int (nI s))]) rfl ?_
      exact k0 i τ fτ (by have e : i = n := (by omega); subst e; exact hl)
    · skip
      have h126 : ¬ n ≤ i := fun q => h126 ((nI_leI (a := n) (b := i) (by omega) (by omega)).mpr q)
      refine v_aload_n F d_M_layFits_129 rfl 0 rfl ?_
      refine v_getr (r := 84) F fk_M_76 G63 rfl d_M_layFits_130 ?_
      refine v_iload_n F d_M_layFits_133 rfl 3 rfl ?_
      refine v_dup2_11 F d_M_layFits_134 rfl rfl ?_
      refine v_ial F i G84 rfl (by omega) d_M_layFits_135 ?_
      refine v_iload_n F d_M_layFits_136 rfl 2 rfl ?_
      refine v_iload_n F d_M_layFits_137 rfl 3 rfl ?_
      refine v_runi (r_S F (c_M_has2 X.2.1 u hA τ i s (by omega) (by omega)) mo_M_has st_M_155 (by decide) rfl (Nat.le_of_ble_eq_true rfl) d_M_layFits_138) (fun r1 σ2 q3 => ?_)
      obtain ⟨rfl, rfl⟩ := q3
      refine v_bt F 148 d_M_layFits_141 rfl (fun h141 => ?_) (fun h141 => ?_)
      · skip
        refine v_iconst (v := 0) F d_M_layFits_148 ki_0 ?_
        refine v_iadd F d_M_layFits_149 ?_
        refine v_ias F i G84 rfl (by omega) d_M_layFits_150 ?_
        refine v_ns (fun σ4 eσ4 => ?_)
        have fσ4 : fr σ σ4 := by rw [eσ4]; exact fτ.u rfl
        refine v_iinc (v := nI (i + 1)) (ls' := [(3, .int (nI (i + 1))), (0, .ref (u.2.1 63)), (1, .int v), (2, .int (nI s))]) F d_M_layFits_151 (j := 3) rfl (nI_inc _) (by decide) rfl ?_
        refine v_goto F 121 d_M_layFits_154 rfl ?_
        refine v_sub [1, 2, 3, 0] (ls' := [(0, .ref (u.2.1 63)), (1, .int v), (2, .int (nI s)), (3, .int (nI (i + 1)))]) rfl ?_
        exact ih (i + 1) (σ4) (by omega) fσ4 (by rw [eσ4]; exact lg_s hl (by omega) (by first | (rw [if_pos (by assumption)]; done) | (rw [if_neg (by assumption)]; done))) (by omega)
      · skip
        refine v_iconst (v := 1) F d_M_layFits_144 ki_1 ?_
        refine v_goto F 149 d_M_layFits_145 rfl ?_
        refine v_iadd F d_M_layFits_149 ?_
        refine v_ias F i G84 rfl (by omega) d_M_layFits_150 ?_
        refine v_ns (fun σ5 eσ5 => ?_)
        have fσ5 : fr σ σ5 := by rw [eσ5]; exact fτ.u rfl
        refine v_iinc (v := nI (i + 1)) (ls' := [(3, .int (nI (i + 1))), (0, .ref (u.2.1 63)), (1, .int v), (2, .int (nI s))]) F d_M_layFits_151 (j := 3) rfl (nI_inc _) (by decide) rfl ?_
        refine v_goto F 121 d_M_layFits_154 rfl ?_
        refine v_sub [1, 2, 3, 0] (ls' := [(0, .ref (u.2.1 63)), (1, .int v), (2, .int (nI s)), (3, .int (nI (i + 1)))]) rfl ?_
        exact ih (i + 1) (σ5) (by omega) fσ5 (by rw [eσ5]; exact lg_s hl (by omega) (by first | (rw [if_pos (by assumption)]; done) | (rw [if_neg (by assumption)]; done))) (by omega)
set_option maxHeartbeats 4000000 in
theorem L_M_layFits_51 {X : FX} {u : Un} (hA : Ap u) {Q : State → Prop} (F : Fr X u "TakerBookModel" b_M_layFits 4) {σ : St} {n : Nat} {kd : Nat → Nat} (hb : mkOk σ n kd) {a : Nat} (ha : a < 64) (h0 : σ.1 76 0 = nI a) {v : Int32} (k0 : ∀ (s : Nat) (τ : St), fr σ τ → lfOk (fiB σ kd n a v) a n (2 ^ n) τ → V X u 4 4 Q 163 [(0, .ref (u.2.1 63))] [] (τ)) : ∀ (nn : Nat) (s : Nat) (τ : St), s ≤ 2 ^ n → fr σ τ → lfOk (fiB σ kd n a v) a n s τ → 2 ^ n - s < nn → V X u 4 4 Q 51 [(0, .ref (u.2.1 63)), (1, .int v), (2, .int (nI s))] [] (τ) := by
  intro nn
  induction nn with
  | zero =>
    intro s τ hi fτ hl h2
    exact absurd h2 (Nat.not_lt_zero _)
  | succ nn ih =>
    intro s τ hi fτ hl hm
    obtain ⟨hn, hn6, hkd, hk6⟩ := id hb
    have h64 := p2_64 hn6
    have hlb := lf_b (P := (fiB σ kd n a v)) ha s (by omega)
    refine v_iload_n F d_M_layFits_51 rfl 2 rfl ?_
    refine v_iconst (v := 1) F d_M_layFits_52 ki_1 ?_
    refine v_aload_n F d_M_layFits_53 rfl 0 rfl ?_
    refine v_geti F fk_M_146 G63 rfl d_M_layFits_54 ?_
    refine v_te (y := nI n) (fτ.v rfl hn) ?_
    refine v_ishl F d_M_layFits_57 ?_
    refine v_te (y := nI (2 ^ n)) (bit6 _ (by omega)) ?_
    refine v_icmp_ge F 163 d_M_layFits_58 rfl (fun h58 => ?_) (fun h58 => ?_)
    · skip
      have h58 : 2 ^ n ≤ s := (nI_leI (a := 2 ^ n) (b := s) (by omega) (by omega)).mp h58
      refine v_sub [0] (ls' := [(0, .ref (u.2.1 63))]) rfl ?_
      exact k0 s τ fτ (by have e : s = 2 ^ n := (by omega); rw [← e]; exact hl)
    · skip
      have h58 : ¬ 2 ^ n ≤ s := fun q => h58 ((nI_leI (a := 2 ^ n) (b := s) (by omega) (by omega)).mpr q)
      refine v_aload_n F d_M_layFits_61 rfl 0 rfl ?_
      refine v_iload_n F d_M_layFits_62 rfl 2 rfl ?_
      refine v_iload_n F d_M_layFits_63 rfl 1 rfl ?_
      refine v_runi (r_V F (c_M_isFit X.2.1 u hA fτ hb ha h0 s v (by omega)) mo_M_isFit st_M_267 rc_63 (by decide) rfl (Nat.le_of_ble_eq_true rfl) d_M_layFits_64) (fun r1 σ2 q3 => ?_)
      obtain ⟨rfl, rfl⟩ := q3
      refine v_bt F 157 d_M_layFits_67 rfl (fun h67 => ?_) (fun h67 => ?_)
      · skip
        refine v_iinc (v := nI (s + 1)) (ls' := [(2, .int (nI (s + 1))), (0, .ref (u.2.1 63)), (1, .int v)]) F d_M_layFits_157 (j := 2) rfl (nI_inc _) (by decide) rfl ?_
        refine v_goto F 51 d_M_layFits_160 rfl ?_
        refine v_sub [1, 2, 0] (ls' := [(0, .ref (u.2.1 63)), (1, .int v), (2, .int (nI (s + 1)))]) rfl ?_
        exact ih (s + 1) (τ) (by omega) fτ (lf_no hl (fiB_f (by assumption))) (by omega)
      · skip
        refine v_aload_n F d_M_layFits_70 rfl 0 rfl ?_
        refine v_aload_n F d_M_layFits_71 rfl 0 rfl ?_
        refine v_geti F fk_M_255 G63 rfl d_M_layFits_72 ?_
        refine v_te (y := nI (lfS (fiB σ kd n a v) a s).1) hl.1 ?_
        refine v_if_ne F 82 d_M_layFits_75 rfl (fun h75 => ?_) (fun h75 => ?_)
        · skip
          have h75 : ¬ (lfS (fiB σ kd n a v) a s).1 = 0 := fun q => h75 ((nI_eq (a := (lfS (fiB σ kd n a v) a s).1) (b := 0) (by omega) (by omega)).mpr q)
          refine v_aload_n F d_M_layFits_82 rfl 0 rfl ?_
          refine v_geti F fk_M_258 G63 rfl d_M_layFits_83 ?_
          refine v_puti F fk_M_258 pk_M_fitFirst G63 rfl d_M_layFits_86 ?_
          refine v_ns (fun σ4 eσ4 => ?_)
          have fσ4 : fr σ σ4 := by rw [eσ4]; exact fτ.u rfl
          refine v_aload_n F d_M_layFits_89 rfl 0 rfl ?_
          refine v_dup F d_M_layFits_90 rfl ?_
          refine v_geti F fk_M_255 G63 rfl d_M_layFits_91 ?_
          refine v_te (y := nI (lfS (fiB σ kd n a v) a s).1) (by subst_vars; (repeat rw [uI_n _ _ _ _ (by decide)]); exact hl.1) ?_
          refine v_iconst (v := 1) F d_M_layFits_94 ki_1 ?_
          refine v_iadd F d_M_layFits_95 ?_
          refine v_te (y := nI ((lfS (fiB σ kd n a v) a s).1 + 1)) (nI_add _ _) ?_
          refine v_puti F fk_M_255 pk_M_fitMany G63 rfl d_M_layFits_96 ?_
          refine v_ns (fun σ5 eσ5 => ?_)
          have fσ5 : fr σ σ5 := by rw [eσ5]; exact fσ4.u rfl
          refine v_aload_n F d_M_layFits_99 rfl 0 rfl ?_
          refine v_dup F d_M_layFits_100 rfl ?_
          refine v_geti F fk_M_261 G63 rfl d_M_layFits_101 ?_
          refine v_te (y := nI (lfS (fiB σ kd n a v) a s).2.2.1) (by subst_vars; (repeat rw [uI_n _ _ _ _ (by decide)]); exact hl.2.2.1) ?_
          refine v_iload_n F d_M_layFits_104 rfl 2 rfl ?_
          refine v_iand F d_M_layFits_105 ?_
          refine v_te (y := nI ((lfS (fiB σ kd n a v) a s).2.2.1 &&& s)) nI_and ?_
          refine v_puti F fk_M_261 pk_M_fitAll G63 rfl d_M_layFits_106 ?_
          refine v_ns (fun σ6 eσ6 => ?_)
          have fσ6 : fr σ σ6 := by rw [eσ6]; exact fσ5.u rfl
          refine v_aload_n F d_M_layFits_109 rfl 0 rfl ?_
          refine v_dup F d_M_layFits_110 rfl ?_
          refine v_geti F fk_M_264 G63 rfl d_M_layFits_111 ?_
          refine v_te (y := nI (lfS (fiB σ kd n a v) a s).2.2.2) (by subst_vars; (repeat rw [uI_n _ _ _ _ (by decide)]); exact hl.2.2.2.1) ?_
          refine v_iload_n F d_M_layFits_114 rfl 2 rfl ?_
          refine v_ior F d_M_layFits_115 ?_
          refine v_te (y := nI (((lfS (fiB σ kd n a v) a s).2.2.2) ||| s)) nI_or ?_
          refine v_puti F fk_M_264 pk_M_fitAny G63 rfl d_M_layFits_116 ?_
          refine v_ns (fun σ7 eσ7 => ?_)
          have fσ7 : fr σ σ7 := by rw [eσ7]; exact fσ6.u rfl
          refine v_iconst (v := 0) F d_M_layFits_119 ki_0 ?_
          refine v_istore_n (ls' := [(3, .int 0), (0, .ref (u.2.1 63)), (1, .int v), (2, .int (nI s))]) F d_M_layFits_120 rfl (by decide) rfl ?_
          refine v_sub [1, 2, 3, 0] (ls' := [(0, .ref (u.2.1 63)), (1, .int v), (2, .int (nI s)), (3, .int 0)]) rfl ?_
          have g8 : 0 = (nI 0) := (by first | rfl | (simp_all; done) | grind)
          refine v_to (ls' := [(0, .ref (u.2.1 63)), (1, .int v), (2, .int (nI s)), (3, .int (nI 0))]) (by first | rfl | rw [g8] | simp_all) ?_
          refine L_M_layFits_121 hA F hb ha h0 (by omega) (fun i τ2 fτ2 hl2 => ?_) _ 0 σ7 (Nat.zero_le _) fσ7 (by subst_vars; exact lg_0 hl (fiB_t (by assumption)) (by first | (rw [if_pos (by assumption)]; done) | (rw [if_neg (by assumption)]; done))) (Nat.lt_succ_self _)
          have hl3 := lg_n hl2 (fiB_t (by assumption))
          refine v_iinc (v := nI (s + 1)) (ls' := [(2, .int (nI (s + 1))), (0, .ref (u.2.1 63)), (1, .int v)]) F d_M_layFits_157 (j := 2) rfl (nI_inc _) (by decide) rfl ?_
          refine v_goto F 51 d_M_layFits_160 rfl ?_
          refine v_sub [1, 2, 0] (ls' := [(0, .ref (u.2.1 63)), (1, .int v), (2, .int (nI (s + 1)))]) rfl ?_
          exact ih (s + 1) (τ2) (by omega) fτ2 hl3 (by omega)
        · skip
          have h75 : (lfS (fiB σ kd n a v) a s).1 = 0 := (nI_eq (a := (lfS (fiB σ kd n a v) a s).1) (b := 0) (by omega) (by omega)).mp h75
          refine v_iload_n F d_M_layFits_78 rfl 2 rfl ?_
          refine v_goto F 86 d_M_layFits_79 rfl ?_
          refine v_puti F fk_M_258 pk_M_fitFirst G63 rfl d_M_layFits_86 ?_
          refine v_ns (fun σ9 eσ9 => ?_)
          have fσ9 : fr σ σ9 := by rw [eσ9]; exact fτ.u rfl
          refine v_aload_n F d_M_layFits_89 rfl 0 rfl ?_
          refine v_dup F d_M_layFits_90 rfl ?_
          refine v_geti F fk_M_255 G63 rfl d_M_layFits_91 ?_
          refine v_te (y := nI (lfS (fiB σ kd n a v) a s).1) (by subst_vars; (repeat rw [uI_n _ _ _ _ (by decide)]); exact hl.1) ?_
          refine v_iconst (v := 1) F d_M_layFits_94 ki_1 ?_
          refine v_iadd F d_M_layFits_95 ?_
          refine v_te (y := nI ((lfS (fiB σ kd n a v) a s).1 + 1)) (nI_add _ _) ?_
          refine v_puti F fk_M_255 pk_M_fitMany G63 rfl d_M_layFits_96 ?_
          refine v_ns (fun σ10 eσ10 => ?_)
          have fσ10 : fr σ σ10 := by rw [eσ10]; exact fσ9.u rfl
          refine v_aload_n F d_M_layFits_99 rfl 0 rfl ?_
          refine v_dup F d_M_layFits_100 rfl ?_
          refine v_geti F fk_M_261 G63 rfl d_M_layFits_101 ?_
          refine v_te (y := nI (lfS (fiB σ kd n a v) a s).2.2.1) (by subst_vars; (repeat rw [uI_n _ _ _ _ (by decide)]); exact hl.2.2.1) ?_
          refine v_iload_n F d_M_layFits_104 rfl 2 rfl ?_
          refine v_iand F d_M_layFits_105 ?_
          refine v_te (y := nI ((lfS (fiB σ kd n a v) a s).2.2.1 &&& s)) nI_and ?_
          refine v_puti F fk_M_261 pk_M_fitAll G63 rfl d_M_layFits_106 ?_
          refine v_ns (fun σ11 eσ11 => ?_)
          have fσ11 : fr σ σ11 := by rw [eσ11]; exact fσ10.u rfl
          refine v_aload_n F d_M_layFits_109 rfl 0 rfl ?_
          refine v_dup F d_M_layFits_110 rfl ?_
          refine v_geti F fk_M_264 G63 rfl d_M_layFits_111 ?_
          refine v_te (y := nI (lfS (fiB σ kd n a v) a s).2.2.2) (by subst_vars; (repeat rw [uI_n _ _ _ _ (by decide)]); exact hl.2.2.2.1) ?_
          refine v_iload_n F d_M_layFits_114 rfl 2 rfl ?_
          refine v_ior F d_M_layFits_115 ?_
          refine v_te (y := nI (((lfS (fiB σ kd n a v) a s).2.2.2) ||| s)) nI_or ?_
          refine v_puti F fk_M_264 pk_M_fitAny G63 rfl d_M_layFits_116 ?_
          refine v_ns (fun σ12 eσ12 => ?_)
          have fσ12 : fr σ σ12 := by rw [eσ12]; exact fσ11.u rfl
          refine v_iconst (v := 0) F d_M_layFits_119 ki_0 ?_
          refine v_istore_n (ls' := [(3, .int 0), (0, .ref (u.2.1 63)), (1, .int v), (2, .int (nI s))]) F d_M_layFits_120 rfl (by decide) rfl ?_
          refine v_sub [1, 2, 3, 0] (ls' := [(0, .ref (u.2.1 63)), (1, .int v), (2, .int (nI s)), (3, .int 0)]) rfl ?_
          have g13 : 0 = (nI 0) := (by first | rfl | (simp_all; done) | grind)
          refine v_to (ls' := [(0, .ref (u.2.1 63)), (1, .int v), (2, .int (nI s)), (3, .int (nI 0))]) (by first | rfl | rw [g13] | simp_all) ?_
          refine L_M_layFits_121 hA F hb ha h0 (by omega) (fun i τ2 fτ2 hl2 => ?_) _ 0 σ12 (Nat.zero_le _) fσ12 (by subst_vars; exact lg_0 hl (fiB_t (by assumption)) (by first | (rw [if_pos (by assumption)]; done) | (rw [if_neg (by assumption)]; done))) (Nat.lt_succ_self _)
          have hl3 := lg_n hl2 (fiB_t (by assumption))
          refine v_iinc (v := nI (s + 1)) (ls' := [(2, .int (nI (s + 1))), (0, .ref (u.2.1 63)), (1, .int v)]) F d_M_layFits_157 (j := 2) rfl (nI_inc _) (by decide) rfl ?_
          refine v_goto F 51 d_M_layFits_160 rfl ?_
          refine v_sub [1, 2, 0] (ls' := [(0, .ref (u.2.1 63)), (1, .int v), (2, .int (nI (s + 1)))]) rfl ?_
          exact ih (s + 1) (τ2) (by omega) fτ2 hl3 (by omega)
set_option maxHeartbeats 4000000 in
theorem c_M_layFits (l : Launch) (u : Un) (hA : Ap u) (σ : St) {n : Nat} {kd : Nat → Nat} (hb : mkOk σ n kd) {a : Nat} (ha : a < 64) (h0 : σ.1 76 0 = nI a) (v : Int32) : MTv l u y_M_layFits b_M_layFits 4 4 [.ref (u.2.1 63), .int v] σ (fun σ' => fr σ σ' ∧ lfOk (fiB σ kd n a v) a n (2 ^ n) σ') := by
  refine MT_of hA rfl (by decide) (Nat.le_of_ble_eq_true rfl) (fun X hl F hr => ?_)
  subst hl
  refine v_to (ls' := [(0, .ref (u.2.1 63)), (1, .int v)]) rfl ?_
  obtain ⟨hn, hn6, hkd, hk6⟩ := id hb
  refine v_aload_n F d_M_layFits_0 rfl 0 rfl ?_
  refine v_iconst (v := 0) F d_M_layFits_1 ki_0 ?_
  refine v_puti F fk_M_255 pk_M_fitMany G63 rfl d_M_layFits_2 ?_
  refine v_ns (fun σ1 eσ1 => ?_)
  have fσ1 : fr σ σ1 := by rw [eσ1]; exact fr.rf.u rfl
  refine v_aload_n F d_M_layFits_5 rfl 0 rfl ?_
  refine v_bipush (v := (-9)) F d_M_layFits_6 kb_m9 ?_
  refine v_puti F fk_M_258 pk_M_fitFirst G63 rfl d_M_layFits_8 ?_
  refine v_ns (fun σ2 eσ2 => ?_)
  have fσ2 : fr σ σ2 := by rw [eσ2]; exact fσ1.u rfl
  refine v_aload_n F d_M_layFits_11 rfl 0 rfl ?_
  refine v_aload_n F d_M_layFits_12 rfl 0 rfl ?_
  refine v_getr (r := 76) F fk_M_51 G63 rfl d_M_layFits_13 ?_
  refine v_iconst (v := 0) F d_M_layFits_16 ki_0 ?_
  refine v_ial F 0 G76 rfl (by omega) d_M_layFits_17 ?_
  refine v_te (y := nI a) (fσ2.v rfl h0) ?_
  refine v_puti F fk_M_261 pk_M_fitAll G63 rfl d_M_layFits_18 ?_
  refine v_ns (fun σ3 eσ3 => ?_)
  have fσ3 : fr σ σ3 := by rw [eσ3]; exact fσ2.u rfl
  refine v_aload_n F d_M_layFits_21 rfl 0 rfl ?_
  refine v_iconst (v := 0) F d_M_layFits_22 ki_0 ?_
  refine v_puti F fk_M_264 pk_M_fitAny G63 rfl d_M_layFits_23 ?_
  refine v_ns (fun σ4 eσ4 => ?_)
  have fσ4 : fr σ σ4 := by rw [eσ4]; exact fσ3.u rfl
  refine v_iconst (v := 0) F d_M_layFits_26 ki_0 ?_
  refine v_istore_n (ls' := [(2, .int 0), (0, .ref (u.2.1 63)), (1, .int v)]) F d_M_layFits_27 rfl (by decide) rfl ?_
  refine v_sub [1, 2, 0] (ls' := [(0, .ref (u.2.1 63)), (1, .int v), (2, .int 0)]) rfl ?_
  have g5 : 0 = (nI 0) := (by first | rfl | (simp_all; done) | grind)
  refine v_to (ls' := [(0, .ref (u.2.1 63)), (1, .int v), (2, .int (nI 0))]) (by first | rfl | rw [g5] | simp_all) ?_
  refine L_M_layFits_28 hA F hb ha h0 (fun i τ fτ hl => ?_) _ 0 σ4 (Nat.zero_le _) fσ4 (by subst_vars; exact lf0_0) (Nat.lt_succ_self _)
  refine v_iconst (v := 0) F d_M_layFits_49 ki_0 ?_
  refine v_istore_n (ls' := [(2, .int 0), (0, .ref (u.2.1 63)), (1, .int v)]) F d_M_layFits_50 rfl (by decide) rfl ?_
  refine v_sub [1, 2, 0] (ls' := [(0, .ref (u.2.1 63)), (1, .int v), (2, .int 0)]) rfl ?_
  have g6 : 0 = (nI 0) := (by first | rfl | (simp_all; done) | grind)
  refine v_to (ls' := [(0, .ref (u.2.1 63)), (1, .int v), (2, .int (nI 0))]) (by first | rfl | rw [g6] | simp_all) ?_
  refine L_M_layFits_51 hA F hb ha h0 (fun s τ3 fτ3 hl3 => ?_) _ 0 τ (Nat.zero_le _) fτ (lf0_n hl) (Nat.lt_succ_self _)
  refine v_vret F hr d_M_layFits_163 ?_
  exact ⟨fτ3, hl3⟩
abbrev b_M_fits : ByteArray := prog_14_method_76_code
abbrev y_M_fits : MethodName := ⟨"TakerBookModel", "fits", "(I)I"⟩
theorem d_M_fits_0 : decode b_M_fits 0 = .ok (.aload_n 0, 1) := by decide +kernel
theorem d_M_fits_1 : decode b_M_fits 1 = .ok (.iload_n 1, 1) := by decide +kernel
theorem d_M_fits_2 : decode b_M_fits 2 = .ok (.iconst 0, 1) := by decide +kernel
theorem d_M_fits_3 : decode b_M_fits 3 = .ok (.bipush 99, 2) := by decide +kernel
theorem d_M_fits_5 : decode b_M_fits 5 = .ok (.invokestatic 89, 3) := by decide +kernel
theorem d_M_fits_8 : decode b_M_fits 8 = .ok (.invokevirtual 229, 3) := by decide +kernel
theorem d_M_fits_11 : decode b_M_fits 11 = .ok (.istore_n 2, 1) := by decide +kernel
theorem d_M_fits_12 : decode b_M_fits 12 = .ok (.iload_n 2, 1) := by decide +kernel
theorem d_M_fits_13 : decode b_M_fits 13 = .ok (.ifCond .ge 5, 3) := by decide +kernel
theorem d_M_fits_16 : decode b_M_fits 16 = .ok (.iload_n 2, 1) := by decide +kernel
theorem d_M_fits_17 : decode b_M_fits 17 = .ok (.ireturn, 1) := by decide +kernel
theorem d_M_fits_18 : decode b_M_fits 18 = .ok (.aload_n 0, 1) := by decide +kernel
theorem d_M_fits_19 : decode b_M_fits 19 = .ok (.iload_n 1, 1) := by decide +kernel
theorem d_M_fits_20 : decode b_M_fits 20 = .ok (.invokevirtual 270, 3) := by decide +kernel
theorem d_M_fits_23 : decode b_M_fits 23 = .ok (.aload_n 0, 1) := by decide +kernel
theorem d_M_fits_24 : decode b_M_fits 24 = .ok (.aload_n 0, 1) := by decide +kernel
theorem d_M_fits_25 : decode b_M_fits 25 = .ok (.getfield 255, 3) := by decide +kernel
theorem d_M_fits_28 : decode b_M_fits 28 = .ok (.i2l, 1) := by decide +kernel
theorem d_M_fits_29 : decode b_M_fits 29 = .ok (.lconst 1, 1) := by decide +kernel
theorem d_M_fits_30 : decode b_M_fits 30 = .ok (.invokevirtual 251, 3) := by decide +kernel
theorem d_M_fits_33 : decode b_M_fits 33 = .ok (.pop, 1) := by decide +kernel
theorem d_M_fits_34 : decode b_M_fits 34 = .ok (.aload_n 0, 1) := by decide +kernel
theorem d_M_fits_35 : decode b_M_fits 35 = .ok (.aload_n 0, 1) := by decide +kernel
theorem d_M_fits_36 : decode b_M_fits 36 = .ok (.getfield 258, 3) := by decide +kernel
theorem d_M_fits_39 : decode b_M_fits 39 = .ok (.iconst 1, 1) := by decide +kernel
theorem d_M_fits_40 : decode b_M_fits 40 = .ok (.invokevirtual 111, 3) := by decide +kernel
theorem d_M_fits_43 : decode b_M_fits 43 = .ok (.ireturn, 1) := by decide +kernel
theorem mo_M_fits : mok y_M_fits b_M_fits 3 (some .int) 1 := ⟨List.mem_of_getElem? (i := 1385) (by decide +kernel), ⟨by decide +kernel, by decide +kernel, by decide +kernel⟩, List.mem_of_getElem? (i := 86) (by decide +kernel), by decide⟩
set_option maxHeartbeats 4000000 in
theorem c_M_fits (l : Launch) (u : Un) (hA : Ap u) (σ : St) {n : Nat} {kd : Nat → Nat} (hb : mkOk σ n kd) {a : Nat} (ha : a < 64) (h0 : σ.1 76 0 = nI a) (v : Int32) : MTi l u y_M_fits b_M_fits 3 .int 5 [.ref (u.2.1 63), .int v] σ (fun ans σ' => ∃ τ, fr σ τ ∧ (ans, σ') = mFits σ τ kd n a v) := by
  refine MT_of hA rfl (by decide) (Nat.le_of_ble_eq_true rfl) (fun X hl F hr => ?_)
  subst hl
  refine v_to (ls' := [(0, .ref (u.2.1 63)), (1, .int v)]) rfl ?_
  obtain ⟨hn, hn6, hkd, hk6⟩ := id hb
  have hlr : (lfR σ kd n a v).1 = (lfS (fiB σ kd n a v) a (2 ^ n)).1 := rfl
  refine v_aload_n F d_M_fits_0 rfl 0 rfl ?_
  refine v_iload_n F d_M_fits_1 rfl 1 rfl ?_
  refine v_iconst (v := 0) F d_M_fits_2 ki_0 ?_
  refine v_bipush (v := 99) F d_M_fits_3 kb_99 ?_
  refine v_runi (r_S F (c_M_in X.2.1 u hA σ v 0 99 ) mo_M_in st_M_89 (by decide) rfl (Nat.le_of_ble_eq_true rfl) d_M_fits_5) (fun r1 σ2 q3 => ?_)
  obtain ⟨rfl, rfl⟩ := q3
  refine v_runi (r_V F (c_M_need X.2.1 u hA σ hb (0 ≤ v ∧ v ≤ 99)) mo_M_need st_M_229 rc_63 (by decide) rfl (Nat.le_of_ble_eq_true rfl) d_M_fits_8) (fun r4 σ5 q6 => ?_)
  rcases q6 with ⟨a1, rfl, rfl⟩ | ⟨a1, a2, rfl, rfl⟩ | ⟨a1, a2, rfl, rfl⟩
  · skip
    refine v_istore_n (ls' := [(2, .int (-1)), (0, .ref (u.2.1 63)), (1, .int v)]) F d_M_fits_11 rfl (by decide) rfl ?_
    refine v_iload_n F d_M_fits_12 rfl 0 rfl ?_
    refine v_if_ge F 18 d_M_fits_13 rfl (fun h => absurd h (by decide)) (fun _ => ?_)
    refine v_iload_n F d_M_fits_16 rfl 0 rfl ?_
    refine v_iret F hr rfl d_M_fits_17 ?_
    exact ⟨σ, fr.rf, by unfold mFits; first | (rw [if_pos (by assumption)]; done) | (rw [if_neg (fun q => q (by assumption)), if_pos (by assumption)]; done)⟩
  · skip
    refine v_istore_n (ls' := [(2, .int (-4)), (0, .ref (u.2.1 63)), (1, .int v)]) F d_M_fits_11 rfl (by decide) rfl ?_
    refine v_iload_n F d_M_fits_12 rfl 0 rfl ?_
    refine v_if_ge F 18 d_M_fits_13 rfl (fun h => absurd h (by decide)) (fun _ => ?_)
    refine v_iload_n F d_M_fits_16 rfl 0 rfl ?_
    refine v_iret F hr rfl d_M_fits_17 ?_
    exact ⟨σ, fr.rf, by unfold mFits; first | (rw [if_pos (by assumption)]; done) | (rw [if_neg (fun q => q (by assumption)), if_pos (by assumption)]; done)⟩
  · skip
    refine v_istore_n (ls' := [(2, .int 0), (0, .ref (u.2.1 63)), (1, .int v)]) F d_M_fits_11 rfl (by decide) rfl ?_
    refine v_iload_n F d_M_fits_12 rfl 0 rfl ?_
    refine v_if_ge F 18 d_M_fits_13 rfl (fun _ => ?_) (fun h => absurd (by decide) h)
    refine v_aload_n F d_M_fits_18 rfl 1 rfl ?_
    refine v_iload_n F d_M_fits_19 rfl 2 rfl ?_
    refine v_runv (r_V F (c_M_layFits X.2.1 u hA σ hb ha h0 v) mo_M_layFits st_M_270 rc_63 (by decide) rfl (Nat.le_of_ble_eq_true rfl) d_M_fits_20) (fun σ8 q9 => ?_)
    obtain ⟨fσ8, hl⟩ := q9
    have hlb := lf_b (P := (fiB σ kd n a v)) ha (2 ^ n) (p2_64 hn6)
    have h64 := p2_64 hn6
    refine v_aload_n F d_M_fits_23 rfl 1 rfl ?_
    refine v_aload_n F d_M_fits_24 rfl 1 rfl ?_
    refine v_geti F fk_M_255 G63 rfl d_M_fits_25 ?_
    refine v_te (y := nI (lfR σ kd n a v).1) hl.1 ?_
    refine v_i2l F d_M_fits_28 ?_
    refine v_tl (y := (lN (lfR σ kd n a v).1)) (nI_l (by omega)) ?_
    refine v_lconst (v := 1) F d_M_fits_29 rfl ?_
    refine v_runi (r_V F (c_M_fraction X.2.1 u hA σ8 (lfR σ kd n a v).1 1 (by omega) (by omega) (by omega)) mo_M_fraction st_M_251 rc_63 (by decide) rfl (Nat.le_of_ble_eq_true rfl) d_M_fits_30) (fun r10 σ11 q12 => ?_)
    obtain ⟨rfl, eσ11⟩ := q12
    refine v_pop F d_M_fits_33 rfl ?_
    refine v_aload_n F d_M_fits_34 rfl 1 rfl ?_
    refine v_aload_n F d_M_fits_35 rfl 1 rfl ?_
    refine v_geti F fk_M_258 G63 rfl d_M_fits_36 ?_
    refine v_te (y := (lfR σ kd n a v).2.1) (by rw [eσ11]; exact hl.2.1) ?_
    refine v_iconst (v := 1) F d_M_fits_39 ki_1 ?_
    refine v_runi (r_V F (c_M_tells X.2.1 u hA σ11 ((lfR σ kd n a v).2.1) 1) mo_M_tells st_M_111 rc_63 (by decide) rfl (Nat.le_of_ble_eq_true rfl) d_M_fits_40) (fun r13 σ14 q15 => ?_)
    obtain ⟨rfl, eσ14⟩ := q15
    refine v_iret F hr rfl d_M_fits_43 ?_
    exact ⟨_, fσ8, by unfold mFits; rw [if_neg (fun q => q (by assumption)), if_neg (by assumption)]; subst_vars; simp only [Nat.gcd_one_right, Nat.div_one]⟩
abbrev b_M_sure : ByteArray := prog_14_method_77_code
abbrev y_M_sure : MethodName := ⟨"TakerBookModel", "sure", "(I)I"⟩
theorem d_M_sure_0 : decode b_M_sure 0 = .ok (.aload_n 0, 1) := by decide +kernel
theorem d_M_sure_1 : decode b_M_sure 1 = .ok (.iload_n 1, 1) := by decide +kernel
theorem d_M_sure_2 : decode b_M_sure 2 = .ok (.iconst 0, 1) := by decide +kernel
theorem d_M_sure_3 : decode b_M_sure 3 = .ok (.bipush 99, 2) := by decide +kernel
theorem d_M_sure_5 : decode b_M_sure 5 = .ok (.invokestatic 89, 3) := by decide +kernel
theorem d_M_sure_8 : decode b_M_sure 8 = .ok (.invokevirtual 229, 3) := by decide +kernel
theorem d_M_sure_11 : decode b_M_sure 11 = .ok (.istore_n 2, 1) := by decide +kernel
theorem d_M_sure_12 : decode b_M_sure 12 = .ok (.iload_n 2, 1) := by decide +kernel
theorem d_M_sure_13 : decode b_M_sure 13 = .ok (.ifCond .ge 5, 3) := by decide +kernel
theorem d_M_sure_16 : decode b_M_sure 16 = .ok (.iload_n 2, 1) := by decide +kernel
theorem d_M_sure_17 : decode b_M_sure 17 = .ok (.ireturn, 1) := by decide +kernel
theorem d_M_sure_18 : decode b_M_sure 18 = .ok (.aload_n 0, 1) := by decide +kernel
theorem d_M_sure_19 : decode b_M_sure 19 = .ok (.iload_n 1, 1) := by decide +kernel
theorem d_M_sure_20 : decode b_M_sure 20 = .ok (.invokevirtual 270, 3) := by decide +kernel
theorem d_M_sure_23 : decode b_M_sure 23 = .ok (.aload_n 0, 1) := by decide +kernel
theorem d_M_sure_24 : decode b_M_sure 24 = .ok (.getfield 255, 3) := by decide +kernel
theorem d_M_sure_27 : decode b_M_sure 27 = .ok (.ifCond .ne 11, 3) := by decide +kernel
theorem d_M_sure_30 : decode b_M_sure 30 = .ok (.aload_n 0, 1) := by decide +kernel
theorem d_M_sure_31 : decode b_M_sure 31 = .ok (.iconst 4, 1) := by decide +kernel
theorem d_M_sure_32 : decode b_M_sure 32 = .ok (.invokevirtual 103, 3) := by decide +kernel
theorem d_M_sure_35 : decode b_M_sure 35 = .ok (.goto 24, 3) := by decide +kernel
theorem d_M_sure_38 : decode b_M_sure 38 = .ok (.aload_n 0, 1) := by decide +kernel
theorem d_M_sure_39 : decode b_M_sure 39 = .ok (.aload_n 0, 1) := by decide +kernel
theorem d_M_sure_40 : decode b_M_sure 40 = .ok (.getfield 51, 3) := by decide +kernel
theorem d_M_sure_43 : decode b_M_sure 43 = .ok (.iconst 0, 1) := by decide +kernel
theorem d_M_sure_44 : decode b_M_sure 44 = .ok (.iaload, 1) := by decide +kernel
theorem d_M_sure_45 : decode b_M_sure 45 = .ok (.aload_n 0, 1) := by decide +kernel
theorem d_M_sure_46 : decode b_M_sure 46 = .ok (.getfield 264, 3) := by decide +kernel
theorem d_M_sure_49 : decode b_M_sure 49 = .ok (.iconst (-1), 1) := by decide +kernel
theorem d_M_sure_50 : decode b_M_sure 50 = .ok (.ixor, 1) := by decide +kernel
theorem d_M_sure_51 : decode b_M_sure 51 = .ok (.iand, 1) := by decide +kernel
theorem d_M_sure_52 : decode b_M_sure 52 = .ok (.aload_n 0, 1) := by decide +kernel
theorem d_M_sure_53 : decode b_M_sure 53 = .ok (.getfield 261, 3) := by decide +kernel
theorem d_M_sure_56 : decode b_M_sure 56 = .ok (.invokevirtual 111, 3) := by decide +kernel
theorem d_M_sure_59 : decode b_M_sure 59 = .ok (.ireturn, 1) := by decide +kernel
theorem mo_M_sure : mok y_M_sure b_M_sure 3 (some .int) 1 := ⟨List.mem_of_getElem? (i := 1397) (by decide +kernel), ⟨by decide +kernel, by decide +kernel, by decide +kernel⟩, List.mem_of_getElem? (i := 86) (by decide +kernel), by decide⟩
set_option maxHeartbeats 4000000 in
theorem c_M_sure (l : Launch) (u : Un) (hA : Ap u) (σ : St) {n : Nat} {kd : Nat → Nat} (hb : mkOk σ n kd) {a : Nat} (ha : a < 64) (h0 : σ.1 76 0 = nI a) (v : Int32) : MTi l u y_M_sure b_M_sure 3 .int 5 [.ref (u.2.1 63), .int v] σ (fun ans σ' => ∃ τ, fr σ τ ∧ (ans, σ') = mSure σ τ kd n a v) := by
  refine MT_of hA rfl (by decide) (Nat.le_of_ble_eq_true rfl) (fun X hl F hr => ?_)
  subst hl
  refine v_to (ls' := [(0, .ref (u.2.1 63)), (1, .int v)]) rfl ?_
  obtain ⟨hn, hn6, hkd, hk6⟩ := id hb
  have hlr : (lfR σ kd n a v).1 = (lfS (fiB σ kd n a v) a (2 ^ n)).1 := rfl
  refine v_aload_n F d_M_sure_0 rfl 0 rfl ?_
  refine v_iload_n F d_M_sure_1 rfl 1 rfl ?_
  refine v_iconst (v := 0) F d_M_sure_2 ki_0 ?_
  refine v_bipush (v := 99) F d_M_sure_3 kb_99 ?_
  refine v_runi (r_S F (c_M_in X.2.1 u hA σ v 0 99 ) mo_M_in st_M_89 (by decide) rfl (Nat.le_of_ble_eq_true rfl) d_M_sure_5) (fun r1 σ2 q3 => ?_)
  obtain ⟨rfl, rfl⟩ := q3
  refine v_runi (r_V F (c_M_need X.2.1 u hA σ hb (0 ≤ v ∧ v ≤ 99)) mo_M_need st_M_229 rc_63 (by decide) rfl (Nat.le_of_ble_eq_true rfl) d_M_sure_8) (fun r4 σ5 q6 => ?_)
  rcases q6 with ⟨a1, rfl, rfl⟩ | ⟨a1, a2, rfl, rfl⟩ | ⟨a1, a2, rfl, rfl⟩
  · skip
    refine v_istore_n (ls' := [(2, .int (-1)), (0, .ref (u.2.1 63)), (1, .int v)]) F d_M_sure_11 rfl (by decide) rfl ?_
    refine v_iload_n F d_M_sure_12 rfl 0 rfl ?_
    refine v_if_ge F 18 d_M_sure_13 rfl (fun h => absurd h (by decide)) (fun _ => ?_)
    refine v_iload_n F d_M_sure_16 rfl 0 rfl ?_
    refine v_iret F hr rfl d_M_sure_17 ?_
    exact ⟨σ, fr.rf, by unfold mSure; first | (rw [if_pos (by assumption)]; done) | (rw [if_neg (fun q => q (by assumption)), if_pos (by assumption)]; done)⟩
  · skip
    refine v_istore_n (ls' := [(2, .int (-4)), (0, .ref (u.2.1 63)), (1, .int v)]) F d_M_sure_11 rfl (by decide) rfl ?_
    refine v_iload_n F d_M_sure_12 rfl 0 rfl ?_
    refine v_if_ge F 18 d_M_sure_13 rfl (fun h => absurd h (by decide)) (fun _ => ?_)
    refine v_iload_n F d_M_sure_16 rfl 0 rfl ?_
    refine v_iret F hr rfl d_M_sure_17 ?_
    exact ⟨σ, fr.rf, by unfold mSure; first | (rw [if_pos (by assumption)]; done) | (rw [if_neg (fun q => q (by assumption)), if_pos (by assumption)]; done)⟩
  · skip
    refine v_istore_n (ls' := [(2, .int 0), (0, .ref (u.2.1 63)), (1, .int v)]) F d_M_sure_11 rfl (by decide) rfl ?_
    refine v_iload_n F d_M_sure_12 rfl 0 rfl ?_
    refine v_if_ge F 18 d_M_sure_13 rfl (fun _ => ?_) (fun h => absurd (by decide) h)
    refine v_aload_n F d_M_sure_18 rfl 1 rfl ?_
    refine v_iload_n F d_M_sure_19 rfl 2 rfl ?_
    refine v_runv (r_V F (c_M_layFits X.2.1 u hA σ hb ha h0 v) mo_M_layFits st_M_270 rc_63 (by decide) rfl (Nat.le_of_ble_eq_true rfl) d_M_sure_20) (fun σ8 q9 => ?_)
    obtain ⟨fσ8, hl⟩ := q9
    have hlb := lf_b (P := (fiB σ kd n a v)) ha (2 ^ n) (p2_64 hn6)
    have h64 := p2_64 hn6
    refine v_aload_n F d_M_sure_23 rfl 1 rfl ?_
    refine v_geti F fk_M_255 G63 rfl d_M_sure_24 ?_
    refine v_te (y := nI (lfR σ kd n a v).1) hl.1 ?_
    refine v_if_ne F 38 d_M_sure_27 rfl (fun h27 => ?_) (fun h27 => ?_)
    · skip
      have h27 : ¬ (lfR σ kd n a v).1 = 0 := fun q => h27 ((nI_eq (a := (lfR σ kd n a v).1) (b := 0) (by omega) (by omega)).mpr q)
      refine v_aload_n F d_M_sure_38 rfl 1 rfl ?_
      refine v_aload_n F d_M_sure_39 rfl 1 rfl ?_
      refine v_getr (r := 76) F fk_M_51 G63 rfl d_M_sure_40 ?_
      refine v_iconst (v := 0) F d_M_sure_43 ki_0 ?_
      refine v_ial F 0 G76 rfl (by omega) d_M_sure_44 ?_
      refine v_te (y := nI a) (fσ8.v rfl h0) ?_
      refine v_aload_n F d_M_sure_45 rfl 1 rfl ?_
      refine v_geti F fk_M_264 G63 rfl d_M_sure_46 ?_
      refine v_te (y := nI (lfR σ kd n a v).2.2.2) hl.2.2.2.1 ?_
      refine v_iconst (v := (-1)) F d_M_sure_49 ki_m1 ?_
      refine v_ixor F d_M_sure_50 ?_
      refine v_iand F d_M_sure_51 ?_
      refine v_te (y := nI (a &&& (63 ^^^ (lfR σ kd n a v).2.2.2))) (sub6 ha hlb.2.2) ?_
      refine v_aload_n F d_M_sure_52 rfl 1 rfl ?_
      refine v_geti F fk_M_261 G63 rfl d_M_sure_53 ?_
      refine v_te (y := nI (lfR σ kd n a v).2.2.1) hl.2.2.1 ?_
      refine v_runi (r_V F (c_M_tells X.2.1 u hA σ8 (nI (a &&& (63 ^^^ (lfR σ kd n a v).2.2.2))) (nI (lfR σ kd n a v).2.2.1)) mo_M_tells st_M_111 rc_63 (by decide) rfl (Nat.le_of_ble_eq_true rfl) d_M_sure_56) (fun r10 σ11 q12 => ?_)
      obtain ⟨rfl, eσ11⟩ := q12
      refine v_iret F hr rfl d_M_sure_59 ?_
      exact ⟨_, fσ8, by unfold mSure; rw [if_neg (fun q => q (by assumption)), if_neg (by assumption)]; first | (rw [if_pos (by assumption)]; subst_vars; rfl) | (rw [if_neg (by assumption)]; subst_vars; rfl)⟩
    · skip
      have h27 : (lfR σ kd n a v).1 = 0 := (nI_eq (a := (lfR σ kd n a v).1) (b := 0) (by omega) (by omega)).mp h27
      refine v_aload_n F d_M_sure_30 rfl 1 rfl ?_
      refine v_iconst (v := 4) F d_M_sure_31 ki_4 ?_
      refine v_runi (r_V F (c_M_meets X.2.1 u hA σ8 4 (by decide)) mo_M_meets st_M_103 rc_63 (by decide) rfl (Nat.le_of_ble_eq_true rfl) d_M_sure_32) (fun r13 σ14 q15 => ?_)
      obtain ⟨rfl, eσ14⟩ := q15
      refine v_goto F 59 d_M_sure_35 rfl ?_
      refine v_iret F hr rfl d_M_sure_59 ?_
      exact ⟨_, fσ8, by unfold mSure; rw [if_neg (fun q => q (by assumption)), if_neg (by assumption)]; first | (rw [if_pos (by assumption)]; subst_vars; rfl) | (rw [if_neg (by assumption)]; subst_vars; rfl)⟩
abbrev b_M_ask : ByteArray := prog_14_method_78_code
abbrev y_M_ask : MethodName := ⟨"TakerBookModel", "ask", "(I)I"⟩
theorem d_M_ask_0 : decode b_M_ask 0 = .ok (.aload_n 0, 1) := by decide +kernel
theorem d_M_ask_1 : decode b_M_ask 1 = .ok (.iload_n 1, 1) := by decide +kernel
theorem d_M_ask_2 : decode b_M_ask 2 = .ok (.iconst 0, 1) := by decide +kernel
theorem d_M_ask_3 : decode b_M_ask 3 = .ok (.bipush 99, 2) := by decide +kernel
theorem d_M_ask_5 : decode b_M_ask 5 = .ok (.invokestatic 89, 3) := by decide +kernel
theorem d_M_ask_8 : decode b_M_ask 8 = .ok (.invokevirtual 229, 3) := by decide +kernel
theorem d_M_ask_11 : decode b_M_ask 11 = .ok (.istore_n 2, 1) := by decide +kernel
theorem d_M_ask_12 : decode b_M_ask 12 = .ok (.iload_n 2, 1) := by decide +kernel
theorem d_M_ask_13 : decode b_M_ask 13 = .ok (.ifCond .ge 5, 3) := by decide +kernel
theorem d_M_ask_16 : decode b_M_ask 16 = .ok (.iload_n 2, 1) := by decide +kernel
theorem d_M_ask_17 : decode b_M_ask 17 = .ok (.ireturn, 1) := by decide +kernel
theorem d_M_ask_18 : decode b_M_ask 18 = .ok (.aload_n 0, 1) := by decide +kernel
theorem d_M_ask_19 : decode b_M_ask 19 = .ok (.iload_n 1, 1) := by decide +kernel
theorem d_M_ask_20 : decode b_M_ask 20 = .ok (.invokevirtual 270, 3) := by decide +kernel
theorem d_M_ask_23 : decode b_M_ask 23 = .ok (.aload_n 0, 1) := by decide +kernel
theorem d_M_ask_24 : decode b_M_ask 24 = .ok (.getfield 255, 3) := by decide +kernel
theorem d_M_ask_27 : decode b_M_ask 27 = .ok (.ifCond .ne 9, 3) := by decide +kernel
theorem d_M_ask_30 : decode b_M_ask 30 = .ok (.aload_n 0, 1) := by decide +kernel
theorem d_M_ask_31 : decode b_M_ask 31 = .ok (.iconst 4, 1) := by decide +kernel
theorem d_M_ask_32 : decode b_M_ask 32 = .ok (.invokevirtual 103, 3) := by decide +kernel
theorem d_M_ask_35 : decode b_M_ask 35 = .ok (.ireturn, 1) := by decide +kernel
theorem d_M_ask_36 : decode b_M_ask 36 = .ok (.bipush (-9), 2) := by decide +kernel
theorem d_M_ask_38 : decode b_M_ask 38 = .ok (.istore_n 3, 1) := by decide +kernel
theorem d_M_ask_39 : decode b_M_ask 39 = .ok (.ldc 218, 2) := by decide +kernel
theorem d_M_ask_41 : decode b_M_ask 41 = .ok (.istore 4, 2) := by decide +kernel
theorem d_M_ask_43 : decode b_M_ask 43 = .ok (.iconst 0, 1) := by decide +kernel
theorem d_M_ask_44 : decode b_M_ask 44 = .ok (.istore 5, 2) := by decide +kernel
theorem d_M_ask_46 : decode b_M_ask 46 = .ok (.iload 5, 2) := by decide +kernel
theorem d_M_ask_48 : decode b_M_ask 48 = .ok (.aload_n 0, 1) := by decide +kernel
theorem d_M_ask_49 : decode b_M_ask 49 = .ok (.getfield 146, 3) := by decide +kernel
theorem d_M_ask_52 : decode b_M_ask 52 = .ok (.if_icmp .ge 103, 3) := by decide +kernel
theorem d_M_ask_55 : decode b_M_ask 55 = .ok (.aload_n 0, 1) := by decide +kernel
theorem d_M_ask_56 : decode b_M_ask 56 = .ok (.getfield 255, 3) := by decide +kernel
theorem d_M_ask_59 : decode b_M_ask 59 = .ok (.aload_n 0, 1) := by decide +kernel
theorem d_M_ask_60 : decode b_M_ask 60 = .ok (.getfield 76, 3) := by decide +kernel
theorem d_M_ask_63 : decode b_M_ask 63 = .ok (.iload 5, 2) := by decide +kernel
theorem d_M_ask_65 : decode b_M_ask 65 = .ok (.iaload, 1) := by decide +kernel
theorem d_M_ask_66 : decode b_M_ask 66 = .ok (.isub, 1) := by decide +kernel
theorem d_M_ask_67 : decode b_M_ask 67 = .ok (.istore 6, 2) := by decide +kernel
theorem d_M_ask_69 : decode b_M_ask 69 = .ok (.aload_n 0, 1) := by decide +kernel
theorem d_M_ask_70 : decode b_M_ask 70 = .ok (.getfield 76, 3) := by decide +kernel
theorem d_M_ask_73 : decode b_M_ask 73 = .ok (.iload 5, 2) := by decide +kernel
theorem d_M_ask_75 : decode b_M_ask 75 = .ok (.iaload, 1) := by decide +kernel
theorem d_M_ask_76 : decode b_M_ask 76 = .ok (.iload 6, 2) := by decide +kernel
theorem d_M_ask_78 : decode b_M_ask 78 = .ok (.if_icmp .le 13, 3) := by decide +kernel
theorem d_M_ask_81 : decode b_M_ask 81 = .ok (.aload_n 0, 1) := by decide +kernel
theorem d_M_ask_82 : decode b_M_ask 82 = .ok (.getfield 76, 3) := by decide +kernel
theorem d_M_ask_85 : decode b_M_ask 85 = .ok (.iload 5, 2) := by decide +kernel
theorem d_M_ask_87 : decode b_M_ask 87 = .ok (.iaload, 1) := by decide +kernel
theorem d_M_ask_88 : decode b_M_ask 88 = .ok (.goto 5, 3) := by decide +kernel
theorem d_M_ask_91 : decode b_M_ask 91 = .ok (.iload 6, 2) := by decide +kernel
theorem d_M_ask_93 : decode b_M_ask 93 = .ok (.istore 7, 2) := by decide +kernel
theorem d_M_ask_95 : decode b_M_ask 95 = .ok (.aload_n 0, 1) := by decide +kernel
theorem d_M_ask_96 : decode b_M_ask 96 = .ok (.getfield 51, 3) := by decide +kernel
theorem d_M_ask_99 : decode b_M_ask 99 = .ok (.iconst 0, 1) := by decide +kernel
theorem d_M_ask_100 : decode b_M_ask 100 = .ok (.iaload, 1) := by decide +kernel
theorem d_M_ask_101 : decode b_M_ask 101 = .ok (.iload 5, 2) := by decide +kernel
theorem d_M_ask_103 : decode b_M_ask 103 = .ok (.invokestatic 155, 3) := by decide +kernel
theorem d_M_ask_106 : decode b_M_ask 106 = .ok (.ifCond .eq 14, 3) := by decide +kernel
theorem d_M_ask_109 : decode b_M_ask 109 = .ok (.iload 7, 2) := by decide +kernel
theorem d_M_ask_111 : decode b_M_ask 111 = .ok (.iload 4, 2) := by decide +kernel
theorem d_M_ask_113 : decode b_M_ask 113 = .ok (.if_icmp .ge 7, 3) := by decide +kernel
theorem d_M_ask_116 : decode b_M_ask 116 = .ok (.iconst 1, 1) := by decide +kernel
theorem d_M_ask_117 : decode b_M_ask 117 = .ok (.goto 4, 3) := by decide +kernel
theorem d_M_ask_120 : decode b_M_ask 120 = .ok (.iconst 0, 1) := by decide +kernel
theorem d_M_ask_121 : decode b_M_ask 121 = .ok (.istore 8, 2) := by decide +kernel
theorem d_M_ask_123 : decode b_M_ask 123 = .ok (.iload 8, 2) := by decide +kernel
theorem d_M_ask_125 : decode b_M_ask 125 = .ok (.ifCond .eq 8, 3) := by decide +kernel
theorem d_M_ask_128 : decode b_M_ask 128 = .ok (.iload 5, 2) := by decide +kernel
theorem d_M_ask_130 : decode b_M_ask 130 = .ok (.goto 4, 3) := by decide +kernel
theorem d_M_ask_133 : decode b_M_ask 133 = .ok (.iload_n 3, 1) := by decide +kernel
theorem d_M_ask_134 : decode b_M_ask 134 = .ok (.istore_n 3, 1) := by decide +kernel
theorem d_M_ask_135 : decode b_M_ask 135 = .ok (.iload 8, 2) := by decide +kernel
theorem d_M_ask_137 : decode b_M_ask 137 = .ok (.ifCond .eq 8, 3) := by decide +kernel
theorem d_M_ask_140 : decode b_M_ask 140 = .ok (.iload 7, 2) := by decide +kernel
theorem d_M_ask_142 : decode b_M_ask 142 = .ok (.goto 5, 3) := by decide +kernel
theorem d_M_ask_145 : decode b_M_ask 145 = .ok (.iload 4, 2) := by decide +kernel
theorem d_M_ask_147 : decode b_M_ask 147 = .ok (.istore 4, 2) := by decide +kernel
theorem d_M_ask_149 : decode b_M_ask 149 = .ok (.iinc 5 1, 3) := by decide +kernel
theorem d_M_ask_152 : decode b_M_ask 152 = .ok (.goto (-106), 3) := by decide +kernel
theorem d_M_ask_155 : decode b_M_ask 155 = .ok (.iload_n 3, 1) := by decide +kernel
theorem d_M_ask_156 : decode b_M_ask 156 = .ok (.bipush (-9), 2) := by decide +kernel
theorem d_M_ask_158 : decode b_M_ask 158 = .ok (.if_icmp .ne 8, 3) := by decide +kernel
theorem d_M_ask_161 : decode b_M_ask 161 = .ok (.bipush (-9), 2) := by decide +kernel
theorem d_M_ask_163 : decode b_M_ask 163 = .ok (.goto 10, 3) := by decide +kernel
theorem d_M_ask_166 : decode b_M_ask 166 = .ok (.aload_n 0, 1) := by decide +kernel
theorem d_M_ask_167 : decode b_M_ask 167 = .ok (.iload 4, 2) := by decide +kernel
theorem d_M_ask_169 : decode b_M_ask 169 = .ok (.iload_n 3, 1) := by decide +kernel
theorem d_M_ask_170 : decode b_M_ask 170 = .ok (.invokevirtual 111, 3) := by decide +kernel
theorem d_M_ask_173 : decode b_M_ask 173 = .ok (.ireturn, 1) := by decide +kernel
theorem mo_M_ask : mok y_M_ask b_M_ask 9 (some .int) 1 := ⟨List.mem_of_getElem? (i := 1401) (by decide +kernel), ⟨by decide +kernel, by decide +kernel, by decide +kernel⟩, List.mem_of_getElem? (i := 86) (by decide +kernel), by decide⟩
set_option maxHeartbeats 4000000 in
theorem L_M_ask_46 {X : FX} {u : Un} (hA : Ap u) {Q : State → Prop} (F : Fr X u "TakerBookModel" b_M_ask 9) {σ : St} {n : Nat} {kd : Nat → Nat} (hb : mkOk σ n kd) {a : Nat} (ha : a < 64) (h0 : σ.1 76 0 = nI a) {τ : St} (fτ : fr σ τ) {v : Int32} (hl : lfOk (fiB σ kd n a v) a n (2 ^ n) τ) (k : V X u 5 9 Q 155 [(0, .ref (u.2.1 63)), (3, .int (oI (akS σ kd n a v n).1)), (4, .int (nI ((akS σ kd n a v n).2))), (5, .int (nI n))] [] (τ)) : ∀ (nn i : Nat), i ≤ n → n - i < nn → V X u 5 9 Q 46 [(0, .ref (u.2.1 63)), (3, .int (oI (akS σ kd n a v i).1)), (4, .int (nI ((akS σ kd n a v i).2))), (5, .int (nI i))] [] (τ) := by
  intro nn
  induction nn with
  | zero =>
    intro i h1 h2
    exact absurd h2 (Nat.not_lt_zero _)
  | succ nn ih =>
    intro i hii hnn
    obtain ⟨hn, hn6, hkd, hk6⟩ := id hb
    have h64 := p2_64 hn6
    have hlb := lf_b (P := (fiB σ kd n a v)) ha (2 ^ n) h64
    have hlr : (lfR σ kd n a v).1 = (lfS (fiB σ kd n a v) a (2 ^ n)).1 := rfl
    have hcw : (lfC (fiB σ kd n a v) (2 ^ n) i) ≤ (lfR σ kd n a v).1 := lfC_le (2 ^ n)
    have hak : (akS σ kd n a v i).2 ≤ 1000000 := akF_b (by omega) (fun j => lfC_le (2 ^ n)) i
    refine v_iload F d_M_ask_46 3 rfl ?_
    refine v_aload_n F d_M_ask_48 rfl 0 rfl ?_
    refine v_geti F fk_M_146 G63 rfl d_M_ask_49 ?_
    refine v_te (y := nI n) (fτ.v rfl hn) ?_
    refine v_icmp_ge F 155 d_M_ask_52 rfl (fun h52 => ?_) (fun h52 => ?_)
    · skip
      have h52 : n ≤ i := (nI_leI (a := n) (b := i) (by omega) (by omega)).mp h52
      have he : i = n := by omega
      subst he
      exact k
    · skip
      have h52 : ¬ n ≤ i := fun q => h52 ((nI_leI (a := n) (b := i) (by omega) (by omega)).mpr q)
      refine v_aload_n F d_M_ask_55 rfl 0 rfl ?_
      refine v_geti F fk_M_255 G63 rfl d_M_ask_56 ?_
      refine v_te (y := nI (lfR σ kd n a v).1) hl.1 ?_
      refine v_aload_n F d_M_ask_59 rfl 0 rfl ?_
      refine v_getr (r := 84) F fk_M_76 G63 rfl d_M_ask_60 ?_
      refine v_iload F d_M_ask_63 3 rfl ?_
      refine v_ial F i G84 rfl (by omega) d_M_ask_65 ?_
      refine v_te (y := nI (lfC (fiB σ kd n a v) (2 ^ n) i)) (hl.2.2.2.2 _ (by omega)) ?_
      refine v_isub F d_M_ask_66 ?_
      refine v_te (y := nI ((lfR σ kd n a v).1 - (lfC (fiB σ kd n a v) (2 ^ n) i))) (pk_sub (by omega)) ?_
      refine v_istore (ls' := [(6, .int (nI ((lfR σ kd n a v).1 - (lfC (fiB σ kd n a v) (2 ^ n) i)))), (0, .ref (u.2.1 63)), (3, .int (oI (akS σ kd n a v i).1)), (4, .int (nI ((akS σ kd n a v i).2))), (5, .int (nI i))]) F d_M_ask_67 (by decide) rfl ?_
      refine v_aload_n F d_M_ask_69 rfl 1 rfl ?_
      refine v_getr (r := 84) F fk_M_76 G63 rfl d_M_ask_70 ?_
      refine v_iload F d_M_ask_73 4 rfl ?_
      refine v_ial F i G84 rfl (by omega) d_M_ask_75 ?_
      refine v_te (y := nI (lfC (fiB σ kd n a v) (2 ^ n) i)) (hl.2.2.2.2 _ (by omega)) ?_
      refine v_iload F d_M_ask_76 0 rfl ?_
      refine v_icmp_le F 91 d_M_ask_78 rfl (fun h78 => ?_) (fun h78 => ?_)
      · skip
        have h78 : (lfC (fiB σ kd n a v) (2 ^ n) i) ≤ (lfR σ kd n a v).1 - (lfC (fiB σ kd n a v) (2 ^ n) i) := (nI_leI (a := (lfC (fiB σ kd n a v) (2 ^ n) i)) (b := (lfR σ kd n a v).1 - (lfC (fiB σ kd n a v) (2 ^ n) i)) (by omega) (by omega)).mp h78
        have hp : ptM (lfR σ kd n a v).1 (lfC (fiB σ kd n a v) (2 ^ n) i) = (lfR σ kd n a v).1 - (lfC (fiB σ kd n a v) (2 ^ n) i) := if_neg (by omega)
        refine v_iload F d_M_ask_91 0 rfl ?_
        refine v_istore (ls' := [(7, .int (nI ((lfR σ kd n a v).1 - (lfC (fiB σ kd n a v) (2 ^ n) i)))), (6, .int (nI ((lfR σ kd n a v).1 - (lfC (fiB σ kd n a v) (2 ^ n) i)))), (0, .ref (u.2.1 63)), (3, .int (oI (akS σ kd n a v i).1)), (4, .int (nI ((akS σ kd n a v i).2))), (5, .int (nI i))]) F d_M_ask_93 (by decide) rfl ?_
        refine v_aload_n F d_M_ask_95 rfl 2 rfl ?_
        refine v_getr (r := 76) F fk_M_51 G63 rfl d_M_ask_96 ?_
        refine v_iconst (v := 0) F d_M_ask_99 ki_0 ?_
        refine v_ial F 0 G76 rfl (by omega) d_M_ask_100 ?_
        refine v_te (y := nI a) (fτ.v rfl h0) ?_
        refine v_iload F d_M_ask_101 5 rfl ?_
        refine v_runi (r_S F (c_M_has2 X.2.1 u hA τ i a (by omega) (by omega)) mo_M_has st_M_155 (by decide) rfl (Nat.le_of_ble_eq_true rfl) d_M_ask_103) (fun r1 σ2 q3 => ?_)
        obtain ⟨rfl, rfl⟩ := q3
        refine v_bt F 120 d_M_ask_106 rfl (fun h106 => ?_) (fun h106 => ?_)
        · skip
          refine v_iconst (v := 0) F d_M_ask_120 ki_0 ?_
          refine v_istore (ls' := [(8, .int 0), (7, .int (nI ((lfR σ kd n a v).1 - (lfC (fiB σ kd n a v) (2 ^ n) i)))), (6, .int (nI ((lfR σ kd n a v).1 - (lfC (fiB σ kd n a v) (2 ^ n) i)))), (0, .ref (u.2.1 63)), (3, .int (oI (akS σ kd n a v i).1)), (4, .int (nI ((akS σ kd n a v i).2))), (5, .int (nI i))]) F d_M_ask_121 (by decide) rfl ?_
          refine v_iload F d_M_ask_123 0 rfl ?_
          refine v_if_eq F 133 d_M_ask_125 rfl (fun _ => ?_) (fun h => absurd (by decide) h)
          refine v_iload_n F d_M_ask_133 rfl 4 rfl ?_
          refine v_ni (fun x4 ex4 => ?_)
          refine v_istore_n (ls' := [(3, .int x4), (8, .int 0), (7, .int (nI ((lfR σ kd n a v).1 - (lfC (fiB σ kd n a v) (2 ^ n) i)))), (6, .int (nI ((lfR σ kd n a v).1 - (lfC (fiB σ kd n a v) (2 ^ n) i)))), (0, .ref (u.2.1 63)), (4, .int (nI ((akS σ kd n a v i).2))), (5, .int (nI i))]) F d_M_ask_134 rfl (by decide) rfl ?_
          refine v_iload F d_M_ask_135 1 rfl ?_
          refine v_if_eq F 145 d_M_ask_137 rfl (fun _ => ?_) (fun h => absurd (by decide) h)
          refine v_iload F d_M_ask_145 5 rfl ?_
          refine v_istore (ls' := [(4, .int (nI ((akS σ kd n a v i).2))), (3, .int x4), (8, .int 0), (7, .int (nI ((lfR σ kd n a v).1 - (lfC (fiB σ kd n a v) (2 ^ n) i)))), (6, .int (nI ((lfR σ kd n a v).1 - (lfC (fiB σ kd n a v) (2 ^ n) i)))), (0, .ref (u.2.1 63)), (5, .int (nI i))]) F d_M_ask_147 (by decide) rfl ?_
          refine v_iinc (v := nI (i + 1)) (ls' := [(5, .int (nI (i + 1))), (4, .int (nI ((akS σ kd n a v i).2))), (3, .int x4), (8, .int 0), (7, .int (nI ((lfR σ kd n a v).1 - (lfC (fiB σ kd n a v) (2 ^ n) i)))), (6, .int (nI ((lfR σ kd n a v).1 - (lfC (fiB σ kd n a v) (2 ^ n) i)))), (0, .ref (u.2.1 63))]) F d_M_ask_149 (j := 6) rfl (nI_inc _) (by decide) rfl ?_
          refine v_goto F 46 d_M_ask_152 rfl ?_
          refine v_sub [6, 2, 1, 0] (ls' := [(0, .ref (u.2.1 63)), (3, .int x4), (4, .int (nI ((akS σ kd n a v i).2))), (5, .int (nI (i + 1)))]) rfl ?_
          have g5 : x4 = (oI (akS σ kd n a v (i + 1)).1) := (by first | rfl | (rw [akS_t ⟨by assumption, by rw [hp]; first | assumption | omega⟩]; first | done | rfl | (rw [hp]; done) | (simp only [hp]; done)) | (rw [akS_f (by rintro ⟨q1, q2⟩; rw [hp] at q2; first | exact absurd q1 (by assumption) | exact absurd q2 (by first | assumption | omega))]; first | done | assumption))
          have g6 : (nI ((akS σ kd n a v i).2)) = (nI ((akS σ kd n a v (i + 1)).2)) := (by first | rfl | (rw [akS_t ⟨by assumption, by rw [hp]; first | assumption | omega⟩]; first | done | rfl | (rw [hp]; done) | (simp only [hp]; done)) | (rw [akS_f (by rintro ⟨q1, q2⟩; rw [hp] at q2; first | exact absurd q1 (by assumption) | exact absurd q2 (by first | assumption | omega))]; first | done | assumption))
          refine v_to (ls' := [(0, .ref (u.2.1 63)), (3, .int (oI (akS σ kd n a v (i + 1)).1)), (4, .int (nI ((akS σ kd n a v (i + 1)).2))), (5, .int (nI (i + 1)))]) (by first | rfl | rw [g5, g6] | simp_all) ?_
          exact ih (i + 1) (by omega) (by omega)
        · skip
          refine v_iload F d_M_ask_109 0 rfl ?_
          refine v_iload F d_M_ask_111 4 rfl ?_
          refine v_icmp_ge F 120 d_M_ask_113 rfl (fun h113 => ?_) (fun h113 => ?_)
          · skip
            have h113 : (akS σ kd n a v i).2 ≤ (lfR σ kd n a v).1 - (lfC (fiB σ kd n a v) (2 ^ n) i) := (nI_leI (a := (akS σ kd n a v i).2) (b := (lfR σ kd n a v).1 - (lfC (fiB σ kd n a v) (2 ^ n) i)) (by omega) (by omega)).mp h113
            refine v_iconst (v := 0) F d_M_ask_120 ki_0 ?_
            refine v_istore (ls' := [(8, .int 0), (7, .int (nI ((lfR σ kd n a v).1 - (lfC (fiB σ kd n a v) (2 ^ n) i)))), (6, .int (nI ((lfR σ kd n a v).1 - (lfC (fiB σ kd n a v) (2 ^ n) i)))), (0, .ref (u.2.1 63)), (3, .int (oI (akS σ kd n a v i).1)), (4, .int (nI ((akS σ kd n a v i).2))), (5, .int (nI i))]) F d_M_ask_121 (by decide) rfl ?_
            refine v_iload F d_M_ask_123 0 rfl ?_
            refine v_if_eq F 133 d_M_ask_125 rfl (fun _ => ?_) (fun h => absurd (by decide) h)
            refine v_iload_n F d_M_ask_133 rfl 4 rfl ?_
            refine v_ni (fun x7 ex7 => ?_)
            refine v_istore_n (ls' := [(3, .int x7), (8, .int 0), (7, .int (nI ((lfR σ kd n a v).1 - (lfC (fiB σ kd n a v) (2 ^ n) i)))), (6, .int (nI ((lfR σ kd n a v).1 - (lfC (fiB σ kd n a v) (2 ^ n) i)))), (0, .ref (u.2.1 63)), (4, .int (nI ((akS σ kd n a v i).2))), (5, .int (nI i))]) F d_M_ask_134 rfl (by decide) rfl ?_
            refine v_iload F d_M_ask_135 1 rfl ?_
            refine v_if_eq F 145 d_M_ask_137 rfl (fun _ => ?_) (fun h => absurd (by decide) h)
            refine v_iload F d_M_ask_145 5 rfl ?_
            refine v_istore (ls' := [(4, .int (nI ((akS σ kd n a v i).2))), (3, .int x7), (8, .int 0), (7, .int (nI ((lfR σ kd n a v).1 - (lfC (fiB σ kd n a v) (2 ^ n) i)))), (6, .int (nI ((lfR σ kd n a v).1 - (lfC (fiB σ kd n a v) (2 ^ n) i)))), (0, .ref (u.2.1 63)), (5, .int (nI i))]) F d_M_ask_147 (by decide) rfl ?_
            refine v_iinc (v := nI (i + 1)) (ls' := [(5, .int (nI (i + 1))), (4, .int (nI ((akS σ kd n a v i).2))), (3, .int x7), (8, .int 0), (7, .int (nI ((lfR σ kd n a v).1 - (lfC (fiB σ kd n a v) (2 ^ n) i)))), (6, .int (nI ((lfR σ kd n a v).1 - (lfC (fiB σ kd n a v) (2 ^ n) i)))), (0, .ref (u.2.1 63))]) F d_M_ask_149 (j := 6) rfl (nI_inc _) (by decide) rfl ?_
            refine v_goto F 46 d_M_ask_152 rfl ?_
            refine v_sub [6, 2, 1, 0] (ls' := [(0, .ref (u.2.1 63)), (3, .int x7), (4, .int (nI ((akS σ kd n a v i).2))), (5, .int (nI (i + 1)))]) rfl ?_
            have g8 : x7 = (oI (akS σ kd n a v (i + 1)).1) := (by first | rfl | (rw [akS_t ⟨by assumption, by rw [hp]; first | assumption | omega⟩]; first | done | rfl | (rw [hp]; done) | (simp only [hp]; done)) | (rw [akS_f (by rintro ⟨q1, q2⟩; rw [hp] at q2; first | exact absurd q1 (by assumption) | exact absurd q2 (by first | assumption | omega))]; first | done | assumption))
            have g9 : (nI ((akS σ kd n a v i).2)) = (nI ((akS σ kd n a v (i + 1)).2)) := (by first | rfl | (rw [akS_t ⟨by assumption, by rw [hp]; first | assumption | omega⟩]; first | done | rfl | (rw [hp]; done) | (simp only [hp]; done)) | (rw [akS_f (by rintro ⟨q1, q2⟩; rw [hp] at q2; first | exact absurd q1 (by assumption) | exact absurd q2 (by first | assumption | omega))]; first | done | assumption))
            refine v_to (ls' := [(0, .ref (u.2.1 63)), (3, .int (oI (akS σ kd n a v (i + 1)).1)), (4, .int (nI ((akS σ kd n a v (i + 1)).2))), (5, .int (nI (i + 1)))]) (by first | rfl | rw [g8, g9] | simp_all) ?_
            exact ih (i + 1) (by omega) (by omega)
          · skip
            have h113 : ¬ (akS σ kd n a v i).2 ≤ (lfR σ kd n a v).1 - (lfC (fiB σ kd n a v) (2 ^ n) i) := fun q => h113 ((nI_leI (a := (akS σ kd n a v i).2) (b := (lfR σ kd n a v).1 - (lfC (fiB σ kd n a v) (2 ^ n) i)) (by omega) (by omega)).mpr q)
            refine v_iconst (v := 1) F d_M_ask_116 ki_1 ?_
            refine v_goto F 121 d_M_ask_117 rfl ?_
            refine v_istore (ls' := [(8, .int 1), (7, .int (nI ((lfR σ kd n a v).1 - (lfC (fiB σ kd n a v) (2 ^ n) i)))), (6, .int (nI ((lfR σ kd n a v).1 - (lfC (fiB σ kd n a v) (2 ^ n) i)))), (0, .ref (u.2.1 63)), (3, .int (oI (akS σ kd n a v i).1)), (4, .int (nI ((akS σ kd n a v i).2))), (5, .int (nI i))]) F d_M_ask_121 (by decide) rfl ?_
            refine v_iload F d_M_ask_123 0 rfl ?_
            refine v_if_eq F 133 d_M_ask_125 rfl (fun h => absurd h (by decide)) (fun _ => ?_)
            refine v_iload F d_M_ask_128 6 rfl ?_
            refine v_goto F 134 d_M_ask_130 rfl ?_
            refine v_istore_n (ls' := [(3, .int (nI i)), (8, .int 1), (7, .int (nI ((lfR σ kd n a v).1 - (lfC (fiB σ kd n a v) (2 ^ n) i)))), (6, .int (nI ((lfR σ kd n a v).1 - (lfC (fiB σ kd n a v) (2 ^ n) i)))), (0, .ref (u.2.1 63)), (4, .int (nI ((akS σ kd n a v i).2))), (5, .int (nI i))]) F d_M_ask_134 rfl (by decide) rfl ?_
            refine v_iload F d_M_ask_135 1 rfl ?_
            refine v_if_eq F 145 d_M_ask_137 rfl (fun h => absurd h (by decide)) (fun _ => ?_)
            refine v_iload F d_M_ask_140 2 rfl ?_
            refine v_goto F 147 d_M_ask_142 rfl ?_
            refine v_istore (ls' := [(4, .int (nI ((lfR σ kd n a v).1 - (lfC (fiB σ kd n a v) (2 ^ n) i)))), (3, .int (nI i)), (8, .int 1), (7, .int (nI ((lfR σ kd n a v).1 - (lfC (fiB σ kd n a v) (2 ^ n) i)))), (6, .int (nI ((lfR σ kd n a v).1 - (lfC (fiB σ kd n a v) (2 ^ n) i)))), (0, .ref (u.2.1 63)), (5, .int (nI i))]) F d_M_ask_147 (by decide) rfl ?_
            refine v_iinc (v := nI (i + 1)) (ls' := [(5, .int (nI (i + 1))), (4, .int (nI ((lfR σ kd n a v).1 - (lfC (fiB σ kd n a v) (2 ^ n) i)))), (3, .int (nI i)), (8, .int 1), (7, .int (nI ((lfR σ kd n a v).1 - (lfC (fiB σ kd n a v) (2 ^ n) i)))), (6, .int (nI ((lfR σ kd n a v).1 - (lfC (fiB σ kd n a v) (2 ^ n) i)))), (0, .ref (u.2.1 63))]) F d_M_ask_149 (j := 6) rfl (nI_inc _) (by decide) rfl ?_
            refine v_goto F 46 d_M_ask_152 rfl ?_
            refine v_sub [6, 2, 1, 0] (ls' := [(0, .ref (u.2.1 63)), (3, .int (nI i)), (4, .int (nI ((lfR σ kd n a v).1 - (lfC (fiB σ kd n a v) (2 ^ n) i)))), (5, .int (nI (i + 1)))]) rfl ?_
            have g10 : (nI i) = (oI (akS σ kd n a v (i + 1)).1) := (by first | rfl | (rw [akS_t ⟨by assumption, by rw [hp]; first | assumption | omega⟩]; first | done | rfl | (rw [hp]; done) | (simp only [hp]; done)) | (rw [akS_f (by rintro ⟨q1, q2⟩; rw [hp] at q2; first | exact absurd q1 (by assumption) | exact absurd q2 (by first | assumption | omega))]; first | done | assumption))
            have g11 : (nI ((lfR σ kd n a v).1 - (lfC (fiB σ kd n a v) (2 ^ n) i))) = (nI ((akS σ kd n a v (i + 1)).2)) := (by first | rfl | (rw [akS_t ⟨by assumption, by rw [hp]; first | assumption | omega⟩]; first | done | rfl | (rw [hp]; done) | (simp only [hp]; done)) | (rw [akS_f (by rintro ⟨q1, q2⟩; rw [hp] at q2; first | exact absurd q1 (by assumption) | exact absurd q2 (by first | assumption | omega))]; first | done | assumption))
            refine v_to (ls' := [(0, .ref (u.2.1 63)), (3, .int (oI (akS σ kd n a v (i + 1)).1)), (4, .int (nI ((akS σ kd n a v (i + 1)).2))), (5, .int (nI (i + 1)))]) (by first | rfl | rw [g10, g11] | simp_all) ?_
            exact ih (i + 1) (by omega) (by omega)
      · skip
        have h78 : ¬ (lfC (fiB σ kd n a v) (2 ^ n) i) ≤ (lfR σ kd n a v).1 - (lfC (fiB σ kd n a v) (2 ^ n) i) := fun q => h78 ((nI_leI (a := (lfC (fiB σ kd n a v) (2 ^ n) i)) (b := (lfR σ kd n a v).1 - (lfC (fiB σ kd n a v) (2 ^ n) i)) (by omega) (by omega)).mpr q)
        have hp : ptM (lfR σ kd n a v).1 (lfC (fiB σ kd n a v) (2 ^ n) i) = (lfC (fiB σ kd n a v) (2 ^ n) i) := if_pos (by omega)
        refine v_aload_n F d_M_ask_81 rfl 1 rfl ?_
        refine v_getr (r := 84) F fk_M_76 G63 rfl d_M_ask_82 ?_
        refine v_iload F d_M_ask_85 4 rfl ?_
        refine v_ial F i G84 rfl (by omega) d_M_ask_87 ?_
        refine v_te (y := nI (lfC (fiB σ kd n a v) (2 ^ n) i)) (hl.2.2.2.2 _ (by omega)) ?_
        refine v_goto F 93 d_M_ask_88 rfl ?_
        refine v_istore (ls' := [(7, .int (nI (lfC (fiB σ kd n a v) (2 ^ n) i))), (6, .int (nI ((lfR σ kd n a v).1 - (lfC (fiB σ kd n a v) (2 ^ n) i)))), (0, .ref (u.2.1 63)), (3, .int (oI (akS σ kd n a v i).1)), (4, .int (nI ((akS σ kd n a v i).2))), (5, .int (nI i))]) F d_M_ask_93 (by decide) rfl ?_
        refine v_aload_n F d_M_ask_95 rfl 2 rfl ?_
        refine v_getr (r := 76) F fk_M_51 G63 rfl d_M_ask_96 ?_
        refine v_iconst (v := 0) F d_M_ask_99 ki_0 ?_
        refine v_ial F 0 G76 rfl (by omega) d_M_ask_100 ?_
        refine v_te (y := nI a) (fτ.v rfl h0) ?_
        refine v_iload F d_M_ask_101 5 rfl ?_
        refine v_runi (r_S F (c_M_has2 X.2.1 u hA τ i a (by omega) (by omega)) mo_M_has st_M_155 (by decide) rfl (Nat.le_of_ble_eq_true rfl) d_M_ask_103) (fun r12 σ13 q14 => ?_)
        obtain ⟨rfl, rfl⟩ := q14
        refine v_bt F 120 d_M_ask_106 rfl (fun h106 => ?_) (fun h106 => ?_)
        · skip
          refine v_iconst (v := 0) F d_M_ask_120 ki_0 ?_
          refine v_istore (ls' := [(8, .int 0), (7, .int (nI (lfC (fiB σ kd n a v) (2 ^ n) i))), (6, .int (nI ((lfR σ kd n a v).1 - (lfC (fiB σ kd n a v) (2 ^ n) i)))), (0, .ref (u.2.1 63)), (3, .int (oI (akS σ kd n a v i).1)), (4, .int (nI ((akS σ kd n a v i).2))), (5, .int (nI i))]) F d_M_ask_121 (by decide) rfl ?_
          refine v_iload F d_M_ask_123 0 rfl ?_
          refine v_if_eq F 133 d_M_ask_125 rfl (fun _ => ?_) (fun h => absurd (by decide) h)
          refine v_iload_n F d_M_ask_133 rfl 4 rfl ?_
          refine v_ni (fun x15 ex15 => ?_)
          refine v_istore_n (ls' := [(3, .int x15), (8, .int 0), (7, .int (nI (lfC (fiB σ kd n a v) (2 ^ n) i))), (6, .int (nI ((lfR σ kd n a v).1 - (lfC (fiB σ kd n a v) (2 ^ n) i)))), (0, .ref (u.2.1 63)), (4, .int (nI ((akS σ kd n a v i).2))), (5, .int (nI i))]) F d_M_ask_134 rfl (by decide) rfl ?_
          refine v_iload F d_M_ask_135 1 rfl ?_
          refine v_if_eq F 145 d_M_ask_137 rfl (fun _ => ?_) (fun h => absurd (by decide) h)
          refine v_iload F d_M_ask_145 5 rfl ?_
          refine v_istore (ls' := [(4, .int (nI ((akS σ kd n a v i).2))), (3, .int x15), (8, .int 0), (7, .int (nI (lfC (fiB σ kd n a v) (2 ^ n) i))), (6, .int (nI ((lfR σ kd n a v).1 - (lfC (fiB σ kd n a v) (2 ^ n) i)))), (0, .ref (u.2.1 63)), (5, .int (nI i))]) F d_M_ask_147 (by decide) rfl ?_
          refine v_iinc (v := nI (i + 1)) (ls' := [(5, .int (nI (i + 1))), (4, .int (nI ((akS σ kd n a v i).2))), (3, .int x15), (8, .int 0), (7, .int (nI (lfC (fiB σ kd n a v) (2 ^ n) i))), (6, .int (nI ((lfR σ kd n a v).1 - (lfC (fiB σ kd n a v) (2 ^ n) i)))), (0, .ref (u.2.1 63))]) F d_M_ask_149 (j := 6) rfl (nI_inc _) (by decide) rfl ?_
          refine v_goto F 46 d_M_ask_152 rfl ?_
          refine v_sub [6, 2, 1, 0] (ls' := [(0, .ref (u.2.1 63)), (3, .int x15), (4, .int (nI ((akS σ kd n a v i).2))), (5, .int (nI (i + 1)))]) rfl ?_
          have g16 : x15 = (oI (akS σ kd n a v (i + 1)).1) := (by first | rfl | (rw [akS_t ⟨by assumption, by rw [hp]; first | assumption | omega⟩]; first | done | rfl | (rw [hp]; done) | (simp only [hp]; done)) | (rw [akS_f (by rintro ⟨q1, q2⟩; rw [hp] at q2; first | exact absurd q1 (by assumption) | exact absurd q2 (by first | assumption | omega))]; first | done | assumption))
          have g17 : (nI ((akS σ kd n a v i).2)) = (nI ((akS σ kd n a v (i + 1)).2)) := (by first | rfl | (rw [akS_t ⟨by assumption, by rw [hp]; first | assumption | omega⟩]; first | done | rfl | (rw [hp]; done) | (simp only [hp]; done)) | (rw [akS_f (by rintro ⟨q1, q2⟩; rw [hp] at q2; first | exact absurd q1 (by assumption) | exact absurd q2 (by first | assumption | omega))]; first | done | assumption))
          refine v_to (ls' := [(0, .ref (u.2.1 63)), (3, .int (oI (akS σ kd n a v (i + 1)).1)), (4, .int (nI ((akS σ kd n a v (i + 1)).2))), (5, .int (nI (i + 1)))]) (by first | rfl | rw [g16, g17] | simp_all) ?_
          exact ih (i + 1) (by omega) (by omega)
        · skip
          refine v_iload F d_M_ask_109 0 rfl ?_
          refine v_iload F d_M_ask_111 4 rfl ?_
          refine v_icmp_ge F 120 d_M_ask_113 rfl (fun h113 => ?_) (fun h113 => ?_)
          · skip
            have h113 : (akS σ kd n a v i).2 ≤ (lfC (fiB σ kd n a v) (2 ^ n) i) := (nI_leI (a := (akS σ kd n a v i).2) (b := (lfC (fiB σ kd n a v) (2 ^ n) i)) (by omega) (by omega)).mp h113
            refine v_iconst (v := 0) F d_M_ask_120 ki_0 ?_
            refine v_istore (ls' := [(8, .int 0), (7, .int (nI (lfC (fiB σ kd n a v) (2 ^ n) i))), (6, .int (nI ((lfR σ kd n a v).1 - (lfC (fiB σ kd n a v) (2 ^ n) i)))), (0, .ref (u.2.1 63)), (3, .int (oI (akS σ kd n a v i).1)), (4, .int (nI ((akS σ kd n a v i).2))), (5, .int (nI i))]) F d_M_ask_121 (by decide) rfl ?_
            refine v_iload F d_M_ask_123 0 rfl ?_
            refine v_if_eq F 133 d_M_ask_125 rfl (fun _ => ?_) (fun h => absurd (by decide) h)
            refine v_iload_n F d_M_ask_133 rfl 4 rfl ?_
            refine v_ni (fun x18 ex18 => ?_)
            refine v_istore_n (ls' := [(3, .int x18), (8, .int 0), (7, .int (nI (lfC (fiB σ kd n a v) (2 ^ n) i))), (6, .int (nI ((lfR σ kd n a v).1 - (lfC (fiB σ kd n a v) (2 ^ n) i)))), (0, .ref (u.2.1 63)), (4, .int (nI ((akS σ kd n a v i).2))), (5, .int (nI i))]) F d_M_ask_134 rfl (by decide) rfl ?_
            refine v_iload F d_M_ask_135 1 rfl ?_
            refine v_if_eq F 145 d_M_ask_137 rfl (fun _ => ?_) (fun h => absurd (by decide) h)
            refine v_iload F d_M_ask_145 5 rfl ?_
            refine v_istore (ls' := [(4, .int (nI ((akS σ kd n a v i).2))), (3, .int x18), (8, .int 0), (7, .int (nI (lfC (fiB σ kd n a v) (2 ^ n) i))), (6, .int (nI ((lfR σ kd n a v).1 - (lfC (fiB σ kd n a v) (2 ^ n) i)))), (0, .ref (u.2.1 63)), (5, .int (nI i))]) F d_M_ask_147 (by decide) rfl ?_
            refine v_iinc (v := nI (i + 1)) (ls' := [(5, .int (nI (i + 1))), (4, .int (nI ((akS σ kd n a v i).2))), (3, .int x18), (8, .int 0), (7, .int (nI (lfC (fiB σ kd n a v) (2 ^ n) i))), (6, .int (nI ((lfR σ kd n a v).1 - (lfC (fiB σ kd n a v) (2 ^ n) i)))), (0, .ref (u.2.1 63))]) F d_M_ask_149 (j := 6) rfl (nI_inc _) (by decide) rfl ?_
            refine v_goto F 46 d_M_ask_152 rfl ?_
            refine v_sub [6, 2, 1, 0] (ls' := [(0, .ref (u.2.1 63)), (3, .int x18), (4, .int (nI ((akS σ kd n a v i).2))), (5, .int (nI (i + 1)))]) rfl ?_
            have g19 : x18 = (oI (akS σ kd n a v (i + 1)).1) := (by first | rfl | (rw [akS_t ⟨by assumption, by rw [hp]; first | assumption | omega⟩]; first | done | rfl | (rw [hp]; done) | (simp only [hp]; done)) | (rw [akS_f (by rintro ⟨q1, q2⟩; rw [hp] at q2; first | exact absurd q1 (by assumption) | exact absurd q2 (by first | assumption | omega))]; first | done | assumption))
            have g20 : (nI ((akS σ kd n a v i).2)) = (nI ((akS σ kd n a v (i + 1)).2)) := (by first | rfl | (rw [akS_t ⟨by assumption, by rw [hp]; first | assumption | omega⟩]; first | done | rfl | (rw [hp]; done) | (simp only [hp]; done)) | (rw [akS_f (by rintro ⟨q1, q2⟩; rw [hp] at q2; first | exact absurd q1 (by assumption) | exact absurd q2 (by first | assumption | omega))]; first | done | assumption))
            refine v_to (ls' := [(0, .ref (u.2.1 63)), (3, .int (oI (akS σ kd n a v (i + 1)).1)), (4, .int (nI ((akS σ kd n a v (i + 1)).2))), (5, .int (nI (i + 1)))]) (by first | rfl | rw [g19, g20] | simp_all) ?_
            exact ih (i + 1) (by omega) (by omega)
          · skip
            have h113 : ¬ (akS σ kd n a v i).2 ≤ (lfC (fiB σ kd n a v) (2 ^ n) i) := fun q => h113 ((nI_leI (a := (akS σ kd n a v i).2) (b := (lfC (fiB σ kd n a v) (2 ^ n) i)) (by omega) (by omega)).mpr q)
            refine v_iconst (v := 1) F d_M_ask_116 ki_1 ?_
            refine v_goto F 121 d_M_ask_117 rfl ?_
            refine v_istore (ls' := [(8, .int 1), (7, .int (nI (lfC (fiB σ kd n a v) (2 ^ n) i))), (6, .int (nI ((lfR σ kd n a v).1 - (lfC (fiB σ kd n a v) (2 ^ n) i)))), (0, .ref (u.2.1 63)), (3, .int (oI (akS σ kd n a v i).1)), (4, .int (nI ((akS σ kd n a v i).2))), (5, .int (nI i))]) F d_M_ask_121 (by decide) rfl ?_
            refine v_iload F d_M_ask_123 0 rfl ?_
            refine v_if_eq F 133 d_M_ask_125 rfl (fun h => absurd h (by decide)) (fun _ => ?_)
            refine v_iload F d_M_ask_128 6 rfl ?_
            refine v_goto F 134 d_M_ask_130 rfl ?_
            refine v_istore_n (ls' := [(3, .int (nI i)), (8, .int 1), (7, .int (nI (lfC (fiB σ kd n a v) (2 ^ n) i))), (6, .int (nI ((lfR σ kd n a v).1 - (lfC (fiB σ kd n a v) (2 ^ n) i)))), (0, .ref (u.2.1 63)), (4, .int (nI ((akS σ kd n a v i).2))), (5, .int (nI i))]) F d_M_ask_134 rfl (by decide) rfl ?_
            refine v_iload F d_M_ask_135 1 rfl ?_
            refine v_if_eq F 145 d_M_ask_137 rfl (fun h => absurd h (by decide)) (fun _ => ?_)
            refine v_iload F d_M_ask_140 2 rfl ?_
            refine v_goto F 147 d_M_ask_142 rfl ?_
            refine v_istore (ls' := [(4, .int (nI (lfC (fiB σ kd n a v) (2 ^ n) i))), (3, .int (nI i)), (8, .int 1), (7, .int (nI (lfC (fiB σ kd n a v) (2 ^ n) i))), (6, .int (nI ((lfR σ kd n a v).1 - (lfC (fiB σ kd n a v) (2 ^ n) i)))), (0, .ref (u.2.1 63)), (5, .int (nI i))]) F d_M_ask_147 (by decide) rfl ?_
            refine v_iinc (v := nI (i + 1)) (ls' := [(5, .int (nI (i + 1))), (4, .int (nI (lfC (fiB σ kd n a v) (2 ^ n) i))), (3, .int (nI i)), (8, .int 1), (7, .int (nI (lfC (fiB σ kd n a v) (2 ^ n) i))), (6, .int (nI ((lfR σ kd n a v).1 - (lfC (fiB σ kd n a v) (2 ^ n) i)))), (0, .ref (u.2.1 63))]) F d_M_ask_149 (j := 6) rfl (nI_inc _) (by decide) rfl ?_
            refine v_goto F 46 d_M_ask_152 rfl ?_
            refine v_sub [6, 2, 1, 0] (ls' := [(0, .ref (u.2.1 63)), (3, .int (nI i)), (4, .int (nI (lfC (fiB σ kd n a v) (2 ^ n) i))), (5, .int (nI (i + 1)))]) rfl ?_
            have g21 : (nI i) = (oI (akS σ kd n a v (i + 1)).1) := (by first | rfl | (rw [akS_t ⟨by assumption, by rw [hp]; first | assumption | omega⟩]; first | done | rfl | (rw [hp]; done) | (simp only [hp]; done)) | (rw [akS_f (by rintro ⟨q1, q2⟩; rw [hp] at q2; first | exact absurd q1 (by assumption) | exact absurd q2 (by first | assumption | omega))]; first | done | assumption))
            have g22 : (nI (lfC (fiB σ kd n a v) (2 ^ n) i)) = (nI ((akS σ kd n a v (i + 1)).2)) := (by first | rfl | (rw [akS_t ⟨by assumption, by rw [hp]; first | assumption | omega⟩]; first | done | rfl | (rw [hp]; done) | (simp only [hp]; done)) | (rw [akS_f (by rintro ⟨q1, q2⟩; rw [hp] at q2; first | exact absurd q1 (by assumption) | exact absurd q2 (by first | assumption | omega))]; first | done | assumption))
            refine v_to (ls' := [(0, .ref (u.2.1 63)), (3, .int (oI (akS σ kd n a v (i + 1)).1)), (4, .int (nI ((akS σ kd n a v (i + 1)).2))), (5, .int (nI (i + 1)))]) (by first | rfl | rw [g21, g22] | simp_all) ?_
            exact ih (i + 1) (by omega) (by omega)
set_option maxHeartbeats 4000000 in
theorem c_M_ask (l : Launch) (u : Un) (hA : Ap u) (σ : St) {n : Nat} {kd : Nat → Nat} (hb : mkOk σ n kd) {a : Nat} (ha : a < 64) (h0 : σ.1 76 0 = nI a) (v : Int32) : MTi l u y_M_ask b_M_ask 9 .int 5 [.ref (u.2.1 63), .int v] σ (fun ans σ' => ∃ τ, fr σ τ ∧ (ans, σ') = mAsk σ τ kd n a v) := by
  refine MT_of hA rfl (by decide) (Nat.le_of_ble_eq_true rfl) (fun X hl F hr => ?_)
  subst hl
  refine v_to (ls' := [(0, .ref (u.2.1 63)), (1, .int v)]) rfl ?_
  obtain ⟨hn, hn6, hkd, hk6⟩ := id hb
  have hlr : (lfR σ kd n a v).1 = (lfS (fiB σ kd n a v) a (2 ^ n)).1 := rfl
  refine v_aload_n F d_M_ask_0 rfl 0 rfl ?_
  refine v_iload_n F d_M_ask_1 rfl 1 rfl ?_
  refine v_iconst (v := 0) F d_M_ask_2 ki_0 ?_
  refine v_bipush (v := 99) F d_M_ask_3 kb_99 ?_
  refine v_runi (r_S F (c_M_in X.2.1 u hA σ v 0 99 ) mo_M_in st_M_89 (by decide) rfl (Nat.le_of_ble_eq_true rfl) d_M_ask_5) (fun r1 σ2 q3 => ?_)
  obtain ⟨rfl, rfl⟩ := q3
  refine v_runi (r_V F (c_M_need X.2.1 u hA σ hb (0 ≤ v ∧ v ≤ 99)) mo_M_need st_M_229 rc_63 (by decide) rfl (Nat.le_of_ble_eq_true rfl) d_M_ask_8) (fun r4 σ5 q6 => ?_)
  rcases q6 with ⟨a1, rfl, rfl⟩ | ⟨a1, a2, rfl, rfl⟩ | ⟨a1, a2, rfl, rfl⟩
  · skip
    refine v_istore_n (ls' := [(2, .int (-1)), (0, .ref (u.2.1 63)), (1, .int v)]) F d_M_ask_11 rfl (by decide) rfl ?_
    refine v_iload_n F d_M_ask_12 rfl 0 rfl ?_
    refine v_if_ge F 18 d_M_ask_13 rfl (fun h => absurd h (by decide)) (fun _ => ?_)
    refine v_iload_n F d_M_ask_16 rfl 0 rfl ?_
    refine v_iret F hr rfl d_M_ask_17 ?_
    exact ⟨σ, fr.rf, by unfold mAsk; first | (rw [if_pos (by assumption)]; done) | (rw [if_neg (fun q => q (by assumption)), if_pos (by assumption)]; done)⟩
  · skip
    refine v_istore_n (ls' := [(2, .int (-4)), (0, .ref (u.2.1 63)), (1, .int v)]) F d_M_ask_11 rfl (by decide) rfl ?_
    refine v_iload_n F d_M_ask_12 rfl 0 rfl ?_
    refine v_if_ge F 18 d_M_ask_13 rfl (fun h => absurd h (by decide)) (fun _ => ?_)
    refine v_iload_n F d_M_ask_16 rfl 0 rfl ?_
    refine v_iret F hr rfl d_M_ask_17 ?_
    exact ⟨σ, fr.rf, by unfold mAsk; first | (rw [if_pos (by assumption)]; done) | (rw [if_neg (fun q => q (by assumption)), if_pos (by assumption)]; done)⟩
  · skip
    refine v_istore_n (ls' := [(2, .int 0), (0, .ref (u.2.1 63)), (1, .int v)]) F d_M_ask_11 rfl (by decide) rfl ?_
    refine v_iload_n F d_M_ask_12 rfl 0 rfl ?_
    refine v_if_ge F 18 d_M_ask_13 rfl (fun _ => ?_) (fun h => absurd (by decide) h)
    refine v_aload_n F d_M_ask_18 rfl 1 rfl ?_
    refine v_iload_n F d_M_ask_19 rfl 2 rfl ?_
    refine v_runv (r_V F (c_M_layFits X.2.1 u hA σ hb ha h0 v) mo_M_layFits st_M_270 rc_63 (by decide) rfl (Nat.le_of_ble_eq_true rfl) d_M_ask_20) (fun σ8 q9 => ?_)
    obtain ⟨fσ8, hl⟩ := q9
    have hlb := lf_b (P := (fiB σ kd n a v)) ha (2 ^ n) (p2_64 hn6)
    have h64 := p2_64 hn6
    refine v_aload_n F d_M_ask_23 rfl 1 rfl ?_
    refine v_geti F fk_M_255 G63 rfl d_M_ask_24 ?_
    refine v_te (y := nI (lfR σ kd n a v).1) hl.1 ?_
    refine v_if_ne F 36 d_M_ask_27 rfl (fun h27 => ?_) (fun h27 => ?_)
    · skip
      have h27 : ¬ (lfR σ kd n a v).1 = 0 := fun q => h27 ((nI_eq (a := (lfR σ kd n a v).1) (b := 0) (by omega) (by omega)).mpr q)
      refine v_bipush (v := (-9)) F d_M_ask_36 kb_m9 ?_
      refine v_istore_n (ls' := [(3, .int (-9)), (2, .int 0), (0, .ref (u.2.1 63)), (1, .int v)]) F d_M_ask_38 rfl (by decide) rfl ?_
      refine v_ldc (v := 1000000) F kc_M_218 d_M_ask_39 ?_
      refine v_istore (ls' := [(4, .int 1000000), (3, .int (-9)), (2, .int 0), (0, .ref (u.2.1 63)), (1, .int v)]) F d_M_ask_41 (by decide) rfl ?_
      refine v_iconst (v := 0) F d_M_ask_43 ki_0 ?_
      refine v_istore (ls' := [(5, .int 0), (4, .int 1000000), (3, .int (-9)), (2, .int 0), (0, .ref (u.2.1 63)), (1, .int v)]) F d_M_ask_44 (by decide) rfl ?_
      refine v_sub [4, 2, 1, 0] (ls' := [(0, .ref (u.2.1 63)), (3, .int (-9)), (4, .int 1000000), (5, .int 0)]) rfl ?_
      have g10 : (-9) = (oI (akS σ kd n a v 0).1) := (by first | rfl)
      have g11 : 1000000 = (nI ((akS σ kd n a v 0).2)) := (by first | rfl)
      have g12 : 0 = (nI 0) := (by first | rfl)
      refine v_to (ls' := [(0, .ref (u.2.1 63)), (3, .int (oI (akS σ kd n a v 0).1)), (4, .int (nI ((akS σ kd n a v 0).2))), (5, .int (nI 0))]) (by first | rfl | rw [g10, g11, g12] | simp_all) ?_
      refine L_M_ask_46 hA F hb ha h0 fσ8 hl ?_ _ 0 (Nat.zero_le _) (Nat.lt_succ_self _)
      refine v_iload_n F d_M_ask_155 rfl 1 rfl ?_
      refine v_bipush (v := (-9)) F d_M_ask_156 kb_m9 ?_
      refine v_icmp_ne F 166 d_M_ask_158 rfl (fun h158 => ?_) (fun h158 => ?_)
      · skip
        refine v_aload_n F d_M_ask_166 rfl 0 rfl ?_
        refine v_iload F d_M_ask_167 2 rfl ?_
        refine v_iload_n F d_M_ask_169 rfl 1 rfl ?_
        refine v_runi (r_V F (c_M_tells X.2.1 u hA σ8 (nI ((akS σ kd n a v n).2)) (oI (akS σ kd n a v n).1)) mo_M_tells st_M_111 rc_63 (by decide) rfl (Nat.le_of_ble_eq_true rfl) d_M_ask_170) (fun r13 σ14 q15 => ?_)
        obtain ⟨rfl, eσ14⟩ := q15
        refine v_iret F hr rfl d_M_ask_173 ?_
        exact ⟨_, fσ8, by unfold mAsk; rw [if_neg (fun q => q (by assumption)), if_neg (by assumption)]; first | (rw [if_pos (by assumption)]; subst_vars; rfl) | (rw [if_neg (by assumption)]; first | (rw [if_pos (by assumption)]; first | done | (congr 1; assumption) | simp_all) | (rw [if_neg (by assumption)]; subst_vars; rfl))⟩
      · skip
        refine v_bipush (v := (-9)) F d_M_ask_161 kb_m9 ?_
        refine v_goto F 173 d_M_ask_163 rfl ?_
        refine v_iret F hr rfl d_M_ask_173 ?_
        exact ⟨_, fσ8, by unfold mAsk; rw [if_neg (fun q => q (by assumption)), if_neg (by assumption)]; first | (rw [if_pos (by assumption)]; subst_vars; rfl) | (rw [if_neg (by assumption)]; first | (rw [if_pos (by assumption)]; first | done | (congr 1; assumption) | simp_all) | (rw [if_neg (by assumption)]; subst_vars; rfl))⟩
    · skip
      have h27 : (lfR σ kd n a v).1 = 0 := (nI_eq (a := (lfR σ kd n a v).1) (b := 0) (by omega) (by omega)).mp h27
      refine v_aload_n F d_M_ask_30 rfl 1 rfl ?_
      refine v_iconst (v := 4) F d_M_ask_31 ki_4 ?_
      refine v_runi (r_V F (c_M_meets X.2.1 u hA σ8 4 (by decide)) mo_M_meets st_M_103 rc_63 (by decide) rfl (Nat.le_of_ble_eq_true rfl) d_M_ask_32) (fun r16 σ17 q18 => ?_)
      obtain ⟨rfl, eσ17⟩ := q18
      refine v_iret F hr rfl d_M_ask_35 ?_
      exact ⟨_, fσ8, by unfold mAsk; rw [if_neg (fun q => q (by assumption)), if_neg (by assumption)]; first | (rw [if_pos (by assumption)]; subst_vars; rfl) | (rw [if_neg (by assumption)]; first | (rw [if_pos (by assumption)]; first | done | (congr 1; assumption) | simp_all) | (rw [if_neg (by assumption)]; subst_vars; rfl))⟩
abbrev b_M_goodsOf : ByteArray := prog_14_method_87_code
abbrev y_M_goodsOf : MethodName := ⟨"TakerBookModel", "goodsOf", "(I)I"⟩
theorem d_M_goodsOf_0 : decode b_M_goodsOf 0 = .ok (.iload_n 1, 1) := by decide +kernel
theorem d_M_goodsOf_1 : decode b_M_goodsOf 1 = .ok (.ifCond .ge 7, 3) := by decide +kernel
theorem d_M_goodsOf_4 : decode b_M_goodsOf 4 = .ok (.iconst (-1), 1) := by decide +kernel
theorem d_M_goodsOf_5 : decode b_M_goodsOf 5 = .ok (.goto 43, 3) := by decide +kernel
theorem d_M_goodsOf_8 : decode b_M_goodsOf 8 = .ok (.iload_n 1, 1) := by decide +kernel
theorem d_M_goodsOf_9 : decode b_M_goodsOf 9 = .ok (.ifCond .ne 7, 3) := by decide +kernel
theorem d_M_goodsOf_12 : decode b_M_goodsOf 12 = .ok (.iconst 0, 1) := by decide +kernel
theorem d_M_goodsOf_13 : decode b_M_goodsOf 13 = .ok (.goto 35, 3) := by decide +kernel
theorem d_M_goodsOf_16 : decode b_M_goodsOf 16 = .ok (.aload_n 0, 1) := by decide +kernel
theorem d_M_goodsOf_17 : decode b_M_goodsOf 17 = .ok (.getfield 33, 3) := by decide +kernel
theorem d_M_goodsOf_20 : decode b_M_goodsOf 20 = .ok (.iconst 1, 1) := by decide +kernel
theorem d_M_goodsOf_21 : decode b_M_goodsOf 21 = .ok (.iaload, 1) := by decide +kernel
theorem d_M_goodsOf_22 : decode b_M_goodsOf 22 = .ok (.ifCond .eq 14, 3) := by decide +kernel
theorem d_M_goodsOf_25 : decode b_M_goodsOf 25 = .ok (.iload_n 1, 1) := by decide +kernel
theorem d_M_goodsOf_26 : decode b_M_goodsOf 26 = .ok (.aload_n 0, 1) := by decide +kernel
theorem d_M_goodsOf_27 : decode b_M_goodsOf 27 = .ok (.getfield 33, 3) := by decide +kernel
theorem d_M_goodsOf_30 : decode b_M_goodsOf 30 = .ok (.iconst 1, 1) := by decide +kernel
theorem d_M_goodsOf_31 : decode b_M_goodsOf 31 = .ok (.iaload, 1) := by decide +kernel
theorem d_M_goodsOf_32 : decode b_M_goodsOf 32 = .ok (.irem, 1) := by decide +kernel
theorem d_M_goodsOf_33 : decode b_M_goodsOf 33 = .ok (.ifCond .eq 7, 3) := by decide +kernel
theorem d_M_goodsOf_36 : decode b_M_goodsOf 36 = .ok (.iconst (-1), 1) := by decide +kernel
theorem d_M_goodsOf_37 : decode b_M_goodsOf 37 = .ok (.goto 11, 3) := by decide +kernel
theorem d_M_goodsOf_40 : decode b_M_goodsOf 40 = .ok (.iload_n 1, 1) := by decide +kernel
theorem d_M_goodsOf_41 : decode b_M_goodsOf 41 = .ok (.aload_n 0, 1) := by decide +kernel
theorem d_M_goodsOf_42 : decode b_M_goodsOf 42 = .ok (.getfield 33, 3) := by decide +kernel
theorem d_M_goodsOf_45 : decode b_M_goodsOf 45 = .ok (.iconst 1, 1) := by decide +kernel
theorem d_M_goodsOf_46 : decode b_M_goodsOf 46 = .ok (.iaload, 1) := by decide +kernel
theorem d_M_goodsOf_47 : decode b_M_goodsOf 47 = .ok (.idiv, 1) := by decide +kernel
theorem d_M_goodsOf_48 : decode b_M_goodsOf 48 = .ok (.ireturn, 1) := by decide +kernel
theorem mo_M_goodsOf : mok y_M_goodsOf b_M_goodsOf 2 (some .int) 1 := ⟨List.mem_of_getElem? (i := 1441) (by decide +kernel), ⟨by decide +kernel, by decide +kernel, by decide +kernel⟩, List.mem_of_getElem? (i := 86) (by decide +kernel), by decide⟩
set_option maxHeartbeats 4000000 in
theorem c_M_goodsOf (l : Launch) (u : Un) (hA : Ap u) (σ : St) (x : Int32) : MTi l u y_M_goodsOf b_M_goodsOf 2 .int 0 [.ref (u.2.1 63), .int x] σ (fun ans σ' => goM (σ.1 70 1) x = ans ∧ σ = σ') := by
  refine MT_of hA rfl (by decide) (Nat.le_of_ble_eq_true rfl) (fun X hl F hr => ?_)
  subst hl
  refine v_to (ls' := [(0, .ref (u.2.1 63)), (1, .int x)]) rfl ?_
  refine v_iload_n F d_M_goodsOf_0 rfl 1 rfl ?_
  refine v_if_ge F 8 d_M_goodsOf_1 rfl (fun h1 => ?_) (fun h1 => ?_)
  · skip
    refine v_iload_n F d_M_goodsOf_8 rfl 1 rfl ?_
    refine v_if_ne F 16 d_M_goodsOf_9 rfl (fun h9 => ?_) (fun h9 => ?_)
    · skip
      refine v_aload_n F d_M_goodsOf_16 rfl 0 rfl ?_
      refine v_getr (r := 70) F fk_M_33 G63 rfl d_M_goodsOf_17 ?_
      refine v_iconst (v := 1) F d_M_goodsOf_20 ki_1 ?_
      refine v_ial F 1 G70 rfl (by omega) d_M_goodsOf_21 ?_
      refine v_if_eq F 36 d_M_goodsOf_22 rfl (fun h22 => ?_) (fun h22 => ?_)
      · skip
        refine v_iconst (v := (-1)) F d_M_goodsOf_36 ki_m1 ?_
        refine v_goto F 48 d_M_goodsOf_37 rfl ?_
        refine v_iret F hr rfl d_M_goodsOf_48 ?_
        refine ⟨?_, rfl⟩
        unfold goM
        first | (rw [if_pos (by assumption)]; done) | (rw [if_neg (i_nlt.mpr (by assumption)), if_pos (by assumption)]; done) | (rw [if_neg (i_nlt.mpr (by assumption)), if_neg (by assumption), if_pos (by first | exact Or.inl (by assumption) | exact Or.inr (by assumption))]; done) | (rw [if_neg (i_nlt.mpr (by assumption)), if_neg (by assumption), if_neg (by rintro (q | q); exact absurd q (by assumption); exact q (by assumption))]; done) | (rw [if_pos (i_lt_le.mp (by assumption))]; done)
      · skip
        refine v_iload_n F d_M_goodsOf_25 rfl 1 rfl ?_
        refine v_aload_n F d_M_goodsOf_26 rfl 0 rfl ?_
        refine v_getr (r := 70) F fk_M_33 G63 rfl d_M_goodsOf_27 ?_
        refine v_iconst (v := 1) F d_M_goodsOf_30 ki_1 ?_
        refine v_ial F 1 G70 rfl (by omega) d_M_goodsOf_31 ?_
        refine v_irem F d_M_goodsOf_32 h22 ?_
        refine v_if_eq F 40 d_M_goodsOf_33 rfl (fun h33 => ?_) (fun h33 => ?_)
        · skip
          refine v_iload_n F d_M_goodsOf_40 rfl 1 rfl ?_
          refine v_aload_n F d_M_goodsOf_41 rfl 0 rfl ?_
          refine v_getr (r := 70) F fk_M_33 G63 rfl d_M_goodsOf_42 ?_
          refine v_iconst (v := 1) F d_M_goodsOf_45 ki_1 ?_
          refine v_ial F 1 G70 rfl (by omega) d_M_goodsOf_46 ?_
          refine v_idiv F d_M_goodsOf_47 h22 ?_
          refine v_iret F hr rfl d_M_goodsOf_48 ?_
          refine ⟨?_, rfl⟩
          unfold goM
          first | (rw [if_pos (by assumption)]; done) | (rw [if_neg (i_nlt.mpr (by assumption)), if_pos (by assumption)]; done) | (rw [if_neg (i_nlt.mpr (by assumption)), if_neg (by assumption), if_pos (by first | exact Or.inl (by assumption) | exact Or.inr (by assumption))]; done) | (rw [if_neg (i_nlt.mpr (by assumption)), if_neg (by assumption), if_neg (by rintro (q | q); exact absurd q (by assumption); exact q (by assumption))]; done) | (rw [if_pos (i_lt_le.mp (by assumption))]; done)
        · skip
          refine v_iconst (v := (-1)) F d_M_goodsOf_36 ki_m1 ?_
          refine v_goto F 48 d_M_goodsOf_37 rfl ?_
          refine v_iret F hr rfl d_M_goodsOf_48 ?_
          refine ⟨?_, rfl⟩
          unfold goM
          first | (rw [if_pos (by assumption)]; done) | (rw [if_neg (i_nlt.mpr (by assumption)), if_pos (by assumption)]; done) | (rw [if_neg (i_nlt.mpr (by assumption)), if_neg (by assumption), if_pos (by first | exact Or.inl (by assumption) | exact Or.inr (by assumption))]; done) | (rw [if_neg (i_nlt.mpr (by assumption)), if_neg (by assumption), if_neg (by rintro (q | q); exact absurd q (by assumption); exact q (by assumption))]; done) | (rw [if_pos (i_lt_le.mp (by assumption))]; done)
    · skip
      refine v_iconst (v := 0) F d_M_goodsOf_12 ki_0 ?_
      refine v_goto F 48 d_M_goodsOf_13 rfl ?_
      refine v_iret F hr rfl d_M_goodsOf_48 ?_
      refine ⟨?_, rfl⟩
      unfold goM
      first | (rw [if_pos (by assumption)]; done) | (rw [if_neg (i_nlt.mpr (by assumption)), if_pos (by assumption)]; done) | (rw [if_neg (i_nlt.mpr (by assumption)), if_neg (by assumption), if_pos (by first | exact Or.inl (by assumption) | exact Or.inr (by assumption))]; done) | (rw [if_neg (i_nlt.mpr (by assumption)), if_neg (by assumption), if_neg (by rintro (q | q); exact absurd q (by assumption); exact q (by assumption))]; done) | (rw [if_pos (i_lt_le.mp (by assumption))]; done)
  · skip
    refine v_iconst (v := (-1)) F d_M_goodsOf_4 ki_m1 ?_
    refine v_goto F 48 d_M_goodsOf_5 rfl ?_
    refine v_iret F hr rfl d_M_goodsOf_48 ?_
    refine ⟨?_, rfl⟩
    unfold goM
    first | (rw [if_pos (by assumption)]; done) | (rw [if_neg (i_nlt.mpr (by assumption)), if_pos (by assumption)]; done) | (rw [if_neg (i_nlt.mpr (by assumption)), if_neg (by assumption), if_pos (by first | exact Or.inl (by assumption) | exact Or.inr (by assumption))]; done) | (rw [if_neg (i_nlt.mpr (by assumption)), if_neg (by assumption), if_neg (by rintro (q | q); exact absurd q (by assumption); exact q (by assumption))]; done) | (rw [if_pos (i_lt_le.mp (by assumption))]; done)
abbrev b_M_sum : ByteArray := prog_14_method_88_code
abbrev y_M_sum : MethodName := ⟨"TakerBookModel", "sum", "(I)I"⟩
theorem d_M_sum_0 : decode b_M_sum 0 = .ok (.aload_n 0, 1) := by decide +kernel
theorem d_M_sum_1 : decode b_M_sum 1 = .ok (.iload_n 1, 1) := by decide +kernel
theorem d_M_sum_2 : decode b_M_sum 2 = .ok (.iconst 0, 1) := by decide +kernel
theorem d_M_sum_3 : decode b_M_sum 3 = .ok (.bipush 99, 2) := by decide +kernel
theorem d_M_sum_5 : decode b_M_sum 5 = .ok (.invokestatic 89, 3) := by decide +kernel
theorem d_M_sum_8 : decode b_M_sum 8 = .ok (.invokevirtual 229, 3) := by decide +kernel
theorem d_M_sum_11 : decode b_M_sum 11 = .ok (.istore_n 2, 1) := by decide +kernel
theorem d_M_sum_12 : decode b_M_sum 12 = .ok (.iload_n 2, 1) := by decide +kernel
theorem d_M_sum_13 : decode b_M_sum 13 = .ok (.ifCond .ge 5, 3) := by decide +kernel
theorem d_M_sum_16 : decode b_M_sum 16 = .ok (.iload_n 2, 1) := by decide +kernel
theorem d_M_sum_17 : decode b_M_sum 17 = .ok (.ireturn, 1) := by decide +kernel
theorem d_M_sum_18 : decode b_M_sum 18 = .ok (.ldc 218, 2) := by decide +kernel
theorem d_M_sum_20 : decode b_M_sum 20 = .ok (.istore_n 3, 1) := by decide +kernel
theorem d_M_sum_21 : decode b_M_sum 21 = .ok (.iconst 0, 1) := by decide +kernel
theorem d_M_sum_22 : decode b_M_sum 22 = .ok (.istore 4, 2) := by decide +kernel
theorem d_M_sum_24 : decode b_M_sum 24 = .ok (.iconst 0, 1) := by decide +kernel
theorem d_M_sum_25 : decode b_M_sum 25 = .ok (.istore 5, 2) := by decide +kernel
theorem d_M_sum_27 : decode b_M_sum 27 = .ok (.iload 5, 2) := by decide +kernel
theorem d_M_sum_29 : decode b_M_sum 29 = .ok (.iconst 1, 1) := by decide +kernel
theorem d_M_sum_30 : decode b_M_sum 30 = .ok (.aload_n 0, 1) := by decide +kernel
theorem d_M_sum_31 : decode b_M_sum 31 = .ok (.getfield 146, 3) := by decide +kernel
theorem d_M_sum_34 : decode b_M_sum 34 = .ok (.ishl, 1) := by decide +kernel
theorem d_M_sum_35 : decode b_M_sum 35 = .ok (.if_icmp .ge 88, 3) := by decide +kernel
theorem d_M_sum_38 : decode b_M_sum 38 = .ok (.iload 5, 2) := by decide +kernel
theorem d_M_sum_40 : decode b_M_sum 40 = .ok (.aload_n 0, 1) := by decide +kernel
theorem d_M_sum_41 : decode b_M_sum 41 = .ok (.getfield 51, 3) := by decide +kernel
theorem d_M_sum_44 : decode b_M_sum 44 = .ok (.iconst 0, 1) := by decide +kernel
theorem d_M_sum_45 : decode b_M_sum 45 = .ok (.iaload, 1) := by decide +kernel
theorem d_M_sum_46 : decode b_M_sum 46 = .ok (.iconst (-1), 1) := by decide +kernel
theorem d_M_sum_47 : decode b_M_sum 47 = .ok (.ixor, 1) := by decide +kernel
theorem d_M_sum_48 : decode b_M_sum 48 = .ok (.iand, 1) := by decide +kernel
theorem d_M_sum_49 : decode b_M_sum 49 = .ok (.ifCond .ne 18, 3) := by decide +kernel
theorem d_M_sum_52 : decode b_M_sum 52 = .ok (.aload_n 0, 1) := by decide +kernel
theorem d_M_sum_53 : decode b_M_sum 53 = .ok (.iload_n 1, 1) := by decide +kernel
theorem d_M_sum_54 : decode b_M_sum 54 = .ok (.aload_n 0, 1) := by decide +kernel
theorem d_M_sum_55 : decode b_M_sum 55 = .ok (.iload 5, 2) := by decide +kernel
theorem d_M_sum_57 : decode b_M_sum 57 = .ok (.invokevirtual 233, 3) := by decide +kernel
theorem d_M_sum_60 : decode b_M_sum 60 = .ok (.isub, 1) := by decide +kernel
theorem d_M_sum_61 : decode b_M_sum 61 = .ok (.invokevirtual 288, 3) := by decide +kernel
theorem d_M_sum_64 : decode b_M_sum 64 = .ok (.goto 4, 3) := by decide +kernel
theorem d_M_sum_67 : decode b_M_sum 67 = .ok (.iconst (-1), 1) := by decide +kernel
theorem d_M_sum_68 : decode b_M_sum 68 = .ok (.istore 6, 2) := by decide +kernel
theorem d_M_sum_70 : decode b_M_sum 70 = .ok (.iload 6, 2) := by decide +kernel
theorem d_M_sum_72 : decode b_M_sum 72 = .ok (.iload 5, 2) := by decide +kernel
theorem d_M_sum_74 : decode b_M_sum 74 = .ok (.invokestatic 175, 3) := by decide +kernel
theorem d_M_sum_77 : decode b_M_sum 77 = .ok (.iadd, 1) := by decide +kernel
theorem d_M_sum_78 : decode b_M_sum 78 = .ok (.istore 7, 2) := by decide +kernel
theorem d_M_sum_80 : decode b_M_sum 80 = .ok (.iload 6, 2) := by decide +kernel
theorem d_M_sum_82 : decode b_M_sum 82 = .ok (.ifCond .lt 35, 3) := by decide +kernel
theorem d_M_sum_85 : decode b_M_sum 85 = .ok (.iload 7, 2) := by decide +kernel
theorem d_M_sum_87 : decode b_M_sum 87 = .ok (.iload_n 3, 1) := by decide +kernel
theorem d_M_sum_88 : decode b_M_sum 88 = .ok (.if_icmp .lt 19, 3) := by decide +kernel
theorem d_M_sum_91 : decode b_M_sum 91 = .ok (.iload 7, 2) := by decide +kernel
theorem d_M_sum_93 : decode b_M_sum 93 = .ok (.iload_n 3, 1) := by decide +kernel
theorem d_M_sum_94 : decode b_M_sum 94 = .ok (.if_icmp .ne 23, 3) := by decide +kernel
theorem d_M_sum_97 : decode b_M_sum 97 = .ok (.iload 5, 2) := by decide +kernel
theorem d_M_sum_99 : decode b_M_sum 99 = .ok (.invokestatic 175, 3) := by decide +kernel
theorem d_M_sum_102 : decode b_M_sum 102 = .ok (.iload 4, 2) := by decide +kernel
theorem d_M_sum_104 : decode b_M_sum 104 = .ok (.if_icmp .le 13, 3) := by decide +kernel
theorem d_M_sum_107 : decode b_M_sum 107 = .ok (.iload 7, 2) := by decide +kernel
theorem d_M_sum_109 : decode b_M_sum 109 = .ok (.istore_n 3, 1) := by decide +kernel
theorem d_M_sum_110 : decode b_M_sum 110 = .ok (.iload 5, 2) := by decide +kernel
theorem d_M_sum_112 : decode b_M_sum 112 = .ok (.invokestatic 175, 3) := by decide +kernel
theorem d_M_sum_115 : decode b_M_sum 115 = .ok (.istore 4, 2) := by decide +kernel
theorem d_M_sum_117 : decode b_M_sum 117 = .ok (.iinc 5 1, 3) := by decide +kernel
theorem d_M_sum_120 : decode b_M_sum 120 = .ok (.goto (-93), 3) := by decide +kernel
theorem d_M_sum_123 : decode b_M_sum 123 = .ok (.iload_n 3, 1) := by decide +kernel
theorem d_M_sum_124 : decode b_M_sum 124 = .ok (.ldc 218, 2) := by decide +kernel
theorem d_M_sum_126 : decode b_M_sum 126 = .ok (.if_icmp .ne 8, 3) := by decide +kernel
theorem d_M_sum_129 : decode b_M_sum 129 = .ok (.bipush (-9), 2) := by decide +kernel
theorem d_M_sum_131 : decode b_M_sum 131 = .ok (.goto 10, 3) := by decide +kernel
theorem d_M_sum_134 : decode b_M_sum 134 = .ok (.aload_n 0, 1) := by decide +kernel
theorem d_M_sum_135 : decode b_M_sum 135 = .ok (.iload 4, 2) := by decide +kernel
theorem d_M_sum_137 : decode b_M_sum 137 = .ok (.iload_n 3, 1) := by decide +kernel
theorem d_M_sum_138 : decode b_M_sum 138 = .ok (.invokevirtual 111, 3) := by decide +kernel
theorem d_M_sum_141 : decode b_M_sum 141 = .ok (.ireturn, 1) := by decide +kernel
theorem mo_M_sum : mok y_M_sum b_M_sum 8 (some .int) 1 := ⟨List.mem_of_getElem? (i := 1437) (by decide +kernel), ⟨by decide +kernel, by decide +kernel, by decide +kernel⟩, List.mem_of_getElem? (i := 86) (by decide +kernel), by decide⟩
set_option maxHeartbeats 4000000 in
theorem L_M_sum_27 {X : FX} {u : Un} (hA : Ap u) {Q : State → Prop} (F : Fr X u "TakerBookModel" b_M_sum 8) {σ : St} {n : Nat} {kd : Nat → Nat} (hb : mkOk σ n kd) {a : Nat} (ha : a < 64) (h0 : σ.1 76 0 = nI a) {v : Int32} (k : V X u 5 8 Q 123 [(0, .ref (u.2.1 63)), (1, .int v), (3, .int ((smS σ kd n a v ((2 ^ n))).1)), (4, .int ((smS σ kd n a v ((2 ^ n))).2)), (5, .int (nI ((2 ^ n))))] [] (σ)) : ∀ (nn s : Nat), s ≤ (2 ^ n) → (2 ^ n) - s < nn → V X u 5 8 Q 27 [(0, .ref (u.2.1 63)), (1, .int v), (3, .int ((smS σ kd n a v s).1)), (4, .int ((smS σ kd n a v s).2)), (5, .int (nI s))] [] (σ) := by
  intro nn
  induction nn with
  | zero =>
    intro s h1 h2
    exact absurd h2 (Nat.not_lt_zero _)
  | succ nn ih =>
    intro s hii hnn
    obtain ⟨hn, hn6, hkd, hk6⟩ := id hb
    have h64 := p2_64 hn6
    have hpl : s < 64 → pcN s ≤ 6 := pc_le s
    have hsL : s &&& (63 ^^^ a) ≤ s := Nat.and_le_left
    refine v_iload F d_M_sum_27 4 rfl ?_
    refine v_iconst (v := 1) F d_M_sum_29 ki_1 ?_
    refine v_aload_n F d_M_sum_30 rfl 0 rfl ?_
    refine v_geti F fk_M_146 G63 rfl d_M_sum_31 ?_
    refine v_te (y := nI n) hn ?_
    refine v_ishl F d_M_sum_34 ?_
    refine v_te (y := nI (2 ^ n)) (bit6 _ (by omega)) ?_
    refine v_icmp_ge F 123 d_M_sum_35 rfl (fun h35 => ?_) (fun h35 => ?_)
    · skip
      have h35 : 2 ^ n ≤ s := (nI_leI (a := 2 ^ n) (b := s) (by omega) (by omega)).mp h35
      have he : s = (2 ^ n) := by omega
      subst he
      exact k
    · skip
      have h35 : ¬ 2 ^ n ≤ s := fun q => h35 ((nI_leI (a := 2 ^ n) (b := s) (by omega) (by omega)).mpr q)
      refine v_iload F d_M_sum_38 4 rfl ?_
      refine v_aload_n F d_M_sum_40 rfl 0 rfl ?_
      refine v_getr (r := 76) F fk_M_51 G63 rfl d_M_sum_41 ?_
      refine v_iconst (v := 0) F d_M_sum_44 ki_0 ?_
      refine v_ial F 0 G76 rfl (by omega) d_M_sum_45 ?_
      refine v_te (y := nI a) h0 ?_
      refine v_iconst (v := (-1)) F d_M_sum_46 ki_m1 ?_
      refine v_ixor F d_M_sum_47 ?_
      refine v_iand F d_M_sum_48 ?_
      refine v_te (y := nI (s &&& (63 ^^^ a))) (sub6 (by omega) ha) ?_
      refine v_if_ne F 67 d_M_sum_49 rfl (fun h49 => ?_) (fun h49 => ?_)
      · skip
        have h49 : ¬ s &&& (63 ^^^ a) = 0 := fun q => h49 ((nI_eq (a := s &&& (63 ^^^ a)) (b := 0) (by omega) (by omega)).mpr q)
        have hg : gsM σ kd n a v s = -1 := if_neg (by assumption)
        refine v_iconst (v := (-1)) F d_M_sum_67 ki_m1 ?_
        refine v_istore (ls' := [(6, .int (-1)), (0, .ref (u.2.1 63)), (1, .int v), (3, .int ((smS σ kd n a v s).1)), (4, .int ((smS σ kd n a v s).2)), (5, .int (nI s))]) F d_M_sum_68 (by decide) rfl ?_
        refine v_iload F d_M_sum_70 0 rfl ?_
        refine v_iload F d_M_sum_72 5 rfl ?_
        refine v_runi (r_S F (c_M_bits X.2.1 u hA σ s (by omega)) mo_M_bits st_M_175 (by decide) rfl (Nat.le_of_ble_eq_true rfl) d_M_sum_74) (fun r1 σ2 q3 => ?_)
        obtain ⟨rfl, rfl⟩ := q3
        refine v_iadd F d_M_sum_77 ?_
        refine v_istore (ls' := [(7, .int ((-1) + (nI (pcN s)))), (6, .int (-1)), (0, .ref (u.2.1 63)), (1, .int v), (3, .int ((smS σ kd n a v s).1)), (4, .int ((smS σ kd n a v s).2)), (5, .int (nI s))]) F d_M_sum_78 (by decide) rfl ?_
        refine v_iload F d_M_sum_80 1 rfl ?_
        refine v_if_lt F 117 d_M_sum_82 rfl (fun _ => ?_) (fun h => absurd (by decide) h)
        refine v_iinc (v := nI (s + 1)) (ls' := [(5, .int (nI (s + 1))), (7, .int ((-1) + (nI (pcN s)))), (6, .int (-1)), (0, .ref (u.2.1 63)), (1, .int v), (3, .int ((smS σ kd n a v s).1)), (4, .int ((smS σ kd n a v s).2))]) F d_M_sum_117 (j := 6) rfl (nI_inc _) (by decide) rfl ?_
        refine v_goto F 27 d_M_sum_120 rfl ?_
        refine v_sub [3, 4, 5, 6, 0] (ls' := [(0, .ref (u.2.1 63)), (1, .int v), (3, .int ((smS σ kd n a v s).1)), (4, .int ((smS σ kd n a v s).2)), (5, .int (nI (s + 1)))]) rfl ?_
        have g4 : ((smS σ kd n a v s).1) = ((smS σ kd n a v (s + 1)).1) := (by first | rfl | (rw [smS_t ⟨i_nlt.mp (by assumption), by first | exact Or.inl (by assumption) | exact Or.inr ⟨by assumption, i_lt_le.mp (by assumption)⟩⟩]; done) | (rw [smS_f (fun q => by first | exact absurd (hg ▸ q.1) (by decide) | exact absurd q.1 (lt_le_i (by assumption)) | exact q.2.elim (fun r => absurd r (by assumption)) (fun r => absurd r.1 (by assumption)) | exact q.2.elim (fun r => absurd r (by assumption)) (fun r => absurd r.2 (i_nlt.mpr (by assumption))))]; done))
        have g5 : ((smS σ kd n a v s).2) = ((smS σ kd n a v (s + 1)).2) := (by first | rfl | (rw [smS_t ⟨i_nlt.mp (by assumption), by first | exact Or.inl (by assumption) | exact Or.inr ⟨by assumption, i_lt_le.mp (by assumption)⟩⟩]; done) | (rw [smS_f (fun q => by first | exact absurd (hg ▸ q.1) (by decide) | exact absurd q.1 (lt_le_i (by assumption)) | exact q.2.elim (fun r => absurd r (by assumption)) (fun r => absurd r.1 (by assumption)) | exact q.2.elim (fun r => absurd r (by assumption)) (fun r => absurd r.2 (i_nlt.mpr (by assumption))))]; done))
        refine v_to (ls' := [(0, .ref (u.2.1 63)), (1, .int v), (3, .int ((smS σ kd n a v (s + 1)).1)), (4, .int ((smS σ kd n a v (s + 1)).2)), (5, .int (nI (s + 1)))]) (by first | rfl | rw [g4, g5] | simp_all) ?_
        exact ih (s + 1) (by omega) (by omega)
      · skip
        have h49 : s &&& (63 ^^^ a) = 0 := (nI_eq (a := s &&& (63 ^^^ a)) (b := 0) (by omega) (by omega)).mp h49
        have hg : s &&& (63 ^^^ a) = 0 := by assumption
        refine v_aload_n F d_M_sum_52 rfl 0 rfl ?_
        refine v_iload_n F d_M_sum_53 rfl 1 rfl ?_
        refine v_aload_n F d_M_sum_54 rfl 0 rfl ?_
        refine v_iload F d_M_sum_55 4 rfl ?_
        refine v_runi (r_V F (c_M_headsOf X.2.1 u hA σ hb ha h0 s (by omega)) mo_M_headsOf st_M_233 rc_63 (by decide) rfl (Nat.le_of_ble_eq_true rfl) d_M_sum_57) (fun r6 σ7 q8 => ?_)
        obtain ⟨rfl, rfl⟩ := q8
        refine v_isub F d_M_sum_60 ?_
        refine v_runi (r_V F (c_M_goodsOf X.2.1 u hA σ (v - (sumI (hsM σ kd s) n)) ) mo_M_goodsOf st_M_288 rc_63 (by decide) rfl (Nat.le_of_ble_eq_true rfl) d_M_sum_61) (fun r9 σ10 q11 => ?_)
        obtain ⟨rfl, rfl⟩ := q11
        refine v_te (y := gsM σ kd n a v s) (if_pos (by assumption)).symm ?_
        refine v_goto F 68 d_M_sum_64 rfl ?_
        refine v_istore (ls' := [(6, .int (gsM σ kd n a v s)), (0, .ref (u.2.1 63)), (1, .int v), (3, .int ((smS σ kd n a v s).1)), (4, .int ((smS σ kd n a v s).2)), (5, .int (nI s))]) F d_M_sum_68 (by decide) rfl ?_
        refine v_iload F d_M_sum_70 0 rfl ?_
        refine v_iload F d_M_sum_72 5 rfl ?_
        refine v_runi (r_S F (c_M_bits X.2.1 u hA σ s (by omega)) mo_M_bits st_M_175 (by decide) rfl (Nat.le_of_ble_eq_true rfl) d_M_sum_74) (fun r12 σ13 q14 => ?_)
        obtain ⟨rfl, rfl⟩ := q14
        refine v_iadd F d_M_sum_77 ?_
        refine v_istore (ls' := [(7, .int ((gsM σ kd n a v s) + (nI (pcN s)))), (6, .int (gsM σ kd n a v s)), (0, .ref (u.2.1 63)), (1, .int v), (3, .int ((smS σ kd n a v s).1)), (4, .int ((smS σ kd n a v s).2)), (5, .int (nI s))]) F d_M_sum_78 (by decide) rfl ?_
        refine v_iload F d_M_sum_80 1 rfl ?_
        refine v_if_lt F 117 d_M_sum_82 rfl (fun h82 => ?_) (fun h82 => ?_)
        · skip
          refine v_iinc (v := nI (s + 1)) (ls' := [(5, .int (nI (s + 1))), (7, .int ((gsM σ kd n a v s) + (nI (pcN s)))), (6, .int (gsM σ kd n a v s)), (0, .ref (u.2.1 63)), (1, .int v), (3, .int ((smS σ kd n a v s).1)), (4, .int ((smS σ kd n a v s).2))]) F d_M_sum_117 (j := 6) rfl (nI_inc _) (by decide) rfl ?_
          refine v_goto F 27 d_M_sum_120 rfl ?_
          refine v_sub [3, 4, 5, 6, 0] (ls' := [(0, .ref (u.2.1 63)), (1, .int v), (3, .int ((smS σ kd n a v s).1)), (4, .int ((smS σ kd n a v s).2)), (5, .int (nI (s + 1)))]) rfl ?_
          have g15 : ((smS σ kd n a v s).1) = ((smS σ kd n a v (s + 1)).1) := (by first | rfl | (rw [smS_t ⟨i_nlt.mp (by assumption), by first | exact Or.inl (by assumption) | exact Or.inr ⟨by assumption, i_lt_le.mp (by assumption)⟩⟩]; done) | (rw [smS_f (fun q => by first | exact absurd (hg ▸ q.1) (by decide) | exact absurd q.1 (lt_le_i (by assumption)) | exact q.2.elim (fun r => absurd r (by assumption)) (fun r => absurd r.1 (by assumption)) | exact q.2.elim (fun r => absurd r (by assumption)) (fun r => absurd r.2 (i_nlt.mpr (by assumption))))]; done))
          have g16 : ((smS σ kd n a v s).2) = ((smS σ kd n a v (s + 1)).2) := (by first | rfl | (rw [smS_t ⟨i_nlt.mp (by assumption), by first | exact Or.inl (by assumption) | exact Or.inr ⟨by assumption, i_lt_le.mp (by assumption)⟩⟩]; done) | (rw [smS_f (fun q => by first | exact absurd (hg ▸ q.1) (by decide) | exact absurd q.1 (lt_le_i (by assumption)) | exact q.2.elim (fun r => absurd r (by assumption)) (fun r => absurd r.1 (by assumption)) | exact q.2.elim (fun r => absurd r (by assumption)) (fun r => absurd r.2 (i_nlt.mpr (by assumption))))]; done))
          refine v_to (ls' := [(0, .ref (u.2.1 63)), (1, .int v), (3, .int ((smS σ kd n a v (s + 1)).1)), (4, .int ((smS σ kd n a v (s + 1)).2)), (5, .int (nI (s + 1)))]) (by first | rfl | rw [g15, g16] | simp_all) ?_
          exact ih (s + 1) (by omega) (by omega)
        · skip
          refine v_iload F d_M_sum_85 0 rfl ?_
          refine v_iload_n F d_M_sum_87 rfl 4 rfl ?_
          refine v_icmp_lt F 107 d_M_sum_88 rfl (fun h88 => ?_) (fun h88 => ?_)
          · skip
            refine v_iload F d_M_sum_107 0 rfl ?_
            refine v_istore_n (ls' := [(3, .int ((gsM σ kd n a v s) + (nI (pcN s)))), (7, .int ((gsM σ kd n a v s) + (nI (pcN s)))), (6, .int (gsM σ kd n a v s)), (0, .ref (u.2.1 63)), (1, .int v), (4, .int ((smS σ kd n a v s).2)), (5, .int (nI s))]) F d_M_sum_109 rfl (by decide) rfl ?_
            refine v_iload F d_M_sum_110 6 rfl ?_
            refine v_runi (r_S F (c_M_bits X.2.1 u hA σ s (by omega)) mo_M_bits st_M_175 (by decide) rfl (Nat.le_of_ble_eq_true rfl) d_M_sum_112) (fun r17 σ18 q19 => ?_)
            obtain ⟨rfl, rfl⟩ := q19
            refine v_istore (ls' := [(4, .int (nI (pcN s))), (3, .int ((gsM σ kd n a v s) + (nI (pcN s)))), (7, .int ((gsM σ kd n a v s) + (nI (pcN s)))), (6, .int (gsM σ kd n a v s)), (0, .ref (u.2.1 63)), (1, .int v), (5, .int (nI s))]) F d_M_sum_115 (by decide) rfl ?_
            refine v_iinc (v := nI (s + 1)) (ls' := [(5, .int (nI (s + 1))), (4, .int (nI (pcN s))), (3, .int ((gsM σ kd n a v s) + (nI (pcN s)))), (7, .int ((gsM σ kd n a v s) + (nI (pcN s)))), (6, .int (gsM σ kd n a v s)), (0, .ref (u.2.1 63)), (1, .int v)]) F d_M_sum_117 (j := 6) rfl (nI_inc _) (by decide) rfl ?_
            refine v_goto F 27 d_M_sum_120 rfl ?_
            refine v_sub [5, 6, 2, 1, 0] (ls' := [(0, .ref (u.2.1 63)), (1, .int v), (3, .int ((gsM σ kd n a v s) + (nI (pcN s)))), (4, .int (nI (pcN s))), (5, .int (nI (s + 1)))]) rfl ?_
            have g20 : ((gsM σ kd n a v s) + (nI (pcN s))) = ((smS σ kd n a v (s + 1)).1) := (by first | rfl | (rw [smS_t ⟨i_nlt.mp (by assumption), by first | exact Or.inl (by assumption) | exact Or.inr ⟨by assumption, i_lt_le.mp (by assumption)⟩⟩]; done) | (rw [smS_f (fun q => by first | exact absurd (hg ▸ q.1) (by decide) | exact absurd q.1 (lt_le_i (by assumption)) | exact q.2.elim (fun r => absurd r (by assumption)) (fun r => absurd r.1 (by assumption)) | exact q.2.elim (fun r => absurd r (by assumption)) (fun r => absurd r.2 (i_nlt.mpr (by assumption))))]; done))
            have g21 : (nI (pcN s)) = ((smS σ kd n a v (s + 1)).2) := (by first | rfl | (rw [smS_t ⟨i_nlt.mp (by assumption), by first | exact Or.inl (by assumption) | exact Or.inr ⟨by assumption, i_lt_le.mp (by assumption)⟩⟩]; done) | (rw [smS_f (fun q => by first | exact absurd (hg ▸ q.1) (by decide) | exact absurd q.1 (lt_le_i (by assumption)) | exact q.2.elim (fun r => absurd r (by assumption)) (fun r => absurd r.1 (by assumption)) | exact q.2.elim (fun r => absurd r (by assumption)) (fun r => absurd r.2 (i_nlt.mpr (by assumption))))]; done))
            refine v_to (ls' := [(0, .ref (u.2.1 63)), (1, .int v), (3, .int ((smS σ kd n a v (s + 1)).1)), (4, .int ((smS σ kd n a v (s + 1)).2)), (5, .int (nI (s + 1)))]) (by first | rfl | rw [g20, g21] | simp_all) ?_
            exact ih (s + 1) (by omega) (by omega)
          · skip
            refine v_iload F d_M_sum_91 0 rfl ?_
            refine v_iload_n F d_M_sum_93 rfl 4 rfl ?_
            refine v_icmp_ne F 117 d_M_sum_94 rfl (fun h94 => ?_) (fun h94 => ?_)
            · skip
              refine v_iinc (v := nI (s + 1)) (ls' := [(5, .int (nI (s + 1))), (7, .int ((gsM σ kd n a v s) + (nI (pcN s)))), (6, .int (gsM σ kd n a v s)), (0, .ref (u.2.1 63)), (1, .int v), (3, .int ((smS σ kd n a v s).1)), (4, .int ((smS σ kd n a v s).2))]) F d_M_sum_117 (j := 6) rfl (nI_inc _) (by decide) rfl ?_
              refine v_goto F 27 d_M_sum_120 rfl ?_
              refine v_sub [3, 4, 5, 6, 0] (ls' := [(0, .ref (u.2.1 63)), (1, .int v), (3, .int ((smS σ kd n a v s).1)), (4, .int ((smS σ kd n a v s).2)), (5, .int (nI (s + 1)))]) rfl ?_
              have g22 : ((smS σ kd n a v s).1) = ((smS σ kd n a v (s + 1)).1) := (by first | rfl | (rw [smS_t ⟨i_nlt.mp (by assumption), by first | exact Or.inl (by assumption) | exact Or.inr ⟨by assumption, i_lt_le.mp (by assumption)⟩⟩]; done) | (rw [smS_f (fun q => by first | exact absurd (hg ▸ q.1) (by decide) | exact absurd q.1 (lt_le_i (by assumption)) | exact q.2.elim (fun r => absurd r (by assumption)) (fun r => absurd r.1 (by assumption)) | exact q.2.elim (fun r => absurd r (by assumption)) (fun r => absurd r.2 (i_nlt.mpr (by assumption))))]; done))
              have g23 : ((smS σ kd n a v s).2) = ((smS σ kd n a v (s + 1)).2) := (by first | rfl | (rw [smS_t ⟨i_nlt.mp (by assumption), by first | exact Or.inl (by assumption) | exact Or.inr ⟨by assumption, i_lt_le.mp (by assumption)⟩⟩]; done) | (rw [smS_f (fun q => by first | exact absurd (hg ▸ q.1) (by decide) | exact absurd q.1 (lt_le_i (by assumption)) | exact q.2.elim (fun r => absurd r (by assumption)) (fun r => absurd r.1 (by assumption)) | exact q.2.elim (fun r => absurd r (by assumption)) (fun r => absurd r.2 (i_nlt.mpr (by assumption))))]; done))
              refine v_to (ls' := [(0, .ref (u.2.1 63)), (1, .int v), (3, .int ((smS σ kd n a v (s + 1)).1)), (4, .int ((smS σ kd n a v (s + 1)).2)), (5, .int (nI (s + 1)))]) (by first | rfl | rw [g22, g23] | simp_all) ?_
              exact ih (s + 1) (by omega) (by omega)
            · skip
              refine v_iload F d_M_sum_97 6 rfl ?_
              refine v_runi (r_S F (c_M_bits X.2.1 u hA σ s (by omega)) mo_M_bits st_M_175 (by decide) rfl (Nat.le_of_ble_eq_true rfl) d_M_sum_99) (fun r24 σ25 q26 => ?_)
              obtain ⟨rfl, rfl⟩ := q26
              refine v_iload F d_M_sum_102 5 rfl ?_
              refine v_icmp_le F 117 d_M_sum_104 rfl (fun h104 => ?_) (fun h104 => ?_)
              · skip
                refine v_iinc (v := nI (s + 1)) (ls' := [(5, .int (nI (s + 1))), (7, .int ((gsM σ kd n a v s) + (nI (pcN s)))), (6, .int (gsM σ kd n a v s)), (0, .ref (u.2.1 63)), (1, .int v), (3, .int ((smS σ kd n a v s).1)), (4, .int ((smS σ kd n a v s).2))]) F d_M_sum_117 (j := 6) rfl (nI_inc _) (by decide) rfl ?_
                refine v_goto F 27 d_M_sum_120 rfl ?_
                refine v_sub [3, 4, 5, 6, 0] (ls' := [(0, .ref (u.2.1 63)), (1, .int v), (3, .int ((smS σ kd n a v s).1)), (4, .int ((smS σ kd n a v s).2)), (5, .int (nI (s + 1)))]) rfl ?_
                have g27 : ((smS σ kd n a v s).1) = ((smS σ kd n a v (s + 1)).1) := (by first | rfl | (rw [smS_t ⟨i_nlt.mp (by assumption), by first | exact Or.inl (by assumption) | exact Or.inr ⟨by assumption, i_lt_le.mp (by assumption)⟩⟩]; done) | (rw [smS_f (fun q => by first | exact absurd (hg ▸ q.1) (by decide) | exact absurd q.1 (lt_le_i (by assumption)) | exact q.2.elim (fun r => absurd r (by assumption)) (fun r => absurd r.1 (by assumption)) | exact q.2.elim (fun r => absurd r (by assumption)) (fun r => absurd r.2 (i_nlt.mpr (by assumption))))]; done))
                have g28 : ((smS σ kd n a v s).2) = ((smS σ kd n a v (s + 1)).2) := (by first | rfl | (rw [smS_t ⟨i_nlt.mp (by assumption), by first | exact Or.inl (by assumption) | exact Or.inr ⟨by assumption, i_lt_le.mp (by assumption)⟩⟩]; done) | (rw [smS_f (fun q => by first | exact absurd (hg ▸ q.1) (by decide) | exact absurd q.1 (lt_le_i (by assumption)) | exact q.2.elim (fun r => absurd r (by assumption)) (fun r => absurd r.1 (by assumption)) | exact q.2.elim (fun r => absurd r (by assumption)) (fun r => absurd r.2 (i_nlt.mpr (by assumption))))]; done))
                refine v_to (ls' := [(0, .ref (u.2.1 63)), (1, .int v), (3, .int ((smS σ kd n a v (s + 1)).1)), (4, .int ((smS σ kd n a v (s + 1)).2)), (5, .int (nI (s + 1)))]) (by first | rfl | rw [g27, g28] | simp_all) ?_
                exact ih (s + 1) (by omega) (by omega)
              · skip
                refine v_iload F d_M_sum_107 0 rfl ?_
                refine v_istore_n (ls' := [(3, .int ((gsM σ kd n a v s) + (nI (pcN s)))), (7, .int ((gsM σ kd n a v s) + (nI (pcN s)))), (6, .int (gsM σ kd n a v s)), (0, .ref (u.2.1 63)), (1, .int v), (4, .int ((smS σ kd n a v s).2)), (5, .int (nI s))]) F d_M_sum_109 rfl (by decide) rfl ?_
                refine v_iload F d_M_sum_110 6 rfl ?_
                refine v_runi (r_S F (c_M_bits X.2.1 u hA σ s (by omega)) mo_M_bits st_M_175 (by decide) rfl (Nat.le_of_ble_eq_true rfl) d_M_sum_112) (fun r29 σ30 q31 => ?_)
                obtain ⟨rfl, rfl⟩ := q31
                refine v_istore (ls' := [(4, .int (nI (pcN s))), (3, .int ((gsM σ kd n a v s) + (nI (pcN s)))), (7, .int ((gsM σ kd n a v s) + (nI (pcN s)))), (6, .int (gsM σ kd n a v s)), (0, .ref (u.2.1 63)), (1, .int v), (5, .int (nI s))]) F d_M_sum_115 (by decide) rfl ?_
                refine v_iinc (v := nI (s + 1)) (ls' := [(5, .int (nI (s + 1))), (4, .int (nI (pcN s))), (3, .int ((gsM σ kd n a v s) + (nI (pcN s)))), (7, .int ((gsM σ kd n a v s) + (nI (pcN s)))), (6, .int (gsM σ kd n a v s)), (0, .ref (u.2.1 63)), (1, .int v)]) F d_M_sum_117 (j := 6) rfl (nI_inc _) (by decide) rfl ?_
                refine v_goto F 27 d_M_sum_120 rfl ?_
                refine v_sub [5, 6, 2, 1, 0] (ls' := [(0, .ref (u.2.1 63)), (1, .int v), (3, .int ((gsM σ kd n a v s) + (nI (pcN s)))), (4, .int (nI (pcN s))), (5, .int (nI (s + 1)))]) rfl ?_
                have g32 : ((gsM σ kd n a v s) + (nI (pcN s))) = ((smS σ kd n a v (s + 1)).1) := (by first | rfl | (rw [smS_t ⟨i_nlt.mp (by assumption), by first | exact Or.inl (by assumption) | exact Or.inr ⟨by assumption, i_lt_le.mp (by assumption)⟩⟩]; done) | (rw [smS_f (fun q => by first | exact absurd (hg ▸ q.1) (by decide) | exact absurd q.1 (lt_le_i (by assumption)) | exact q.2.elim (fun r => absurd r (by assumption)) (fun r => absurd r.1 (by assumption)) | exact q.2.elim (fun r => absurd r (by assumption)) (fun r => absurd r.2 (i_nlt.mpr (by assumption))))]; done))
                have g33 : (nI (pcN s)) = ((smS σ kd n a v (s + 1)).2) := (by first | rfl | (rw [smS_t ⟨i_nlt.mp (by assumption), by first | exact Or.inl (by assumption) | exact Or.inr ⟨by assumption, i_lt_le.mp (by assumption)⟩⟩]; done) | (rw [smS_f (fun q => by first | exact absurd (hg ▸ q.1) (by decide) | exact absurd q.1 (lt_le_i (by assumption)) | exact q.2.elim (fun r => absurd r (by assumption)) (fun r => absurd r.1 (by assumption)) | exact q.2.elim (fun r => absurd r (by assumption)) (fun r => absurd r.2 (i_nlt.mpr (by assumption))))]; done))
                refine v_to (ls' := [(0, .ref (u.2.1 63)), (1, .int v), (3, .int ((smS σ kd n a v (s + 1)).1)), (4, .int ((smS σ kd n a v (s + 1)).2)), (5, .int (nI (s + 1)))]) (by first | rfl | rw [g32, g33] | simp_all) ?_
                exact ih (s + 1) (by omega) (by omega)
set_option maxHeartbeats 4000000 in
theorem c_M_sum (l : Launch) (u : Un) (hA : Ap u) (σ : St) {n : Nat} {kd : Nat → Nat} (hb : mkOk σ n kd) {a : Nat} (ha : a < 64) (h0 : σ.1 76 0 = nI a) (v : Int32) : MTi l u y_M_sum b_M_sum 8 .int 5 [.ref (u.2.1 63), .int v] σ (fun ans σ' => (ans, σ') = mSum σ kd n a v) := by
  refine MT_of hA rfl (by decide) (Nat.le_of_ble_eq_true rfl) (fun X hl F hr => ?_)
  subst hl
  refine v_to (ls' := [(0, .ref (u.2.1 63)), (1, .int v)]) rfl ?_
  obtain ⟨hn, hn6, hkd, hk6⟩ := id hb
  refine v_aload_n F d_M_sum_0 rfl 0 rfl ?_
  refine v_iload_n F d_M_sum_1 rfl 1 rfl ?_
  refine v_iconst (v := 0) F d_M_sum_2 ki_0 ?_
  refine v_bipush (v := 99) F d_M_sum_3 kb_99 ?_
  refine v_runi (r_S F (c_M_in X.2.1 u hA σ v 0 99 ) mo_M_in st_M_89 (by decide) rfl (Nat.le_of_ble_eq_true rfl) d_M_sum_5) (fun r1 σ2 q3 => ?_)
  obtain ⟨rfl, rfl⟩ := q3
  refine v_runi (r_V F (c_M_need X.2.1 u hA σ hb (0 ≤ v ∧ v ≤ 99)) mo_M_need st_M_229 rc_63 (by decide) rfl (Nat.le_of_ble_eq_true rfl) d_M_sum_8) (fun r4 σ5 q6 => ?_)
  rcases q6 with ⟨a1, rfl, rfl⟩ | ⟨a1, a2, rfl, rfl⟩ | ⟨a1, a2, rfl, rfl⟩
  · skip
    refine v_istore_n (ls' := [(2, .int (-1)), (0, .ref (u.2.1 63)), (1, .int v)]) F d_M_sum_11 rfl (by decide) rfl ?_
    refine v_iload_n F d_M_sum_12 rfl 0 rfl ?_
    refine v_if_ge F 18 d_M_sum_13 rfl (fun h => absurd h (by decide)) (fun _ => ?_)
    refine v_iload_n F d_M_sum_16 rfl 0 rfl ?_
    refine v_iret F hr rfl d_M_sum_17 ?_
    unfold mSum
    first | (rw [if_pos (by assumption)]; done) | (rw [if_neg (fun q => q (by assumption)), if_pos (by assumption)]; done)
  · skip
    refine v_istore_n (ls' := [(2, .int (-4)), (0, .ref (u.2.1 63)), (1, .int v)]) F d_M_sum_11 rfl (by decide) rfl ?_
    refine v_iload_n F d_M_sum_12 rfl 0 rfl ?_
    refine v_if_ge F 18 d_M_sum_13 rfl (fun h => absurd h (by decide)) (fun _ => ?_)
    refine v_iload_n F d_M_sum_16 rfl 0 rfl ?_
    refine v_iret F hr rfl d_M_sum_17 ?_
    unfold mSum
    first | (rw [if_pos (by assumption)]; done) | (rw [if_neg (fun q => q (by assumption)), if_pos (by assumption)]; done)
  · skip
    refine v_istore_n (ls' := [(2, .int 0), (0, .ref (u.2.1 63)), (1, .int v)]) F d_M_sum_11 rfl (by decide) rfl ?_
    refine v_iload_n F d_M_sum_12 rfl 0 rfl ?_
    refine v_if_ge F 18 d_M_sum_13 rfl (fun _ => ?_) (fun h => absurd (by decide) h)
    refine v_ldc (v := 1000000) F kc_M_218 d_M_sum_18 ?_
    refine v_istore_n (ls' := [(3, .int 1000000), (2, .int 0), (0, .ref (u.2.1 63)), (1, .int v)]) F d_M_sum_20 rfl (by decide) rfl ?_
    refine v_iconst (v := 0) F d_M_sum_21 ki_0 ?_
    refine v_istore (ls' := [(4, .int 0), (3, .int 1000000), (2, .int 0), (0, .ref (u.2.1 63)), (1, .int v)]) F d_M_sum_22 (by decide) rfl ?_
    refine v_iconst (v := 0) F d_M_sum_24 ki_0 ?_
    refine v_istore (ls' := [(5, .int 0), (4, .int 0), (3, .int 1000000), (2, .int 0), (0, .ref (u.2.1 63)), (1, .int v)]) F d_M_sum_25 (by decide) rfl ?_
    refine v_sub [4, 5, 2, 1, 0] (ls' := [(0, .ref (u.2.1 63)), (1, .int v), (3, .int 1000000), (4, .int 0), (5, .int 0)]) rfl ?_
    have g7 : 1000000 = ((smS σ kd n a v 0).1) := (by first | rfl | (rw [smS_t ⟨i_nlt.mp (by assumption), by first | exact Or.inl (by assumption) | exact Or.inr ⟨by assumption, i_lt_le.mp (by assumption)⟩⟩]; done) | (rw [smS_f (fun q => by first | exact absurd (hg ▸ q.1) (by decide) | exact absurd q.1 (lt_le_i (by assumption)) | exact q.2.elim (fun r => absurd r (by assumption)) (fun r => absurd r.1 (by assumption)) | exact q.2.elim (fun r => absurd r (by assumption)) (fun r => absurd r.2 (i_nlt.mpr (by assumption))))]; done))
    have g8 : 0 = ((smS σ kd n a v 0).2) := (by first | rfl | (rw [smS_t ⟨i_nlt.mp (by assumption), by first | exact Or.inl (by assumption) | exact Or.inr ⟨by assumption, i_lt_le.mp (by assumption)⟩⟩]; done) | (rw [smS_f (fun q => by first | exact absurd (hg ▸ q.1) (by decide) | exact absurd q.1 (lt_le_i (by assumption)) | exact q.2.elim (fun r => absurd r (by assumption)) (fun r => absurd r.1 (by assumption)) | exact q.2.elim (fun r => absurd r (by assumption)) (fun r => absurd r.2 (i_nlt.mpr (by assumption))))]; done))
    have g9 : 0 = (nI 0) := (by first | rfl | (rw [smS_t ⟨i_nlt.mp (by assumption), by first | exact Or.inl (by assumption) | exact Or.inr ⟨by assumption, i_lt_le.mp (by assumption)⟩⟩]; done) | (rw [smS_f (fun q => by first | exact absurd (hg ▸ q.1) (by decide) | exact absurd q.1 (lt_le_i (by assumption)) | exact q.2.elim (fun r => absurd r (by assumption)) (fun r => absurd r.1 (by assumption)) | exact q.2.elim (fun r => absurd r (by assumption)) (fun r => absurd r.2 (i_nlt.mpr (by assumption))))]; done))
    refine v_to (ls' := [(0, .ref (u.2.1 63)), (1, .int v), (3, .int ((smS σ kd n a v 0).1)), (4, .int ((smS σ kd n a v 0).2)), (5, .int (nI 0))]) (by first | rfl | rw [g7, g8, g9] | simp_all) ?_
    refine L_M_sum_27 hA F hb ha h0 ?_ _ 0 (Nat.zero_le _) (Nat.lt_succ_self _)
    refine v_iload_n F d_M_sum_123 rfl 2 rfl ?_
    refine v_ldc (v := 1000000) F kc_M_218 d_M_sum_124 ?_
    refine v_icmp_ne F 134 d_M_sum_126 rfl (fun h126 => ?_) (fun h126 => ?_)
    · skip
      refine v_aload_n F d_M_sum_134 rfl 0 rfl ?_
      refine v_iload F d_M_sum_135 3 rfl ?_
      refine v_iload_n F d_M_sum_137 rfl 2 rfl ?_
      refine v_runi (r_V F (c_M_tells X.2.1 u hA σ ((smS σ kd n a v ((2 ^ n))).2) ((smS σ kd n a v ((2 ^ n))).1)) mo_M_tells st_M_111 rc_63 (by decide) rfl (Nat.le_of_ble_eq_true rfl) d_M_sum_138) (fun r10 σ11 q12 => ?_)
      obtain ⟨rfl, eσ11⟩ := q12
      refine v_iret F hr rfl d_M_sum_141 ?_
      unfold mSum
      rw [if_neg (fun q => q (by assumption)), if_neg (by assumption)]
      first | (rw [if_pos (by assumption)]; done) | (rw [if_neg (by assumption)]; subst_vars; rfl)
    · skip
      refine v_bipush (v := (-9)) F d_M_sum_129 kb_m9 ?_
      refine v_goto F 141 d_M_sum_131 rfl ?_
      refine v_iret F hr rfl d_M_sum_141 ?_
      unfold mSum
      rw [if_neg (fun q => q (by assumption)), if_neg (by assumption)]
      first | (rw [if_pos (by assumption)]; done) | (rw [if_neg (by assumption)]; subst_vars; rfl)
