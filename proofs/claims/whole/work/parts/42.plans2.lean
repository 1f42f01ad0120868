theorem fk_P_64 : fok "TakerBook$Plans" 64 2 9 := ⟨(R_P, F_P, 12), rfl, by decide, List.mem_of_getElem? (i := 275) (by decide +kernel), rfl⟩
theorem pk_P_untried : pok 2 9 .int := ⟨(R_P, F_P, 12), rfl, rfl, by decide +kernel⟩
theorem fk_P_67 : fok "TakerBook$Plans" 67 2 10 := ⟨(R_P, F_P, 12), rfl, by decide, List.mem_of_getElem? (i := 277) (by decide +kernel), rfl⟩
theorem fk_P_55 : fok "TakerBook$Plans" 55 2 7 := ⟨(R_P, F_P, 12), rfl, by decide, List.mem_of_getElem? (i := 272) (by decide +kernel), rfl⟩
theorem pk_P_givenInAll : pok 2 10 .int := ⟨(R_P, F_P, 12), rfl, rfl, by decide +kernel⟩
theorem st_P_85 : siteN "TakerBook$Plans" 85 ⟨"TakerBook", "isIn", "(II)Z"⟩ "TakerBook" := ⟨by decide +kernel, List.mem_of_getElem? (i := 608) (by decide +kernel)⟩
theorem fk_P_19 : fok "TakerBook$Plans" 19 2 2 := ⟨(R_P, F_P, 12), rfl, by decide, List.mem_of_getElem? (i := 266) (by decide +kernel), rfl⟩
theorem G37 : Gam[37]? = some (.inl (.int, 6)) := rfl
theorem st_P_81 : siteV "TakerBook$Plans" 81 ⟨"TakerBook$Plans", "passWeek", "(IIIII)V"⟩ := ⟨List.mem_of_getElem? (i := 786) (by decide +kernel), List.mem_of_getElem? (i := 788) (by decide +kernel), List.mem_of_getElem? (i := 14) (by decide +kernel)⟩
set_option maxHeartbeats 4000000 in
theorem c_P_goOnFrom0 (l : Launch) (u : Un) (hA : Ap u) (σ : St) {W w left : Nat} (hW : σ.1 34 5 = nI W) (hW4 : W ≤ 4) (hw : w = W) (hl : left < 64) (stock money : Int32) : MTv l u y_P_goOnFrom b_P_goOnFrom 6 1 [.ref (u.2.1 34), .int (nI w), .int (nI left), .int stock, .int money] σ (fun σ' => σ' = gofS W 0 w left stock money σ) := by
  refine MT_of hA rfl (by decide) (Nat.le_of_ble_eq_true rfl) (fun X hl F hr => ?_)
  subst hl
  refine v_to (ls' := [(0, .ref (u.2.1 34)), (1, .int (nI w)), (2, .int (nI left)), (3, .int stock), (4, .int money)]) rfl ?_
  refine v_iload_n F d_P_goOnFrom_0 rfl 1 rfl ?_
  refine v_aload_n F d_P_goOnFrom_1 rfl 0 rfl ?_
  refine v_geti F fk_P_58 G34 rfl d_P_goOnFrom_2 ?_
  refine v_te (y := nI W) hW ?_
  refine v_icmp_lt F 43 d_P_goOnFrom_5 rfl (fun h5 => ?_) (fun h5 => ?_)
  · exact absurd ((nI_ltI (a := w) (b := W) (by omega) (by omega)).mp h5) (by omega)
  · skip
    have h5 : ¬ w < W := fun q => h5 ((nI_ltI (a := w) (b := W) (by omega) (by omega)).mpr q)
    refine v_aload_n F d_P_goOnFrom_8 rfl 0 rfl ?_
    refine v_dup F d_P_goOnFrom_9 rfl ?_
    refine v_geti F fk_P_64 G34 rfl d_P_goOnFrom_10 ?_
    refine v_iconst (v := 1) F d_P_goOnFrom_13 ki_1 ?_
    refine v_iadd F d_P_goOnFrom_14 ?_
    refine v_puti F fk_P_64 pk_P_untried G34 rfl d_P_goOnFrom_15 ?_
    refine v_ns (fun σ1 eσ1 => ?_)
    refine v_aload_n F d_P_goOnFrom_18 rfl 0 rfl ?_
    refine v_dup F d_P_goOnFrom_19 rfl ?_
    refine v_geti F fk_P_67 G34 rfl d_P_goOnFrom_20 ?_
    refine v_aload_n F d_P_goOnFrom_23 rfl 0 rfl ?_
    refine v_geti F fk_P_55 G34 rfl d_P_goOnFrom_24 ?_
    refine v_iload_n F d_P_goOnFrom_27 rfl 2 rfl ?_
    refine v_iconst (v := (-1)) F d_P_goOnFrom_28 ki_m1 ?_
    refine v_ixor F d_P_goOnFrom_29 ?_
    refine v_iand F d_P_goOnFrom_30 ?_
    refine v_iand F d_P_goOnFrom_31 ?_
    refine v_puti F fk_P_67 pk_P_givenInAll G34 rfl d_P_goOnFrom_32 ?_
    refine v_ns (fun σ2 eσ2 => ?_)
    refine v_aload_n F d_P_goOnFrom_35 rfl 0 rfl ?_
    refine v_iload_n F d_P_goOnFrom_36 rfl 1 rfl ?_
    refine v_iload F d_P_goOnFrom_37 4 rfl ?_
    refine v_runv (r_V F (c_P_end X.2.1 u hA σ2 (by subst_vars; rw [uI_n _ _ _ _ (by decide), uI_n _ _ _ _ (by decide)]; exact hW) hW4 (by omega) money) mo_P_end st_P_77 rc_34 (by omega) rfl (Nat.le_of_ble_eq_true rfl) d_P_goOnFrom_39) (fun σ4 q5 => ?_)
    refine v_vret F hr d_P_goOnFrom_42 ?_
    subst_vars
    simp only [gofS]
    rw [uI_n _ _ _ _ (by decide : (10 : Nat) ≠ 9), uI_n _ _ _ _ (by decide : (7 : Nat) ≠ 9)]
set_option maxHeartbeats 4000000 in
theorem L_P_goOnFrom_57 {X : FX} {u : Un} (hA : Ap u) {Q : State → Prop} (F : Fr X u "TakerBook$Plans" b_P_goOnFrom 6) {σ : St} {W w left kw : Nat} (hW : σ.1 34 5 = nI W) (hW4 : W ≤ 4) (hw : w < 4) (hl : left < 64) {stock money : Int32} (ihg : ∀ (σ : St) {left : Nat} (hW : σ.1 34 5 = nI W) (hl : left < 64) (stock money : Int32), MTv X.2.1 u y_P_goOnFrom b_P_goOnFrom 6 (3 * kw + 1) [.ref (u.2.1 34), .int (nI (w + 1)), .int (nI left), .int stock, .int money] σ (fun σ' => σ' = gofS W kw (w + 1) left stock money σ)) (k : V X u (3 * (kw + 1) + 1) 6 Q 105 [(0, .ref (u.2.1 34)), (1, .int (nI w)), (2, .int (nI left)), (3, .int stock), (4, .int money), (5, .int (nI 6))] [] (((foS W (gofS W kw (w + 1)) w left stock money σ 6)))) : ∀ (nn i : Nat), i ≤ 6 → 6 - i < nn → V X u (3 * (kw + 1) + 1) 6 Q 57 [(0, .ref (u.2.1 34)), (1, .int (nI w)), (2, .int (nI left)), (3, .int stock), (4, .int money), (5, .int (nI i))] [] (((foS W (gofS W kw (w + 1)) w left stock money σ i))) := by
  intro nn
  induction nn with
  | zero =>
    intro i h1 h2
    exact absurd h2 (Nat.not_lt_zero _)
  | succ nn ih =>
    intro i hii hnn
    refine v_iload F d_P_goOnFrom_57 5 rfl ?_
    refine v_bipush (v := 6) F d_P_goOnFrom_59 kb_6 ?_
    refine v_icmp_ge F 105 d_P_goOnFrom_61 rfl (fun h61 => ?_) (fun h61 => ?_)
    · skip
      have h61 : 6 ≤ i := (nI_leI (a := 6) (b := i) (by omega) (by omega)).mp h61
      have he : i = 6 := by omega
      subst he
      exact k
    · skip
      have h61 : ¬ 6 ≤ i := fun q => h61 ((nI_leI (a := 6) (b := i) (by omega) (by omega)).mpr q)
      refine v_iload F d_P_goOnFrom_64 5 rfl ?_
      refine v_iload_n F d_P_goOnFrom_66 rfl 2 rfl ?_
      refine v_runi (r_N F (c_T_isIn2 X.2.1 u hA ((foS W (gofS W kw (w + 1)) w left stock money σ i)) i left (by omega) (by omega)) mo_T_isIn st_P_85 (by omega) rfl (Nat.le_of_ble_eq_true rfl) d_P_goOnFrom_67) (fun r1 σ2 q3 => ?_)
      obtain ⟨rfl, rfl⟩ := q3
      refine v_bt F 99 d_P_goOnFrom_70 rfl (fun h70 => ?_) (fun h70 => ?_)
      · skip
        refine v_iinc (v := nI (i + 1)) (ls' := [(5, .int (nI (i + 1))), (0, .ref (u.2.1 34)), (1, .int (nI w)), (2, .int (nI left)), (3, .int stock), (4, .int money)]) F d_P_goOnFrom_99 (j := 5) rfl (nI_inc _) (by decide) rfl ?_
        refine v_goto F 57 d_P_goOnFrom_102 rfl ?_
        refine v_sub [1, 2, 3, 4, 5, 0] (ls' := [(0, .ref (u.2.1 34)), (1, .int (nI w)), (2, .int (nI left)), (3, .int stock), (4, .int money), (5, .int (nI (i + 1)))]) rfl ?_
        refine v_st (show ((foS W (gofS W kw (w + 1)) w left stock money σ i)) = ((foS W (gofS W kw (w + 1)) w left stock money σ (i + 1))) from (by first | rfl | (subst_vars; simp only [foS]; rw [if_pos (by assumption)]; done) | (simp only [foS]; rw [if_pos (by assumption)]; assumption) | (simp only [foS]; rw [if_neg (by assumption)]; done))) ?_
        exact ih (i + 1) (by omega) (by omega)
      · skip
        refine v_aload_n F d_P_goOnFrom_73 rfl 0 rfl ?_
        refine v_iload_n F d_P_goOnFrom_74 rfl 1 rfl ?_
        refine v_iload F d_P_goOnFrom_75 5 rfl ?_
        refine v_iload_n F d_P_goOnFrom_77 rfl 2 rfl ?_
        refine v_iconst (v := 1) F d_P_goOnFrom_78 ki_1 ?_
        refine v_iload F d_P_goOnFrom_79 5 rfl ?_
        refine v_ishl F d_P_goOnFrom_81 ?_
        refine v_iconst (v := (-1)) F d_P_goOnFrom_82 ki_m1 ?_
        refine v_ixor F d_P_goOnFrom_83 ?_
        refine v_iand F d_P_goOnFrom_84 ?_
        refine v_te (y := nI (left &&& (63 ^^^ 2 ^ i))) (mask6 _ hl _ (by omega)) ?_
        refine v_iload_n F d_P_goOnFrom_85 rfl 3 rfl ?_
        refine v_iload F d_P_goOnFrom_86 4 rfl ?_
        refine v_aload_n F d_P_goOnFrom_88 rfl 0 rfl ?_
        refine v_getr (r := 37) F fk_P_19 G34 rfl d_P_goOnFrom_89 ?_
        refine v_iload F d_P_goOnFrom_92 5 rfl ?_
        refine v_ial F i G37 rfl (by omega) d_P_goOnFrom_94 ?_
        refine v_iadd F d_P_goOnFrom_95 ?_
        refine v_runv (r_V F (c_P_passWeek X.2.1 u hA ((foS W (gofS W kw (w + 1)) w left stock money σ i)) (((plK_fo (plK_gof kw (w + 1)) i).2.1 5 (by decide) (by decide) (by decide)).trans hW) hW4 (by omega) (and_lt hl) (nI i) stock (money + (((foS W (gofS W kw (w + 1)) w left stock money σ i)).1 37 i)) ihg) mo_P_passWeek st_P_81 rc_34 (by omega) rfl (Nat.le_of_ble_eq_true rfl) d_P_goOnFrom_96) (fun σ5 q6 => ?_)
        refine v_iinc (v := nI (i + 1)) (ls' := [(5, .int (nI (i + 1))), (0, .ref (u.2.1 34)), (1, .int (nI w)), (2, .int (nI left)), (3, .int stock), (4, .int money)]) F d_P_goOnFrom_99 (j := 5) rfl (nI_inc _) (by decide) rfl ?_
        refine v_goto F 57 d_P_goOnFrom_102 rfl ?_
        refine v_sub [1, 2, 3, 4, 5, 0] (ls' := [(0, .ref (u.2.1 34)), (1, .int (nI w)), (2, .int (nI left)), (3, .int stock), (4, .int money), (5, .int (nI (i + 1)))]) rfl ?_
        refine v_st (show σ5 = ((foS W (gofS W kw (w + 1)) w left stock money σ (i + 1))) from (by first | rfl | (subst_vars; simp only [foS]; rw [if_pos (by assumption)]; done) | (simp only [foS]; rw [if_pos (by assumption)]; assumption) | (simp only [foS]; rw [if_neg (by assumption)]; done))) ?_
        exact ih (i + 1) (by omega) (by omega)
set_option maxHeartbeats 4000000 in
theorem c_P_goOnFrom1 (l : Launch) (u : Un) (hA : Ap u) (σ : St) {W w left kw : Nat} (hW : σ.1 34 5 = nI W) (hW4 : W ≤ 4) (hw : w < 4) (hwW : w < W) (hl : left < 64) (stock money : Int32) (ihg : ∀ (σ : St) {left : Nat} (hW : σ.1 34 5 = nI W) (hl : left < 64) (stock money : Int32), MTv l u y_P_goOnFrom b_P_goOnFrom 6 (3 * kw + 1) [.ref (u.2.1 34), .int (nI (w + 1)), .int (nI left), .int stock, .int money] σ (fun σ' => σ' = gofS W kw (w + 1) left stock money σ)) : MTv l u y_P_goOnFrom b_P_goOnFrom 6 (3 * (kw + 1) + 1) [.ref (u.2.1 34), .int (nI w), .int (nI left), .int stock, .int money] σ (fun σ' => σ' = gofS W (kw + 1) w left stock money σ) := by
  refine MT_of hA rfl (by decide) (Nat.le_of_ble_eq_true rfl) (fun X hl F hr => ?_)
  subst hl
  refine v_to (ls' := [(0, .ref (u.2.1 34)), (1, .int (nI w)), (2, .int (nI left)), (3, .int stock), (4, .int money)]) rfl ?_
  refine v_iload_n F d_P_goOnFrom_0 rfl 1 rfl ?_
  refine v_aload_n F d_P_goOnFrom_1 rfl 0 rfl ?_
  refine v_geti F fk_P_58 G34 rfl d_P_goOnFrom_2 ?_
  refine v_te (y := nI W) hW ?_
  refine v_icmp_lt F 43 d_P_goOnFrom_5 rfl (fun h5 => ?_) (fun h5 => ?_)
  · skip
    have h5 : w < W := (nI_ltI (a := w) (b := W) (by omega) (by omega)).mp h5
    refine v_aload_n F d_P_goOnFrom_43 rfl 0 rfl ?_
    refine v_iload_n F d_P_goOnFrom_44 rfl 1 rfl ?_
    refine v_bipush (v := (-9)) F d_P_goOnFrom_45 kb_m9 ?_
    refine v_iload_n F d_P_goOnFrom_47 rfl 2 rfl ?_
    refine v_iload_n F d_P_goOnFrom_48 rfl 3 rfl ?_
    refine v_iload F d_P_goOnFrom_49 4 rfl ?_
    refine v_runv (r_V F (c_P_passWeek X.2.1 u hA σ hW hW4 (by omega) hl (-9) stock money ihg) mo_P_passWeek st_P_81 rc_34 (by omega) rfl (Nat.le_of_ble_eq_true rfl) d_P_goOnFrom_51) (fun σ2 q3 => ?_)
    refine v_iconst (v := 0) F d_P_goOnFrom_54 ki_0 ?_
    refine v_istore (ls' := [(5, .int 0), (0, .ref (u.2.1 34)), (1, .int (nI w)), (2, .int (nI left)), (3, .int stock), (4, .int money)]) F d_P_goOnFrom_55 (by decide) rfl ?_
    refine v_st (show σ2 = (foS W (gofS W kw (w + 1)) w left stock money σ 0) from by subst_vars; rfl) ?_
    refine v_sub [1, 2, 3, 4, 5, 0] (ls' := [(0, .ref (u.2.1 34)), (1, .int (nI w)), (2, .int (nI left)), (3, .int stock), (4, .int money), (5, .int 0)]) rfl ?_
    have g4 : 0 = (nI 0) := (by first | rfl | (subst_vars; simp only [foS]; rw [if_pos (by assumption)]; done) | (simp only [foS]; rw [if_pos (by assumption)]; assumption) | (simp only [foS]; rw [if_neg (by assumption)]; done))
    refine v_to (ls' := [(0, .ref (u.2.1 34)), (1, .int (nI w)), (2, .int (nI left)), (3, .int stock), (4, .int money), (5, .int (nI 0))]) (by first | rfl | rw [g4] | simp_all) ?_
    refine v_st (show (foS W (gofS W kw (w + 1)) w left stock money σ 0) = ((foS W (gofS W kw (w + 1)) w left stock money σ 0)) from (by first | rfl | (subst_vars; simp only [foS]; rw [if_pos (by assumption)]; done) | (simp only [foS]; rw [if_pos (by assumption)]; assumption) | (simp only [foS]; rw [if_neg (by assumption)]; done))) ?_
    refine L_P_goOnFrom_57 hA F hW hW4 hw hl ihg ?_ _ 0 (Nat.zero_le _) (Nat.lt_succ_self _)
    refine v_vret F hr d_P_goOnFrom_105 ?_
    rfl
  · exact absurd ((nI_ltI (a := w) (b := W) (by omega) (by omega)).mpr hwW) h5
theorem c_P_goOnFrom (l : Launch) (u : Un) (hA : Ap u) {W : Nat} (hW4 : W ≤ 4) : ∀ (k : Nat) (σ : St) {w left : Nat} (hW : σ.1 34 5 = nI W) (hwk : w + k = W) (hl : left < 64) (stock money : Int32), MTv l u y_P_goOnFrom b_P_goOnFrom 6 (3 * k + 1) [.ref (u.2.1 34), .int (nI w), .int (nI left), .int stock, .int money] σ (fun σ' => σ' = gofS W k w left stock money σ)
  | 0, σ, w, left, hW, hwk, hl, stock, money => c_P_goOnFrom0 l u hA σ hW hW4 (by omega) hl stock money
  | k + 1, σ, w, left, hW, hwk, hl, stock, money => c_P_goOnFrom1 l u hA σ hW hW4 (by omega) (by omega) hl stock money (fun σ _ hW hl stock money => c_P_goOnFrom l u hA hW4 k σ hW (by omega) hl stock money)
