theorem fk_M_73 : fok "TakerBookModel" 73 12 28 := ⟨(R_M, F_M, 40), rfl, by decide, List.mem_of_getElem? (i := 1007) (by decide +kernel), rfl⟩
theorem G83 : Gam[83]? = some (.inl (.int, 4)) := rfl
theorem fk_M_236 : fok "TakerBookModel" 236 12 29 := ⟨(R_M, F_M, 40), rfl, by decide, List.mem_of_getElem? (i := 1008) (by decide +kernel), rfl⟩
theorem pk_M_trialIn : pok 12 29 .int := ⟨(R_M, F_M, 40), rfl, rfl, by decide +kernel⟩
abbrev b_M_isPlan : ByteArray := prog_14_method_67_code
abbrev y_M_isPlan : MethodName := ⟨"TakerBookModel", "isPlan", "(II)Z"⟩
theorem d_M_isPlan_0 : decode b_M_isPlan 0 = .ok (.iload_n 1, 1) := by decide +kernel
theorem d_M_isPlan_1 : decode b_M_isPlan 1 = .ok (.istore_n 3, 1) := by decide +kernel
theorem d_M_isPlan_2 : decode b_M_isPlan 2 = .ok (.iconst 0, 1) := by decide +kernel
theorem d_M_isPlan_3 : decode b_M_isPlan 3 = .ok (.istore 4, 2) := by decide +kernel
theorem d_M_isPlan_5 : decode b_M_isPlan 5 = .ok (.iconst 1, 1) := by decide +kernel
theorem d_M_isPlan_6 : decode b_M_isPlan 6 = .ok (.istore 5, 2) := by decide +kernel
theorem d_M_isPlan_8 : decode b_M_isPlan 8 = .ok (.iload_n 2, 1) := by decide +kernel
theorem d_M_isPlan_9 : decode b_M_isPlan 9 = .ok (.iconst 1, 1) := by decide +kernel
theorem d_M_isPlan_10 : decode b_M_isPlan 10 = .ok (.isub, 1) := by decide +kernel
theorem d_M_isPlan_11 : decode b_M_isPlan 11 = .ok (.istore 6, 2) := by decide +kernel
theorem d_M_isPlan_13 : decode b_M_isPlan 13 = .ok (.iload 6, 2) := by decide +kernel
theorem d_M_isPlan_15 : decode b_M_isPlan 15 = .ok (.ifCond .lt 108, 3) := by decide +kernel
theorem d_M_isPlan_18 : decode b_M_isPlan 18 = .ok (.iload_n 3, 1) := by decide +kernel
theorem d_M_isPlan_19 : decode b_M_isPlan 19 = .ok (.aload_n 0, 1) := by decide +kernel
theorem d_M_isPlan_20 : decode b_M_isPlan 20 = .ok (.getfield 146, 3) := by decide +kernel
theorem d_M_isPlan_23 : decode b_M_isPlan 23 = .ok (.iconst 1, 1) := by decide +kernel
theorem d_M_isPlan_24 : decode b_M_isPlan 24 = .ok (.iadd, 1) := by decide +kernel
theorem d_M_isPlan_25 : decode b_M_isPlan 25 = .ok (.irem, 1) := by decide +kernel
theorem d_M_isPlan_26 : decode b_M_isPlan 26 = .ok (.iconst 1, 1) := by decide +kernel
theorem d_M_isPlan_27 : decode b_M_isPlan 27 = .ok (.isub, 1) := by decide +kernel
theorem d_M_isPlan_28 : decode b_M_isPlan 28 = .ok (.istore 7, 2) := by decide +kernel
theorem d_M_isPlan_30 : decode b_M_isPlan 30 = .ok (.aload_n 0, 1) := by decide +kernel
theorem d_M_isPlan_31 : decode b_M_isPlan 31 = .ok (.getfield 73, 3) := by decide +kernel
theorem d_M_isPlan_34 : decode b_M_isPlan 34 = .ok (.iload 6, 2) := by decide +kernel
theorem d_M_isPlan_36 : decode b_M_isPlan 36 = .ok (.iload 7, 2) := by decide +kernel
theorem d_M_isPlan_38 : decode b_M_isPlan 38 = .ok (.ifCond .ge 8, 3) := by decide +kernel
theorem d_M_isPlan_41 : decode b_M_isPlan 41 = .ok (.bipush (-9), 2) := by decide +kernel
theorem d_M_isPlan_43 : decode b_M_isPlan 43 = .ok (.goto 5, 3) := by decide +kernel
theorem d_M_isPlan_46 : decode b_M_isPlan 46 = .ok (.iload 7, 2) := by decide +kernel
theorem d_M_isPlan_48 : decode b_M_isPlan 48 = .ok (.iastore, 1) := by decide +kernel
theorem d_M_isPlan_49 : decode b_M_isPlan 49 = .ok (.iload 5, 2) := by decide +kernel
theorem d_M_isPlan_51 : decode b_M_isPlan 51 = .ok (.ifCond .eq 36, 3) := by decide +kernel
theorem d_M_isPlan_54 : decode b_M_isPlan 54 = .ok (.iload 7, 2) := by decide +kernel
theorem d_M_isPlan_56 : decode b_M_isPlan 56 = .ok (.ifCond .lt 27, 3) := by decide +kernel
theorem d_M_isPlan_59 : decode b_M_isPlan 59 = .ok (.aload_n 0, 1) := by decide +kernel
theorem d_M_isPlan_60 : decode b_M_isPlan 60 = .ok (.getfield 51, 3) := by decide +kernel
theorem d_M_isPlan_63 : decode b_M_isPlan 63 = .ok (.iconst 0, 1) := by decide +kernel
theorem d_M_isPlan_64 : decode b_M_isPlan 64 = .ok (.iaload, 1) := by decide +kernel
theorem d_M_isPlan_65 : decode b_M_isPlan 65 = .ok (.iload 7, 2) := by decide +kernel
theorem d_M_isPlan_67 : decode b_M_isPlan 67 = .ok (.invokestatic 155, 3) := by decide +kernel
theorem d_M_isPlan_70 : decode b_M_isPlan 70 = .ok (.ifCond .eq 17, 3) := by decide +kernel
theorem d_M_isPlan_73 : decode b_M_isPlan 73 = .ok (.iload 4, 2) := by decide +kernel
theorem d_M_isPlan_75 : decode b_M_isPlan 75 = .ok (.iload 7, 2) := by decide +kernel
theorem d_M_isPlan_77 : decode b_M_isPlan 77 = .ok (.invokestatic 155, 3) := by decide +kernel
theorem d_M_isPlan_80 : decode b_M_isPlan 80 = .ok (.ifCond .ne 7, 3) := by decide +kernel
theorem d_M_isPlan_83 : decode b_M_isPlan 83 = .ok (.iconst 1, 1) := by decide +kernel
theorem d_M_isPlan_84 : decode b_M_isPlan 84 = .ok (.goto 4, 3) := by decide +kernel
theorem d_M_isPlan_87 : decode b_M_isPlan 87 = .ok (.iconst 0, 1) := by decide +kernel
theorem d_M_isPlan_88 : decode b_M_isPlan 88 = .ok (.istore 5, 2) := by decide +kernel
theorem d_M_isPlan_90 : decode b_M_isPlan 90 = .ok (.iload 4, 2) := by decide +kernel
theorem d_M_isPlan_92 : decode b_M_isPlan 92 = .ok (.iload 7, 2) := by decide +kernel
theorem d_M_isPlan_94 : decode b_M_isPlan 94 = .ok (.ifCond .ge 7, 3) := by decide +kernel
theorem d_M_isPlan_97 : decode b_M_isPlan 97 = .ok (.iconst 0, 1) := by decide +kernel
theorem d_M_isPlan_98 : decode b_M_isPlan 98 = .ok (.goto 7, 3) := by decide +kernel
theorem d_M_isPlan_101 : decode b_M_isPlan 101 = .ok (.iconst 1, 1) := by decide +kernel
theorem d_M_isPlan_102 : decode b_M_isPlan 102 = .ok (.iload 7, 2) := by decide +kernel
theorem d_M_isPlan_104 : decode b_M_isPlan 104 = .ok (.ishl, 1) := by decide +kernel
theorem d_M_isPlan_105 : decode b_M_isPlan 105 = .ok (.ior, 1) := by decide +kernel
theorem d_M_isPlan_106 : decode b_M_isPlan 106 = .ok (.istore 4, 2) := by decide +kernel
theorem d_M_isPlan_108 : decode b_M_isPlan 108 = .ok (.iload_n 3, 1) := by decide +kernel
theorem d_M_isPlan_109 : decode b_M_isPlan 109 = .ok (.aload_n 0, 1) := by decide +kernel
theorem d_M_isPlan_110 : decode b_M_isPlan 110 = .ok (.getfield 146, 3) := by decide +kernel
theorem d_M_isPlan_113 : decode b_M_isPlan 113 = .ok (.iconst 1, 1) := by decide +kernel
theorem d_M_isPlan_114 : decode b_M_isPlan 114 = .ok (.iadd, 1) := by decide +kernel
theorem d_M_isPlan_115 : decode b_M_isPlan 115 = .ok (.idiv, 1) := by decide +kernel
theorem d_M_isPlan_116 : decode b_M_isPlan 116 = .ok (.istore_n 3, 1) := by decide +kernel
theorem d_M_isPlan_117 : decode b_M_isPlan 117 = .ok (.iinc 6 (-1), 3) := by decide +kernel
theorem d_M_isPlan_120 : decode b_M_isPlan 120 = .ok (.goto (-107), 3) := by decide +kernel
theorem d_M_isPlan_123 : decode b_M_isPlan 123 = .ok (.iload 5, 2) := by decide +kernel
theorem d_M_isPlan_125 : decode b_M_isPlan 125 = .ok (.ireturn, 1) := by decide +kernel
theorem mo_M_isPlan : mok y_M_isPlan b_M_isPlan 8 (some .boolean) 2 := ⟨List.mem_of_getElem? (i := 1365) (by decide +kernel), ⟨by decide +kernel, by decide +kernel, by decide +kernel⟩, List.mem_of_getElem? (i := 86) (by decide +kernel), by decide⟩
set_option maxHeartbeats 4000000 in
theorem L_M_isPlan_13 {X : FX} {u : Un} (hA : Ap u) {Q : State → Prop} (F : Fr X u "TakerBookModel" b_M_isPlan 8) {σ : St} {n : Nat} {kd : Nat → Nat} (hb : mkOk σ n kd) {a : Nat} (ha : a < 64) (h0 : σ.1 76 0 = nI a) {code W : Nat} (hc : code ≤ 2401) (hW : W ≤ 4) (k0 : ∀ (j : Nat) (m : Nat) (τ : St), j = W → fr σ τ → pkOk (n + 1) W code j τ → V X u 1 8 Q 123 [(5, .int (bI (gdB (n + 1) a code j = true)))] [] (τ)) : ∀ (nn : Nat) (j : Nat) (m : Nat) (τ : St), j + m = W → fr σ τ → pkOk (n + 1) W code j τ → m < nn → V X u 1 8 Q 13 [(0, .ref (u.2.1 63)), (2, .int (nI W)), (3, .int (nI (code / (n + 1) ^ j))), (4, .int (nI (usN (n + 1) code j))), (5, .int (bI (gdB (n + 1) a code j = true))), (6, .int (kI m))] [] (τ) := by
  intro nn
  induction nn with
  | zero =>
    intro j m τ hj fτ hp h2
    exact absurd h2 (Nat.not_lt_zero _)
  | succ nn ih =>
    intro j m τ hj fτ hp hm
    obtain ⟨hn, hn6, hkd, hk6⟩ := id hb
    have hcq : code / (n + 1) ^ j ≤ code := Nat.div_le_self _ _
    have hus := usN_64 (code := code) hn6 j
    refine v_iload F d_M_isPlan_13 5 rfl ?_
    refine v_if_lt F 123 d_M_isPlan_15 rfl (fun h15 => ?_) (fun h15 => ?_)
    · skip
      refine v_sub [4] (ls' := [(5, .int (bI (gdB (n + 1) a code j = true)))]) rfl ?_
      exact k0 j m τ (by have := (kneg (by omega)).mp h15; omega) fτ hp
    · skip
      obtain ⟨q, rfl⟩ : ∃ q, m = q + 1 := ⟨m - 1, by have : m ≠ 0 := fun e => h15 ((kneg (by omega)).mpr e); omega⟩
      refine v_to (ls' := [(0, .ref (u.2.1 63)), (2, .int (nI W)), (3, .int (nI (code / (n + 1) ^ j))), (4, .int (nI (usN (n + 1) code j))), (5, .int (bI (gdB (n + 1) a code j = true))), (6, .int (nI q))]) (by rw [kI_s]) ?_
      refine v_iload_n F d_M_isPlan_18 rfl 2 rfl ?_
      refine v_aload_n F d_M_isPlan_19 rfl 0 rfl ?_
      refine v_geti F fk_M_146 G63 rfl d_M_isPlan_20 ?_
      refine v_te (y := nI n) (fτ.v rfl hn) ?_
      refine v_iconst (v := 1) F d_M_isPlan_23 ki_1 ?_
      refine v_iadd F d_M_isPlan_24 ?_
      refine v_te (y := nI (n + 1)) (nI_add _ _) ?_
      refine v_irem F d_M_isPlan_25 (nI_ne0 (by omega) (by omega)) ?_
      refine v_te (y := nI (pdg (n + 1) code j)) (pk_rem (by omega) (by omega) (by omega)) ?_
      refine v_iconst (v := 1) F d_M_isPlan_26 ki_1 ?_
      refine v_isub F d_M_isPlan_27 ?_
      by_cases hE : (pdg (n + 1) code j) = 0
      · refine v_te (y := (-1)) (by rw [hE]; rfl) ?_
        refine v_istore (ls' := [(7, .int (-1)), (0, .ref (u.2.1 63)), (2, .int (nI W)), (3, .int (nI (code / (n + 1) ^ j))), (4, .int (nI (usN (n + 1) code j))), (5, .int (bI (gdB (n + 1) a code j = true))), (6, .int (nI q))]) F d_M_isPlan_28 (by decide) rfl ?_
        refine v_aload_n F d_M_isPlan_30 rfl 1 rfl ?_
        refine v_getr (r := 83) F fk_M_73 G63 rfl d_M_isPlan_31 ?_
        refine v_iload F d_M_isPlan_34 6 rfl ?_
        refine v_iload F d_M_isPlan_36 0 rfl ?_
        refine v_if_ge F 46 d_M_isPlan_38 rfl (fun h => absurd h (by decide)) (fun _ => ?_)
        refine v_bipush (v := (-9)) F d_M_isPlan_41 kb_m9 ?_
        refine v_goto F 48 d_M_isPlan_43 rfl ?_
        refine v_ias F q G83 rfl (by omega) d_M_isPlan_48 ?_
        refine v_ns (fun σ1 eσ1 => ?_)
        have fσ1 : fr σ σ1 := by rw [eσ1]; exact fτ.u rfl
        refine v_iload F d_M_isPlan_49 5 rfl ?_
        refine v_bt F 87 d_M_isPlan_51 rfl (fun h51 => ?_) (fun h51 => ?_)
        · skip
          refine v_iconst (v := 0) F d_M_isPlan_87 ki_0 ?_
          refine v_istore (ls' := [(5, .int 0), (7, .int (-1)), (0, .ref (u.2.1 63)), (2, .int (nI W)), (3, .int (nI (code / (n + 1) ^ j))), (4, .int (nI (usN (n + 1) code j))), (6, .int (nI q))]) F d_M_isPlan_88 (by decide) rfl ?_
          refine v_iload F d_M_isPlan_90 5 rfl ?_
          refine v_iload F d_M_isPlan_92 1 rfl ?_
          refine v_if_ge F 101 d_M_isPlan_94 rfl (fun h => absurd h (by decide)) (fun _ => ?_)
          refine v_iconst (v := 0) F d_M_isPlan_97 ki_0 ?_
          refine v_goto F 105 d_M_isPlan_98 rfl ?_
          refine v_ior F d_M_isPlan_105 ?_
          refine v_te (y := nI ((usN (n + 1) code j) ||| 0)) nI_or ?_
          refine v_istore (ls' := [(4, .int (nI ((usN (n + 1) code j) ||| 0))), (5, .int 0), (7, .int (-1)), (0, .ref (u.2.1 63)), (2, .int (nI W)), (3, .int (nI (code / (n + 1) ^ j))), (6, .int (nI q))]) F d_M_isPlan_106 (by decide) rfl ?_
          refine v_iload_n F d_M_isPlan_108 rfl 5 rfl ?_
          refine v_aload_n F d_M_isPlan_109 rfl 3 rfl ?_
          refine v_geti F fk_M_146 G63 rfl d_M_isPlan_110 ?_
          refine v_te (y := nI n) (fσ1.v rfl hn) ?_
          refine v_iconst (v := 1) F d_M_isPlan_113 ki_1 ?_
          refine v_iadd F d_M_isPlan_114 ?_
          refine v_te (y := nI (n + 1)) (nI_add _ _) ?_
          refine v_idiv F d_M_isPlan_115 (nI_ne0 (by omega) (by omega)) ?_
          refine v_te (y := nI (code / (n + 1) ^ j / (n + 1))) (pk_div (by omega) (by omega) (by omega)) ?_
          refine v_istore_n (ls' := [(3, .int (nI (code / (n + 1) ^ j / (n + 1)))), (4, .int (nI ((usN (n + 1) code j) ||| 0))), (5, .int 0), (7, .int (-1)), (0, .ref (u.2.1 63)), (2, .int (nI W)), (6, .int (nI q))]) F d_M_isPlan_116 rfl (by decide) rfl ?_
          refine v_iinc (v := (nI q) + (-1)) (ls' := [(6, .int ((nI q) + (-1))), (3, .int (nI (code / (n + 1) ^ j / (n + 1)))), (4, .int (nI ((usN (n + 1) code j) ||| 0))), (5, .int 0), (7, .int (-1)), (0, .ref (u.2.1 63)), (2, .int (nI W))]) F d_M_isPlan_117 (j := 6) rfl (i_dec _) (by decide) rfl ?_
          obtain ⟨x2, ex2⟩ : ∃ y : Int32, y = (nI q) + (-1) := ⟨_, rfl⟩
          refine v_to (ls' := [(6, .int x2), (3, .int (nI (code / (n + 1) ^ j / (n + 1)))), (4, .int (nI ((usN (n + 1) code j) ||| 0))), (5, .int 0), (7, .int (-1)), (0, .ref (u.2.1 63)), (2, .int (nI W))]) (by rw [ex2]) ?_
          refine v_goto F 13 d_M_isPlan_120 rfl ?_
          refine v_sub [5, 6, 1, 2, 3, 0] (ls' := [(0, .ref (u.2.1 63)), (2, .int (nI W)), (3, .int (nI (code / (n + 1) ^ j / (n + 1)))), (4, .int (nI ((usN (n + 1) code j) ||| 0))), (5, .int 0), (6, .int x2)]) rfl ?_
          have g3 : (nI (code / (n + 1) ^ j / (n + 1))) = (nI (code / (n + 1) ^ (j + 1))) := (by first | rfl | (rw [dgN_s]; done) | (rw [us_0 (by assumption)]; done) | (rw [us_w (by assumption)]; done) | (rw [us_0 (by assumption), Nat.or_zero]; done) | exact (bI_t (gd_0 (by assumption) (by assumption))).symm | exact (bI_t (gd_w (by assumption) (by assumption) (by assumption) (by assumption))).symm | exact (bI_f (gd_f (by assumption))).symm | exact (bI_f (gd_f1 (by assumption) (by assumption))).symm | exact (bI_f (gd_f2 (by assumption) (by assumption))).symm | (subst_vars; exact idec _) | (rw [Nat.pow_zero, Nat.div_one]; done))
          have g4 : (nI ((usN (n + 1) code j) ||| 0)) = (nI (usN (n + 1) code (j + 1))) := (by first | rfl | (rw [dgN_s]; done) | (rw [us_0 (by assumption)]; done) | (rw [us_w (by assumption)]; done) | (rw [us_0 (by assumption), Nat.or_zero]; done) | exact (bI_t (gd_0 (by assumption) (by assumption))).symm | exact (bI_t (gd_w (by assumption) (by assumption) (by assumption) (by assumption))).symm | exact (bI_f (gd_f (by assumption))).symm | exact (bI_f (gd_f1 (by assumption) (by assumption))).symm | exact (bI_f (gd_f2 (by assumption) (by assumption))).symm | (subst_vars; exact idec _) | (rw [Nat.pow_zero, Nat.div_one]; done))
          have g5 : 0 = (bI (gdB (n + 1) a code (j + 1) = true)) := (by first | rfl | (rw [dgN_s]; done) | (rw [us_0 (by assumption)]; done) | (rw [us_w (by assumption)]; done) | (rw [us_0 (by assumption), Nat.or_zero]; done) | exact (bI_t (gd_0 (by assumption) (by assumption))).symm | exact (bI_t (gd_w (by assumption) (by assumption) (by assumption) (by assumption))).symm | exact (bI_f (gd_f (by assumption))).symm | exact (bI_f (gd_f1 (by assumption) (by assumption))).symm | exact (bI_f (gd_f2 (by assumption) (by assumption))).symm | (subst_vars; exact idec _) | (rw [Nat.pow_zero, Nat.div_one]; done))
          have g6 : x2 = (kI q) := (by first | rfl | (rw [dgN_s]; done) | (rw [us_0 (by assumption)]; done) | (rw [us_w (by assumption)]; done) | (rw [us_0 (by assumption), Nat.or_zero]; done) | exact (bI_t (gd_0 (by assumption) (by assumption))).symm | exact (bI_t (gd_w (by assumption) (by assumption) (by assumption) (by assumption))).symm | exact (bI_f (gd_f (by assumption))).symm | exact (bI_f (gd_f1 (by assumption) (by assumption))).symm | exact (bI_f (gd_f2 (by assumption) (by assumption))).symm | (subst_vars; exact idec _) | (rw [Nat.pow_zero, Nat.div_one]; done))
          refine v_to (ls' := [(0, .ref (u.2.1 63)), (2, .int (nI W)), (3, .int (nI (code / (n + 1) ^ (j + 1)))), (4, .int (nI (usN (n + 1) code (j + 1)))), (5, .int (bI (gdB (n + 1) a code (j + 1) = true))), (6, .int (kI q))]) (by first | rfl | rw [g3, g4, g5, g6] | simp_all) ?_
          exact ih (j + 1) (q) (σ1) (by omega) fσ1 (by rw [eσ1]; exact pk_s hp hj (by first | exact (pw_0 hE).symm | exact (pw_w hw).symm)) (by omega)
        · skip
          refine v_iload F d_M_isPlan_54 0 rfl ?_
          refine v_if_lt F 83 d_M_isPlan_56 rfl (fun _ => ?_) (fun h => absurd (by decide) h)
          refine v_iconst (v := 1) F d_M_isPlan_83 ki_1 ?_
          refine v_goto F 88 d_M_isPlan_84 rfl ?_
          refine v_istore (ls' := [(5, .int 1), (7, .int (-1)), (0, .ref (u.2.1 63)), (2, .int (nI W)), (3, .int (nI (code / (n + 1) ^ j))), (4, .int (nI (usN (n + 1) code j))), (6, .int (nI q))]) F d_M_isPlan_88 (by decide) rfl ?_
          refine v_iload F d_M_isPlan_90 5 rfl ?_
          refine v_iload F d_M_isPlan_92 1 rfl ?_
          refine v_if_ge F 101 d_M_isPlan_94 rfl (fun h => absurd h (by decide)) (fun _ => ?_)
          refine v_iconst (v := 0) F d_M_isPlan_97 ki_0 ?_
          refine v_goto F 105 d_M_isPlan_98 rfl ?_
          refine v_ior F d_M_isPlan_105 ?_
          refine v_te (y := nI ((usN (n + 1) code j) ||| 0)) nI_or ?_
          refine v_istore (ls' := [(4, .int (nI ((usN (n + 1) code j) ||| 0))), (5, .int 1), (7, .int (-1)), (0, .ref (u.2.1 63)), (2, .int (nI W)), (3, .int (nI (code / (n + 1) ^ j))), (6, .int (nI q))]) F d_M_isPlan_106 (by decide) rfl ?_
          refine v_iload_n F d_M_isPlan_108 rfl 5 rfl ?_
          refine v_aload_n F d_M_isPlan_109 rfl 3 rfl ?_
          refine v_geti F fk_M_146 G63 rfl d_M_isPlan_110 ?_
          refine v_te (y := nI n) (fσ1.v rfl hn) ?_
          refine v_iconst (v := 1) F d_M_isPlan_113 ki_1 ?_
          refine v_iadd F d_M_isPlan_114 ?_
          refine v_te (y := nI (n + 1)) (nI_add _ _) ?_
          refine v_idiv F d_M_isPlan_115 (nI_ne0 (by omega) (by omega)) ?_
          refine v_te (y := nI (code / (n + 1) ^ j / (n + 1))) (pk_div (by omega) (by omega) (by omega)) ?_
          refine v_istore_n (ls' := [(3, .int (nI (code / (n + 1) ^ j / (n + 1)))), (4, .int (nI ((usN (n + 1) code j) ||| 0))), (5, .int 1), (7, .int (-1)), (0, .ref (u.2.1 63)), (2, .int (nI W)), (6, .int (nI q))]) F d_M_isPlan_116 rfl (by decide) rfl ?_
          refine v_iinc (v := (nI q) + (-1)) (ls' := [(6, .int ((nI q) + (-1))), (3, .int (nI (code / (n + 1) ^ j / (n + 1)))), (4, .int (nI ((usN (n + 1) code j) ||| 0))), (5, .int 1), (7, .int (-1)), (0, .ref (u.2.1 63)), (2, .int (nI W))]) F d_M_isPlan_117 (j := 6) rfl (i_dec _) (by decide) rfl ?_
          obtain ⟨x7, ex7⟩ : ∃ y : Int32, y = (nI q) + (-1) := ⟨_, rfl⟩
          refine v_to (ls' := [(6, .int x7), (3, .int (nI (code / (n + 1) ^ j / (n + 1)))), (4, .int (nI ((usN (n + 1) code j) ||| 0))), (5, .int 1), (7, .int (-1)), (0, .ref (u.2.1 63)), (2, .int (nI W))]) (by rw [ex7]) ?_
          refine v_goto F 13 d_M_isPlan_120 rfl ?_
          refine v_sub [5, 6, 1, 2, 3, 0] (ls' := [(0, .ref (u.2.1 63)), (2, .int (nI W)), (3, .int (nI (code / (n + 1) ^ j / (n + 1)))), (4, .int (nI ((usN (n + 1) code j) ||| 0))), (5, .int 1), (6, .int x7)]) rfl ?_
          have g8 : (nI (code / (n + 1) ^ j / (n + 1))) = (nI (code / (n + 1) ^ (j + 1))) := (by first | rfl | (rw [dgN_s]; done) | (rw [us_0 (by assumption)]; done) | (rw [us_w (by assumption)]; done) | (rw [us_0 (by assumption), Nat.or_zero]; done) | exact (bI_t (gd_0 (by assumption) (by assumption))).symm | exact (bI_t (gd_w (by assumption) (by assumption) (by assumption) (by assumption))).symm | exact (bI_f (gd_f (by assumption))).symm | exact (bI_f (gd_f1 (by assumption) (by assumption))).symm | exact (bI_f (gd_f2 (by assumption) (by assumption))).symm | (subst_vars; exact idec _) | (rw [Nat.pow_zero, Nat.div_one]; done))
          have g9 : (nI ((usN (n + 1) code j) ||| 0)) = (nI (usN (n + 1) code (j + 1))) := (by first | rfl | (rw [dgN_s]; done) | (rw [us_0 (by assumption)]; done) | (rw [us_w (by assumption)]; done) | (rw [us_0 (by assumption), Nat.or_zero]; done) | exact (bI_t (gd_0 (by assumption) (by assumption))).symm | exact (bI_t (gd_w (by assumption) (by assumption) (by assumption) (by assumption))).symm | exact (bI_f (gd_f (by assumption))).symm | exact (bI_f (gd_f1 (by assumption) (by assumption))).symm | exact (bI_f (gd_f2 (by assumption) (by assumption))).symm | (subst_vars; exact idec _) | (rw [Nat.pow_zero, Nat.div_one]; done))
          have g10 : 1 = (bI (gdB (n + 1) a code (j + 1) = true)) := (by first | rfl | (rw [dgN_s]; done) | (rw [us_0 (by assumption)]; done) | (rw [us_w (by assumption)]; done) | (rw [us_0 (by assumption), Nat.or_zero]; done) | exact (bI_t (gd_0 (by assumption) (by assumption))).symm | exact (bI_t (gd_w (by assumption) (by assumption) (by assumption) (by assumption))).symm | exact (bI_f (gd_f (by assumption))).symm | exact (bI_f (gd_f1 (by assumption) (by assumption))).symm | exact (bI_f (gd_f2 (by assumption) (by assumption))).symm | (subst_vars; exact idec _) | (rw [Nat.pow_zero, Nat.div_one]; done))
          have g11 : x7 = (kI q) := (by first | rfl | (rw [dgN_s]; done) | (rw [us_0 (by assumption)]; done) | (rw [us_w (by assumption)]; done) | (rw [us_0 (by assumption), Nat.or_zero]; done) | exact (bI_t (gd_0 (by assumption) (by assumption))).symm | exact (bI_t (gd_w (by assumption) (by assumption) (by assumption) (by assumption))).symm | exact (bI_f (gd_f (by assumption))).symm | exact (bI_f (gd_f1 (by assumption) (by assumption))).symm | exact (bI_f (gd_f2 (by assumption) (by assumption))).symm | (subst_vars; exact idec _) | (rw [Nat.pow_zero, Nat.div_one]; done))
          refine v_to (ls' := [(0, .ref (u.2.1 63)), (2, .int (nI W)), (3, .int (nI (code / (n + 1) ^ (j + 1)))), (4, .int (nI (usN (n + 1) code (j + 1)))), (5, .int (bI (gdB (n + 1) a code (j + 1) = true))), (6, .int (kI q))]) (by first | rfl | rw [g8, g9, g10, g11] | simp_all) ?_
          exact ih (j + 1) (q) (σ1) (by omega) fσ1 (by rw [eσ1]; exact pk_s hp hj (by first | exact (pw_0 hE).symm | exact (pw_w hw).symm)) (by omega)
      · obtain ⟨w, hw⟩ : ∃ w, (pdg (n + 1) code j) = w + 1 := ⟨(pdg (n + 1) code j) - 1, by omega⟩
        have hwn : w < n := by have := pdg_lt (n := n) (code := code) (j := j); omega
        refine v_te (y := nI w) (by rw [hw]; exact nI_pred w) ?_
        refine v_istore (ls' := [(7, .int (nI w)), (0, .ref (u.2.1 63)), (2, .int (nI W)), (3, .int (nI (code / (n + 1) ^ j))), (4, .int (nI (usN (n + 1) code j))), (5, .int (bI (gdB (n + 1) a code j = true))), (6, .int (nI q))]) F d_M_isPlan_28 (by decide) rfl ?_
        refine v_aload_n F d_M_isPlan_30 rfl 1 rfl ?_
        refine v_getr (r := 83) F fk_M_73 G63 rfl d_M_isPlan_31 ?_
        refine v_iload F d_M_isPlan_34 6 rfl ?_
        refine v_iload F d_M_isPlan_36 0 rfl ?_
        refine v_if_ge F 46 d_M_isPlan_38 rfl (fun h38 => ?_) (fun h38 => ?_)
        · skip
          have h38 : 0 ≤ w := (nI_leI (a := 0) (b := w) (by omega) (by omega)).mp h38
          refine v_iload F d_M_isPlan_46 0 rfl ?_
          refine v_ias F q G83 rfl (by omega) d_M_isPlan_48 ?_
          refine v_ns (fun σ12 eσ12 => ?_)
          have fσ12 : fr σ σ12 := by rw [eσ12]; exact fτ.u rfl
          refine v_iload F d_M_isPlan_49 5 rfl ?_
          refine v_bt F 87 d_M_isPlan_51 rfl (fun h51 => ?_) (fun h51 => ?_)
          · skip
            refine v_iconst (v := 0) F d_M_isPlan_87 ki_0 ?_
            refine v_istore (ls' := [(5, .int 0), (7, .int (nI w)), (0, .ref (u.2.1 63)), (2, .int (nI W)), (3, .int (nI (code / (n + 1) ^ j))), (4, .int (nI (usN (n + 1) code j))), (6, .int (nI q))]) F d_M_isPlan_88 (by decide) rfl ?_
            refine v_iload F d_M_isPlan_90 5 rfl ?_
            refine v_iload F d_M_isPlan_92 1 rfl ?_
            refine v_if_ge F 101 d_M_isPlan_94 rfl (fun h94 => ?_) (fun h94 => ?_)
            · skip
              have h94 : 0 ≤ w := (nI_leI (a := 0) (b := w) (by omega) (by omega)).mp h94
              refine v_iconst (v := 1) F d_M_isPlan_101 ki_1 ?_
              refine v_iload F d_M_isPlan_102 1 rfl ?_
              refine v_ishl F d_M_isPlan_104 ?_
              refine v_te (y := nI (2 ^ w)) (bit6 _ (by omega)) ?_
              refine v_ior F d_M_isPlan_105 ?_
              refine v_te (y := nI ((usN (n + 1) code j) ||| (2 ^ w))) nI_or ?_
              refine v_istore (ls' := [(4, .int (nI ((usN (n + 1) code j) ||| (2 ^ w)))), (5, .int 0), (7, .int (nI w)), (0, .ref (u.2.1 63)), (2, .int (nI W)), (3, .int (nI (code / (n + 1) ^ j))), (6, .int (nI q))]) F d_M_isPlan_106 (by decide) rfl ?_
              refine v_iload_n F d_M_isPlan_108 rfl 5 rfl ?_
              refine v_aload_n F d_M_isPlan_109 rfl 3 rfl ?_
              refine v_geti F fk_M_146 G63 rfl d_M_isPlan_110 ?_
              refine v_te (y := nI n) (fσ12.v rfl hn) ?_
              refine v_iconst (v := 1) F d_M_isPlan_113 ki_1 ?_
              refine v_iadd F d_M_isPlan_114 ?_
              refine v_te (y := nI (n + 1)) (nI_add _ _) ?_
              refine v_idiv F d_M_isPlan_115 (nI_ne0 (by omega) (by omega)) ?_
              refine v_te (y := nI (code / (n + 1) ^ j / (n + 1))) (pk_div (by omega) (by omega) (by omega)) ?_
              refine v_istore_n (ls' := [(3, .int (nI (code / (n + 1) ^ j / (n + 1)))), (4, .int (nI ((usN (n + 1) code j) ||| (2 ^ w)))), (5, .int 0), (7, .int (nI w)), (0, .ref (u.2.1 63)), (2, .int (nI W)), (6, .int (nI q))]) F d_M_isPlan_116 rfl (by decide) rfl ?_
              refine v_iinc (v := (nI q) + (-1)) (ls' := [(6, .int ((nI q) + (-1))), (3, .int (nI (code / (n + 1) ^ j / (n + 1)))), (4, .int (nI ((usN (n + 1) code j) ||| (2 ^ w)))), (5, .int 0), (7, .int (nI w)), (0, .ref (u.2.1 63)), (2, .int (nI W))]) F d_M_isPlan_117 (j := 6) rfl (i_dec _) (by decide) rfl ?_
              obtain ⟨x13, ex13⟩ : ∃ y : Int32, y = (nI q) + (-1) := ⟨_, rfl⟩
              refine v_to (ls' := [(6, .int x13), (3, .int (nI (code / (n + 1) ^ j / (n + 1)))), (4, .int (nI ((usN (n + 1) code j) ||| (2 ^ w)))), (5, .int 0), (7, .int (nI w)), (0, .ref (u.2.1 63)), (2, .int (nI W))]) (by rw [ex13]) ?_
              refine v_goto F 13 d_M_isPlan_120 rfl ?_
              refine v_sub [5, 6, 1, 2, 3, 0] (ls' := [(0, .ref (u.2.1 63)), (2, .int (nI W)), (3, .int (nI (code / (n + 1) ^ j / (n + 1)))), (4, .int (nI ((usN (n + 1) code j) ||| (2 ^ w)))), (5, .int 0), (6, .int x13)]) rfl ?_
              have g14 : (nI (code / (n + 1) ^ j / (n + 1))) = (nI (code / (n + 1) ^ (j + 1))) := (by first | rfl | (rw [dgN_s]; done) | (rw [us_0 (by assumption)]; done) | (rw [us_w (by assumption)]; done) | (rw [us_0 (by assumption), Nat.or_zero]; done) | exact (bI_t (gd_0 (by assumption) (by assumption))).symm | exact (bI_t (gd_w (by assumption) (by assumption) (by assumption) (by assumption))).symm | exact (bI_f (gd_f (by assumption))).symm | exact (bI_f (gd_f1 (by assumption) (by assumption))).symm | exact (bI_f (gd_f2 (by assumption) (by assumption))).symm | (subst_vars; exact idec _) | (rw [Nat.pow_zero, Nat.div_one]; done))
              have g15 : (nI ((usN (n + 1) code j) ||| (2 ^ w))) = (nI (usN (n + 1) code (j + 1))) := (by first | rfl | (rw [dgN_s]; done) | (rw [us_0 (by assumption)]; done) | (rw [us_w (by assumption)]; done) | (rw [us_0 (by assumption), Nat.or_zero]; done) | exact (bI_t (gd_0 (by assumption) (by assumption))).symm | exact (bI_t (gd_w (by assumption) (by assumption) (by assumption) (by assumption))).symm | exact (bI_f (gd_f (by assumption))).symm | exact (bI_f (gd_f1 (by assumption) (by assumption))).symm | exact (bI_f (gd_f2 (by assumption) (by assumption))).symm | (subst_vars; exact idec _) | (rw [Nat.pow_zero, Nat.div_one]; done))
              have g16 : 0 = (bI (gdB (n + 1) a code (j + 1) = true)) := (by first | rfl | (rw [dgN_s]; done) | (rw [us_0 (by assumption)]; done) | (rw [us_w (by assumption)]; done) | (rw [us_0 (by assumption), Nat.or_zero]; done) | exact (bI_t (gd_0 (by assumption) (by assumption))).symm | exact (bI_t (gd_w (by assumption) (by assumption) (by assumption) (by assumption))).symm | exact (bI_f (gd_f (by assumption))).symm | exact (bI_f (gd_f1 (by assumption) (by assumption))).symm | exact (bI_f (gd_f2 (by assumption) (by assumption))).symm | (subst_vars; exact idec _) | (rw [Nat.pow_zero, Nat.div_one]; done))
              have g17 : x13 = (kI q) := (by first | rfl | (rw [dgN_s]; done) | (rw [us_0 (by assumption)]; done) | (rw [us_w (by assumption)]; done) | (rw [us_0 (by assumption), Nat.or_zero]; done) | exact (bI_t (gd_0 (by assumption) (by assumption))).symm | exact (bI_t (gd_w (by assumption) (by assumption) (by assumption) (by assumption))).symm | exact (bI_f (gd_f (by assumption))).symm | exact (bI_f (gd_f1 (by assumption) (by assumption))).symm | exact (bI_f (gd_f2 (by assumption) (by assumption))).symm | (subst_vars; exact idec _) | (rw [Nat.pow_zero, Nat.div_one]; done))
              refine v_to (ls' := [(0, .ref (u.2.1 63)), (2, .int (nI W)), (3, .int (nI (code / (n + 1) ^ (j + 1)))), (4, .int (nI (usN (n + 1) code (j + 1)))), (5, .int (bI (gdB (n + 1) a code (j + 1) = true))), (6, .int (kI q))]) (by first | rfl | rw [g14, g15, g16, g17] | simp_all) ?_
              exact ih (j + 1) (q) (σ12) (by omega) fσ12 (by rw [eσ12]; exact pk_s hp hj (by first | exact (pw_0 hE).symm | exact (pw_w hw).symm)) (by omega)
            · exact absurd (nI_nn (by omega)) h94
          · skip
            refine v_iload F d_M_isPlan_54 0 rfl ?_
            refine v_if_lt F 83 d_M_isPlan_56 rfl (fun h56 => ?_) (fun h56 => ?_)
            · exact absurd (nI_nn (by omega)) (lt_le_i h56)
            · skip
              have h56 : ¬ w < 0 := fun q => h56 ((nI_ltI (a := w) (b := 0) (by omega) (by omega)).mpr q)
              refine v_aload_n F d_M_isPlan_59 rfl 1 rfl ?_
              refine v_getr (r := 76) F fk_M_51 G63 rfl d_M_isPlan_60 ?_
              refine v_iconst (v := 0) F d_M_isPlan_63 ki_0 ?_
              refine v_ial F 0 G76 rfl (by omega) d_M_isPlan_64 ?_
              refine v_te (y := nI a) (fσ12.v rfl h0) ?_
              refine v_iload F d_M_isPlan_65 0 rfl ?_
              refine v_runi (r_S F (c_M_has2 X.2.1 u hA σ12 w a (by omega) (by omega)) mo_M_has st_M_155 (by decide) rfl (Nat.le_of_ble_eq_true rfl) d_M_isPlan_67) (fun r18 σ19 q20 => ?_)
              obtain ⟨rfl, rfl⟩ := q20
              refine v_bt F 87 d_M_isPlan_70 rfl (fun h70 => ?_) (fun h70 => ?_)
              · skip
                refine v_iconst (v := 0) F d_M_isPlan_87 ki_0 ?_
                refine v_istore (ls' := [(5, .int 0), (7, .int (nI w)), (0, .ref (u.2.1 63)), (2, .int (nI W)), (3, .int (nI (code / (n + 1) ^ j))), (4, .int (nI (usN (n + 1) code j))), (6, .int (nI q))]) F d_M_isPlan_88 (by decide) rfl ?_
                refine v_iload F d_M_isPlan_90 5 rfl ?_
                refine v_iload F d_M_isPlan_92 1 rfl ?_
                refine v_if_ge F 101 d_M_isPlan_94 rfl (fun h94 => ?_) (fun h94 => ?_)
                · skip
                  have h94 : 0 ≤ w := (nI_leI (a := 0) (b := w) (by omega) (by omega)).mp h94
                  refine v_iconst (v := 1) F d_M_isPlan_101 ki_1 ?_
                  refine v_iload F d_M_isPlan_102 1 rfl ?_
                  refine v_ishl F d_M_isPlan_104 ?_
                  refine v_te (y := nI (2 ^ w)) (bit6 _ (by omega)) ?_
                  refine v_ior F d_M_isPlan_105 ?_
                  refine v_te (y := nI ((usN (n + 1) code j) ||| (2 ^ w))) nI_or ?_
                  refine v_istore (ls' := [(4, .int (nI ((usN (n + 1) code j) ||| (2 ^ w)))), (5, .int 0), (7, .int (nI w)), (0, .ref (u.2.1 63)), (2, .int (nI W)), (3, .int (nI (code / (n + 1) ^ j))), (6, .int (nI q))]) F d_M_isPlan_106 (by decide) rfl ?_
                  refine v_iload_n F d_M_isPlan_108 rfl 5 rfl ?_
                  refine v_aload_n F d_M_isPlan_109 rfl 3 rfl ?_
                  refine v_geti F fk_M_146 G63 rfl d_M_isPlan_110 ?_
                  refine v_te (y := nI n) (fσ12.v rfl hn) ?_
                  refine v_iconst (v := 1) F d_M_isPlan_113 ki_1 ?_
                  refine v_iadd F d_M_isPlan_114 ?_
                  refine v_te (y := nI (n + 1)) (nI_add _ _) ?_
                  refine v_idiv F d_M_isPlan_115 (nI_ne0 (by omega) (by omega)) ?_
                  refine v_te (y := nI (code / (n + 1) ^ j / (n + 1))) (pk_div (by omega) (by omega) (by omega)) ?_
                  refine v_istore_n (ls' := [(3, .int (nI (code / (n + 1) ^ j / (n + 1)))), (4, .int (nI ((usN (n + 1) code j) ||| (2 ^ w)))), (5, .int 0), (7, .int (nI w)), (0, .ref (u.2.1 63)), (2, .int (nI W)), (6, .int (nI q))]) F d_M_isPlan_116 rfl (by decide) rfl ?_
                  refine v_iinc (v := (nI q) + (-1)) (ls' := [(6, .int ((nI q) + (-1))), (3, .int (nI (code / (n + 1) ^ j / (n + 1)))), (4, .int (nI ((usN (n + 1) code j) ||| (2 ^ w)))), (5, .int 0), (7, .int (nI w)), (0, .ref (u.2.1 63)), (2, .int (nI W))]) F d_M_isPlan_117 (j := 6) rfl (i_dec _) (by decide) rfl ?_
                  obtain ⟨x21, ex21⟩ : ∃ y : Int32, y = (nI q) + (-1) := ⟨_, rfl⟩
                  refine v_to (ls' := [(6, .int x21), (3, .int (nI (code / (n + 1) ^ j / (n + 1)))), (4, .int (nI ((usN (n + 1) code j) ||| (2 ^ w)))), (5, .int 0), (7, .int (nI w)), (0, .ref (u.2.1 63)), (2, .int (nI W))]) (by rw [ex21]) ?_
                  refine v_goto F 13 d_M_isPlan_120 rfl ?_
                  refine v_sub [5, 6, 1, 2, 3, 0] (ls' := [(0, .ref (u.2.1 63)), (2, .int (nI W)), (3, .int (nI (code / (n + 1) ^ j / (n + 1)))), (4, .int (nI ((usN (n + 1) code j) ||| (2 ^ w)))), (5, .int 0), (6, .int x21)]) rfl ?_
                  have g22 : (nI (code / (n + 1) ^ j / (n + 1))) = (nI (code / (n + 1) ^ (j + 1))) := (by first | rfl | (rw [dgN_s]; done) | (rw [us_0 (by assumption)]; done) | (rw [us_w (by assumption)]; done) | (rw [us_0 (by assumption), Nat.or_zero]; done) | exact (bI_t (gd_0 (by assumption) (by assumption))).symm | exact (bI_t (gd_w (by assumption) (by assumption) (by assumption) (by assumption))).symm | exact (bI_f (gd_f (by assumption))).symm | exact (bI_f (gd_f1 (by assumption) (by assumption))).symm | exact (bI_f (gd_f2 (by assumption) (by assumption))).symm | (subst_vars; exact idec _) | (rw [Nat.pow_zero, Nat.div_one]; done))
                  have g23 : (nI ((usN (n + 1) code j) ||| (2 ^ w))) = (nI (usN (n + 1) code (j + 1))) := (by first | rfl | (rw [dgN_s]; done) | (rw [us_0 (by assumption)]; done) | (rw [us_w (by assumption)]; done) | (rw [us_0 (by assumption), Nat.or_zero]; done) | exact (bI_t (gd_0 (by assumption) (by assumption))).symm | exact (bI_t (gd_w (by assumption) (by assumption) (by assumption) (by assumption))).symm | exact (bI_f (gd_f (by assumption))).symm | exact (bI_f (gd_f1 (by assumption) (by assumption))).symm | exact (bI_f (gd_f2 (by assumption) (by assumption))).symm | (subst_vars; exact idec _) | (rw [Nat.pow_zero, Nat.div_one]; done))
                  have g24 : 0 = (bI (gdB (n + 1) a code (j + 1) = true)) := (by first | rfl | (rw [dgN_s]; done) | (rw [us_0 (by assumption)]; done) | (rw [us_w (by assumption)]; done) | (rw [us_0 (by assumption), Nat.or_zero]; done) | exact (bI_t (gd_0 (by assumption) (by assumption))).symm | exact (bI_t (gd_w (by assumption) (by assumption) (by assumption) (by assumption))).symm | exact (bI_f (gd_f (by assumption))).symm | exact (bI_f (gd_f1 (by assumption) (by assumption))).symm | exact (bI_f (gd_f2 (by assumption) (by assumption))).symm | (subst_vars; exact idec _) | (rw [Nat.pow_zero, Nat.div_one]; done))
                  have g25 : x21 = (kI q) := (by first | rfl | (rw [dgN_s]; done) | (rw [us_0 (by assumption)]; done) | (rw [us_w (by assumption)]; done) | (rw [us_0 (by assumption), Nat.or_zero]; done) | exact (bI_t (gd_0 (by assumption) (by assumption))).symm | exact (bI_t (gd_w (by assumption) (by assumption) (by assumption) (by assumption))).symm | exact (bI_f (gd_f (by assumption))).symm | exact (bI_f (gd_f1 (by assumption) (by assumption))).symm | exact (bI_f (gd_f2 (by assumption) (by assumption))).symm | (subst_vars; exact idec _) | (rw [Nat.pow_zero, Nat.div_one]; done))
                  refine v_to (ls' := [(0, .ref (u.2.1 63)), (2, .int (nI W)), (3, .int (nI (code / (n + 1) ^ (j + 1)))), (4, .int (nI (usN (n + 1) code (j + 1)))), (5, .int (bI (gdB (n + 1) a code (j + 1) = true))), (6, .int (kI q))]) (by first | rfl | rw [g22, g23, g24, g25] | simp_all) ?_
                  exact ih (j + 1) (q) (σ12) (by omega) fσ12 (by rw [eσ12]; exact pk_s hp hj (by first | exact (pw_0 hE).symm | exact (pw_w hw).symm)) (by omega)
                · exact absurd (nI_nn (by omega)) h94
              · skip
                refine v_iload F d_M_isPlan_73 4 rfl ?_
                refine v_iload F d_M_isPlan_75 0 rfl ?_
                refine v_runi (r_S F (c_M_has2 X.2.1 u hA σ12 w (usN (n + 1) code j) (by omega) (by omega)) mo_M_has st_M_155 (by decide) rfl (Nat.le_of_ble_eq_true rfl) d_M_isPlan_77) (fun r26 σ27 q28 => ?_)
                obtain ⟨rfl, rfl⟩ := q28
                refine v_bf F 87 d_M_isPlan_80 rfl (fun h80 => ?_) (fun h80 => ?_)
                · skip
                  refine v_iconst (v := 0) F d_M_isPlan_87 ki_0 ?_
                  refine v_istore (ls' := [(5, .int 0), (7, .int (nI w)), (0, .ref (u.2.1 63)), (2, .int (nI W)), (3, .int (nI (code / (n + 1) ^ j))), (4, .int (nI (usN (n + 1) code j))), (6, .int (nI q))]) F d_M_isPlan_88 (by decide) rfl ?_
                  refine v_iload F d_M_isPlan_90 5 rfl ?_
                  refine v_iload F d_M_isPlan_92 1 rfl ?_
                  refine v_if_ge F 101 d_M_isPlan_94 rfl (fun h94 => ?_) (fun h94 => ?_)
                  · skip
                    have h94 : 0 ≤ w := (nI_leI (a := 0) (b := w) (by omega) (by omega)).mp h94
                    refine v_iconst (v := 1) F d_M_isPlan_101 ki_1 ?_
                    refine v_iload F d_M_isPlan_102 1 rfl ?_
                    refine v_ishl F d_M_isPlan_104 ?_
                    refine v_te (y := nI (2 ^ w)) (bit6 _ (by omega)) ?_
                    refine v_ior F d_M_isPlan_105 ?_
                    refine v_te (y := nI ((usN (n + 1) code j) ||| (2 ^ w))) nI_or ?_
                    refine v_istore (ls' := [(4, .int (nI ((usN (n + 1) code j) ||| (2 ^ w)))), (5, .int 0), (7, .int (nI w)), (0, .ref (u.2.1 63)), (2, .int (nI W)), (3, .int (nI (code / (n + 1) ^ j))), (6, .int (nI q))]) F d_M_isPlan_106 (by decide) rfl ?_
                    refine v_iload_n F d_M_isPlan_108 rfl 5 rfl ?_
                    refine v_aload_n F d_M_isPlan_109 rfl 3 rfl ?_
                    refine v_geti F fk_M_146 G63 rfl d_M_isPlan_110 ?_
                    refine v_te (y := nI n) (fσ12.v rfl hn) ?_
                    refine v_iconst (v := 1) F d_M_isPlan_113 ki_1 ?_
                    refine v_iadd F d_M_isPlan_114 ?_
                    refine v_te (y := nI (n + 1)) (nI_add _ _) ?_
                    refine v_idiv F d_M_isPlan_115 (nI_ne0 (by omega) (by omega)) ?_
                    refine v_te (y := nI (code / (n + 1) ^ j / (n + 1))) (pk_div (by omega) (by omega) (by omega)) ?_
                    refine v_istore_n (ls' := [(3, .int (nI (code / (n + 1) ^ j / (n + 1)))), (4, .int (nI ((usN (n + 1) code j) ||| (2 ^ w)))), (5, .int 0), (7, .int (nI w)), (0, .ref (u.2.1 63)), (2, .int (nI W)), (6, .int (nI q))]) F d_M_isPlan_116 rfl (by decide) rfl ?_
                    refine v_iinc (v := (nI q) + (-1)) (ls' := [(6, .int ((nI q) + (-1))), (3, .int (nI (code / (n + 1) ^ j / (n + 1)))), (4, .int (nI ((usN (n + 1) code j) ||| (2 ^ w)))), (5, .int 0), (7, .int (nI w)), (0, .ref (u.2.1 63)), (2, .int (nI W))]) F d_M_isPlan_117 (j := 6) rfl (i_dec _) (by decide) rfl ?_
                    obtain ⟨x29, ex29⟩ : ∃ y : Int32, y = (nI q) + (-1) := ⟨_, rfl⟩
                    refine v_to (ls' := [(6, .int x29), (3, .int (nI (code / (n + 1) ^ j / (n + 1)))), (4, .int (nI ((usN (n + 1) code j) ||| (2 ^ w)))), (5, .int 0), (7, .int (nI w)), (0, .ref (u.2.1 63)), (2, .int (nI W))]) (by rw [ex29]) ?_
                    refine v_goto F 13 d_M_isPlan_120 rfl ?_
                    refine v_sub [5, 6, 1, 2, 3, 0] (ls' := [(0, .ref (u.2.1 63)), (2, .int (nI W)), (3, .int (nI (code / (n + 1) ^ j / (n + 1)))), (4, .int (nI ((usN (n + 1) code j) ||| (2 ^ w)))), (5, .int 0), (6, .int x29)]) rfl ?_
                    have g30 : (nI (code / (n + 1) ^ j / (n + 1))) = (nI (code / (n + 1) ^ (j + 1))) := (by first | rfl | (rw [dgN_s]; done) | (rw [us_0 (by assumption)]; done) | (rw [us_w (by assumption)]; done) | (rw [us_0 (by assumption), Nat.or_zero]; done) | exact (bI_t (gd_0 (by assumption) (by assumption))).symm | exact (bI_t (gd_w (by assumption) (by assumption) (by assumption) (by assumption))).symm | exact (bI_f (gd_f (by assumption))).symm | exact (bI_f (gd_f1 (by assumption) (by assumption))).symm | exact (bI_f (gd_f2 (by assumption) (by assumption))).symm | (subst_vars; exact idec _) | (rw [Nat.pow_zero, Nat.div_one]; done))
                    have g31 : (nI ((usN (n + 1) code j) ||| (2 ^ w))) = (nI (usN (n + 1) code (j + 1))) := (by first | rfl | (rw [dgN_s]; done) | (rw [us_0 (by assumption)]; done) | (rw [us_w (by assumption)]; done) | (rw [us_0 (by assumption), Nat.or_zero]; done) | exact (bI_t (gd_0 (by assumption) (by assumption))).symm | exact (bI_t (gd_w (by assumption) (by assumption) (by assumption) (by assumption))).symm | exact (bI_f (gd_f (by assumption))).symm | exact (bI_f (gd_f1 (by assumption) (by assumption))).symm | exact (bI_f (gd_f2 (by assumption) (by assumption))).symm | (subst_vars; exact idec _) | (rw [Nat.pow_zero, Nat.div_one]; done))
                    have g32 : 0 = (bI (gdB (n + 1) a code (j + 1) = true)) := (by first | rfl | (rw [dgN_s]; done) | (rw [us_0 (by assumption)]; done) | (rw [us_w (by assumption)]; done) | (rw [us_0 (by assumption), Nat.or_zero]; done) | exact (bI_t (gd_0 (by assumption) (by assumption))).symm | exact (bI_t (gd_w (by assumption) (by assumption) (by assumption) (by assumption))).symm | exact (bI_f (gd_f (by assumption))).symm | exact (bI_f (gd_f1 (by assumption) (by assumption))).symm | exact (bI_f (gd_f2 (by assumption) (by assumption))).symm | (subst_vars; exact idec _) | (rw [Nat.pow_zero, Nat.div_one]; done))
                    have g33 : x29 = (kI q) := (by first | rfl | (rw [dgN_s]; done) | (rw [us_0 (by assumption)]; done) | (rw [us_w (by assumption)]; done) | (rw [us_0 (by assumption), Nat.or_zero]; done) | exact (bI_t (gd_0 (by assumption) (by assumption))).symm | exact (bI_t (gd_w (by assumption) (by assumption) (by assumption) (by assumption))).symm | exact (bI_f (gd_f (by assumption))).symm | exact (bI_f (gd_f1 (by assumption) (by assumption))).symm | exact (bI_f (gd_f2 (by assumption) (by assumption))).symm | (subst_vars; exact idec _) | (rw [Nat.pow_zero, Nat.div_one]; done))
                    refine v_to (ls' := [(0, .ref (u.2.1 63)), (2, .int (nI W)), (3, .int (nI (code / (n + 1) ^ (j + 1)))), (4, .int (nI (usN (n + 1) code (j + 1)))), (5, .int (bI (gdB (n + 1) a code (j + 1) = true))), (6, .int (kI q))]) (by first | rfl | rw [g30, g31, g32, g33] | simp_all) ?_
                    exact ih (j + 1) (q) (σ12) (by omega) fσ12 (by rw [eσ12]; exact pk_s hp hj (by first | exact (pw_0 hE).symm | exact (pw_w hw).symm)) (by omega)
                  · exact absurd (nI_nn (by omega)) h94
                · skip
                  refine v_iconst (v := 1) F d_M_isPlan_83 ki_1 ?_
                  refine v_goto F 88 d_M_isPlan_84 rfl ?_
                  refine v_istore (ls' := [(5, .int 1), (7, .int (nI w)), (0, .ref (u.2.1 63)), (2, .int (nI W)), (3, .int (nI (code / (n + 1) ^ j))), (4, .int (nI (usN (n + 1) code j))), (6, .int (nI q))]) F d_M_isPlan_88 (by decide) rfl ?_
                  refine v_iload F d_M_isPlan_90 5 rfl ?_
                  refine v_iload F d_M_isPlan_92 1 rfl ?_
                  refine v_if_ge F 101 d_M_isPlan_94 rfl (fun h94 => ?_) (fun h94 => ?_)
                  · skip
                    have h94 : 0 ≤ w := (nI_leI (a := 0) (b := w) (by omega) (by omega)).mp h94
                    refine v_iconst (v := 1) F d_M_isPlan_101 ki_1 ?_
                    refine v_iload F d_M_isPlan_102 1 rfl ?_
                    refine v_ishl F d_M_isPlan_104 ?_
                    refine v_te (y := nI (2 ^ w)) (bit6 _ (by omega)) ?_
                    refine v_ior F d_M_isPlan_105 ?_
                    refine v_te (y := nI ((usN (n + 1) code j) ||| (2 ^ w))) nI_or ?_
                    refine v_istore (ls' := [(4, .int (nI ((usN (n + 1) code j) ||| (2 ^ w)))), (5, .int 1), (7, .int (nI w)), (0, .ref (u.2.1 63)), (2, .int (nI W)), (3, .int (nI (code / (n + 1) ^ j))), (6, .int (nI q))]) F d_M_isPlan_106 (by decide) rfl ?_
                    refine v_iload_n F d_M_isPlan_108 rfl 5 rfl ?_
                    refine v_aload_n F d_M_isPlan_109 rfl 3 rfl ?_
                    refine v_geti F fk_M_146 G63 rfl d_M_isPlan_110 ?_
                    refine v_te (y := nI n) (fσ12.v rfl hn) ?_
                    refine v_iconst (v := 1) F d_M_isPlan_113 ki_1 ?_
                    refine v_iadd F d_M_isPlan_114 ?_
                    refine v_te (y := nI (n + 1)) (nI_add _ _) ?_
                    refine v_idiv F d_M_isPlan_115 (nI_ne0 (by omega) (by omega)) ?_
                    refine v_te (y := nI (code / (n + 1) ^ j / (n + 1))) (pk_div (by omega) (by omega) (by omega)) ?_
                    refine v_istore_n (ls' := [(3, .int (nI (code / (n + 1) ^ j / (n + 1)))), (4, .int (nI ((usN (n + 1) code j) ||| (2 ^ w)))), (5, .int 1), (7, .int (nI w)), (0, .ref (u.2.1 63)), (2, .int (nI W)), (6, .int (nI q))]) F d_M_isPlan_116 rfl (by decide) rfl ?_
                    refine v_iinc (v := (nI q) + (-1)) (ls' := [(6, .int ((nI q) + (-1))), (3, .int (nI (code / (n + 1) ^ j / (n + 1)))), (4, .int (nI ((usN (n + 1) code j) ||| (2 ^ w)))), (5, .int 1), (7, .int (nI w)), (0, .ref (u.2.1 63)), (2, .int (nI W))]) F d_M_isPlan_117 (j := 6) rfl (i_dec _) (by decide) rfl ?_
                    obtain ⟨x34, ex34⟩ : ∃ y : Int32, y = (nI q) + (-1) := ⟨_, rfl⟩
                    refine v_to (ls' := [(6, .int x34), (3, .int (nI (code / (n + 1) ^ j / (n + 1)))), (4, .int (nI ((usN (n + 1) code j) ||| (2 ^ w)))), (5, .int 1), (7, .int (nI w)), (0, .ref (u.2.1 63)), (2, .int (nI W))]) (by rw [ex34]) ?_
                    refine v_goto F 13 d_M_isPlan_120 rfl ?_
                    refine v_sub [5, 6, 1, 2, 3, 0] (ls' := [(0, .ref (u.2.1 63)), (2, .int (nI W)), (3, .int (nI (code / (n + 1) ^ j / (n + 1)))), (4, .int (nI ((usN (n + 1) code j) ||| (2 ^ w)))), (5, .int 1), (6, .int x34)]) rfl ?_
                    have g35 : (nI (code / (n + 1) ^ j / (n + 1))) = (nI (code / (n + 1) ^ (j + 1))) := (by first | rfl | (rw [dgN_s]; done) | (rw [us_0 (by assumption)]; done) | (rw [us_w (by assumption)]; done) | (rw [us_0 (by assumption), Nat.or_zero]; done) | exact (bI_t (gd_0 (by assumption) (by assumption))).symm | exact (bI_t (gd_w (by assumption) (by assumption) (by assumption) (by assumption))).symm | exact (bI_f (gd_f (by assumption))).symm | exact (bI_f (gd_f1 (by assumption) (by assumption))).symm | exact (bI_f (gd_f2 (by assumption) (by assumption))).symm | (subst_vars; exact idec _) | (rw [Nat.pow_zero, Nat.div_one]; done))
                    have g36 : (nI ((usN (n + 1) code j) ||| (2 ^ w))) = (nI (usN (n + 1) code (j + 1))) := (by first | rfl | (rw [dgN_s]; done) | (rw [us_0 (by assumption)]; done) | (rw [us_w (by assumption)]; done) | (rw [us_0 (by assumption), Nat.or_zero]; done) | exact (bI_t (gd_0 (by assumption) (by assumption))).symm | exact (bI_t (gd_w (by assumption) (by assumption) (by assumption) (by assumption))).symm | exact (bI_f (gd_f (by assumption))).symm | exact (bI_f (gd_f1 (by assumption) (by assumption))).symm | exact (bI_f (gd_f2 (by assumption) (by assumption))).symm | (subst_vars; exact idec _) | (rw [Nat.pow_zero, Nat.div_one]; done))
                    have g37 : 1 = (bI (gdB (n + 1) a code (j + 1) = true)) := (by first | rfl | (rw [dgN_s]; done) | (rw [us_0 (by assumption)]; done) | (rw [us_w (by assumption)]; done) | (rw [us_0 (by assumption), Nat.or_zero]; done) | exact (bI_t (gd_0 (by assumption) (by assumption))).symm | exact (bI_t (gd_w (by assumption) (by assumption) (by assumption) (by assumption))).symm | exact (bI_f (gd_f (by assumption))).symm | exact (bI_f (gd_f1 (by assumption) (by assumption))).symm | exact (bI_f (gd_f2 (by assumption) (by assumption))).symm | (subst_vars; exact idec _) | (rw [Nat.pow_zero, Nat.div_one]; done))
                    have g38 : x34 = (kI q) := (by first | rfl | (rw [dgN_s]; done) | (rw [us_0 (by assumption)]; done) | (rw [us_w (by assumption)]; done) | (rw [us_0 (by assumption), Nat.or_zero]; done) | exact (bI_t (gd_0 (by assumption) (by assumption))).symm | exact (bI_t (gd_w (by assumption) (by assumption) (by assumption) (by assumption))).symm | exact (bI_f (gd_f (by assumption))).symm | exact (bI_f (gd_f1 (by assumption) (by assumption))).symm | exact (bI_f (gd_f2 (by assumption) (by assumption))).symm | (subst_vars; exact idec _) | (rw [Nat.pow_zero, Nat.div_one]; done))
                    refine v_to (ls' := [(0, .ref (u.2.1 63)), (2, .int (nI W)), (3, .int (nI (code / (n + 1) ^ (j + 1)))), (4, .int (nI (usN (n + 1) code (j + 1)))), (5, .int (bI (gdB (n + 1) a code (j + 1) = true))), (6, .int (kI q))]) (by first | rfl | rw [g35, g36, g37, g38] | simp_all) ?_
                    exact ih (j + 1) (q) (σ12) (by omega) fσ12 (by rw [eσ12]; exact pk_s hp hj (by first | exact (pw_0 hE).symm | exact (pw_w hw).symm)) (by omega)
                  · exact absurd (nI_nn (by omega)) h94
        · exact absurd (nI_nn (by omega)) h38
set_option maxHeartbeats 4000000 in
theorem c_M_isPlan (l : Launch) (u : Un) (hA : Ap u) {σ τ : St} (fτ : fr σ τ) {n : Nat} {kd : Nat → Nat} (hb : mkOk σ n kd) {a : Nat} (ha : a < 64) (h0 : σ.1 76 0 = nI a) (code W : Nat) (hc : code ≤ 2401) (hW : W ≤ 4) : MTi l u y_M_isPlan b_M_isPlan 8 .boolean 1 [.ref (u.2.1 63), .int (nI code), .int (nI W)] τ (fun ans σ' => bI (gdB (n + 1) a code W = true) = ans ∧ fr σ σ' ∧ ∀ k, k < W → σ'.1 83 k = plN (n + 1) W code k) := by
  refine MT_of hA rfl (by decide) (Nat.le_of_ble_eq_true rfl) (fun X hl F hr => ?_)
  subst hl
  refine v_to (ls' := [(0, .ref (u.2.1 63)), (1, .int (nI code)), (2, .int (nI W))]) rfl ?_
  obtain ⟨hn, hn6, hkd, hk6⟩ := id hb
  refine v_iload_n F d_M_isPlan_0 rfl 1 rfl ?_
  refine v_istore_n (ls' := [(3, .int (nI code)), (0, .ref (u.2.1 63)), (1, .int (nI code)), (2, .int (nI W))]) F d_M_isPlan_1 rfl (by decide) rfl ?_
  refine v_iconst (v := 0) F d_M_isPlan_2 ki_0 ?_
  refine v_istore (ls' := [(4, .int 0), (3, .int (nI code)), (0, .ref (u.2.1 63)), (1, .int (nI code)), (2, .int (nI W))]) F d_M_isPlan_3 (by decide) rfl ?_
  refine v_iconst (v := 1) F d_M_isPlan_5 ki_1 ?_
  refine v_istore (ls' := [(5, .int 1), (4, .int 0), (3, .int (nI code)), (0, .ref (u.2.1 63)), (1, .int (nI code)), (2, .int (nI W))]) F d_M_isPlan_6 (by decide) rfl ?_
  refine v_iload_n F d_M_isPlan_8 rfl 5 rfl ?_
  refine v_iconst (v := 1) F d_M_isPlan_9 ki_1 ?_
  refine v_isub F d_M_isPlan_10 ?_
  refine v_ni (fun x1 ex1 => ?_)
  refine v_istore (ls' := [(6, .int x1), (5, .int 1), (4, .int 0), (3, .int (nI code)), (0, .ref (u.2.1 63)), (1, .int (nI code)), (2, .int (nI W))]) F d_M_isPlan_11 (by decide) rfl ?_
  refine v_sub [4, 6, 3, 2, 1, 0] (ls' := [(0, .ref (u.2.1 63)), (2, .int (nI W)), (3, .int (nI code)), (4, .int 0), (5, .int 1), (6, .int x1)]) rfl ?_
  have g2 : (nI code) = (nI (code / (n + 1) ^ 0)) := (by first | (rw [Nat.pow_zero, Nat.div_one]; done) | (subst_vars; rfl) | rfl)
  have g3 : 0 = (nI (usN (n + 1) code 0)) := (by first | (rw [Nat.pow_zero, Nat.div_one]; done) | (subst_vars; rfl) | rfl)
  have g4 : 1 = (bI (gdB (n + 1) a code 0 = true)) := (by first | (rw [Nat.pow_zero, Nat.div_one]; done) | (subst_vars; rfl) | rfl)
  have g5 : x1 = (kI W) := (by first | (rw [Nat.pow_zero, Nat.div_one]; done) | (subst_vars; rfl) | rfl)
  refine v_to (ls' := [(0, .ref (u.2.1 63)), (2, .int (nI W)), (3, .int (nI (code / (n + 1) ^ 0))), (4, .int (nI (usN (n + 1) code 0))), (5, .int (bI (gdB (n + 1) a code 0 = true))), (6, .int (kI W))]) (by first | rfl | rw [g2, g3, g4, g5] | simp_all) ?_
  refine L_M_isPlan_13 hA F hb ha h0 hc hW (fun j m τ2 ej fτ2 hp => ?_) _ 0 W τ (Nat.zero_add _) fτ (fun i hi => absurd hi (Nat.not_lt_zero _)) (Nat.lt_succ_self _)
  subst ej
  refine v_iload F d_M_isPlan_123 0 rfl ?_
  refine v_iret F hr bI_nar d_M_isPlan_125 ?_
  exact ⟨rfl, fτ2, pk_pl hp⟩
abbrev b_M_goes : ByteArray := prog_14_method_68_code
abbrev y_M_goes : MethodName := ⟨"TakerBookModel", "goes", "(I)I"⟩
theorem d_M_goes_0 : decode b_M_goes 0 = .ok (.aload_n 0, 1) := by decide +kernel
theorem d_M_goes_1 : decode b_M_goes 1 = .ok (.invokevirtual 215, 3) := by decide +kernel
theorem d_M_goes_4 : decode b_M_goes 4 = .ok (.aload_n 0, 1) := by decide +kernel
theorem d_M_goes_5 : decode b_M_goes 5 = .ok (.bipush (-9), 2) := by decide +kernel
theorem d_M_goes_7 : decode b_M_goes 7 = .ok (.putfield 236, 3) := by decide +kernel
theorem d_M_goes_10 : decode b_M_goes 10 = .ok (.iconst 0, 1) := by decide +kernel
theorem d_M_goes_11 : decode b_M_goes 11 = .ok (.istore_n 2, 1) := by decide +kernel
theorem d_M_goes_12 : decode b_M_goes 12 = .ok (.iload_n 2, 1) := by decide +kernel
theorem d_M_goes_13 : decode b_M_goes 13 = .ok (.iload_n 1, 1) := by decide +kernel
theorem d_M_goes_14 : decode b_M_goes 14 = .ok (.if_icmp .ge 98, 3) := by decide +kernel
theorem d_M_goes_17 : decode b_M_goes 17 = .ok (.aload_n 0, 1) := by decide +kernel
theorem d_M_goes_18 : decode b_M_goes 18 = .ok (.getfield 236, 3) := by decide +kernel
theorem d_M_goes_21 : decode b_M_goes 21 = .ok (.bipush (-9), 2) := by decide +kernel
theorem d_M_goes_23 : decode b_M_goes 23 = .ok (.if_icmp .ne 89, 3) := by decide +kernel
theorem d_M_goes_26 : decode b_M_goes 26 = .ok (.aload_n 0, 1) := by decide +kernel
theorem d_M_goes_27 : decode b_M_goes 27 = .ok (.getfield 73, 3) := by decide +kernel
theorem d_M_goes_30 : decode b_M_goes 30 = .ok (.iload_n 2, 1) := by decide +kernel
theorem d_M_goes_31 : decode b_M_goes 31 = .ok (.iaload, 1) := by decide +kernel
theorem d_M_goes_32 : decode b_M_goes 32 = .ok (.bipush (-9), 2) := by decide +kernel
theorem d_M_goes_34 : decode b_M_goes 34 = .ok (.if_icmp .eq 17, 3) := by decide +kernel
theorem d_M_goes_37 : decode b_M_goes 37 = .ok (.aload_n 0, 1) := by decide +kernel
theorem d_M_goes_38 : decode b_M_goes 38 = .ok (.aload_n 0, 1) := by decide +kernel
theorem d_M_goes_39 : decode b_M_goes 39 = .ok (.getfield 54, 3) := by decide +kernel
theorem d_M_goes_42 : decode b_M_goes 42 = .ok (.aload_n 0, 1) := by decide +kernel
theorem d_M_goes_43 : decode b_M_goes 43 = .ok (.getfield 73, 3) := by decide +kernel
theorem d_M_goes_46 : decode b_M_goes 46 = .ok (.iload_n 2, 1) := by decide +kernel
theorem d_M_goes_47 : decode b_M_goes 47 = .ok (.iaload, 1) := by decide +kernel
theorem d_M_goes_48 : decode b_M_goes 48 = .ok (.invokevirtual 211, 3) := by decide +kernel
theorem d_M_goes_51 : decode b_M_goes 51 = .ok (.aload_n 0, 1) := by decide +kernel
theorem d_M_goes_52 : decode b_M_goes 52 = .ok (.aload_n 0, 1) := by decide +kernel
theorem d_M_goes_53 : decode b_M_goes 53 = .ok (.getfield 54, 3) := by decide +kernel
theorem d_M_goes_56 : decode b_M_goes 56 = .ok (.invokevirtual 204, 3) := by decide +kernel
theorem d_M_goes_59 : decode b_M_goes 59 = .ok (.aload_n 0, 1) := by decide +kernel
theorem d_M_goes_60 : decode b_M_goes 60 = .ok (.getfield 54, 3) := by decide +kernel
theorem d_M_goes_63 : decode b_M_goes 63 = .ok (.iconst 4, 1) := by decide +kernel
theorem d_M_goes_64 : decode b_M_goes 64 = .ok (.iaload, 1) := by decide +kernel
theorem d_M_goes_65 : decode b_M_goes 65 = .ok (.iconst 1, 1) := by decide +kernel
theorem d_M_goes_66 : decode b_M_goes 66 = .ok (.if_icmp .ne 11, 3) := by decide +kernel
theorem d_M_goes_69 : decode b_M_goes 69 = .ok (.aload_n 0, 1) := by decide +kernel
theorem d_M_goes_70 : decode b_M_goes 70 = .ok (.iload_n 2, 1) := by decide +kernel
theorem d_M_goes_71 : decode b_M_goes 71 = .ok (.putfield 236, 3) := by decide +kernel
theorem d_M_goes_74 : decode b_M_goes 74 = .ok (.goto 32, 3) := by decide +kernel
theorem d_M_goes_77 : decode b_M_goes 77 = .ok (.aload_n 0, 1) := by decide +kernel
theorem d_M_goes_78 : decode b_M_goes 78 = .ok (.getfield 54, 3) := by decide +kernel
theorem d_M_goes_81 : decode b_M_goes 81 = .ok (.iconst 1, 1) := by decide +kernel
theorem d_M_goes_82 : decode b_M_goes 82 = .ok (.dup2, 1) := by decide +kernel
theorem d_M_goes_83 : decode b_M_goes 83 = .ok (.iaload, 1) := by decide +kernel
theorem d_M_goes_84 : decode b_M_goes 84 = .ok (.aload_n 0, 1) := by decide +kernel
theorem d_M_goes_85 : decode b_M_goes 85 = .ok (.getfield 54, 3) := by decide +kernel
theorem d_M_goes_88 : decode b_M_goes 88 = .ok (.iconst 2, 1) := by decide +kernel
theorem d_M_goes_89 : decode b_M_goes 89 = .ok (.iaload, 1) := by decide +kernel
theorem d_M_goes_90 : decode b_M_goes 90 = .ok (.aload_n 0, 1) := by decide +kernel
theorem d_M_goes_91 : decode b_M_goes 91 = .ok (.getfield 33, 3) := by decide +kernel
theorem d_M_goes_94 : decode b_M_goes 94 = .ok (.iconst 1, 1) := by decide +kernel
theorem d_M_goes_95 : decode b_M_goes 95 = .ok (.iaload, 1) := by decide +kernel
theorem d_M_goes_96 : decode b_M_goes 96 = .ok (.imul, 1) := by decide +kernel
theorem d_M_goes_97 : decode b_M_goes 97 = .ok (.iadd, 1) := by decide +kernel
theorem d_M_goes_98 : decode b_M_goes 98 = .ok (.iastore, 1) := by decide +kernel
theorem d_M_goes_99 : decode b_M_goes 99 = .ok (.aload_n 0, 1) := by decide +kernel
theorem d_M_goes_100 : decode b_M_goes 100 = .ok (.getfield 54, 3) := by decide +kernel
theorem d_M_goes_103 : decode b_M_goes 103 = .ok (.iconst 2, 1) := by decide +kernel
theorem d_M_goes_104 : decode b_M_goes 104 = .ok (.iconst 0, 1) := by decide +kernel
theorem d_M_goes_105 : decode b_M_goes 105 = .ok (.iastore, 1) := by decide +kernel
theorem d_M_goes_106 : decode b_M_goes 106 = .ok (.iinc 2 1, 3) := by decide +kernel
theorem d_M_goes_109 : decode b_M_goes 109 = .ok (.goto (-97), 3) := by decide +kernel
theorem d_M_goes_112 : decode b_M_goes 112 = .ok (.aload_n 0, 1) := by decide +kernel
theorem d_M_goes_113 : decode b_M_goes 113 = .ok (.getfield 54, 3) := by decide +kernel
theorem d_M_goes_116 : decode b_M_goes 116 = .ok (.iconst 1, 1) := by decide +kernel
theorem d_M_goes_117 : decode b_M_goes 117 = .ok (.iaload, 1) := by decide +kernel
theorem d_M_goes_118 : decode b_M_goes 118 = .ok (.aload_n 0, 1) := by decide +kernel
theorem d_M_goes_119 : decode b_M_goes 119 = .ok (.getfield 51, 3) := by decide +kernel
theorem d_M_goes_122 : decode b_M_goes 122 = .ok (.iconst 1, 1) := by decide +kernel
theorem d_M_goes_123 : decode b_M_goes 123 = .ok (.iaload, 1) := by decide +kernel
theorem d_M_goes_124 : decode b_M_goes 124 = .ok (.isub, 1) := by decide +kernel
theorem d_M_goes_125 : decode b_M_goes 125 = .ok (.ireturn, 1) := by decide +kernel
theorem mo_M_goes : mok y_M_goes b_M_goes 3 (some .int) 1 := ⟨List.mem_of_getElem? (i := 1369) (by decide +kernel), ⟨by decide +kernel, by decide +kernel, by decide +kernel⟩, List.mem_of_getElem? (i := 86) (by decide +kernel), by decide⟩
set_option maxHeartbeats 4000000 in
theorem L_M_goes_12 {X : FX} {u : Un} (hA : Ap u) {Q : State → Prop} (F : Fr X u "TakerBookModel" b_M_goes 3) {σ : St} {n : Nat} {kd : Nat → Nat} (hb : mkOk σ n kd) {a : Nat} (ha : a < 64) (h0 : σ.1 76 0 = nI a) {W : Nat} {pl : Nat → Int32} (hW : W ≤ 4) (hpl : ∀ k, k < W → pl k = -9 ∨ ∃ w, w < n ∧ pl k = nI w) (k0 : ∀ (k : Nat) (τ : St), fr σ τ → gzOk σ n W pl (gzS σ kd n a pl W) τ → V X u 6 3 Q 112 [(0, .ref (u.2.1 63))] [] (τ)) : ∀ (nn : Nat) (k : Nat) (τ : St), k ≤ W → fr σ τ → gzOk σ n W pl (gzS σ kd n a pl k) τ → W - k < nn → V X u 6 3 Q 12 [(0, .ref (u.2.1 63)), (1, .int (nI W)), (2, .int (nI k))] [] (τ) := by
  intro nn
  induction nn with
  | zero =>
    intro k τ hk fτ hz h2
    exact absurd h2 (Nat.not_lt_zero _)
  | succ nn ih =>
    intro k τ hk fτ hz hm
    obtain ⟨hn, hn6, hkd, hk6⟩ := id hb
    have hz64 := gz_64 (σ := σ) (kd := kd) (n := n) (pl := pl) ha k
    refine v_iload_n F d_M_goes_12 rfl 2 rfl ?_
    refine v_iload_n F d_M_goes_13 rfl 1 rfl ?_
    refine v_icmp_ge F 112 d_M_goes_14 rfl (fun h14 => ?_) (fun h14 => ?_)
    · skip
      have h14 : W ≤ k := (nI_leI (a := W) (b := k) (by omega) (by omega)).mp h14
      refine v_sub [0] (ls' := [(0, .ref (u.2.1 63))]) rfl ?_
      exact k0 k τ fτ (by first | (have e : k = W := (by omega); subst e; exact hz) | (obtain ⟨d, rfl⟩ : ∃ d, W = k + d := ⟨W - k, by omega⟩; rw [gz_stop (fun q => h23 ((gz_9 (by omega)).mpr q)) d]; exact hz))
    · skip
      have h14 : ¬ W ≤ k := fun q => h14 ((nI_leI (a := W) (b := k) (by omega) (by omega)).mpr q)
      refine v_aload_n F d_M_goes_17 rfl 0 rfl ?_
      refine v_geti F fk_M_236 G63 rfl d_M_goes_18 ?_
      refine v_te (y := oI (gzS σ kd n a pl k).t) hz.2.2.2.2.1 ?_
      refine v_bipush (v := (-9)) F d_M_goes_21 kb_m9 ?_
      refine v_icmp_ne F 112 d_M_goes_23 rfl (fun h23 => ?_) (fun h23 => ?_)
      · skip
        refine v_sub [0] (ls' := [(0, .ref (u.2.1 63))]) rfl ?_
        exact k0 k τ fτ (by first | (have e : k = W := (by omega); subst e; exact hz) | (obtain ⟨d, rfl⟩ : ∃ d, W = k + d := ⟨W - k, by omega⟩; rw [gz_stop (fun q => h23 ((gz_9 (by omega)).mpr q)) d]; exact hz))
      · skip
        have ht0 := (gz_9 (by omega)).mp h23
        refine v_aload_n F d_M_goes_26 rfl 0 rfl ?_
        refine v_getr (r := 83) F fk_M_73 G63 rfl d_M_goes_27 ?_
        refine v_iload_n F d_M_goes_30 rfl 2 rfl ?_
        refine v_ial F k G83 rfl (by omega) d_M_goes_31 ?_
        refine v_te (y := pl k) (hz.2.2.2.2.2 _ (by omega)) ?_
        refine v_bipush (v := (-9)) F d_M_goes_32 kb_m9 ?_
        refine v_icmp_eq F 51 d_M_goes_34 rfl (fun h34 => ?_) (fun h34 => ?_)
        · skip
          have hg : gzOk σ n W pl (gvZ σ kd pl k (gzS σ kd n a pl k)) τ := gv_0 hz h34
          refine v_aload_n F d_M_goes_51 rfl 0 rfl ?_
          refine v_aload_n F d_M_goes_52 rfl 0 rfl ?_
          refine v_getr (r := 77) F fk_M_54 G63 rfl d_M_goes_53 ?_
          refine v_runv (r_V F (c_M_passes X.2.1 u hA τ (fτ.mk hb) (kO := 77) (Or.inr rfl) (gN_64 hz64) hg.1) mo_M_passes st_M_204 rc_63 (by decide) rfl (Nat.le_of_ble_eq_true rfl) d_M_goes_56) (fun σ2 q3 => ?_)
          have eσ2 := q3
          have fσ2 : fr σ σ2 := by rw [eσ2]; exact ((fτ.u rfl).u rfl).u rfl
          have hy0 := pa_ok (kd := kd) fτ hg
          have hy : gzOk σ n W pl (paZ σ kd n (gvZ σ kd pl k (gzS σ kd n a pl k))) σ2 := by rw [eσ2]; exact hy0.1
          have hy4 : σ2.1 77 4 = bI (trX σ kd n (nwC σ) (gN pl k (gzS σ kd n a pl k).L)) := by rw [eσ2]; exact hy0.2
          refine v_aload_n F d_M_goes_59 rfl 0 rfl ?_
          refine v_getr (r := 77) F fk_M_54 G63 rfl d_M_goes_60 ?_
          refine v_iconst (v := 4) F d_M_goes_63 ki_4 ?_
          refine v_ial F 4 G77 rfl (by omega) d_M_goes_64 ?_
          refine v_te (y := bI (trX σ kd n (nwC σ) (gN pl k (gzS σ kd n a pl k).L))) hy4 ?_
          refine v_iconst (v := 1) F d_M_goes_65 ki_1 ?_
          refine v_icmp_ne F 77 d_M_goes_66 rfl (fun h66 => ?_) (fun h66 => ?_)
          · skip
            have htr : ¬ trX σ kd n (nwC σ) (gN pl k (gzS σ kd n a pl k).L) := fun q => h66 (bI_t q)
            refine v_aload_n F d_M_goes_77 rfl 0 rfl ?_
            refine v_getr (r := 77) F fk_M_54 G63 rfl d_M_goes_78 ?_
            refine v_iconst (v := 1) F d_M_goes_81 ki_1 ?_
            refine v_dup2_11 F d_M_goes_82 rfl rfl ?_
            refine v_ial F 1 G77 rfl (by omega) d_M_goes_83 ?_
            refine v_te (y := (paZ σ kd n (gvZ σ kd pl k (gzS σ kd n a pl k))).m) hy.2.1 ?_
            refine v_aload_n F d_M_goes_84 rfl 0 rfl ?_
            refine v_getr (r := 77) F fk_M_54 G63 rfl d_M_goes_85 ?_
            refine v_iconst (v := 2) F d_M_goes_88 ki_2 ?_
            refine v_ial F 2 G77 rfl (by omega) d_M_goes_89 ?_
            refine v_te (y := (paZ σ kd n (gvZ σ kd pl k (gzS σ kd n a pl k))).s) hy.2.2.1 ?_
            refine v_aload_n F d_M_goes_90 rfl 0 rfl ?_
            refine v_getr (r := 70) F fk_M_33 G63 rfl d_M_goes_91 ?_
            refine v_iconst (v := 1) F d_M_goes_94 ki_1 ?_
            refine v_ial F 1 G70 rfl (by omega) d_M_goes_95 ?_
            refine v_te (y := σ.1 70 1) (fσ2.1 70 1 rfl) ?_
            refine v_imul F d_M_goes_96 ?_
            refine v_iadd F d_M_goes_97 ?_
            refine v_ias F 1 G77 rfl (by omega) d_M_goes_98 ?_
            refine v_ns (fun σ4 eσ4 => ?_)
            have fσ4 : fr σ σ4 := by rw [eσ4]; exact fσ2.u rfl
            refine v_aload_n F d_M_goes_99 rfl 0 rfl ?_
            refine v_getr (r := 77) F fk_M_54 G63 rfl d_M_goes_100 ?_
            refine v_iconst (v := 2) F d_M_goes_103 ki_2 ?_
            refine v_iconst (v := 0) F d_M_goes_104 ki_0 ?_
            refine v_ias F 2 G77 rfl (by omega) d_M_goes_105 ?_
            refine v_ns (fun σ5 eσ5 => ?_)
            have fσ5 : fr σ σ5 := by rw [eσ5]; exact fσ4.u rfl
            refine v_iinc (v := nI (k + 1)) (ls' := [(2, .int (nI (k + 1))), (0, .ref (u.2.1 63)), (1, .int (nI W))]) F d_M_goes_106 (j := 2) rfl (nI_inc _) (by decide) rfl ?_
            refine v_goto F 12 d_M_goes_109 rfl ?_
            refine v_sub [1, 2, 0] (ls' := [(0, .ref (u.2.1 63)), (1, .int (nI W)), (2, .int (nI (k + 1)))]) rfl ?_
            exact ih (k + 1) (σ5) (by omega) fσ5 (by first | (rw [gz_n ht0 htr, eσ5]; exact gz_k1 hy) | (rw [gz_y ht0 htr]; subst_vars; exact gz_k2 (o := none) (by have hy1 := hy; unfold gzOk at hy1 ⊢; simp only [paZ, gvZ] at hy1 ⊢; rw [← ht0]; exact hy1))) (by omega)
          · skip
            have htr := bI_1.mp h66
            refine v_aload_n F d_M_goes_69 rfl 0 rfl ?_
            refine v_iload_n F d_M_goes_70 rfl 2 rfl ?_
            refine v_puti F fk_M_236 pk_M_trialIn G63 rfl d_M_goes_71 ?_
            refine v_ns (fun σ6 eσ6 => ?_)
            have fσ6 : fr σ σ6 := by rw [eσ6]; exact fσ2.u rfl
            refine v_goto F 106 d_M_goes_74 rfl ?_
            refine v_iinc (v := nI (k + 1)) (ls' := [(2, .int (nI (k + 1))), (0, .ref (u.2.1 63)), (1, .int (nI W))]) F d_M_goes_106 (j := 2) rfl (nI_inc _) (by decide) rfl ?_
            refine v_goto F 12 d_M_goes_109 rfl ?_
            refine v_sub [1, 2, 0] (ls' := [(0, .ref (u.2.1 63)), (1, .int (nI W)), (2, .int (nI (k + 1)))]) rfl ?_
            exact ih (k + 1) (σ6) (by omega) fσ6 (by first | (rw [gz_n ht0 htr, eσ6]; exact gz_k1 hy) | (rw [gz_y ht0 htr]; subst_vars; exact gz_k2 (o := none) (by have hy1 := hy; unfold gzOk at hy1 ⊢; simp only [paZ, gvZ] at hy1 ⊢; rw [← ht0]; exact hy1))) (by omega)
        · skip
          obtain ⟨w, hw, ew⟩ := (hpl k (by omega)).resolve_left h34
          refine v_aload_n F d_M_goes_37 rfl 0 rfl ?_
          refine v_aload_n F d_M_goes_38 rfl 0 rfl ?_
          refine v_getr (r := 77) F fk_M_54 G63 rfl d_M_goes_39 ?_
          refine v_aload_n F d_M_goes_42 rfl 0 rfl ?_
          refine v_getr (r := 83) F fk_M_73 G63 rfl d_M_goes_43 ?_
          refine v_iload_n F d_M_goes_46 rfl 2 rfl ?_
          refine v_ial F k G83 rfl (by omega) d_M_goes_47 ?_
          refine v_te (y := nI w) ((hz.2.2.2.2.2 _ (by omega)).trans ew) ?_
          refine v_runv (r_V F (c_M_givesUp X.2.1 u hA τ (fτ.mk hb) (kO := 77) (Or.inr rfl) hz64 hz.1 w (by omega)) mo_M_givesUp st_M_211 rc_63 (by decide) rfl (Nat.le_of_ble_eq_true rfl) d_M_goes_48) (fun σ8 q9 => ?_)
          have eσ8 := q9
          have fσ8 : fr σ σ8 := by rw [eσ8]; exact (fτ.u rfl).u rfl
          have hg : gzOk σ n W pl (gvZ σ kd pl k (gzS σ kd n a pl k)) σ8 := by rw [eσ8]; exact gv_w fτ hz h34 ew hw hn6
          refine v_aload_n F d_M_goes_51 rfl 0 rfl ?_
          refine v_aload_n F d_M_goes_52 rfl 0 rfl ?_
          refine v_getr (r := 77) F fk_M_54 G63 rfl d_M_goes_53 ?_
          refine v_runv (r_V F (c_M_passes X.2.1 u hA σ8 (fσ8.mk hb) (kO := 77) (Or.inr rfl) (gN_64 hz64) hg.1) mo_M_passes st_M_204 rc_63 (by decide) rfl (Nat.le_of_ble_eq_true rfl) d_M_goes_56) (fun σ11 q12 => ?_)
          have eσ11 := q12
          have fσ11 : fr σ σ11 := by rw [eσ11]; exact ((fσ8.u rfl).u rfl).u rfl
          have hy0 := pa_ok (kd := kd) fσ8 hg
          have hy : gzOk σ n W pl (paZ σ kd n (gvZ σ kd pl k (gzS σ kd n a pl k))) σ11 := by rw [eσ11]; exact hy0.1
          have hy4 : σ11.1 77 4 = bI (trX σ kd n (nwC σ) (gN pl k (gzS σ kd n a pl k).L)) := by rw [eσ11]; exact hy0.2
          refine v_aload_n F d_M_goes_59 rfl 0 rfl ?_
          refine v_getr (r := 77) F fk_M_54 G63 rfl d_M_goes_60 ?_
          refine v_iconst (v := 4) F d_M_goes_63 ki_4 ?_
          refine v_ial F 4 G77 rfl (by omega) d_M_goes_64 ?_
          refine v_te (y := bI (trX σ kd n (nwC σ) (gN pl k (gzS σ kd n a pl k).L))) hy4 ?_
          refine v_iconst (v := 1) F d_M_goes_65 ki_1 ?_
          refine v_icmp_ne F 77 d_M_goes_66 rfl (fun h66 => ?_) (fun h66 => ?_)
          · skip
            have htr : ¬ trX σ kd n (nwC σ) (gN pl k (gzS σ kd n a pl k).L) := fun q => h66 (bI_t q)
            refine v_aload_n F d_M_goes_77 rfl 0 rfl ?_
            refine v_getr (r := 77) F fk_M_54 G63 rfl d_M_goes_78 ?_
            refine v_iconst (v := 1) F d_M_goes_81 ki_1 ?_
            refine v_dup2_11 F d_M_goes_82 rfl rfl ?_
            refine v_ial F 1 G77 rfl (by omega) d_M_goes_83 ?_
            refine v_te (y := (paZ σ kd n (gvZ σ kd pl k (gzS σ kd n a pl k))).m) hy.2.1 ?_
            refine v_aload_n F d_M_goes_84 rfl 0 rfl ?_
            refine v_getr (r := 77) F fk_M_54 G63 rfl d_M_goes_85 ?_
            refine v_iconst (v := 2) F d_M_goes_88 ki_2 ?_
            refine v_ial F 2 G77 rfl (by omega) d_M_goes_89 ?_
            refine v_te (y := (paZ σ kd n (gvZ σ kd pl k (gzS σ kd n a pl k))).s) hy.2.2.1 ?_
            refine v_aload_n F d_M_goes_90 rfl 0 rfl ?_
            refine v_getr (r := 70) F fk_M_33 G63 rfl d_M_goes_91 ?_
            refine v_iconst (v := 1) F d_M_goes_94 ki_1 ?_
            refine v_ial F 1 G70 rfl (by omega) d_M_goes_95 ?_
            refine v_te (y := σ.1 70 1) (fσ11.1 70 1 rfl) ?_
            refine v_imul F d_M_goes_96 ?_
            refine v_iadd F d_M_goes_97 ?_
            refine v_ias F 1 G77 rfl (by omega) d_M_goes_98 ?_
            refine v_ns (fun σ13 eσ13 => ?_)
            have fσ13 : fr σ σ13 := by rw [eσ13]; exact fσ11.u rfl
            refine v_aload_n F d_M_goes_99 rfl 0 rfl ?_
            refine v_getr (r := 77) F fk_M_54 G63 rfl d_M_goes_100 ?_
            refine v_iconst (v := 2) F d_M_goes_103 ki_2 ?_
            refine v_iconst (v := 0) F d_M_goes_104 ki_0 ?_
            refine v_ias F 2 G77 rfl (by omega) d_M_goes_105 ?_
            refine v_ns (fun σ14 eσ14 => ?_)
            have fσ14 : fr σ σ14 := by rw [eσ14]; exact fσ13.u rfl
            refine v_iinc (v := nI (k + 1)) (ls' := [(2, .int (nI (k + 1))), (0, .ref (u.2.1 63)), (1, .int (nI W))]) F d_M_goes_106 (j := 2) rfl (nI_inc _) (by decide) rfl ?_
            refine v_goto F 12 d_M_goes_109 rfl ?_
            refine v_sub [1, 2, 0] (ls' := [(0, .ref (u.2.1 63)), (1, .int (nI W)), (2, .int (nI (k + 1)))]) rfl ?_
            exact ih (k + 1) (σ14) (by omega) fσ14 (by first | (rw [gz_n ht0 htr, eσ14]; exact gz_k1 hy) | (rw [gz_y ht0 htr]; subst_vars; exact gz_k2 (o := none) (by have hy1 := hy; unfold gzOk at hy1 ⊢; simp only [paZ, gvZ] at hy1 ⊢; rw [← ht0]; exact hy1))) (by omega)
          · skip
            have htr := bI_1.mp h66
            refine v_aload_n F d_M_goes_69 rfl 0 rfl ?_
            refine v_iload_n F d_M_goes_70 rfl 2 rfl ?_
            refine v_puti F fk_M_236 pk_M_trialIn G63 rfl d_M_goes_71 ?_
            refine v_ns (fun σ15 eσ15 => ?_)
            have fσ15 : fr σ σ15 := by rw [eσ15]; exact fσ11.u rfl
            refine v_goto F 106 d_M_goes_74 rfl ?_
            refine v_iinc (v := nI (k + 1)) (ls' := [(2, .int (nI (k + 1))), (0, .ref (u.2.1 63)), (1, .int (nI W))]) F d_M_goes_106 (j := 2) rfl (nI_inc _) (by decide) rfl ?_
            refine v_goto F 12 d_M_goes_109 rfl ?_
            refine v_sub [1, 2, 0] (ls' := [(0, .ref (u.2.1 63)), (1, .int (nI W)), (2, .int (nI (k + 1)))]) rfl ?_
            exact ih (k + 1) (σ15) (by omega) fσ15 (by first | (rw [gz_n ht0 htr, eσ15]; exact gz_k1 hy) | (rw [gz_y ht0 htr]; subst_vars; exact gz_k2 (o := none) (by have hy1 := hy; unfold gzOk at hy1 ⊢; simp only [paZ, gvZ] at hy1 ⊢; rw [← ht0]; exact hy1))) (by omega)
set_option maxHeartbeats 4000000 in
theorem c_M_goes (l : Launch) (u : Un) (hA : Ap u) {σ τ : St} (fτ : fr σ τ) {n : Nat} {kd : Nat → Nat} (hb : mkOk σ n kd) {a : Nat} (ha : a < 64) (h0 : σ.1 76 0 = nI a) {W : Nat} {pl : Nat → Int32} (hW : W ≤ 4) (hpl : ∀ k, k < W → pl k = -9 ∨ ∃ w, w < n ∧ pl k = nI w) (hp : ∀ k, k < W → τ.1 83 k = pl k) : MTi l u y_M_goes b_M_goes 3 .int 6 [.ref (u.2.1 63), .int (nI W)] τ (fun ans σ' => (gzS σ kd n a pl W).m - σ.1 76 1 = ans ∧ fr σ σ' ∧ σ'.1 63 29 = oI (gzS σ kd n a pl W).t ∧ σ'.1 77 0 = nI (gzS σ kd n a pl W).L) := by
  refine MT_of hA rfl (by decide) (Nat.le_of_ble_eq_true rfl) (fun X hl F hr => ?_)
  subst hl
  refine v_to (ls' := [(0, .ref (u.2.1 63)), (1, .int (nI W))]) rfl ?_
  obtain ⟨hn, hn6, hkd, hk6⟩ := id hb
  refine v_aload_n F d_M_goes_0 rfl 0 rfl ?_
  refine v_runv (r_V F (c_M_copyNow X.2.1 u hA τ) mo_M_copyNow st_M_215 rc_63 (by decide) rfl (Nat.le_of_ble_eq_true rfl) d_M_goes_1) (fun σ2 q3 => ?_)
  have eσ2 := q3
  have fσ2 : fr σ σ2 := by rw [eσ2]; exact fτ.c (fun _ => rfl) _
  refine v_aload_n F d_M_goes_4 rfl 0 rfl ?_
  refine v_bipush (v := (-9)) F d_M_goes_5 kb_m9 ?_
  refine v_puti F fk_M_236 pk_M_trialIn G63 rfl d_M_goes_7 ?_
  refine v_ns (fun σ4 eσ4 => ?_)
  have fσ4 : fr σ σ4 := by rw [eσ4]; exact fσ2.u rfl
  refine v_iconst (v := 0) F d_M_goes_10 ki_0 ?_
  refine v_istore_n (ls' := [(2, .int 0), (0, .ref (u.2.1 63)), (1, .int (nI W))]) F d_M_goes_11 rfl (by decide) rfl ?_
  refine v_sub [1, 2, 0] (ls' := [(0, .ref (u.2.1 63)), (1, .int (nI W)), (2, .int 0)]) rfl ?_
  have g5 : 0 = (nI 0) := (by first | rfl | (simp_all; done) | grind)
  refine v_to (ls' := [(0, .ref (u.2.1 63)), (1, .int (nI W)), (2, .int (nI 0))]) (by first | rfl | rw [g5] | simp_all) ?_
  refine L_M_goes_12 hA F hb ha h0 hW hpl (fun k τ2 fτ2 hz => ?_) _ 0 σ4 (Nat.zero_le _) fσ4 (by subst_vars; exact gz_0 fτ hn6 h0 hp) (Nat.lt_succ_self _)
  refine v_aload_n F d_M_goes_112 rfl 0 rfl ?_
  refine v_getr (r := 77) F fk_M_54 G63 rfl d_M_goes_113 ?_
  refine v_iconst (v := 1) F d_M_goes_116 ki_1 ?_
  refine v_ial F 1 G77 rfl (by omega) d_M_goes_117 ?_
  refine v_te (y := (gzS σ kd n a pl W).m) hz.2.1 ?_
  refine v_aload_n F d_M_goes_118 rfl 0 rfl ?_
  refine v_getr (r := 76) F fk_M_51 G63 rfl d_M_goes_119 ?_
  refine v_iconst (v := 1) F d_M_goes_122 ki_1 ?_
  refine v_ial F 1 G76 rfl (by omega) d_M_goes_123 ?_
  refine v_te (y := σ.1 76 1) (fτ2.1 76 1 rfl) ?_
  refine v_isub F d_M_goes_124 ?_
  refine v_iret F hr rfl d_M_goes_125 ?_
  exact ⟨rfl, fτ2, hz.2.2.2.2.1, hz.1⟩
abbrev b_M_planCodes : ByteArray := prog_14_method_69_code
abbrev y_M_planCodes : MethodName := ⟨"TakerBookModel", "planCodes", "(I)I"⟩
theorem d_M_planCodes_0 : decode b_M_planCodes 0 = .ok (.iconst 1, 1) := by decide +kernel
theorem d_M_planCodes_1 : decode b_M_planCodes 1 = .ok (.istore_n 2, 1) := by decide +kernel
theorem d_M_planCodes_2 : decode b_M_planCodes 2 = .ok (.iconst 0, 1) := by decide +kernel
theorem d_M_planCodes_3 : decode b_M_planCodes 3 = .ok (.istore_n 3, 1) := by decide +kernel
theorem d_M_planCodes_4 : decode b_M_planCodes 4 = .ok (.iload_n 3, 1) := by decide +kernel
theorem d_M_planCodes_5 : decode b_M_planCodes 5 = .ok (.iload_n 1, 1) := by decide +kernel
theorem d_M_planCodes_6 : decode b_M_planCodes 6 = .ok (.if_icmp .ge 18, 3) := by decide +kernel
theorem d_M_planCodes_9 : decode b_M_planCodes 9 = .ok (.iload_n 2, 1) := by decide +kernel
theorem d_M_planCodes_10 : decode b_M_planCodes 10 = .ok (.aload_n 0, 1) := by decide +kernel
theorem d_M_planCodes_11 : decode b_M_planCodes 11 = .ok (.getfield 146, 3) := by decide +kernel
theorem d_M_planCodes_14 : decode b_M_planCodes 14 = .ok (.iconst 1, 1) := by decide +kernel
theorem d_M_planCodes_15 : decode b_M_planCodes 15 = .ok (.iadd, 1) := by decide +kernel
theorem d_M_planCodes_16 : decode b_M_planCodes 16 = .ok (.imul, 1) := by decide +kernel
theorem d_M_planCodes_17 : decode b_M_planCodes 17 = .ok (.istore_n 2, 1) := by decide +kernel
theorem d_M_planCodes_18 : decode b_M_planCodes 18 = .ok (.iinc 3 1, 3) := by decide +kernel
theorem d_M_planCodes_21 : decode b_M_planCodes 21 = .ok (.goto (-17), 3) := by decide +kernel
theorem d_M_planCodes_24 : decode b_M_planCodes 24 = .ok (.iload_n 2, 1) := by decide +kernel
theorem d_M_planCodes_25 : decode b_M_planCodes 25 = .ok (.ireturn, 1) := by decide +kernel
theorem mo_M_planCodes : mok y_M_planCodes b_M_planCodes 4 (some .int) 1 := ⟨List.mem_of_getElem? (i := 1361) (by decide +kernel), ⟨by decide +kernel, by decide +kernel, by decide +kernel⟩, List.mem_of_getElem? (i := 86) (by decide +kernel), by decide⟩
set_option maxHeartbeats 4000000 in
theorem L_M_planCodes_4 {X : FX} {u : Un} (hA : Ap u) {Q : State → Prop} (F : Fr X u "TakerBookModel" b_M_planCodes 4) {σ : St} {n : Nat} {kd : Nat → Nat} (hb : mkOk σ n kd) {τ : St} (fτ : fr σ τ) {W : Nat} (hW : W ≤ 4) (k : V X u 0 4 Q 24 [(0, .ref (u.2.1 63)), (1, .int (nI W)), (2, .int (nI ((n + 1) ^ W))), (3, .int (nI W))] [] (τ)) : ∀ (nn i : Nat), i ≤ W → W - i < nn → V X u 0 4 Q 4 [(0, .ref (u.2.1 63)), (1, .int (nI W)), (2, .int (nI ((n + 1) ^ i))), (3, .int (nI i))] [] (τ) := by
  intro nn
  induction nn with
  | zero =>
    intro i h1 h2
    exact absurd h2 (Nat.not_lt_zero _)
  | succ nn ih =>
    intro i hii hnn
    obtain ⟨hn, hn6, hkd, hk6⟩ := id hb
    refine v_iload_n F d_M_planCodes_4 rfl 3 rfl ?_
    refine v_iload_n F d_M_planCodes_5 rfl 1 rfl ?_
    refine v_icmp_ge F 24 d_M_planCodes_6 rfl (fun h6 => ?_) (fun h6 => ?_)
    · skip
      have h6 : W ≤ i := (nI_leI (a := W) (b := i) (by omega) (by omega)).mp h6
      have he : i = W := by omega
      subst he
      exact k
    · skip
      have h6 : ¬ W ≤ i := fun q => h6 ((nI_leI (a := W) (b := i) (by omega) (by omega)).mpr q)
      refine v_iload_n F d_M_planCodes_9 rfl 2 rfl ?_
      refine v_aload_n F d_M_planCodes_10 rfl 0 rfl ?_
      refine v_geti F fk_M_146 G63 rfl d_M_planCodes_11 ?_
      refine v_te (y := nI n) (fτ.v rfl hn) ?_
      refine v_iconst (v := 1) F d_M_planCodes_14 ki_1 ?_
      refine v_iadd F d_M_planCodes_15 ?_
      refine v_te (y := nI (n + 1)) (nI_add _ _) ?_
      refine v_imul F d_M_planCodes_16 ?_
      refine v_te (y := nI (((n + 1) ^ i) * (n + 1))) (pk_mul _ _) ?_
      refine v_ni (fun x1 ex1 => ?_)
      refine v_istore_n (ls' := [(2, .int x1), (0, .ref (u.2.1 63)), (1, .int (nI W)), (3, .int (nI i))]) F d_M_planCodes_17 rfl (by decide) rfl ?_
      refine v_iinc (v := nI (i + 1)) (ls' := [(3, .int (nI (i + 1))), (2, .int x1), (0, .ref (u.2.1 63)), (1, .int (nI W))]) F d_M_planCodes_18 (j := 3) rfl (nI_inc _) (by decide) rfl ?_
      refine v_goto F 4 d_M_planCodes_21 rfl ?_
      refine v_sub [2, 3, 1, 0] (ls' := [(0, .ref (u.2.1 63)), (1, .int (nI W)), (2, .int x1), (3, .int (nI (i + 1)))]) rfl ?_
      have g2 : x1 = (nI ((n + 1) ^ (i + 1))) := (by first | rfl | (simp_all; done) | grind)
      refine v_to (ls' := [(0, .ref (u.2.1 63)), (1, .int (nI W)), (2, .int (nI ((n + 1) ^ (i + 1)))), (3, .int (nI (i + 1)))]) (by first | rfl | rw [g2] | simp_all) ?_
      exact ih (i + 1) (by omega) (by omega)
set_option maxHeartbeats 4000000 in
theorem c_M_planCodes (l : Launch) (u : Un) (hA : Ap u) {σ τ : St} (fτ : fr σ τ) {n : Nat} {kd : Nat → Nat} (hb : mkOk σ n kd) (W : Nat) (hW : W ≤ 4) : MTi l u y_M_planCodes b_M_planCodes 4 .int 0 [.ref (u.2.1 63), .int (nI W)] τ (fun ans σ' => nI ((n + 1) ^ W) = ans ∧ τ = σ') := by
  refine MT_of hA rfl (by decide) (Nat.le_of_ble_eq_true rfl) (fun X hl F hr => ?_)
  subst hl
  refine v_to (ls' := [(0, .ref (u.2.1 63)), (1, .int (nI W))]) rfl ?_
  obtain ⟨hn, hn6, hkd, hk6⟩ := id hb
  refine v_iconst (v := 1) F d_M_planCodes_0 ki_1 ?_
  refine v_istore_n (ls' := [(2, .int 1), (0, .ref (u.2.1 63)), (1, .int (nI W))]) F d_M_planCodes_1 rfl (by decide) rfl ?_
  refine v_iconst (v := 0) F d_M_planCodes_2 ki_0 ?_
  refine v_istore_n (ls' := [(3, .int 0), (2, .int 1), (0, .ref (u.2.1 63)), (1, .int (nI W))]) F d_M_planCodes_3 rfl (by decide) rfl ?_
  refine v_sub [2, 3, 1, 0] (ls' := [(0, .ref (u.2.1 63)), (1, .int (nI W)), (2, .int 1), (3, .int 0)]) rfl ?_
  have g1 : 1 = (nI ((n + 1) ^ 0)) := (by first | rfl | (simp_all; done) | grind)
  have g2 : 0 = (nI 0) := (by first | rfl | (simp_all; done) | grind)
  refine v_to (ls' := [(0, .ref (u.2.1 63)), (1, .int (nI W)), (2, .int (nI ((n + 1) ^ 0))), (3, .int (nI 0))]) (by first | rfl | rw [g1, g2] | simp_all) ?_
  refine L_M_planCodes_4 hA F hb fτ hW ?_ _ 0 (Nat.zero_le _) (Nat.lt_succ_self _)
  refine v_iload_n F d_M_planCodes_24 rfl 2 rfl ?_
  refine v_iret F hr rfl d_M_planCodes_25 ?_
  exact ⟨rfl, rfl⟩
abbrev b_M_needPlan : ByteArray := prog_14_method_70_code
abbrev y_M_needPlan : MethodName := ⟨"TakerBookModel", "needPlan", "(Z)I"⟩
theorem d_M_needPlan_0 : decode b_M_needPlan 0 = .ok (.iload_n 1, 1) := by decide +kernel
theorem d_M_needPlan_1 : decode b_M_needPlan 1 = .ok (.ifCond .ne 7, 3) := by decide +kernel
theorem d_M_needPlan_4 : decode b_M_needPlan 4 = .ok (.iconst (-1), 1) := by decide +kernel
theorem d_M_needPlan_5 : decode b_M_needPlan 5 = .ok (.goto 16, 3) := by decide +kernel
theorem d_M_needPlan_8 : decode b_M_needPlan 8 = .ok (.aload_n 0, 1) := by decide +kernel
theorem d_M_needPlan_9 : decode b_M_needPlan 9 = .ok (.invokevirtual 197, 3) := by decide +kernel
theorem d_M_needPlan_12 : decode b_M_needPlan 12 = .ok (.ifCond .eq 8, 3) := by decide +kernel
theorem d_M_needPlan_15 : decode b_M_needPlan 15 = .ok (.bipush (-4), 2) := by decide +kernel
theorem d_M_needPlan_17 : decode b_M_needPlan 17 = .ok (.goto 4, 3) := by decide +kernel
theorem d_M_needPlan_20 : decode b_M_needPlan 20 = .ok (.iconst 0, 1) := by decide +kernel
theorem d_M_needPlan_21 : decode b_M_needPlan 21 = .ok (.ireturn, 1) := by decide +kernel
theorem mo_M_needPlan : mok y_M_needPlan b_M_needPlan 2 (some .int) 1 := ⟨List.mem_of_getElem? (i := 1357) (by decide +kernel), ⟨by decide +kernel, by decide +kernel, by decide +kernel⟩, List.mem_of_getElem? (i := 86) (by decide +kernel), by decide⟩
set_option maxHeartbeats 4000000 in
theorem c_M_needPlan (l : Launch) (u : Un) (hA : Ap u) (σ : St) {n : Nat} {kd : Nat → Nat} (hb : mkOk σ n kd) (p : Prop) [Decidable p] : MTi l u y_M_needPlan b_M_needPlan 2 .int 1 [.ref (u.2.1 63), .int (bI (p))] σ (fun ans σ' => (¬ p ∧ -1 = ans ∧ σ = σ') ∨ (p ∧ ovM σ n ∧ -4 = ans ∧ σ = σ') ∨ (p ∧ ¬ ovM σ n ∧ 0 = ans ∧ σ = σ')) := by
  refine MT_of hA rfl (by decide) (Nat.le_of_ble_eq_true rfl) (fun X hl F hr => ?_)
  subst hl
  refine v_to (ls' := [(0, .ref (u.2.1 63)), (1, .int (bI (p)))]) rfl ?_
  obtain ⟨hn, hn6, hkd, hk6⟩ := id hb
  refine v_iload_n F d_M_needPlan_0 rfl 1 rfl ?_
  refine v_bf F 8 d_M_needPlan_1 rfl (fun h1 => ?_) (fun h1 => ?_)
  · skip
    refine v_aload_n F d_M_needPlan_8 rfl 0 rfl ?_
    refine v_runi (r_V F (c_M_isOver X.2.1 u hA σ hb) mo_M_isOver st_M_197 rc_63 (by decide) rfl (Nat.le_of_ble_eq_true rfl) d_M_needPlan_9) (fun r1 σ2 q3 => ?_)
    obtain ⟨rfl, rfl⟩ := q3
    refine v_bt F 20 d_M_needPlan_12 rfl (fun h12 => ?_) (fun h12 => ?_)
    · skip
      refine v_iconst (v := 0) F d_M_needPlan_20 ki_0 ?_
      refine v_iret F hr rfl d_M_needPlan_21 ?_
      first | exact Or.inl ⟨by assumption, rfl, rfl⟩ | exact Or.inr (Or.inl ⟨by assumption, by assumption, rfl, rfl⟩) | exact Or.inr (Or.inr ⟨by assumption, by assumption, rfl, rfl⟩)
    · skip
      refine v_bipush (v := (-4)) F d_M_needPlan_15 kb_m4 ?_
      refine v_goto F 21 d_M_needPlan_17 rfl ?_
      refine v_iret F hr rfl d_M_needPlan_21 ?_
      first | exact Or.inl ⟨by assumption, rfl, rfl⟩ | exact Or.inr (Or.inl ⟨by assumption, by assumption, rfl, rfl⟩) | exact Or.inr (Or.inr ⟨by assumption, by assumption, rfl, rfl⟩)
  · skip
    refine v_iconst (v := (-1)) F d_M_needPlan_4 ki_m1 ?_
    refine v_goto F 21 d_M_needPlan_5 rfl ?_
    refine v_iret F hr rfl d_M_needPlan_21 ?_
    first | exact Or.inl ⟨by assumption, rfl, rfl⟩ | exact Or.inr (Or.inl ⟨by assumption, by assumption, rfl, rfl⟩) | exact Or.inr (Or.inr ⟨by assumption, by assumption, rfl, rfl⟩)
