theorem st_M_242 : siteV "TakerBookModel" 242 ⟨"TakerBookModel", "planCodes", "(I)I"⟩ := ⟨List.mem_of_getElem? (i := 1358) (by decide +kernel), List.mem_of_getElem? (i := 1360) (by decide +kernel), List.mem_of_getElem? (i := 58) (by decide +kernel)⟩
theorem st_M_245 : siteV "TakerBookModel" 245 ⟨"TakerBookModel", "isPlan", "(II)Z"⟩ := ⟨List.mem_of_getElem? (i := 1362) (by decide +kernel), List.mem_of_getElem? (i := 1364) (by decide +kernel), List.mem_of_getElem? (i := 59) (by decide +kernel)⟩
theorem st_M_248 : siteV "TakerBookModel" 248 ⟨"TakerBookModel", "goes", "(I)I"⟩ := ⟨List.mem_of_getElem? (i := 1366) (by decide +kernel), List.mem_of_getElem? (i := 1368) (by decide +kernel), List.mem_of_getElem? (i := 60) (by decide +kernel)⟩
theorem st_M_239 : siteV "TakerBookModel" 239 ⟨"TakerBookModel", "needPlan", "(Z)I"⟩ := ⟨List.mem_of_getElem? (i := 1354) (by decide +kernel), List.mem_of_getElem? (i := 1356) (by decide +kernel), List.mem_of_getElem? (i := 57) (by decide +kernel)⟩
abbrev b_M_best : ByteArray := prog_14_method_71_code
abbrev y_M_best : MethodName := ⟨"TakerBookModel", "best", "(II)I"⟩
theorem d_M_best_0 : decode b_M_best 0 = .ok (.aload_n 0, 1) := by decide +kernel
theorem d_M_best_1 : decode b_M_best 1 = .ok (.iload_n 1, 1) := by decide +kernel
theorem d_M_best_2 : decode b_M_best 2 = .ok (.iconst 0, 1) := by decide +kernel
theorem d_M_best_3 : decode b_M_best 3 = .ok (.iconst 4, 1) := by decide +kernel
theorem d_M_best_4 : decode b_M_best 4 = .ok (.invokestatic 89, 3) := by decide +kernel
theorem d_M_best_7 : decode b_M_best 7 = .ok (.ifCond .eq 14, 3) := by decide +kernel
theorem d_M_best_10 : decode b_M_best 10 = .ok (.iload_n 2, 1) := by decide +kernel
theorem d_M_best_11 : decode b_M_best 11 = .ok (.invokestatic 99, 3) := by decide +kernel
theorem d_M_best_14 : decode b_M_best 14 = .ok (.ifCond .eq 7, 3) := by decide +kernel
theorem d_M_best_17 : decode b_M_best 17 = .ok (.iconst 1, 1) := by decide +kernel
theorem d_M_best_18 : decode b_M_best 18 = .ok (.goto 4, 3) := by decide +kernel
theorem d_M_best_21 : decode b_M_best 21 = .ok (.iconst 0, 1) := by decide +kernel
theorem d_M_best_22 : decode b_M_best 22 = .ok (.invokevirtual 239, 3) := by decide +kernel
theorem d_M_best_25 : decode b_M_best 25 = .ok (.istore_n 3, 1) := by decide +kernel
theorem d_M_best_26 : decode b_M_best 26 = .ok (.iload_n 3, 1) := by decide +kernel
theorem d_M_best_27 : decode b_M_best 27 = .ok (.ifCond .ge 5, 3) := by decide +kernel
theorem d_M_best_30 : decode b_M_best 30 = .ok (.iload_n 3, 1) := by decide +kernel
theorem d_M_best_31 : decode b_M_best 31 = .ok (.ireturn, 1) := by decide +kernel
theorem d_M_best_32 : decode b_M_best 32 = .ok (.iconst 0, 1) := by decide +kernel
theorem d_M_best_33 : decode b_M_best 33 = .ok (.istore 4, 2) := by decide +kernel
theorem d_M_best_35 : decode b_M_best 35 = .ok (.iconst (-1), 1) := by decide +kernel
theorem d_M_best_36 : decode b_M_best 36 = .ok (.istore 5, 2) := by decide +kernel
theorem d_M_best_38 : decode b_M_best 38 = .ok (.iconst 0, 1) := by decide +kernel
theorem d_M_best_39 : decode b_M_best 39 = .ok (.istore 6, 2) := by decide +kernel
theorem d_M_best_41 : decode b_M_best 41 = .ok (.iload 6, 2) := by decide +kernel
theorem d_M_best_43 : decode b_M_best 43 = .ok (.aload_n 0, 1) := by decide +kernel
theorem d_M_best_44 : decode b_M_best 44 = .ok (.iload_n 1, 1) := by decide +kernel
theorem d_M_best_45 : decode b_M_best 45 = .ok (.invokevirtual 242, 3) := by decide +kernel
theorem d_M_best_48 : decode b_M_best 48 = .ok (.if_icmp .ge 62, 3) := by decide +kernel
theorem d_M_best_51 : decode b_M_best 51 = .ok (.aload_n 0, 1) := by decide +kernel
theorem d_M_best_52 : decode b_M_best 52 = .ok (.iload 6, 2) := by decide +kernel
theorem d_M_best_54 : decode b_M_best 54 = .ok (.iload_n 1, 1) := by decide +kernel
theorem d_M_best_55 : decode b_M_best 55 = .ok (.invokevirtual 245, 3) := by decide +kernel
theorem d_M_best_58 : decode b_M_best 58 = .ok (.ifCond .eq 11, 3) := by decide +kernel
theorem d_M_best_61 : decode b_M_best 61 = .ok (.aload_n 0, 1) := by decide +kernel
theorem d_M_best_62 : decode b_M_best 62 = .ok (.iload_n 1, 1) := by decide +kernel
theorem d_M_best_63 : decode b_M_best 63 = .ok (.invokevirtual 248, 3) := by decide +kernel
theorem d_M_best_66 : decode b_M_best 66 = .ok (.goto 4, 3) := by decide +kernel
theorem d_M_best_69 : decode b_M_best 69 = .ok (.iconst (-1), 1) := by decide +kernel
theorem d_M_best_70 : decode b_M_best 70 = .ok (.istore 7, 2) := by decide +kernel
theorem d_M_best_72 : decode b_M_best 72 = .ok (.iload 7, 2) := by decide +kernel
theorem d_M_best_74 : decode b_M_best 74 = .ok (.iload 5, 2) := by decide +kernel
theorem d_M_best_76 : decode b_M_best 76 = .ok (.if_icmp .le 8, 3) := by decide +kernel
theorem d_M_best_79 : decode b_M_best 79 = .ok (.iload 6, 2) := by decide +kernel
theorem d_M_best_81 : decode b_M_best 81 = .ok (.goto 5, 3) := by decide +kernel
theorem d_M_best_84 : decode b_M_best 84 = .ok (.iload 4, 2) := by decide +kernel
theorem d_M_best_86 : decode b_M_best 86 = .ok (.istore 4, 2) := by decide +kernel
theorem d_M_best_88 : decode b_M_best 88 = .ok (.iload 7, 2) := by decide +kernel
theorem d_M_best_90 : decode b_M_best 90 = .ok (.iload 5, 2) := by decide +kernel
theorem d_M_best_92 : decode b_M_best 92 = .ok (.if_icmp .le 8, 3) := by decide +kernel
theorem d_M_best_95 : decode b_M_best 95 = .ok (.iload 7, 2) := by decide +kernel
theorem d_M_best_97 : decode b_M_best 97 = .ok (.goto 5, 3) := by decide +kernel
theorem d_M_best_100 : decode b_M_best 100 = .ok (.iload 5, 2) := by decide +kernel
theorem d_M_best_102 : decode b_M_best 102 = .ok (.istore 5, 2) := by decide +kernel
theorem d_M_best_104 : decode b_M_best 104 = .ok (.iinc 6 1, 3) := by decide +kernel
theorem d_M_best_107 : decode b_M_best 107 = .ok (.goto (-66), 3) := by decide +kernel
theorem d_M_best_110 : decode b_M_best 110 = .ok (.aload_n 0, 1) := by decide +kernel
theorem d_M_best_111 : decode b_M_best 111 = .ok (.iload 4, 2) := by decide +kernel
theorem d_M_best_113 : decode b_M_best 113 = .ok (.iload_n 1, 1) := by decide +kernel
theorem d_M_best_114 : decode b_M_best 114 = .ok (.invokevirtual 245, 3) := by decide +kernel
theorem d_M_best_117 : decode b_M_best 117 = .ok (.pop, 1) := by decide +kernel
theorem d_M_best_118 : decode b_M_best 118 = .ok (.aload_n 0, 1) := by decide +kernel
theorem d_M_best_119 : decode b_M_best 119 = .ok (.getfield 17, 3) := by decide +kernel
theorem d_M_best_122 : decode b_M_best 122 = .ok (.iload_n 2, 1) := by decide +kernel
theorem d_M_best_123 : decode b_M_best 123 = .ok (.iload_n 1, 1) := by decide +kernel
theorem d_M_best_124 : decode b_M_best 124 = .ok (.iastore, 1) := by decide +kernel
theorem d_M_best_125 : decode b_M_best 125 = .ok (.iconst 0, 1) := by decide +kernel
theorem d_M_best_126 : decode b_M_best 126 = .ok (.istore 6, 2) := by decide +kernel
theorem d_M_best_128 : decode b_M_best 128 = .ok (.iload 6, 2) := by decide +kernel
theorem d_M_best_130 : decode b_M_best 130 = .ok (.iload_n 1, 1) := by decide +kernel
theorem d_M_best_131 : decode b_M_best 131 = .ok (.if_icmp .ge 28, 3) := by decide +kernel
theorem d_M_best_134 : decode b_M_best 134 = .ok (.aload_n 0, 1) := by decide +kernel
theorem d_M_best_135 : decode b_M_best 135 = .ok (.getfield 20, 3) := by decide +kernel
theorem d_M_best_138 : decode b_M_best 138 = .ok (.bipush 40, 2) := by decide +kernel
theorem d_M_best_140 : decode b_M_best 140 = .ok (.iload_n 2, 1) := by decide +kernel
theorem d_M_best_141 : decode b_M_best 141 = .ok (.imul, 1) := by decide +kernel
theorem d_M_best_142 : decode b_M_best 142 = .ok (.iload 6, 2) := by decide +kernel
theorem d_M_best_144 : decode b_M_best 144 = .ok (.iadd, 1) := by decide +kernel
theorem d_M_best_145 : decode b_M_best 145 = .ok (.aload_n 0, 1) := by decide +kernel
theorem d_M_best_146 : decode b_M_best 146 = .ok (.getfield 73, 3) := by decide +kernel
theorem d_M_best_149 : decode b_M_best 149 = .ok (.iload 6, 2) := by decide +kernel
theorem d_M_best_151 : decode b_M_best 151 = .ok (.iaload, 1) := by decide +kernel
theorem d_M_best_152 : decode b_M_best 152 = .ok (.iastore, 1) := by decide +kernel
theorem d_M_best_153 : decode b_M_best 153 = .ok (.iinc 6 1, 3) := by decide +kernel
theorem d_M_best_156 : decode b_M_best 156 = .ok (.goto (-28), 3) := by decide +kernel
theorem d_M_best_159 : decode b_M_best 159 = .ok (.iload 5, 2) := by decide +kernel
theorem d_M_best_161 : decode b_M_best 161 = .ok (.ireturn, 1) := by decide +kernel
theorem mo_M_best : mok y_M_best b_M_best 8 (some .int) 2 := ⟨List.mem_of_getElem? (i := 1353) (by decide +kernel), ⟨by decide +kernel, by decide +kernel, by decide +kernel⟩, List.mem_of_getElem? (i := 86) (by decide +kernel), by decide⟩
set_option maxHeartbeats 4000000 in
theorem L_M_best_41 {X : FX} {u : Un} (hA : Ap u) {Q : State → Prop} (F : Fr X u "TakerBookModel" b_M_best 8) {σ : St} {n : Nat} {kd : Nat → Nat} (hb : mkOk σ n kd) {a : Nat} (ha : a < 64) (h0 : σ.1 76 0 = nI a) {W r : Nat} (hW : W ≤ 4) (k0 : ∀ (c : Nat) (τ : St), c = (n + 1) ^ W → fr σ τ → V X u 7 8 Q 110 [(0, .ref (u.2.1 63)), (1, .int (nI W)), (2, .int (nI r)), (4, .int (nI ((bsS σ kd n a W c).1))), (5, .int ((bsS σ kd n a W c).2))] [] (τ)) : ∀ (nn : Nat) (c : Nat) (τ : St), c ≤ (n + 1) ^ W → fr σ τ → (n + 1) ^ W - c < nn → V X u 7 8 Q 41 [(0, .ref (u.2.1 63)), (1, .int (nI W)), (2, .int (nI r)), (4, .int (nI ((bsS σ kd n a W c).1))), (5, .int ((bsS σ kd n a W c).2)), (6, .int (nI c))] [] (τ) := by
  intro nn
  induction nn with
  | zero =>
    intro c τ hc fτ h2
    exact absurd h2 (Nat.not_lt_zero _)
  | succ nn ih =>
    intro c τ hc fτ hm
    obtain ⟨hn, hn6, hkd, hk6⟩ := id hb
    have hpb := pN_b hn6 hW
    have hbb := bs_b (σ := σ) (kd := kd) (n := n) (a := a) (W := W) c (by omega)
    refine v_iload F d_M_best_41 5 rfl ?_
    refine v_aload_n F d_M_best_43 rfl 0 rfl ?_
    refine v_iload_n F d_M_best_44 rfl 1 rfl ?_
    refine v_runi (r_V F (c_M_planCodes X.2.1 u hA fτ hb W hW) mo_M_planCodes st_M_242 rc_63 (by decide) rfl (Nat.le_of_ble_eq_true rfl) d_M_best_45) (fun r1 σ2 q3 => ?_)
    obtain ⟨rfl, rfl⟩ := q3
    refine v_icmp_ge F 110 d_M_best_48 rfl (fun h48 => ?_) (fun h48 => ?_)
    · skip
      have h48 : (n + 1) ^ W ≤ c := (nI_leI (a := (n + 1) ^ W) (b := c) (by omega) (by omega)).mp h48
      refine v_sub [0, 1, 2, 3, 4] (ls' := [(0, .ref (u.2.1 63)), (1, .int (nI W)), (2, .int (nI r)), (4, .int (nI ((bsS σ kd n a W c).1))), (5, .int ((bsS σ kd n a W c).2))]) rfl ?_
      exact k0 c τ (by omega) fτ
    · skip
      have h48 : ¬ (n + 1) ^ W ≤ c := fun q => h48 ((nI_leI (a := (n + 1) ^ W) (b := c) (by omega) (by omega)).mpr q)
      refine v_aload_n F d_M_best_51 rfl 0 rfl ?_
      refine v_iload F d_M_best_52 5 rfl ?_
      refine v_iload_n F d_M_best_54 rfl 1 rfl ?_
      refine v_runi (r_V F (c_M_isPlan X.2.1 u hA fτ hb ha h0 c W (by omega) hW) mo_M_isPlan st_M_245 rc_63 (by decide) rfl (Nat.le_of_ble_eq_true rfl) d_M_best_55) (fun r4 σ5 q6 => ?_)
      obtain ⟨rfl, fσ5, hpσ5⟩ := q6
      refine v_bt F 69 d_M_best_58 rfl (fun h58 => ?_) (fun h58 => ?_)
      · skip
        have hp : pgS σ kd n a W c = -1 := if_neg h58
        refine v_iconst (v := (-1)) F d_M_best_69 ki_m1 ?_
        refine v_istore (ls' := [(7, .int (-1)), (0, .ref (u.2.1 63)), (1, .int (nI W)), (2, .int (nI r)), (4, .int (nI ((bsS σ kd n a W c).1))), (5, .int ((bsS σ kd n a W c).2)), (6, .int (nI c))]) F d_M_best_70 (by decide) rfl ?_
        refine v_iload F d_M_best_72 0 rfl ?_
        refine v_iload F d_M_best_74 5 rfl ?_
        refine v_icmp_le F 84 d_M_best_76 rfl (fun h76 => ?_) (fun h76 => ?_)
        · skip
          refine v_iload F d_M_best_84 4 rfl ?_
          refine v_istore (ls' := [(4, .int (nI ((bsS σ kd n a W c).1))), (7, .int (-1)), (0, .ref (u.2.1 63)), (1, .int (nI W)), (2, .int (nI r)), (5, .int ((bsS σ kd n a W c).2)), (6, .int (nI c))]) F d_M_best_86 (by decide) rfl ?_
          refine v_iload F d_M_best_88 1 rfl ?_
          refine v_iload F d_M_best_90 5 rfl ?_
          refine v_icmp_le F 100 d_M_best_92 rfl (fun h92 => ?_) (fun h92 => ?_)
          · skip
            refine v_iload F d_M_best_100 5 rfl ?_
            refine v_istore (ls' := [(5, .int ((bsS σ kd n a W c).2)), (4, .int (nI ((bsS σ kd n a W c).1))), (7, .int (-1)), (0, .ref (u.2.1 63)), (1, .int (nI W)), (2, .int (nI r)), (6, .int (nI c))]) F d_M_best_102 (by decide) rfl ?_
            refine v_iinc (v := nI (c + 1)) (ls' := [(6, .int (nI (c + 1))), (5, .int ((bsS σ kd n a W c).2)), (4, .int (nI ((bsS σ kd n a W c).1))), (7, .int (-1)), (0, .ref (u.2.1 63)), (1, .int (nI W)), (2, .int (nI r))]) F d_M_best_104 (j := 6) rfl (nI_inc _) (by decide) rfl ?_
            refine v_goto F 41 d_M_best_107 rfl ?_
            refine v_sub [4, 5, 6, 2, 1, 0] (ls' := [(0, .ref (u.2.1 63)), (1, .int (nI W)), (2, .int (nI r)), (4, .int (nI ((bsS σ kd n a W c).1))), (5, .int ((bsS σ kd n a W c).2)), (6, .int (nI (c + 1)))]) rfl ?_
            have g7 : (nI ((bsS σ kd n a W c).1)) = (nI ((bsS σ kd n a W (c + 1)).1)) := (by first | rfl | (rw [bs_t (by rw [hp]; exact i_lt_le.mp (by assumption))]; first | done | rfl | exact hp.symm) | (rw [bs_f (by rw [hp]; exact i_nlt.mpr (by assumption))]; first | done | assumption | rfl) | exact absurd h76 h92 | exact absurd h92 h76)
            have g8 : ((bsS σ kd n a W c).2) = ((bsS σ kd n a W (c + 1)).2) := (by first | rfl | (rw [bs_t (by rw [hp]; exact i_lt_le.mp (by assumption))]; first | done | rfl | exact hp.symm) | (rw [bs_f (by rw [hp]; exact i_nlt.mpr (by assumption))]; first | done | assumption | rfl) | exact absurd h76 h92 | exact absurd h92 h76)
            refine v_to (ls' := [(0, .ref (u.2.1 63)), (1, .int (nI W)), (2, .int (nI r)), (4, .int (nI ((bsS σ kd n a W (c + 1)).1))), (5, .int ((bsS σ kd n a W (c + 1)).2)), (6, .int (nI (c + 1)))]) (by first | rfl | rw [g7, g8] | simp_all) ?_
            exact ih (c + 1) (σ5) (by omega) fσ5 (by omega)
          · skip
            refine v_iload F d_M_best_95 1 rfl ?_
            refine v_goto F 102 d_M_best_97 rfl ?_
            refine v_istore (ls' := [(5, .int (-1)), (4, .int (nI ((bsS σ kd n a W c).1))), (7, .int (-1)), (0, .ref (u.2.1 63)), (1, .int (nI W)), (2, .int (nI r)), (6, .int (nI c))]) F d_M_best_102 (by decide) rfl ?_
            refine v_iinc (v := nI (c + 1)) (ls' := [(6, .int (nI (c + 1))), (5, .int (-1)), (4, .int (nI ((bsS σ kd n a W c).1))), (7, .int (-1)), (0, .ref (u.2.1 63)), (1, .int (nI W)), (2, .int (nI r))]) F d_M_best_104 (j := 6) rfl (nI_inc _) (by decide) rfl ?_
            refine v_goto F 41 d_M_best_107 rfl ?_
            refine v_sub [4, 5, 6, 2, 1, 0] (ls' := [(0, .ref (u.2.1 63)), (1, .int (nI W)), (2, .int (nI r)), (4, .int (nI ((bsS σ kd n a W c).1))), (5, .int (-1)), (6, .int (nI (c + 1)))]) rfl ?_
            have g9 : (nI ((bsS σ kd n a W c).1)) = (nI ((bsS σ kd n a W (c + 1)).1)) := (by first | rfl | (rw [bs_t (by rw [hp]; exact i_lt_le.mp (by assumption))]; first | done | rfl | exact hp.symm) | (rw [bs_f (by rw [hp]; exact i_nlt.mpr (by assumption))]; first | done | assumption | rfl) | exact absurd h76 h92 | exact absurd h92 h76)
            have g10 : (-1) = ((bsS σ kd n a W (c + 1)).2) := (by first | rfl | (rw [bs_t (by rw [hp]; exact i_lt_le.mp (by assumption))]; first | done | rfl | exact hp.symm) | (rw [bs_f (by rw [hp]; exact i_nlt.mpr (by assumption))]; first | done | assumption | rfl) | exact absurd h76 h92 | exact absurd h92 h76)
            refine v_to (ls' := [(0, .ref (u.2.1 63)), (1, .int (nI W)), (2, .int (nI r)), (4, .int (nI ((bsS σ kd n a W (c + 1)).1))), (5, .int ((bsS σ kd n a W (c + 1)).2)), (6, .int (nI (c + 1)))]) (by first | rfl | rw [g9, g10] | simp_all) ?_
            exact ih (c + 1) (σ5) (by omega) fσ5 (by omega)
        · skip
          refine v_iload F d_M_best_79 6 rfl ?_
          refine v_goto F 86 d_M_best_81 rfl ?_
          refine v_istore (ls' := [(4, .int (nI c)), (7, .int (-1)), (0, .ref (u.2.1 63)), (1, .int (nI W)), (2, .int (nI r)), (5, .int ((bsS σ kd n a W c).2)), (6, .int (nI c))]) F d_M_best_86 (by decide) rfl ?_
          refine v_iload F d_M_best_88 1 rfl ?_
          refine v_iload F d_M_best_90 5 rfl ?_
          refine v_icmp_le F 100 d_M_best_92 rfl (fun h92 => ?_) (fun h92 => ?_)
          · skip
            refine v_iload F d_M_best_100 5 rfl ?_
            refine v_istore (ls' := [(5, .int ((bsS σ kd n a W c).2)), (4, .int (nI c)), (7, .int (-1)), (0, .ref (u.2.1 63)), (1, .int (nI W)), (2, .int (nI r)), (6, .int (nI c))]) F d_M_best_102 (by decide) rfl ?_
            refine v_iinc (v := nI (c + 1)) (ls' := [(6, .int (nI (c + 1))), (5, .int ((bsS σ kd n a W c).2)), (4, .int (nI c)), (7, .int (-1)), (0, .ref (u.2.1 63)), (1, .int (nI W)), (2, .int (nI r))]) F d_M_best_104 (j := 6) rfl (nI_inc _) (by decide) rfl ?_
            refine v_goto F 41 d_M_best_107 rfl ?_
            refine v_sub [4, 5, 6, 2, 1, 0] (ls' := [(0, .ref (u.2.1 63)), (1, .int (nI W)), (2, .int (nI r)), (4, .int (nI c)), (5, .int ((bsS σ kd n a W c).2)), (6, .int (nI (c + 1)))]) rfl ?_
            have g11 : (nI c) = (nI ((bsS σ kd n a W (c + 1)).1)) := (by first | rfl | (rw [bs_t (by rw [hp]; exact i_lt_le.mp (by assumption))]; first | done | rfl | exact hp.symm) | (rw [bs_f (by rw [hp]; exact i_nlt.mpr (by assumption))]; first | done | assumption | rfl) | exact absurd h76 h92 | exact absurd h92 h76)
            have g12 : ((bsS σ kd n a W c).2) = ((bsS σ kd n a W (c + 1)).2) := (by first | rfl | (rw [bs_t (by rw [hp]; exact i_lt_le.mp (by assumption))]; first | done | rfl | exact hp.symm) | (rw [bs_f (by rw [hp]; exact i_nlt.mpr (by assumption))]; first | done | assumption | rfl) | exact absurd h76 h92 | exact absurd h92 h76)
            refine v_to (ls' := [(0, .ref (u.2.1 63)), (1, .int (nI W)), (2, .int (nI r)), (4, .int (nI ((bsS σ kd n a W (c + 1)).1))), (5, .int ((bsS σ kd n a W (c + 1)).2)), (6, .int (nI (c + 1)))]) (by first | rfl | rw [g11, g12] | simp_all) ?_
            exact ih (c + 1) (σ5) (by omega) fσ5 (by omega)
          · skip
            refine v_iload F d_M_best_95 1 rfl ?_
            refine v_goto F 102 d_M_best_97 rfl ?_
            refine v_istore (ls' := [(5, .int (-1)), (4, .int (nI c)), (7, .int (-1)), (0, .ref (u.2.1 63)), (1, .int (nI W)), (2, .int (nI r)), (6, .int (nI c))]) F d_M_best_102 (by decide) rfl ?_
            refine v_iinc (v := nI (c + 1)) (ls' := [(6, .int (nI (c + 1))), (5, .int (-1)), (4, .int (nI c)), (7, .int (-1)), (0, .ref (u.2.1 63)), (1, .int (nI W)), (2, .int (nI r))]) F d_M_best_104 (j := 6) rfl (nI_inc _) (by decide) rfl ?_
            refine v_goto F 41 d_M_best_107 rfl ?_
            refine v_sub [4, 5, 6, 2, 1, 0] (ls' := [(0, .ref (u.2.1 63)), (1, .int (nI W)), (2, .int (nI r)), (4, .int (nI c)), (5, .int (-1)), (6, .int (nI (c + 1)))]) rfl ?_
            have g13 : (nI c) = (nI ((bsS σ kd n a W (c + 1)).1)) := (by first | rfl | (rw [bs_t (by rw [hp]; exact i_lt_le.mp (by assumption))]; first | done | rfl | exact hp.symm) | (rw [bs_f (by rw [hp]; exact i_nlt.mpr (by assumption))]; first | done | assumption | rfl) | exact absurd h76 h92 | exact absurd h92 h76)
            have g14 : (-1) = ((bsS σ kd n a W (c + 1)).2) := (by first | rfl | (rw [bs_t (by rw [hp]; exact i_lt_le.mp (by assumption))]; first | done | rfl | exact hp.symm) | (rw [bs_f (by rw [hp]; exact i_nlt.mpr (by assumption))]; first | done | assumption | rfl) | exact absurd h76 h92 | exact absurd h92 h76)
            refine v_to (ls' := [(0, .ref (u.2.1 63)), (1, .int (nI W)), (2, .int (nI r)), (4, .int (nI ((bsS σ kd n a W (c + 1)).1))), (5, .int ((bsS σ kd n a W (c + 1)).2)), (6, .int (nI (c + 1)))]) (by first | rfl | rw [g13, g14] | simp_all) ?_
            exact ih (c + 1) (σ5) (by omega) fσ5 (by omega)
      · skip
        have hp : pgS σ kd n a W c = (gzS σ kd n a (plN (n + 1) W c) W).m - σ.1 76 1 := if_pos h58
        refine v_aload_n F d_M_best_61 rfl 0 rfl ?_
        refine v_iload_n F d_M_best_62 rfl 1 rfl ?_
        refine v_runi (r_V F (c_M_goes X.2.1 u hA fσ5 hb ha h0 (pl := (plN (n + 1) W c)) hW (fun k hk => plN_or) hpσ5) mo_M_goes st_M_248 rc_63 (by decide) rfl (Nat.le_of_ble_eq_true rfl) d_M_best_63) (fun r15 σ16 q17 => ?_)
        obtain ⟨rfl, fσ16, htσ16, hLσ16⟩ := q17
        refine v_goto F 70 d_M_best_66 rfl ?_
        refine v_istore (ls' := [(7, .int ((gzS σ kd n a (plN (n + 1) W c) W).m - σ.1 76 1)), (0, .ref (u.2.1 63)), (1, .int (nI W)), (2, .int (nI r)), (4, .int (nI ((bsS σ kd n a W c).1))), (5, .int ((bsS σ kd n a W c).2)), (6, .int (nI c))]) F d_M_best_70 (by decide) rfl ?_
        refine v_iload F d_M_best_72 0 rfl ?_
        refine v_iload F d_M_best_74 5 rfl ?_
        refine v_icmp_le F 84 d_M_best_76 rfl (fun h76 => ?_) (fun h76 => ?_)
        · skip
          refine v_iload F d_M_best_84 4 rfl ?_
          refine v_istore (ls' := [(4, .int (nI ((bsS σ kd n a W c).1))), (7, .int ((gzS σ kd n a (plN (n + 1) W c) W).m - σ.1 76 1)), (0, .ref (u.2.1 63)), (1, .int (nI W)), (2, .int (nI r)), (5, .int ((bsS σ kd n a W c).2)), (6, .int (nI c))]) F d_M_best_86 (by decide) rfl ?_
          refine v_iload F d_M_best_88 1 rfl ?_
          refine v_iload F d_M_best_90 5 rfl ?_
          refine v_icmp_le F 100 d_M_best_92 rfl (fun h92 => ?_) (fun h92 => ?_)
          · skip
            refine v_iload F d_M_best_100 5 rfl ?_
            refine v_istore (ls' := [(5, .int ((bsS σ kd n a W c).2)), (4, .int (nI ((bsS σ kd n a W c).1))), (7, .int ((gzS σ kd n a (plN (n + 1) W c) W).m - σ.1 76 1)), (0, .ref (u.2.1 63)), (1, .int (nI W)), (2, .int (nI r)), (6, .int (nI c))]) F d_M_best_102 (by decide) rfl ?_
            refine v_iinc (v := nI (c + 1)) (ls' := [(6, .int (nI (c + 1))), (5, .int ((bsS σ kd n a W c).2)), (4, .int (nI ((bsS σ kd n a W c).1))), (7, .int ((gzS σ kd n a (plN (n + 1) W c) W).m - σ.1 76 1)), (0, .ref (u.2.1 63)), (1, .int (nI W)), (2, .int (nI r))]) F d_M_best_104 (j := 6) rfl (nI_inc _) (by decide) rfl ?_
            refine v_goto F 41 d_M_best_107 rfl ?_
            refine v_sub [4, 5, 6, 2, 1, 0] (ls' := [(0, .ref (u.2.1 63)), (1, .int (nI W)), (2, .int (nI r)), (4, .int (nI ((bsS σ kd n a W c).1))), (5, .int ((bsS σ kd n a W c).2)), (6, .int (nI (c + 1)))]) rfl ?_
            have g18 : (nI ((bsS σ kd n a W c).1)) = (nI ((bsS σ kd n a W (c + 1)).1)) := (by first | rfl | (rw [bs_t (by rw [hp]; exact i_lt_le.mp (by assumption))]; first | done | rfl | exact hp.symm) | (rw [bs_f (by rw [hp]; exact i_nlt.mpr (by assumption))]; first | done | assumption | rfl) | exact absurd h76 h92 | exact absurd h92 h76)
            have g19 : ((bsS σ kd n a W c).2) = ((bsS σ kd n a W (c + 1)).2) := (by first | rfl | (rw [bs_t (by rw [hp]; exact i_lt_le.mp (by assumption))]; first | done | rfl | exact hp.symm) | (rw [bs_f (by rw [hp]; exact i_nlt.mpr (by assumption))]; first | done | assumption | rfl) | exact absurd h76 h92 | exact absurd h92 h76)
            refine v_to (ls' := [(0, .ref (u.2.1 63)), (1, .int (nI W)), (2, .int (nI r)), (4, .int (nI ((bsS σ kd n a W (c + 1)).1))), (5, .int ((bsS σ kd n a W (c + 1)).2)), (6, .int (nI (c + 1)))]) (by first | rfl | rw [g18, g19] | simp_all) ?_
            exact ih (c + 1) (σ16) (by omega) fσ16 (by omega)
          · skip
            refine v_iload F d_M_best_95 1 rfl ?_
            refine v_goto F 102 d_M_best_97 rfl ?_
            refine v_istore (ls' := [(5, .int ((gzS σ kd n a (plN (n + 1) W c) W).m - σ.1 76 1)), (4, .int (nI ((bsS σ kd n a W c).1))), (7, .int ((gzS σ kd n a (plN (n + 1) W c) W).m - σ.1 76 1)), (0, .ref (u.2.1 63)), (1, .int (nI W)), (2, .int (nI r)), (6, .int (nI c))]) F d_M_best_102 (by decide) rfl ?_
            refine v_iinc (v := nI (c + 1)) (ls' := [(6, .int (nI (c + 1))), (5, .int ((gzS σ kd n a (plN (n + 1) W c) W).m - σ.1 76 1)), (4, .int (nI ((bsS σ kd n a W c).1))), (7, .int ((gzS σ kd n a (plN (n + 1) W c) W).m - σ.1 76 1)), (0, .ref (u.2.1 63)), (1, .int (nI W)), (2, .int (nI r))]) F d_M_best_104 (j := 6) rfl (nI_inc _) (by decide) rfl ?_
            refine v_goto F 41 d_M_best_107 rfl ?_
            refine v_sub [4, 5, 6, 2, 1, 0] (ls' := [(0, .ref (u.2.1 63)), (1, .int (nI W)), (2, .int (nI r)), (4, .int (nI ((bsS σ kd n a W c).1))), (5, .int ((gzS σ kd n a (plN (n + 1) W c) W).m - σ.1 76 1)), (6, .int (nI (c + 1)))]) rfl ?_
            have g20 : (nI ((bsS σ kd n a W c).1)) = (nI ((bsS σ kd n a W (c + 1)).1)) := (by first | rfl | (rw [bs_t (by rw [hp]; exact i_lt_le.mp (by assumption))]; first | done | rfl | exact hp.symm) | (rw [bs_f (by rw [hp]; exact i_nlt.mpr (by assumption))]; first | done | assumption | rfl) | exact absurd h76 h92 | exact absurd h92 h76)
            have g21 : ((gzS σ kd n a (plN (n + 1) W c) W).m - σ.1 76 1) = ((bsS σ kd n a W (c + 1)).2) := (by first | rfl | (rw [bs_t (by rw [hp]; exact i_lt_le.mp (by assumption))]; first | done | rfl | exact hp.symm) | (rw [bs_f (by rw [hp]; exact i_nlt.mpr (by assumption))]; first | done | assumption | rfl) | exact absurd h76 h92 | exact absurd h92 h76)
            refine v_to (ls' := [(0, .ref (u.2.1 63)), (1, .int (nI W)), (2, .int (nI r)), (4, .int (nI ((bsS σ kd n a W (c + 1)).1))), (5, .int ((bsS σ kd n a W (c + 1)).2)), (6, .int (nI (c + 1)))]) (by first | rfl | rw [g20, g21] | simp_all) ?_
            exact ih (c + 1) (σ16) (by omega) fσ16 (by omega)
        · skip
          refine v_iload F d_M_best_79 6 rfl ?_
          refine v_goto F 86 d_M_best_81 rfl ?_
          refine v_istore (ls' := [(4, .int (nI c)), (7, .int ((gzS σ kd n a (plN (n + 1) W c) W).m - σ.1 76 1)), (0, .ref (u.2.1 63)), (1, .int (nI W)), (2, .int (nI r)), (5, .int ((bsS σ kd n a W c).2)), (6, .int (nI c))]) F d_M_best_86 (by decide) rfl ?_
          refine v_iload F d_M_best_88 1 rfl ?_
          refine v_iload F d_M_best_90 5 rfl ?_
          refine v_icmp_le F 100 d_M_best_92 rfl (fun h92 => ?_) (fun h92 => ?_)
          · skip
            refine v_iload F d_M_best_100 5 rfl ?_
            refine v_istore (ls' := [(5, .int ((bsS σ kd n a W c).2)), (4, .int (nI c)), (7, .int ((gzS σ kd n a (plN (n + 1) W c) W).m - σ.1 76 1)), (0, .ref (u.2.1 63)), (1, .int (nI W)), (2, .int (nI r)), (6, .int (nI c))]) F d_M_best_102 (by decide) rfl ?_
            refine v_iinc (v := nI (c + 1)) (ls' := [(6, .int (nI (c + 1))), (5, .int ((bsS σ kd n a W c).2)), (4, .int (nI c)), (7, .int ((gzS σ kd n a (plN (n + 1) W c) W).m - σ.1 76 1)), (0, .ref (u.2.1 63)), (1, .int (nI W)), (2, .int (nI r))]) F d_M_best_104 (j := 6) rfl (nI_inc _) (by decide) rfl ?_
            refine v_goto F 41 d_M_best_107 rfl ?_
            refine v_sub [4, 5, 6, 2, 1, 0] (ls' := [(0, .ref (u.2.1 63)), (1, .int (nI W)), (2, .int (nI r)), (4, .int (nI c)), (5, .int ((bsS σ kd n a W c).2)), (6, .int (nI (c + 1)))]) rfl ?_
            have g22 : (nI c) = (nI ((bsS σ kd n a W (c + 1)).1)) := (by first | rfl | (rw [bs_t (by rw [hp]; exact i_lt_le.mp (by assumption))]; first | done | rfl | exact hp.symm) | (rw [bs_f (by rw [hp]; exact i_nlt.mpr (by assumption))]; first | done | assumption | rfl) | exact absurd h76 h92 | exact absurd h92 h76)
            have g23 : ((bsS σ kd n a W c).2) = ((bsS σ kd n a W (c + 1)).2) := (by first | rfl | (rw [bs_t (by rw [hp]; exact i_lt_le.mp (by assumption))]; first | done | rfl | exact hp.symm) | (rw [bs_f (by rw [hp]; exact i_nlt.mpr (by assumption))]; first | done | assumption | rfl) | exact absurd h76 h92 | exact absurd h92 h76)
            refine v_to (ls' := [(0, .ref (u.2.1 63)), (1, .int (nI W)), (2, .int (nI r)), (4, .int (nI ((bsS σ kd n a W (c + 1)).1))), (5, .int ((bsS σ kd n a W (c + 1)).2)), (6, .int (nI (c + 1)))]) (by first | rfl | rw [g22, g23] | simp_all) ?_
            exact ih (c + 1) (σ16) (by omega) fσ16 (by omega)
          · skip
            refine v_iload F d_M_best_95 1 rfl ?_
            refine v_goto F 102 d_M_best_97 rfl ?_
            refine v_istore (ls' := [(5, .int ((gzS σ kd n a (plN (n + 1) W c) W).m - σ.1 76 1)), (4, .int (nI c)), (7, .int ((gzS σ kd n a (plN (n + 1) W c) W).m - σ.1 76 1)), (0, .ref (u.2.1 63)), (1, .int (nI W)), (2, .int (nI r)), (6, .int (nI c))]) F d_M_best_102 (by decide) rfl ?_
            refine v_iinc (v := nI (c + 1)) (ls' := [(6, .int (nI (c + 1))), (5, .int ((gzS σ kd n a (plN (n + 1) W c) W).m - σ.1 76 1)), (4, .int (nI c)), (7, .int ((gzS σ kd n a (plN (n + 1) W c) W).m - σ.1 76 1)), (0, .ref (u.2.1 63)), (1, .int (nI W)), (2, .int (nI r))]) F d_M_best_104 (j := 6) rfl (nI_inc _) (by decide) rfl ?_
            refine v_goto F 41 d_M_best_107 rfl ?_
            refine v_sub [4, 5, 6, 2, 1, 0] (ls' := [(0, .ref (u.2.1 63)), (1, .int (nI W)), (2, .int (nI r)), (4, .int (nI c)), (5, .int ((gzS σ kd n a (plN (n + 1) W c) W).m - σ.1 76 1)), (6, .int (nI (c + 1)))]) rfl ?_
            have g24 : (nI c) = (nI ((bsS σ kd n a W (c + 1)).1)) := (by first | rfl | (rw [bs_t (by rw [hp]; exact i_lt_le.mp (by assumption))]; first | done | rfl | exact hp.symm) | (rw [bs_f (by rw [hp]; exact i_nlt.mpr (by assumption))]; first | done | assumption | rfl) | exact absurd h76 h92 | exact absurd h92 h76)
            have g25 : ((gzS σ kd n a (plN (n + 1) W c) W).m - σ.1 76 1) = ((bsS σ kd n a W (c + 1)).2) := (by first | rfl | (rw [bs_t (by rw [hp]; exact i_lt_le.mp (by assumption))]; first | done | rfl | exact hp.symm) | (rw [bs_f (by rw [hp]; exact i_nlt.mpr (by assumption))]; first | done | assumption | rfl) | exact absurd h76 h92 | exact absurd h92 h76)
            refine v_to (ls' := [(0, .ref (u.2.1 63)), (1, .int (nI W)), (2, .int (nI r)), (4, .int (nI ((bsS σ kd n a W (c + 1)).1))), (5, .int ((bsS σ kd n a W (c + 1)).2)), (6, .int (nI (c + 1)))]) (by first | rfl | rw [g24, g25] | simp_all) ?_
            exact ih (c + 1) (σ16) (by omega) fσ16 (by omega)
set_option maxHeartbeats 4000000 in
theorem L_M_best_128 {X : FX} {u : Un} (hA : Ap u) {Q : State → Prop} (F : Fr X u "TakerBookModel" b_M_best 8) {ρ : St} {r W : Nat} {pl : Nat → Int32} {mo : Int32} (hr : r < 6) (hW : W ≤ 4) (hp : ∀ k, k < W → ρ.1 83 k = pl k) (k : V X u 7 8 Q 159 [(0, .ref (u.2.1 63)), (1, .int (nI W)), (2, .int (nI r)), (5, .int mo), (6, .int (nI W))] [] ((cpF ρ 66 (40 * r) pl W))) : ∀ (nn i : Nat), i ≤ W → W - i < nn → V X u 7 8 Q 128 [(0, .ref (u.2.1 63)), (1, .int (nI W)), (2, .int (nI r)), (5, .int mo), (6, .int (nI i))] [] ((cpF ρ 66 (40 * r) pl i)) := by
  intro nn
  induction nn with
  | zero =>
    intro i h1 h2
    exact absurd h2 (Nat.not_lt_zero _)
  | succ nn ih =>
    intro i hii hnn
    refine v_iload F d_M_best_128 4 rfl ?_
    refine v_iload_n F d_M_best_130 rfl 1 rfl ?_
    refine v_icmp_ge F 159 d_M_best_131 rfl (fun h131 => ?_) (fun h131 => ?_)
    · skip
      have h131 : W ≤ i := (nI_leI (a := W) (b := i) (by omega) (by omega)).mp h131
      have he : i = W := by omega
      subst he
      exact k
    · skip
      have h131 : ¬ W ≤ i := fun q => h131 ((nI_leI (a := W) (b := i) (by omega) (by omega)).mpr q)
      refine v_aload_n F d_M_best_134 rfl 0 rfl ?_
      refine v_getr (r := 66) F fk_M_20 G63 rfl d_M_best_135 ?_
      refine v_bipush (v := 40) F d_M_best_138 kb_40 ?_
      refine v_iload_n F d_M_best_140 rfl 2 rfl ?_
      refine v_imul F d_M_best_141 ?_
      refine v_te (y := nI (40 * r)) (pk_mul _ _) ?_
      refine v_iload F d_M_best_142 4 rfl ?_
      refine v_iadd F d_M_best_144 ?_
      refine v_te (y := nI (40 * r + i)) (nI_add _ _) ?_
      refine v_aload_n F d_M_best_145 rfl 0 rfl ?_
      refine v_getr (r := 83) F fk_M_73 G63 rfl d_M_best_146 ?_
      refine v_iload F d_M_best_149 4 rfl ?_
      refine v_ial F i G83 rfl (by omega) d_M_best_151 ?_
      refine v_te (y := pl i) (by rw [cpF_other _ _ _ _ (by decide)]; exact hp _ (by omega)) ?_
      refine v_ias F (40 * r + i) G66 rfl (by omega) d_M_best_152 ?_
      refine v_ns (fun σ1 eσ1 => ?_)
      refine v_iinc (v := nI (i + 1)) (ls' := [(6, .int (nI (i + 1))), (0, .ref (u.2.1 63)), (1, .int (nI W)), (2, .int (nI r)), (5, .int mo)]) F d_M_best_153 (j := 4) rfl (nI_inc _) (by decide) rfl ?_
      refine v_goto F 128 d_M_best_156 rfl ?_
      refine v_sub [1, 2, 3, 4, 0] (ls' := [(0, .ref (u.2.1 63)), (1, .int (nI W)), (2, .int (nI r)), (5, .int mo), (6, .int (nI (i + 1)))]) rfl ?_
      refine v_st (show σ1 = (cpF ρ 66 (40 * r) pl (i + 1)) from (by first | rfl | (subst_vars; rfl))) ?_
      exact ih (i + 1) (by omega) (by omega)
set_option maxHeartbeats 4000000 in
theorem c_M_best (l : Launch) (u : Un) (hA : Ap u) (σ : St) {n : Nat} {kd : Nat → Nat} (hb : mkOk σ n kd) {a : Nat} (ha : a < 64) (h0 : σ.1 76 0 = nI a) (wk rr : Int32) : MTi l u y_M_best b_M_best 8 .int 7 [.ref (u.2.1 63), .int wk, .int rr] σ (fun ans σ' => ∃ τ, fr σ τ ∧ (ans, σ') = mBest σ τ kd n a wk rr) := by
  refine MT_of hA rfl (by decide) (Nat.le_of_ble_eq_true rfl) (fun X hl F hr => ?_)
  subst hl
  refine v_to (ls' := [(0, .ref (u.2.1 63)), (1, .int wk), (2, .int rr)]) rfl ?_
  obtain ⟨hn, hn6, hkd, hk6⟩ := id hb
  refine v_aload_n F d_M_best_0 rfl 0 rfl ?_
  refine v_iload_n F d_M_best_1 rfl 1 rfl ?_
  refine v_iconst (v := 0) F d_M_best_2 ki_0 ?_
  refine v_iconst (v := 4) F d_M_best_3 ki_4 ?_
  refine v_runi (r_S F (c_M_in X.2.1 u hA σ wk 0 4 ) mo_M_in st_M_89 (by decide) rfl (Nat.le_of_ble_eq_true rfl) d_M_best_4) (fun r1 σ2 q3 => ?_)
  obtain ⟨rfl, rfl⟩ := q3
  refine v_bt F 21 d_M_best_7 rfl (fun h7 => ?_) (fun h7 => ?_)
  · skip
    refine v_iconst (v := 0) F d_M_best_21 ki_0 ?_
    refine v_te (y := bI False) rfl ?_
    refine v_runi (r_V F (c_M_needPlan X.2.1 u hA σ hb (False)) mo_M_needPlan st_M_239 rc_63 (by decide) rfl (Nat.le_of_ble_eq_true rfl) d_M_best_22) (fun r4 σ5 q6 => ?_)
    rcases q6 with ⟨a1, rfl, rfl⟩ | ⟨a1, a2, rfl, rfl⟩ | ⟨a1, a2, rfl, rfl⟩
    · skip
      refine v_istore_n (ls' := [(3, .int (-1)), (0, .ref (u.2.1 63)), (1, .int wk), (2, .int rr)]) F d_M_best_25 rfl (by decide) rfl ?_
      refine v_iload_n F d_M_best_26 rfl 0 rfl ?_
      refine v_if_ge F 32 d_M_best_27 rfl (fun h => absurd h (by decide)) (fun _ => ?_)
      refine v_iload_n F d_M_best_30 rfl 0 rfl ?_
      refine v_iret F hr rfl d_M_best_31 ?_
      refine ⟨σ, fr.rf, ?_⟩
      unfold mBest
      first | (rw [if_pos (by first | assumption | grind)]; done) | (rw [if_neg (by first | exact (fun q => q (by assumption)) | exact fun q => q ⟨by assumption, by assumption⟩), if_pos (by assumption)]; done)
    · exact absurd a1 id
    · exact absurd a1 id
  · skip
    obtain ⟨W, hW, xW, rfl⟩ := nat_of (M := 4) h7.1 h7.2 rfl (by decide)
    refine v_iload_n F d_M_best_10 rfl 2 rfl ?_
    refine v_runi (r_S F (c_M_isRow X.2.1 u hA σ rr ) mo_M_isRow st_M_99 (by decide) rfl (Nat.le_of_ble_eq_true rfl) d_M_best_11) (fun r7 σ8 q9 => ?_)
    obtain ⟨rfl, rfl⟩ := q9
    refine v_bt F 21 d_M_best_14 rfl (fun h14 => ?_) (fun h14 => ?_)
    · skip
      refine v_iconst (v := 0) F d_M_best_21 ki_0 ?_
      refine v_te (y := bI False) rfl ?_
      refine v_runi (r_V F (c_M_needPlan X.2.1 u hA σ hb (False)) mo_M_needPlan st_M_239 rc_63 (by decide) rfl (Nat.le_of_ble_eq_true rfl) d_M_best_22) (fun r10 σ11 q12 => ?_)
      rcases q12 with ⟨a1, rfl, rfl⟩ | ⟨a1, a2, rfl, rfl⟩ | ⟨a1, a2, rfl, rfl⟩
      · skip
        refine v_istore_n (ls' := [(3, .int (-1)), (0, .ref (u.2.1 63)), (1, .int (nI W)), (2, .int rr)]) F d_M_best_25 rfl (by decide) rfl ?_
        refine v_iload_n F d_M_best_26 rfl 0 rfl ?_
        refine v_if_ge F 32 d_M_best_27 rfl (fun h => absurd h (by decide)) (fun _ => ?_)
        refine v_iload_n F d_M_best_30 rfl 0 rfl ?_
        refine v_iret F hr rfl d_M_best_31 ?_
        refine ⟨σ, fr.rf, ?_⟩
        unfold mBest
        first | (rw [if_pos (by first | assumption | grind)]; done) | (rw [if_neg (by first | exact (fun q => q (by assumption)) | exact fun q => q ⟨by assumption, by assumption⟩), if_pos (by assumption)]; done)
      · exact absurd a1 id
      · exact absurd a1 id
    · skip
      obtain ⟨r, hr6, xr, rfl⟩ := inR_nat (N := 6) h14 rfl (by decide)
      refine v_iconst (v := 1) F d_M_best_17 ki_1 ?_
      refine v_goto F 22 d_M_best_18 rfl ?_
      refine v_te (y := bI True) rfl ?_
      refine v_runi (r_V F (c_M_needPlan X.2.1 u hA σ hb (True)) mo_M_needPlan st_M_239 rc_63 (by decide) rfl (Nat.le_of_ble_eq_true rfl) d_M_best_22) (fun r13 σ14 q15 => ?_)
      rcases q15 with ⟨a1, rfl, rfl⟩ | ⟨a1, a2, rfl, rfl⟩ | ⟨a1, a2, rfl, rfl⟩
      · exact absurd trivial a1
      · skip
        refine v_istore_n (ls' := [(3, .int (-4)), (0, .ref (u.2.1 63)), (1, .int (nI W)), (2, .int (nI r))]) F d_M_best_25 rfl (by decide) rfl ?_
        refine v_iload_n F d_M_best_26 rfl 0 rfl ?_
        refine v_if_ge F 32 d_M_best_27 rfl (fun h => absurd h (by decide)) (fun _ => ?_)
        refine v_iload_n F d_M_best_30 rfl 0 rfl ?_
        refine v_iret F hr rfl d_M_best_31 ?_
        refine ⟨σ, fr.rf, ?_⟩
        unfold mBest
        first | (rw [if_pos (by first | assumption | grind)]; done) | (rw [if_neg (by first | exact (fun q => q (by assumption)) | exact fun q => q ⟨by assumption, by assumption⟩), if_pos (by assumption)]; done)
      · skip
        refine v_istore_n (ls' := [(3, .int 0), (0, .ref (u.2.1 63)), (1, .int (nI W)), (2, .int (nI r))]) F d_M_best_25 rfl (by decide) rfl ?_
        refine v_iload_n F d_M_best_26 rfl 0 rfl ?_
        refine v_if_ge F 32 d_M_best_27 rfl (fun _ => ?_) (fun h => absurd (by decide) h)
        refine v_iconst (v := 0) F d_M_best_32 ki_0 ?_
        refine v_istore (ls' := [(4, .int 0), (3, .int 0), (0, .ref (u.2.1 63)), (1, .int (nI W)), (2, .int (nI r))]) F d_M_best_33 (by decide) rfl ?_
        refine v_iconst (v := (-1)) F d_M_best_35 ki_m1 ?_
        refine v_istore (ls' := [(5, .int (-1)), (4, .int 0), (3, .int 0), (0, .ref (u.2.1 63)), (1, .int (nI W)), (2, .int (nI r))]) F d_M_best_36 (by decide) rfl ?_
        refine v_iconst (v := 0) F d_M_best_38 ki_0 ?_
        refine v_istore (ls' := [(6, .int 0), (5, .int (-1)), (4, .int 0), (3, .int 0), (0, .ref (u.2.1 63)), (1, .int (nI W)), (2, .int (nI r))]) F d_M_best_39 (by decide) rfl ?_
        refine v_sub [4, 5, 6, 2, 1, 0] (ls' := [(0, .ref (u.2.1 63)), (1, .int (nI W)), (2, .int (nI r)), (4, .int 0), (5, .int (-1)), (6, .int 0)]) rfl ?_
        have g16 : 0 = (nI ((bsS σ kd n a W 0).1)) := (by first | rfl | (simp_all; done) | grind)
        have g17 : (-1) = ((bsS σ kd n a W 0).2) := (by first | rfl | (simp_all; done) | grind)
        have g18 : 0 = (nI 0) := (by first | rfl | (simp_all; done) | grind)
        refine v_to (ls' := [(0, .ref (u.2.1 63)), (1, .int (nI W)), (2, .int (nI r)), (4, .int (nI ((bsS σ kd n a W 0).1))), (5, .int ((bsS σ kd n a W 0).2)), (6, .int (nI 0))]) (by first | rfl | rw [g16, g17, g18] | simp_all) ?_
        refine L_M_best_41 hA F hb ha h0 hW (fun c τ ec fτ => ?_) _ 0 σ (Nat.zero_le _) fr.rf (Nat.lt_succ_self _)
        subst ec
        refine v_aload_n F d_M_best_110 rfl 0 rfl ?_
        refine v_iload F d_M_best_111 3 rfl ?_
        refine v_iload_n F d_M_best_113 rfl 1 rfl ?_
        refine v_runi (r_V F (c_M_isPlan X.2.1 u hA fτ hb ha h0 ((bsS σ kd n a W (((n + 1) ^ W))).1) W (bs_b _ (pN_b hn6 hW)) hW) mo_M_isPlan st_M_245 rc_63 (by decide) rfl (Nat.le_of_ble_eq_true rfl) d_M_best_114) (fun r19 σ20 q21 => ?_)
        obtain ⟨rfl, fσ20, hpσ20⟩ := q21
        refine v_pop F d_M_best_117 rfl ?_
        refine v_aload_n F d_M_best_118 rfl 0 rfl ?_
        refine v_getr (r := 65) F fk_M_17 G63 rfl d_M_best_119 ?_
        refine v_iload_n F d_M_best_122 rfl 2 rfl ?_
        refine v_iload_n F d_M_best_123 rfl 1 rfl ?_
        refine v_ias F r G65 rfl (by omega) d_M_best_124 ?_
        refine v_ns (fun σ22 eσ22 => ?_)
        refine v_iconst (v := 0) F d_M_best_125 ki_0 ?_
        refine v_istore (ls' := [(6, .int 0), (0, .ref (u.2.1 63)), (1, .int (nI W)), (2, .int (nI r)), (4, .int (nI ((bsS σ kd n a W (((n + 1) ^ W))).1))), (5, .int ((bsS σ kd n a W (((n + 1) ^ W))).2))]) F d_M_best_126 (by decide) rfl ?_
        have hpr : ∀ k, k < W → σ22.1 83 k = plN (n + 1) W (bsS σ kd n a W ((n + 1) ^ W)).1 k := fun k hk => by rw [eσ22, uI_o _ _ _ _ (by decide)]; exact hpσ20 k hk
        refine v_sub [1, 2, 3, 5, 0] (ls' := [(0, .ref (u.2.1 63)), (1, .int (nI W)), (2, .int (nI r)), (5, .int ((bsS σ kd n a W (((n + 1) ^ W))).2)), (6, .int 0)]) rfl ?_
        have g23 : 0 = (nI 0) := (by first | rfl | (subst_vars; rfl))
        refine v_to (ls' := [(0, .ref (u.2.1 63)), (1, .int (nI W)), (2, .int (nI r)), (5, .int ((bsS σ kd n a W (((n + 1) ^ W))).2)), (6, .int (nI 0))]) (by first | rfl | rw [g23] | simp_all) ?_
        refine v_st (show σ22 = (cpF σ22 66 (40 * r) (plN (n + 1) W (bsS σ kd n a W ((n + 1) ^ W)).1) 0) from (by first | rfl | (subst_vars; rfl))) ?_
        refine L_M_best_128 hA F (by omega) hW hpr ?_ _ 0 (Nat.zero_le _) (Nat.lt_succ_self _)
        refine v_iload F d_M_best_159 3 rfl ?_
        refine v_iret F hr rfl d_M_best_161 ?_
        refine ⟨σ20, fσ20, ?_⟩
        unfold mBest
        rw [if_neg (fun q => q ⟨by assumption, by assumption⟩), if_neg (by assumption), xW, xr]
        rw [eσ22]
abbrev b_M_ways : ByteArray := prog_14_method_72_code
abbrev y_M_ways : MethodName := ⟨"TakerBookModel", "ways", "(I)I"⟩
theorem d_M_ways_0 : decode b_M_ways 0 = .ok (.aload_n 0, 1) := by decide +kernel
theorem d_M_ways_1 : decode b_M_ways 1 = .ok (.iload_n 1, 1) := by decide +kernel
theorem d_M_ways_2 : decode b_M_ways 2 = .ok (.iconst 0, 1) := by decide +kernel
theorem d_M_ways_3 : decode b_M_ways 3 = .ok (.iconst 4, 1) := by decide +kernel
theorem d_M_ways_4 : decode b_M_ways 4 = .ok (.invokestatic 89, 3) := by decide +kernel
theorem d_M_ways_7 : decode b_M_ways 7 = .ok (.invokevirtual 239, 3) := by decide +kernel
theorem d_M_ways_10 : decode b_M_ways 10 = .ok (.istore_n 2, 1) := by decide +kernel
theorem d_M_ways_11 : decode b_M_ways 11 = .ok (.iload_n 2, 1) := by decide +kernel
theorem d_M_ways_12 : decode b_M_ways 12 = .ok (.ifCond .ge 5, 3) := by decide +kernel
theorem d_M_ways_15 : decode b_M_ways 15 = .ok (.iload_n 2, 1) := by decide +kernel
theorem d_M_ways_16 : decode b_M_ways 16 = .ok (.ireturn, 1) := by decide +kernel
theorem d_M_ways_17 : decode b_M_ways 17 = .ok (.iconst 0, 1) := by decide +kernel
theorem d_M_ways_18 : decode b_M_ways 18 = .ok (.istore_n 3, 1) := by decide +kernel
theorem d_M_ways_19 : decode b_M_ways 19 = .ok (.iconst 1, 1) := by decide +kernel
theorem d_M_ways_20 : decode b_M_ways 20 = .ok (.aload_n 0, 1) := by decide +kernel
theorem d_M_ways_21 : decode b_M_ways 21 = .ok (.getfield 146, 3) := by decide +kernel
theorem d_M_ways_24 : decode b_M_ways 24 = .ok (.ishl, 1) := by decide +kernel
theorem d_M_ways_25 : decode b_M_ways 25 = .ok (.iconst 1, 1) := by decide +kernel
theorem d_M_ways_26 : decode b_M_ways 26 = .ok (.isub, 1) := by decide +kernel
theorem d_M_ways_27 : decode b_M_ways 27 = .ok (.istore 4, 2) := by decide +kernel
theorem d_M_ways_29 : decode b_M_ways 29 = .ok (.iconst 0, 1) := by decide +kernel
theorem d_M_ways_30 : decode b_M_ways 30 = .ok (.istore 5, 2) := by decide +kernel
theorem d_M_ways_32 : decode b_M_ways 32 = .ok (.iload 5, 2) := by decide +kernel
theorem d_M_ways_34 : decode b_M_ways 34 = .ok (.aload_n 0, 1) := by decide +kernel
theorem d_M_ways_35 : decode b_M_ways 35 = .ok (.iload_n 1, 1) := by decide +kernel
theorem d_M_ways_36 : decode b_M_ways 36 = .ok (.invokevirtual 242, 3) := by decide +kernel
theorem d_M_ways_39 : decode b_M_ways 39 = .ok (.if_icmp .ge 57, 3) := by decide +kernel
theorem d_M_ways_42 : decode b_M_ways 42 = .ok (.aload_n 0, 1) := by decide +kernel
theorem d_M_ways_43 : decode b_M_ways 43 = .ok (.iload 5, 2) := by decide +kernel
theorem d_M_ways_45 : decode b_M_ways 45 = .ok (.iload_n 1, 1) := by decide +kernel
theorem d_M_ways_46 : decode b_M_ways 46 = .ok (.invokevirtual 245, 3) := by decide +kernel
theorem d_M_ways_49 : decode b_M_ways 49 = .ok (.ifCond .eq 41, 3) := by decide +kernel
theorem d_M_ways_52 : decode b_M_ways 52 = .ok (.aload_n 0, 1) := by decide +kernel
theorem d_M_ways_53 : decode b_M_ways 53 = .ok (.iload_n 1, 1) := by decide +kernel
theorem d_M_ways_54 : decode b_M_ways 54 = .ok (.invokevirtual 248, 3) := by decide +kernel
theorem d_M_ways_57 : decode b_M_ways 57 = .ok (.pop, 1) := by decide +kernel
theorem d_M_ways_58 : decode b_M_ways 58 = .ok (.aload_n 0, 1) := by decide +kernel
theorem d_M_ways_59 : decode b_M_ways 59 = .ok (.getfield 236, 3) := by decide +kernel
theorem d_M_ways_62 : decode b_M_ways 62 = .ok (.bipush (-9), 2) := by decide +kernel
theorem d_M_ways_64 : decode b_M_ways 64 = .ok (.if_icmp .ne 26, 3) := by decide +kernel
theorem d_M_ways_67 : decode b_M_ways 67 = .ok (.iinc 3 1, 3) := by decide +kernel
theorem d_M_ways_70 : decode b_M_ways 70 = .ok (.iload 4, 2) := by decide +kernel
theorem d_M_ways_72 : decode b_M_ways 72 = .ok (.aload_n 0, 1) := by decide +kernel
theorem d_M_ways_73 : decode b_M_ways 73 = .ok (.getfield 51, 3) := by decide +kernel
theorem d_M_ways_76 : decode b_M_ways 76 = .ok (.iconst 0, 1) := by decide +kernel
theorem d_M_ways_77 : decode b_M_ways 77 = .ok (.iaload, 1) := by decide +kernel
theorem d_M_ways_78 : decode b_M_ways 78 = .ok (.aload_n 0, 1) := by decide +kernel
theorem d_M_ways_79 : decode b_M_ways 79 = .ok (.getfield 54, 3) := by decide +kernel
theorem d_M_ways_82 : decode b_M_ways 82 = .ok (.iconst 0, 1) := by decide +kernel
theorem d_M_ways_83 : decode b_M_ways 83 = .ok (.iaload, 1) := by decide +kernel
theorem d_M_ways_84 : decode b_M_ways 84 = .ok (.iconst (-1), 1) := by decide +kernel
theorem d_M_ways_85 : decode b_M_ways 85 = .ok (.ixor, 1) := by decide +kernel
theorem d_M_ways_86 : decode b_M_ways 86 = .ok (.iand, 1) := by decide +kernel
theorem d_M_ways_87 : decode b_M_ways 87 = .ok (.iand, 1) := by decide +kernel
theorem d_M_ways_88 : decode b_M_ways 88 = .ok (.istore 4, 2) := by decide +kernel
theorem d_M_ways_90 : decode b_M_ways 90 = .ok (.iinc 5 1, 3) := by decide +kernel
theorem d_M_ways_93 : decode b_M_ways 93 = .ok (.goto (-61), 3) := by decide +kernel
theorem d_M_ways_96 : decode b_M_ways 96 = .ok (.aload_n 0, 1) := by decide +kernel
theorem d_M_ways_97 : decode b_M_ways 97 = .ok (.iload_n 3, 1) := by decide +kernel
theorem d_M_ways_98 : decode b_M_ways 98 = .ok (.i2l, 1) := by decide +kernel
theorem d_M_ways_99 : decode b_M_ways 99 = .ok (.lconst 1, 1) := by decide +kernel
theorem d_M_ways_100 : decode b_M_ways 100 = .ok (.invokevirtual 251, 3) := by decide +kernel
theorem d_M_ways_103 : decode b_M_ways 103 = .ok (.pop, 1) := by decide +kernel
theorem d_M_ways_104 : decode b_M_ways 104 = .ok (.aload_n 0, 1) := by decide +kernel
theorem d_M_ways_105 : decode b_M_ways 105 = .ok (.iload_n 3, 1) := by decide +kernel
theorem d_M_ways_106 : decode b_M_ways 106 = .ok (.ifCond .ne 7, 3) := by decide +kernel
theorem d_M_ways_109 : decode b_M_ways 109 = .ok (.iconst 0, 1) := by decide +kernel
theorem d_M_ways_110 : decode b_M_ways 110 = .ok (.goto 5, 3) := by decide +kernel
theorem d_M_ways_113 : decode b_M_ways 113 = .ok (.iload 4, 2) := by decide +kernel
theorem d_M_ways_115 : decode b_M_ways 115 = .ok (.iconst 1, 1) := by decide +kernel
theorem d_M_ways_116 : decode b_M_ways 116 = .ok (.invokevirtual 111, 3) := by decide +kernel
theorem d_M_ways_119 : decode b_M_ways 119 = .ok (.ireturn, 1) := by decide +kernel
theorem mo_M_ways : mok y_M_ways b_M_ways 6 (some .int) 1 := ⟨List.mem_of_getElem? (i := 1373) (by decide +kernel), ⟨by decide +kernel, by decide +kernel, by decide +kernel⟩, List.mem_of_getElem? (i := 86) (by decide +kernel), by decide⟩
set_option maxHeartbeats 4000000 in
theorem L_M_ways_32 {X : FX} {u : Un} (hA : Ap u) {Q : State → Prop} (F : Fr X u "TakerBookModel" b_M_ways 6) {σ : St} {n : Nat} {kd : Nat → Nat} (hb : mkOk σ n kd) {a : Nat} (ha : a < 64) (h0 : σ.1 76 0 = nI a) {W : Nat} (hW : W ≤ 4) (k0 : ∀ (c : Nat) (τ : St), c = (n + 1) ^ W → fr σ τ → V X u 7 6 Q 96 [(0, .ref (u.2.1 63)), (3, .int (nI ((wyS σ kd n a W c).1))), (4, .int (nI ((wyS σ kd n a W c).2)))] [] (τ)) : ∀ (nn : Nat) (c : Nat) (τ : St), c ≤ (n + 1) ^ W → fr σ τ → (n + 1) ^ W - c < nn → V X u 7 6 Q 32 [(0, .ref (u.2.1 63)), (1, .int (nI W)), (3, .int (nI ((wyS σ kd n a W c).1))), (4, .int (nI ((wyS σ kd n a W c).2))), (5, .int (nI c))] [] (τ) := by
  intro nn
  induction nn with
  | zero =>
    intro c τ hc fτ h2
    exact absurd h2 (Nat.not_lt_zero _)
  | succ nn ih =>
    intro c τ hc fτ hm
    obtain ⟨hn, hn6, hkd, hk6⟩ := id hb
    have hpb := pN_b hn6 hW
    refine v_iload F d_M_ways_32 4 rfl ?_
    refine v_aload_n F d_M_ways_34 rfl 0 rfl ?_
    refine v_iload_n F d_M_ways_35 rfl 1 rfl ?_
    refine v_runi (r_V F (c_M_planCodes X.2.1 u hA fτ hb W hW) mo_M_planCodes st_M_242 rc_63 (by decide) rfl (Nat.le_of_ble_eq_true rfl) d_M_ways_36) (fun r1 σ2 q3 => ?_)
    obtain ⟨rfl, rfl⟩ := q3
    refine v_icmp_ge F 96 d_M_ways_39 rfl (fun h39 => ?_) (fun h39 => ?_)
    · skip
      have h39 : (n + 1) ^ W ≤ c := (nI_leI (a := (n + 1) ^ W) (b := c) (by omega) (by omega)).mp h39
      refine v_sub [0, 2, 3] (ls' := [(0, .ref (u.2.1 63)), (3, .int (nI ((wyS σ kd n a W c).1))), (4, .int (nI ((wyS σ kd n a W c).2)))]) rfl ?_
      exact k0 c τ (by omega) fτ
    · skip
      have h39 : ¬ (n + 1) ^ W ≤ c := fun q => h39 ((nI_leI (a := (n + 1) ^ W) (b := c) (by omega) (by omega)).mpr q)
      refine v_aload_n F d_M_ways_42 rfl 0 rfl ?_
      refine v_iload F d_M_ways_43 4 rfl ?_
      refine v_iload_n F d_M_ways_45 rfl 1 rfl ?_
      refine v_runi (r_V F (c_M_isPlan X.2.1 u hA fτ hb ha h0 c W (by omega) hW) mo_M_isPlan st_M_245 rc_63 (by decide) rfl (Nat.le_of_ble_eq_true rfl) d_M_ways_46) (fun r4 σ5 q6 => ?_)
      obtain ⟨rfl, fσ5, hpσ5⟩ := q6
      refine v_bt F 90 d_M_ways_49 rfl (fun h49 => ?_) (fun h49 => ?_)
      · skip
        refine v_iinc (v := nI (c + 1)) (ls' := [(5, .int (nI (c + 1))), (0, .ref (u.2.1 63)), (1, .int (nI W)), (3, .int (nI ((wyS σ kd n a W c).1))), (4, .int (nI ((wyS σ kd n a W c).2)))]) F d_M_ways_90 (j := 4) rfl (nI_inc _) (by decide) rfl ?_
        refine v_goto F 32 d_M_ways_93 rfl ?_
        refine v_sub [1, 2, 3, 4, 0] (ls' := [(0, .ref (u.2.1 63)), (1, .int (nI W)), (3, .int (nI ((wyS σ kd n a W c).1))), (4, .int (nI ((wyS σ kd n a W c).2))), (5, .int (nI (c + 1)))]) rfl ?_
        have g7 : (nI ((wyS σ kd n a W c).1)) = (nI ((wyS σ kd n a W (c + 1)).1)) := (by first | rfl | (rw [wy_t ⟨by assumption, by assumption⟩]; first | done | rfl) | (rw [wy_f (fun q => absurd q.1 (by assumption))]; done) | (rw [wy_f (fun q => absurd q.2 (by assumption))]; done))
        have g8 : (nI ((wyS σ kd n a W c).2)) = (nI ((wyS σ kd n a W (c + 1)).2)) := (by first | rfl | (rw [wy_t ⟨by assumption, by assumption⟩]; first | done | rfl) | (rw [wy_f (fun q => absurd q.1 (by assumption))]; done) | (rw [wy_f (fun q => absurd q.2 (by assumption))]; done))
        refine v_to (ls' := [(0, .ref (u.2.1 63)), (1, .int (nI W)), (3, .int (nI ((wyS σ kd n a W (c + 1)).1))), (4, .int (nI ((wyS σ kd n a W (c + 1)).2))), (5, .int (nI (c + 1)))]) (by first | rfl | rw [g7, g8] | simp_all) ?_
        exact ih (c + 1) (σ5) (by omega) fσ5 (by omega)
      · skip
        refine v_aload_n F d_M_ways_52 rfl 0 rfl ?_
        refine v_iload_n F d_M_ways_53 rfl 1 rfl ?_
        refine v_runi (r_V F (c_M_goes X.2.1 u hA fσ5 hb ha h0 (pl := (plN (n + 1) W c)) hW (fun k hk => plN_or) hpσ5) mo_M_goes st_M_248 rc_63 (by decide) rfl (Nat.le_of_ble_eq_true rfl) d_M_ways_54) (fun r9 σ10 q11 => ?_)
        obtain ⟨rfl, fσ10, htσ10, hLσ10⟩ := q11
        refine v_pop F d_M_ways_57 rfl ?_
        refine v_aload_n F d_M_ways_58 rfl 0 rfl ?_
        refine v_geti F fk_M_236 G63 rfl d_M_ways_59 ?_
        refine v_te (y := oI (gzS σ kd n a (plN (n + 1) W c) W).t) htσ10 ?_
        refine v_bipush (v := (-9)) F d_M_ways_62 kb_m9 ?_
        refine v_icmp_ne F 90 d_M_ways_64 rfl (fun h64 => ?_) (fun h64 => ?_)
        · skip
          have htn : ¬ (gzS σ kd n a (plN (n + 1) W c) W).t = none := fun q => h64 ((gz_9 hW).mpr q)
          refine v_iinc (v := nI (c + 1)) (ls' := [(5, .int (nI (c + 1))), (0, .ref (u.2.1 63)), (1, .int (nI W)), (3, .int (nI ((wyS σ kd n a W c).1))), (4, .int (nI ((wyS σ kd n a W c).2)))]) F d_M_ways_90 (j := 4) rfl (nI_inc _) (by decide) rfl ?_
          refine v_goto F 32 d_M_ways_93 rfl ?_
          refine v_sub [1, 2, 3, 4, 0] (ls' := [(0, .ref (u.2.1 63)), (1, .int (nI W)), (3, .int (nI ((wyS σ kd n a W c).1))), (4, .int (nI ((wyS σ kd n a W c).2))), (5, .int (nI (c + 1)))]) rfl ?_
          have g12 : (nI ((wyS σ kd n a W c).1)) = (nI ((wyS σ kd n a W (c + 1)).1)) := (by first | rfl | (rw [wy_t ⟨by assumption, by assumption⟩]; first | done | rfl) | (rw [wy_f (fun q => absurd q.1 (by assumption))]; done) | (rw [wy_f (fun q => absurd q.2 (by assumption))]; done))
          have g13 : (nI ((wyS σ kd n a W c).2)) = (nI ((wyS σ kd n a W (c + 1)).2)) := (by first | rfl | (rw [wy_t ⟨by assumption, by assumption⟩]; first | done | rfl) | (rw [wy_f (fun q => absurd q.1 (by assumption))]; done) | (rw [wy_f (fun q => absurd q.2 (by assumption))]; done))
          refine v_to (ls' := [(0, .ref (u.2.1 63)), (1, .int (nI W)), (3, .int (nI ((wyS σ kd n a W (c + 1)).1))), (4, .int (nI ((wyS σ kd n a W (c + 1)).2))), (5, .int (nI (c + 1)))]) (by first | rfl | rw [g12, g13] | simp_all) ?_
          exact ih (c + 1) (σ10) (by omega) fσ10 (by omega)
        · skip
          have htn := (gz_9 hW).mp h64
          refine v_iinc (v := nI ((wyS σ kd n a W c).1 + 1)) (ls' := [(3, .int (nI ((wyS σ kd n a W c).1 + 1))), (0, .ref (u.2.1 63)), (1, .int (nI W)), (4, .int (nI ((wyS σ kd n a W c).2))), (5, .int (nI c))]) F d_M_ways_67 (j := 2) rfl (nI_inc _) (by decide) rfl ?_
          refine v_iload F d_M_ways_70 3 rfl ?_
          refine v_aload_n F d_M_ways_72 rfl 1 rfl ?_
          refine v_getr (r := 76) F fk_M_51 G63 rfl d_M_ways_73 ?_
          refine v_iconst (v := 0) F d_M_ways_76 ki_0 ?_
          refine v_ial F 0 G76 rfl (by omega) d_M_ways_77 ?_
          refine v_te (y := nI a) (fσ10.v rfl h0) ?_
          refine v_aload_n F d_M_ways_78 rfl 1 rfl ?_
          refine v_getr (r := 77) F fk_M_54 G63 rfl d_M_ways_79 ?_
          refine v_iconst (v := 0) F d_M_ways_82 ki_0 ?_
          refine v_ial F 0 G77 rfl (by omega) d_M_ways_83 ?_
          refine v_te (y := nI (gzS σ kd n a (plN (n + 1) W c) W).L) hLσ10 ?_
          refine v_iconst (v := (-1)) F d_M_ways_84 ki_m1 ?_
          refine v_ixor F d_M_ways_85 ?_
          refine v_iand F d_M_ways_86 ?_
          refine v_te (y := nI (a &&& (63 ^^^ (gzS σ kd n a (plN (n + 1) W c) W).L))) (sub6 ha (gz_64 ha W)) ?_
          refine v_iand F d_M_ways_87 ?_
          refine v_te (y := nI ((wyS σ kd n a W c).2 &&& (a &&& (63 ^^^ (gzS σ kd n a (plN (n + 1) W c) W).L)))) nI_and ?_
          refine v_istore (ls' := [(4, .int (nI ((wyS σ kd n a W c).2 &&& (a &&& (63 ^^^ (gzS σ kd n a (plN (n + 1) W c) W).L))))), (3, .int (nI ((wyS σ kd n a W c).1 + 1))), (0, .ref (u.2.1 63)), (1, .int (nI W)), (5, .int (nI c))]) F d_M_ways_88 (by decide) rfl ?_
          refine v_iinc (v := nI (c + 1)) (ls' := [(5, .int (nI (c + 1))), (4, .int (nI ((wyS σ kd n a W c).2 &&& (a &&& (63 ^^^ (gzS σ kd n a (plN (n + 1) W c) W).L))))), (3, .int (nI ((wyS σ kd n a W c).1 + 1))), (0, .ref (u.2.1 63)), (1, .int (nI W))]) F d_M_ways_90 (j := 4) rfl (nI_inc _) (by decide) rfl ?_
          refine v_goto F 32 d_M_ways_93 rfl ?_
          refine v_sub [3, 4, 2, 1, 0] (ls' := [(0, .ref (u.2.1 63)), (1, .int (nI W)), (3, .int (nI ((wyS σ kd n a W c).1 + 1))), (4, .int (nI ((wyS σ kd n a W c).2 &&& (a &&& (63 ^^^ (gzS σ kd n a (plN (n + 1) W c) W).L))))), (5, .int (nI (c + 1)))]) rfl ?_
          have g14 : (nI ((wyS σ kd n a W c).1 + 1)) = (nI ((wyS σ kd n a W (c + 1)).1)) := (by first | rfl | (rw [wy_t ⟨by assumption, by assumption⟩]; first | done | rfl) | (rw [wy_f (fun q => absurd q.1 (by assumption))]; done) | (rw [wy_f (fun q => absurd q.2 (by assumption))]; done))
          have g15 : (nI ((wyS σ kd n a W c).2 &&& (a &&& (63 ^^^ (gzS σ kd n a (plN (n + 1) W c) W).L)))) = (nI ((wyS σ kd n a W (c + 1)).2)) := (by first | rfl | (rw [wy_t ⟨by assumption, by assumption⟩]; first | done | rfl) | (rw [wy_f (fun q => absurd q.1 (by assumption))]; done) | (rw [wy_f (fun q => absurd q.2 (by assumption))]; done))
          refine v_to (ls' := [(0, .ref (u.2.1 63)), (1, .int (nI W)), (3, .int (nI ((wyS σ kd n a W (c + 1)).1))), (4, .int (nI ((wyS σ kd n a W (c + 1)).2))), (5, .int (nI (c + 1)))]) (by first | rfl | rw [g14, g15] | simp_all) ?_
          exact ih (c + 1) (σ10) (by omega) fσ10 (by omega)
set_option maxHeartbeats 4000000 in
theorem c_M_ways (l : Launch) (u : Un) (hA : Ap u) (σ : St) {n : Nat} {kd : Nat → Nat} (hb : mkOk σ n kd) {a : Nat} (ha : a < 64) (h0 : σ.1 76 0 = nI a) (wk : Int32) : MTi l u y_M_ways b_M_ways 6 .int 7 [.ref (u.2.1 63), .int wk] σ (fun ans σ' => ∃ τ, fr σ τ ∧ (ans, σ') = mWays σ τ kd n a wk) := by
  refine MT_of hA rfl (by decide) (Nat.le_of_ble_eq_true rfl) (fun X hl F hr => ?_)
  subst hl
  refine v_to (ls' := [(0, .ref (u.2.1 63)), (1, .int wk)]) rfl ?_
  obtain ⟨hn, hn6, hkd, hk6⟩ := id hb
  refine v_aload_n F d_M_ways_0 rfl 0 rfl ?_
  refine v_iload_n F d_M_ways_1 rfl 1 rfl ?_
  refine v_iconst (v := 0) F d_M_ways_2 ki_0 ?_
  refine v_iconst (v := 4) F d_M_ways_3 ki_4 ?_
  refine v_runi (r_S F (c_M_in X.2.1 u hA σ wk 0 4 ) mo_M_in st_M_89 (by decide) rfl (Nat.le_of_ble_eq_true rfl) d_M_ways_4) (fun r1 σ2 q3 => ?_)
  obtain ⟨rfl, rfl⟩ := q3
  refine v_runi (r_V F (c_M_needPlan X.2.1 u hA σ hb (0 ≤ wk ∧ wk ≤ 4)) mo_M_needPlan st_M_239 rc_63 (by decide) rfl (Nat.le_of_ble_eq_true rfl) d_M_ways_7) (fun r4 σ5 q6 => ?_)
  rcases q6 with ⟨a1, rfl, rfl⟩ | ⟨a1, a2, rfl, rfl⟩ | ⟨a1, a2, rfl, rfl⟩
  · skip
    refine v_istore_n (ls' := [(2, .int (-1)), (0, .ref (u.2.1 63)), (1, .int wk)]) F d_M_ways_10 rfl (by decide) rfl ?_
    refine v_iload_n F d_M_ways_11 rfl 0 rfl ?_
    refine v_if_ge F 17 d_M_ways_12 rfl (fun h => absurd h (by decide)) (fun _ => ?_)
    refine v_iload_n F d_M_ways_15 rfl 0 rfl ?_
    refine v_iret F hr rfl d_M_ways_16 ?_
    refine ⟨σ, fr.rf, ?_⟩
    unfold mWays
    first | (rw [if_pos (by first | assumption | grind)]; done) | (rw [if_neg (by first | exact (fun q => q (by assumption)) | exact fun q => q ⟨by assumption, by assumption⟩), if_pos (by assumption)]; done)
  · skip
    refine v_istore_n (ls' := [(2, .int (-4)), (0, .ref (u.2.1 63)), (1, .int wk)]) F d_M_ways_10 rfl (by decide) rfl ?_
    refine v_iload_n F d_M_ways_11 rfl 0 rfl ?_
    refine v_if_ge F 17 d_M_ways_12 rfl (fun h => absurd h (by decide)) (fun _ => ?_)
    refine v_iload_n F d_M_ways_15 rfl 0 rfl ?_
    refine v_iret F hr rfl d_M_ways_16 ?_
    refine ⟨σ, fr.rf, ?_⟩
    unfold mWays
    first | (rw [if_pos (by first | assumption | grind)]; done) | (rw [if_neg (by first | exact (fun q => q (by assumption)) | exact fun q => q ⟨by assumption, by assumption⟩), if_pos (by assumption)]; done)
  · skip
    refine v_istore_n (ls' := [(2, .int 0), (0, .ref (u.2.1 63)), (1, .int wk)]) F d_M_ways_10 rfl (by decide) rfl ?_
    refine v_iload_n F d_M_ways_11 rfl 0 rfl ?_
    refine v_if_ge F 17 d_M_ways_12 rfl (fun _ => ?_) (fun h => absurd (by decide) h)
    refine v_iconst (v := 0) F d_M_ways_17 ki_0 ?_
    refine v_istore_n (ls' := [(3, .int 0), (2, .int 0), (0, .ref (u.2.1 63)), (1, .int wk)]) F d_M_ways_18 rfl (by decide) rfl ?_
    refine v_iconst (v := 1) F d_M_ways_19 ki_1 ?_
    refine v_aload_n F d_M_ways_20 rfl 2 rfl ?_
    refine v_geti F fk_M_146 G63 rfl d_M_ways_21 ?_
    refine v_te (y := nI n) hn ?_
    refine v_ishl F d_M_ways_24 ?_
    refine v_te (y := nI (2 ^ n)) (bit6 _ (by omega)) ?_
    refine v_iconst (v := 1) F d_M_ways_25 ki_1 ?_
    refine v_isub F d_M_ways_26 ?_
    refine v_te (y := nI (2 ^ n - 1)) (nI_pred1 (p2_pos n)) ?_
    refine v_istore (ls' := [(4, .int (nI (2 ^ n - 1))), (3, .int 0), (2, .int 0), (0, .ref (u.2.1 63)), (1, .int wk)]) F d_M_ways_27 (by decide) rfl ?_
    refine v_iconst (v := 0) F d_M_ways_29 ki_0 ?_
    refine v_istore (ls' := [(5, .int 0), (4, .int (nI (2 ^ n - 1))), (3, .int 0), (2, .int 0), (0, .ref (u.2.1 63)), (1, .int wk)]) F d_M_ways_30 (by decide) rfl ?_
    obtain ⟨W, hW, xW, rfl⟩ := nat_of (M := 4) a1.1 a1.2 rfl (by decide)
    refine v_sub [4, 5, 2, 1, 0] (ls' := [(0, .ref (u.2.1 63)), (1, .int (nI W)), (3, .int 0), (4, .int (nI (2 ^ n - 1))), (5, .int 0)]) rfl ?_
    have g7 : 0 = (nI ((wyS σ kd n a W 0).1)) := (by first | rfl | (simp_all; done) | grind)
    have g8 : (nI (2 ^ n - 1)) = (nI ((wyS σ kd n a W 0).2)) := (by first | rfl | (simp_all; done) | grind)
    have g9 : 0 = (nI 0) := (by first | rfl | (simp_all; done) | grind)
    refine v_to (ls' := [(0, .ref (u.2.1 63)), (1, .int (nI W)), (3, .int (nI ((wyS σ kd n a W 0).1))), (4, .int (nI ((wyS σ kd n a W 0).2))), (5, .int (nI 0))]) (by first | rfl | rw [g7, g8, g9] | simp_all) ?_
    refine L_M_ways_32 hA F hb ha h0 hW (fun c τ ec fτ => ?_) _ 0 σ (Nat.zero_le _) fr.rf (Nat.lt_succ_self _)
    subst ec
    have hpb := pN_b hn6 hW
    have hwb := wy_b (σ := σ) (kd := kd) (n := n) (a := a) (W := W) ((n + 1) ^ W)
    refine v_aload_n F d_M_ways_96 rfl 0 rfl ?_
    refine v_iload_n F d_M_ways_97 rfl 1 rfl ?_
    refine v_i2l F d_M_ways_98 ?_
    refine v_tl (y := (lN (wyS σ kd n a W ((n + 1) ^ W)).1)) (nI_l (by omega)) ?_
    refine v_lconst (v := 1) F d_M_ways_99 rfl ?_
    refine v_runi (r_V F (c_M_fraction X.2.1 u hA τ (wyS σ kd n a W ((n + 1) ^ W)).1 1 (by omega) (by omega) (by omega)) mo_M_fraction st_M_251 rc_63 (by decide) rfl (Nat.le_of_ble_eq_true rfl) d_M_ways_100) (fun r10 σ11 q12 => ?_)
    obtain ⟨rfl, eσ11⟩ := q12
    refine v_pop F d_M_ways_103 rfl ?_
    refine v_aload_n F d_M_ways_104 rfl 0 rfl ?_
    refine v_iload_n F d_M_ways_105 rfl 1 rfl ?_
    refine v_if_ne F 113 d_M_ways_106 rfl (fun h106 => ?_) (fun h106 => ?_)
    · skip
      have h106 : ¬ (wyS σ kd n a W (((n + 1) ^ W))).1 = 0 := fun q => h106 ((nI_eq (a := (wyS σ kd n a W (((n + 1) ^ W))).1) (b := 0) (by omega) (by omega)).mpr q)
      refine v_iload F d_M_ways_113 2 rfl ?_
      refine v_iconst (v := 1) F d_M_ways_115 ki_1 ?_
      refine v_runi (r_V F (c_M_tells X.2.1 u hA σ11 (nI ((wyS σ kd n a W (((n + 1) ^ W))).2)) 1) mo_M_tells st_M_111 rc_63 (by decide) rfl (Nat.le_of_ble_eq_true rfl) d_M_ways_116) (fun r13 σ14 q15 => ?_)
      obtain ⟨rfl, eσ14⟩ := q15
      refine v_iret F hr rfl d_M_ways_119 ?_
      refine ⟨τ, fτ, ?_⟩
      unfold mWays
      rw [if_neg (fun q => q (by assumption)), if_neg (by assumption), xW]
      subst_vars
      simp only [Nat.gcd_one_right, Nat.div_one]
      first | (rw [if_pos (by assumption)]; done) | (rw [if_neg (by assumption)]; done)
    · skip
      have h106 : (wyS σ kd n a W (((n + 1) ^ W))).1 = 0 := (nI_eq (a := (wyS σ kd n a W (((n + 1) ^ W))).1) (b := 0) (by omega) (by omega)).mp h106
      refine v_iconst (v := 0) F d_M_ways_109 ki_0 ?_
      refine v_goto F 115 d_M_ways_110 rfl ?_
      refine v_iconst (v := 1) F d_M_ways_115 ki_1 ?_
      refine v_runi (r_V F (c_M_tells X.2.1 u hA σ11 0 1) mo_M_tells st_M_111 rc_63 (by decide) rfl (Nat.le_of_ble_eq_true rfl) d_M_ways_116) (fun r16 σ17 q18 => ?_)
      obtain ⟨rfl, eσ17⟩ := q18
      refine v_iret F hr rfl d_M_ways_119 ?_
      refine ⟨τ, fτ, ?_⟩
      unfold mWays
      rw [if_neg (fun q => q (by assumption)), if_neg (by assumption), xW]
      subst_vars
      simp only [Nat.gcd_one_right, Nat.div_one]
      first | (rw [if_pos (by assumption)]; done) | (rw [if_neg (by assumption)]; done)
abbrev b_M_brings : ByteArray := prog_14_method_73_code
abbrev y_M_brings : MethodName := ⟨"TakerBookModel", "brings", "(I)I"⟩
theorem d_M_brings_0 : decode b_M_brings 0 = .ok (.aload_n 0, 1) := by decide +kernel
theorem d_M_brings_1 : decode b_M_brings 1 = .ok (.iload_n 1, 1) := by decide +kernel
theorem d_M_brings_2 : decode b_M_brings 2 = .ok (.invokestatic 99, 3) := by decide +kernel
theorem d_M_brings_5 : decode b_M_brings 5 = .ok (.invokevirtual 239, 3) := by decide +kernel
theorem d_M_brings_8 : decode b_M_brings 8 = .ok (.istore_n 2, 1) := by decide +kernel
theorem d_M_brings_9 : decode b_M_brings 9 = .ok (.iload_n 2, 1) := by decide +kernel
theorem d_M_brings_10 : decode b_M_brings 10 = .ok (.ifCond .ge 5, 3) := by decide +kernel
theorem d_M_brings_13 : decode b_M_brings 13 = .ok (.iload_n 2, 1) := by decide +kernel
theorem d_M_brings_14 : decode b_M_brings 14 = .ok (.ireturn, 1) := by decide +kernel
theorem d_M_brings_15 : decode b_M_brings 15 = .ok (.aload_n 0, 1) := by decide +kernel
theorem d_M_brings_16 : decode b_M_brings 16 = .ok (.getfield 17, 3) := by decide +kernel
theorem d_M_brings_19 : decode b_M_brings 19 = .ok (.iload_n 1, 1) := by decide +kernel
theorem d_M_brings_20 : decode b_M_brings 20 = .ok (.iaload, 1) := by decide +kernel
theorem d_M_brings_21 : decode b_M_brings 21 = .ok (.ifCond .ge 9, 3) := by decide +kernel
theorem d_M_brings_24 : decode b_M_brings 24 = .ok (.aload_n 0, 1) := by decide +kernel
theorem d_M_brings_25 : decode b_M_brings 25 = .ok (.iconst 1, 1) := by decide +kernel
theorem d_M_brings_26 : decode b_M_brings 26 = .ok (.invokevirtual 103, 3) := by decide +kernel
theorem d_M_brings_29 : decode b_M_brings 29 = .ok (.ireturn, 1) := by decide +kernel
theorem d_M_brings_30 : decode b_M_brings 30 = .ok (.aload_n 0, 1) := by decide +kernel
theorem d_M_brings_31 : decode b_M_brings 31 = .ok (.getfield 17, 3) := by decide +kernel
theorem d_M_brings_34 : decode b_M_brings 34 = .ok (.iload_n 1, 1) := by decide +kernel
theorem d_M_brings_35 : decode b_M_brings 35 = .ok (.iaload, 1) := by decide +kernel
theorem d_M_brings_36 : decode b_M_brings 36 = .ok (.iconst 4, 1) := by decide +kernel
theorem d_M_brings_37 : decode b_M_brings 37 = .ok (.if_icmp .le 9, 3) := by decide +kernel
theorem d_M_brings_40 : decode b_M_brings 40 = .ok (.aload_n 0, 1) := by decide +kernel
theorem d_M_brings_41 : decode b_M_brings 41 = .ok (.iconst 5, 1) := by decide +kernel
theorem d_M_brings_42 : decode b_M_brings 42 = .ok (.invokevirtual 103, 3) := by decide +kernel
theorem d_M_brings_45 : decode b_M_brings 45 = .ok (.ireturn, 1) := by decide +kernel
theorem d_M_brings_46 : decode b_M_brings 46 = .ok (.iconst 0, 1) := by decide +kernel
theorem d_M_brings_47 : decode b_M_brings 47 = .ok (.istore_n 3, 1) := by decide +kernel
theorem d_M_brings_48 : decode b_M_brings 48 = .ok (.iconst 1, 1) := by decide +kernel
theorem d_M_brings_49 : decode b_M_brings 49 = .ok (.istore 4, 2) := by decide +kernel
theorem d_M_brings_51 : decode b_M_brings 51 = .ok (.iconst 0, 1) := by decide +kernel
theorem d_M_brings_52 : decode b_M_brings 52 = .ok (.istore 5, 2) := by decide +kernel
theorem d_M_brings_54 : decode b_M_brings 54 = .ok (.iload 5, 2) := by decide +kernel
theorem d_M_brings_56 : decode b_M_brings 56 = .ok (.aload_n 0, 1) := by decide +kernel
theorem d_M_brings_57 : decode b_M_brings 57 = .ok (.getfield 17, 3) := by decide +kernel
theorem d_M_brings_60 : decode b_M_brings 60 = .ok (.iload_n 1, 1) := by decide +kernel
theorem d_M_brings_61 : decode b_M_brings 61 = .ok (.iaload, 1) := by decide +kernel
theorem d_M_brings_62 : decode b_M_brings 62 = .ok (.if_icmp .ge 98, 3) := by decide +kernel
theorem d_M_brings_65 : decode b_M_brings 65 = .ok (.aload_n 0, 1) := by decide +kernel
theorem d_M_brings_66 : decode b_M_brings 66 = .ok (.iload_n 1, 1) := by decide +kernel
theorem d_M_brings_67 : decode b_M_brings 67 = .ok (.iload 5, 2) := by decide +kernel
theorem d_M_brings_69 : decode b_M_brings 69 = .ok (.invokevirtual 107, 3) := by decide +kernel
theorem d_M_brings_72 : decode b_M_brings 72 = .ok (.istore 6, 2) := by decide +kernel
theorem d_M_brings_74 : decode b_M_brings 74 = .ok (.aload_n 0, 1) := by decide +kernel
theorem d_M_brings_75 : decode b_M_brings 75 = .ok (.getfield 73, 3) := by decide +kernel
theorem d_M_brings_78 : decode b_M_brings 78 = .ok (.iload 5, 2) := by decide +kernel
theorem d_M_brings_80 : decode b_M_brings 80 = .ok (.iload 6, 2) := by decide +kernel
theorem d_M_brings_82 : decode b_M_brings 82 = .ok (.iastore, 1) := by decide +kernel
theorem d_M_brings_83 : decode b_M_brings 83 = .ok (.iload 4, 2) := by decide +kernel
theorem d_M_brings_85 : decode b_M_brings 85 = .ok (.ifCond .eq 46, 3) := by decide +kernel
theorem d_M_brings_88 : decode b_M_brings 88 = .ok (.iload 6, 2) := by decide +kernel
theorem d_M_brings_90 : decode b_M_brings 90 = .ok (.bipush (-9), 2) := by decide +kernel
theorem d_M_brings_92 : decode b_M_brings 92 = .ok (.if_icmp .eq 35, 3) := by decide +kernel
theorem d_M_brings_95 : decode b_M_brings 95 = .ok (.aload_n 0, 1) := by decide +kernel
theorem d_M_brings_96 : decode b_M_brings 96 = .ok (.iload 6, 2) := by decide +kernel
theorem d_M_brings_98 : decode b_M_brings 98 = .ok (.invokevirtual 191, 3) := by decide +kernel
theorem d_M_brings_101 : decode b_M_brings 101 = .ok (.ifCond .eq 30, 3) := by decide +kernel
theorem d_M_brings_104 : decode b_M_brings 104 = .ok (.aload_n 0, 1) := by decide +kernel
theorem d_M_brings_105 : decode b_M_brings 105 = .ok (.getfield 51, 3) := by decide +kernel
theorem d_M_brings_108 : decode b_M_brings 108 = .ok (.iconst 0, 1) := by decide +kernel
theorem d_M_brings_109 : decode b_M_brings 109 = .ok (.iaload, 1) := by decide +kernel
theorem d_M_brings_110 : decode b_M_brings 110 = .ok (.iload 6, 2) := by decide +kernel
theorem d_M_brings_112 : decode b_M_brings 112 = .ok (.invokestatic 155, 3) := by decide +kernel
theorem d_M_brings_115 : decode b_M_brings 115 = .ok (.ifCond .eq 16, 3) := by decide +kernel
theorem d_M_brings_118 : decode b_M_brings 118 = .ok (.iload_n 3, 1) := by decide +kernel
theorem d_M_brings_119 : decode b_M_brings 119 = .ok (.iload 6, 2) := by decide +kernel
theorem d_M_brings_121 : decode b_M_brings 121 = .ok (.invokestatic 155, 3) := by decide +kernel
theorem d_M_brings_124 : decode b_M_brings 124 = .ok (.ifCond .ne 7, 3) := by decide +kernel
theorem d_M_brings_127 : decode b_M_brings 127 = .ok (.iconst 1, 1) := by decide +kernel
theorem d_M_brings_128 : decode b_M_brings 128 = .ok (.goto 4, 3) := by decide +kernel
theorem d_M_brings_131 : decode b_M_brings 131 = .ok (.iconst 0, 1) := by decide +kernel
theorem d_M_brings_132 : decode b_M_brings 132 = .ok (.istore 4, 2) := by decide +kernel
theorem d_M_brings_134 : decode b_M_brings 134 = .ok (.iload_n 3, 1) := by decide +kernel
theorem d_M_brings_135 : decode b_M_brings 135 = .ok (.aload_n 0, 1) := by decide +kernel
theorem d_M_brings_136 : decode b_M_brings 136 = .ok (.iload 6, 2) := by decide +kernel
theorem d_M_brings_138 : decode b_M_brings 138 = .ok (.invokevirtual 191, 3) := by decide +kernel
theorem d_M_brings_141 : decode b_M_brings 141 = .ok (.ifCond .eq 10, 3) := by decide +kernel
theorem d_M_brings_144 : decode b_M_brings 144 = .ok (.iconst 1, 1) := by decide +kernel
theorem d_M_brings_145 : decode b_M_brings 145 = .ok (.iload 6, 2) := by decide +kernel
theorem d_M_brings_147 : decode b_M_brings 147 = .ok (.ishl, 1) := by decide +kernel
theorem d_M_brings_148 : decode b_M_brings 148 = .ok (.goto 4, 3) := by decide +kernel
theorem d_M_brings_151 : decode b_M_brings 151 = .ok (.iconst 0, 1) := by decide +kernel
theorem d_M_brings_152 : decode b_M_brings 152 = .ok (.ior, 1) := by decide +kernel
theorem d_M_brings_153 : decode b_M_brings 153 = .ok (.istore_n 3, 1) := by decide +kernel
theorem d_M_brings_154 : decode b_M_brings 154 = .ok (.iinc 5 1, 3) := by decide +kernel
theorem d_M_brings_157 : decode b_M_brings 157 = .ok (.goto (-103), 3) := by decide +kernel
theorem d_M_brings_160 : decode b_M_brings 160 = .ok (.iload 4, 2) := by decide +kernel
theorem d_M_brings_162 : decode b_M_brings 162 = .ok (.ifCond .ne 9, 3) := by decide +kernel
theorem d_M_brings_165 : decode b_M_brings 165 = .ok (.aload_n 0, 1) := by decide +kernel
theorem d_M_brings_166 : decode b_M_brings 166 = .ok (.iconst 3, 1) := by decide +kernel
theorem d_M_brings_167 : decode b_M_brings 167 = .ok (.invokevirtual 103, 3) := by decide +kernel
theorem d_M_brings_170 : decode b_M_brings 170 = .ok (.ireturn, 1) := by decide +kernel
theorem d_M_brings_171 : decode b_M_brings 171 = .ok (.aload_n 0, 1) := by decide +kernel
theorem d_M_brings_172 : decode b_M_brings 172 = .ok (.aload_n 0, 1) := by decide +kernel
theorem d_M_brings_173 : decode b_M_brings 173 = .ok (.getfield 17, 3) := by decide +kernel
theorem d_M_brings_176 : decode b_M_brings 176 = .ok (.iload_n 1, 1) := by decide +kernel
theorem d_M_brings_177 : decode b_M_brings 177 = .ok (.iaload, 1) := by decide +kernel
theorem d_M_brings_178 : decode b_M_brings 178 = .ok (.invokevirtual 248, 3) := by decide +kernel
theorem d_M_brings_181 : decode b_M_brings 181 = .ok (.istore 5, 2) := by decide +kernel
theorem d_M_brings_183 : decode b_M_brings 183 = .ok (.aload_n 0, 1) := by decide +kernel
theorem d_M_brings_184 : decode b_M_brings 184 = .ok (.aload_n 0, 1) := by decide +kernel
theorem d_M_brings_185 : decode b_M_brings 185 = .ok (.getfield 236, 3) := by decide +kernel
theorem d_M_brings_188 : decode b_M_brings 188 = .ok (.iload 5, 2) := by decide +kernel
theorem d_M_brings_190 : decode b_M_brings 190 = .ok (.invokevirtual 111, 3) := by decide +kernel
theorem d_M_brings_193 : decode b_M_brings 193 = .ok (.ireturn, 1) := by decide +kernel
theorem mo_M_brings : mok y_M_brings b_M_brings 7 (some .int) 1 := ⟨List.mem_of_getElem? (i := 1381) (by decide +kernel), ⟨by decide +kernel, by decide +kernel, by decide +kernel⟩, List.mem_of_getElem? (i := 86) (by decide +kernel), by decide⟩
set_option maxHeartbeats 4000000 in
theorem L_M_brings_54 {X : FX} {u : Un} (hA : Ap u) {Q : State → Prop} (F : Fr X u "TakerBookModel" b_M_brings 7) {σ : St} {n : Nat} {kd : Nat → Nat} (hb : mkOk σ n kd) {a : Nat} (ha : a < 64) (h0 : σ.1 76 0 = nI a) {ro N : Nat} (hro : ro < 6) (hN : N ≤ 4) (eN : σ.1 65 ro = nI N) (k0 : ∀ (k : Nat) (τ : St), k = N → fr σ τ → (∀ i, i < k → τ.1 83 i = rwM σ ro i) → V X u 7 7 Q 160 [(0, .ref (u.2.1 63)), (1, .int (nI ro)), (4, .int (bI (brG σ n a ro k = true)))] [] (τ)) : ∀ (nn : Nat) (k : Nat) (τ : St), k ≤ N → fr σ τ → (∀ i, i < k → τ.1 83 i = rwM σ ro i) → N - k < nn → V X u 7 7 Q 54 [(0, .ref (u.2.1 63)), (1, .int (nI ro)), (3, .int (nI (brU σ n ro k))), (4, .int (bI (brG σ n a ro k = true))), (5, .int (nI k))] [] (τ) := by
  intro nn
  induction nn with
  | zero =>
    intro k τ hk fτ hp h2
    exact absurd h2 (Nat.not_lt_zero _)
  | succ nn ih =>
    intro k τ hk fτ hp hm
    obtain ⟨hn, hn6, hkd, hk6⟩ := id hb
    have hbu := bu_64 (σ := σ) (ro := ro) hn6 k
    refine v_iload F d_M_brings_54 4 rfl ?_
    refine v_aload_n F d_M_brings_56 rfl 0 rfl ?_
    refine v_getr (r := 65) F fk_M_17 G63 rfl d_M_brings_57 ?_
    refine v_iload_n F d_M_brings_60 rfl 1 rfl ?_
    refine v_ial F ro G65 rfl (by omega) d_M_brings_61 ?_
    refine v_te (y := nI N) (fτ.v rfl eN) ?_
    refine v_icmp_ge F 160 d_M_brings_62 rfl (fun h62 => ?_) (fun h62 => ?_)
    · skip
      have h62 : N ≤ k := (nI_leI (a := N) (b := k) (by omega) (by omega)).mp h62
      refine v_sub [0, 1, 3] (ls' := [(0, .ref (u.2.1 63)), (1, .int (nI ro)), (4, .int (bI (brG σ n a ro k = true)))]) rfl ?_
      exact k0 k τ (by omega) fτ hp
    · skip
      have h62 : ¬ N ≤ k := fun q => h62 ((nI_leI (a := N) (b := k) (by omega) (by omega)).mpr q)
      refine v_aload_n F d_M_brings_65 rfl 0 rfl ?_
      refine v_iload_n F d_M_brings_66 rfl 1 rfl ?_
      refine v_iload F d_M_brings_67 4 rfl ?_
      refine v_runi (r_V F (c_M_rowAt X.2.1 u hA τ ro k (by omega)) mo_M_rowAt st_M_107 rc_63 (by decide) rfl (Nat.le_of_ble_eq_true rfl) d_M_brings_69) (fun r1 σ2 q3 => ?_)
      obtain ⟨rfl, rfl⟩ := q3
      refine v_te (y := σ.1 66 (40 * ro + k)) (fτ.1 66 _ rfl) ?_
      by_cases h9 : σ.1 66 (40 * ro + k) = -9
      · refine v_te (y := (-9)) h9 ?_
        refine v_istore (ls' := [(6, .int (-9)), (0, .ref (u.2.1 63)), (1, .int (nI ro)), (3, .int (nI (brU σ n ro k))), (4, .int (bI (brG σ n a ro k = true))), (5, .int (nI k))]) F d_M_brings_72 (by decide) rfl ?_
        refine v_aload_n F d_M_brings_74 rfl 1 rfl ?_
        refine v_getr (r := 83) F fk_M_73 G63 rfl d_M_brings_75 ?_
        refine v_iload F d_M_brings_78 5 rfl ?_
        refine v_iload F d_M_brings_80 0 rfl ?_
        refine v_ias F k G83 rfl (by omega) d_M_brings_82 ?_
        refine v_ns (fun σ4 eσ4 => ?_)
        have fσ4 : fr σ σ4 := by rw [eσ4]; exact fτ.u rfl
        refine v_iload F d_M_brings_83 4 rfl ?_
        refine v_bt F 131 d_M_brings_85 rfl (fun h85 => ?_) (fun h85 => ?_)
        · skip
          refine v_iconst (v := 0) F d_M_brings_131 ki_0 ?_
          refine v_istore (ls' := [(4, .int 0), (6, .int (-9)), (0, .ref (u.2.1 63)), (1, .int (nI ro)), (3, .int (nI (brU σ n ro k))), (5, .int (nI k))]) F d_M_brings_132 (by decide) rfl ?_
          refine v_iload_n F d_M_brings_134 rfl 4 rfl ?_
          refine v_aload_n F d_M_brings_135 rfl 2 rfl ?_
          refine v_iload F d_M_brings_136 1 rfl ?_
          refine v_runi (r_V F (c_M_isThief X.2.1 u hA σ4 (fσ4.mk hb) (-9)) mo_M_isThief st_M_191 rc_63 (by decide) rfl (Nat.le_of_ble_eq_true rfl) d_M_brings_138) (fun r5 σ6 q7 => ?_)
          obtain ⟨rfl, rfl⟩ := q7
          refine v_bt F 151 d_M_brings_141 rfl (fun h141 => ?_) (fun h141 => ?_)
          · skip
            refine v_iconst (v := 0) F d_M_brings_151 ki_0 ?_
            refine v_ior F d_M_brings_152 ?_
            refine v_te (y := nI ((brU σ n ro k) ||| 0)) nI_or ?_
            refine v_istore_n (ls' := [(3, .int (nI ((brU σ n ro k) ||| 0))), (4, .int 0), (6, .int (-9)), (0, .ref (u.2.1 63)), (1, .int (nI ro)), (5, .int (nI k))]) F d_M_brings_153 rfl (by decide) rfl ?_
            refine v_iinc (v := nI (k + 1)) (ls' := [(5, .int (nI (k + 1))), (3, .int (nI ((brU σ n ro k) ||| 0))), (4, .int 0), (6, .int (-9)), (0, .ref (u.2.1 63)), (1, .int (nI ro))]) F d_M_brings_154 (j := 5) rfl (nI_inc _) (by decide) rfl ?_
            refine v_goto F 54 d_M_brings_157 rfl ?_
            refine v_sub [4, 5, 1, 2, 0] (ls' := [(0, .ref (u.2.1 63)), (1, .int (nI ro)), (3, .int (nI ((brU σ n ro k) ||| 0))), (4, .int 0), (5, .int (nI (k + 1)))]) rfl ?_
            have g8 : (nI ((brU σ n ro k) ||| 0)) = (nI (brU σ n ro (k + 1))) := (by first | rfl | (rw [bu_n (th_9 (by assumption))]; first | done | rfl | (rw [Nat.or_zero]; done)) | (rw [bu_w (by assumption) (by assumption) hn6]; done) | (rw [bu_n (by assumption)]; first | done | rfl | (rw [Nat.or_zero]; done)) | exact (bI_t (bg_9 (by assumption) (by assumption))).symm | exact (bI_t (bg_w (by assumption) (by assumption) (by assumption) hn6 (by assumption) (by assumption))).symm | exact (bI_f (bg_f (by assumption))).symm | exact (bI_f (bg_f1 (by assumption) (by assumption) hn6 (by assumption))).symm | exact (bI_f (bg_f2 (by assumption) (by assumption) hn6 (by assumption))).symm | exact (bI_f (bg_f3 (by assumption) (by assumption))).symm)
            have g9 : 0 = (bI (brG σ n a ro (k + 1) = true)) := (by first | rfl | (rw [bu_n (th_9 (by assumption))]; first | done | rfl | (rw [Nat.or_zero]; done)) | (rw [bu_w (by assumption) (by assumption) hn6]; done) | (rw [bu_n (by assumption)]; first | done | rfl | (rw [Nat.or_zero]; done)) | exact (bI_t (bg_9 (by assumption) (by assumption))).symm | exact (bI_t (bg_w (by assumption) (by assumption) (by assumption) hn6 (by assumption) (by assumption))).symm | exact (bI_f (bg_f (by assumption))).symm | exact (bI_f (bg_f1 (by assumption) (by assumption) hn6 (by assumption))).symm | exact (bI_f (bg_f2 (by assumption) (by assumption) hn6 (by assumption))).symm | exact (bI_f (bg_f3 (by assumption) (by assumption))).symm)
            refine v_to (ls' := [(0, .ref (u.2.1 63)), (1, .int (nI ro)), (3, .int (nI (brU σ n ro (k + 1)))), (4, .int (bI (brG σ n a ro (k + 1) = true))), (5, .int (nI (k + 1)))]) (by first | rfl | rw [g8, g9] | simp_all) ?_
            exact ih (k + 1) (σ4) (by omega) fσ4 (by rw [eσ4]; exact pl_s hp (by first | rfl | (symm; assumption))) (by omega)
          · exact absurd h141.1 (by decide)
        · skip
          refine v_iload F d_M_brings_88 0 rfl ?_
          refine v_bipush (v := (-9)) F d_M_brings_90 kb_m9 ?_
          refine v_icmp_eq F 127 d_M_brings_92 rfl (fun _ => ?_) (fun h => absurd (by decide) h)
          refine v_iconst (v := 1) F d_M_brings_127 ki_1 ?_
          refine v_goto F 132 d_M_brings_128 rfl ?_
          refine v_istore (ls' := [(4, .int 1), (6, .int (-9)), (0, .ref (u.2.1 63)), (1, .int (nI ro)), (3, .int (nI (brU σ n ro k))), (5, .int (nI k))]) F d_M_brings_132 (by decide) rfl ?_
          refine v_iload_n F d_M_brings_134 rfl 4 rfl ?_
          refine v_aload_n F d_M_brings_135 rfl 2 rfl ?_
          refine v_iload F d_M_brings_136 1 rfl ?_
          refine v_runi (r_V F (c_M_isThief X.2.1 u hA σ4 (fσ4.mk hb) (-9)) mo_M_isThief st_M_191 rc_63 (by decide) rfl (Nat.le_of_ble_eq_true rfl) d_M_brings_138) (fun r10 σ11 q12 => ?_)
          obtain ⟨rfl, rfl⟩ := q12
          refine v_bt F 151 d_M_brings_141 rfl (fun h141 => ?_) (fun h141 => ?_)
          · skip
            refine v_iconst (v := 0) F d_M_brings_151 ki_0 ?_
            refine v_ior F d_M_brings_152 ?_
            refine v_te (y := nI ((brU σ n ro k) ||| 0)) nI_or ?_
            refine v_istore_n (ls' := [(3, .int (nI ((brU σ n ro k) ||| 0))), (4, .int 1), (6, .int (-9)), (0, .ref (u.2.1 63)), (1, .int (nI ro)), (5, .int (nI k))]) F d_M_brings_153 rfl (by decide) rfl ?_
            refine v_iinc (v := nI (k + 1)) (ls' := [(5, .int (nI (k + 1))), (3, .int (nI ((brU σ n ro k) ||| 0))), (4, .int 1), (6, .int (-9)), (0, .ref (u.2.1 63)), (1, .int (nI ro))]) F d_M_brings_154 (j := 5) rfl (nI_inc _) (by decide) rfl ?_
            refine v_goto F 54 d_M_brings_157 rfl ?_
            refine v_sub [4, 5, 1, 2, 0] (ls' := [(0, .ref (u.2.1 63)), (1, .int (nI ro)), (3, .int (nI ((brU σ n ro k) ||| 0))), (4, .int 1), (5, .int (nI (k + 1)))]) rfl ?_
            have g13 : (nI ((brU σ n ro k) ||| 0)) = (nI (brU σ n ro (k + 1))) := (by first | rfl | (rw [bu_n (th_9 (by assumption))]; first | done | rfl | (rw [Nat.or_zero]; done)) | (rw [bu_w (by assumption) (by assumption) hn6]; done) | (rw [bu_n (by assumption)]; first | done | rfl | (rw [Nat.or_zero]; done)) | exact (bI_t (bg_9 (by assumption) (by assumption))).symm | exact (bI_t (bg_w (by assumption) (by assumption) (by assumption) hn6 (by assumption) (by assumption))).symm | exact (bI_f (bg_f (by assumption))).symm | exact (bI_f (bg_f1 (by assumption) (by assumption) hn6 (by assumption))).symm | exact (bI_f (bg_f2 (by assumption) (by assumption) hn6 (by assumption))).symm | exact (bI_f (bg_f3 (by assumption) (by assumption))).symm)
            have g14 : 1 = (bI (brG σ n a ro (k + 1) = true)) := (by first | rfl | (rw [bu_n (th_9 (by assumption))]; first | done | rfl | (rw [Nat.or_zero]; done)) | (rw [bu_w (by assumption) (by assumption) hn6]; done) | (rw [bu_n (by assumption)]; first | done | rfl | (rw [Nat.or_zero]; done)) | exact (bI_t (bg_9 (by assumption) (by assumption))).symm | exact (bI_t (bg_w (by assumption) (by assumption) (by assumption) hn6 (by assumption) (by assumption))).symm | exact (bI_f (bg_f (by assumption))).symm | exact (bI_f (bg_f1 (by assumption) (by assumption) hn6 (by assumption))).symm | exact (bI_f (bg_f2 (by assumption) (by assumption) hn6 (by assumption))).symm | exact (bI_f (bg_f3 (by assumption) (by assumption))).symm)
            refine v_to (ls' := [(0, .ref (u.2.1 63)), (1, .int (nI ro)), (3, .int (nI (brU σ n ro (k + 1)))), (4, .int (bI (brG σ n a ro (k + 1) = true))), (5, .int (nI (k + 1)))]) (by first | rfl | rw [g13, g14] | simp_all) ?_
            exact ih (k + 1) (σ4) (by omega) fσ4 (by rw [eσ4]; exact pl_s hp (by first | rfl | (symm; assumption))) (by omega)
          · exact absurd h141.1 (by decide)
      · by_cases hth : 0 ≤ σ.1 66 (40 * ro + k) ∧ σ.1 66 (40 * ro + k) < nI n
        · obtain ⟨w, hw, xw, ew⟩ := has_nat hth rfl hn6
          refine v_te (y := nI w) ew ?_
          refine v_istore (ls' := [(6, .int (nI w)), (0, .ref (u.2.1 63)), (1, .int (nI ro)), (3, .int (nI (brU σ n ro k))), (4, .int (bI (brG σ n a ro k = true))), (5, .int (nI k))]) F d_M_brings_72 (by decide) rfl ?_
          refine v_aload_n F d_M_brings_74 rfl 1 rfl ?_
          refine v_getr (r := 83) F fk_M_73 G63 rfl d_M_brings_75 ?_
          refine v_iload F d_M_brings_78 5 rfl ?_
          refine v_iload F d_M_brings_80 0 rfl ?_
          refine v_ias F k G83 rfl (by omega) d_M_brings_82 ?_
          refine v_ns (fun σ15 eσ15 => ?_)
          have fσ15 : fr σ σ15 := by rw [eσ15]; exact fτ.u rfl
          refine v_iload F d_M_brings_83 4 rfl ?_
          refine v_bt F 131 d_M_brings_85 rfl (fun h85 => ?_) (fun h85 => ?_)
          · skip
            refine v_iconst (v := 0) F d_M_brings_131 ki_0 ?_
            refine v_istore (ls' := [(4, .int 0), (6, .int (nI w)), (0, .ref (u.2.1 63)), (1, .int (nI ro)), (3, .int (nI (brU σ n ro k))), (5, .int (nI k))]) F d_M_brings_132 (by decide) rfl ?_
            refine v_iload_n F d_M_brings_134 rfl 4 rfl ?_
            refine v_aload_n F d_M_brings_135 rfl 2 rfl ?_
            refine v_iload F d_M_brings_136 1 rfl ?_
            refine v_runi (r_V F (c_M_isThief X.2.1 u hA σ15 (fσ15.mk hb) (nI w)) mo_M_isThief st_M_191 rc_63 (by decide) rfl (Nat.le_of_ble_eq_true rfl) d_M_brings_138) (fun r16 σ17 q18 => ?_)
            obtain ⟨rfl, rfl⟩ := q18
            refine v_bt F 151 d_M_brings_141 rfl (fun h141 => ?_) (fun h141 => ?_)
            · exact absurd (by rw [← ew]; exact hth) h141
            · skip
              refine v_iconst (v := 1) F d_M_brings_144 ki_1 ?_
              refine v_iload F d_M_brings_145 1 rfl ?_
              refine v_ishl F d_M_brings_147 ?_
              refine v_te (y := nI (2 ^ w)) (bit6 _ (by omega)) ?_
              refine v_goto F 152 d_M_brings_148 rfl ?_
              refine v_ior F d_M_brings_152 ?_
              refine v_te (y := nI ((brU σ n ro k) ||| (2 ^ w))) nI_or ?_
              refine v_istore_n (ls' := [(3, .int (nI ((brU σ n ro k) ||| (2 ^ w)))), (4, .int 0), (6, .int (nI w)), (0, .ref (u.2.1 63)), (1, .int (nI ro)), (5, .int (nI k))]) F d_M_brings_153 rfl (by decide) rfl ?_
              refine v_iinc (v := nI (k + 1)) (ls' := [(5, .int (nI (k + 1))), (3, .int (nI ((brU σ n ro k) ||| (2 ^ w)))), (4, .int 0), (6, .int (nI w)), (0, .ref (u.2.1 63)), (1, .int (nI ro))]) F d_M_brings_154 (j := 5) rfl (nI_inc _) (by decide) rfl ?_
              refine v_goto F 54 d_M_brings_157 rfl ?_
              refine v_sub [4, 5, 1, 2, 0] (ls' := [(0, .ref (u.2.1 63)), (1, .int (nI ro)), (3, .int (nI ((brU σ n ro k) ||| (2 ^ w)))), (4, .int 0), (5, .int (nI (k + 1)))]) rfl ?_
              have g19 : (nI ((brU σ n ro k) ||| (2 ^ w))) = (nI (brU σ n ro (k + 1))) := (by first | rfl | (rw [bu_n (th_9 (by assumption))]; first | done | rfl | (rw [Nat.or_zero]; done)) | (rw [bu_w (by assumption) (by assumption) hn6]; done) | (rw [bu_n (by assumption)]; first | done | rfl | (rw [Nat.or_zero]; done)) | exact (bI_t (bg_9 (by assumption) (by assumption))).symm | exact (bI_t (bg_w (by assumption) (by assumption) (by assumption) hn6 (by assumption) (by assumption))).symm | exact (bI_f (bg_f (by assumption))).symm | exact (bI_f (bg_f1 (by assumption) (by assumption) hn6 (by assumption))).symm | exact (bI_f (bg_f2 (by assumption) (by assumption) hn6 (by assumption))).symm | exact (bI_f (bg_f3 (by assumption) (by assumption))).symm)
              have g20 : 0 = (bI (brG σ n a ro (k + 1) = true)) := (by first | rfl | (rw [bu_n (th_9 (by assumption))]; first | done | rfl | (rw [Nat.or_zero]; done)) | (rw [bu_w (by assumption) (by assumption) hn6]; done) | (rw [bu_n (by assumption)]; first | done | rfl | (rw [Nat.or_zero]; done)) | exact (bI_t (bg_9 (by assumption) (by assumption))).symm | exact (bI_t (bg_w (by assumption) (by assumption) (by assumption) hn6 (by assumption) (by assumption))).symm | exact (bI_f (bg_f (by assumption))).symm | exact (bI_f (bg_f1 (by assumption) (by assumption) hn6 (by assumption))).symm | exact (bI_f (bg_f2 (by assumption) (by assumption) hn6 (by assumption))).symm | exact (bI_f (bg_f3 (by assumption) (by assumption))).symm)
              refine v_to (ls' := [(0, .ref (u.2.1 63)), (1, .int (nI ro)), (3, .int (nI (brU σ n ro (k + 1)))), (4, .int (bI (brG σ n a ro (k + 1) = true))), (5, .int (nI (k + 1)))]) (by first | rfl | rw [g19, g20] | simp_all) ?_
              exact ih (k + 1) (σ15) (by omega) fσ15 (by rw [eσ15]; exact pl_s hp (by first | rfl | (symm; assumption))) (by omega)
          · skip
            refine v_iload F d_M_brings_88 0 rfl ?_
            refine v_bipush (v := (-9)) F d_M_brings_90 kb_m9 ?_
            refine v_icmp_eq F 127 d_M_brings_92 rfl (fun h92 => ?_) (fun h92 => ?_)
            · exact absurd h92 (by rw [← ew]; exact h9)
            · skip
              refine v_aload_n F d_M_brings_95 rfl 1 rfl ?_
              refine v_iload F d_M_brings_96 0 rfl ?_
              refine v_runi (r_V F (c_M_isThief X.2.1 u hA σ15 (fσ15.mk hb) (nI w)) mo_M_isThief st_M_191 rc_63 (by decide) rfl (Nat.le_of_ble_eq_true rfl) d_M_brings_98) (fun r21 σ22 q23 => ?_)
              obtain ⟨rfl, rfl⟩ := q23
              refine v_bt F 131 d_M_brings_101 rfl (fun h101 => ?_) (fun h101 => ?_)
              · exact absurd (by rw [← ew]; exact hth) h101
              · skip
                refine v_aload_n F d_M_brings_104 rfl 1 rfl ?_
                refine v_getr (r := 76) F fk_M_51 G63 rfl d_M_brings_105 ?_
                refine v_iconst (v := 0) F d_M_brings_108 ki_0 ?_
                refine v_ial F 0 G76 rfl (by omega) d_M_brings_109 ?_
                refine v_te (y := nI a) (fσ15.v rfl h0) ?_
                refine v_iload F d_M_brings_110 0 rfl ?_
                refine v_runi (r_S F (c_M_has2 X.2.1 u hA σ15 w a (by omega) (by omega)) mo_M_has st_M_155 (by decide) rfl (Nat.le_of_ble_eq_true rfl) d_M_brings_112) (fun r24 σ25 q26 => ?_)
                obtain ⟨rfl, rfl⟩ := q26
                refine v_bt F 131 d_M_brings_115 rfl (fun h115 => ?_) (fun h115 => ?_)
                · skip
                  refine v_iconst (v := 0) F d_M_brings_131 ki_0 ?_
                  refine v_istore (ls' := [(4, .int 0), (6, .int (nI w)), (0, .ref (u.2.1 63)), (1, .int (nI ro)), (3, .int (nI (brU σ n ro k))), (5, .int (nI k))]) F d_M_brings_132 (by decide) rfl ?_
                  refine v_iload_n F d_M_brings_134 rfl 4 rfl ?_
                  refine v_aload_n F d_M_brings_135 rfl 2 rfl ?_
                  refine v_iload F d_M_brings_136 1 rfl ?_
                  refine v_runi (r_V F (c_M_isThief X.2.1 u hA σ15 (fσ15.mk hb) (nI w)) mo_M_isThief st_M_191 rc_63 (by decide) rfl (Nat.le_of_ble_eq_true rfl) d_M_brings_138) (fun r27 σ28 q29 => ?_)
                  obtain ⟨rfl, rfl⟩ := q29
                  refine v_bt F 151 d_M_brings_141 rfl (fun h141 => ?_) (fun h141 => ?_)
                  · exact absurd (by rw [← ew]; exact hth) h141
                  · skip
                    refine v_iconst (v := 1) F d_M_brings_144 ki_1 ?_
                    refine v_iload F d_M_brings_145 1 rfl ?_
                    refine v_ishl F d_M_brings_147 ?_
                    refine v_te (y := nI (2 ^ w)) (bit6 _ (by omega)) ?_
                    refine v_goto F 152 d_M_brings_148 rfl ?_
                    refine v_ior F d_M_brings_152 ?_
                    refine v_te (y := nI ((brU σ n ro k) ||| (2 ^ w))) nI_or ?_
                    refine v_istore_n (ls' := [(3, .int (nI ((brU σ n ro k) ||| (2 ^ w)))), (4, .int 0), (6, .int (nI w)), (0, .ref (u.2.1 63)), (1, .int (nI ro)), (5, .int (nI k))]) F d_M_brings_153 rfl (by decide) rfl ?_
                    refine v_iinc (v := nI (k + 1)) (ls' := [(5, .int (nI (k + 1))), (3, .int (nI ((brU σ n ro k) ||| (2 ^ w)))), (4, .int 0), (6, .int (nI w)), (0, .ref (u.2.1 63)), (1, .int (nI ro))]) F d_M_brings_154 (j := 5) rfl (nI_inc _) (by decide) rfl ?_
                    refine v_goto F 54 d_M_brings_157 rfl ?_
                    refine v_sub [4, 5, 1, 2, 0] (ls' := [(0, .ref (u.2.1 63)), (1, .int (nI ro)), (3, .int (nI ((brU σ n ro k) ||| (2 ^ w)))), (4, .int 0), (5, .int (nI (k + 1)))]) rfl ?_
                    have g30 : (nI ((brU σ n ro k) ||| (2 ^ w))) = (nI (brU σ n ro (k + 1))) := (by first | rfl | (rw [bu_n (th_9 (by assumption))]; first | done | rfl | (rw [Nat.or_zero]; done)) | (rw [bu_w (by assumption) (by assumption) hn6]; done) | (rw [bu_n (by assumption)]; first | done | rfl | (rw [Nat.or_zero]; done)) | exact (bI_t (bg_9 (by assumption) (by assumption))).symm | exact (bI_t (bg_w (by assumption) (by assumption) (by assumption) hn6 (by assumption) (by assumption))).symm | exact (bI_f (bg_f (by assumption))).symm | exact (bI_f (bg_f1 (by assumption) (by assumption) hn6 (by assumption))).symm | exact (bI_f (bg_f2 (by assumption) (by assumption) hn6 (by assumption))).symm | exact (bI_f (bg_f3 (by assumption) (by assumption))).symm)
                    have g31 : 0 = (bI (brG σ n a ro (k + 1) = true)) := (by first | rfl | (rw [bu_n (th_9 (by assumption))]; first | done | rfl | (rw [Nat.or_zero]; done)) | (rw [bu_w (by assumption) (by assumption) hn6]; done) | (rw [bu_n (by assumption)]; first | done | rfl | (rw [Nat.or_zero]; done)) | exact (bI_t (bg_9 (by assumption) (by assumption))).symm | exact (bI_t (bg_w (by assumption) (by assumption) (by assumption) hn6 (by assumption) (by assumption))).symm | exact (bI_f (bg_f (by assumption))).symm | exact (bI_f (bg_f1 (by assumption) (by assumption) hn6 (by assumption))).symm | exact (bI_f (bg_f2 (by assumption) (by assumption) hn6 (by assumption))).symm | exact (bI_f (bg_f3 (by assumption) (by assumption))).symm)
                    refine v_to (ls' := [(0, .ref (u.2.1 63)), (1, .int (nI ro)), (3, .int (nI (brU σ n ro (k + 1)))), (4, .int (bI (brG σ n a ro (k + 1) = true))), (5, .int (nI (k + 1)))]) (by first | rfl | rw [g30, g31] | simp_all) ?_
                    exact ih (k + 1) (σ15) (by omega) fσ15 (by rw [eσ15]; exact pl_s hp (by first | rfl | (symm; assumption))) (by omega)
                · skip
                  refine v_iload_n F d_M_brings_118 rfl 3 rfl ?_
                  refine v_iload F d_M_brings_119 0 rfl ?_
                  refine v_runi (r_S F (c_M_has2 X.2.1 u hA σ15 w (brU σ n ro k) (by omega) (by omega)) mo_M_has st_M_155 (by decide) rfl (Nat.le_of_ble_eq_true rfl) d_M_brings_121) (fun r32 σ33 q34 => ?_)
                  obtain ⟨rfl, rfl⟩ := q34
                  refine v_bf F 131 d_M_brings_124 rfl (fun h124 => ?_) (fun h124 => ?_)
                  · skip
                    refine v_iconst (v := 0) F d_M_brings_131 ki_0 ?_
                    refine v_istore (ls' := [(4, .int 0), (6, .int (nI w)), (0, .ref (u.2.1 63)), (1, .int (nI ro)), (3, .int (nI (brU σ n ro k))), (5, .int (nI k))]) F d_M_brings_132 (by decide) rfl ?_
                    refine v_iload_n F d_M_brings_134 rfl 4 rfl ?_
                    refine v_aload_n F d_M_brings_135 rfl 2 rfl ?_
                    refine v_iload F d_M_brings_136 1 rfl ?_
                    refine v_runi (r_V F (c_M_isThief X.2.1 u hA σ15 (fσ15.mk hb) (nI w)) mo_M_isThief st_M_191 rc_63 (by decide) rfl (Nat.le_of_ble_eq_true rfl) d_M_brings_138) (fun r35 σ36 q37 => ?_)
                    obtain ⟨rfl, rfl⟩ := q37
                    refine v_bt F 151 d_M_brings_141 rfl (fun h141 => ?_) (fun h141 => ?_)
                    · exact absurd (by rw [← ew]; exact hth) h141
                    · skip
                      refine v_iconst (v := 1) F d_M_brings_144 ki_1 ?_
                      refine v_iload F d_M_brings_145 1 rfl ?_
                      refine v_ishl F d_M_brings_147 ?_
                      refine v_te (y := nI (2 ^ w)) (bit6 _ (by omega)) ?_
                      refine v_goto F 152 d_M_brings_148 rfl ?_
                      refine v_ior F d_M_brings_152 ?_
                      refine v_te (y := nI ((brU σ n ro k) ||| (2 ^ w))) nI_or ?_
                      refine v_istore_n (ls' := [(3, .int (nI ((brU σ n ro k) ||| (2 ^ w)))), (4, .int 0), (6, .int (nI w)), (0, .ref (u.2.1 63)), (1, .int (nI ro)), (5, .int (nI k))]) F d_M_brings_153 rfl (by decide) rfl ?_
                      refine v_iinc (v := nI (k + 1)) (ls' := [(5, .int (nI (k + 1))), (3, .int (nI ((brU σ n ro k) ||| (2 ^ w)))), (4, .int 0), (6, .int (nI w)), (0, .ref (u.2.1 63)), (1, .int (nI ro))]) F d_M_brings_154 (j := 5) rfl (nI_inc _) (by decide) rfl ?_
                      refine v_goto F 54 d_M_brings_157 rfl ?_
                      refine v_sub [4, 5, 1, 2, 0] (ls' := [(0, .ref (u.2.1 63)), (1, .int (nI ro)), (3, .int (nI ((brU σ n ro k) ||| (2 ^ w)))), (4, .int 0), (5, .int (nI (k + 1)))]) rfl ?_
                      have g38 : (nI ((brU σ n ro k) ||| (2 ^ w))) = (nI (brU σ n ro (k + 1))) := (by first | rfl | (rw [bu_n (th_9 (by assumption))]; first | done | rfl | (rw [Nat.or_zero]; done)) | (rw [bu_w (by assumption) (by assumption) hn6]; done) | (rw [bu_n (by assumption)]; first | done | rfl | (rw [Nat.or_zero]; done)) | exact (bI_t (bg_9 (by assumption) (by assumption))).symm | exact (bI_t (bg_w (by assumption) (by assumption) (by assumption) hn6 (by assumption) (by assumption))).symm | exact (bI_f (bg_f (by assumption))).symm | exact (bI_f (bg_f1 (by assumption) (by assumption) hn6 (by assumption))).symm | exact (bI_f (bg_f2 (by assumption) (by assumption) hn6 (by assumption))).symm | exact (bI_f (bg_f3 (by assumption) (by assumption))).symm)
                      have g39 : 0 = (bI (brG σ n a ro (k + 1) = true)) := (by first | rfl | (rw [bu_n (th_9 (by assumption))]; first | done | rfl | (rw [Nat.or_zero]; done)) | (rw [bu_w (by assumption) (by assumption) hn6]; done) | (rw [bu_n (by assumption)]; first | done | rfl | (rw [Nat.or_zero]; done)) | exact (bI_t (bg_9 (by assumption) (by assumption))).symm | exact (bI_t (bg_w (by assumption) (by assumption) (by assumption) hn6 (by assumption) (by assumption))).symm | exact (bI_f (bg_f (by assumption))).symm | exact (bI_f (bg_f1 (by assumption) (by assumption) hn6 (by assumption))).symm | exact (bI_f (bg_f2 (by assumption) (by assumption) hn6 (by assumption))).symm | exact (bI_f (bg_f3 (by assumption) (by assumption))).symm)
                      refine v_to (ls' := [(0, .ref (u.2.1 63)), (1, .int (nI ro)), (3, .int (nI (brU σ n ro (k + 1)))), (4, .int (bI (brG σ n a ro (k + 1) = true))), (5, .int (nI (k + 1)))]) (by first | rfl | rw [g38, g39] | simp_all) ?_
                      exact ih (k + 1) (σ15) (by omega) fσ15 (by rw [eσ15]; exact pl_s hp (by first | rfl | (symm; assumption))) (by omega)
                  · skip
                    refine v_iconst (v := 1) F d_M_brings_127 ki_1 ?_
                    refine v_goto F 132 d_M_brings_128 rfl ?_
                    refine v_istore (ls' := [(4, .int 1), (6, .int (nI w)), (0, .ref (u.2.1 63)), (1, .int (nI ro)), (3, .int (nI (brU σ n ro k))), (5, .int (nI k))]) F d_M_brings_132 (by decide) rfl ?_
                    refine v_iload_n F d_M_brings_134 rfl 4 rfl ?_
                    refine v_aload_n F d_M_brings_135 rfl 2 rfl ?_
                    refine v_iload F d_M_brings_136 1 rfl ?_
                    refine v_runi (r_V F (c_M_isThief X.2.1 u hA σ15 (fσ15.mk hb) (nI w)) mo_M_isThief st_M_191 rc_63 (by decide) rfl (Nat.le_of_ble_eq_true rfl) d_M_brings_138) (fun r40 σ41 q42 => ?_)
                    obtain ⟨rfl, rfl⟩ := q42
                    refine v_bt F 151 d_M_brings_141 rfl (fun h141 => ?_) (fun h141 => ?_)
                    · exact absurd (by rw [← ew]; exact hth) h141
                    · skip
                      refine v_iconst (v := 1) F d_M_brings_144 ki_1 ?_
                      refine v_iload F d_M_brings_145 1 rfl ?_
                      refine v_ishl F d_M_brings_147 ?_
                      refine v_te (y := nI (2 ^ w)) (bit6 _ (by omega)) ?_
                      refine v_goto F 152 d_M_brings_148 rfl ?_
                      refine v_ior F d_M_brings_152 ?_
                      refine v_te (y := nI ((brU σ n ro k) ||| (2 ^ w))) nI_or ?_
                      refine v_istore_n (ls' := [(3, .int (nI ((brU σ n ro k) ||| (2 ^ w)))), (4, .int 1), (6, .int (nI w)), (0, .ref (u.2.1 63)), (1, .int (nI ro)), (5, .int (nI k))]) F d_M_brings_153 rfl (by decide) rfl ?_
                      refine v_iinc (v := nI (k + 1)) (ls' := [(5, .int (nI (k + 1))), (3, .int (nI ((brU σ n ro k) ||| (2 ^ w)))), (4, .int 1), (6, .int (nI w)), (0, .ref (u.2.1 63)), (1, .int (nI ro))]) F d_M_brings_154 (j := 5) rfl (nI_inc _) (by decide) rfl ?_
                      refine v_goto F 54 d_M_brings_157 rfl ?_
                      refine v_sub [4, 5, 1, 2, 0] (ls' := [(0, .ref (u.2.1 63)), (1, .int (nI ro)), (3, .int (nI ((brU σ n ro k) ||| (2 ^ w)))), (4, .int 1), (5, .int (nI (k + 1)))]) rfl ?_
                      have g43 : (nI ((brU σ n ro k) ||| (2 ^ w))) = (nI (brU σ n ro (k + 1))) := (by first | rfl | (rw [bu_n (th_9 (by assumption))]; first | done | rfl | (rw [Nat.or_zero]; done)) | (rw [bu_w (by assumption) (by assumption) hn6]; done) | (rw [bu_n (by assumption)]; first | done | rfl | (rw [Nat.or_zero]; done)) | exact (bI_t (bg_9 (by assumption) (by assumption))).symm | exact (bI_t (bg_w (by assumption) (by assumption) (by assumption) hn6 (by assumption) (by assumption))).symm | exact (bI_f (bg_f (by assumption))).symm | exact (bI_f (bg_f1 (by assumption) (by assumption) hn6 (by assumption))).symm | exact (bI_f (bg_f2 (by assumption) (by assumption) hn6 (by assumption))).symm | exact (bI_f (bg_f3 (by assumption) (by assumption))).symm)
                      have g44 : 1 = (bI (brG σ n a ro (k + 1) = true)) := (by first | rfl | (rw [bu_n (th_9 (by assumption))]; first | done | rfl | (rw [Nat.or_zero]; done)) | (rw [bu_w (by assumption) (by assumption) hn6]; done) | (rw [bu_n (by assumption)]; first | done | rfl | (rw [Nat.or_zero]; done)) | exact (bI_t (bg_9 (by assumption) (by assumption))).symm | exact (bI_t (bg_w (by assumption) (by assumption) (by assumption) hn6 (by assumption) (by assumption))).symm | exact (bI_f (bg_f (by assumption))).symm | exact (bI_f (bg_f1 (by assumption) (by assumption) hn6 (by assumption))).symm | exact (bI_f (bg_f2 (by assumption) (by assumption) hn6 (by assumption))).symm | exact (bI_f (bg_f3 (by assumption) (by assumption))).symm)
                      refine v_to (ls' := [(0, .ref (u.2.1 63)), (1, .int (nI ro)), (3, .int (nI (brU σ n ro (k + 1)))), (4, .int (bI (brG σ n a ro (k + 1) = true))), (5, .int (nI (k + 1)))]) (by first | rfl | rw [g43, g44] | simp_all) ?_
                      exact ih (k + 1) (σ15) (by omega) fσ15 (by rw [eσ15]; exact pl_s hp (by first | rfl | (symm; assumption))) (by omega)
        · skip
          refine v_istore (ls' := [(6, .int (σ.1 66 (40 * ro + k))), (0, .ref (u.2.1 63)), (1, .int (nI ro)), (3, .int (nI (brU σ n ro k))), (4, .int (bI (brG σ n a ro k = true))), (5, .int (nI k))]) F d_M_brings_72 (by decide) rfl ?_
          refine v_aload_n F d_M_brings_74 rfl 1 rfl ?_
          refine v_getr (r := 83) F fk_M_73 G63 rfl d_M_brings_75 ?_
          refine v_iload F d_M_brings_78 5 rfl ?_
          refine v_iload F d_M_brings_80 0 rfl ?_
          refine v_ias F k G83 rfl (by omega) d_M_brings_82 ?_
          refine v_ns (fun σ45 eσ45 => ?_)
          have fσ45 : fr σ σ45 := by rw [eσ45]; exact fτ.u rfl
          refine v_iload F d_M_brings_83 4 rfl ?_
          refine v_bt F 131 d_M_brings_85 rfl (fun h85 => ?_) (fun h85 => ?_)
          · skip
            refine v_iconst (v := 0) F d_M_brings_131 ki_0 ?_
            refine v_istore (ls' := [(4, .int 0), (6, .int (σ.1 66 (40 * ro + k))), (0, .ref (u.2.1 63)), (1, .int (nI ro)), (3, .int (nI (brU σ n ro k))), (5, .int (nI k))]) F d_M_brings_132 (by decide) rfl ?_
            refine v_iload_n F d_M_brings_134 rfl 4 rfl ?_
            refine v_aload_n F d_M_brings_135 rfl 2 rfl ?_
            refine v_iload F d_M_brings_136 1 rfl ?_
            refine v_runi (r_V F (c_M_isThief X.2.1 u hA σ45 (fσ45.mk hb) (σ.1 66 (40 * ro + k))) mo_M_isThief st_M_191 rc_63 (by decide) rfl (Nat.le_of_ble_eq_true rfl) d_M_brings_138) (fun r46 σ47 q48 => ?_)
            obtain ⟨rfl, rfl⟩ := q48
            refine v_bt F 151 d_M_brings_141 rfl (fun h141 => ?_) (fun h141 => ?_)
            · skip
              refine v_iconst (v := 0) F d_M_brings_151 ki_0 ?_
              refine v_ior F d_M_brings_152 ?_
              refine v_te (y := nI ((brU σ n ro k) ||| 0)) nI_or ?_
              refine v_istore_n (ls' := [(3, .int (nI ((brU σ n ro k) ||| 0))), (4, .int 0), (6, .int (σ.1 66 (40 * ro + k))), (0, .ref (u.2.1 63)), (1, .int (nI ro)), (5, .int (nI k))]) F d_M_brings_153 rfl (by decide) rfl ?_
              refine v_iinc (v := nI (k + 1)) (ls' := [(5, .int (nI (k + 1))), (3, .int (nI ((brU σ n ro k) ||| 0))), (4, .int 0), (6, .int (σ.1 66 (40 * ro + k))), (0, .ref (u.2.1 63)), (1, .int (nI ro))]) F d_M_brings_154 (j := 5) rfl (nI_inc _) (by decide) rfl ?_
              refine v_goto F 54 d_M_brings_157 rfl ?_
              refine v_sub [4, 5, 1, 2, 0] (ls' := [(0, .ref (u.2.1 63)), (1, .int (nI ro)), (3, .int (nI ((brU σ n ro k) ||| 0))), (4, .int 0), (5, .int (nI (k + 1)))]) rfl ?_
              have g49 : (nI ((brU σ n ro k) ||| 0)) = (nI (brU σ n ro (k + 1))) := (by first | rfl | (rw [bu_n (th_9 (by assumption))]; first | done | rfl | (rw [Nat.or_zero]; done)) | (rw [bu_w (by assumption) (by assumption) hn6]; done) | (rw [bu_n (by assumption)]; first | done | rfl | (rw [Nat.or_zero]; done)) | exact (bI_t (bg_9 (by assumption) (by assumption))).symm | exact (bI_t (bg_w (by assumption) (by assumption) (by assumption) hn6 (by assumption) (by assumption))).symm | exact (bI_f (bg_f (by assumption))).symm | exact (bI_f (bg_f1 (by assumption) (by assumption) hn6 (by assumption))).symm | exact (bI_f (bg_f2 (by assumption) (by assumption) hn6 (by assumption))).symm | exact (bI_f (bg_f3 (by assumption) (by assumption))).symm)
              have g50 : 0 = (bI (brG σ n a ro (k + 1) = true)) := (by first | rfl | (rw [bu_n (th_9 (by assumption))]; first | done | rfl | (rw [Nat.or_zero]; done)) | (rw [bu_w (by assumption) (by assumption) hn6]; done) | (rw [bu_n (by assumption)]; first | done | rfl | (rw [Nat.or_zero]; done)) | exact (bI_t (bg_9 (by assumption) (by assumption))).symm | exact (bI_t (bg_w (by assumption) (by assumption) (by assumption) hn6 (by assumption) (by assumption))).symm | exact (bI_f (bg_f (by assumption))).symm | exact (bI_f (bg_f1 (by assumption) (by assumption) hn6 (by assumption))).symm | exact (bI_f (bg_f2 (by assumption) (by assumption) hn6 (by assumption))).symm | exact (bI_f (bg_f3 (by assumption) (by assumption))).symm)
              refine v_to (ls' := [(0, .ref (u.2.1 63)), (1, .int (nI ro)), (3, .int (nI (brU σ n ro (k + 1)))), (4, .int (bI (brG σ n a ro (k + 1) = true))), (5, .int (nI (k + 1)))]) (by first | rfl | rw [g49, g50] | simp_all) ?_
              exact ih (k + 1) (σ45) (by omega) fσ45 (by rw [eσ45]; exact pl_s hp (by first | rfl | (symm; assumption))) (by omega)
            · exact absurd h141 hth
          · skip
            refine v_iload F d_M_brings_88 0 rfl ?_
            refine v_bipush (v := (-9)) F d_M_brings_90 kb_m9 ?_
            refine v_icmp_eq F 127 d_M_brings_92 rfl (fun h92 => ?_) (fun h92 => ?_)
            · exact absurd h92 h9
            · skip
              refine v_aload_n F d_M_brings_95 rfl 1 rfl ?_
              refine v_iload F d_M_brings_96 0 rfl ?_
              refine v_runi (r_V F (c_M_isThief X.2.1 u hA σ45 (fσ45.mk hb) (σ.1 66 (40 * ro + k))) mo_M_isThief st_M_191 rc_63 (by decide) rfl (Nat.le_of_ble_eq_true rfl) d_M_brings_98) (fun r51 σ52 q53 => ?_)
              obtain ⟨rfl, rfl⟩ := q53
              refine v_bt F 131 d_M_brings_101 rfl (fun h101 => ?_) (fun h101 => ?_)
              · skip
                refine v_iconst (v := 0) F d_M_brings_131 ki_0 ?_
                refine v_istore (ls' := [(4, .int 0), (6, .int (σ.1 66 (40 * ro + k))), (0, .ref (u.2.1 63)), (1, .int (nI ro)), (3, .int (nI (brU σ n ro k))), (5, .int (nI k))]) F d_M_brings_132 (by decide) rfl ?_
                refine v_iload_n F d_M_brings_134 rfl 4 rfl ?_
                refine v_aload_n F d_M_brings_135 rfl 2 rfl ?_
                refine v_iload F d_M_brings_136 1 rfl ?_
                refine v_runi (r_V F (c_M_isThief X.2.1 u hA σ45 (fσ45.mk hb) (σ.1 66 (40 * ro + k))) mo_M_isThief st_M_191 rc_63 (by decide) rfl (Nat.le_of_ble_eq_true rfl) d_M_brings_138) (fun r54 σ55 q56 => ?_)
                obtain ⟨rfl, rfl⟩ := q56
                refine v_bt F 151 d_M_brings_141 rfl (fun h141 => ?_) (fun h141 => ?_)
                · skip
                  refine v_iconst (v := 0) F d_M_brings_151 ki_0 ?_
                  refine v_ior F d_M_brings_152 ?_
                  refine v_te (y := nI ((brU σ n ro k) ||| 0)) nI_or ?_
                  refine v_istore_n (ls' := [(3, .int (nI ((brU σ n ro k) ||| 0))), (4, .int 0), (6, .int (σ.1 66 (40 * ro + k))), (0, .ref (u.2.1 63)), (1, .int (nI ro)), (5, .int (nI k))]) F d_M_brings_153 rfl (by decide) rfl ?_
                  refine v_iinc (v := nI (k + 1)) (ls' := [(5, .int (nI (k + 1))), (3, .int (nI ((brU σ n ro k) ||| 0))), (4, .int 0), (6, .int (σ.1 66 (40 * ro + k))), (0, .ref (u.2.1 63)), (1, .int (nI ro))]) F d_M_brings_154 (j := 5) rfl (nI_inc _) (by decide) rfl ?_
                  refine v_goto F 54 d_M_brings_157 rfl ?_
                  refine v_sub [4, 5, 1, 2, 0] (ls' := [(0, .ref (u.2.1 63)), (1, .int (nI ro)), (3, .int (nI ((brU σ n ro k) ||| 0))), (4, .int 0), (5, .int (nI (k + 1)))]) rfl ?_
                  have g57 : (nI ((brU σ n ro k) ||| 0)) = (nI (brU σ n ro (k + 1))) := (by first | rfl | (rw [bu_n (th_9 (by assumption))]; first | done | rfl | (rw [Nat.or_zero]; done)) | (rw [bu_w (by assumption) (by assumption) hn6]; done) | (rw [bu_n (by assumption)]; first | done | rfl | (rw [Nat.or_zero]; done)) | exact (bI_t (bg_9 (by assumption) (by assumption))).symm | exact (bI_t (bg_w (by assumption) (by assumption) (by assumption) hn6 (by assumption) (by assumption))).symm | exact (bI_f (bg_f (by assumption))).symm | exact (bI_f (bg_f1 (by assumption) (by assumption) hn6 (by assumption))).symm | exact (bI_f (bg_f2 (by assumption) (by assumption) hn6 (by assumption))).symm | exact (bI_f (bg_f3 (by assumption) (by assumption))).symm)
                  have g58 : 0 = (bI (brG σ n a ro (k + 1) = true)) := (by first | rfl | (rw [bu_n (th_9 (by assumption))]; first | done | rfl | (rw [Nat.or_zero]; done)) | (rw [bu_w (by assumption) (by assumption) hn6]; done) | (rw [bu_n (by assumption)]; first | done | rfl | (rw [Nat.or_zero]; done)) | exact (bI_t (bg_9 (by assumption) (by assumption))).symm | exact (bI_t (bg_w (by assumption) (by assumption) (by assumption) hn6 (by assumption) (by assumption))).symm | exact (bI_f (bg_f (by assumption))).symm | exact (bI_f (bg_f1 (by assumption) (by assumption) hn6 (by assumption))).symm | exact (bI_f (bg_f2 (by assumption) (by assumption) hn6 (by assumption))).symm | exact (bI_f (bg_f3 (by assumption) (by assumption))).symm)
                  refine v_to (ls' := [(0, .ref (u.2.1 63)), (1, .int (nI ro)), (3, .int (nI (brU σ n ro (k + 1)))), (4, .int (bI (brG σ n a ro (k + 1) = true))), (5, .int (nI (k + 1)))]) (by first | rfl | rw [g57, g58] | simp_all) ?_
                  exact ih (k + 1) (σ45) (by omega) fσ45 (by rw [eσ45]; exact pl_s hp (by first | rfl | (symm; assumption))) (by omega)
                · exact absurd h141 hth
              · exact absurd h101 hth
set_option maxHeartbeats 4000000 in
theorem c_M_brings (l : Launch) (u : Un) (hA : Ap u) (σ : St) {n : Nat} {kd : Nat → Nat} (hb : mkOk σ n kd) {a : Nat} (ha : a < 64) (h0 : σ.1 76 0 = nI a) (r : Int32) : MTi l u y_M_brings b_M_brings 7 .int 7 [.ref (u.2.1 63), .int r] σ (fun ans σ' => ∃ τ, fr σ τ ∧ (ans, σ') = mBrings σ τ kd n a r) := by
  refine MT_of hA rfl (by decide) (Nat.le_of_ble_eq_true rfl) (fun X hl F hr => ?_)
  subst hl
  refine v_to (ls' := [(0, .ref (u.2.1 63)), (1, .int r)]) rfl ?_
  obtain ⟨hn, hn6, hkd, hk6⟩ := id hb
  refine v_aload_n F d_M_brings_0 rfl 0 rfl ?_
  refine v_iload_n F d_M_brings_1 rfl 1 rfl ?_
  refine v_runi (r_S F (c_M_isRow X.2.1 u hA σ r ) mo_M_isRow st_M_99 (by decide) rfl (Nat.le_of_ble_eq_true rfl) d_M_brings_2) (fun r1 σ2 q3 => ?_)
  obtain ⟨rfl, rfl⟩ := q3
  refine v_runi (r_V F (c_M_needPlan X.2.1 u hA σ hb (inR r 6)) mo_M_needPlan st_M_239 rc_63 (by decide) rfl (Nat.le_of_ble_eq_true rfl) d_M_brings_5) (fun r4 σ5 q6 => ?_)
  rcases q6 with ⟨a1, rfl, rfl⟩ | ⟨a1, a2, rfl, rfl⟩ | ⟨a1, a2, rfl, rfl⟩
  · skip
    refine v_istore_n (ls' := [(2, .int (-1)), (0, .ref (u.2.1 63)), (1, .int r)]) F d_M_brings_8 rfl (by decide) rfl ?_
    refine v_iload_n F d_M_brings_9 rfl 0 rfl ?_
    refine v_if_ge F 15 d_M_brings_10 rfl (fun h => absurd h (by decide)) (fun _ => ?_)
    refine v_iload_n F d_M_brings_13 rfl 0 rfl ?_
    refine v_iret F hr rfl d_M_brings_14 ?_
    refine ⟨σ, fr.rf, ?_⟩
    unfold mBrings
    first | (rw [if_pos (by assumption)]; done) | (rw [if_neg (fun q => q (by assumption)), if_pos (by assumption)]; done) | (rw [if_neg (fun q => q (by assumption)), if_neg (by assumption), xr, if_pos (i_lt_le.mp (by assumption))]; subst_vars; rfl) | (rw [if_neg (fun q => q (by assumption)), if_neg (by assumption), xr, if_neg (i_nlt.mpr (by assumption)), if_pos (i_lt_le.mp (by assumption))]; subst_vars; rfl)
  · skip
    refine v_istore_n (ls' := [(2, .int (-4)), (0, .ref (u.2.1 63)), (1, .int r)]) F d_M_brings_8 rfl (by decide) rfl ?_
    refine v_iload_n F d_M_brings_9 rfl 0 rfl ?_
    refine v_if_ge F 15 d_M_brings_10 rfl (fun h => absurd h (by decide)) (fun _ => ?_)
    refine v_iload_n F d_M_brings_13 rfl 0 rfl ?_
    refine v_iret F hr rfl d_M_brings_14 ?_
    refine ⟨σ, fr.rf, ?_⟩
    unfold mBrings
    first | (rw [if_pos (by assumption)]; done) | (rw [if_neg (fun q => q (by assumption)), if_pos (by assumption)]; done) | (rw [if_neg (fun q => q (by assumption)), if_neg (by assumption), xr, if_pos (i_lt_le.mp (by assumption))]; subst_vars; rfl) | (rw [if_neg (fun q => q (by assumption)), if_neg (by assumption), xr, if_neg (i_nlt.mpr (by assumption)), if_pos (i_lt_le.mp (by assumption))]; subst_vars; rfl)
  · skip
    refine v_istore_n (ls' := [(2, .int 0), (0, .ref (u.2.1 63)), (1, .int r)]) F d_M_brings_8 rfl (by decide) rfl ?_
    refine v_iload_n F d_M_brings_9 rfl 0 rfl ?_
    refine v_if_ge F 15 d_M_brings_10 rfl (fun _ => ?_) (fun h => absurd (by decide) h)
    obtain ⟨ro, hro, xr, rfl⟩ := inR_nat (N := 6) a1 rfl (by decide)
    refine v_aload_n F d_M_brings_15 rfl 1 rfl ?_
    refine v_getr (r := 65) F fk_M_17 G63 rfl d_M_brings_16 ?_
    refine v_iload_n F d_M_brings_19 rfl 2 rfl ?_
    refine v_ial F ro G65 rfl (by omega) d_M_brings_20 ?_
    refine v_if_ge F 30 d_M_brings_21 rfl (fun h21 => ?_) (fun h21 => ?_)
    · skip
      refine v_aload_n F d_M_brings_30 rfl 1 rfl ?_
      refine v_getr (r := 65) F fk_M_17 G63 rfl d_M_brings_31 ?_
      refine v_iload_n F d_M_brings_34 rfl 2 rfl ?_
      refine v_ial F ro G65 rfl (by omega) d_M_brings_35 ?_
      refine v_iconst (v := 4) F d_M_brings_36 ki_4 ?_
      refine v_icmp_le F 46 d_M_brings_37 rfl (fun h37 => ?_) (fun h37 => ?_)
      · skip
        refine v_iconst (v := 0) F d_M_brings_46 ki_0 ?_
        refine v_istore_n (ls' := [(3, .int 0), (2, .int 0), (0, .ref (u.2.1 63)), (1, .int (nI ro))]) F d_M_brings_47 rfl (by decide) rfl ?_
        refine v_iconst (v := 1) F d_M_brings_48 ki_1 ?_
        refine v_istore (ls' := [(4, .int 1), (3, .int 0), (2, .int 0), (0, .ref (u.2.1 63)), (1, .int (nI ro))]) F d_M_brings_49 (by decide) rfl ?_
        refine v_iconst (v := 0) F d_M_brings_51 ki_0 ?_
        refine v_istore (ls' := [(5, .int 0), (4, .int 1), (3, .int 0), (2, .int 0), (0, .ref (u.2.1 63)), (1, .int (nI ro))]) F d_M_brings_52 (by decide) rfl ?_
        obtain ⟨N, hN, xN, eN⟩ := nat_of (M := 4) h21 h37 rfl (by decide)
        refine v_sub [4, 5, 2, 1, 0] (ls' := [(0, .ref (u.2.1 63)), (1, .int (nI ro)), (3, .int 0), (4, .int 1), (5, .int 0)]) rfl ?_
        have g7 : 0 = (nI (brU σ n ro 0)) := (by first | rfl | (simp_all; done) | grind)
        have g8 : 1 = (bI (brG σ n a ro 0 = true)) := (by first | rfl | (simp_all; done) | grind)
        have g9 : 0 = (nI 0) := (by first | rfl | (simp_all; done) | grind)
        refine v_to (ls' := [(0, .ref (u.2.1 63)), (1, .int (nI ro)), (3, .int (nI (brU σ n ro 0))), (4, .int (bI (brG σ n a ro 0 = true))), (5, .int (nI 0))]) (by first | rfl | rw [g7, g8, g9] | simp_all) ?_
        refine L_M_brings_54 hA F hb ha h0 hro hN eN (fun k τ ek fτ hp => ?_) _ 0 σ (Nat.zero_le _) fr.rf (fun i hi => absurd hi (Nat.not_lt_zero _)) (Nat.lt_succ_self _)
        subst ek
        refine v_iload F d_M_brings_160 2 rfl ?_
        refine v_bf F 171 d_M_brings_162 rfl (fun h162 => ?_) (fun h162 => ?_)
        · skip
          refine v_aload_n F d_M_brings_171 rfl 0 rfl ?_
          refine v_aload_n F d_M_brings_172 rfl 0 rfl ?_
          refine v_getr (r := 65) F fk_M_17 G63 rfl d_M_brings_173 ?_
          refine v_iload_n F d_M_brings_176 rfl 1 rfl ?_
          refine v_ial F ro G65 rfl (by omega) d_M_brings_177 ?_
          refine v_te (y := nI k) (fτ.v rfl eN) ?_
          refine v_runi (r_V F (c_M_goes X.2.1 u hA fτ hb ha h0 (pl := (rwM σ ro)) hN (bg_in hn6 k (by assumption)) hp) mo_M_goes st_M_248 rc_63 (by decide) rfl (Nat.le_of_ble_eq_true rfl) d_M_brings_178) (fun r10 σ11 q12 => ?_)
          obtain ⟨rfl, fσ11, htσ11, hLσ11⟩ := q12
          refine v_istore (ls' := [(5, .int ((gzS σ kd n a (rwM σ ro) k).m - σ.1 76 1)), (0, .ref (u.2.1 63)), (1, .int (nI ro)), (4, .int (bI (brG σ n a ro k = true)))]) F d_M_brings_181 (by decide) rfl ?_
          refine v_aload_n F d_M_brings_183 rfl 1 rfl ?_
          refine v_aload_n F d_M_brings_184 rfl 1 rfl ?_
          refine v_geti F fk_M_236 G63 rfl d_M_brings_185 ?_
          refine v_te (y := oI (gzS σ kd n a (rwM σ ro) k).t) htσ11 ?_
          refine v_iload F d_M_brings_188 0 rfl ?_
          refine v_runi (r_V F (c_M_tells X.2.1 u hA σ11 (oI (gzS σ kd n a (rwM σ ro) k).t) ((gzS σ kd n a (rwM σ ro) k).m - σ.1 76 1)) mo_M_tells st_M_111 rc_63 (by decide) rfl (Nat.le_of_ble_eq_true rfl) d_M_brings_190) (fun r13 σ14 q15 => ?_)
          obtain ⟨rfl, eσ14⟩ := q15
          refine v_iret F hr rfl d_M_brings_193 ?_
          refine ⟨σ11, fσ11, ?_⟩
          unfold mBrings
          rw [if_neg (fun q => q (by assumption)), if_neg (by assumption), xr, if_neg (i_nlt.mpr (by assumption)), if_neg (i_nlt.mpr (by assumption)), xN, if_neg (fun q => q (by assumption))]
          subst_vars
          rfl
        · skip
          refine v_aload_n F d_M_brings_165 rfl 0 rfl ?_
          refine v_iconst (v := 3) F d_M_brings_166 ki_3 ?_
          refine v_runi (r_V F (c_M_meets X.2.1 u hA τ 3 (by decide)) mo_M_meets st_M_103 rc_63 (by decide) rfl (Nat.le_of_ble_eq_true rfl) d_M_brings_167) (fun r16 σ17 q18 => ?_)
          obtain ⟨rfl, eσ17⟩ := q18
          refine v_iret F hr rfl d_M_brings_170 ?_
          refine ⟨τ, fτ, ?_⟩
          unfold mBrings
          rw [if_neg (fun q => q (by assumption)), if_neg (by assumption), xr, if_neg (i_nlt.mpr (by assumption)), if_neg (i_nlt.mpr (by assumption)), xN, if_pos (by assumption)]
          subst_vars
          rfl
      · skip
        refine v_aload_n F d_M_brings_40 rfl 1 rfl ?_
        refine v_iconst (v := 5) F d_M_brings_41 ki_5 ?_
        refine v_runi (r_V F (c_M_meets X.2.1 u hA σ 5 (by decide)) mo_M_meets st_M_103 rc_63 (by decide) rfl (Nat.le_of_ble_eq_true rfl) d_M_brings_42) (fun r19 σ20 q21 => ?_)
        obtain ⟨rfl, eσ20⟩ := q21
        refine v_iret F hr rfl d_M_brings_45 ?_
        refine ⟨σ, fr.rf, ?_⟩
        unfold mBrings
        first | (rw [if_pos (by assumption)]; done) | (rw [if_neg (fun q => q (by assumption)), if_pos (by assumption)]; done) | (rw [if_neg (fun q => q (by assumption)), if_neg (by assumption), xr, if_pos (i_lt_le.mp (by assumption))]; subst_vars; rfl) | (rw [if_neg (fun q => q (by assumption)), if_neg (by assumption), xr, if_neg (i_nlt.mpr (by assumption)), if_pos (i_lt_le.mp (by assumption))]; subst_vars; rfl)
    · skip
      refine v_aload_n F d_M_brings_24 rfl 1 rfl ?_
      refine v_iconst (v := 1) F d_M_brings_25 ki_1 ?_
      refine v_runi (r_V F (c_M_meets X.2.1 u hA σ 1 (by decide)) mo_M_meets st_M_103 rc_63 (by decide) rfl (Nat.le_of_ble_eq_true rfl) d_M_brings_26) (fun r22 σ23 q24 => ?_)
      obtain ⟨rfl, eσ23⟩ := q24
      refine v_iret F hr rfl d_M_brings_29 ?_
      refine ⟨σ, fr.rf, ?_⟩
      unfold mBrings
      first | (rw [if_pos (by assumption)]; done) | (rw [if_neg (fun q => q (by assumption)), if_pos (by assumption)]; done) | (rw [if_neg (fun q => q (by assumption)), if_neg (by assumption), xr, if_pos (i_lt_le.mp (by assumption))]; subst_vars; rfl) | (rw [if_neg (fun q => q (by assumption)), if_neg (by assumption), xr, if_neg (i_nlt.mpr (by assumption)), if_pos (i_lt_le.mp (by assumption))]; subst_vars; rfl)
