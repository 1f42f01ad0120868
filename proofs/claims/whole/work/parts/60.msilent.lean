theorem st_M_219 : siteV "TakerBookModel" 219 ⟨"TakerBookModel", "codes", "()I"⟩ := ⟨List.mem_of_getElem? (i := 1326) (by decide +kernel), List.mem_of_getElem? (i := 1328) (by decide +kernel), List.mem_of_getElem? (i := 52) (by decide +kernel)⟩
theorem st_M_223 : siteV "TakerBookModel" 223 ⟨"TakerBookModel", "more", "(I)I"⟩ := ⟨List.mem_of_getElem? (i := 1330) (by decide +kernel), List.mem_of_getElem? (i := 1332) (by decide +kernel), List.mem_of_getElem? (i := 53) (by decide +kernel)⟩
theorem st_M_226 : siteV "TakerBookModel" 226 ⟨"TakerBookModel", "marked", "([I)I"⟩ := ⟨List.mem_of_getElem? (i := 1334) (by decide +kernel), List.mem_of_getElem? (i := 1336) (by decide +kernel), List.mem_of_getElem? (i := 54) (by decide +kernel)⟩
abbrev b_M_more : ByteArray := prog_14_method_61_code
abbrev y_M_more : MethodName := ⟨"TakerBookModel", "more", "(I)I"⟩
theorem d_M_more_0 : decode b_M_more 0 = .ok (.iload_n 1, 1) := by decide +kernel
theorem d_M_more_1 : decode b_M_more 1 = .ok (.istore_n 2, 1) := by decide +kernel
theorem d_M_more_2 : decode b_M_more 2 = .ok (.iconst 0, 1) := by decide +kernel
theorem d_M_more_3 : decode b_M_more 3 = .ok (.istore_n 3, 1) := by decide +kernel
theorem d_M_more_4 : decode b_M_more 4 = .ok (.iconst 1, 1) := by decide +kernel
theorem d_M_more_5 : decode b_M_more 5 = .ok (.istore 4, 2) := by decide +kernel
theorem d_M_more_7 : decode b_M_more 7 = .ok (.aload_n 0, 1) := by decide +kernel
theorem d_M_more_8 : decode b_M_more 8 = .ok (.invokevirtual 215, 3) := by decide +kernel
theorem d_M_more_11 : decode b_M_more 11 = .ok (.iconst 0, 1) := by decide +kernel
theorem d_M_more_12 : decode b_M_more 12 = .ok (.istore 5, 2) := by decide +kernel
theorem d_M_more_14 : decode b_M_more 14 = .ok (.iload 5, 2) := by decide +kernel
theorem d_M_more_16 : decode b_M_more 16 = .ok (.aload_n 0, 1) := by decide +kernel
theorem d_M_more_17 : decode b_M_more 17 = .ok (.getfield 146, 3) := by decide +kernel
theorem d_M_more_20 : decode b_M_more 20 = .ok (.if_icmp .ge 81, 3) := by decide +kernel
theorem d_M_more_23 : decode b_M_more 23 = .ok (.iload_n 2, 1) := by decide +kernel
theorem d_M_more_24 : decode b_M_more 24 = .ok (.iconst 3, 1) := by decide +kernel
theorem d_M_more_25 : decode b_M_more 25 = .ok (.irem, 1) := by decide +kernel
theorem d_M_more_26 : decode b_M_more 26 = .ok (.aload_n 0, 1) := by decide +kernel
theorem d_M_more_27 : decode b_M_more 27 = .ok (.getfield 51, 3) := by decide +kernel
theorem d_M_more_30 : decode b_M_more 30 = .ok (.iconst 5, 1) := by decide +kernel
theorem d_M_more_31 : decode b_M_more 31 = .ok (.iload 5, 2) := by decide +kernel
theorem d_M_more_33 : decode b_M_more 33 = .ok (.iadd, 1) := by decide +kernel
theorem d_M_more_34 : decode b_M_more 34 = .ok (.iaload, 1) := by decide +kernel
theorem d_M_more_35 : decode b_M_more 35 = .ok (.isub, 1) := by decide +kernel
theorem d_M_more_36 : decode b_M_more 36 = .ok (.istore 6, 2) := by decide +kernel
theorem d_M_more_38 : decode b_M_more 38 = .ok (.iload 4, 2) := by decide +kernel
theorem d_M_more_40 : decode b_M_more 40 = .ok (.ifCond .eq 31, 3) := by decide +kernel
theorem d_M_more_43 : decode b_M_more 43 = .ok (.iload 6, 2) := by decide +kernel
theorem d_M_more_45 : decode b_M_more 45 = .ok (.ifCond .lt 26, 3) := by decide +kernel
theorem d_M_more_48 : decode b_M_more 48 = .ok (.iload 6, 2) := by decide +kernel
theorem d_M_more_50 : decode b_M_more 50 = .ok (.ifCond .eq 17, 3) := by decide +kernel
theorem d_M_more_53 : decode b_M_more 53 = .ok (.aload_n 0, 1) := by decide +kernel
theorem d_M_more_54 : decode b_M_more 54 = .ok (.getfield 51, 3) := by decide +kernel
theorem d_M_more_57 : decode b_M_more 57 = .ok (.iconst 0, 1) := by decide +kernel
theorem d_M_more_58 : decode b_M_more 58 = .ok (.iaload, 1) := by decide +kernel
theorem d_M_more_59 : decode b_M_more 59 = .ok (.iload 5, 2) := by decide +kernel
theorem d_M_more_61 : decode b_M_more 61 = .ok (.invokestatic 155, 3) := by decide +kernel
theorem d_M_more_64 : decode b_M_more 64 = .ok (.ifCond .eq 7, 3) := by decide +kernel
theorem d_M_more_67 : decode b_M_more 67 = .ok (.iconst 1, 1) := by decide +kernel
theorem d_M_more_68 : decode b_M_more 68 = .ok (.goto 4, 3) := by decide +kernel
theorem d_M_more_71 : decode b_M_more 71 = .ok (.iconst 0, 1) := by decide +kernel
theorem d_M_more_72 : decode b_M_more 72 = .ok (.istore 4, 2) := by decide +kernel
theorem d_M_more_74 : decode b_M_more 74 = .ok (.aload_n 0, 1) := by decide +kernel
theorem d_M_more_75 : decode b_M_more 75 = .ok (.getfield 54, 3) := by decide +kernel
theorem d_M_more_78 : decode b_M_more 78 = .ok (.iconst 5, 1) := by decide +kernel
theorem d_M_more_79 : decode b_M_more 79 = .ok (.iload 5, 2) := by decide +kernel
theorem d_M_more_81 : decode b_M_more 81 = .ok (.iadd, 1) := by decide +kernel
theorem d_M_more_82 : decode b_M_more 82 = .ok (.iload_n 2, 1) := by decide +kernel
theorem d_M_more_83 : decode b_M_more 83 = .ok (.iconst 3, 1) := by decide +kernel
theorem d_M_more_84 : decode b_M_more 84 = .ok (.irem, 1) := by decide +kernel
theorem d_M_more_85 : decode b_M_more 85 = .ok (.iastore, 1) := by decide +kernel
theorem d_M_more_86 : decode b_M_more 86 = .ok (.iload_n 3, 1) := by decide +kernel
theorem d_M_more_87 : decode b_M_more 87 = .ok (.iload 6, 2) := by decide +kernel
theorem d_M_more_89 : decode b_M_more 89 = .ok (.iadd, 1) := by decide +kernel
theorem d_M_more_90 : decode b_M_more 90 = .ok (.istore_n 3, 1) := by decide +kernel
theorem d_M_more_91 : decode b_M_more 91 = .ok (.iload_n 2, 1) := by decide +kernel
theorem d_M_more_92 : decode b_M_more 92 = .ok (.iconst 3, 1) := by decide +kernel
theorem d_M_more_93 : decode b_M_more 93 = .ok (.idiv, 1) := by decide +kernel
theorem d_M_more_94 : decode b_M_more 94 = .ok (.istore_n 2, 1) := by decide +kernel
theorem d_M_more_95 : decode b_M_more 95 = .ok (.iinc 5 1, 3) := by decide +kernel
theorem d_M_more_98 : decode b_M_more 98 = .ok (.goto (-84), 3) := by decide +kernel
theorem d_M_more_101 : decode b_M_more 101 = .ok (.iload 4, 2) := by decide +kernel
theorem d_M_more_103 : decode b_M_more 103 = .ok (.ifCond .eq 7, 3) := by decide +kernel
theorem d_M_more_106 : decode b_M_more 106 = .ok (.iload_n 3, 1) := by decide +kernel
theorem d_M_more_107 : decode b_M_more 107 = .ok (.goto 4, 3) := by decide +kernel
theorem d_M_more_110 : decode b_M_more 110 = .ok (.iconst (-1), 1) := by decide +kernel
theorem d_M_more_111 : decode b_M_more 111 = .ok (.ireturn, 1) := by decide +kernel
theorem mo_M_more : mok y_M_more b_M_more 7 (some .int) 1 := ⟨List.mem_of_getElem? (i := 1333) (by decide +kernel), ⟨by decide +kernel, by decide +kernel, by decide +kernel⟩, List.mem_of_getElem? (i := 86) (by decide +kernel), by decide⟩
set_option maxHeartbeats 4000000 in
theorem L_M_more_14 {X : FX} {u : Un} (hA : Ap u) {Q : State → Prop} (F : Fr X u "TakerBookModel" b_M_more 7) {σ : St} {n : Nat} {kd : Nat → Nat} (hb : mkOk σ n kd) {a : Nat} (ha : a < 64) (h0 : σ.1 76 0 = nI a) {cr : Nat → Nat} (hcr : crOk σ cr n) {code : Nat} (hc : code < 729) (k0 : ∀ (i : Nat) (τ : St), i = n → fr σ τ → tdOk a i code τ → V X u 1 7 Q 101 [(3, .int (sumI (fun i => nI (dg code i) - nI (cr i)) i)), (4, .int (bI (allB (mgB cr a code) i = true)))] [] (τ)) : ∀ (nn : Nat) (i : Nat) (τ : St), i ≤ n → fr σ τ → tdOk a i code τ → n - i < nn → V X u 1 7 Q 14 [(0, .ref (u.2.1 63)), (1, .int (nI code)), (2, .int (nI (code / 3 ^ i))), (3, .int (sumI (fun i => nI (dg code i) - nI (cr i)) i)), (4, .int (bI (allB (mgB cr a code) i = true))), (5, .int (nI i))] [] (τ) := by
  intro nn
  induction nn with
  | zero =>
    intro i τ hi fτ ht h2
    exact absurd h2 (Nat.not_lt_zero _)
  | succ nn ih =>
    intro i τ hi fτ ht hm
    obtain ⟨hn, hn6, hkd, hk6⟩ := id hb
    have hcq : code / 3 ^ i ≤ code := Nat.div_le_self _ _
    refine v_iload F d_M_more_14 5 rfl ?_
    refine v_aload_n F d_M_more_16 rfl 0 rfl ?_
    refine v_geti F fk_M_146 G63 rfl d_M_more_17 ?_
    refine v_te (y := nI n) (fτ.v rfl hn) ?_
    refine v_icmp_ge F 101 d_M_more_20 rfl (fun h20 => ?_) (fun h20 => ?_)
    · skip
      have h20 : n ≤ i := (nI_leI (a := n) (b := i) (by omega) (by omega)).mp h20
      refine v_sub [3, 4] (ls' := [(3, .int (sumI (fun i => nI (dg code i) - nI (cr i)) i)), (4, .int (bI (allB (mgB cr a code) i = true)))]) rfl ?_
      exact k0 i τ (by omega) fτ ht
    · skip
      have h20 : ¬ n ≤ i := fun q => h20 ((nI_leI (a := n) (b := i) (by omega) (by omega)).mpr q)
      refine v_iload_n F d_M_more_23 rfl 2 rfl ?_
      refine v_iconst (v := 3) F d_M_more_24 ki_3 ?_
      refine v_irem F d_M_more_25 (by decide) ?_
      refine v_te (y := nI (dg code i)) (pk_rem (by omega) (by decide) (by decide)) ?_
      refine v_aload_n F d_M_more_26 rfl 0 rfl ?_
      refine v_getr (r := 76) F fk_M_51 G63 rfl d_M_more_27 ?_
      refine v_iconst (v := 5) F d_M_more_30 ki_5 ?_
      refine v_iload F d_M_more_31 5 rfl ?_
      refine v_iadd F d_M_more_33 ?_
      refine v_te (y := nI (5 + i)) (nI_add _ _) ?_
      refine v_ial F (5 + i) G76 rfl (by omega) d_M_more_34 ?_
      refine v_te (y := nI (cr i)) (fτ.v rfl (hcr i (by omega)).1) ?_
      refine v_isub F d_M_more_35 ?_
      refine v_istore (ls' := [(6, .int ((nI (dg code i)) - (nI (cr i)))), (0, .ref (u.2.1 63)), (1, .int (nI code)), (2, .int (nI (code / 3 ^ i))), (3, .int (sumI (fun i => nI (dg code i) - nI (cr i)) i)), (4, .int (bI (allB (mgB cr a code) i = true))), (5, .int (nI i))]) F d_M_more_36 (by decide) rfl ?_
      refine v_iload F d_M_more_38 5 rfl ?_
      refine v_bt F 71 d_M_more_40 rfl (fun h40 => ?_) (fun h40 => ?_)
      · skip
        refine v_iconst (v := 0) F d_M_more_71 ki_0 ?_
        refine v_istore (ls' := [(4, .int 0), (6, .int ((nI (dg code i)) - (nI (cr i)))), (0, .ref (u.2.1 63)), (1, .int (nI code)), (2, .int (nI (code / 3 ^ i))), (3, .int (sumI (fun i => nI (dg code i) - nI (cr i)) i)), (5, .int (nI i))]) F d_M_more_72 (by decide) rfl ?_
        refine v_aload_n F d_M_more_74 rfl 2 rfl ?_
        refine v_getr (r := 77) F fk_M_54 G63 rfl d_M_more_75 ?_
        refine v_iconst (v := 5) F d_M_more_78 ki_5 ?_
        refine v_iload F d_M_more_79 6 rfl ?_
        refine v_iadd F d_M_more_81 ?_
        refine v_te (y := nI (5 + i)) (nI_add _ _) ?_
        refine v_iload_n F d_M_more_82 rfl 4 rfl ?_
        refine v_iconst (v := 3) F d_M_more_83 ki_3 ?_
        refine v_irem F d_M_more_84 (by decide) ?_
        refine v_te (y := nI (dg code i)) (pk_rem (by omega) (by decide) (by decide)) ?_
        refine v_ias F (5 + i) G77 rfl (by omega) d_M_more_85 ?_
        refine v_ns (fun σ1 eσ1 => ?_)
        have fσ1 : fr σ σ1 := by rw [eσ1]; exact fτ.u rfl
        refine v_iload_n F d_M_more_86 rfl 5 rfl ?_
        refine v_iload F d_M_more_87 1 rfl ?_
        refine v_iadd F d_M_more_89 ?_
        refine v_istore_n (ls' := [(3, .int ((sumI (fun i => nI (dg code i) - nI (cr i)) i) + ((nI (dg code i)) - (nI (cr i))))), (4, .int 0), (6, .int ((nI (dg code i)) - (nI (cr i)))), (0, .ref (u.2.1 63)), (1, .int (nI code)), (2, .int (nI (code / 3 ^ i))), (5, .int (nI i))]) F d_M_more_90 rfl (by decide) rfl ?_
        refine v_iload_n F d_M_more_91 rfl 5 rfl ?_
        refine v_iconst (v := 3) F d_M_more_92 ki_3 ?_
        refine v_idiv F d_M_more_93 (by decide) ?_
        refine v_te (y := nI (code / 3 ^ i / 3)) (pk_div (by omega) (by decide) (by decide)) ?_
        refine v_istore_n (ls' := [(2, .int (nI (code / 3 ^ i / 3))), (3, .int ((sumI (fun i => nI (dg code i) - nI (cr i)) i) + ((nI (dg code i)) - (nI (cr i))))), (4, .int 0), (6, .int ((nI (dg code i)) - (nI (cr i)))), (0, .ref (u.2.1 63)), (1, .int (nI code)), (5, .int (nI i))]) F d_M_more_94 rfl (by decide) rfl ?_
        refine v_iinc (v := nI (i + 1)) (ls' := [(5, .int (nI (i + 1))), (2, .int (nI (code / 3 ^ i / 3))), (3, .int ((sumI (fun i => nI (dg code i) - nI (cr i)) i) + ((nI (dg code i)) - (nI (cr i))))), (4, .int 0), (6, .int ((nI (dg code i)) - (nI (cr i)))), (0, .ref (u.2.1 63)), (1, .int (nI code))]) F d_M_more_95 (j := 6) rfl (nI_inc _) (by decide) rfl ?_
        refine v_goto F 14 d_M_more_98 rfl ?_
        refine v_sub [5, 6, 1, 2, 3, 0] (ls' := [(0, .ref (u.2.1 63)), (1, .int (nI code)), (2, .int (nI (code / 3 ^ i / 3))), (3, .int ((sumI (fun i => nI (dg code i) - nI (cr i)) i) + ((nI (dg code i)) - (nI (cr i))))), (4, .int 0), (5, .int (nI (i + 1)))]) rfl ?_
        have g2 : (nI (code / 3 ^ i / 3)) = (nI (code / 3 ^ (i + 1))) := (by first | rfl | (rw [dg_s]; done) | exact (bI_t (allB_s (by assumption) (by assumption))).symm | exact (bI_t (allB_s (by assumption) (mg_t (by assumption) (by first | exact Or.inl (by assumption) | exact Or.inr (by assumption))))).symm | exact (bI_f (allB_f (by assumption))).symm | exact (bI_f (allB_f2 (mg_f1 (by assumption)))).symm | exact (bI_f (allB_f2 (mg_f2 (by assumption) (by assumption)))).symm | (subst_vars; first | rfl | (rw [dg_s]; done)))
        have g3 : ((sumI (fun i => nI (dg code i) - nI (cr i)) i) + ((nI (dg code i)) - (nI (cr i)))) = (sumI (fun i => nI (dg code i) - nI (cr i)) (i + 1)) := (by first | rfl | (rw [dg_s]; done) | exact (bI_t (allB_s (by assumption) (by assumption))).symm | exact (bI_t (allB_s (by assumption) (mg_t (by assumption) (by first | exact Or.inl (by assumption) | exact Or.inr (by assumption))))).symm | exact (bI_f (allB_f (by assumption))).symm | exact (bI_f (allB_f2 (mg_f1 (by assumption)))).symm | exact (bI_f (allB_f2 (mg_f2 (by assumption) (by assumption)))).symm | (subst_vars; first | rfl | (rw [dg_s]; done)))
        have g4 : 0 = (bI (allB (mgB cr a code) (i + 1) = true)) := (by first | rfl | (rw [dg_s]; done) | exact (bI_t (allB_s (by assumption) (by assumption))).symm | exact (bI_t (allB_s (by assumption) (mg_t (by assumption) (by first | exact Or.inl (by assumption) | exact Or.inr (by assumption))))).symm | exact (bI_f (allB_f (by assumption))).symm | exact (bI_f (allB_f2 (mg_f1 (by assumption)))).symm | exact (bI_f (allB_f2 (mg_f2 (by assumption) (by assumption)))).symm | (subst_vars; first | rfl | (rw [dg_s]; done)))
        refine v_to (ls' := [(0, .ref (u.2.1 63)), (1, .int (nI code)), (2, .int (nI (code / 3 ^ (i + 1)))), (3, .int (sumI (fun i => nI (dg code i) - nI (cr i)) (i + 1))), (4, .int (bI (allB (mgB cr a code) (i + 1) = true))), (5, .int (nI (i + 1)))]) (by first | rfl | rw [g2, g3, g4] | simp_all) ?_
        exact ih (i + 1) (σ1) (by omega) fσ1 (by rw [eσ1]; exact td_s ht rfl) (by omega)
      · skip
        refine v_iload F d_M_more_43 0 rfl ?_
        refine v_if_lt F 71 d_M_more_45 rfl (fun h45 => ?_) (fun h45 => ?_)
        · skip
          have h45 := (dmc _ dg_lt _ (hcr i (by omega)).2).1.mp h45
          refine v_iconst (v := 0) F d_M_more_71 ki_0 ?_
          refine v_istore (ls' := [(4, .int 0), (6, .int ((nI (dg code i)) - (nI (cr i)))), (0, .ref (u.2.1 63)), (1, .int (nI code)), (2, .int (nI (code / 3 ^ i))), (3, .int (sumI (fun i => nI (dg code i) - nI (cr i)) i)), (5, .int (nI i))]) F d_M_more_72 (by decide) rfl ?_
          refine v_aload_n F d_M_more_74 rfl 2 rfl ?_
          refine v_getr (r := 77) F fk_M_54 G63 rfl d_M_more_75 ?_
          refine v_iconst (v := 5) F d_M_more_78 ki_5 ?_
          refine v_iload F d_M_more_79 6 rfl ?_
          refine v_iadd F d_M_more_81 ?_
          refine v_te (y := nI (5 + i)) (nI_add _ _) ?_
          refine v_iload_n F d_M_more_82 rfl 4 rfl ?_
          refine v_iconst (v := 3) F d_M_more_83 ki_3 ?_
          refine v_irem F d_M_more_84 (by decide) ?_
          refine v_te (y := nI (dg code i)) (pk_rem (by omega) (by decide) (by decide)) ?_
          refine v_ias F (5 + i) G77 rfl (by omega) d_M_more_85 ?_
          refine v_ns (fun σ5 eσ5 => ?_)
          have fσ5 : fr σ σ5 := by rw [eσ5]; exact fτ.u rfl
          refine v_iload_n F d_M_more_86 rfl 5 rfl ?_
          refine v_iload F d_M_more_87 1 rfl ?_
          refine v_iadd F d_M_more_89 ?_
          refine v_istore_n (ls' := [(3, .int ((sumI (fun i => nI (dg code i) - nI (cr i)) i) + ((nI (dg code i)) - (nI (cr i))))), (4, .int 0), (6, .int ((nI (dg code i)) - (nI (cr i)))), (0, .ref (u.2.1 63)), (1, .int (nI code)), (2, .int (nI (code / 3 ^ i))), (5, .int (nI i))]) F d_M_more_90 rfl (by decide) rfl ?_
          refine v_iload_n F d_M_more_91 rfl 5 rfl ?_
          refine v_iconst (v := 3) F d_M_more_92 ki_3 ?_
          refine v_idiv F d_M_more_93 (by decide) ?_
          refine v_te (y := nI (code / 3 ^ i / 3)) (pk_div (by omega) (by decide) (by decide)) ?_
          refine v_istore_n (ls' := [(2, .int (nI (code / 3 ^ i / 3))), (3, .int ((sumI (fun i => nI (dg code i) - nI (cr i)) i) + ((nI (dg code i)) - (nI (cr i))))), (4, .int 0), (6, .int ((nI (dg code i)) - (nI (cr i)))), (0, .ref (u.2.1 63)), (1, .int (nI code)), (5, .int (nI i))]) F d_M_more_94 rfl (by decide) rfl ?_
          refine v_iinc (v := nI (i + 1)) (ls' := [(5, .int (nI (i + 1))), (2, .int (nI (code / 3 ^ i / 3))), (3, .int ((sumI (fun i => nI (dg code i) - nI (cr i)) i) + ((nI (dg code i)) - (nI (cr i))))), (4, .int 0), (6, .int ((nI (dg code i)) - (nI (cr i)))), (0, .ref (u.2.1 63)), (1, .int (nI code))]) F d_M_more_95 (j := 6) rfl (nI_inc _) (by decide) rfl ?_
          refine v_goto F 14 d_M_more_98 rfl ?_
          refine v_sub [5, 6, 1, 2, 3, 0] (ls' := [(0, .ref (u.2.1 63)), (1, .int (nI code)), (2, .int (nI (code / 3 ^ i / 3))), (3, .int ((sumI (fun i => nI (dg code i) - nI (cr i)) i) + ((nI (dg code i)) - (nI (cr i))))), (4, .int 0), (5, .int (nI (i + 1)))]) rfl ?_
          have g6 : (nI (code / 3 ^ i / 3)) = (nI (code / 3 ^ (i + 1))) := (by first | rfl | (rw [dg_s]; done) | exact (bI_t (allB_s (by assumption) (by assumption))).symm | exact (bI_t (allB_s (by assumption) (mg_t (by assumption) (by first | exact Or.inl (by assumption) | exact Or.inr (by assumption))))).symm | exact (bI_f (allB_f (by assumption))).symm | exact (bI_f (allB_f2 (mg_f1 (by assumption)))).symm | exact (bI_f (allB_f2 (mg_f2 (by assumption) (by assumption)))).symm | (subst_vars; first | rfl | (rw [dg_s]; done)))
          have g7 : ((sumI (fun i => nI (dg code i) - nI (cr i)) i) + ((nI (dg code i)) - (nI (cr i)))) = (sumI (fun i => nI (dg code i) - nI (cr i)) (i + 1)) := (by first | rfl | (rw [dg_s]; done) | exact (bI_t (allB_s (by assumption) (by assumption))).symm | exact (bI_t (allB_s (by assumption) (mg_t (by assumption) (by first | exact Or.inl (by assumption) | exact Or.inr (by assumption))))).symm | exact (bI_f (allB_f (by assumption))).symm | exact (bI_f (allB_f2 (mg_f1 (by assumption)))).symm | exact (bI_f (allB_f2 (mg_f2 (by assumption) (by assumption)))).symm | (subst_vars; first | rfl | (rw [dg_s]; done)))
          have g8 : 0 = (bI (allB (mgB cr a code) (i + 1) = true)) := (by first | rfl | (rw [dg_s]; done) | exact (bI_t (allB_s (by assumption) (by assumption))).symm | exact (bI_t (allB_s (by assumption) (mg_t (by assumption) (by first | exact Or.inl (by assumption) | exact Or.inr (by assumption))))).symm | exact (bI_f (allB_f (by assumption))).symm | exact (bI_f (allB_f2 (mg_f1 (by assumption)))).symm | exact (bI_f (allB_f2 (mg_f2 (by assumption) (by assumption)))).symm | (subst_vars; first | rfl | (rw [dg_s]; done)))
          refine v_to (ls' := [(0, .ref (u.2.1 63)), (1, .int (nI code)), (2, .int (nI (code / 3 ^ (i + 1)))), (3, .int (sumI (fun i => nI (dg code i) - nI (cr i)) (i + 1))), (4, .int (bI (allB (mgB cr a code) (i + 1) = true))), (5, .int (nI (i + 1)))]) (by first | rfl | rw [g6, g7, g8] | simp_all) ?_
          exact ih (i + 1) (σ5) (by omega) fσ5 (by rw [eσ5]; exact td_s ht rfl) (by omega)
        · skip
          have h45 : ¬ dg code i < cr i := fun q => h45 ((dmc _ dg_lt _ (hcr i (by omega)).2).1.mpr q)
          refine v_iload F d_M_more_48 0 rfl ?_
          refine v_if_eq F 67 d_M_more_50 rfl (fun h50 => ?_) (fun h50 => ?_)
          · skip
            have h50 := (dmc _ dg_lt _ (hcr i (by omega)).2).2.mp h50
            refine v_iconst (v := 1) F d_M_more_67 ki_1 ?_
            refine v_goto F 72 d_M_more_68 rfl ?_
            refine v_istore (ls' := [(4, .int 1), (6, .int ((nI (dg code i)) - (nI (cr i)))), (0, .ref (u.2.1 63)), (1, .int (nI code)), (2, .int (nI (code / 3 ^ i))), (3, .int (sumI (fun i => nI (dg code i) - nI (cr i)) i)), (5, .int (nI i))]) F d_M_more_72 (by decide) rfl ?_
            refine v_aload_n F d_M_more_74 rfl 2 rfl ?_
            refine v_getr (r := 77) F fk_M_54 G63 rfl d_M_more_75 ?_
            refine v_iconst (v := 5) F d_M_more_78 ki_5 ?_
            refine v_iload F d_M_more_79 6 rfl ?_
            refine v_iadd F d_M_more_81 ?_
            refine v_te (y := nI (5 + i)) (nI_add _ _) ?_
            refine v_iload_n F d_M_more_82 rfl 4 rfl ?_
            refine v_iconst (v := 3) F d_M_more_83 ki_3 ?_
            refine v_irem F d_M_more_84 (by decide) ?_
            refine v_te (y := nI (dg code i)) (pk_rem (by omega) (by decide) (by decide)) ?_
            refine v_ias F (5 + i) G77 rfl (by omega) d_M_more_85 ?_
            refine v_ns (fun σ9 eσ9 => ?_)
            have fσ9 : fr σ σ9 := by rw [eσ9]; exact fτ.u rfl
            refine v_iload_n F d_M_more_86 rfl 5 rfl ?_
            refine v_iload F d_M_more_87 1 rfl ?_
            refine v_iadd F d_M_more_89 ?_
            refine v_istore_n (ls' := [(3, .int ((sumI (fun i => nI (dg code i) - nI (cr i)) i) + ((nI (dg code i)) - (nI (cr i))))), (4, .int 1), (6, .int ((nI (dg code i)) - (nI (cr i)))), (0, .ref (u.2.1 63)), (1, .int (nI code)), (2, .int (nI (code / 3 ^ i))), (5, .int (nI i))]) F d_M_more_90 rfl (by decide) rfl ?_
            refine v_iload_n F d_M_more_91 rfl 5 rfl ?_
            refine v_iconst (v := 3) F d_M_more_92 ki_3 ?_
            refine v_idiv F d_M_more_93 (by decide) ?_
            refine v_te (y := nI (code / 3 ^ i / 3)) (pk_div (by omega) (by decide) (by decide)) ?_
            refine v_istore_n (ls' := [(2, .int (nI (code / 3 ^ i / 3))), (3, .int ((sumI (fun i => nI (dg code i) - nI (cr i)) i) + ((nI (dg code i)) - (nI (cr i))))), (4, .int 1), (6, .int ((nI (dg code i)) - (nI (cr i)))), (0, .ref (u.2.1 63)), (1, .int (nI code)), (5, .int (nI i))]) F d_M_more_94 rfl (by decide) rfl ?_
            refine v_iinc (v := nI (i + 1)) (ls' := [(5, .int (nI (i + 1))), (2, .int (nI (code / 3 ^ i / 3))), (3, .int ((sumI (fun i => nI (dg code i) - nI (cr i)) i) + ((nI (dg code i)) - (nI (cr i))))), (4, .int 1), (6, .int ((nI (dg code i)) - (nI (cr i)))), (0, .ref (u.2.1 63)), (1, .int (nI code))]) F d_M_more_95 (j := 6) rfl (nI_inc _) (by decide) rfl ?_
            refine v_goto F 14 d_M_more_98 rfl ?_
            refine v_sub [5, 6, 1, 2, 3, 0] (ls' := [(0, .ref (u.2.1 63)), (1, .int (nI code)), (2, .int (nI (code / 3 ^ i / 3))), (3, .int ((sumI (fun i => nI (dg code i) - nI (cr i)) i) + ((nI (dg code i)) - (nI (cr i))))), (4, .int 1), (5, .int (nI (i + 1)))]) rfl ?_
            have g10 : (nI (code / 3 ^ i / 3)) = (nI (code / 3 ^ (i + 1))) := (by first | rfl | (rw [dg_s]; done) | exact (bI_t (allB_s (by assumption) (by assumption))).symm | exact (bI_t (allB_s (by assumption) (mg_t (by assumption) (by first | exact Or.inl (by assumption) | exact Or.inr (by assumption))))).symm | exact (bI_f (allB_f (by assumption))).symm | exact (bI_f (allB_f2 (mg_f1 (by assumption)))).symm | exact (bI_f (allB_f2 (mg_f2 (by assumption) (by assumption)))).symm | (subst_vars; first | rfl | (rw [dg_s]; done)))
            have g11 : ((sumI (fun i => nI (dg code i) - nI (cr i)) i) + ((nI (dg code i)) - (nI (cr i)))) = (sumI (fun i => nI (dg code i) - nI (cr i)) (i + 1)) := (by first | rfl | (rw [dg_s]; done) | exact (bI_t (allB_s (by assumption) (by assumption))).symm | exact (bI_t (allB_s (by assumption) (mg_t (by assumption) (by first | exact Or.inl (by assumption) | exact Or.inr (by assumption))))).symm | exact (bI_f (allB_f (by assumption))).symm | exact (bI_f (allB_f2 (mg_f1 (by assumption)))).symm | exact (bI_f (allB_f2 (mg_f2 (by assumption) (by assumption)))).symm | (subst_vars; first | rfl | (rw [dg_s]; done)))
            have g12 : 1 = (bI (allB (mgB cr a code) (i + 1) = true)) := (by first | rfl | (rw [dg_s]; done) | exact (bI_t (allB_s (by assumption) (by assumption))).symm | exact (bI_t (allB_s (by assumption) (mg_t (by assumption) (by first | exact Or.inl (by assumption) | exact Or.inr (by assumption))))).symm | exact (bI_f (allB_f (by assumption))).symm | exact (bI_f (allB_f2 (mg_f1 (by assumption)))).symm | exact (bI_f (allB_f2 (mg_f2 (by assumption) (by assumption)))).symm | (subst_vars; first | rfl | (rw [dg_s]; done)))
            refine v_to (ls' := [(0, .ref (u.2.1 63)), (1, .int (nI code)), (2, .int (nI (code / 3 ^ (i + 1)))), (3, .int (sumI (fun i => nI (dg code i) - nI (cr i)) (i + 1))), (4, .int (bI (allB (mgB cr a code) (i + 1) = true))), (5, .int (nI (i + 1)))]) (by first | rfl | rw [g10, g11, g12] | simp_all) ?_
            exact ih (i + 1) (σ9) (by omega) fσ9 (by rw [eσ9]; exact td_s ht rfl) (by omega)
          · skip
            have h50 : ¬ dg code i = cr i := fun q => h50 ((dmc _ dg_lt _ (hcr i (by omega)).2).2.mpr q)
            refine v_aload_n F d_M_more_53 rfl 1 rfl ?_
            refine v_getr (r := 76) F fk_M_51 G63 rfl d_M_more_54 ?_
            refine v_iconst (v := 0) F d_M_more_57 ki_0 ?_
            refine v_ial F 0 G76 rfl (by omega) d_M_more_58 ?_
            refine v_te (y := nI a) (fτ.v rfl h0) ?_
            refine v_iload F d_M_more_59 6 rfl ?_
            refine v_runi (r_S F (c_M_has2 X.2.1 u hA τ i a (by omega) (by omega)) mo_M_has st_M_155 (by decide) rfl (Nat.le_of_ble_eq_true rfl) d_M_more_61) (fun r13 σ14 q15 => ?_)
            obtain ⟨rfl, rfl⟩ := q15
            refine v_bt F 71 d_M_more_64 rfl (fun h64 => ?_) (fun h64 => ?_)
            · skip
              refine v_iconst (v := 0) F d_M_more_71 ki_0 ?_
              refine v_istore (ls' := [(4, .int 0), (6, .int ((nI (dg code i)) - (nI (cr i)))), (0, .ref (u.2.1 63)), (1, .int (nI code)), (2, .int (nI (code / 3 ^ i))), (3, .int (sumI (fun i => nI (dg code i) - nI (cr i)) i)), (5, .int (nI i))]) F d_M_more_72 (by decide) rfl ?_
              refine v_aload_n F d_M_more_74 rfl 2 rfl ?_
              refine v_getr (r := 77) F fk_M_54 G63 rfl d_M_more_75 ?_
              refine v_iconst (v := 5) F d_M_more_78 ki_5 ?_
              refine v_iload F d_M_more_79 6 rfl ?_
              refine v_iadd F d_M_more_81 ?_
              refine v_te (y := nI (5 + i)) (nI_add _ _) ?_
              refine v_iload_n F d_M_more_82 rfl 4 rfl ?_
              refine v_iconst (v := 3) F d_M_more_83 ki_3 ?_
              refine v_irem F d_M_more_84 (by decide) ?_
              refine v_te (y := nI (dg code i)) (pk_rem (by omega) (by decide) (by decide)) ?_
              refine v_ias F (5 + i) G77 rfl (by omega) d_M_more_85 ?_
              refine v_ns (fun σ16 eσ16 => ?_)
              have fσ16 : fr σ σ16 := by rw [eσ16]; exact fτ.u rfl
              refine v_iload_n F d_M_more_86 rfl 5 rfl ?_
              refine v_iload F d_M_more_87 1 rfl ?_
              refine v_iadd F d_M_more_89 ?_
              refine v_istore_n (ls' := [(3, .int ((sumI (fun i => nI (dg code i) - nI (cr i)) i) + ((nI (dg code i)) - (nI (cr i))))), (4, .int 0), (6, .int ((nI (dg code i)) - (nI (cr i)))), (0, .ref (u.2.1 63)), (1, .int (nI code)), (2, .int (nI (code / 3 ^ i))), (5, .int (nI i))]) F d_M_more_90 rfl (by decide) rfl ?_
              refine v_iload_n F d_M_more_91 rfl 5 rfl ?_
              refine v_iconst (v := 3) F d_M_more_92 ki_3 ?_
              refine v_idiv F d_M_more_93 (by decide) ?_
              refine v_te (y := nI (code / 3 ^ i / 3)) (pk_div (by omega) (by decide) (by decide)) ?_
              refine v_istore_n (ls' := [(2, .int (nI (code / 3 ^ i / 3))), (3, .int ((sumI (fun i => nI (dg code i) - nI (cr i)) i) + ((nI (dg code i)) - (nI (cr i))))), (4, .int 0), (6, .int ((nI (dg code i)) - (nI (cr i)))), (0, .ref (u.2.1 63)), (1, .int (nI code)), (5, .int (nI i))]) F d_M_more_94 rfl (by decide) rfl ?_
              refine v_iinc (v := nI (i + 1)) (ls' := [(5, .int (nI (i + 1))), (2, .int (nI (code / 3 ^ i / 3))), (3, .int ((sumI (fun i => nI (dg code i) - nI (cr i)) i) + ((nI (dg code i)) - (nI (cr i))))), (4, .int 0), (6, .int ((nI (dg code i)) - (nI (cr i)))), (0, .ref (u.2.1 63)), (1, .int (nI code))]) F d_M_more_95 (j := 6) rfl (nI_inc _) (by decide) rfl ?_
              refine v_goto F 14 d_M_more_98 rfl ?_
              refine v_sub [5, 6, 1, 2, 3, 0] (ls' := [(0, .ref (u.2.1 63)), (1, .int (nI code)), (2, .int (nI (code / 3 ^ i / 3))), (3, .int ((sumI (fun i => nI (dg code i) - nI (cr i)) i) + ((nI (dg code i)) - (nI (cr i))))), (4, .int 0), (5, .int (nI (i + 1)))]) rfl ?_
              have g17 : (nI (code / 3 ^ i / 3)) = (nI (code / 3 ^ (i + 1))) := (by first | rfl | (rw [dg_s]; done) | exact (bI_t (allB_s (by assumption) (by assumption))).symm | exact (bI_t (allB_s (by assumption) (mg_t (by assumption) (by first | exact Or.inl (by assumption) | exact Or.inr (by assumption))))).symm | exact (bI_f (allB_f (by assumption))).symm | exact (bI_f (allB_f2 (mg_f1 (by assumption)))).symm | exact (bI_f (allB_f2 (mg_f2 (by assumption) (by assumption)))).symm | (subst_vars; first | rfl | (rw [dg_s]; done)))
              have g18 : ((sumI (fun i => nI (dg code i) - nI (cr i)) i) + ((nI (dg code i)) - (nI (cr i)))) = (sumI (fun i => nI (dg code i) - nI (cr i)) (i + 1)) := (by first | rfl | (rw [dg_s]; done) | exact (bI_t (allB_s (by assumption) (by assumption))).symm | exact (bI_t (allB_s (by assumption) (mg_t (by assumption) (by first | exact Or.inl (by assumption) | exact Or.inr (by assumption))))).symm | exact (bI_f (allB_f (by assumption))).symm | exact (bI_f (allB_f2 (mg_f1 (by assumption)))).symm | exact (bI_f (allB_f2 (mg_f2 (by assumption) (by assumption)))).symm | (subst_vars; first | rfl | (rw [dg_s]; done)))
              have g19 : 0 = (bI (allB (mgB cr a code) (i + 1) = true)) := (by first | rfl | (rw [dg_s]; done) | exact (bI_t (allB_s (by assumption) (by assumption))).symm | exact (bI_t (allB_s (by assumption) (mg_t (by assumption) (by first | exact Or.inl (by assumption) | exact Or.inr (by assumption))))).symm | exact (bI_f (allB_f (by assumption))).symm | exact (bI_f (allB_f2 (mg_f1 (by assumption)))).symm | exact (bI_f (allB_f2 (mg_f2 (by assumption) (by assumption)))).symm | (subst_vars; first | rfl | (rw [dg_s]; done)))
              refine v_to (ls' := [(0, .ref (u.2.1 63)), (1, .int (nI code)), (2, .int (nI (code / 3 ^ (i + 1)))), (3, .int (sumI (fun i => nI (dg code i) - nI (cr i)) (i + 1))), (4, .int (bI (allB (mgB cr a code) (i + 1) = true))), (5, .int (nI (i + 1)))]) (by first | rfl | rw [g17, g18, g19] | simp_all) ?_
              exact ih (i + 1) (σ16) (by omega) fσ16 (by rw [eσ16]; exact td_s ht rfl) (by omega)
            · skip
              refine v_iconst (v := 1) F d_M_more_67 ki_1 ?_
              refine v_goto F 72 d_M_more_68 rfl ?_
              refine v_istore (ls' := [(4, .int 1), (6, .int ((nI (dg code i)) - (nI (cr i)))), (0, .ref (u.2.1 63)), (1, .int (nI code)), (2, .int (nI (code / 3 ^ i))), (3, .int (sumI (fun i => nI (dg code i) - nI (cr i)) i)), (5, .int (nI i))]) F d_M_more_72 (by decide) rfl ?_
              refine v_aload_n F d_M_more_74 rfl 2 rfl ?_
              refine v_getr (r := 77) F fk_M_54 G63 rfl d_M_more_75 ?_
              refine v_iconst (v := 5) F d_M_more_78 ki_5 ?_
              refine v_iload F d_M_more_79 6 rfl ?_
              refine v_iadd F d_M_more_81 ?_
              refine v_te (y := nI (5 + i)) (nI_add _ _) ?_
              refine v_iload_n F d_M_more_82 rfl 4 rfl ?_
              refine v_iconst (v := 3) F d_M_more_83 ki_3 ?_
              refine v_irem F d_M_more_84 (by decide) ?_
              refine v_te (y := nI (dg code i)) (pk_rem (by omega) (by decide) (by decide)) ?_
              refine v_ias F (5 + i) G77 rfl (by omega) d_M_more_85 ?_
              refine v_ns (fun σ20 eσ20 => ?_)
              have fσ20 : fr σ σ20 := by rw [eσ20]; exact fτ.u rfl
              refine v_iload_n F d_M_more_86 rfl 5 rfl ?_
              refine v_iload F d_M_more_87 1 rfl ?_
              refine v_iadd F d_M_more_89 ?_
              refine v_istore_n (ls' := [(3, .int ((sumI (fun i => nI (dg code i) - nI (cr i)) i) + ((nI (dg code i)) - (nI (cr i))))), (4, .int 1), (6, .int ((nI (dg code i)) - (nI (cr i)))), (0, .ref (u.2.1 63)), (1, .int (nI code)), (2, .int (nI (code / 3 ^ i))), (5, .int (nI i))]) F d_M_more_90 rfl (by decide) rfl ?_
              refine v_iload_n F d_M_more_91 rfl 5 rfl ?_
              refine v_iconst (v := 3) F d_M_more_92 ki_3 ?_
              refine v_idiv F d_M_more_93 (by decide) ?_
              refine v_te (y := nI (code / 3 ^ i / 3)) (pk_div (by omega) (by decide) (by decide)) ?_
              refine v_istore_n (ls' := [(2, .int (nI (code / 3 ^ i / 3))), (3, .int ((sumI (fun i => nI (dg code i) - nI (cr i)) i) + ((nI (dg code i)) - (nI (cr i))))), (4, .int 1), (6, .int ((nI (dg code i)) - (nI (cr i)))), (0, .ref (u.2.1 63)), (1, .int (nI code)), (5, .int (nI i))]) F d_M_more_94 rfl (by decide) rfl ?_
              refine v_iinc (v := nI (i + 1)) (ls' := [(5, .int (nI (i + 1))), (2, .int (nI (code / 3 ^ i / 3))), (3, .int ((sumI (fun i => nI (dg code i) - nI (cr i)) i) + ((nI (dg code i)) - (nI (cr i))))), (4, .int 1), (6, .int ((nI (dg code i)) - (nI (cr i)))), (0, .ref (u.2.1 63)), (1, .int (nI code))]) F d_M_more_95 (j := 6) rfl (nI_inc _) (by decide) rfl ?_
              refine v_goto F 14 d_M_more_98 rfl ?_
              refine v_sub [5, 6, 1, 2, 3, 0] (ls' := [(0, .ref (u.2.1 63)), (1, .int (nI code)), (2, .int (nI (code / 3 ^ i / 3))), (3, .int ((sumI (fun i => nI (dg code i) - nI (cr i)) i) + ((nI (dg code i)) - (nI (cr i))))), (4, .int 1), (5, .int (nI (i + 1)))]) rfl ?_
              have g21 : (nI (code / 3 ^ i / 3)) = (nI (code / 3 ^ (i + 1))) := (by first | rfl | (rw [dg_s]; done) | exact (bI_t (allB_s (by assumption) (by assumption))).symm | exact (bI_t (allB_s (by assumption) (mg_t (by assumption) (by first | exact Or.inl (by assumption) | exact Or.inr (by assumption))))).symm | exact (bI_f (allB_f (by assumption))).symm | exact (bI_f (allB_f2 (mg_f1 (by assumption)))).symm | exact (bI_f (allB_f2 (mg_f2 (by assumption) (by assumption)))).symm | (subst_vars; first | rfl | (rw [dg_s]; done)))
              have g22 : ((sumI (fun i => nI (dg code i) - nI (cr i)) i) + ((nI (dg code i)) - (nI (cr i)))) = (sumI (fun i => nI (dg code i) - nI (cr i)) (i + 1)) := (by first | rfl | (rw [dg_s]; done) | exact (bI_t (allB_s (by assumption) (by assumption))).symm | exact (bI_t (allB_s (by assumption) (mg_t (by assumption) (by first | exact Or.inl (by assumption) | exact Or.inr (by assumption))))).symm | exact (bI_f (allB_f (by assumption))).symm | exact (bI_f (allB_f2 (mg_f1 (by assumption)))).symm | exact (bI_f (allB_f2 (mg_f2 (by assumption) (by assumption)))).symm | (subst_vars; first | rfl | (rw [dg_s]; done)))
              have g23 : 1 = (bI (allB (mgB cr a code) (i + 1) = true)) := (by first | rfl | (rw [dg_s]; done) | exact (bI_t (allB_s (by assumption) (by assumption))).symm | exact (bI_t (allB_s (by assumption) (mg_t (by assumption) (by first | exact Or.inl (by assumption) | exact Or.inr (by assumption))))).symm | exact (bI_f (allB_f (by assumption))).symm | exact (bI_f (allB_f2 (mg_f1 (by assumption)))).symm | exact (bI_f (allB_f2 (mg_f2 (by assumption) (by assumption)))).symm | (subst_vars; first | rfl | (rw [dg_s]; done)))
              refine v_to (ls' := [(0, .ref (u.2.1 63)), (1, .int (nI code)), (2, .int (nI (code / 3 ^ (i + 1)))), (3, .int (sumI (fun i => nI (dg code i) - nI (cr i)) (i + 1))), (4, .int (bI (allB (mgB cr a code) (i + 1) = true))), (5, .int (nI (i + 1)))]) (by first | rfl | rw [g21, g22, g23] | simp_all) ?_
              exact ih (i + 1) (σ20) (by omega) fσ20 (by rw [eσ20]; exact td_s ht rfl) (by omega)
set_option maxHeartbeats 4000000 in
theorem c_M_more (l : Launch) (u : Un) (hA : Ap u) {σ τ : St} (fτ : fr σ τ) {n : Nat} {kd : Nat → Nat} (hb : mkOk σ n kd) {a : Nat} (ha : a < 64) (h0 : σ.1 76 0 = nI a) {cr : Nat → Nat} (hcr : crOk σ cr n) (code : Nat) (hc : code < 729) : MTi l u y_M_more b_M_more 7 .int 1 [.ref (u.2.1 63), .int (nI code)] τ (fun ans σ' => mrS cr a n code = ans ∧ fr σ σ' ∧ tdOk a n code σ') := by
  refine MT_of hA rfl (by decide) (Nat.le_of_ble_eq_true rfl) (fun X hl F hr => ?_)
  subst hl
  refine v_to (ls' := [(0, .ref (u.2.1 63)), (1, .int (nI code))]) rfl ?_
  obtain ⟨hn, hn6, hkd, hk6⟩ := id hb
  refine v_iload_n F d_M_more_0 rfl 1 rfl ?_
  refine v_istore_n (ls' := [(2, .int (nI code)), (0, .ref (u.2.1 63)), (1, .int (nI code))]) F d_M_more_1 rfl (by decide) rfl ?_
  refine v_iconst (v := 0) F d_M_more_2 ki_0 ?_
  refine v_istore_n (ls' := [(3, .int 0), (2, .int (nI code)), (0, .ref (u.2.1 63)), (1, .int (nI code))]) F d_M_more_3 rfl (by decide) rfl ?_
  refine v_iconst (v := 1) F d_M_more_4 ki_1 ?_
  refine v_istore (ls' := [(4, .int 1), (3, .int 0), (2, .int (nI code)), (0, .ref (u.2.1 63)), (1, .int (nI code))]) F d_M_more_5 (by decide) rfl ?_
  refine v_aload_n F d_M_more_7 rfl 3 rfl ?_
  refine v_runv (r_V F (c_M_copyNow X.2.1 u hA τ) mo_M_copyNow st_M_215 rc_63 (by decide) rfl (Nat.le_of_ble_eq_true rfl) d_M_more_8) (fun σ2 q3 => ?_)
  have eσ2 := q3
  have fσ2 : fr σ σ2 := by rw [eσ2]; exact fτ.c (fun _ => rfl) _
  refine v_iconst (v := 0) F d_M_more_11 ki_0 ?_
  refine v_istore (ls' := [(5, .int 0), (4, .int 1), (3, .int 0), (2, .int (nI code)), (0, .ref (u.2.1 63)), (1, .int (nI code))]) F d_M_more_12 (by decide) rfl ?_
  refine v_sub [4, 5, 3, 2, 1, 0] (ls' := [(0, .ref (u.2.1 63)), (1, .int (nI code)), (2, .int (nI code)), (3, .int 0), (4, .int 1), (5, .int 0)]) rfl ?_
  have g4 : (nI code) = (nI (code / 3 ^ 0)) := (by first | rfl | (rw [Nat.pow_zero, Nat.div_one]; done) | (subst_vars; rw [Nat.pow_zero, Nat.div_one]; done))
  have g5 : 0 = (sumI (fun i => nI (dg code i) - nI (cr i)) 0) := (by first | rfl | (rw [Nat.pow_zero, Nat.div_one]; done) | (subst_vars; rw [Nat.pow_zero, Nat.div_one]; done))
  have g6 : 1 = (bI (allB (mgB cr a code) 0 = true)) := (by first | rfl | (rw [Nat.pow_zero, Nat.div_one]; done) | (subst_vars; rw [Nat.pow_zero, Nat.div_one]; done))
  have g7 : 0 = (nI 0) := (by first | rfl | (rw [Nat.pow_zero, Nat.div_one]; done) | (subst_vars; rw [Nat.pow_zero, Nat.div_one]; done))
  refine v_to (ls' := [(0, .ref (u.2.1 63)), (1, .int (nI code)), (2, .int (nI (code / 3 ^ 0))), (3, .int (sumI (fun i => nI (dg code i) - nI (cr i)) 0)), (4, .int (bI (allB (mgB cr a code) 0 = true))), (5, .int (nI 0))]) (by first | rfl | rw [g4, g5, g6, g7] | simp_all) ?_
  refine L_M_more_14 hA F hb ha h0 hcr hc (fun i τ2 ei fτ2 ht => ?_) _ 0 σ2 (Nat.zero_le _) fσ2 (by rw [eσ2]; exact td_0 fτ h0) (Nat.lt_succ_self _)
  subst ei
  refine v_iload F d_M_more_101 1 rfl ?_
  refine v_bt F 110 d_M_more_103 rfl (fun h103 => ?_) (fun h103 => ?_)
  · skip
    refine v_iconst (v := (-1)) F d_M_more_110 ki_m1 ?_
    refine v_iret F hr rfl d_M_more_111 ?_
    refine ⟨?_, fτ2, ht⟩
    unfold mrS
    first | (rw [if_pos (by assumption)]; done) | (rw [if_neg (by assumption)]; done)
  · skip
    refine v_iload_n F d_M_more_106 rfl 0 rfl ?_
    refine v_goto F 111 d_M_more_107 rfl ?_
    refine v_iret F hr rfl d_M_more_111 ?_
    refine ⟨?_, fτ2, ht⟩
    unfold mrS
    first | (rw [if_pos (by assumption)]; done) | (rw [if_neg (by assumption)]; done)
abbrev b_M_codes : ByteArray := prog_14_method_62_code
abbrev y_M_codes : MethodName := ⟨"TakerBookModel", "codes", "()I"⟩
theorem d_M_codes_0 : decode b_M_codes 0 = .ok (.iconst 1, 1) := by decide +kernel
theorem d_M_codes_1 : decode b_M_codes 1 = .ok (.istore_n 1, 1) := by decide +kernel
theorem d_M_codes_2 : decode b_M_codes 2 = .ok (.iconst 0, 1) := by decide +kernel
theorem d_M_codes_3 : decode b_M_codes 3 = .ok (.istore_n 2, 1) := by decide +kernel
theorem d_M_codes_4 : decode b_M_codes 4 = .ok (.iload_n 2, 1) := by decide +kernel
theorem d_M_codes_5 : decode b_M_codes 5 = .ok (.aload_n 0, 1) := by decide +kernel
theorem d_M_codes_6 : decode b_M_codes 6 = .ok (.getfield 146, 3) := by decide +kernel
theorem d_M_codes_9 : decode b_M_codes 9 = .ok (.if_icmp .ge 13, 3) := by decide +kernel
theorem d_M_codes_12 : decode b_M_codes 12 = .ok (.iload_n 1, 1) := by decide +kernel
theorem d_M_codes_13 : decode b_M_codes 13 = .ok (.iconst 3, 1) := by decide +kernel
theorem d_M_codes_14 : decode b_M_codes 14 = .ok (.imul, 1) := by decide +kernel
theorem d_M_codes_15 : decode b_M_codes 15 = .ok (.istore_n 1, 1) := by decide +kernel
theorem d_M_codes_16 : decode b_M_codes 16 = .ok (.iinc 2 1, 3) := by decide +kernel
theorem d_M_codes_19 : decode b_M_codes 19 = .ok (.goto (-15), 3) := by decide +kernel
theorem d_M_codes_22 : decode b_M_codes 22 = .ok (.iload_n 1, 1) := by decide +kernel
theorem d_M_codes_23 : decode b_M_codes 23 = .ok (.ireturn, 1) := by decide +kernel
theorem mo_M_codes : mok y_M_codes b_M_codes 3 (some .int) 0 := ⟨List.mem_of_getElem? (i := 1329) (by decide +kernel), ⟨by decide +kernel, by decide +kernel, by decide +kernel⟩, List.mem_of_getElem? (i := 86) (by decide +kernel), by decide⟩
set_option maxHeartbeats 4000000 in
theorem L_M_codes_4 {X : FX} {u : Un} (hA : Ap u) {Q : State → Prop} (F : Fr X u "TakerBookModel" b_M_codes 3) {σ : St} {n : Nat} {kd : Nat → Nat} (hb : mkOk σ n kd) {τ : St} (fτ : fr σ τ) (k : V X u 0 3 Q 22 [(0, .ref (u.2.1 63)), (1, .int (nI (3 ^ n))), (2, .int (nI n))] [] (τ)) : ∀ (nn i : Nat), i ≤ n → n - i < nn → V X u 0 3 Q 4 [(0, .ref (u.2.1 63)), (1, .int (nI (3 ^ i))), (2, .int (nI i))] [] (τ) := by
  intro nn
  induction nn with
  | zero =>
    intro i h1 h2
    exact absurd h2 (Nat.not_lt_zero _)
  | succ nn ih =>
    intro i hii hnn
    obtain ⟨hn, hn6, hkd, hk6⟩ := id hb
    refine v_iload_n F d_M_codes_4 rfl 2 rfl ?_
    refine v_aload_n F d_M_codes_5 rfl 0 rfl ?_
    refine v_geti F fk_M_146 G63 rfl d_M_codes_6 ?_
    refine v_te (y := nI n) (fτ.v rfl hn) ?_
    refine v_icmp_ge F 22 d_M_codes_9 rfl (fun h9 => ?_) (fun h9 => ?_)
    · skip
      have h9 : n ≤ i := (nI_leI (a := n) (b := i) (by omega) (by omega)).mp h9
      have he : i = n := by omega
      subst he
      exact k
    · skip
      have h9 : ¬ n ≤ i := fun q => h9 ((nI_leI (a := n) (b := i) (by omega) (by omega)).mpr q)
      refine v_iload_n F d_M_codes_12 rfl 1 rfl ?_
      refine v_iconst (v := 3) F d_M_codes_13 ki_3 ?_
      refine v_imul F d_M_codes_14 ?_
      refine v_te (y := nI ((3 ^ i) * 3)) (pk_mul _ _) ?_
      refine v_ni (fun x1 ex1 => ?_)
      refine v_istore_n (ls' := [(1, .int x1), (0, .ref (u.2.1 63)), (2, .int (nI i))]) F d_M_codes_15 rfl (by decide) rfl ?_
      refine v_iinc (v := nI (i + 1)) (ls' := [(2, .int (nI (i + 1))), (1, .int x1), (0, .ref (u.2.1 63))]) F d_M_codes_16 (j := 2) rfl (nI_inc _) (by decide) rfl ?_
      refine v_goto F 4 d_M_codes_19 rfl ?_
      refine v_sub [2, 1, 0] (ls' := [(0, .ref (u.2.1 63)), (1, .int x1), (2, .int (nI (i + 1)))]) rfl ?_
      have g2 : x1 = (nI (3 ^ (i + 1))) := (by first | rfl | (simp_all; done) | grind)
      refine v_to (ls' := [(0, .ref (u.2.1 63)), (1, .int (nI (3 ^ (i + 1)))), (2, .int (nI (i + 1)))]) (by first | rfl | rw [g2] | simp_all) ?_
      exact ih (i + 1) (by omega) (by omega)
set_option maxHeartbeats 4000000 in
theorem c_M_codes (l : Launch) (u : Un) (hA : Ap u) {σ τ : St} (fτ : fr σ τ) {n : Nat} {kd : Nat → Nat} (hb : mkOk σ n kd) : MTi l u y_M_codes b_M_codes 3 .int 0 [.ref (u.2.1 63)] τ (fun ans σ' => nI (3 ^ n) = ans ∧ τ = σ') := by
  refine MT_of hA rfl (by decide) (Nat.le_of_ble_eq_true rfl) (fun X hl F hr => ?_)
  subst hl
  refine v_to (ls' := [(0, .ref (u.2.1 63))]) rfl ?_
  obtain ⟨hn, hn6, hkd, hk6⟩ := id hb
  refine v_iconst (v := 1) F d_M_codes_0 ki_1 ?_
  refine v_istore_n (ls' := [(1, .int 1), (0, .ref (u.2.1 63))]) F d_M_codes_1 rfl (by decide) rfl ?_
  refine v_iconst (v := 0) F d_M_codes_2 ki_0 ?_
  refine v_istore_n (ls' := [(2, .int 0), (1, .int 1), (0, .ref (u.2.1 63))]) F d_M_codes_3 rfl (by decide) rfl ?_
  refine v_sub [2, 1, 0] (ls' := [(0, .ref (u.2.1 63)), (1, .int 1), (2, .int 0)]) rfl ?_
  have g1 : 1 = (nI (3 ^ 0)) := (by first | rfl | (simp_all; done) | grind)
  have g2 : 0 = (nI 0) := (by first | rfl | (simp_all; done) | grind)
  refine v_to (ls' := [(0, .ref (u.2.1 63)), (1, .int (nI (3 ^ 0))), (2, .int (nI 0))]) (by first | rfl | rw [g1, g2] | simp_all) ?_
  refine L_M_codes_4 hA F hb fτ ?_ _ 0 (Nat.zero_le _) (Nat.lt_succ_self _)
  refine v_iload_n F d_M_codes_22 rfl 1 rfl ?_
  refine v_iret F hr rfl d_M_codes_23 ?_
  exact ⟨rfl, rfl⟩
abbrev b_M_marked : ByteArray := prog_14_method_63_code
abbrev y_M_marked : MethodName := ⟨"TakerBookModel", "marked", "([I)I"⟩
theorem d_M_marked_0 : decode b_M_marked 0 = .ok (.iconst 0, 1) := by decide +kernel
theorem d_M_marked_1 : decode b_M_marked 1 = .ok (.istore_n 2, 1) := by decide +kernel
theorem d_M_marked_2 : decode b_M_marked 2 = .ok (.iconst 0, 1) := by decide +kernel
theorem d_M_marked_3 : decode b_M_marked 3 = .ok (.istore_n 3, 1) := by decide +kernel
theorem d_M_marked_4 : decode b_M_marked 4 = .ok (.iload_n 3, 1) := by decide +kernel
theorem d_M_marked_5 : decode b_M_marked 5 = .ok (.aload_n 0, 1) := by decide +kernel
theorem d_M_marked_6 : decode b_M_marked 6 = .ok (.getfield 146, 3) := by decide +kernel
theorem d_M_marked_9 : decode b_M_marked 9 = .ok (.if_icmp .ge 36, 3) := by decide +kernel
theorem d_M_marked_12 : decode b_M_marked 12 = .ok (.iload_n 2, 1) := by decide +kernel
theorem d_M_marked_13 : decode b_M_marked 13 = .ok (.aload_n 1, 1) := by decide +kernel
theorem d_M_marked_14 : decode b_M_marked 14 = .ok (.iconst 0, 1) := by decide +kernel
theorem d_M_marked_15 : decode b_M_marked 15 = .ok (.iaload, 1) := by decide +kernel
theorem d_M_marked_16 : decode b_M_marked 16 = .ok (.iload_n 3, 1) := by decide +kernel
theorem d_M_marked_17 : decode b_M_marked 17 = .ok (.invokestatic 155, 3) := by decide +kernel
theorem d_M_marked_20 : decode b_M_marked 20 = .ok (.ifCond .eq 16, 3) := by decide +kernel
theorem d_M_marked_23 : decode b_M_marked 23 = .ok (.aload_n 1, 1) := by decide +kernel
theorem d_M_marked_24 : decode b_M_marked 24 = .ok (.iconst 5, 1) := by decide +kernel
theorem d_M_marked_25 : decode b_M_marked 25 = .ok (.iload_n 3, 1) := by decide +kernel
theorem d_M_marked_26 : decode b_M_marked 26 = .ok (.iadd, 1) := by decide +kernel
theorem d_M_marked_27 : decode b_M_marked 27 = .ok (.iaload, 1) := by decide +kernel
theorem d_M_marked_28 : decode b_M_marked 28 = .ok (.iconst 2, 1) := by decide +kernel
theorem d_M_marked_29 : decode b_M_marked 29 = .ok (.if_icmp .ne 7, 3) := by decide +kernel
theorem d_M_marked_32 : decode b_M_marked 32 = .ok (.iconst 1, 1) := by decide +kernel
theorem d_M_marked_33 : decode b_M_marked 33 = .ok (.goto 4, 3) := by decide +kernel
theorem d_M_marked_36 : decode b_M_marked 36 = .ok (.iconst 0, 1) := by decide +kernel
theorem d_M_marked_37 : decode b_M_marked 37 = .ok (.iadd, 1) := by decide +kernel
theorem d_M_marked_38 : decode b_M_marked 38 = .ok (.istore_n 2, 1) := by decide +kernel
theorem d_M_marked_39 : decode b_M_marked 39 = .ok (.iinc 3 1, 3) := by decide +kernel
theorem d_M_marked_42 : decode b_M_marked 42 = .ok (.goto (-38), 3) := by decide +kernel
theorem d_M_marked_45 : decode b_M_marked 45 = .ok (.iload_n 2, 1) := by decide +kernel
theorem d_M_marked_46 : decode b_M_marked 46 = .ok (.ireturn, 1) := by decide +kernel
theorem mo_M_marked : mok y_M_marked b_M_marked 4 (some .int) 1 := ⟨List.mem_of_getElem? (i := 1337) (by decide +kernel), ⟨by decide +kernel, by decide +kernel, by decide +kernel⟩, List.mem_of_getElem? (i := 86) (by decide +kernel), by decide⟩
set_option maxHeartbeats 4000000 in
theorem L_M_marked_4 {X : FX} {u : Un} (hA : Ap u) {Q : State → Prop} (F : Fr X u "TakerBookModel" b_M_marked 4) {σ τ : St} (fτ : fr σ τ) {n : Nat} {kd : Nat → Nat} (hb : mkOk σ n kd) {a code : Nat} (ha : a < 64) (ht : tdOk a n code τ) (k : V X u 1 4 Q 45 [(0, .ref (u.2.1 63)), (1, .ref (u.2.1 77)), (2, .int (nI (cntN (fun i => a.testBit i && decide (dg code i = 2)) n))), (3, .int (nI n))] [] (τ)) : ∀ (nn i : Nat), i ≤ n → n - i < nn → V X u 1 4 Q 4 [(0, .ref (u.2.1 63)), (1, .ref (u.2.1 77)), (2, .int (nI (cntN (fun i => a.testBit i && decide (dg code i = 2)) i))), (3, .int (nI i))] [] (τ) := by
  intro nn
  induction nn with
  | zero =>
    intro i h1 h2
    exact absurd h2 (Nat.not_lt_zero _)
  | succ nn ih =>
    intro i hii hnn
    obtain ⟨hn, hn6, hkd, hk6⟩ := id hb
    have hdl : dg code i < 3 := dg_lt
    refine v_iload_n F d_M_marked_4 rfl 3 rfl ?_
    refine v_aload_n F d_M_marked_5 rfl 0 rfl ?_
    refine v_geti F fk_M_146 G63 rfl d_M_marked_6 ?_
    refine v_te (y := nI n) (fτ.v rfl hn) ?_
    refine v_icmp_ge F 45 d_M_marked_9 rfl (fun h9 => ?_) (fun h9 => ?_)
    · skip
      have h9 : n ≤ i := (nI_leI (a := n) (b := i) (by omega) (by omega)).mp h9
      have he : i = n := by omega
      subst he
      exact k
    · skip
      have h9 : ¬ n ≤ i := fun q => h9 ((nI_leI (a := n) (b := i) (by omega) (by omega)).mpr q)
      refine v_iload_n F d_M_marked_12 rfl 2 rfl ?_
      refine v_aload_n F d_M_marked_13 rfl 1 rfl ?_
      refine v_iconst (v := 0) F d_M_marked_14 ki_0 ?_
      refine v_ial F 0 G77 rfl (by omega) d_M_marked_15 ?_
      refine v_te (y := nI a) ht.1 ?_
      refine v_iload_n F d_M_marked_16 rfl 3 rfl ?_
      refine v_runi (r_S F (c_M_has2 X.2.1 u hA τ i a (by omega) (by omega)) mo_M_has st_M_155 (by decide) rfl (Nat.le_of_ble_eq_true rfl) d_M_marked_17) (fun r1 σ2 q3 => ?_)
      obtain ⟨rfl, rfl⟩ := q3
      refine v_bt F 36 d_M_marked_20 rfl (fun h20 => ?_) (fun h20 => ?_)
      · skip
        refine v_iconst (v := 0) F d_M_marked_36 ki_0 ?_
        refine v_iadd F d_M_marked_37 ?_
        refine v_te (y := nI (cntN (fun i => a.testBit i && decide (dg code i = 2)) i + 0)) (nI_add _ _) ?_
        refine v_istore_n (ls' := [(2, .int (nI (cntN (fun i => a.testBit i && decide (dg code i = 2)) i + 0))), (0, .ref (u.2.1 63)), (1, .ref (u.2.1 77)), (3, .int (nI i))]) F d_M_marked_38 rfl (by decide) rfl ?_
        refine v_iinc (v := nI (i + 1)) (ls' := [(3, .int (nI (i + 1))), (2, .int (nI (cntN (fun i => a.testBit i && decide (dg code i = 2)) i + 0))), (0, .ref (u.2.1 63)), (1, .ref (u.2.1 77))]) F d_M_marked_39 (j := 3) rfl (nI_inc _) (by decide) rfl ?_
        refine v_goto F 4 d_M_marked_42 rfl ?_
        refine v_sub [2, 3, 1, 0] (ls' := [(0, .ref (u.2.1 63)), (1, .ref (u.2.1 77)), (2, .int (nI (cntN (fun i => a.testBit i && decide (dg code i = 2)) i + 0))), (3, .int (nI (i + 1)))]) rfl ?_
        have g4 : (nI (cntN (fun i => a.testBit i && decide (dg code i = 2)) i + 0)) = (nI (cntN (fun i => a.testBit i && decide (dg code i = 2)) (i + 1))) := (by first | rfl | (rw [cntN_t (by rw [Bool.and_eq_true, decide_eq_true_eq]; exact ⟨by assumption, by assumption⟩)]; first | done | rfl) | (rw [cntN_f (by rw [Bool.and_eq_true, decide_eq_true_eq]; exact fun q => by first | exact absurd q.1 (by assumption) | exact absurd q.2 (by assumption))]; first | done | rfl))
        refine v_to (ls' := [(0, .ref (u.2.1 63)), (1, .ref (u.2.1 77)), (2, .int (nI (cntN (fun i => a.testBit i && decide (dg code i = 2)) (i + 1)))), (3, .int (nI (i + 1)))]) (by first | rfl | rw [g4] | simp_all) ?_
        exact ih (i + 1) (by omega) (by omega)
      · skip
        refine v_aload_n F d_M_marked_23 rfl 1 rfl ?_
        refine v_iconst (v := 5) F d_M_marked_24 ki_5 ?_
        refine v_iload_n F d_M_marked_25 rfl 3 rfl ?_
        refine v_iadd F d_M_marked_26 ?_
        refine v_te (y := nI (5 + i)) (nI_add _ _) ?_
        refine v_ial F (5 + i) G77 rfl (by omega) d_M_marked_27 ?_
        refine v_te (y := nI (dg code i)) (ht.2 i (by omega)) ?_
        refine v_iconst (v := 2) F d_M_marked_28 ki_2 ?_
        refine v_icmp_ne F 36 d_M_marked_29 rfl (fun h29 => ?_) (fun h29 => ?_)
        · skip
          have h29 : ¬ dg code i = 2 := fun q => h29 ((nI_eq (a := dg code i) (b := 2) (by omega) (by omega)).mpr q)
          refine v_iconst (v := 0) F d_M_marked_36 ki_0 ?_
          refine v_iadd F d_M_marked_37 ?_
          refine v_te (y := nI (cntN (fun i => a.testBit i && decide (dg code i = 2)) i + 0)) (nI_add _ _) ?_
          refine v_istore_n (ls' := [(2, .int (nI (cntN (fun i => a.testBit i && decide (dg code i = 2)) i + 0))), (0, .ref (u.2.1 63)), (1, .ref (u.2.1 77)), (3, .int (nI i))]) F d_M_marked_38 rfl (by decide) rfl ?_
          refine v_iinc (v := nI (i + 1)) (ls' := [(3, .int (nI (i + 1))), (2, .int (nI (cntN (fun i => a.testBit i && decide (dg code i = 2)) i + 0))), (0, .ref (u.2.1 63)), (1, .ref (u.2.1 77))]) F d_M_marked_39 (j := 3) rfl (nI_inc _) (by decide) rfl ?_
          refine v_goto F 4 d_M_marked_42 rfl ?_
          refine v_sub [2, 3, 1, 0] (ls' := [(0, .ref (u.2.1 63)), (1, .ref (u.2.1 77)), (2, .int (nI (cntN (fun i => a.testBit i && decide (dg code i = 2)) i + 0))), (3, .int (nI (i + 1)))]) rfl ?_
          have g5 : (nI (cntN (fun i => a.testBit i && decide (dg code i = 2)) i + 0)) = (nI (cntN (fun i => a.testBit i && decide (dg code i = 2)) (i + 1))) := (by first | rfl | (rw [cntN_t (by rw [Bool.and_eq_true, decide_eq_true_eq]; exact ⟨by assumption, by assumption⟩)]; first | done | rfl) | (rw [cntN_f (by rw [Bool.and_eq_true, decide_eq_true_eq]; exact fun q => by first | exact absurd q.1 (by assumption) | exact absurd q.2 (by assumption))]; first | done | rfl))
          refine v_to (ls' := [(0, .ref (u.2.1 63)), (1, .ref (u.2.1 77)), (2, .int (nI (cntN (fun i => a.testBit i && decide (dg code i = 2)) (i + 1)))), (3, .int (nI (i + 1)))]) (by first | rfl | rw [g5] | simp_all) ?_
          exact ih (i + 1) (by omega) (by omega)
        · skip
          have h29 : dg code i = 2 := (nI_eq (a := dg code i) (b := 2) (by omega) (by omega)).mp h29
          refine v_iconst (v := 1) F d_M_marked_32 ki_1 ?_
          refine v_goto F 37 d_M_marked_33 rfl ?_
          refine v_iadd F d_M_marked_37 ?_
          refine v_te (y := nI (cntN (fun i => a.testBit i && decide (dg code i = 2)) i + 1)) (nI_add _ _) ?_
          refine v_istore_n (ls' := [(2, .int (nI (cntN (fun i => a.testBit i && decide (dg code i = 2)) i + 1))), (0, .ref (u.2.1 63)), (1, .ref (u.2.1 77)), (3, .int (nI i))]) F d_M_marked_38 rfl (by decide) rfl ?_
          refine v_iinc (v := nI (i + 1)) (ls' := [(3, .int (nI (i + 1))), (2, .int (nI (cntN (fun i => a.testBit i && decide (dg code i = 2)) i + 1))), (0, .ref (u.2.1 63)), (1, .ref (u.2.1 77))]) F d_M_marked_39 (j := 3) rfl (nI_inc _) (by decide) rfl ?_
          refine v_goto F 4 d_M_marked_42 rfl ?_
          refine v_sub [2, 3, 1, 0] (ls' := [(0, .ref (u.2.1 63)), (1, .ref (u.2.1 77)), (2, .int (nI (cntN (fun i => a.testBit i && decide (dg code i = 2)) i + 1))), (3, .int (nI (i + 1)))]) rfl ?_
          have g6 : (nI (cntN (fun i => a.testBit i && decide (dg code i = 2)) i + 1)) = (nI (cntN (fun i => a.testBit i && decide (dg code i = 2)) (i + 1))) := (by first | rfl | (rw [cntN_t (by rw [Bool.and_eq_true, decide_eq_true_eq]; exact ⟨by assumption, by assumption⟩)]; first | done | rfl) | (rw [cntN_f (by rw [Bool.and_eq_true, decide_eq_true_eq]; exact fun q => by first | exact absurd q.1 (by assumption) | exact absurd q.2 (by assumption))]; first | done | rfl))
          refine v_to (ls' := [(0, .ref (u.2.1 63)), (1, .ref (u.2.1 77)), (2, .int (nI (cntN (fun i => a.testBit i && decide (dg code i = 2)) (i + 1)))), (3, .int (nI (i + 1)))]) (by first | rfl | rw [g6] | simp_all) ?_
          exact ih (i + 1) (by omega) (by omega)
set_option maxHeartbeats 4000000 in
theorem c_M_marked (l : Launch) (u : Un) (hA : Ap u) {σ τ : St} (fτ : fr σ τ) {n : Nat} {kd : Nat → Nat} (hb : mkOk σ n kd) {a code : Nat} (ha : a < 64) (ht : tdOk a n code τ) : MTi l u y_M_marked b_M_marked 4 .int 1 [.ref (u.2.1 63), .ref (u.2.1 77)] τ (fun ans σ' => nI (tdN a n code) = ans ∧ τ = σ') := by
  refine MT_of hA rfl (by decide) (Nat.le_of_ble_eq_true rfl) (fun X hl F hr => ?_)
  subst hl
  refine v_to (ls' := [(0, .ref (u.2.1 63)), (1, .ref (u.2.1 77))]) rfl ?_
  obtain ⟨hn, hn6, hkd, hk6⟩ := id hb
  refine v_iconst (v := 0) F d_M_marked_0 ki_0 ?_
  refine v_istore_n (ls' := [(2, .int 0), (0, .ref (u.2.1 63)), (1, .ref (u.2.1 77))]) F d_M_marked_1 rfl (by decide) rfl ?_
  refine v_iconst (v := 0) F d_M_marked_2 ki_0 ?_
  refine v_istore_n (ls' := [(3, .int 0), (2, .int 0), (0, .ref (u.2.1 63)), (1, .ref (u.2.1 77))]) F d_M_marked_3 rfl (by decide) rfl ?_
  refine v_sub [2, 3, 1, 0] (ls' := [(0, .ref (u.2.1 63)), (1, .ref (u.2.1 77)), (2, .int 0), (3, .int 0)]) rfl ?_
  have g1 : 0 = (nI (cntN (fun i => a.testBit i && decide (dg code i = 2)) 0)) := (by first | rfl | (rw [cntN_t (by rw [Bool.and_eq_true, decide_eq_true_eq]; exact ⟨by assumption, by assumption⟩)]; first | done | rfl) | (rw [cntN_f (by rw [Bool.and_eq_true, decide_eq_true_eq]; exact fun q => by first | exact absurd q.1 (by assumption) | exact absurd q.2 (by assumption))]; first | done | rfl))
  have g2 : 0 = (nI 0) := (by first | rfl | (rw [cntN_t (by rw [Bool.and_eq_true, decide_eq_true_eq]; exact ⟨by assumption, by assumption⟩)]; first | done | rfl) | (rw [cntN_f (by rw [Bool.and_eq_true, decide_eq_true_eq]; exact fun q => by first | exact absurd q.1 (by assumption) | exact absurd q.2 (by assumption))]; first | done | rfl))
  refine v_to (ls' := [(0, .ref (u.2.1 63)), (1, .ref (u.2.1 77)), (2, .int (nI (cntN (fun i => a.testBit i && decide (dg code i = 2)) 0))), (3, .int (nI 0))]) (by first | rfl | rw [g1, g2] | simp_all) ?_
  refine L_M_marked_4 hA F fτ hb ha ht ?_ _ 0 (Nat.zero_le _) (Nat.lt_succ_self _)
  refine v_iload_n F d_M_marked_45 rfl 2 rfl ?_
  refine v_iret F hr rfl d_M_marked_46 ?_
  exact ⟨rfl, rfl⟩
abbrev b_M_silent : ByteArray := prog_14_method_64_code
abbrev y_M_silent : MethodName := ⟨"TakerBookModel", "silent", "()I"⟩
theorem d_M_silent_0 : decode b_M_silent 0 = .ok (.aload_n 0, 1) := by decide +kernel
theorem d_M_silent_1 : decode b_M_silent 1 = .ok (.getfield 146, 3) := by decide +kernel
theorem d_M_silent_4 : decode b_M_silent 4 = .ok (.ifCond .ne 6, 3) := by decide +kernel
theorem d_M_silent_7 : decode b_M_silent 7 = .ok (.bipush (-4), 2) := by decide +kernel
theorem d_M_silent_9 : decode b_M_silent 9 = .ok (.ireturn, 1) := by decide +kernel
theorem d_M_silent_10 : decode b_M_silent 10 = .ok (.ldc 218, 2) := by decide +kernel
theorem d_M_silent_12 : decode b_M_silent 12 = .ok (.istore_n 1, 1) := by decide +kernel
theorem d_M_silent_13 : decode b_M_silent 13 = .ok (.iconst 0, 1) := by decide +kernel
theorem d_M_silent_14 : decode b_M_silent 14 = .ok (.istore_n 2, 1) := by decide +kernel
theorem d_M_silent_15 : decode b_M_silent 15 = .ok (.iconst 0, 1) := by decide +kernel
theorem d_M_silent_16 : decode b_M_silent 16 = .ok (.istore_n 3, 1) := by decide +kernel
theorem d_M_silent_17 : decode b_M_silent 17 = .ok (.iload_n 3, 1) := by decide +kernel
theorem d_M_silent_18 : decode b_M_silent 18 = .ok (.aload_n 0, 1) := by decide +kernel
theorem d_M_silent_19 : decode b_M_silent 19 = .ok (.invokevirtual 219, 3) := by decide +kernel
theorem d_M_silent_22 : decode b_M_silent 22 = .ok (.if_icmp .ge 68, 3) := by decide +kernel
theorem d_M_silent_25 : decode b_M_silent 25 = .ok (.aload_n 0, 1) := by decide +kernel
theorem d_M_silent_26 : decode b_M_silent 26 = .ok (.iload_n 3, 1) := by decide +kernel
theorem d_M_silent_27 : decode b_M_silent 27 = .ok (.invokevirtual 223, 3) := by decide +kernel
theorem d_M_silent_30 : decode b_M_silent 30 = .ok (.istore 4, 2) := by decide +kernel
theorem d_M_silent_32 : decode b_M_silent 32 = .ok (.iload 4, 2) := by decide +kernel
theorem d_M_silent_34 : decode b_M_silent 34 = .ok (.ifCond .lt 50, 3) := by decide +kernel
theorem d_M_silent_37 : decode b_M_silent 37 = .ok (.aload_n 0, 1) := by decide +kernel
theorem d_M_silent_38 : decode b_M_silent 38 = .ok (.aload_n 0, 1) := by decide +kernel
theorem d_M_silent_39 : decode b_M_silent 39 = .ok (.getfield 54, 3) := by decide +kernel
theorem d_M_silent_42 : decode b_M_silent 42 = .ok (.invokevirtual 181, 3) := by decide +kernel
theorem d_M_silent_45 : decode b_M_silent 45 = .ok (.ifCond .ne 39, 3) := by decide +kernel
theorem d_M_silent_48 : decode b_M_silent 48 = .ok (.iload 4, 2) := by decide +kernel
theorem d_M_silent_50 : decode b_M_silent 50 = .ok (.iload_n 1, 1) := by decide +kernel
theorem d_M_silent_51 : decode b_M_silent 51 = .ok (.if_icmp .lt 21, 3) := by decide +kernel
theorem d_M_silent_54 : decode b_M_silent 54 = .ok (.iload 4, 2) := by decide +kernel
theorem d_M_silent_56 : decode b_M_silent 56 = .ok (.iload_n 1, 1) := by decide +kernel
theorem d_M_silent_57 : decode b_M_silent 57 = .ok (.if_icmp .ne 27, 3) := by decide +kernel
theorem d_M_silent_60 : decode b_M_silent 60 = .ok (.aload_n 0, 1) := by decide +kernel
theorem d_M_silent_61 : decode b_M_silent 61 = .ok (.aload_n 0, 1) := by decide +kernel
theorem d_M_silent_62 : decode b_M_silent 62 = .ok (.getfield 54, 3) := by decide +kernel
theorem d_M_silent_65 : decode b_M_silent 65 = .ok (.invokevirtual 226, 3) := by decide +kernel
theorem d_M_silent_68 : decode b_M_silent 68 = .ok (.iload_n 2, 1) := by decide +kernel
theorem d_M_silent_69 : decode b_M_silent 69 = .ok (.if_icmp .le 15, 3) := by decide +kernel
theorem d_M_silent_72 : decode b_M_silent 72 = .ok (.iload 4, 2) := by decide +kernel
theorem d_M_silent_74 : decode b_M_silent 74 = .ok (.istore_n 1, 1) := by decide +kernel
theorem d_M_silent_75 : decode b_M_silent 75 = .ok (.aload_n 0, 1) := by decide +kernel
theorem d_M_silent_76 : decode b_M_silent 76 = .ok (.aload_n 0, 1) := by decide +kernel
theorem d_M_silent_77 : decode b_M_silent 77 = .ok (.getfield 54, 3) := by decide +kernel
theorem d_M_silent_80 : decode b_M_silent 80 = .ok (.invokevirtual 226, 3) := by decide +kernel
theorem d_M_silent_83 : decode b_M_silent 83 = .ok (.istore_n 2, 1) := by decide +kernel
theorem d_M_silent_84 : decode b_M_silent 84 = .ok (.iinc 3 1, 3) := by decide +kernel
theorem d_M_silent_87 : decode b_M_silent 87 = .ok (.goto (-70), 3) := by decide +kernel
theorem d_M_silent_90 : decode b_M_silent 90 = .ok (.iload_n 1, 1) := by decide +kernel
theorem d_M_silent_91 : decode b_M_silent 91 = .ok (.ldc 218, 2) := by decide +kernel
theorem d_M_silent_93 : decode b_M_silent 93 = .ok (.if_icmp .ne 8, 3) := by decide +kernel
theorem d_M_silent_96 : decode b_M_silent 96 = .ok (.bipush (-9), 2) := by decide +kernel
theorem d_M_silent_98 : decode b_M_silent 98 = .ok (.goto 9, 3) := by decide +kernel
theorem d_M_silent_101 : decode b_M_silent 101 = .ok (.aload_n 0, 1) := by decide +kernel
theorem d_M_silent_102 : decode b_M_silent 102 = .ok (.iload_n 2, 1) := by decide +kernel
theorem d_M_silent_103 : decode b_M_silent 103 = .ok (.iload_n 1, 1) := by decide +kernel
theorem d_M_silent_104 : decode b_M_silent 104 = .ok (.invokevirtual 111, 3) := by decide +kernel
theorem d_M_silent_107 : decode b_M_silent 107 = .ok (.ireturn, 1) := by decide +kernel
theorem mo_M_silent : mok y_M_silent b_M_silent 5 (some .int) 0 := ⟨List.mem_of_getElem? (i := 1324) (by decide +kernel), ⟨by decide +kernel, by decide +kernel, by decide +kernel⟩, List.mem_of_getElem? (i := 86) (by decide +kernel), by decide⟩
set_option maxHeartbeats 4000000 in
theorem L_M_silent_17 {X : FX} {u : Un} (hA : Ap u) {Q : State → Prop} (F : Fr X u "TakerBookModel" b_M_silent 5) {σ : St} {n : Nat} {kd : Nat → Nat} (hb : mkOk σ n kd) {a : Nat} (ha : a < 64) (h0 : σ.1 76 0 = nI a) {cr : Nat → Nat} (hcr : crOk σ cr n) (k0 : ∀ (c : Nat) (τ : St), c = 3 ^ n → fr σ τ → V X u 5 5 Q 90 [(0, .ref (u.2.1 63)), (1, .int ((slS σ kd cr n a c).1)), (2, .int ((slS σ kd cr n a c).2))] [] (τ)) : ∀ (nn : Nat) (c : Nat) (τ : St), c ≤ 3 ^ n → fr σ τ → 3 ^ n - c < nn → V X u 5 5 Q 17 [(0, .ref (u.2.1 63)), (1, .int ((slS σ kd cr n a c).1)), (2, .int ((slS σ kd cr n a c).2)), (3, .int (nI c))] [] (τ) := by
  intro nn
  induction nn with
  | zero =>
    intro c τ hc fτ h2
    exact absurd h2 (Nat.not_lt_zero _)
  | succ nn ih =>
    intro c τ hc fτ hm
    obtain ⟨hn, hn6, hkd, hk6⟩ := id hb
    have h729 := p3_b hn6
    refine v_iload_n F d_M_silent_17 rfl 3 rfl ?_
    refine v_aload_n F d_M_silent_18 rfl 0 rfl ?_
    refine v_runi (r_V F (c_M_codes X.2.1 u hA fτ hb) mo_M_codes st_M_219 rc_63 (by decide) rfl (Nat.le_of_ble_eq_true rfl) d_M_silent_19) (fun r1 σ2 q3 => ?_)
    obtain ⟨rfl, rfl⟩ := q3
    refine v_icmp_ge F 90 d_M_silent_22 rfl (fun h22 => ?_) (fun h22 => ?_)
    · skip
      have h22 : 3 ^ n ≤ c := (nI_leI (a := 3 ^ n) (b := c) (by omega) (by omega)).mp h22
      refine v_sub [0, 1, 2] (ls' := [(0, .ref (u.2.1 63)), (1, .int ((slS σ kd cr n a c).1)), (2, .int ((slS σ kd cr n a c).2))]) rfl ?_
      exact k0 c τ (by omega) fτ
    · skip
      have h22 : ¬ 3 ^ n ≤ c := fun q => h22 ((nI_leI (a := 3 ^ n) (b := c) (by omega) (by omega)).mpr q)
      refine v_aload_n F d_M_silent_25 rfl 0 rfl ?_
      refine v_iload_n F d_M_silent_26 rfl 3 rfl ?_
      refine v_runi (r_V F (c_M_more X.2.1 u hA fτ hb ha h0 hcr c (by omega)) mo_M_more st_M_223 rc_63 (by decide) rfl (Nat.le_of_ble_eq_true rfl) d_M_silent_27) (fun r4 σ5 q6 => ?_)
      obtain ⟨rfl, fσ5, ht⟩ := q6
      refine v_istore (ls' := [(4, .int (mrS cr a n c)), (0, .ref (u.2.1 63)), (1, .int ((slS σ kd cr n a c).1)), (2, .int ((slS σ kd cr n a c).2)), (3, .int (nI c))]) F d_M_silent_30 (by decide) rfl ?_
      refine v_iload F d_M_silent_32 0 rfl ?_
      refine v_if_lt F 84 d_M_silent_34 rfl (fun h34 => ?_) (fun h34 => ?_)
      · skip
        refine v_iinc (v := nI (c + 1)) (ls' := [(3, .int (nI (c + 1))), (4, .int (mrS cr a n c)), (0, .ref (u.2.1 63)), (1, .int ((slS σ kd cr n a c).1)), (2, .int ((slS σ kd cr n a c).2))]) F d_M_silent_84 (j := 4) rfl (nI_inc _) (by decide) rfl ?_
        refine v_goto F 17 d_M_silent_87 rfl ?_
        refine v_sub [2, 3, 4, 0] (ls' := [(0, .ref (u.2.1 63)), (1, .int ((slS σ kd cr n a c).1)), (2, .int ((slS σ kd cr n a c).2)), (3, .int (nI (c + 1)))]) rfl ?_
        have g7 : ((slS σ kd cr n a c).1) = ((slS σ kd cr n a (c + 1)).1) := (by first | rfl | (rw [slS_t ⟨i_nlt.mp (by assumption), by assumption, by first | exact Or.inl (by assumption) | exact Or.inr ⟨by assumption, i_lt_le.mp (by assumption)⟩⟩]; done) | (rw [slS_f (fun q => by first | exact absurd q.1 (lt_le_i (by assumption)) | exact absurd (by assumption) q.2.1 | exact q.2.2.elim (fun r => absurd r (by assumption)) (fun r => absurd r.1 (by assumption)) | exact q.2.2.elim (fun r => absurd r (by assumption)) (fun r => absurd r.2 (i_nlt.mpr (by assumption))))]; done))
        have g8 : ((slS σ kd cr n a c).2) = ((slS σ kd cr n a (c + 1)).2) := (by first | rfl | (rw [slS_t ⟨i_nlt.mp (by assumption), by assumption, by first | exact Or.inl (by assumption) | exact Or.inr ⟨by assumption, i_lt_le.mp (by assumption)⟩⟩]; done) | (rw [slS_f (fun q => by first | exact absurd q.1 (lt_le_i (by assumption)) | exact absurd (by assumption) q.2.1 | exact q.2.2.elim (fun r => absurd r (by assumption)) (fun r => absurd r.1 (by assumption)) | exact q.2.2.elim (fun r => absurd r (by assumption)) (fun r => absurd r.2 (i_nlt.mpr (by assumption))))]; done))
        refine v_to (ls' := [(0, .ref (u.2.1 63)), (1, .int ((slS σ kd cr n a (c + 1)).1)), (2, .int ((slS σ kd cr n a (c + 1)).2)), (3, .int (nI (c + 1)))]) (by first | rfl | rw [g7, g8] | simp_all) ?_
        exact ih (c + 1) (σ5) (by omega) fσ5 (by omega)
      · skip
        refine v_aload_n F d_M_silent_37 rfl 1 rfl ?_
        refine v_aload_n F d_M_silent_38 rfl 1 rfl ?_
        refine v_getr (r := 77) F fk_M_54 G63 rfl d_M_silent_39 ?_
        refine v_runi (r_V F (c_M_isTrial_f X.2.1 u hA fσ5 hb (kO := 77) (Or.inr rfl) ha ht.1 (cr := (dgI c)) (fun i hi => ht.2 i hi)  ) mo_M_isTrial st_M_181 rc_63 (by decide) rfl (Nat.le_of_ble_eq_true rfl) d_M_silent_42) (fun r9 σ10 q11 => ?_)
        obtain ⟨rfl, rfl⟩ := q11
        refine v_bf F 84 d_M_silent_45 rfl (fun h45 => ?_) (fun h45 => ?_)
        · skip
          refine v_iinc (v := nI (c + 1)) (ls' := [(3, .int (nI (c + 1))), (4, .int (mrS cr a n c)), (0, .ref (u.2.1 63)), (1, .int ((slS σ kd cr n a c).1)), (2, .int ((slS σ kd cr n a c).2))]) F d_M_silent_84 (j := 4) rfl (nI_inc _) (by decide) rfl ?_
          refine v_goto F 17 d_M_silent_87 rfl ?_
          refine v_sub [2, 3, 4, 0] (ls' := [(0, .ref (u.2.1 63)), (1, .int ((slS σ kd cr n a c).1)), (2, .int ((slS σ kd cr n a c).2)), (3, .int (nI (c + 1)))]) rfl ?_
          have g12 : ((slS σ kd cr n a c).1) = ((slS σ kd cr n a (c + 1)).1) := (by first | rfl | (rw [slS_t ⟨i_nlt.mp (by assumption), by assumption, by first | exact Or.inl (by assumption) | exact Or.inr ⟨by assumption, i_lt_le.mp (by assumption)⟩⟩]; done) | (rw [slS_f (fun q => by first | exact absurd q.1 (lt_le_i (by assumption)) | exact absurd (by assumption) q.2.1 | exact q.2.2.elim (fun r => absurd r (by assumption)) (fun r => absurd r.1 (by assumption)) | exact q.2.2.elim (fun r => absurd r (by assumption)) (fun r => absurd r.2 (i_nlt.mpr (by assumption))))]; done))
          have g13 : ((slS σ kd cr n a c).2) = ((slS σ kd cr n a (c + 1)).2) := (by first | rfl | (rw [slS_t ⟨i_nlt.mp (by assumption), by assumption, by first | exact Or.inl (by assumption) | exact Or.inr ⟨by assumption, i_lt_le.mp (by assumption)⟩⟩]; done) | (rw [slS_f (fun q => by first | exact absurd q.1 (lt_le_i (by assumption)) | exact absurd (by assumption) q.2.1 | exact q.2.2.elim (fun r => absurd r (by assumption)) (fun r => absurd r.1 (by assumption)) | exact q.2.2.elim (fun r => absurd r (by assumption)) (fun r => absurd r.2 (i_nlt.mpr (by assumption))))]; done))
          refine v_to (ls' := [(0, .ref (u.2.1 63)), (1, .int ((slS σ kd cr n a (c + 1)).1)), (2, .int ((slS σ kd cr n a (c + 1)).2)), (3, .int (nI (c + 1)))]) (by first | rfl | rw [g12, g13] | simp_all) ?_
          exact ih (c + 1) (σ5) (by omega) fσ5 (by omega)
        · skip
          refine v_iload F d_M_silent_48 0 rfl ?_
          refine v_iload_n F d_M_silent_50 rfl 2 rfl ?_
          refine v_icmp_lt F 72 d_M_silent_51 rfl (fun h51 => ?_) (fun h51 => ?_)
          · skip
            refine v_iload F d_M_silent_72 0 rfl ?_
            refine v_istore_n (ls' := [(1, .int (mrS cr a n c)), (4, .int (mrS cr a n c)), (0, .ref (u.2.1 63)), (2, .int ((slS σ kd cr n a c).2)), (3, .int (nI c))]) F d_M_silent_74 rfl (by decide) rfl ?_
            refine v_aload_n F d_M_silent_75 rfl 2 rfl ?_
            refine v_aload_n F d_M_silent_76 rfl 2 rfl ?_
            refine v_getr (r := 77) F fk_M_54 G63 rfl d_M_silent_77 ?_
            refine v_runi (r_V F (c_M_marked X.2.1 u hA fσ5 hb ha ht) mo_M_marked st_M_226 rc_63 (by decide) rfl (Nat.le_of_ble_eq_true rfl) d_M_silent_80) (fun r14 σ15 q16 => ?_)
            obtain ⟨rfl, rfl⟩ := q16
            refine v_istore_n (ls' := [(2, .int (nI (tdN a n c))), (1, .int (mrS cr a n c)), (4, .int (mrS cr a n c)), (0, .ref (u.2.1 63)), (3, .int (nI c))]) F d_M_silent_83 rfl (by decide) rfl ?_
            refine v_iinc (v := nI (c + 1)) (ls' := [(3, .int (nI (c + 1))), (2, .int (nI (tdN a n c))), (1, .int (mrS cr a n c)), (4, .int (mrS cr a n c)), (0, .ref (u.2.1 63))]) F d_M_silent_84 (j := 4) rfl (nI_inc _) (by decide) rfl ?_
            refine v_goto F 17 d_M_silent_87 rfl ?_
            refine v_sub [4, 2, 1, 0] (ls' := [(0, .ref (u.2.1 63)), (1, .int (mrS cr a n c)), (2, .int (nI (tdN a n c))), (3, .int (nI (c + 1)))]) rfl ?_
            have g17 : (mrS cr a n c) = ((slS σ kd cr n a (c + 1)).1) := (by first | rfl | (rw [slS_t ⟨i_nlt.mp (by assumption), by assumption, by first | exact Or.inl (by assumption) | exact Or.inr ⟨by assumption, i_lt_le.mp (by assumption)⟩⟩]; done) | (rw [slS_f (fun q => by first | exact absurd q.1 (lt_le_i (by assumption)) | exact absurd (by assumption) q.2.1 | exact q.2.2.elim (fun r => absurd r (by assumption)) (fun r => absurd r.1 (by assumption)) | exact q.2.2.elim (fun r => absurd r (by assumption)) (fun r => absurd r.2 (i_nlt.mpr (by assumption))))]; done))
            have g18 : (nI (tdN a n c)) = ((slS σ kd cr n a (c + 1)).2) := (by first | rfl | (rw [slS_t ⟨i_nlt.mp (by assumption), by assumption, by first | exact Or.inl (by assumption) | exact Or.inr ⟨by assumption, i_lt_le.mp (by assumption)⟩⟩]; done) | (rw [slS_f (fun q => by first | exact absurd q.1 (lt_le_i (by assumption)) | exact absurd (by assumption) q.2.1 | exact q.2.2.elim (fun r => absurd r (by assumption)) (fun r => absurd r.1 (by assumption)) | exact q.2.2.elim (fun r => absurd r (by assumption)) (fun r => absurd r.2 (i_nlt.mpr (by assumption))))]; done))
            refine v_to (ls' := [(0, .ref (u.2.1 63)), (1, .int ((slS σ kd cr n a (c + 1)).1)), (2, .int ((slS σ kd cr n a (c + 1)).2)), (3, .int (nI (c + 1)))]) (by first | rfl | rw [g17, g18] | simp_all) ?_
            exact ih (c + 1) (σ5) (by omega) fσ5 (by omega)
          · skip
            refine v_iload F d_M_silent_54 0 rfl ?_
            refine v_iload_n F d_M_silent_56 rfl 2 rfl ?_
            refine v_icmp_ne F 84 d_M_silent_57 rfl (fun h57 => ?_) (fun h57 => ?_)
            · skip
              refine v_iinc (v := nI (c + 1)) (ls' := [(3, .int (nI (c + 1))), (4, .int (mrS cr a n c)), (0, .ref (u.2.1 63)), (1, .int ((slS σ kd cr n a c).1)), (2, .int ((slS σ kd cr n a c).2))]) F d_M_silent_84 (j := 4) rfl (nI_inc _) (by decide) rfl ?_
              refine v_goto F 17 d_M_silent_87 rfl ?_
              refine v_sub [2, 3, 4, 0] (ls' := [(0, .ref (u.2.1 63)), (1, .int ((slS σ kd cr n a c).1)), (2, .int ((slS σ kd cr n a c).2)), (3, .int (nI (c + 1)))]) rfl ?_
              have g19 : ((slS σ kd cr n a c).1) = ((slS σ kd cr n a (c + 1)).1) := (by first | rfl | (rw [slS_t ⟨i_nlt.mp (by assumption), by assumption, by first | exact Or.inl (by assumption) | exact Or.inr ⟨by assumption, i_lt_le.mp (by assumption)⟩⟩]; done) | (rw [slS_f (fun q => by first | exact absurd q.1 (lt_le_i (by assumption)) | exact absurd (by assumption) q.2.1 | exact q.2.2.elim (fun r => absurd r (by assumption)) (fun r => absurd r.1 (by assumption)) | exact q.2.2.elim (fun r => absurd r (by assumption)) (fun r => absurd r.2 (i_nlt.mpr (by assumption))))]; done))
              have g20 : ((slS σ kd cr n a c).2) = ((slS σ kd cr n a (c + 1)).2) := (by first | rfl | (rw [slS_t ⟨i_nlt.mp (by assumption), by assumption, by first | exact Or.inl (by assumption) | exact Or.inr ⟨by assumption, i_lt_le.mp (by assumption)⟩⟩]; done) | (rw [slS_f (fun q => by first | exact absurd q.1 (lt_le_i (by assumption)) | exact absurd (by assumption) q.2.1 | exact q.2.2.elim (fun r => absurd r (by assumption)) (fun r => absurd r.1 (by assumption)) | exact q.2.2.elim (fun r => absurd r (by assumption)) (fun r => absurd r.2 (i_nlt.mpr (by assumption))))]; done))
              refine v_to (ls' := [(0, .ref (u.2.1 63)), (1, .int ((slS σ kd cr n a (c + 1)).1)), (2, .int ((slS σ kd cr n a (c + 1)).2)), (3, .int (nI (c + 1)))]) (by first | rfl | rw [g19, g20] | simp_all) ?_
              exact ih (c + 1) (σ5) (by omega) fσ5 (by omega)
            · skip
              refine v_aload_n F d_M_silent_60 rfl 1 rfl ?_
              refine v_aload_n F d_M_silent_61 rfl 1 rfl ?_
              refine v_getr (r := 77) F fk_M_54 G63 rfl d_M_silent_62 ?_
              refine v_runi (r_V F (c_M_marked X.2.1 u hA fσ5 hb ha ht) mo_M_marked st_M_226 rc_63 (by decide) rfl (Nat.le_of_ble_eq_true rfl) d_M_silent_65) (fun r21 σ22 q23 => ?_)
              obtain ⟨rfl, rfl⟩ := q23
              refine v_iload_n F d_M_silent_68 rfl 3 rfl ?_
              refine v_icmp_le F 84 d_M_silent_69 rfl (fun h69 => ?_) (fun h69 => ?_)
              · skip
                refine v_iinc (v := nI (c + 1)) (ls' := [(3, .int (nI (c + 1))), (4, .int (mrS cr a n c)), (0, .ref (u.2.1 63)), (1, .int ((slS σ kd cr n a c).1)), (2, .int ((slS σ kd cr n a c).2))]) F d_M_silent_84 (j := 4) rfl (nI_inc _) (by decide) rfl ?_
                refine v_goto F 17 d_M_silent_87 rfl ?_
                refine v_sub [2, 3, 4, 0] (ls' := [(0, .ref (u.2.1 63)), (1, .int ((slS σ kd cr n a c).1)), (2, .int ((slS σ kd cr n a c).2)), (3, .int (nI (c + 1)))]) rfl ?_
                have g24 : ((slS σ kd cr n a c).1) = ((slS σ kd cr n a (c + 1)).1) := (by first | rfl | (rw [slS_t ⟨i_nlt.mp (by assumption), by assumption, by first | exact Or.inl (by assumption) | exact Or.inr ⟨by assumption, i_lt_le.mp (by assumption)⟩⟩]; done) | (rw [slS_f (fun q => by first | exact absurd q.1 (lt_le_i (by assumption)) | exact absurd (by assumption) q.2.1 | exact q.2.2.elim (fun r => absurd r (by assumption)) (fun r => absurd r.1 (by assumption)) | exact q.2.2.elim (fun r => absurd r (by assumption)) (fun r => absurd r.2 (i_nlt.mpr (by assumption))))]; done))
                have g25 : ((slS σ kd cr n a c).2) = ((slS σ kd cr n a (c + 1)).2) := (by first | rfl | (rw [slS_t ⟨i_nlt.mp (by assumption), by assumption, by first | exact Or.inl (by assumption) | exact Or.inr ⟨by assumption, i_lt_le.mp (by assumption)⟩⟩]; done) | (rw [slS_f (fun q => by first | exact absurd q.1 (lt_le_i (by assumption)) | exact absurd (by assumption) q.2.1 | exact q.2.2.elim (fun r => absurd r (by assumption)) (fun r => absurd r.1 (by assumption)) | exact q.2.2.elim (fun r => absurd r (by assumption)) (fun r => absurd r.2 (i_nlt.mpr (by assumption))))]; done))
                refine v_to (ls' := [(0, .ref (u.2.1 63)), (1, .int ((slS σ kd cr n a (c + 1)).1)), (2, .int ((slS σ kd cr n a (c + 1)).2)), (3, .int (nI (c + 1)))]) (by first | rfl | rw [g24, g25] | simp_all) ?_
                exact ih (c + 1) (σ5) (by omega) fσ5 (by omega)
              · skip
                refine v_iload F d_M_silent_72 0 rfl ?_
                refine v_istore_n (ls' := [(1, .int (mrS cr a n c)), (4, .int (mrS cr a n c)), (0, .ref (u.2.1 63)), (2, .int ((slS σ kd cr n a c).2)), (3, .int (nI c))]) F d_M_silent_74 rfl (by decide) rfl ?_
                refine v_aload_n F d_M_silent_75 rfl 2 rfl ?_
                refine v_aload_n F d_M_silent_76 rfl 2 rfl ?_
                refine v_getr (r := 77) F fk_M_54 G63 rfl d_M_silent_77 ?_
                refine v_runi (r_V F (c_M_marked X.2.1 u hA fσ5 hb ha ht) mo_M_marked st_M_226 rc_63 (by decide) rfl (Nat.le_of_ble_eq_true rfl) d_M_silent_80) (fun r26 σ27 q28 => ?_)
                obtain ⟨rfl, rfl⟩ := q28
                refine v_istore_n (ls' := [(2, .int (nI (tdN a n c))), (1, .int (mrS cr a n c)), (4, .int (mrS cr a n c)), (0, .ref (u.2.1 63)), (3, .int (nI c))]) F d_M_silent_83 rfl (by decide) rfl ?_
                refine v_iinc (v := nI (c + 1)) (ls' := [(3, .int (nI (c + 1))), (2, .int (nI (tdN a n c))), (1, .int (mrS cr a n c)), (4, .int (mrS cr a n c)), (0, .ref (u.2.1 63))]) F d_M_silent_84 (j := 4) rfl (nI_inc _) (by decide) rfl ?_
                refine v_goto F 17 d_M_silent_87 rfl ?_
                refine v_sub [4, 2, 1, 0] (ls' := [(0, .ref (u.2.1 63)), (1, .int (mrS cr a n c)), (2, .int (nI (tdN a n c))), (3, .int (nI (c + 1)))]) rfl ?_
                have g29 : (mrS cr a n c) = ((slS σ kd cr n a (c + 1)).1) := (by first | rfl | (rw [slS_t ⟨i_nlt.mp (by assumption), by assumption, by first | exact Or.inl (by assumption) | exact Or.inr ⟨by assumption, i_lt_le.mp (by assumption)⟩⟩]; done) | (rw [slS_f (fun q => by first | exact absurd q.1 (lt_le_i (by assumption)) | exact absurd (by assumption) q.2.1 | exact q.2.2.elim (fun r => absurd r (by assumption)) (fun r => absurd r.1 (by assumption)) | exact q.2.2.elim (fun r => absurd r (by assumption)) (fun r => absurd r.2 (i_nlt.mpr (by assumption))))]; done))
                have g30 : (nI (tdN a n c)) = ((slS σ kd cr n a (c + 1)).2) := (by first | rfl | (rw [slS_t ⟨i_nlt.mp (by assumption), by assumption, by first | exact Or.inl (by assumption) | exact Or.inr ⟨by assumption, i_lt_le.mp (by assumption)⟩⟩]; done) | (rw [slS_f (fun q => by first | exact absurd q.1 (lt_le_i (by assumption)) | exact absurd (by assumption) q.2.1 | exact q.2.2.elim (fun r => absurd r (by assumption)) (fun r => absurd r.1 (by assumption)) | exact q.2.2.elim (fun r => absurd r (by assumption)) (fun r => absurd r.2 (i_nlt.mpr (by assumption))))]; done))
                refine v_to (ls' := [(0, .ref (u.2.1 63)), (1, .int ((slS σ kd cr n a (c + 1)).1)), (2, .int ((slS σ kd cr n a (c + 1)).2)), (3, .int (nI (c + 1)))]) (by first | rfl | rw [g29, g30] | simp_all) ?_
                exact ih (c + 1) (σ5) (by omega) fσ5 (by omega)
set_option maxHeartbeats 4000000 in
theorem c_M_silent (l : Launch) (u : Un) (hA : Ap u) (σ : St) {n : Nat} {kd : Nat → Nat} (hb : mkOk σ n kd) {a : Nat} (ha : a < 64) (h0 : σ.1 76 0 = nI a) {cr : Nat → Nat} (hcr : crOk σ cr n) : MTi l u y_M_silent b_M_silent 5 .int 5 [.ref (u.2.1 63)] σ (fun ans σ' => ∃ τ, fr σ τ ∧ (ans, σ') = mSilent σ τ kd cr n a) := by
  refine MT_of hA rfl (by decide) (Nat.le_of_ble_eq_true rfl) (fun X hl F hr => ?_)
  subst hl
  refine v_to (ls' := [(0, .ref (u.2.1 63))]) rfl ?_
  obtain ⟨hn, hn6, hkd, hk6⟩ := id hb
  refine v_aload_n F d_M_silent_0 rfl 0 rfl ?_
  refine v_geti F fk_M_146 G63 rfl d_M_silent_1 ?_
  refine v_te (y := nI n) hn ?_
  refine v_if_ne F 10 d_M_silent_4 rfl (fun h4 => ?_) (fun h4 => ?_)
  · skip
    have h4 : ¬ n = 0 := fun q => h4 ((nI_eq (a := n) (b := 0) (by omega) (by omega)).mpr q)
    refine v_ldc (v := 1000000) F kc_M_218 d_M_silent_10 ?_
    refine v_istore_n (ls' := [(1, .int 1000000), (0, .ref (u.2.1 63))]) F d_M_silent_12 rfl (by decide) rfl ?_
    refine v_iconst (v := 0) F d_M_silent_13 ki_0 ?_
    refine v_istore_n (ls' := [(2, .int 0), (1, .int 1000000), (0, .ref (u.2.1 63))]) F d_M_silent_14 rfl (by decide) rfl ?_
    refine v_iconst (v := 0) F d_M_silent_15 ki_0 ?_
    refine v_istore_n (ls' := [(3, .int 0), (2, .int 0), (1, .int 1000000), (0, .ref (u.2.1 63))]) F d_M_silent_16 rfl (by decide) rfl ?_
    refine v_sub [3, 2, 1, 0] (ls' := [(0, .ref (u.2.1 63)), (1, .int 1000000), (2, .int 0), (3, .int 0)]) rfl ?_
    have g1 : 1000000 = ((slS σ kd cr n a 0).1) := (by first | rfl | (simp_all; done) | grind)
    have g2 : 0 = ((slS σ kd cr n a 0).2) := (by first | rfl | (simp_all; done) | grind)
    have g3 : 0 = (nI 0) := (by first | rfl | (simp_all; done) | grind)
    refine v_to (ls' := [(0, .ref (u.2.1 63)), (1, .int ((slS σ kd cr n a 0).1)), (2, .int ((slS σ kd cr n a 0).2)), (3, .int (nI 0))]) (by first | rfl | rw [g1, g2, g3] | simp_all) ?_
    refine L_M_silent_17 hA F hb ha h0 hcr (fun c τ ec fτ => ?_) _ 0 σ (Nat.zero_le _) fr.rf (Nat.lt_succ_self _)
    subst ec
    refine v_iload_n F d_M_silent_90 rfl 1 rfl ?_
    refine v_ldc (v := 1000000) F kc_M_218 d_M_silent_91 ?_
    refine v_icmp_ne F 101 d_M_silent_93 rfl (fun h93 => ?_) (fun h93 => ?_)
    · skip
      refine v_aload_n F d_M_silent_101 rfl 0 rfl ?_
      refine v_iload_n F d_M_silent_102 rfl 2 rfl ?_
      refine v_iload_n F d_M_silent_103 rfl 1 rfl ?_
      refine v_runi (r_V F (c_M_tells X.2.1 u hA τ ((slS σ kd cr n a ((3 ^ n))).2) ((slS σ kd cr n a ((3 ^ n))).1)) mo_M_tells st_M_111 rc_63 (by decide) rfl (Nat.le_of_ble_eq_true rfl) d_M_silent_104) (fun r4 σ5 q6 => ?_)
      obtain ⟨rfl, eσ5⟩ := q6
      refine v_iret F hr rfl d_M_silent_107 ?_
      exact ⟨τ, fτ, by unfold mSilent; rw [if_neg (by assumption)]; first | (rw [if_pos (by assumption)]; done) | (rw [if_neg (by assumption)]; subst_vars; rfl)⟩
    · skip
      refine v_bipush (v := (-9)) F d_M_silent_96 kb_m9 ?_
      refine v_goto F 107 d_M_silent_98 rfl ?_
      refine v_iret F hr rfl d_M_silent_107 ?_
      exact ⟨τ, fτ, by unfold mSilent; rw [if_neg (by assumption)]; first | (rw [if_pos (by assumption)]; done) | (rw [if_neg (by assumption)]; subst_vars; rfl)⟩
  · skip
    have h4 : n = 0 := (nI_eq (a := n) (b := 0) (by omega) (by omega)).mp h4
    refine v_bipush (v := (-4)) F d_M_silent_7 kb_m4 ?_
    refine v_iret F hr rfl d_M_silent_9 ?_
    exact ⟨σ, fr.rf, by unfold mSilent; rw [if_pos (by assumption)]⟩
