theorem st_M_140 : siteV "TakerBookModel" 140 ⟨"TakerBookModel", "readsHead", "(I)Z"⟩ := ⟨List.mem_of_getElem? (i := 1196) (by decide +kernel), List.mem_of_getElem? (i := 1198) (by decide +kernel), List.mem_of_getElem? (i := 35) (by decide +kernel)⟩
theorem st_M_137 : siteV "TakerBookModel" 137 ⟨"TakerBookModel", "readsThief", "(I)Z"⟩ := ⟨List.mem_of_getElem? (i := 1185) (by decide +kernel), List.mem_of_getElem? (i := 1187) (by decide +kernel), List.mem_of_getElem? (i := 33) (by decide +kernel)⟩
theorem st_M_143 : siteV "TakerBookModel" 143 ⟨"TakerBookModel", "faultOf", "(I)I"⟩ := ⟨List.mem_of_getElem? (i := 1177) (by decide +kernel), List.mem_of_getElem? (i := 1179) (by decide +kernel), List.mem_of_getElem? (i := 31) (by decide +kernel)⟩
theorem pk_M_n : pok 12 10 .int := ⟨(R_M, F_M, 40), rfl, rfl, by decide +kernel⟩
abbrev b_M_faultOf : ByteArray := prog_14_method_29_code
abbrev y_M_faultOf : MethodName := ⟨"TakerBookModel", "faultOf", "(I)I"⟩
theorem d_M_faultOf_0 : decode b_M_faultOf 0 = .ok (.aload_n 0, 1) := by decide +kernel
theorem d_M_faultOf_1 : decode b_M_faultOf 1 = .ok (.iconst 0, 1) := by decide +kernel
theorem d_M_faultOf_2 : decode b_M_faultOf 2 = .ok (.putfield 117, 3) := by decide +kernel
theorem d_M_faultOf_5 : decode b_M_faultOf 5 = .ok (.aload_n 0, 1) := by decide +kernel
theorem d_M_faultOf_6 : decode b_M_faultOf 6 = .ok (.iconst 0, 1) := by decide +kernel
theorem d_M_faultOf_7 : decode b_M_faultOf 7 = .ok (.putfield 134, 3) := by decide +kernel
theorem d_M_faultOf_10 : decode b_M_faultOf 10 = .ok (.aload_n 0, 1) := by decide +kernel
theorem d_M_faultOf_11 : decode b_M_faultOf 11 = .ok (.iconst 0, 1) := by decide +kernel
theorem d_M_faultOf_12 : decode b_M_faultOf 12 = .ok (.putfield 127, 3) := by decide +kernel
theorem d_M_faultOf_15 : decode b_M_faultOf 15 = .ok (.aload_n 0, 1) := by decide +kernel
theorem d_M_faultOf_16 : decode b_M_faultOf 16 = .ok (.getfield 117, 3) := by decide +kernel
theorem d_M_faultOf_19 : decode b_M_faultOf 19 = .ok (.aload_n 0, 1) := by decide +kernel
theorem d_M_faultOf_20 : decode b_M_faultOf 20 = .ok (.getfield 26, 3) := by decide +kernel
theorem d_M_faultOf_23 : decode b_M_faultOf 23 = .ok (.iload_n 1, 1) := by decide +kernel
theorem d_M_faultOf_24 : decode b_M_faultOf 24 = .ok (.iaload, 1) := by decide +kernel
theorem d_M_faultOf_25 : decode b_M_faultOf 25 = .ok (.if_icmp .ge 61, 3) := by decide +kernel
theorem d_M_faultOf_28 : decode b_M_faultOf 28 = .ok (.aload_n 0, 1) := by decide +kernel
theorem d_M_faultOf_29 : decode b_M_faultOf 29 = .ok (.iload_n 1, 1) := by decide +kernel
theorem d_M_faultOf_30 : decode b_M_faultOf 30 = .ok (.aload_n 0, 1) := by decide +kernel
theorem d_M_faultOf_31 : decode b_M_faultOf 31 = .ok (.getfield 117, 3) := by decide +kernel
theorem d_M_faultOf_34 : decode b_M_faultOf 34 = .ok (.invokevirtual 120, 3) := by decide +kernel
theorem d_M_faultOf_37 : decode b_M_faultOf 37 = .ok (.bipush 32, 2) := by decide +kernel
theorem d_M_faultOf_39 : decode b_M_faultOf 39 = .ok (.if_icmp .ne 16, 3) := by decide +kernel
theorem d_M_faultOf_42 : decode b_M_faultOf 42 = .ok (.aload_n 0, 1) := by decide +kernel
theorem d_M_faultOf_43 : decode b_M_faultOf 43 = .ok (.dup, 1) := by decide +kernel
theorem d_M_faultOf_44 : decode b_M_faultOf 44 = .ok (.getfield 117, 3) := by decide +kernel
theorem d_M_faultOf_47 : decode b_M_faultOf 47 = .ok (.iconst 1, 1) := by decide +kernel
theorem d_M_faultOf_48 : decode b_M_faultOf 48 = .ok (.iadd, 1) := by decide +kernel
theorem d_M_faultOf_49 : decode b_M_faultOf 49 = .ok (.putfield 117, 3) := by decide +kernel
theorem d_M_faultOf_52 : decode b_M_faultOf 52 = .ok (.goto (-37), 3) := by decide +kernel
theorem d_M_faultOf_55 : decode b_M_faultOf 55 = .ok (.aload_n 0, 1) := by decide +kernel
theorem d_M_faultOf_56 : decode b_M_faultOf 56 = .ok (.getfield 127, 3) := by decide +kernel
theorem d_M_faultOf_59 : decode b_M_faultOf 59 = .ok (.ifCond .eq 14, 3) := by decide +kernel
theorem d_M_faultOf_62 : decode b_M_faultOf 62 = .ok (.aload_n 0, 1) := by decide +kernel
theorem d_M_faultOf_63 : decode b_M_faultOf 63 = .ok (.iload_n 1, 1) := by decide +kernel
theorem d_M_faultOf_64 : decode b_M_faultOf 64 = .ok (.invokevirtual 137, 3) := by decide +kernel
theorem d_M_faultOf_67 : decode b_M_faultOf 67 = .ok (.ifCond .eq 14, 3) := by decide +kernel
theorem d_M_faultOf_70 : decode b_M_faultOf 70 = .ok (.goto (-55), 3) := by decide +kernel
theorem d_M_faultOf_73 : decode b_M_faultOf 73 = .ok (.aload_n 0, 1) := by decide +kernel
theorem d_M_faultOf_74 : decode b_M_faultOf 74 = .ok (.iload_n 1, 1) := by decide +kernel
theorem d_M_faultOf_75 : decode b_M_faultOf 75 = .ok (.invokevirtual 140, 3) := by decide +kernel
theorem d_M_faultOf_78 : decode b_M_faultOf 78 = .ok (.ifCond .ne (-63), 3) := by decide +kernel
theorem d_M_faultOf_81 : decode b_M_faultOf 81 = .ok (.aload_n 0, 1) := by decide +kernel
theorem d_M_faultOf_82 : decode b_M_faultOf 82 = .ok (.getfield 117, 3) := by decide +kernel
theorem d_M_faultOf_85 : decode b_M_faultOf 85 = .ok (.ireturn, 1) := by decide +kernel
theorem d_M_faultOf_86 : decode b_M_faultOf 86 = .ok (.aload_n 0, 1) := by decide +kernel
theorem d_M_faultOf_87 : decode b_M_faultOf 87 = .ok (.getfield 134, 3) := by decide +kernel
theorem d_M_faultOf_90 : decode b_M_faultOf 90 = .ok (.ifCond .ne 12, 3) := by decide +kernel
theorem d_M_faultOf_93 : decode b_M_faultOf 93 = .ok (.aload_n 0, 1) := by decide +kernel
theorem d_M_faultOf_94 : decode b_M_faultOf 94 = .ok (.getfield 26, 3) := by decide +kernel
theorem d_M_faultOf_97 : decode b_M_faultOf 97 = .ok (.iload_n 1, 1) := by decide +kernel
theorem d_M_faultOf_98 : decode b_M_faultOf 98 = .ok (.iaload, 1) := by decide +kernel
theorem d_M_faultOf_99 : decode b_M_faultOf 99 = .ok (.goto 5, 3) := by decide +kernel
theorem d_M_faultOf_102 : decode b_M_faultOf 102 = .ok (.bipush (-9), 2) := by decide +kernel
theorem d_M_faultOf_104 : decode b_M_faultOf 104 = .ok (.ireturn, 1) := by decide +kernel
theorem mo_M_faultOf : mok y_M_faultOf b_M_faultOf 2 (some .int) 1 := ⟨List.mem_of_getElem? (i := 1180) (by decide +kernel), ⟨by decide +kernel, by decide +kernel, by decide +kernel⟩, List.mem_of_getElem? (i := 86) (by decide +kernel), by decide⟩
set_option maxHeartbeats 4000000 in
theorem L_M_faultOf_15 {X : FX} {u : Un} (hA : Ap u) {Q : State → Prop} (F : Fr X u "TakerBookModel" b_M_faultOf 2) {σ : St} {t N : Nat} (ht : t < 4) (hN : N ≤ 60) (eN : σ.1 68 t = nI N) (k0 : ∀ (p : Nat) (h : Bool) (m : Nat) (τ : St), fr σ τ → τ.1 63 15 = (rdF (bMf σ t N) N).1 → ¬ (rdF (bMf σ t N) N).1 = -9 → V X u 3 2 Q 81 [(0, .ref (u.2.1 63))] [] (τ)) (k1 : ∀ (p : Nat) (h : Bool) (m : Nat) (τ : St), fr σ τ → τ.1 63 16 = nI m → m ≤ 6 → (rdF (bMf σ t N) N) = (if m = 0 then nI N else -9, m) → (¬ m = 0 → mhd (bMf σ t N) (P0 (bMf σ t N) N) τ ∧ ffk (bMf σ t N) loB hiB (P0 (bMf σ t N) N) 4 = 4) → mth (bMf σ t N) N m τ → V X u 3 2 Q 86 [(0, .ref (u.2.1 63)), (1, .int (nI t))] [] (τ))  : ∀ (nn : Nat) (p : Nat) (h : Bool) (m : Nat) (τ : St), p ≤ N → fr σ τ → τ.1 63 15 = nI p → τ.1 63 16 = nI m → τ.1 63 17 = bI (h = true) → m ≤ 6 → (¬ h = true → m = 0) → rst (bMf σ t N) N h m p = rdF (bMf σ t N) N → (h = true → mhd (bMf σ t N) (P0 (bMf σ t N) N) τ) → (h = true → ffk (bMf σ t N) loB hiB (P0 (bMf σ t N) N) 4 = 4) → (h = true → QQ (bMf σ t N) N m = skN (bMf σ t N) N p) → (¬ h = true → skN (bMf σ t N) N p = skN (bMf σ t N) N 0) → mth (bMf σ t N) N m τ → N - p < nn → V X u 3 2 Q 15 [(0, .ref (u.2.1 63)), (1, .int (nI t))] [] (τ) := by
  intro nn
  induction nn with
  | zero =>
    intro p h m τ hp fτ h15 h16 h17 hm6 hm0 hR hd hfb hq hs hth h2
    exact absurd h2 (Nat.not_lt_zero _)
  | succ nn ih =>
    intro p h m τ hp fτ h15 h16 h17 hm6 hm0 hR hd hfb hq hs hth hm
    refine v_aload_n F d_M_faultOf_15 rfl 0 rfl ?_
    refine v_geti F fk_M_117 G63 rfl d_M_faultOf_16 ?_
    refine v_te (y := nI p) h15 ?_
    refine v_aload_n F d_M_faultOf_19 rfl 0 rfl ?_
    refine v_getr (r := 68) F fk_M_26 G63 rfl d_M_faultOf_20 ?_
    refine v_iload_n F d_M_faultOf_23 rfl 1 rfl ?_
    refine v_ial F t G68 rfl (by omega) d_M_faultOf_24 ?_
    refine v_te (y := nI N) (fτ.v rfl eN) ?_
    refine v_icmp_ge F 86 d_M_faultOf_25 rfl (fun h25 => ?_) (fun h25 => ?_)
    · skip
      have h25 : N ≤ p := (nI_leI (a := N) (b := p) (by omega) (by omega)).mp h25
      exact k1 p h m τ fτ h16 hm6 (by have e : p = N := (by omega); subst e; exact rd_end (fun q hq => bM_0 hq) hm0 hR) (fun q => by have hh : h = true := Decidable.byContradiction (fun r => q (hm0 r)); exact ⟨hd hh, hfb hh⟩) hth
    · skip
      have h25 : ¬ N ≤ p := fun q => h25 ((nI_leI (a := N) (b := p) (by omega) (by omega)).mpr q)
      refine v_aload_n F d_M_faultOf_28 rfl 0 rfl ?_
      refine v_iload_n F d_M_faultOf_29 rfl 1 rfl ?_
      refine v_aload_n F d_M_faultOf_30 rfl 0 rfl ?_
      refine v_geti F fk_M_117 G63 rfl d_M_faultOf_31 ?_
      refine v_te (y := nI p) h15 ?_
      refine v_runi (r_V F (c_M_byteAt X.2.1 u hA fτ ht hN eN p (by omega)) mo_M_byteAt st_M_120 rc_63 (by decide) rfl (Nat.le_of_ble_eq_true rfl) d_M_faultOf_34) (fun r1 σ2 q3 => ?_)
      obtain ⟨rfl, rfl⟩ := q3
      refine v_bipush (v := 32) F d_M_faultOf_37 kb_32 ?_
      refine v_icmp_ne F 55 d_M_faultOf_39 rfl (fun h39 => ?_) (fun h39 => ?_)
      · skip
        refine v_aload_n F d_M_faultOf_55 rfl 0 rfl ?_
        refine v_geti F fk_M_127 G63 rfl d_M_faultOf_56 ?_
        refine v_te (y := bI (h = true)) h17 ?_
        refine v_bt F 73 d_M_faultOf_59 rfl (fun h59 => ?_) (fun h59 => ?_)
        · skip
          refine v_aload_n F d_M_faultOf_73 rfl 0 rfl ?_
          refine v_iload_n F d_M_faultOf_74 rfl 1 rfl ?_
          refine v_runi (r_V F (c_M_readsHead X.2.1 u hA fτ ht hN eN p h15 (by omega) m h16) mo_M_readsHead st_M_140 rc_63 (by decide) rfl (Nat.le_of_ble_eq_true rfl) d_M_faultOf_75) (fun r4 σ5 q6 => ?_)
          rcases q6 with ⟨hk, rfl, rfl⟩ | ⟨hk, hf4, rfl, fσ5, e15⟩ | ⟨hk, hf4, rfl, fσ5, e15, e16, e17, ehd⟩
          · skip
            have hz := 0
            refine v_if_ne F 15 d_M_faultOf_78 rfl (fun h => absurd (by decide) h) (fun _ => ?_)
            refine v_sub [0] (ls' := [(0, .ref (u.2.1 63))]) rfl ?_
            exact k0 p h m τ fτ (by rw [h15, rd_h1 hR h59 h39 hk]) (by rw [rd_h1 hR h59 h39 hk]; exact nI_n9 (by omega))
          · skip
            have hz := 0
            refine v_if_ne F 15 d_M_faultOf_78 rfl (fun h => absurd (by decide) h) (fun _ => ?_)
            refine v_sub [0] (ls' := [(0, .ref (u.2.1 63))]) rfl ?_
            exact k0 p h m σ5 fσ5 (by rw [e15, rd_h2 hR h59 h39 hk hf4]) (by rw [rd_h2 hR h59 h39 hk hf4]; exact nI_n9 (by have := ffk_le (f := (bMf σ t N)) (lo := loB) (hi := hiB) (p := p + 1) 4; omega))
          · skip
            have hz := 0
            refine v_if_ne F 15 d_M_faultOf_78 rfl (fun _ => ?_) (fun h => absurd h (by decide))
            exact ih (p + 5) (true) (0) (σ5) (by have := ffB_in (N := N) (fun q hq => bM_0 hq) hf4; omega) fσ5 e15 (by rw [e16, hm0 h59]) (by rw [e17]; rfl) (Nat.zero_le _) (fun q => absurd rfl q) (rs_h hR h59 h39 hk hf4) (fun _ => by have e0 : p = skN (bMf σ t N) N 0 := (skN_n h39).symm.trans (hs h59); unfold P0; rw [← e0]; exact ehd) (fun _ => by have e0 : p = skN (bMf σ t N) N 0 := (skN_n h39).symm.trans (hs h59); unfold P0; rw [← e0]; exact hf4) (fun _ => by have e0 : p = skN (bMf σ t N) N 0 := (skN_n h39).symm.trans (hs h59); show skN _ _ (skN _ _ 0 + 5) = _; rw [← e0]) (fun q => absurd rfl q) (fun i hi => absurd hi (Nat.not_lt_zero _)) (by have := ffB_in (N := N) (fun q hq => bM_0 hq) hf4; omega)
        · skip
          refine v_aload_n F d_M_faultOf_62 rfl 0 rfl ?_
          refine v_iload_n F d_M_faultOf_63 rfl 1 rfl ?_
          refine v_runi (r_V F (c_M_readsThief X.2.1 u hA fτ ht hN eN p m h15 (by omega) h16 hm6 1 (by rw [h17, bI_t h59]; rfl)) mo_M_readsThief st_M_137 rc_63 (by decide) rfl (Nat.le_of_ble_eq_true rfl) d_M_faultOf_64) (fun r7 σ8 q9 => ?_)
          rcases q9 with ⟨hk, rfl, rfl⟩ | ⟨hk, hf3, rfl, fσ8, e15⟩ | ⟨hk, hf3, rfl, fσ8, e15, e16, e17, e74, e75, ek, e3⟩
          · skip
            have hz := 0
            refine v_if_eq F 81 d_M_faultOf_67 rfl (fun _ => ?_) (fun h => absurd (by decide) h)
            refine v_sub [0] (ls' := [(0, .ref (u.2.1 63))]) rfl ?_
            exact k0 p h m τ fτ (by rw [h15, rd_t1 hR h59 h39 (by omega) hm6 hk]) (by rw [rd_t1 hR h59 h39 (by omega) hm6 hk]; exact nI_n9 (by omega))
          · skip
            have hz := 0
            refine v_if_eq F 81 d_M_faultOf_67 rfl (fun _ => ?_) (fun h => absurd (by decide) h)
            refine v_sub [0] (ls' := [(0, .ref (u.2.1 63))]) rfl ?_
            exact k0 p h m σ8 fσ8 (by rw [e15, rd_t2 hR h59 h39 (by omega) hm6 hk hf3]) (by rw [rd_t2 hR h59 h39 (by omega) hm6 hk hf3]; exact nI_n9 (by have := ffk_le (f := (bMf σ t N)) (lo := loT) (hi := hiT) (p := p + 1) 3; omega))
          · skip
            have hz := 0
            refine v_if_eq F 81 d_M_faultOf_67 rfl (fun h => absurd h (by decide)) (fun _ => ?_)
            refine v_goto F 15 d_M_faultOf_70 rfl ?_
            exact ih (p + 4) (h) (m + 1) (σ8) (by have := ffT_in (N := N) (fun q hq => bM_0 hq) hf3; omega) fσ8 e15 e16 (by rw [e17, bI_t h59]; rfl) (by have : ¬ m = 6 := fun q => hk (Or.inr q); omega) (fun q => absurd h59 q) (rs_t hR h59 h39 (by omega) hm6 hk hf3) (fun hh k hk => by rw [e74]; exact hd hh k hk) hfb (fun hh => by show skN _ _ (QQ _ _ m + 4) = _; rw [hq hh, skN_n h39]) (fun q => absurd h59 q) (mth_s hth e75 ((hq h59).trans (skN_n h39)) (fun q => hk (Or.inl q)) hf3 ek e3) (by have := ffT_in (N := N) (fun q hq => bM_0 hq) hf3; omega)
      · skip
        refine v_aload_n F d_M_faultOf_42 rfl 0 rfl ?_
        refine v_dup F d_M_faultOf_43 rfl ?_
        refine v_geti F fk_M_117 G63 rfl d_M_faultOf_44 ?_
        refine v_te (y := nI p) h15 ?_
        refine v_iconst (v := 1) F d_M_faultOf_47 ki_1 ?_
        refine v_iadd F d_M_faultOf_48 ?_
        refine v_te (y := nI (p + 1)) (nI_add _ _) ?_
        refine v_puti F fk_M_117 pk_M_readAt G63 rfl d_M_faultOf_49 ?_
        refine v_ns (fun σ10 eσ10 => ?_)
        have fσ10 : fr σ σ10 := by rw [eσ10]; exact fτ.u rfl
        refine v_goto F 15 d_M_faultOf_52 rfl ?_
        exact ih (p + 1) (h) (m) (σ10) (by omega) fσ10 (by rw [eσ10, uI_s]) (by rw [eσ10, uI_n _ _ _ _ (by decide)]; exact h16) (by rw [eσ10, uI_n _ _ _ _ (by decide)]; exact h17) hm6 hm0 (rs_b hR h39 (by omega)) (fun hh k hk => by rw [eσ10, uI_o _ _ _ _ (by decide)]; exact hd hh k hk) hfb (fun hh => (hq hh).trans (skN_b h39 (by omega))) (fun hh => (skN_b h39 (by omega)).symm.trans (hs hh)) (mth_c hth (fun i hi => by rw [eσ10, uI_o _ _ _ _ (by decide)])) (by omega)
set_option maxHeartbeats 4000000 in
theorem c_M_faultOf (l : Launch) (u : Un) (hA : Ap u) {σ τ : St} (fτ : fr σ τ) {t N : Nat} (ht : t < 4) (hN : N ≤ 60) (eN : σ.1 68 t = nI N) : MTi l u y_M_faultOf b_M_faultOf 2 .int 3 [.ref (u.2.1 63), .int (nI t)] τ (fun ans σ' => fr σ σ' ∧ (rdF (bMf σ t N) N).1 = ans ∧ ((rdF (bMf σ t N) N).1 = -9 → bkD (bMf σ t N) N σ')) := by
  refine MT_of hA rfl (by decide) (Nat.le_of_ble_eq_true rfl) (fun X hl F hr => ?_)
  subst hl
  refine v_to (ls' := [(0, .ref (u.2.1 63)), (1, .int (nI t))]) rfl ?_
  refine v_aload_n F d_M_faultOf_0 rfl 0 rfl ?_
  refine v_iconst (v := 0) F d_M_faultOf_1 ki_0 ?_
  refine v_puti F fk_M_117 pk_M_readAt G63 rfl d_M_faultOf_2 ?_
  refine v_ns (fun σ1 eσ1 => ?_)
  have fσ1 : fr σ σ1 := by rw [eσ1]; exact fτ.u rfl
  refine v_aload_n F d_M_faultOf_5 rfl 0 rfl ?_
  refine v_iconst (v := 0) F d_M_faultOf_6 ki_0 ?_
  refine v_puti F fk_M_134 pk_M_readMany G63 rfl d_M_faultOf_7 ?_
  refine v_ns (fun σ2 eσ2 => ?_)
  have fσ2 : fr σ σ2 := by rw [eσ2]; exact fσ1.u rfl
  refine v_aload_n F d_M_faultOf_10 rfl 0 rfl ?_
  refine v_iconst (v := 0) F d_M_faultOf_11 ki_0 ?_
  refine v_putz F fk_M_127 pk_M_isHead G63 rfl rfl rfl  d_M_faultOf_12 ?_
  refine v_ns (fun σ3 eσ3 => ?_)
  have fσ3 : fr σ σ3 := by rw [eσ3]; exact fσ2.u rfl
  refine L_M_faultOf_15 hA F ht hN eN (fun p h m ρ fρ e15 e9 => ?_) (fun p h m ρ fρ q16 qm6 qR qd qth => ?_) _ 0 false 0 σ3 (Nat.zero_le _) fσ3 (by subst_vars; rw [uI_n _ _ _ _ (by decide), uI_n _ _ _ _ (by decide), uI_s]; rfl) (by subst_vars; rw [uI_n _ _ _ _ (by decide), uI_s]; rfl) (by subst_vars; rw [uI_s]; rfl) (Nat.zero_le _) (fun _ => rfl) rfl (fun q => by cases q) (fun q => by cases q) (fun q => by cases q) (fun _ => rfl) (fun i hi => absurd hi (Nat.not_lt_zero _)) (Nat.lt_succ_self _)
  · skip
    refine v_aload_n F d_M_faultOf_81 rfl 0 rfl ?_
    refine v_geti F fk_M_117 G63 rfl d_M_faultOf_82 ?_
    refine v_te (y := (rdF (bMf σ t N) N).1) e15 ?_
    refine v_iret F hr rfl d_M_faultOf_85 ?_
    exact ⟨fρ, rfl, fun q => absurd q e9⟩
  · skip
    refine v_aload_n F d_M_faultOf_86 rfl 0 rfl ?_
    refine v_geti F fk_M_134 G63 rfl d_M_faultOf_87 ?_
    refine v_te (y := nI m) q16 ?_
    refine v_if_ne F 102 d_M_faultOf_90 rfl (fun h90 => ?_) (fun h90 => ?_)
    · skip
      have h90 : ¬ m = 0 := fun q => h90 ((nI_eq (a := m) (b := 0) (by omega) (by omega)).mpr q)
      refine v_bipush (v := (-9)) F d_M_faultOf_102 kb_m9 ?_
      refine v_iret F hr rfl d_M_faultOf_104 ?_
      refine ⟨fρ, by rw [qR]; first | (rw [if_pos (by assumption)]; done) | (rw [if_neg (by assumption)]; done), fun q => ?_⟩
      unfold bkD
      rw [qR]
      exact ⟨q16, qm6, Nat.pos_of_ne_zero (by assumption), (qd (by assumption)).1, (qd (by assumption)).2, qth⟩
    · skip
      have h90 : m = 0 := (nI_eq (a := m) (b := 0) (by omega) (by omega)).mp h90
      refine v_aload_n F d_M_faultOf_93 rfl 0 rfl ?_
      refine v_getr (r := 68) F fk_M_26 G63 rfl d_M_faultOf_94 ?_
      refine v_iload_n F d_M_faultOf_97 rfl 1 rfl ?_
      refine v_ial F t G68 rfl (by omega) d_M_faultOf_98 ?_
      refine v_te (y := nI N) (fρ.v rfl eN) ?_
      refine v_goto F 104 d_M_faultOf_99 rfl ?_
      refine v_iret F hr rfl d_M_faultOf_104 ?_
      refine ⟨fρ, by rw [qR]; first | (rw [if_pos (by assumption)]; done) | (rw [if_neg (by assumption)]; done), fun q => ?_⟩
      rw [qR, if_pos (by assumption)] at q
      exact absurd q (nI_n9 (by omega))
abbrev b_M_fault : ByteArray := prog_14_method_30_code
abbrev y_M_fault : MethodName := ⟨"TakerBookModel", "fault", "(I)I"⟩
theorem d_M_fault_0 : decode b_M_fault 0 = .ok (.iload_n 1, 1) := by decide +kernel
theorem d_M_fault_1 : decode b_M_fault 1 = .ok (.invokestatic 114, 3) := by decide +kernel
theorem d_M_fault_4 : decode b_M_fault 4 = .ok (.ifCond .ne 5, 3) := by decide +kernel
theorem d_M_fault_7 : decode b_M_fault 7 = .ok (.iconst (-1), 1) := by decide +kernel
theorem d_M_fault_8 : decode b_M_fault 8 = .ok (.ireturn, 1) := by decide +kernel
theorem d_M_fault_9 : decode b_M_fault 9 = .ok (.aload_n 0, 1) := by decide +kernel
theorem d_M_fault_10 : decode b_M_fault 10 = .ok (.getfield 26, 3) := by decide +kernel
theorem d_M_fault_13 : decode b_M_fault 13 = .ok (.iload_n 1, 1) := by decide +kernel
theorem d_M_fault_14 : decode b_M_fault 14 = .ok (.iaload, 1) := by decide +kernel
theorem d_M_fault_15 : decode b_M_fault 15 = .ok (.ifCond .ge 11, 3) := by decide +kernel
theorem d_M_fault_18 : decode b_M_fault 18 = .ok (.aload_n 0, 1) := by decide +kernel
theorem d_M_fault_19 : decode b_M_fault 19 = .ok (.iconst 1, 1) := by decide +kernel
theorem d_M_fault_20 : decode b_M_fault 20 = .ok (.invokevirtual 103, 3) := by decide +kernel
theorem d_M_fault_23 : decode b_M_fault 23 = .ok (.goto 8, 3) := by decide +kernel
theorem d_M_fault_26 : decode b_M_fault 26 = .ok (.aload_n 0, 1) := by decide +kernel
theorem d_M_fault_27 : decode b_M_fault 27 = .ok (.iload_n 1, 1) := by decide +kernel
theorem d_M_fault_28 : decode b_M_fault 28 = .ok (.invokevirtual 143, 3) := by decide +kernel
theorem d_M_fault_31 : decode b_M_fault 31 = .ok (.ireturn, 1) := by decide +kernel
theorem mo_M_fault : mok y_M_fault b_M_fault 2 (some .int) 1 := ⟨List.mem_of_getElem? (i := 1176) (by decide +kernel), ⟨by decide +kernel, by decide +kernel, by decide +kernel⟩, List.mem_of_getElem? (i := 86) (by decide +kernel), by decide⟩
set_option maxHeartbeats 4000000 in
theorem c_M_fault (l : Launch) (u : Un) (hA : Ap u) (σ : St) (x : Int32) (hJ : mTextsOk σ) : MTi l u y_M_fault b_M_fault 2 .int 4 [.ref (u.2.1 63), .int x] σ (fun ans σ' => ∃ τ, fr σ τ ∧ (ans, σ') = mFault σ τ x) := by
  refine MT_of hA rfl (by decide) (Nat.le_of_ble_eq_true rfl) (fun X hl F hr => ?_)
  subst hl
  refine v_to (ls' := [(0, .ref (u.2.1 63)), (1, .int x)]) rfl ?_
  refine v_iload_n F d_M_fault_0 rfl 1 rfl ?_
  refine v_runi (r_S F (c_M_isText X.2.1 u hA σ x ) mo_M_isText st_M_114 (by decide) rfl (Nat.le_of_ble_eq_true rfl) d_M_fault_1) (fun r1 σ2 q3 => ?_)
  obtain ⟨rfl, rfl⟩ := q3
  refine v_bf F 9 d_M_fault_4 rfl (fun h4 => ?_) (fun h4 => ?_)
  · skip
    obtain ⟨t, ht, xt, rfl⟩ := inR_nat (N := 4) h4 rfl (by decide)
    refine v_aload_n F d_M_fault_9 rfl 0 rfl ?_
    refine v_getr (r := 68) F fk_M_26 G63 rfl d_M_fault_10 ?_
    refine v_iload_n F d_M_fault_13 rfl 1 rfl ?_
    refine v_ial F t G68 rfl (by omega) d_M_fault_14 ?_
    refine v_if_ge F 26 d_M_fault_15 rfl (fun h15 => ?_) (fun h15 => ?_)
    · skip
      obtain ⟨N, hN, xN, eN⟩ := nat_of (M := 60) h15 (hJ _ ht) rfl (by decide)
      have eS : szN σ t = N := xN
      refine v_aload_n F d_M_fault_26 rfl 0 rfl ?_
      refine v_iload_n F d_M_fault_27 rfl 1 rfl ?_
      refine v_runi (r_V F (c_M_faultOf X.2.1 u hA fr.rf (t := t) (N := N) ht hN eN) mo_M_faultOf st_M_143 rc_63 (by decide) rfl (Nat.le_of_ble_eq_true rfl) d_M_fault_28) (fun r4 σ5 q6 => ?_)
      obtain ⟨fσ5, rfl, hbk⟩ := q6
      refine v_iret F hr rfl d_M_fault_31 ?_
      refine ⟨σ5, fσ5, ?_⟩
      unfold mFault
      first | (rw [if_pos (by assumption)]; done) | (rw [if_neg (fun q => q (by assumption)), xt, if_pos (i_lt_le.mp (by assumption))]; subst_vars; rfl) | (rw [if_neg (fun q => q (by assumption)), xt, if_neg (i_nlt.mpr (by assumption)), eS])
    · skip
      refine v_aload_n F d_M_fault_18 rfl 0 rfl ?_
      refine v_iconst (v := 1) F d_M_fault_19 ki_1 ?_
      refine v_runi (r_V F (c_M_meets X.2.1 u hA σ 1 (by decide)) mo_M_meets st_M_103 rc_63 (by decide) rfl (Nat.le_of_ble_eq_true rfl) d_M_fault_20) (fun r7 σ8 q9 => ?_)
      obtain ⟨rfl, eσ8⟩ := q9
      refine v_goto F 31 d_M_fault_23 rfl ?_
      refine v_iret F hr rfl d_M_fault_31 ?_
      refine ⟨σ, fr.rf, ?_⟩
      unfold mFault
      first | (rw [if_pos (by assumption)]; done) | (rw [if_neg (fun q => q (by assumption)), xt, if_pos (i_lt_le.mp (by assumption))]; subst_vars; rfl) | (rw [if_neg (fun q => q (by assumption)), xt, if_neg (i_nlt.mpr (by assumption)), eS])
  · skip
    refine v_iconst (v := (-1)) F d_M_fault_7 ki_m1 ?_
    refine v_iret F hr rfl d_M_fault_8 ?_
    refine ⟨σ, fr.rf, ?_⟩
    unfold mFault
    first | (rw [if_pos (by assumption)]; done) | (rw [if_neg (fun q => q (by assumption)), xt, if_pos (i_lt_le.mp (by assumption))]; subst_vars; rfl) | (rw [if_neg (fun q => q (by assumption)), xt, if_neg (i_nlt.mpr (by assumption)), eS])
abbrev b_M_book : ByteArray := prog_14_method_31_code
abbrev y_M_book : MethodName := ⟨"TakerBookModel", "book", "(I)I"⟩
theorem d_M_book_0 : decode b_M_book 0 = .ok (.iload_n 1, 1) := by decide +kernel
theorem d_M_book_1 : decode b_M_book 1 = .ok (.invokestatic 114, 3) := by decide +kernel
theorem d_M_book_4 : decode b_M_book 4 = .ok (.ifCond .ne 5, 3) := by decide +kernel
theorem d_M_book_7 : decode b_M_book 7 = .ok (.iconst (-1), 1) := by decide +kernel
theorem d_M_book_8 : decode b_M_book 8 = .ok (.ireturn, 1) := by decide +kernel
theorem d_M_book_9 : decode b_M_book 9 = .ok (.aload_n 0, 1) := by decide +kernel
theorem d_M_book_10 : decode b_M_book 10 = .ok (.getfield 26, 3) := by decide +kernel
theorem d_M_book_13 : decode b_M_book 13 = .ok (.iload_n 1, 1) := by decide +kernel
theorem d_M_book_14 : decode b_M_book 14 = .ok (.iaload, 1) := by decide +kernel
theorem d_M_book_15 : decode b_M_book 15 = .ok (.ifCond .ge 9, 3) := by decide +kernel
theorem d_M_book_18 : decode b_M_book 18 = .ok (.aload_n 0, 1) := by decide +kernel
theorem d_M_book_19 : decode b_M_book 19 = .ok (.iconst 1, 1) := by decide +kernel
theorem d_M_book_20 : decode b_M_book 20 = .ok (.invokevirtual 103, 3) := by decide +kernel
theorem d_M_book_23 : decode b_M_book 23 = .ok (.ireturn, 1) := by decide +kernel
theorem d_M_book_24 : decode b_M_book 24 = .ok (.aload_n 0, 1) := by decide +kernel
theorem d_M_book_25 : decode b_M_book 25 = .ok (.iload_n 1, 1) := by decide +kernel
theorem d_M_book_26 : decode b_M_book 26 = .ok (.invokevirtual 143, 3) := by decide +kernel
theorem d_M_book_29 : decode b_M_book 29 = .ok (.bipush (-9), 2) := by decide +kernel
theorem d_M_book_31 : decode b_M_book 31 = .ok (.if_icmp .eq 6, 3) := by decide +kernel
theorem d_M_book_34 : decode b_M_book 34 = .ok (.bipush (-4), 2) := by decide +kernel
theorem d_M_book_36 : decode b_M_book 36 = .ok (.ireturn, 1) := by decide +kernel
theorem d_M_book_37 : decode b_M_book 37 = .ok (.aload_n 0, 1) := by decide +kernel
theorem d_M_book_38 : decode b_M_book 38 = .ok (.aload_n 0, 1) := by decide +kernel
theorem d_M_book_39 : decode b_M_book 39 = .ok (.getfield 134, 3) := by decide +kernel
theorem d_M_book_42 : decode b_M_book 42 = .ok (.putfield 146, 3) := by decide +kernel
theorem d_M_book_45 : decode b_M_book 45 = .ok (.iconst 0, 1) := by decide +kernel
theorem d_M_book_46 : decode b_M_book 46 = .ok (.istore_n 2, 1) := by decide +kernel
theorem d_M_book_47 : decode b_M_book 47 = .ok (.iload_n 2, 1) := by decide +kernel
theorem d_M_book_48 : decode b_M_book 48 = .ok (.iconst 4, 1) := by decide +kernel
theorem d_M_book_49 : decode b_M_book 49 = .ok (.if_icmp .ge 21, 3) := by decide +kernel
theorem d_M_book_52 : decode b_M_book 52 = .ok (.aload_n 0, 1) := by decide +kernel
theorem d_M_book_53 : decode b_M_book 53 = .ok (.getfield 33, 3) := by decide +kernel
theorem d_M_book_56 : decode b_M_book 56 = .ok (.iload_n 2, 1) := by decide +kernel
theorem d_M_book_57 : decode b_M_book 57 = .ok (.aload_n 0, 1) := by decide +kernel
theorem d_M_book_58 : decode b_M_book 58 = .ok (.getfield 45, 3) := by decide +kernel
theorem d_M_book_61 : decode b_M_book 61 = .ok (.iload_n 2, 1) := by decide +kernel
theorem d_M_book_62 : decode b_M_book 62 = .ok (.iaload, 1) := by decide +kernel
theorem d_M_book_63 : decode b_M_book 63 = .ok (.iastore, 1) := by decide +kernel
theorem d_M_book_64 : decode b_M_book 64 = .ok (.iinc 2 1, 3) := by decide +kernel
theorem d_M_book_67 : decode b_M_book 67 = .ok (.goto (-20), 3) := by decide +kernel
theorem d_M_book_70 : decode b_M_book 70 = .ok (.iconst 0, 1) := by decide +kernel
theorem d_M_book_71 : decode b_M_book 71 = .ok (.istore_n 2, 1) := by decide +kernel
theorem d_M_book_72 : decode b_M_book 72 = .ok (.iload_n 2, 1) := by decide +kernel
theorem d_M_book_73 : decode b_M_book 73 = .ok (.bipush 11, 2) := by decide +kernel
theorem d_M_book_75 : decode b_M_book 75 = .ok (.if_icmp .ge 16, 3) := by decide +kernel
theorem d_M_book_78 : decode b_M_book 78 = .ok (.aload_n 0, 1) := by decide +kernel
theorem d_M_book_79 : decode b_M_book 79 = .ok (.getfield 51, 3) := by decide +kernel
theorem d_M_book_82 : decode b_M_book 82 = .ok (.iload_n 2, 1) := by decide +kernel
theorem d_M_book_83 : decode b_M_book 83 = .ok (.iconst 0, 1) := by decide +kernel
theorem d_M_book_84 : decode b_M_book 84 = .ok (.iastore, 1) := by decide +kernel
theorem d_M_book_85 : decode b_M_book 85 = .ok (.iinc 2 1, 3) := by decide +kernel
theorem d_M_book_88 : decode b_M_book 88 = .ok (.goto (-16), 3) := by decide +kernel
theorem d_M_book_91 : decode b_M_book 91 = .ok (.aload_n 0, 1) := by decide +kernel
theorem d_M_book_92 : decode b_M_book 92 = .ok (.getfield 51, 3) := by decide +kernel
theorem d_M_book_95 : decode b_M_book 95 = .ok (.iconst 0, 1) := by decide +kernel
theorem d_M_book_96 : decode b_M_book 96 = .ok (.iconst 1, 1) := by decide +kernel
theorem d_M_book_97 : decode b_M_book 97 = .ok (.aload_n 0, 1) := by decide +kernel
theorem d_M_book_98 : decode b_M_book 98 = .ok (.getfield 146, 3) := by decide +kernel
theorem d_M_book_101 : decode b_M_book 101 = .ok (.ishl, 1) := by decide +kernel
theorem d_M_book_102 : decode b_M_book 102 = .ok (.iconst 1, 1) := by decide +kernel
theorem d_M_book_103 : decode b_M_book 103 = .ok (.isub, 1) := by decide +kernel
theorem d_M_book_104 : decode b_M_book 104 = .ok (.iastore, 1) := by decide +kernel
theorem d_M_book_105 : decode b_M_book 105 = .ok (.iconst 0, 1) := by decide +kernel
theorem d_M_book_106 : decode b_M_book 106 = .ok (.istore_n 2, 1) := by decide +kernel
theorem d_M_book_107 : decode b_M_book 107 = .ok (.iload_n 2, 1) := by decide +kernel
theorem d_M_book_108 : decode b_M_book 108 = .ok (.aload_n 0, 1) := by decide +kernel
theorem d_M_book_109 : decode b_M_book 109 = .ok (.getfield 146, 3) := by decide +kernel
theorem d_M_book_112 : decode b_M_book 112 = .ok (.if_icmp .ge 73, 3) := by decide +kernel
theorem d_M_book_115 : decode b_M_book 115 = .ok (.aload_n 0, 1) := by decide +kernel
theorem d_M_book_116 : decode b_M_book 116 = .ok (.getfield 36, 3) := by decide +kernel
theorem d_M_book_119 : decode b_M_book 119 = .ok (.iload_n 2, 1) := by decide +kernel
theorem d_M_book_120 : decode b_M_book 120 = .ok (.aload_n 0, 1) := by decide +kernel
theorem d_M_book_121 : decode b_M_book 121 = .ok (.getfield 48, 3) := by decide +kernel
theorem d_M_book_124 : decode b_M_book 124 = .ok (.iconst 4, 1) := by decide +kernel
theorem d_M_book_125 : decode b_M_book 125 = .ok (.iload_n 2, 1) := by decide +kernel
theorem d_M_book_126 : decode b_M_book 126 = .ok (.imul, 1) := by decide +kernel
theorem d_M_book_127 : decode b_M_book 127 = .ok (.iaload, 1) := by decide +kernel
theorem d_M_book_128 : decode b_M_book 128 = .ok (.iastore, 1) := by decide +kernel
theorem d_M_book_129 : decode b_M_book 129 = .ok (.aload_n 0, 1) := by decide +kernel
theorem d_M_book_130 : decode b_M_book 130 = .ok (.getfield 39, 3) := by decide +kernel
theorem d_M_book_133 : decode b_M_book 133 = .ok (.iload_n 2, 1) := by decide +kernel
theorem d_M_book_134 : decode b_M_book 134 = .ok (.aload_n 0, 1) := by decide +kernel
theorem d_M_book_135 : decode b_M_book 135 = .ok (.getfield 48, 3) := by decide +kernel
theorem d_M_book_138 : decode b_M_book 138 = .ok (.iconst 4, 1) := by decide +kernel
theorem d_M_book_139 : decode b_M_book 139 = .ok (.iload_n 2, 1) := by decide +kernel
theorem d_M_book_140 : decode b_M_book 140 = .ok (.imul, 1) := by decide +kernel
theorem d_M_book_141 : decode b_M_book 141 = .ok (.iconst 1, 1) := by decide +kernel
theorem d_M_book_142 : decode b_M_book 142 = .ok (.iadd, 1) := by decide +kernel
theorem d_M_book_143 : decode b_M_book 143 = .ok (.iaload, 1) := by decide +kernel
theorem d_M_book_144 : decode b_M_book 144 = .ok (.iastore, 1) := by decide +kernel
theorem d_M_book_145 : decode b_M_book 145 = .ok (.aload_n 0, 1) := by decide +kernel
theorem d_M_book_146 : decode b_M_book 146 = .ok (.getfield 42, 3) := by decide +kernel
theorem d_M_book_149 : decode b_M_book 149 = .ok (.iload_n 2, 1) := by decide +kernel
theorem d_M_book_150 : decode b_M_book 150 = .ok (.aload_n 0, 1) := by decide +kernel
theorem d_M_book_151 : decode b_M_book 151 = .ok (.getfield 48, 3) := by decide +kernel
theorem d_M_book_154 : decode b_M_book 154 = .ok (.iconst 4, 1) := by decide +kernel
theorem d_M_book_155 : decode b_M_book 155 = .ok (.iload_n 2, 1) := by decide +kernel
theorem d_M_book_156 : decode b_M_book 156 = .ok (.imul, 1) := by decide +kernel
theorem d_M_book_157 : decode b_M_book 157 = .ok (.iconst 2, 1) := by decide +kernel
theorem d_M_book_158 : decode b_M_book 158 = .ok (.iadd, 1) := by decide +kernel
theorem d_M_book_159 : decode b_M_book 159 = .ok (.iaload, 1) := by decide +kernel
theorem d_M_book_160 : decode b_M_book 160 = .ok (.iastore, 1) := by decide +kernel
theorem d_M_book_161 : decode b_M_book 161 = .ok (.aload_n 0, 1) := by decide +kernel
theorem d_M_book_162 : decode b_M_book 162 = .ok (.getfield 51, 3) := by decide +kernel
theorem d_M_book_165 : decode b_M_book 165 = .ok (.iconst 5, 1) := by decide +kernel
theorem d_M_book_166 : decode b_M_book 166 = .ok (.iload_n 2, 1) := by decide +kernel
theorem d_M_book_167 : decode b_M_book 167 = .ok (.iadd, 1) := by decide +kernel
theorem d_M_book_168 : decode b_M_book 168 = .ok (.aload_n 0, 1) := by decide +kernel
theorem d_M_book_169 : decode b_M_book 169 = .ok (.getfield 48, 3) := by decide +kernel
theorem d_M_book_172 : decode b_M_book 172 = .ok (.iconst 4, 1) := by decide +kernel
theorem d_M_book_173 : decode b_M_book 173 = .ok (.iload_n 2, 1) := by decide +kernel
theorem d_M_book_174 : decode b_M_book 174 = .ok (.imul, 1) := by decide +kernel
theorem d_M_book_175 : decode b_M_book 175 = .ok (.iconst 3, 1) := by decide +kernel
theorem d_M_book_176 : decode b_M_book 176 = .ok (.iadd, 1) := by decide +kernel
theorem d_M_book_177 : decode b_M_book 177 = .ok (.iaload, 1) := by decide +kernel
theorem d_M_book_178 : decode b_M_book 178 = .ok (.iastore, 1) := by decide +kernel
theorem d_M_book_179 : decode b_M_book 179 = .ok (.iinc 2 1, 3) := by decide +kernel
theorem d_M_book_182 : decode b_M_book 182 = .ok (.goto (-75), 3) := by decide +kernel
theorem d_M_book_185 : decode b_M_book 185 = .ok (.aload_n 0, 1) := by decide +kernel
theorem d_M_book_186 : decode b_M_book 186 = .ok (.iconst 0, 1) := by decide +kernel
theorem d_M_book_187 : decode b_M_book 187 = .ok (.putfield 149, 3) := by decide +kernel
theorem d_M_book_190 : decode b_M_book 190 = .ok (.iconst 0, 1) := by decide +kernel
theorem d_M_book_191 : decode b_M_book 191 = .ok (.istore_n 2, 1) := by decide +kernel
theorem d_M_book_192 : decode b_M_book 192 = .ok (.iload_n 2, 1) := by decide +kernel
theorem d_M_book_193 : decode b_M_book 193 = .ok (.iconst 3, 1) := by decide +kernel
theorem d_M_book_194 : decode b_M_book 194 = .ok (.if_icmp .ge 16, 3) := by decide +kernel
theorem d_M_book_197 : decode b_M_book 197 = .ok (.aload_n 0, 1) := by decide +kernel
theorem d_M_book_198 : decode b_M_book 198 = .ok (.getfield 60, 3) := by decide +kernel
theorem d_M_book_201 : decode b_M_book 201 = .ok (.iload_n 2, 1) := by decide +kernel
theorem d_M_book_202 : decode b_M_book 202 = .ok (.iconst 0, 1) := by decide +kernel
theorem d_M_book_203 : decode b_M_book 203 = .ok (.bastore, 1) := by decide +kernel
theorem d_M_book_204 : decode b_M_book 204 = .ok (.iinc 2 1, 3) := by decide +kernel
theorem d_M_book_207 : decode b_M_book 207 = .ok (.goto (-15), 3) := by decide +kernel
theorem d_M_book_210 : decode b_M_book 210 = .ok (.aload_n 0, 1) := by decide +kernel
theorem d_M_book_211 : decode b_M_book 211 = .ok (.getfield 146, 3) := by decide +kernel
theorem d_M_book_214 : decode b_M_book 214 = .ok (.ireturn, 1) := by decide +kernel
theorem mo_M_book : mok y_M_book b_M_book 3 (some .int) 1 := ⟨List.mem_of_getElem? (i := 1203) (by decide +kernel), ⟨by decide +kernel, by decide +kernel, by decide +kernel⟩, List.mem_of_getElem? (i := 86) (by decide +kernel), by decide⟩
set_option maxHeartbeats 4000000 in
theorem L_M_book_47 {X : FX} {u : Un} (hA : Ap u) {Q : State → Prop} (F : Fr X u "TakerBookModel" b_M_book 3) {ρ : St} {m : Nat} (k : V X u 4 3 Q 70 [(0, .ref (u.2.1 63)), (2, .int (nI 4))] [] ((cpF (uI ρ 63 10 (nI m)) 70 0 (ρ.1 74) 4))) : ∀ (nn i : Nat), i ≤ 4 → 4 - i < nn → V X u 4 3 Q 47 [(0, .ref (u.2.1 63)), (2, .int (nI i))] [] ((cpF (uI ρ 63 10 (nI m)) 70 0 (ρ.1 74) i)) := by
  intro nn
  induction nn with
  | zero =>
    intro i h1 h2
    exact absurd h2 (Nat.not_lt_zero _)
  | succ nn ih =>
    intro i hii hnn
    refine v_iload_n F d_M_book_47 rfl 1 rfl ?_
    refine v_iconst (v := 4) F d_M_book_48 ki_4 ?_
    refine v_icmp_ge F 70 d_M_book_49 rfl (fun h49 => ?_) (fun h49 => ?_)
    · skip
      have h49 : 4 ≤ i := (nI_leI (a := 4) (b := i) (by omega) (by omega)).mp h49
      have he : i = 4 := by omega
      subst he
      exact k
    · skip
      have h49 : ¬ 4 ≤ i := fun q => h49 ((nI_leI (a := 4) (b := i) (by omega) (by omega)).mpr q)
      refine v_aload_n F d_M_book_52 rfl 0 rfl ?_
      refine v_getr (r := 70) F fk_M_33 G63 rfl d_M_book_53 ?_
      refine v_iload_n F d_M_book_56 rfl 1 rfl ?_
      refine v_aload_n F d_M_book_57 rfl 0 rfl ?_
      refine v_getr (r := 74) F fk_M_45 G63 rfl d_M_book_58 ?_
      refine v_iload_n F d_M_book_61 rfl 1 rfl ?_
      refine v_ial F i G74 rfl (by omega) d_M_book_62 ?_
      refine v_ias F i G70 rfl (by omega) d_M_book_63 ?_
      refine v_ns (fun σ1 eσ1 => ?_)
      refine v_iinc (v := nI (i + 1)) (ls' := [(2, .int (nI (i + 1))), (0, .ref (u.2.1 63))]) F d_M_book_64 (j := 1) rfl (nI_inc _) (by decide) rfl ?_
      refine v_goto F 47 d_M_book_67 rfl ?_
      refine v_sub [1, 0] (ls' := [(0, .ref (u.2.1 63)), (2, .int (nI (i + 1)))]) rfl ?_
      refine v_st (show σ1 = (cpF (uI ρ 63 10 (nI m)) 70 0 (ρ.1 74) (i + 1)) from (by first | rfl | (subst_vars; rfl) | (subst_vars; simp [cpF, cpF_other, uI_o]; done))) ?_
      exact ih (i + 1) (by omega) (by omega)
set_option maxHeartbeats 4000000 in
theorem L_M_book_72 {X : FX} {u : Un} (hA : Ap u) {Q : State → Prop} (F : Fr X u "TakerBookModel" b_M_book 3) {ρ : St} {m : Nat} (k : V X u 4 3 Q 91 [(0, .ref (u.2.1 63)), (2, .int (nI 11))] [] ((fl (bm2 ρ m) 76 0 0 11))) : ∀ (nn i : Nat), i ≤ 11 → 11 - i < nn → V X u 4 3 Q 72 [(0, .ref (u.2.1 63)), (2, .int (nI i))] [] ((fl (bm2 ρ m) 76 0 0 i)) := by
  intro nn
  induction nn with
  | zero =>
    intro i h1 h2
    exact absurd h2 (Nat.not_lt_zero _)
  | succ nn ih =>
    intro i hii hnn
    refine v_iload_n F d_M_book_72 rfl 1 rfl ?_
    refine v_bipush (v := 11) F d_M_book_73 kb_11 ?_
    refine v_icmp_ge F 91 d_M_book_75 rfl (fun h75 => ?_) (fun h75 => ?_)
    · skip
      have h75 : 11 ≤ i := (nI_leI (a := 11) (b := i) (by omega) (by omega)).mp h75
      have he : i = 11 := by omega
      subst he
      exact k
    · skip
      have h75 : ¬ 11 ≤ i := fun q => h75 ((nI_leI (a := 11) (b := i) (by omega) (by omega)).mpr q)
      refine v_aload_n F d_M_book_78 rfl 0 rfl ?_
      refine v_getr (r := 76) F fk_M_51 G63 rfl d_M_book_79 ?_
      refine v_iload_n F d_M_book_82 rfl 1 rfl ?_
      refine v_iconst (v := 0) F d_M_book_83 ki_0 ?_
      refine v_ias F i G76 rfl (by omega) d_M_book_84 ?_
      refine v_ns (fun σ1 eσ1 => ?_)
      refine v_iinc (v := nI (i + 1)) (ls' := [(2, .int (nI (i + 1))), (0, .ref (u.2.1 63))]) F d_M_book_85 (j := 1) rfl (nI_inc _) (by decide) rfl ?_
      refine v_goto F 72 d_M_book_88 rfl ?_
      refine v_sub [1, 0] (ls' := [(0, .ref (u.2.1 63)), (2, .int (nI (i + 1)))]) rfl ?_
      refine v_st (show σ1 = (fl (bm2 ρ m) 76 0 0 (i + 1)) from (by first | rfl | (subst_vars; rfl) | (subst_vars; simp [fl]; done))) ?_
      exact ih (i + 1) (by omega) (by omega)
set_option maxHeartbeats 4000000 in
theorem L_M_book_107 {X : FX} {u : Un} (hA : Ap u) {Q : State → Prop} (F : Fr X u "TakerBookModel" b_M_book 3) {ρ : St} {m : Nat} (hm : m ≤ 6) (k : V X u 4 3 Q 185 [(0, .ref (u.2.1 63)), (2, .int (nI m))] [] ((tlF ρ (bm4 ρ m) m))) : ∀ (nn i : Nat), i ≤ m → m - i < nn → V X u 4 3 Q 107 [(0, .ref (u.2.1 63)), (2, .int (nI i))] [] ((tlF ρ (bm4 ρ m) i)) := by
  intro nn
  induction nn with
  | zero =>
    intro i h1 h2
    exact absurd h2 (Nat.not_lt_zero _)
  | succ nn ih =>
    intro i hii hnn
    refine v_iload_n F d_M_book_107 rfl 1 rfl ?_
    refine v_aload_n F d_M_book_108 rfl 0 rfl ?_
    refine v_geti F fk_M_146 G63 rfl d_M_book_109 ?_
    refine v_te (y := nI m) (by (repeat (first | rw [tlF_o _ _ (by decide)] | rw [fl_o _ _ _ _ (by decide)] | rw [cpF_other _ _ _ _ (by decide)] | rw [uI_o _ _ _ _ (by decide)] | unfold bm4 | unfold bm2)); rw [uI_s]) ?_
    refine v_icmp_ge F 185 d_M_book_112 rfl (fun h112 => ?_) (fun h112 => ?_)
    · skip
      have h112 : m ≤ i := (nI_leI (a := m) (b := i) (by omega) (by omega)).mp h112
      have he : i = m := by omega
      subst he
      exact k
    · skip
      have h112 : ¬ m ≤ i := fun q => h112 ((nI_leI (a := m) (b := i) (by omega) (by omega)).mpr q)
      refine v_aload_n F d_M_book_115 rfl 0 rfl ?_
      refine v_getr (r := 71) F fk_M_36 G63 rfl d_M_book_116 ?_
      refine v_iload_n F d_M_book_119 rfl 1 rfl ?_
      refine v_aload_n F d_M_book_120 rfl 0 rfl ?_
      refine v_getr (r := 75) F fk_M_48 G63 rfl d_M_book_121 ?_
      refine v_iconst (v := 4) F d_M_book_124 ki_4 ?_
      refine v_iload_n F d_M_book_125 rfl 1 rfl ?_
      refine v_imul F d_M_book_126 ?_
      refine v_te (y := nI (4 * i)) (pk_mul _ _) ?_
      refine v_ial F (4 * i) G75 rfl (by omega) d_M_book_127 ?_
      refine v_te (y := ρ.1 75 (4 * i)) (by subst_vars; (repeat (first | rw [tlF_o _ _ (by decide)] | rw [fl_o _ _ _ _ (by decide)] | rw [cpF_other _ _ _ _ (by decide)] | rw [uI_o _ _ _ _ (by decide)] | unfold bm4 | unfold bm2))) ?_
      refine v_ias F i G71 rfl (by omega) d_M_book_128 ?_
      refine v_ns (fun σ1 eσ1 => ?_)
      refine v_aload_n F d_M_book_129 rfl 0 rfl ?_
      refine v_getr (r := 72) F fk_M_39 G63 rfl d_M_book_130 ?_
      refine v_iload_n F d_M_book_133 rfl 1 rfl ?_
      refine v_aload_n F d_M_book_134 rfl 0 rfl ?_
      refine v_getr (r := 75) F fk_M_48 G63 rfl d_M_book_135 ?_
      refine v_iconst (v := 4) F d_M_book_138 ki_4 ?_
      refine v_iload_n F d_M_book_139 rfl 1 rfl ?_
      refine v_imul F d_M_book_140 ?_
      refine v_te (y := nI (4 * i)) (pk_mul _ _) ?_
      refine v_iconst (v := 1) F d_M_book_141 ki_1 ?_
      refine v_iadd F d_M_book_142 ?_
      refine v_te (y := nI (4 * i + 1)) (nI_add _ _) ?_
      refine v_ial F (4 * i + 1) G75 rfl (by omega) d_M_book_143 ?_
      refine v_te (y := ρ.1 75 (4 * i + 1)) (by subst_vars; (repeat (first | rw [tlF_o _ _ (by decide)] | rw [fl_o _ _ _ _ (by decide)] | rw [cpF_other _ _ _ _ (by decide)] | rw [uI_o _ _ _ _ (by decide)] | unfold bm4 | unfold bm2))) ?_
      refine v_ias F i G72 rfl (by omega) d_M_book_144 ?_
      refine v_ns (fun σ2 eσ2 => ?_)
      refine v_aload_n F d_M_book_145 rfl 0 rfl ?_
      refine v_getr (r := 73) F fk_M_42 G63 rfl d_M_book_146 ?_
      refine v_iload_n F d_M_book_149 rfl 1 rfl ?_
      refine v_aload_n F d_M_book_150 rfl 0 rfl ?_
      refine v_getr (r := 75) F fk_M_48 G63 rfl d_M_book_151 ?_
      refine v_iconst (v := 4) F d_M_book_154 ki_4 ?_
      refine v_iload_n F d_M_book_155 rfl 1 rfl ?_
      refine v_imul F d_M_book_156 ?_
      refine v_te (y := nI (4 * i)) (pk_mul _ _) ?_
      refine v_iconst (v := 2) F d_M_book_157 ki_2 ?_
      refine v_iadd F d_M_book_158 ?_
      refine v_te (y := nI (4 * i + 2)) (nI_add _ _) ?_
      refine v_ial F (4 * i + 2) G75 rfl (by omega) d_M_book_159 ?_
      refine v_te (y := ρ.1 75 (4 * i + 2)) (by subst_vars; (repeat (first | rw [tlF_o _ _ (by decide)] | rw [fl_o _ _ _ _ (by decide)] | rw [cpF_other _ _ _ _ (by decide)] | rw [uI_o _ _ _ _ (by decide)] | unfold bm4 | unfold bm2))) ?_
      refine v_ias F i G73 rfl (by omega) d_M_book_160 ?_
      refine v_ns (fun σ3 eσ3 => ?_)
      refine v_aload_n F d_M_book_161 rfl 0 rfl ?_
      refine v_getr (r := 76) F fk_M_51 G63 rfl d_M_book_162 ?_
      refine v_iconst (v := 5) F d_M_book_165 ki_5 ?_
      refine v_iload_n F d_M_book_166 rfl 1 rfl ?_
      refine v_iadd F d_M_book_167 ?_
      refine v_te (y := nI (5 + i)) (nI_add _ _) ?_
      refine v_aload_n F d_M_book_168 rfl 0 rfl ?_
      refine v_getr (r := 75) F fk_M_48 G63 rfl d_M_book_169 ?_
      refine v_iconst (v := 4) F d_M_book_172 ki_4 ?_
      refine v_iload_n F d_M_book_173 rfl 1 rfl ?_
      refine v_imul F d_M_book_174 ?_
      refine v_te (y := nI (4 * i)) (pk_mul _ _) ?_
      refine v_iconst (v := 3) F d_M_book_175 ki_3 ?_
      refine v_iadd F d_M_book_176 ?_
      refine v_te (y := nI (4 * i + 3)) (nI_add _ _) ?_
      refine v_ial F (4 * i + 3) G75 rfl (by omega) d_M_book_177 ?_
      refine v_te (y := ρ.1 75 (4 * i + 3)) (by subst_vars; (repeat (first | rw [tlF_o _ _ (by decide)] | rw [fl_o _ _ _ _ (by decide)] | rw [cpF_other _ _ _ _ (by decide)] | rw [uI_o _ _ _ _ (by decide)] | unfold bm4 | unfold bm2))) ?_
      refine v_ias F (5 + i) G76 rfl (by omega) d_M_book_178 ?_
      refine v_ns (fun σ4 eσ4 => ?_)
      refine v_iinc (v := nI (i + 1)) (ls' := [(2, .int (nI (i + 1))), (0, .ref (u.2.1 63))]) F d_M_book_179 (j := 1) rfl (nI_inc _) (by decide) rfl ?_
      refine v_goto F 107 d_M_book_182 rfl ?_
      refine v_sub [1, 0] (ls' := [(0, .ref (u.2.1 63)), (2, .int (nI (i + 1)))]) rfl ?_
      refine v_st (show σ4 = (tlF ρ (bm4 ρ m) (i + 1)) from (by first | rfl | (subst_vars; rfl))) ?_
      exact ih (i + 1) (by omega) (by omega)
set_option maxHeartbeats 4000000 in
theorem L_M_book_192 {X : FX} {u : Un} (hA : Ap u) {Q : State → Prop} (F : Fr X u "TakerBookModel" b_M_book 3) {ρ : St} {m : Nat} (k : V X u 4 3 Q 210 [(0, .ref (u.2.1 63)), (2, .int (nI 3))] [] ((fl (bm6 ρ m) 79 0 0 3))) : ∀ (nn i : Nat), i ≤ 3 → 3 - i < nn → V X u 4 3 Q 192 [(0, .ref (u.2.1 63)), (2, .int (nI i))] [] ((fl (bm6 ρ m) 79 0 0 i)) := by
  intro nn
  induction nn with
  | zero =>
    intro i h1 h2
    exact absurd h2 (Nat.not_lt_zero _)
  | succ nn ih =>
    intro i hii hnn
    refine v_iload_n F d_M_book_192 rfl 1 rfl ?_
    refine v_iconst (v := 3) F d_M_book_193 ki_3 ?_
    refine v_icmp_ge F 210 d_M_book_194 rfl (fun h194 => ?_) (fun h194 => ?_)
    · skip
      have h194 : 3 ≤ i := (nI_leI (a := 3) (b := i) (by omega) (by omega)).mp h194
      have he : i = 3 := by omega
      subst he
      exact k
    · skip
      have h194 : ¬ 3 ≤ i := fun q => h194 ((nI_leI (a := 3) (b := i) (by omega) (by omega)).mpr q)
      refine v_aload_n F d_M_book_197 rfl 0 rfl ?_
      refine v_getr (r := 79) F fk_M_60 G63 rfl d_M_book_198 ?_
      refine v_iload_n F d_M_book_201 rfl 1 rfl ?_
      refine v_iconst (v := 0) F d_M_book_202 ki_0 ?_
      refine v_zas F i G79 rfl (by omega) d_M_book_203 ?_
      refine v_ns (fun σ1 eσ1 => ?_)
      refine v_iinc (v := nI (i + 1)) (ls' := [(2, .int (nI (i + 1))), (0, .ref (u.2.1 63))]) F d_M_book_204 (j := 1) rfl (nI_inc _) (by decide) rfl ?_
      refine v_goto F 192 d_M_book_207 rfl ?_
      refine v_sub [1, 0] (ls' := [(0, .ref (u.2.1 63)), (2, .int (nI (i + 1)))]) rfl ?_
      refine v_st (show σ1 = (fl (bm6 ρ m) 79 0 0 (i + 1)) from (by first | rfl | (subst_vars; rfl) | (subst_vars; simp [fl, show vp_nar .boolean 0 = 0 from rfl]; done))) ?_
      exact ih (i + 1) (by omega) (by omega)
set_option maxHeartbeats 4000000 in
theorem c_M_book (l : Launch) (u : Un) (hA : Ap u) (σ : St) (x : Int32) (hJ : mTextsOk σ) : MTi l u y_M_book b_M_book 3 .int 4 [.ref (u.2.1 63), .int x] σ (fun ans σ' => ∃ τ, fr σ τ ∧ (ans, σ') = mBook σ τ x ∧ (inR x 4 ∧ 0 ≤ σ.1 68 (ix x) ∧ (rdF (bMf σ (ix x) (szN σ (ix x))) (szN σ (ix x))).1 = -9 → bkD (bMf σ (ix x) (szN σ (ix x))) (szN σ (ix x)) τ)) := by
  refine MT_of hA rfl (by decide) (Nat.le_of_ble_eq_true rfl) (fun X hl F hr => ?_)
  subst hl
  refine v_to (ls' := [(0, .ref (u.2.1 63)), (1, .int x)]) rfl ?_
  refine v_iload_n F d_M_book_0 rfl 1 rfl ?_
  refine v_runi (r_S F (c_M_isText X.2.1 u hA σ x ) mo_M_isText st_M_114 (by decide) rfl (Nat.le_of_ble_eq_true rfl) d_M_book_1) (fun r1 σ2 q3 => ?_)
  obtain ⟨rfl, rfl⟩ := q3
  refine v_bf F 9 d_M_book_4 rfl (fun h4 => ?_) (fun h4 => ?_)
  · skip
    obtain ⟨t, ht, xt, rfl⟩ := inR_nat (N := 4) h4 rfl (by decide)
    refine v_aload_n F d_M_book_9 rfl 0 rfl ?_
    refine v_getr (r := 68) F fk_M_26 G63 rfl d_M_book_10 ?_
    refine v_iload_n F d_M_book_13 rfl 1 rfl ?_
    refine v_ial F t G68 rfl (by omega) d_M_book_14 ?_
    refine v_if_ge F 24 d_M_book_15 rfl (fun h15 => ?_) (fun h15 => ?_)
    · skip
      obtain ⟨N, hN, xN, eN⟩ := nat_of (M := 60) h15 (hJ _ ht) rfl (by decide)
      have eS : szN σ t = N := xN
      refine v_aload_n F d_M_book_24 rfl 0 rfl ?_
      refine v_iload_n F d_M_book_25 rfl 1 rfl ?_
      refine v_runi (r_V F (c_M_faultOf X.2.1 u hA fr.rf (t := t) (N := N) ht hN eN) mo_M_faultOf st_M_143 rc_63 (by decide) rfl (Nat.le_of_ble_eq_true rfl) d_M_book_26) (fun r4 σ5 q6 => ?_)
      obtain ⟨fσ5, rfl, hbk⟩ := q6
      refine v_bipush (v := (-9)) F d_M_book_29 kb_m9 ?_
      refine v_icmp_eq F 37 d_M_book_31 rfl (fun h31 => ?_) (fun h31 => ?_)
      · skip
        have hm6 := (hbk h31).2.1
        refine v_aload_n F d_M_book_37 rfl 0 rfl ?_
        refine v_aload_n F d_M_book_38 rfl 0 rfl ?_
        refine v_geti F fk_M_134 G63 rfl d_M_book_39 ?_
        refine v_te (y := nI (rdF (bMf σ t N) N).2) (hbk h31).1 ?_
        refine v_puti F fk_M_146 pk_M_n G63 rfl d_M_book_42 ?_
        refine v_ns (fun σ7 eσ7 => ?_)
        refine v_iconst (v := 0) F d_M_book_45 ki_0 ?_
        refine v_istore_n (ls' := [(2, .int 0), (0, .ref (u.2.1 63)), (1, .int (nI t))]) F d_M_book_46 rfl (by decide) rfl ?_
        refine v_sub [1, 0] (ls' := [(0, .ref (u.2.1 63)), (2, .int 0)]) rfl ?_
        have g8 : 0 = (nI 0) := (by first | rfl | (subst_vars; rfl) | (subst_vars; simp [cpF, cpF_other, uI_o]; done))
        refine v_to (ls' := [(0, .ref (u.2.1 63)), (2, .int (nI 0))]) (by first | rfl | rw [g8] | simp_all) ?_
        refine v_st (show σ7 = (cpF (uI σ5 63 10 (nI (rdF (bMf σ t N) N).2)) 70 0 (σ5.1 74) (0)) from (by first | rfl | (subst_vars; rfl) | (subst_vars; simp [cpF, cpF_other, uI_o]; done))) ?_
        refine L_M_book_47 hA F  ?_ _ 0 (Nat.zero_le _) (Nat.lt_succ_self _)
        refine v_iconst (v := 0) F d_M_book_70 ki_0 ?_
        refine v_istore_n (ls' := [(2, .int 0), (0, .ref (u.2.1 63))]) F d_M_book_71 rfl (by decide) rfl ?_
        refine v_sub [1, 0] (ls' := [(0, .ref (u.2.1 63)), (2, .int 0)]) rfl ?_
        have g9 : 0 = (nI 0) := (by first | rfl | (subst_vars; rfl) | (subst_vars; simp [fl]; done))
        refine v_to (ls' := [(0, .ref (u.2.1 63)), (2, .int (nI 0))]) (by first | rfl | rw [g9] | simp_all) ?_
        refine v_st (show (cpF (uI σ5 63 10 (nI (rdF (bMf σ t N) N).2)) 70 0 (σ5.1 74) (4)) = (fl (bm2 σ5 (rdF (bMf σ t N) N).2) 76 0 0 (0)) from (by first | rfl | (subst_vars; rfl) | (subst_vars; simp [fl]; done))) ?_
        refine L_M_book_72 hA F  ?_ _ 0 (Nat.zero_le _) (Nat.lt_succ_self _)
        refine v_aload_n F d_M_book_91 rfl 0 rfl ?_
        refine v_getr (r := 76) F fk_M_51 G63 rfl d_M_book_92 ?_
        refine v_iconst (v := 0) F d_M_book_95 ki_0 ?_
        refine v_iconst (v := 1) F d_M_book_96 ki_1 ?_
        refine v_aload_n F d_M_book_97 rfl 0 rfl ?_
        refine v_geti F fk_M_146 G63 rfl d_M_book_98 ?_
        refine v_te (y := nI (rdF (bMf σ t N) N).2) (by subst_vars; (repeat (first | rw [tlF_o _ _ (by decide)] | rw [fl_o _ _ _ _ (by decide)] | rw [cpF_other _ _ _ _ (by decide)] | rw [uI_o _ _ _ _ (by decide)] | rw [uI_n _ _ _ _ (by decide)] | unfold bm6 | unfold bm4 | unfold bm2)); rw [uI_s]) ?_
        refine v_ishl F d_M_book_101 ?_
        refine v_te (y := nI (2 ^ (rdF (bMf σ t N) N).2)) (bit6 _ (by omega)) ?_
        refine v_iconst (v := 1) F d_M_book_102 ki_1 ?_
        refine v_isub F d_M_book_103 ?_
        refine v_te (y := nI (2 ^ (rdF (bMf σ t N) N).2 - 1)) (nI_pred1 (p2_pos _)) ?_
        refine v_ias F 0 G76 rfl (by omega) d_M_book_104 ?_
        refine v_ns (fun σ10 eσ10 => ?_)
        refine v_iconst (v := 0) F d_M_book_105 ki_0 ?_
        refine v_istore_n (ls' := [(2, .int 0), (0, .ref (u.2.1 63))]) F d_M_book_106 rfl (by decide) rfl ?_
        refine v_sub [1, 0] (ls' := [(0, .ref (u.2.1 63)), (2, .int 0)]) rfl ?_
        have g11 : 0 = (nI 0) := (by first | rfl | (subst_vars; rfl))
        refine v_to (ls' := [(0, .ref (u.2.1 63)), (2, .int (nI 0))]) (by first | rfl | rw [g11] | simp_all) ?_
        refine v_st (show σ10 = (tlF σ5 (bm4 σ5 (rdF (bMf σ t N) N).2) (0)) from (by first | rfl | (subst_vars; rfl))) ?_
        refine L_M_book_107 hA F hm6 ?_ _ 0 (Nat.zero_le _) (Nat.lt_succ_self _)
        refine v_aload_n F d_M_book_185 rfl 0 rfl ?_
        refine v_iconst (v := 0) F d_M_book_186 ki_0 ?_
        refine v_puti F fk_M_149 pk_M_deedMany G63 rfl d_M_book_187 ?_
        refine v_ns (fun σ12 eσ12 => ?_)
        refine v_iconst (v := 0) F d_M_book_190 ki_0 ?_
        refine v_istore_n (ls' := [(2, .int 0), (0, .ref (u.2.1 63))]) F d_M_book_191 rfl (by decide) rfl ?_
        refine v_sub [1, 0] (ls' := [(0, .ref (u.2.1 63)), (2, .int 0)]) rfl ?_
        have g13 : 0 = (nI 0) := (by first | rfl | (subst_vars; rfl) | (subst_vars; simp [fl, show vp_nar .boolean 0 = 0 from rfl]; done))
        refine v_to (ls' := [(0, .ref (u.2.1 63)), (2, .int (nI 0))]) (by first | rfl | rw [g13] | simp_all) ?_
        refine v_st (show σ12 = (fl (bm6 σ5 (rdF (bMf σ t N) N).2) 79 0 0 (0)) from (by first | rfl | (subst_vars; rfl) | (subst_vars; simp [fl, show vp_nar .boolean 0 = 0 from rfl]; done))) ?_
        refine L_M_book_192 hA F  ?_ _ 0 (Nat.zero_le _) (Nat.lt_succ_self _)
        refine v_aload_n F d_M_book_210 rfl 0 rfl ?_
        refine v_geti F fk_M_146 G63 rfl d_M_book_211 ?_
        refine v_te (y := nI (rdF (bMf σ t N) N).2) (by subst_vars; (repeat (first | rw [tlF_o _ _ (by decide)] | rw [fl_o _ _ _ _ (by decide)] | rw [cpF_other _ _ _ _ (by decide)] | rw [uI_o _ _ _ _ (by decide)] | rw [uI_n _ _ _ _ (by decide)] | unfold bm6 | unfold bm4 | unfold bm2)); rw [uI_s]) ?_
        refine v_iret F hr rfl d_M_book_214 ?_
        exact ⟨σ5, fσ5, by unfold mBook; rw [if_neg (fun q => q (by assumption)), xt, if_neg (i_nlt.mpr (by assumption)), eS, if_neg (fun q => q (by assumption))]; rfl, fun q => by rw [xt, eS]; exact hbk h31⟩
      · skip
        refine v_bipush (v := (-4)) F d_M_book_34 kb_m4 ?_
        refine v_iret F hr rfl d_M_book_36 ?_
        exact ⟨σ5, fσ5, by unfold mBook; rw [if_neg (fun q => q (by assumption)), xt, if_neg (i_nlt.mpr (by assumption)), eS, if_pos (by assumption)], fun q => by rw [xt, eS]; exact hbk (by have := q.2.2; rw [xt, eS] at this; exact this)⟩
    · skip
      refine v_aload_n F d_M_book_18 rfl 0 rfl ?_
      refine v_iconst (v := 1) F d_M_book_19 ki_1 ?_
      refine v_runi (r_V F (c_M_meets X.2.1 u hA σ 1 (by decide)) mo_M_meets st_M_103 rc_63 (by decide) rfl (Nat.le_of_ble_eq_true rfl) d_M_book_20) (fun r14 σ15 q16 => ?_)
      obtain ⟨rfl, eσ15⟩ := q16
      refine v_iret F hr rfl d_M_book_23 ?_
      exact ⟨σ, fr.rf, by unfold mBook; rw [if_neg (fun q => q (by assumption)), xt, if_pos (i_lt_le.mp (by assumption))]; subst_vars; rfl, fun q => absurd (show 0 ≤ σ.1 68 t by rw [← xt]; exact q.2.1) h15⟩
  · skip
    refine v_iconst (v := (-1)) F d_M_book_7 ki_m1 ?_
    refine v_iret F hr rfl d_M_book_8 ?_
    exact ⟨σ, fr.rf, by unfold mBook; rw [if_pos (by assumption)], fun q => absurd q.1 (by assumption)⟩
