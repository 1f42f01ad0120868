theorem pk_M_upper : pok 12 3 .long := ⟨(R_M, F_M, 40), rfl, rfl, by decide +kernel⟩
theorem pk_M_lower : pok 12 4 .long := ⟨(R_M, F_M, 40), rfl, rfl, by decide +kernel⟩
theorem fk_M_23 : fok "TakerBookModel" 23 12 7 := ⟨(R_M, F_M, 40), rfl, by decide, List.mem_of_getElem? (i := 986) (by decide +kernel), rfl⟩
theorem G67 : Gam[67]? = some (.inl (.int, 40)) := rfl
abbrev b_T_findings : ByteArray := prog_1_method_44_code
abbrev y_T_findings : MethodName := ⟨"TakerBook", "findings", "(I)I"⟩
theorem d_T_findings_0 : decode b_T_findings 0 = .ok (.iload_n 1, 1) := by decide +kernel
theorem d_T_findings_1 : decode b_T_findings 1 = .ok (.iconst 1, 1) := by decide +kernel
theorem d_T_findings_2 : decode b_T_findings 2 = .ok (.if_icmp .lt 8, 3) := by decide +kernel
theorem d_T_findings_5 : decode b_T_findings 5 = .ok (.iload_n 1, 1) := by decide +kernel
theorem d_T_findings_6 : decode b_T_findings 6 = .ok (.iconst 5, 1) := by decide +kernel
theorem d_T_findings_7 : decode b_T_findings 7 = .ok (.if_icmp .le 7, 3) := by decide +kernel
theorem d_T_findings_10 : decode b_T_findings 10 = .ok (.iconst (-1), 1) := by decide +kernel
theorem d_T_findings_11 : decode b_T_findings 11 = .ok (.goto 9, 3) := by decide +kernel
theorem d_T_findings_14 : decode b_T_findings 14 = .ok (.aload_n 0, 1) := by decide +kernel
theorem d_T_findings_15 : decode b_T_findings 15 = .ok (.getfield 65, 3) := by decide +kernel
theorem d_T_findings_18 : decode b_T_findings 18 = .ok (.iload_n 1, 1) := by decide +kernel
theorem d_T_findings_19 : decode b_T_findings 19 = .ok (.iaload, 1) := by decide +kernel
theorem d_T_findings_20 : decode b_T_findings 20 = .ok (.ireturn, 1) := by decide +kernel
theorem mo_T_findings : mok y_T_findings b_T_findings 2 (some .int) 1 := ⟨List.mem_of_getElem? (i := 965) (by decide +kernel), ⟨by decide +kernel, by decide +kernel, by decide +kernel⟩, List.mem_of_getElem? (i := 74) (by decide +kernel), by decide⟩
set_option maxHeartbeats 4000000 in
theorem c_T_findings (l : Launch) (u : Un) (hA : Ap u) (σ : St) (f : Int32) : MTi l u y_T_findings b_T_findings 2 .int 1 [.ref (u.2.1 0), .int f] σ (fun ans σ' => (if 1 ≤ f ∧ f ≤ 5 then σ.1 62 (ix f) else -1) = ans ∧ σ = σ') := by
  refine MT_of hA rfl (by decide) (Nat.le_of_ble_eq_true rfl) (fun X hl F hr => ?_)
  subst hl
  refine v_to (ls' := [(0, .ref (u.2.1 0)), (1, .int f)]) rfl ?_
  refine v_iload_n F d_T_findings_0 rfl 1 rfl ?_
  refine v_iconst (v := 1) F d_T_findings_1 ki_1 ?_
  refine v_icmp_lt F 10 d_T_findings_2 rfl (fun h2 => ?_) (fun h2 => ?_)
  · skip
    refine v_iconst (v := (-1)) F d_T_findings_10 ki_m1 ?_
    refine v_goto F 20 d_T_findings_11 rfl ?_
    refine v_iret F hr rfl d_T_findings_20 ?_
    exact ⟨by first | (simp_all; done) | grind, rfl⟩
  · skip
    refine v_iload_n F d_T_findings_5 rfl 1 rfl ?_
    refine v_iconst (v := 5) F d_T_findings_6 ki_5 ?_
    refine v_icmp_le F 14 d_T_findings_7 rfl (fun h7 => ?_) (fun h7 => ?_)
    · skip
      refine v_aload_n F d_T_findings_14 rfl 0 rfl ?_
      refine v_getr (r := 62) F fk_T_65 G0 rfl d_T_findings_15 ?_
      refine v_iload_n F d_T_findings_18 rfl 1 rfl ?_
      refine v_ial F (ix f) G62 (ix_eq (le_trans1 h2)) (lt6 h2 h7) d_T_findings_19 ?_
      refine v_iret F hr rfl d_T_findings_20 ?_
      exact ⟨by first | (simp_all; done) | grind, rfl⟩
    · skip
      refine v_iconst (v := (-1)) F d_T_findings_10 ki_m1 ?_
      refine v_goto F 20 d_T_findings_11 rfl ?_
      refine v_iret F hr rfl d_T_findings_20 ?_
      exact ⟨by first | (simp_all; done) | grind, rfl⟩
abbrev b_M_findings : ByteArray := prog_14_method_7_code
abbrev y_M_findings : MethodName := ⟨"TakerBookModel", "findings", "(I)I"⟩
theorem d_M_findings_0 : decode b_M_findings 0 = .ok (.iload_n 1, 1) := by decide +kernel
theorem d_M_findings_1 : decode b_M_findings 1 = .ok (.iconst 1, 1) := by decide +kernel
theorem d_M_findings_2 : decode b_M_findings 2 = .ok (.iconst 5, 1) := by decide +kernel
theorem d_M_findings_3 : decode b_M_findings 3 = .ok (.invokestatic 89, 3) := by decide +kernel
theorem d_M_findings_6 : decode b_M_findings 6 = .ok (.ifCond .eq 12, 3) := by decide +kernel
theorem d_M_findings_9 : decode b_M_findings 9 = .ok (.aload_n 0, 1) := by decide +kernel
theorem d_M_findings_10 : decode b_M_findings 10 = .ok (.getfield 7, 3) := by decide +kernel
theorem d_M_findings_13 : decode b_M_findings 13 = .ok (.iload_n 1, 1) := by decide +kernel
theorem d_M_findings_14 : decode b_M_findings 14 = .ok (.iaload, 1) := by decide +kernel
theorem d_M_findings_15 : decode b_M_findings 15 = .ok (.goto 4, 3) := by decide +kernel
theorem d_M_findings_18 : decode b_M_findings 18 = .ok (.iconst (-1), 1) := by decide +kernel
theorem d_M_findings_19 : decode b_M_findings 19 = .ok (.ireturn, 1) := by decide +kernel
theorem mo_M_findings : mok y_M_findings b_M_findings 2 (some .int) 1 := ⟨List.mem_of_getElem? (i := 1107) (by decide +kernel), ⟨by decide +kernel, by decide +kernel, by decide +kernel⟩, List.mem_of_getElem? (i := 86) (by decide +kernel), by decide⟩
set_option maxHeartbeats 4000000 in
theorem c_M_findings (l : Launch) (u : Un) (hA : Ap u) (σ : St) (f : Int32) : MTi l u y_M_findings b_M_findings 2 .int 1 [.ref (u.2.1 63), .int f] σ (fun ans σ' => (if 1 ≤ f ∧ f ≤ 5 then σ.1 64 (ix f) else -1) = ans ∧ σ = σ') := by
  refine MT_of hA rfl (by decide) (Nat.le_of_ble_eq_true rfl) (fun X hl F hr => ?_)
  subst hl
  refine v_to (ls' := [(0, .ref (u.2.1 63)), (1, .int f)]) rfl ?_
  refine v_iload_n F d_M_findings_0 rfl 1 rfl ?_
  refine v_iconst (v := 1) F d_M_findings_1 ki_1 ?_
  refine v_iconst (v := 5) F d_M_findings_2 ki_5 ?_
  refine v_runi (r_S F (c_M_in X.2.1 u hA σ f 1 5 ) mo_M_in st_M_89 (by decide) rfl (Nat.le_of_ble_eq_true rfl) d_M_findings_3) (fun r1 σ2 q3 => ?_)
  obtain ⟨rfl, rfl⟩ := q3
  refine v_bt F 18 d_M_findings_6 rfl (fun h6 => ?_) (fun h6 => ?_)
  · skip
    refine v_iconst (v := (-1)) F d_M_findings_18 ki_m1 ?_
    refine v_iret F hr rfl d_M_findings_19 ?_
    exact ⟨by first | (simp_all; done) | grind, rfl⟩
  · skip
    refine v_aload_n F d_M_findings_9 rfl 0 rfl ?_
    refine v_getr (r := 64) F fk_M_7 G63 rfl d_M_findings_10 ?_
    refine v_iload_n F d_M_findings_13 rfl 1 rfl ?_
    refine v_ial F (ix f) G64 (ix_eq (le_trans1 (i_nlt.mpr h6.1))) (lt6 (i_nlt.mpr h6.1) h6.2) d_M_findings_14 ?_
    refine v_goto F 19 d_M_findings_15 rfl ?_
    refine v_iret F hr rfl d_M_findings_19 ?_
    exact ⟨by first | (simp_all; done) | grind, rfl⟩
abbrev b_M_fraction : ByteArray := prog_14_method_10_code
abbrev y_M_fraction : MethodName := ⟨"TakerBookModel", "fraction", "(JJ)I"⟩
theorem d_M_fraction_0 : decode b_M_fraction 0 = .ok (.lload_n 1, 1) := by decide +kernel
theorem d_M_fraction_1 : decode b_M_fraction 1 = .ok (.lstore 5, 2) := by decide +kernel
theorem d_M_fraction_3 : decode b_M_fraction 3 = .ok (.lload_n 3, 1) := by decide +kernel
theorem d_M_fraction_4 : decode b_M_fraction 4 = .ok (.lstore 7, 2) := by decide +kernel
theorem d_M_fraction_6 : decode b_M_fraction 6 = .ok (.lload 7, 2) := by decide +kernel
theorem d_M_fraction_8 : decode b_M_fraction 8 = .ok (.lconst 0, 1) := by decide +kernel
theorem d_M_fraction_9 : decode b_M_fraction 9 = .ok (.lcmp, 1) := by decide +kernel
theorem d_M_fraction_10 : decode b_M_fraction 10 = .ok (.ifCond .eq 21, 3) := by decide +kernel
theorem d_M_fraction_13 : decode b_M_fraction 13 = .ok (.lload 5, 2) := by decide +kernel
theorem d_M_fraction_15 : decode b_M_fraction 15 = .ok (.lload 7, 2) := by decide +kernel
theorem d_M_fraction_17 : decode b_M_fraction 17 = .ok (.lrem, 1) := by decide +kernel
theorem d_M_fraction_18 : decode b_M_fraction 18 = .ok (.lstore 9, 2) := by decide +kernel
theorem d_M_fraction_20 : decode b_M_fraction 20 = .ok (.lload 7, 2) := by decide +kernel
theorem d_M_fraction_22 : decode b_M_fraction 22 = .ok (.lstore 5, 2) := by decide +kernel
theorem d_M_fraction_24 : decode b_M_fraction 24 = .ok (.lload 9, 2) := by decide +kernel
theorem d_M_fraction_26 : decode b_M_fraction 26 = .ok (.lstore 7, 2) := by decide +kernel
theorem d_M_fraction_28 : decode b_M_fraction 28 = .ok (.goto (-22), 3) := by decide +kernel
theorem d_M_fraction_31 : decode b_M_fraction 31 = .ok (.aload_n 0, 1) := by decide +kernel
theorem d_M_fraction_32 : decode b_M_fraction 32 = .ok (.lload_n 1, 1) := by decide +kernel
theorem d_M_fraction_33 : decode b_M_fraction 33 = .ok (.lload 5, 2) := by decide +kernel
theorem d_M_fraction_35 : decode b_M_fraction 35 = .ok (.ldiv, 1) := by decide +kernel
theorem d_M_fraction_36 : decode b_M_fraction 36 = .ok (.putfield 96, 3) := by decide +kernel
theorem d_M_fraction_39 : decode b_M_fraction 39 = .ok (.aload_n 0, 1) := by decide +kernel
theorem d_M_fraction_40 : decode b_M_fraction 40 = .ok (.lload_n 3, 1) := by decide +kernel
theorem d_M_fraction_41 : decode b_M_fraction 41 = .ok (.lload 5, 2) := by decide +kernel
theorem d_M_fraction_43 : decode b_M_fraction 43 = .ok (.ldiv, 1) := by decide +kernel
theorem d_M_fraction_44 : decode b_M_fraction 44 = .ok (.putfield 13, 3) := by decide +kernel
theorem d_M_fraction_47 : decode b_M_fraction 47 = .ok (.iconst 1, 1) := by decide +kernel
theorem d_M_fraction_48 : decode b_M_fraction 48 = .ok (.ireturn, 1) := by decide +kernel
theorem mo_M_fraction : mok y_M_fraction b_M_fraction 11 (some .int) 2 := ⟨List.mem_of_getElem? (i := 1377) (by decide +kernel), ⟨by decide +kernel, by decide +kernel, by decide +kernel⟩, List.mem_of_getElem? (i := 86) (by decide +kernel), by decide⟩
set_option maxHeartbeats 4000000 in
theorem L_M_fraction_6 {X : FX} {u : Un} (hA : Ap u) {Q : State → Prop} (F : Fr X u "TakerBookModel" b_M_fraction 11) {σ : St} {a b : Nat} (k0 : ∀ (x : Nat) (y : Nat), y = 0 → Nat.gcd x y = Nat.gcd a b → V X u 0 11 Q 31 [(0, .ref (u.2.1 63)), (1, .long (lN a)), (3, .long (lN b)), (5, .long (lN x)), (7, .long (lN y))] [] (σ)) : ∀ (nn : Nat) (x : Nat) (y : Nat), x < 4611686018427387904 → y < 4611686018427387904 → Nat.gcd x y = Nat.gcd a b → y < nn → V X u 0 11 Q 6 [(0, .ref (u.2.1 63)), (1, .long (lN a)), (3, .long (lN b)), (5, .long (lN x)), (7, .long (lN y))] [] (σ) := by
  intro nn
  induction nn with
  | zero =>
    intro x y hx hy hg h2
    exact absurd h2 (Nat.not_lt_zero _)
  | succ nn ih =>
    intro x y hx hy hg hm
    refine v_lload F d_M_fraction_6 4 rfl ?_
    refine v_lconst (v := 0) F d_M_fraction_8 rfl ?_
    refine v_lcmp F d_M_fraction_9 ?_
    refine v_if_eq F 31 d_M_fraction_10 rfl (fun h10 => ?_) (fun h10 => ?_)
    · skip
      exact k0 x y ((lg0 (by omega)).mp h10) hg
    · skip
      have hy0 : 0 < y := Nat.pos_of_ne_zero (fun q => h10 ((lg0 (by omega)).mpr q))
      refine v_lload F d_M_fraction_13 3 rfl ?_
      refine v_lload F d_M_fraction_15 4 rfl ?_
      refine v_lrem F d_M_fraction_17 (lne0 hy hy0) ?_
      refine v_tl (y := (lN (x % y))) (lrem_N hx hy hy0) ?_
      refine v_lstore (ls' := [(9, .long (lN (x % y))), (0, .ref (u.2.1 63)), (1, .long (lN a)), (3, .long (lN b)), (5, .long (lN x)), (7, .long (lN y))]) F d_M_fraction_18 (by decide) rfl ?_
      refine v_lload F d_M_fraction_20 5 rfl ?_
      refine v_lstore (ls' := [(5, .long (lN y)), (9, .long (lN (x % y))), (0, .ref (u.2.1 63)), (1, .long (lN a)), (3, .long (lN b)), (7, .long (lN y))]) F d_M_fraction_22 (by decide) rfl ?_
      refine v_lload F d_M_fraction_24 1 rfl ?_
      refine v_lstore (ls' := [(7, .long (lN (x % y))), (5, .long (lN y)), (9, .long (lN (x % y))), (0, .ref (u.2.1 63)), (1, .long (lN a)), (3, .long (lN b))]) F d_M_fraction_26 (by decide) rfl ?_
      refine v_goto F 6 d_M_fraction_28 rfl ?_
      refine v_sub [3, 4, 5, 1, 0] (ls' := [(0, .ref (u.2.1 63)), (1, .long (lN a)), (3, .long (lN b)), (5, .long (lN y)), (7, .long (lN (x % y)))]) rfl ?_
      exact ih (y) (x % y) hy (Nat.lt_of_lt_of_le (Nat.mod_lt x hy0) (Nat.le_of_lt hy)) (gcd_step hg hy0) (by have := Nat.mod_lt x hy0; omega)
set_option maxHeartbeats 4000000 in
theorem c_M_fraction (l : Launch) (u : Un) (hA : Ap u) (σ : St) (a b : Nat) (ha : a < 4611686018427387904) (hb : b < 4611686018427387904) (hb0 : 0 < b) : MTi l u y_M_fraction b_M_fraction 11 .int 0 [.ref (u.2.1 63), .long (lN a), .long (lN b)] σ (fun ans σ' => 1 = ans ∧ σ' = uL (uL σ 63 3 (lN (a / Nat.gcd a b))) 63 4 (lN (b / Nat.gcd a b))) := by
  refine MT_of hA rfl (by decide) (Nat.le_of_ble_eq_true rfl) (fun X hl F hr => ?_)
  subst hl
  refine v_to (ls' := [(0, .ref (u.2.1 63)), (1, .long (lN a)), (3, .long (lN b))]) rfl ?_
  refine v_lload_n F d_M_fraction_0 rfl 1 rfl ?_
  refine v_lstore (ls' := [(5, .long (lN a)), (0, .ref (u.2.1 63)), (1, .long (lN a)), (3, .long (lN b))]) F d_M_fraction_1 (by decide) rfl ?_
  refine v_lload_n F d_M_fraction_3 rfl 3 rfl ?_
  refine v_lstore (ls' := [(7, .long (lN b)), (5, .long (lN a)), (0, .ref (u.2.1 63)), (1, .long (lN a)), (3, .long (lN b))]) F d_M_fraction_4 (by decide) rfl ?_
  refine v_sub [2, 3, 4, 1, 0] (ls' := [(0, .ref (u.2.1 63)), (1, .long (lN a)), (3, .long (lN b)), (5, .long (lN a)), (7, .long (lN b))]) rfl ?_
  refine L_M_fraction_6 (a := a) (b := b) hA F (fun x y hy0 hg => ?_) _ a b ha hb rfl (Nat.lt_succ_self _)
  subst hy0
  obtain rfl := gcd_le0 hg
  refine v_aload_n F d_M_fraction_31 rfl 0 rfl ?_
  refine v_lload_n F d_M_fraction_32 rfl 1 rfl ?_
  refine v_lload F d_M_fraction_33 3 rfl ?_
  refine v_ldiv F d_M_fraction_35 (lne0 (gcd_lt hb hb0) (gcd_p hb0)) ?_
  refine v_tl (y := (lN (a / Nat.gcd a b))) (ldiv_N ha (gcd_lt hb hb0) (gcd_p hb0)) ?_
  refine v_putl F fk_M_96 pk_M_upper G63 rfl d_M_fraction_36 ?_
  refine v_ns (fun σ1 eσ1 => ?_)
  refine v_aload_n F d_M_fraction_39 rfl 0 rfl ?_
  refine v_lload_n F d_M_fraction_40 rfl 2 rfl ?_
  refine v_lload F d_M_fraction_41 3 rfl ?_
  refine v_ldiv F d_M_fraction_43 (lne0 (gcd_lt hb hb0) (gcd_p hb0)) ?_
  refine v_tl (y := (lN (b / Nat.gcd a b))) (ldiv_N hb (gcd_lt hb hb0) (gcd_p hb0)) ?_
  refine v_putl F fk_M_13 pk_M_lower G63 rfl d_M_fraction_44 ?_
  refine v_ns (fun σ2 eσ2 => ?_)
  refine v_iconst (v := 1) F d_M_fraction_47 ki_1 ?_
  refine v_iret F hr rfl d_M_fraction_48 ?_
  exact ⟨rfl, by simp [*]⟩
abbrev b_M_copy : ByteArray := prog_14_method_19_code
abbrev y_M_copy : MethodName := ⟨"TakerBookModel", "copy", "(IIIII)I"⟩
theorem d_M_copy_0 : decode b_M_copy 0 = .ok (.iload_n 1, 1) := by decide +kernel
theorem d_M_copy_1 : decode b_M_copy 1 = .ok (.invokestatic 99, 3) := by decide +kernel
theorem d_M_copy_4 : decode b_M_copy 4 = .ok (.ifCond .eq 10, 3) := by decide +kernel
theorem d_M_copy_7 : decode b_M_copy 7 = .ok (.iload_n 3, 1) := by decide +kernel
theorem d_M_copy_8 : decode b_M_copy 8 = .ok (.invokestatic 99, 3) := by decide +kernel
theorem d_M_copy_11 : decode b_M_copy 11 = .ok (.ifCond .ne 5, 3) := by decide +kernel
theorem d_M_copy_14 : decode b_M_copy 14 = .ok (.iconst (-1), 1) := by decide +kernel
theorem d_M_copy_15 : decode b_M_copy 15 = .ok (.ireturn, 1) := by decide +kernel
theorem d_M_copy_16 : decode b_M_copy 16 = .ok (.iload 5, 2) := by decide +kernel
theorem d_M_copy_18 : decode b_M_copy 18 = .ok (.ifCond .ge 9, 3) := by decide +kernel
theorem d_M_copy_21 : decode b_M_copy 21 = .ok (.aload_n 0, 1) := by decide +kernel
theorem d_M_copy_22 : decode b_M_copy 22 = .ok (.iconst 5, 1) := by decide +kernel
theorem d_M_copy_23 : decode b_M_copy 23 = .ok (.invokevirtual 103, 3) := by decide +kernel
theorem d_M_copy_26 : decode b_M_copy 26 = .ok (.ireturn, 1) := by decide +kernel
theorem d_M_copy_27 : decode b_M_copy 27 = .ok (.aload_n 0, 1) := by decide +kernel
theorem d_M_copy_28 : decode b_M_copy 28 = .ok (.getfield 17, 3) := by decide +kernel
theorem d_M_copy_31 : decode b_M_copy 31 = .ok (.iload_n 1, 1) := by decide +kernel
theorem d_M_copy_32 : decode b_M_copy 32 = .ok (.iaload, 1) := by decide +kernel
theorem d_M_copy_33 : decode b_M_copy 33 = .ok (.ifCond .lt 12, 3) := by decide +kernel
theorem d_M_copy_36 : decode b_M_copy 36 = .ok (.aload_n 0, 1) := by decide +kernel
theorem d_M_copy_37 : decode b_M_copy 37 = .ok (.getfield 17, 3) := by decide +kernel
theorem d_M_copy_40 : decode b_M_copy 40 = .ok (.iload_n 3, 1) := by decide +kernel
theorem d_M_copy_41 : decode b_M_copy 41 = .ok (.iaload, 1) := by decide +kernel
theorem d_M_copy_42 : decode b_M_copy 42 = .ok (.ifCond .ge 9, 3) := by decide +kernel
theorem d_M_copy_45 : decode b_M_copy 45 = .ok (.aload_n 0, 1) := by decide +kernel
theorem d_M_copy_46 : decode b_M_copy 46 = .ok (.iconst 1, 1) := by decide +kernel
theorem d_M_copy_47 : decode b_M_copy 47 = .ok (.invokevirtual 103, 3) := by decide +kernel
theorem d_M_copy_50 : decode b_M_copy 50 = .ok (.ireturn, 1) := by decide +kernel
theorem d_M_copy_51 : decode b_M_copy 51 = .ok (.iload_n 2, 1) := by decide +kernel
theorem d_M_copy_52 : decode b_M_copy 52 = .ok (.ifCond .lt 43, 3) := by decide +kernel
theorem d_M_copy_55 : decode b_M_copy 55 = .ok (.iload 4, 2) := by decide +kernel
theorem d_M_copy_57 : decode b_M_copy 57 = .ok (.ifCond .lt 38, 3) := by decide +kernel
theorem d_M_copy_60 : decode b_M_copy 60 = .ok (.iload_n 2, 1) := by decide +kernel
theorem d_M_copy_61 : decode b_M_copy 61 = .ok (.i2l, 1) := by decide +kernel
theorem d_M_copy_62 : decode b_M_copy 62 = .ok (.iload 5, 2) := by decide +kernel
theorem d_M_copy_64 : decode b_M_copy 64 = .ok (.i2l, 1) := by decide +kernel
theorem d_M_copy_65 : decode b_M_copy 65 = .ok (.ladd, 1) := by decide +kernel
theorem d_M_copy_66 : decode b_M_copy 66 = .ok (.aload_n 0, 1) := by decide +kernel
theorem d_M_copy_67 : decode b_M_copy 67 = .ok (.getfield 17, 3) := by decide +kernel
theorem d_M_copy_70 : decode b_M_copy 70 = .ok (.iload_n 1, 1) := by decide +kernel
theorem d_M_copy_71 : decode b_M_copy 71 = .ok (.iaload, 1) := by decide +kernel
theorem d_M_copy_72 : decode b_M_copy 72 = .ok (.i2l, 1) := by decide +kernel
theorem d_M_copy_73 : decode b_M_copy 73 = .ok (.lcmp, 1) := by decide +kernel
theorem d_M_copy_74 : decode b_M_copy 74 = .ok (.ifCond .gt 21, 3) := by decide +kernel
theorem d_M_copy_77 : decode b_M_copy 77 = .ok (.iload 4, 2) := by decide +kernel
theorem d_M_copy_79 : decode b_M_copy 79 = .ok (.i2l, 1) := by decide +kernel
theorem d_M_copy_80 : decode b_M_copy 80 = .ok (.iload 5, 2) := by decide +kernel
theorem d_M_copy_82 : decode b_M_copy 82 = .ok (.i2l, 1) := by decide +kernel
theorem d_M_copy_83 : decode b_M_copy 83 = .ok (.ladd, 1) := by decide +kernel
theorem d_M_copy_84 : decode b_M_copy 84 = .ok (.aload_n 0, 1) := by decide +kernel
theorem d_M_copy_85 : decode b_M_copy 85 = .ok (.getfield 17, 3) := by decide +kernel
theorem d_M_copy_88 : decode b_M_copy 88 = .ok (.iload_n 3, 1) := by decide +kernel
theorem d_M_copy_89 : decode b_M_copy 89 = .ok (.iaload, 1) := by decide +kernel
theorem d_M_copy_90 : decode b_M_copy 90 = .ok (.i2l, 1) := by decide +kernel
theorem d_M_copy_91 : decode b_M_copy 91 = .ok (.lcmp, 1) := by decide +kernel
theorem d_M_copy_92 : decode b_M_copy 92 = .ok (.ifCond .le 9, 3) := by decide +kernel
theorem d_M_copy_95 : decode b_M_copy 95 = .ok (.aload_n 0, 1) := by decide +kernel
theorem d_M_copy_96 : decode b_M_copy 96 = .ok (.iconst 2, 1) := by decide +kernel
theorem d_M_copy_97 : decode b_M_copy 97 = .ok (.invokevirtual 103, 3) := by decide +kernel
theorem d_M_copy_100 : decode b_M_copy 100 = .ok (.ireturn, 1) := by decide +kernel
theorem d_M_copy_101 : decode b_M_copy 101 = .ok (.iconst 0, 1) := by decide +kernel
theorem d_M_copy_102 : decode b_M_copy 102 = .ok (.istore 6, 2) := by decide +kernel
theorem d_M_copy_104 : decode b_M_copy 104 = .ok (.iload 6, 2) := by decide +kernel
theorem d_M_copy_106 : decode b_M_copy 106 = .ok (.iload 5, 2) := by decide +kernel
theorem d_M_copy_108 : decode b_M_copy 108 = .ok (.if_icmp .ge 25, 3) := by decide +kernel
theorem d_M_copy_111 : decode b_M_copy 111 = .ok (.aload_n 0, 1) := by decide +kernel
theorem d_M_copy_112 : decode b_M_copy 112 = .ok (.getfield 23, 3) := by decide +kernel
theorem d_M_copy_115 : decode b_M_copy 115 = .ok (.iload 6, 2) := by decide +kernel
theorem d_M_copy_117 : decode b_M_copy 117 = .ok (.aload_n 0, 1) := by decide +kernel
theorem d_M_copy_118 : decode b_M_copy 118 = .ok (.iload_n 1, 1) := by decide +kernel
theorem d_M_copy_119 : decode b_M_copy 119 = .ok (.iload_n 2, 1) := by decide +kernel
theorem d_M_copy_120 : decode b_M_copy 120 = .ok (.iload 6, 2) := by decide +kernel
theorem d_M_copy_122 : decode b_M_copy 122 = .ok (.iadd, 1) := by decide +kernel
theorem d_M_copy_123 : decode b_M_copy 123 = .ok (.invokevirtual 107, 3) := by decide +kernel
theorem d_M_copy_126 : decode b_M_copy 126 = .ok (.iastore, 1) := by decide +kernel
theorem d_M_copy_127 : decode b_M_copy 127 = .ok (.iinc 6 1, 3) := by decide +kernel
theorem d_M_copy_130 : decode b_M_copy 130 = .ok (.goto (-26), 3) := by decide +kernel
theorem d_M_copy_133 : decode b_M_copy 133 = .ok (.iconst 0, 1) := by decide +kernel
theorem d_M_copy_134 : decode b_M_copy 134 = .ok (.istore 6, 2) := by decide +kernel
theorem d_M_copy_136 : decode b_M_copy 136 = .ok (.iload 6, 2) := by decide +kernel
theorem d_M_copy_138 : decode b_M_copy 138 = .ok (.iload 5, 2) := by decide +kernel
theorem d_M_copy_140 : decode b_M_copy 140 = .ok (.if_icmp .ge 31, 3) := by decide +kernel
theorem d_M_copy_143 : decode b_M_copy 143 = .ok (.aload_n 0, 1) := by decide +kernel
theorem d_M_copy_144 : decode b_M_copy 144 = .ok (.getfield 20, 3) := by decide +kernel
theorem d_M_copy_147 : decode b_M_copy 147 = .ok (.bipush 40, 2) := by decide +kernel
theorem d_M_copy_149 : decode b_M_copy 149 = .ok (.iload_n 3, 1) := by decide +kernel
theorem d_M_copy_150 : decode b_M_copy 150 = .ok (.imul, 1) := by decide +kernel
theorem d_M_copy_151 : decode b_M_copy 151 = .ok (.iload 4, 2) := by decide +kernel
theorem d_M_copy_153 : decode b_M_copy 153 = .ok (.iadd, 1) := by decide +kernel
theorem d_M_copy_154 : decode b_M_copy 154 = .ok (.iload 6, 2) := by decide +kernel
theorem d_M_copy_156 : decode b_M_copy 156 = .ok (.iadd, 1) := by decide +kernel
theorem d_M_copy_157 : decode b_M_copy 157 = .ok (.aload_n 0, 1) := by decide +kernel
theorem d_M_copy_158 : decode b_M_copy 158 = .ok (.getfield 23, 3) := by decide +kernel
theorem d_M_copy_161 : decode b_M_copy 161 = .ok (.iload 6, 2) := by decide +kernel
theorem d_M_copy_163 : decode b_M_copy 163 = .ok (.iaload, 1) := by decide +kernel
theorem d_M_copy_164 : decode b_M_copy 164 = .ok (.iastore, 1) := by decide +kernel
theorem d_M_copy_165 : decode b_M_copy 165 = .ok (.iinc 6 1, 3) := by decide +kernel
theorem d_M_copy_168 : decode b_M_copy 168 = .ok (.goto (-32), 3) := by decide +kernel
theorem d_M_copy_171 : decode b_M_copy 171 = .ok (.iconst 1, 1) := by decide +kernel
theorem d_M_copy_172 : decode b_M_copy 172 = .ok (.ireturn, 1) := by decide +kernel
theorem mo_M_copy : mok y_M_copy b_M_copy 7 (some .int) 5 := ⟨List.mem_of_getElem? (i := 1157) (by decide +kernel), ⟨by decide +kernel, by decide +kernel, by decide +kernel⟩, List.mem_of_getElem? (i := 86) (by decide +kernel), by decide⟩
set_option maxHeartbeats 4000000 in
theorem L_M_copy_104 {X : FX} {u : Un} (hA : Ap u) {Q : State → Prop} (F : Fr X u "TakerBookModel" b_M_copy 7) {σ : St} {a b c e N : Nat} (ha : a < 6) (hb : b + N ≤ 40) (k : V X u 2 7 Q 133 [(0, .ref (u.2.1 63)), (1, .int (nI a)), (2, .int (nI b)), (3, .int (nI c)), (4, .int (nI e)), (5, .int (nI N)), (6, .int (nI N))] [] ((cpF σ 67 0 (fun k => σ.1 66 (40 * a + (b + k))) N))) : ∀ (nn i : Nat), i ≤ N → N - i < nn → V X u 2 7 Q 104 [(0, .ref (u.2.1 63)), (1, .int (nI a)), (2, .int (nI b)), (3, .int (nI c)), (4, .int (nI e)), (5, .int (nI N)), (6, .int (nI i))] [] ((cpF σ 67 0 (fun k => σ.1 66 (40 * a + (b + k))) i)) := by
  intro nn
  induction nn with
  | zero =>
    intro i h1 h2
    exact absurd h2 (Nat.not_lt_zero _)
  | succ nn ih =>
    intro i hii hnn
    refine v_iload F d_M_copy_104 6 rfl ?_
    refine v_iload F d_M_copy_106 5 rfl ?_
    refine v_icmp_ge F 133 d_M_copy_108 rfl (fun h108 => ?_) (fun h108 => ?_)
    · skip
      have h108 : N ≤ i := (nI_leI (a := N) (b := i) (by omega) (by omega)).mp h108
      have he : i = N := by omega
      subst he
      exact k
    · skip
      have h108 : ¬ N ≤ i := fun q => h108 ((nI_leI (a := N) (b := i) (by omega) (by omega)).mpr q)
      refine v_aload_n F d_M_copy_111 rfl 0 rfl ?_
      refine v_getr (r := 67) F fk_M_23 G63 rfl d_M_copy_112 ?_
      refine v_iload F d_M_copy_115 6 rfl ?_
      refine v_aload_n F d_M_copy_117 rfl 0 rfl ?_
      refine v_iload_n F d_M_copy_118 rfl 1 rfl ?_
      refine v_iload_n F d_M_copy_119 rfl 2 rfl ?_
      refine v_iload F d_M_copy_120 6 rfl ?_
      refine v_iadd F d_M_copy_122 ?_
      refine v_te (y := nI (b + i)) (nI_add _ _) ?_
      refine v_runi (r_V F (c_M_rowAt X.2.1 u hA (cpF σ 67 0 (fun k => σ.1 66 (40 * a + (b + k))) i) a (b + i) (by omega)) mo_M_rowAt st_M_107 rc_63 (by decide) rfl (Nat.le_of_ble_eq_true rfl) d_M_copy_123) (fun r1 σ2 q3 => ?_)
      obtain ⟨rfl, rfl⟩ := q3
      refine v_ias F i G67 rfl (by omega) d_M_copy_126 ?_
      refine v_ns (fun σ4 eσ4 => ?_)
      refine v_iinc (v := nI (i + 1)) (ls' := [(6, .int (nI (i + 1))), (0, .ref (u.2.1 63)), (1, .int (nI a)), (2, .int (nI b)), (3, .int (nI c)), (4, .int (nI e)), (5, .int (nI N))]) F d_M_copy_127 (j := 6) rfl (nI_inc _) (by decide) rfl ?_
      refine v_goto F 104 d_M_copy_130 rfl ?_
      refine v_sub [1, 2, 3, 4, 5, 6, 0] (ls' := [(0, .ref (u.2.1 63)), (1, .int (nI a)), (2, .int (nI b)), (3, .int (nI c)), (4, .int (nI e)), (5, .int (nI N)), (6, .int (nI (i + 1)))]) rfl ?_
      refine v_st (show σ4 = (cpF σ 67 0 (fun k => σ.1 66 (40 * a + (b + k))) (i + 1)) from (by first | rfl | (simp [cpF, cpF_other, *]; done) | (simp_all [cpF, cpF_other]; done) | grind [cpF, cpF_other])) ?_
      exact ih (i + 1) (by omega) (by omega)
set_option maxHeartbeats 4000000 in
theorem L_M_copy_136 {X : FX} {u : Un} (hA : Ap u) {Q : State → Prop} (F : Fr X u "TakerBookModel" b_M_copy 7) {σ : St} {a b c e N : Nat} (hc : c < 6) (he1 : e + N ≤ 40) (k : V X u 2 7 Q 171 [(0, .ref (u.2.1 63)), (1, .int (nI a)), (2, .int (nI b)), (3, .int (nI c)), (4, .int (nI e)), (5, .int (nI N)), (6, .int (nI N))] [] ((cpF σ 66 (40 * c + e) (fun k => σ.1 67 k) N))) : ∀ (nn i : Nat), i ≤ N → N - i < nn → V X u 2 7 Q 136 [(0, .ref (u.2.1 63)), (1, .int (nI a)), (2, .int (nI b)), (3, .int (nI c)), (4, .int (nI e)), (5, .int (nI N)), (6, .int (nI i))] [] ((cpF σ 66 (40 * c + e) (fun k => σ.1 67 k) i)) := by
  intro nn
  induction nn with
  | zero =>
    intro i h1 h2
    exact absurd h2 (Nat.not_lt_zero _)
  | succ nn ih =>
    intro i hii hnn
    refine v_iload F d_M_copy_136 6 rfl ?_
    refine v_iload F d_M_copy_138 5 rfl ?_
    refine v_icmp_ge F 171 d_M_copy_140 rfl (fun h140 => ?_) (fun h140 => ?_)
    · skip
      have h140 : N ≤ i := (nI_leI (a := N) (b := i) (by omega) (by omega)).mp h140
      have he : i = N := by omega
      subst he
      exact k
    · skip
      have h140 : ¬ N ≤ i := fun q => h140 ((nI_leI (a := N) (b := i) (by omega) (by omega)).mpr q)
      refine v_aload_n F d_M_copy_143 rfl 0 rfl ?_
      refine v_getr (r := 66) F fk_M_20 G63 rfl d_M_copy_144 ?_
      refine v_bipush (v := 40) F d_M_copy_147 kb_40 ?_
      refine v_iload_n F d_M_copy_149 rfl 3 rfl ?_
      refine v_imul F d_M_copy_150 ?_
      refine v_te (y := nI (40 * c)) (pk_mul _ _) ?_
      refine v_iload F d_M_copy_151 4 rfl ?_
      refine v_iadd F d_M_copy_153 ?_
      refine v_te (y := nI (40 * c + e)) (nI_add _ _) ?_
      refine v_iload F d_M_copy_154 6 rfl ?_
      refine v_iadd F d_M_copy_156 ?_
      refine v_te (y := nI (40 * c + e + i)) (nI_add _ _) ?_
      refine v_aload_n F d_M_copy_157 rfl 0 rfl ?_
      refine v_getr (r := 67) F fk_M_23 G63 rfl d_M_copy_158 ?_
      refine v_iload F d_M_copy_161 6 rfl ?_
      refine v_ial F i G67 rfl (by omega) d_M_copy_163 ?_
      refine v_ias F (40 * c + e + i) G66 rfl (by omega) d_M_copy_164 ?_
      refine v_ns (fun σ1 eσ1 => ?_)
      refine v_iinc (v := nI (i + 1)) (ls' := [(6, .int (nI (i + 1))), (0, .ref (u.2.1 63)), (1, .int (nI a)), (2, .int (nI b)), (3, .int (nI c)), (4, .int (nI e)), (5, .int (nI N))]) F d_M_copy_165 (j := 6) rfl (nI_inc _) (by decide) rfl ?_
      refine v_goto F 136 d_M_copy_168 rfl ?_
      refine v_sub [1, 2, 3, 4, 5, 6, 0] (ls' := [(0, .ref (u.2.1 63)), (1, .int (nI a)), (2, .int (nI b)), (3, .int (nI c)), (4, .int (nI e)), (5, .int (nI N)), (6, .int (nI (i + 1)))]) rfl ?_
      refine v_st (show σ1 = (cpF σ 66 (40 * c + e) (fun k => σ.1 67 k) (i + 1)) from (by first | rfl | (simp [cpF, cpF_other, *]; done) | (simp_all [cpF, cpF_other]; done) | grind [cpF, cpF_other])) ?_
      exact ih (i + 1) (by omega) (by omega)
set_option maxHeartbeats 4000000 in
theorem c_M_copy (l : Launch) (u : Un) (hA : Ap u) (σ : St) (r i to j n : Int32) (hI : mRowsOk σ) : MTi l u y_M_copy b_M_copy 7 .int 2 [.ref (u.2.1 63), .int r, .int i, .int to, .int j, .int n] σ (fun ans σ' => (ans, σ') = mCopy σ r i to j n) := by
  refine MT_of hA rfl (by decide) (Nat.le_of_ble_eq_true rfl) (fun X hl F hr => ?_)
  subst hl
  refine v_to (ls' := [(0, .ref (u.2.1 63)), (1, .int r), (2, .int i), (3, .int to), (4, .int j), (5, .int n)]) rfl ?_
  refine v_iload_n F d_M_copy_0 rfl 1 rfl ?_
  refine v_runi (r_S F (c_M_isRow X.2.1 u hA σ r ) mo_M_isRow st_M_99 (by decide) rfl (Nat.le_of_ble_eq_true rfl) d_M_copy_1) (fun r1 σ2 q3 => ?_)
  obtain ⟨rfl, rfl⟩ := q3
  refine v_bt F 14 d_M_copy_4 rfl (fun h4 => ?_) (fun h4 => ?_)
  · skip
    refine v_iconst (v := (-1)) F d_M_copy_14 ki_m1 ?_
    refine v_iret F hr rfl d_M_copy_15 ?_
    first | (simp_all [mCopy, inR]; done) | grind [mCopy]
  · skip
    obtain ⟨a, ha, xa, rfl⟩ := inR_nat (N := 6) h4 rfl (by decide)
    refine v_iload_n F d_M_copy_7 rfl 3 rfl ?_
    refine v_runi (r_S F (c_M_isRow X.2.1 u hA σ to ) mo_M_isRow st_M_99 (by decide) rfl (Nat.le_of_ble_eq_true rfl) d_M_copy_8) (fun r4 σ5 q6 => ?_)
    obtain ⟨rfl, rfl⟩ := q6
    refine v_bf F 16 d_M_copy_11 rfl (fun h11 => ?_) (fun h11 => ?_)
    · skip
      obtain ⟨c, hc, xc, rfl⟩ := inR_nat (N := 6) h11 rfl (by decide)
      refine v_iload F d_M_copy_16 5 rfl ?_
      refine v_if_ge F 27 d_M_copy_18 rfl (fun h18 => ?_) (fun h18 => ?_)
      · skip
        refine v_aload_n F d_M_copy_27 rfl 0 rfl ?_
        refine v_getr (r := 65) F fk_M_17 G63 rfl d_M_copy_28 ?_
        refine v_iload_n F d_M_copy_31 rfl 1 rfl ?_
        refine v_ial F a G65 rfl (by omega) d_M_copy_32 ?_
        refine v_if_lt F 45 d_M_copy_33 rfl (fun h33 => ?_) (fun h33 => ?_)
        · skip
          refine v_aload_n F d_M_copy_45 rfl 0 rfl ?_
          refine v_iconst (v := 1) F d_M_copy_46 ki_1 ?_
          refine v_runi (r_V F (c_M_meets X.2.1 u hA σ 1 (by decide)) mo_M_meets st_M_103 rc_63 (by decide) rfl (Nat.le_of_ble_eq_true rfl) d_M_copy_47) (fun r7 σ8 q9 => ?_)
          obtain ⟨rfl, eσ8⟩ := q9
          refine v_iret F hr rfl d_M_copy_50 ?_
          first | (simp_all [mCopy, inR]; done) | grind [mCopy]
        · skip
          refine v_aload_n F d_M_copy_36 rfl 0 rfl ?_
          refine v_getr (r := 65) F fk_M_17 G63 rfl d_M_copy_37 ?_
          refine v_iload_n F d_M_copy_40 rfl 3 rfl ?_
          refine v_ial F c G65 rfl (by omega) d_M_copy_41 ?_
          refine v_if_ge F 51 d_M_copy_42 rfl (fun h42 => ?_) (fun h42 => ?_)
          · skip
            refine v_iload_n F d_M_copy_51 rfl 2 rfl ?_
            refine v_if_lt F 95 d_M_copy_52 rfl (fun h52 => ?_) (fun h52 => ?_)
            · skip
              refine v_aload_n F d_M_copy_95 rfl 0 rfl ?_
              refine v_iconst (v := 2) F d_M_copy_96 ki_2 ?_
              refine v_runi (r_V F (c_M_meets X.2.1 u hA σ 2 (by decide)) mo_M_meets st_M_103 rc_63 (by decide) rfl (Nat.le_of_ble_eq_true rfl) d_M_copy_97) (fun r10 σ11 q12 => ?_)
              obtain ⟨rfl, eσ11⟩ := q12
              refine v_iret F hr rfl d_M_copy_100 ?_
              first | (simp_all [mCopy, inR]; done) | grind [mCopy]
            · skip
              refine v_iload F d_M_copy_55 4 rfl ?_
              refine v_if_lt F 95 d_M_copy_57 rfl (fun h57 => ?_) (fun h57 => ?_)
              · skip
                refine v_aload_n F d_M_copy_95 rfl 0 rfl ?_
                refine v_iconst (v := 2) F d_M_copy_96 ki_2 ?_
                refine v_runi (r_V F (c_M_meets X.2.1 u hA σ 2 (by decide)) mo_M_meets st_M_103 rc_63 (by decide) rfl (Nat.le_of_ble_eq_true rfl) d_M_copy_97) (fun r13 σ14 q15 => ?_)
                obtain ⟨rfl, eσ14⟩ := q15
                refine v_iret F hr rfl d_M_copy_100 ?_
                first | (simp_all [mCopy, inR]; done) | grind [mCopy]
              · skip
                refine v_iload_n F d_M_copy_60 rfl 2 rfl ?_
                refine v_i2l F d_M_copy_61 ?_
                refine v_iload F d_M_copy_62 5 rfl ?_
                refine v_i2l F d_M_copy_64 ?_
                refine v_ladd F d_M_copy_65 ?_
                refine v_aload_n F d_M_copy_66 rfl 0 rfl ?_
                refine v_getr (r := 65) F fk_M_17 G63 rfl d_M_copy_67 ?_
                refine v_iload_n F d_M_copy_70 rfl 1 rfl ?_
                refine v_ial F a G65 rfl (by omega) d_M_copy_71 ?_
                refine v_i2l F d_M_copy_72 ?_
                refine v_lcmp F d_M_copy_73 ?_
                refine v_if_gt F 95 d_M_copy_74 rfl (fun h74 => ?_) (fun h74 => ?_)
                · skip
                  refine v_aload_n F d_M_copy_95 rfl 0 rfl ?_
                  refine v_iconst (v := 2) F d_M_copy_96 ki_2 ?_
                  refine v_runi (r_V F (c_M_meets X.2.1 u hA σ 2 (by decide)) mo_M_meets st_M_103 rc_63 (by decide) rfl (Nat.le_of_ble_eq_true rfl) d_M_copy_97) (fun r16 σ17 q18 => ?_)
                  obtain ⟨rfl, eσ17⟩ := q18
                  refine v_iret F hr rfl d_M_copy_100 ?_
                  first | (simp_all [mCopy, inR]; done) | grind [mCopy]
                · skip
                  refine v_iload F d_M_copy_77 4 rfl ?_
                  refine v_i2l F d_M_copy_79 ?_
                  refine v_iload F d_M_copy_80 5 rfl ?_
                  refine v_i2l F d_M_copy_82 ?_
                  refine v_ladd F d_M_copy_83 ?_
                  refine v_aload_n F d_M_copy_84 rfl 0 rfl ?_
                  refine v_getr (r := 65) F fk_M_17 G63 rfl d_M_copy_85 ?_
                  refine v_iload_n F d_M_copy_88 rfl 3 rfl ?_
                  refine v_ial F c G65 rfl (by omega) d_M_copy_89 ?_
                  refine v_i2l F d_M_copy_90 ?_
                  refine v_lcmp F d_M_copy_91 ?_
                  refine v_if_le F 101 d_M_copy_92 rfl (fun h92 => ?_) (fun h92 => ?_)
                  · skip
                    obtain ⟨b, N, hb, xb, xN, rfl, rfl⟩ := lc_nat (i_nlt.mp h52) h18 (i_nlt.mp h33) (hI _ ha) h74
                    obtain ⟨e, N2, he, xe, xN2, rfl, q2⟩ := lc_nat (i_nlt.mp h57) h18 h42 (hI _ hc) (nlt_of_le h92)
                    obtain rfl : N = N2 := by rw [← xN, ← xN2]
                    refine v_iconst (v := 0) F d_M_copy_101 ki_0 ?_
                    refine v_istore (ls' := [(6, .int 0), (0, .ref (u.2.1 63)), (1, .int (nI a)), (2, .int (nI b)), (3, .int (nI c)), (4, .int (nI e)), (5, .int (nI N))]) F d_M_copy_102 (by decide) rfl ?_
                    refine v_sub [1, 2, 3, 4, 5, 6, 0] (ls' := [(0, .ref (u.2.1 63)), (1, .int (nI a)), (2, .int (nI b)), (3, .int (nI c)), (4, .int (nI e)), (5, .int (nI N)), (6, .int 0)]) rfl ?_
                    have g19 : 0 = (nI 0) := (by first | rfl | (simp [cpF, cpF_other, *]; done) | (simp_all [cpF, cpF_other]; done) | grind [cpF, cpF_other])
                    refine v_to (ls' := [(0, .ref (u.2.1 63)), (1, .int (nI a)), (2, .int (nI b)), (3, .int (nI c)), (4, .int (nI e)), (5, .int (nI N)), (6, .int (nI 0))]) (by first | rfl | rw [g19] | simp_all) ?_
                    refine v_st (show σ = (cpF σ 67 0 (fun k => σ.1 66 (40 * a + (b + k))) 0) from (by first | rfl | (simp [cpF, cpF_other, *]; done) | (simp_all [cpF, cpF_other]; done) | grind [cpF, cpF_other])) ?_
                    refine L_M_copy_104 hA F ha (by omega) ?_ _ 0 (Nat.zero_le _) (Nat.lt_succ_self _)
                    refine v_iconst (v := 0) F d_M_copy_133 ki_0 ?_
                    refine v_istore (ls' := [(6, .int 0), (0, .ref (u.2.1 63)), (1, .int (nI a)), (2, .int (nI b)), (3, .int (nI c)), (4, .int (nI e)), (5, .int (nI N))]) F d_M_copy_134 (by decide) rfl ?_
                    refine v_ns (fun σc eσc => ?_)
                    refine v_sub [1, 2, 3, 4, 5, 6, 0] (ls' := [(0, .ref (u.2.1 63)), (1, .int (nI a)), (2, .int (nI b)), (3, .int (nI c)), (4, .int (nI e)), (5, .int (nI N)), (6, .int 0)]) rfl ?_
                    have g20 : 0 = (nI 0) := (by first | rfl | (simp [cpF, *]; done) | (simp_all [cpF]; done) | grind [cpF])
                    refine v_to (ls' := [(0, .ref (u.2.1 63)), (1, .int (nI a)), (2, .int (nI b)), (3, .int (nI c)), (4, .int (nI e)), (5, .int (nI N)), (6, .int (nI 0))]) (by first | rfl | rw [g20] | simp_all) ?_
                    refine v_st (show σc = (cpF σc 66 (40 * c + e) (fun k => σc.1 67 k) 0) from (by first | rfl | (simp [cpF, *]; done) | (simp_all [cpF]; done) | grind [cpF])) ?_
                    refine L_M_copy_136 hA F hc (by omega) ?_ _ 0 (Nat.zero_le _) (Nat.lt_succ_self _)
                    refine v_iconst (v := 1) F d_M_copy_171 ki_1 ?_
                    refine v_iret F hr rfl d_M_copy_172 ?_
                    first | (simp_all [mCopy, inR]; done) | grind [mCopy]
                  · skip
                    refine v_aload_n F d_M_copy_95 rfl 0 rfl ?_
                    refine v_iconst (v := 2) F d_M_copy_96 ki_2 ?_
                    refine v_runi (r_V F (c_M_meets X.2.1 u hA σ 2 (by decide)) mo_M_meets st_M_103 rc_63 (by decide) rfl (Nat.le_of_ble_eq_true rfl) d_M_copy_97) (fun r21 σ22 q23 => ?_)
                    obtain ⟨rfl, eσ22⟩ := q23
                    refine v_iret F hr rfl d_M_copy_100 ?_
                    first | (simp_all [mCopy, inR]; done) | grind [mCopy]
          · skip
            refine v_aload_n F d_M_copy_45 rfl 0 rfl ?_
            refine v_iconst (v := 1) F d_M_copy_46 ki_1 ?_
            refine v_runi (r_V F (c_M_meets X.2.1 u hA σ 1 (by decide)) mo_M_meets st_M_103 rc_63 (by decide) rfl (Nat.le_of_ble_eq_true rfl) d_M_copy_47) (fun r24 σ25 q26 => ?_)
            obtain ⟨rfl, eσ25⟩ := q26
            refine v_iret F hr rfl d_M_copy_50 ?_
            first | (simp_all [mCopy, inR]; done) | grind [mCopy]
      · skip
        refine v_aload_n F d_M_copy_21 rfl 0 rfl ?_
        refine v_iconst (v := 5) F d_M_copy_22 ki_5 ?_
        refine v_runi (r_V F (c_M_meets X.2.1 u hA σ 5 (by decide)) mo_M_meets st_M_103 rc_63 (by decide) rfl (Nat.le_of_ble_eq_true rfl) d_M_copy_23) (fun r27 σ28 q29 => ?_)
        obtain ⟨rfl, eσ28⟩ := q29
        refine v_iret F hr rfl d_M_copy_26 ?_
        first | (simp_all [mCopy, inR]; done) | grind [mCopy]
    · skip
      refine v_iconst (v := (-1)) F d_M_copy_14 ki_m1 ?_
      refine v_iret F hr rfl d_M_copy_15 ?_
      first | (simp_all [mCopy, inR]; done) | grind [mCopy]
