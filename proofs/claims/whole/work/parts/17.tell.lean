theorem ks_200 : (Int16.ofInt 200).toInt32 = (200 : Int32) := by decide
theorem pk_T_upperNumber : pok 0 13 .long := ⟨(R_T, F_T, 15), rfl, rfl, by decide +kernel⟩
theorem pk_T_lowerNumber : pok 0 14 .long := ⟨(R_T, F_T, 15), rfl, rfl, by decide +kernel⟩
abbrev b_T_tellNumbers : ByteArray := prog_1_method_73_code
abbrev y_T_tellNumbers : MethodName := ⟨"TakerBook", "tellNumbers", "(JJ)V"⟩
theorem d_T_tellNumbers_0 : decode b_T_tellNumbers 0 = .ok (.lload_n 1, 1) := by decide +kernel
theorem d_T_tellNumbers_1 : decode b_T_tellNumbers 1 = .ok (.lstore 5, 2) := by decide +kernel
theorem d_T_tellNumbers_3 : decode b_T_tellNumbers 3 = .ok (.lload_n 3, 1) := by decide +kernel
theorem d_T_tellNumbers_4 : decode b_T_tellNumbers 4 = .ok (.lstore 7, 2) := by decide +kernel
theorem d_T_tellNumbers_6 : decode b_T_tellNumbers 6 = .ok (.iconst 0, 1) := by decide +kernel
theorem d_T_tellNumbers_7 : decode b_T_tellNumbers 7 = .ok (.istore 9, 2) := by decide +kernel
theorem d_T_tellNumbers_9 : decode b_T_tellNumbers 9 = .ok (.iload 9, 2) := by decide +kernel
theorem d_T_tellNumbers_11 : decode b_T_tellNumbers 11 = .ok (.sipush 200, 3) := by decide +kernel
theorem d_T_tellNumbers_14 : decode b_T_tellNumbers 14 = .ok (.if_icmp .ge 31, 3) := by decide +kernel
theorem d_T_tellNumbers_17 : decode b_T_tellNumbers 17 = .ok (.lload 7, 2) := by decide +kernel
theorem d_T_tellNumbers_19 : decode b_T_tellNumbers 19 = .ok (.lconst 0, 1) := by decide +kernel
theorem d_T_tellNumbers_20 : decode b_T_tellNumbers 20 = .ok (.lcmp, 1) := by decide +kernel
theorem d_T_tellNumbers_21 : decode b_T_tellNumbers 21 = .ok (.ifCond .eq 24, 3) := by decide +kernel
theorem d_T_tellNumbers_24 : decode b_T_tellNumbers 24 = .ok (.lload 5, 2) := by decide +kernel
theorem d_T_tellNumbers_26 : decode b_T_tellNumbers 26 = .ok (.lload 7, 2) := by decide +kernel
theorem d_T_tellNumbers_28 : decode b_T_tellNumbers 28 = .ok (.lrem, 1) := by decide +kernel
theorem d_T_tellNumbers_29 : decode b_T_tellNumbers 29 = .ok (.lstore 10, 2) := by decide +kernel
theorem d_T_tellNumbers_31 : decode b_T_tellNumbers 31 = .ok (.lload 7, 2) := by decide +kernel
theorem d_T_tellNumbers_33 : decode b_T_tellNumbers 33 = .ok (.lstore 5, 2) := by decide +kernel
theorem d_T_tellNumbers_35 : decode b_T_tellNumbers 35 = .ok (.lload 10, 2) := by decide +kernel
theorem d_T_tellNumbers_37 : decode b_T_tellNumbers 37 = .ok (.lstore 7, 2) := by decide +kernel
theorem d_T_tellNumbers_39 : decode b_T_tellNumbers 39 = .ok (.iinc 9 1, 3) := by decide +kernel
theorem d_T_tellNumbers_42 : decode b_T_tellNumbers 42 = .ok (.goto (-33), 3) := by decide +kernel
theorem d_T_tellNumbers_45 : decode b_T_tellNumbers 45 = .ok (.lload 5, 2) := by decide +kernel
theorem d_T_tellNumbers_47 : decode b_T_tellNumbers 47 = .ok (.lconst 0, 1) := by decide +kernel
theorem d_T_tellNumbers_48 : decode b_T_tellNumbers 48 = .ok (.lcmp, 1) := by decide +kernel
theorem d_T_tellNumbers_49 : decode b_T_tellNumbers 49 = .ok (.ifCond .le 19, 3) := by decide +kernel
theorem d_T_tellNumbers_52 : decode b_T_tellNumbers 52 = .ok (.aload_n 0, 1) := by decide +kernel
theorem d_T_tellNumbers_53 : decode b_T_tellNumbers 53 = .ok (.lload_n 1, 1) := by decide +kernel
theorem d_T_tellNumbers_54 : decode b_T_tellNumbers 54 = .ok (.lload 5, 2) := by decide +kernel
theorem d_T_tellNumbers_56 : decode b_T_tellNumbers 56 = .ok (.ldiv, 1) := by decide +kernel
theorem d_T_tellNumbers_57 : decode b_T_tellNumbers 57 = .ok (.putfield 312, 3) := by decide +kernel
theorem d_T_tellNumbers_60 : decode b_T_tellNumbers 60 = .ok (.aload_n 0, 1) := by decide +kernel
theorem d_T_tellNumbers_61 : decode b_T_tellNumbers 61 = .ok (.lload_n 3, 1) := by decide +kernel
theorem d_T_tellNumbers_62 : decode b_T_tellNumbers 62 = .ok (.lload 5, 2) := by decide +kernel
theorem d_T_tellNumbers_64 : decode b_T_tellNumbers 64 = .ok (.ldiv, 1) := by decide +kernel
theorem d_T_tellNumbers_65 : decode b_T_tellNumbers 65 = .ok (.putfield 68, 3) := by decide +kernel
theorem d_T_tellNumbers_68 : decode b_T_tellNumbers 68 = .ok (.return_, 1) := by decide +kernel
theorem mo_T_tellNumbers : mok y_T_tellNumbers b_T_tellNumbers 12 none 2 := ⟨List.mem_of_getElem? (i := 799) (by decide +kernel), ⟨by decide +kernel, by decide +kernel, by decide +kernel⟩, List.mem_of_getElem? (i := 74) (by decide +kernel), by decide⟩
set_option maxHeartbeats 4000000 in
theorem L_T_tellNumbers_9 {X : FX} {u : Un} (hA : Ap u) {Q : State → Prop} (F : Fr X u "TakerBook" b_T_tellNumbers 12) {σ : St} {a b : Nat} (k0 : ∀ (s : Nat) (x : Nat) (y : Nat), y = 0 → Nat.gcd x y = Nat.gcd a b → V X u 1 12 Q 45 [(0, .ref (u.2.1 0)), (1, .long (lN a)), (3, .long (lN b)), (5, .long (lN x)), (7, .long (lN y))] [] (σ)) : ∀ (nn : Nat) (s : Nat) (x : Nat) (y : Nat), x < 4611686018427387904 → y < 4611686018427387904 → Nat.gcd x y = Nat.gcd a b → eucI s x y → 201 - s < nn → V X u 1 12 Q 9 [(0, .ref (u.2.1 0)), (1, .long (lN a)), (3, .long (lN b)), (5, .long (lN x)), (7, .long (lN y)), (9, .int (nI s))] [] (σ) := by
  intro nn
  induction nn with
  | zero =>
    intro s x y hx hy hg hI h2
    exact absurd h2 (Nat.not_lt_zero _)
  | succ nn ih =>
    intro s x y hx hy hg hI hm
    have hs200 := hI.1
    refine v_iload F d_T_tellNumbers_9 5 rfl ?_
    refine v_sipush (v := 200) F d_T_tellNumbers_11 ks_200 ?_
    refine v_icmp_ge F 45 d_T_tellNumbers_14 rfl (fun h14 => ?_) (fun h14 => ?_)
    · skip
      have h14 : 200 ≤ s := (nI_leI (a := 200) (b := s) (by omega) (by omega)).mp h14
      refine v_sub [0, 1, 2, 3, 4] (ls' := [(0, .ref (u.2.1 0)), (1, .long (lN a)), (3, .long (lN b)), (5, .long (lN x)), (7, .long (lN y))]) rfl ?_
      exact k0 s x y (by first | exact (lg0 (by omega)).mp h21 | exact eucI_end hI (by omega)) hg
    · skip
      have h14 : ¬ 200 ≤ s := fun q => h14 ((nI_leI (a := 200) (b := s) (by omega) (by omega)).mpr q)
      have h14 : s < 200 := by omega
      refine v_lload F d_T_tellNumbers_17 4 rfl ?_
      refine v_lconst (v := 0) F d_T_tellNumbers_19 rfl ?_
      refine v_lcmp F d_T_tellNumbers_20 ?_
      refine v_if_eq F 45 d_T_tellNumbers_21 rfl (fun h21 => ?_) (fun h21 => ?_)
      · skip
        refine v_sub [0, 1, 2, 3, 4] (ls' := [(0, .ref (u.2.1 0)), (1, .long (lN a)), (3, .long (lN b)), (5, .long (lN x)), (7, .long (lN y))]) rfl ?_
        exact k0 s x y (by first | exact (lg0 (by omega)).mp h21 | exact eucI_end hI (by omega)) hg
      · skip
        have hy0 : 0 < y := Nat.pos_of_ne_zero (fun q => h21 ((lg0 (by omega)).mpr q))
        refine v_lload F d_T_tellNumbers_24 3 rfl ?_
        refine v_lload F d_T_tellNumbers_26 4 rfl ?_
        refine v_lrem F d_T_tellNumbers_28 (lne0 hy hy0) ?_
        refine v_tl (y := (lN (x % y))) (lrem_N hx hy hy0) ?_
        refine v_lstore (ls' := [(10, .long (lN (x % y))), (0, .ref (u.2.1 0)), (1, .long (lN a)), (3, .long (lN b)), (5, .long (lN x)), (7, .long (lN y)), (9, .int (nI s))]) F d_T_tellNumbers_29 (by decide) rfl ?_
        refine v_lload F d_T_tellNumbers_31 5 rfl ?_
        refine v_lstore (ls' := [(5, .long (lN y)), (10, .long (lN (x % y))), (0, .ref (u.2.1 0)), (1, .long (lN a)), (3, .long (lN b)), (7, .long (lN y)), (9, .int (nI s))]) F d_T_tellNumbers_33 (by decide) rfl ?_
        refine v_lload F d_T_tellNumbers_35 1 rfl ?_
        refine v_lstore (ls' := [(7, .long (lN (x % y))), (5, .long (lN y)), (10, .long (lN (x % y))), (0, .ref (u.2.1 0)), (1, .long (lN a)), (3, .long (lN b)), (9, .int (nI s))]) F d_T_tellNumbers_37 (by decide) rfl ?_
        refine v_iinc (v := nI (s + 1)) (ls' := [(9, .int (nI (s + 1))), (7, .long (lN (x % y))), (5, .long (lN y)), (10, .long (lN (x % y))), (0, .ref (u.2.1 0)), (1, .long (lN a)), (3, .long (lN b))]) F d_T_tellNumbers_39 (j := 6) rfl (nI_inc _) (by decide) rfl ?_
        refine v_goto F 9 d_T_tellNumbers_42 rfl ?_
        refine v_sub [4, 5, 6, 2, 1, 0] (ls' := [(0, .ref (u.2.1 0)), (1, .long (lN a)), (3, .long (lN b)), (5, .long (lN y)), (7, .long (lN (x % y))), (9, .int (nI (s + 1)))]) rfl ?_
        exact ih (s + 1) (y) (x % y) hy (Nat.lt_of_lt_of_le (Nat.mod_lt x hy0) (Nat.le_of_lt hy)) (gcd_step hg hy0) (eucI_next hI h14 hy0) (by have := hI.1; omega)
set_option maxHeartbeats 4000000 in
theorem c_T_tellNumbers (l : Launch) (u : Un) (hA : Ap u) (σ : St) (a b : Nat) (ha : a < 4611686018427387904) (hb : b < 4611686018427387904) (hb0 : 0 < b) : MTv l u y_T_tellNumbers b_T_tellNumbers 12 1 [.ref (u.2.1 0), .long (lN a), .long (lN b)] σ (fun σ' => σ' = uL (uL σ 0 13 (lN (a / Nat.gcd a b))) 0 14 (lN (b / Nat.gcd a b))) := by
  refine MT_of hA rfl (by decide) (Nat.le_of_ble_eq_true rfl) (fun X hl F hr => ?_)
  subst hl
  refine v_to (ls' := [(0, .ref (u.2.1 0)), (1, .long (lN a)), (3, .long (lN b))]) rfl ?_
  refine v_lload_n F d_T_tellNumbers_0 rfl 1 rfl ?_
  refine v_lstore (ls' := [(5, .long (lN a)), (0, .ref (u.2.1 0)), (1, .long (lN a)), (3, .long (lN b))]) F d_T_tellNumbers_1 (by decide) rfl ?_
  refine v_lload_n F d_T_tellNumbers_3 rfl 3 rfl ?_
  refine v_lstore (ls' := [(7, .long (lN b)), (5, .long (lN a)), (0, .ref (u.2.1 0)), (1, .long (lN a)), (3, .long (lN b))]) F d_T_tellNumbers_4 (by decide) rfl ?_
  refine v_iconst (v := 0) F d_T_tellNumbers_6 ki_0 ?_
  refine v_istore (ls' := [(9, .int 0), (7, .long (lN b)), (5, .long (lN a)), (0, .ref (u.2.1 0)), (1, .long (lN a)), (3, .long (lN b))]) F d_T_tellNumbers_7 (by decide) rfl ?_
  refine v_sub [3, 4, 5, 2, 1, 0] (ls' := [(0, .ref (u.2.1 0)), (1, .long (lN a)), (3, .long (lN b)), (5, .long (lN a)), (7, .long (lN b)), (9, .int 0)]) rfl ?_
  have g1 : 0 = (nI 0) := (by first | rfl | (simp_all; done) | grind)
  refine v_to (ls' := [(0, .ref (u.2.1 0)), (1, .long (lN a)), (3, .long (lN b)), (5, .long (lN a)), (7, .long (lN b)), (9, .int (nI 0))]) (by first | rfl | rw [g1] | simp_all) ?_
  refine L_T_tellNumbers_9 (a := a) (b := b) hA F (fun s x y hy0 hg => ?_) _ 0 a b ha hb rfl (eucI_0 ha hb) (Nat.lt_succ_self _)
  subst hy0
  obtain rfl := gcd_le0 hg
  refine v_lload F d_T_tellNumbers_45 3 rfl ?_
  refine v_lconst (v := 0) F d_T_tellNumbers_47 rfl ?_
  refine v_lcmp F d_T_tellNumbers_48 ?_
  refine v_if_le F 68 d_T_tellNumbers_49 rfl (fun h49 => ?_) (fun h49 => ?_)
  · exact absurd h49 (lgle (gcd_lt hb hb0) (gcd_p hb0))
  · skip
    refine v_aload_n F d_T_tellNumbers_52 rfl 0 rfl ?_
    refine v_lload_n F d_T_tellNumbers_53 rfl 1 rfl ?_
    refine v_lload F d_T_tellNumbers_54 3 rfl ?_
    refine v_ldiv F d_T_tellNumbers_56 (lne0 (gcd_lt hb hb0) (gcd_p hb0)) ?_
    refine v_tl (y := (lN (a / Nat.gcd a b))) (ldiv_N ha (gcd_lt hb hb0) (gcd_p hb0)) ?_
    refine v_putl F fk_T_312 pk_T_upperNumber G0 rfl d_T_tellNumbers_57 ?_
    refine v_ns (fun σ2 eσ2 => ?_)
    refine v_aload_n F d_T_tellNumbers_60 rfl 0 rfl ?_
    refine v_lload_n F d_T_tellNumbers_61 rfl 2 rfl ?_
    refine v_lload F d_T_tellNumbers_62 3 rfl ?_
    refine v_ldiv F d_T_tellNumbers_64 (lne0 (gcd_lt hb hb0) (gcd_p hb0)) ?_
    refine v_tl (y := (lN (b / Nat.gcd a b))) (ldiv_N hb (gcd_lt hb hb0) (gcd_p hb0)) ?_
    refine v_putl F fk_T_68 pk_T_lowerNumber G0 rfl d_T_tellNumbers_65 ?_
    refine v_ns (fun σ3 eσ3 => ?_)
    refine v_vret F hr d_T_tellNumbers_68 ?_
    simp [*]
