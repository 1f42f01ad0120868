theorem fk_M_79 : fok "TakerBookModel" 79 12 35 := ⟨(R_M, F_M, 40), rfl, by decide, List.mem_of_getElem? (i := 1014) (by decide +kernel), rfl⟩
theorem G85 : Gam[85]? = some (.inl (.int, 729)) := rfl
theorem fk_M_82 : fok "TakerBookModel" 82 12 36 := ⟨(R_M, F_M, 40), rfl, by decide, List.mem_of_getElem? (i := 1015) (by decide +kernel), rfl⟩
theorem st_M_284 : siteV "TakerBookModel" 284 ⟨"TakerBookModel", "turned", "(IZ)I"⟩ := ⟨List.mem_of_getElem? (i := 1430) (by decide +kernel), List.mem_of_getElem? (i := 1432) (by decide +kernel), List.mem_of_getElem? (i := 67) (by decide +kernel)⟩
theorem G86 : Gam[86]? = some (.inl (.int, 729)) := rfl
abbrev b_M_turned : ByteArray := prog_14_method_85_code
abbrev y_M_turned : MethodName := ⟨"TakerBookModel", "turned", "(IZ)I"⟩
theorem d_M_turned_0 : decode b_M_turned 0 = .ok (.aload_n 0, 1) := by decide +kernel
theorem d_M_turned_1 : decode b_M_turned 1 = .ok (.getfield 79, 3) := by decide +kernel
theorem d_M_turned_4 : decode b_M_turned 4 = .ok (.iload_n 1, 1) := by decide +kernel
theorem d_M_turned_5 : decode b_M_turned 5 = .ok (.iaload, 1) := by decide +kernel
theorem d_M_turned_6 : decode b_M_turned 6 = .ok (.istore_n 3, 1) := by decide +kernel
theorem d_M_turned_7 : decode b_M_turned 7 = .ok (.iconst 1, 1) := by decide +kernel
theorem d_M_turned_8 : decode b_M_turned 8 = .ok (.istore 4, 2) := by decide +kernel
theorem d_M_turned_10 : decode b_M_turned 10 = .ok (.iconst 0, 1) := by decide +kernel
theorem d_M_turned_11 : decode b_M_turned 11 = .ok (.istore 5, 2) := by decide +kernel
theorem d_M_turned_13 : decode b_M_turned 13 = .ok (.iload 5, 2) := by decide +kernel
theorem d_M_turned_15 : decode b_M_turned 15 = .ok (.aload_n 0, 1) := by decide +kernel
theorem d_M_turned_16 : decode b_M_turned 16 = .ok (.getfield 146, 3) := by decide +kernel
theorem d_M_turned_19 : decode b_M_turned 19 = .ok (.if_icmp .ge 125, 3) := by decide +kernel
theorem d_M_turned_22 : decode b_M_turned 22 = .ok (.iload_n 1, 1) := by decide +kernel
theorem d_M_turned_23 : decode b_M_turned 23 = .ok (.iload 4, 2) := by decide +kernel
theorem d_M_turned_25 : decode b_M_turned 25 = .ok (.idiv, 1) := by decide +kernel
theorem d_M_turned_26 : decode b_M_turned 26 = .ok (.iconst 3, 1) := by decide +kernel
theorem d_M_turned_27 : decode b_M_turned 27 = .ok (.irem, 1) := by decide +kernel
theorem d_M_turned_28 : decode b_M_turned 28 = .ok (.istore 6, 2) := by decide +kernel
theorem d_M_turned_30 : decode b_M_turned 30 = .ok (.aload_n 0, 1) := by decide +kernel
theorem d_M_turned_31 : decode b_M_turned 31 = .ok (.getfield 51, 3) := by decide +kernel
theorem d_M_turned_34 : decode b_M_turned 34 = .ok (.iconst 0, 1) := by decide +kernel
theorem d_M_turned_35 : decode b_M_turned 35 = .ok (.iaload, 1) := by decide +kernel
theorem d_M_turned_36 : decode b_M_turned 36 = .ok (.iload 5, 2) := by decide +kernel
theorem d_M_turned_38 : decode b_M_turned 38 = .ok (.invokestatic 155, 3) := by decide +kernel
theorem d_M_turned_41 : decode b_M_turned 41 = .ok (.ifCond .eq 25, 3) := by decide +kernel
theorem d_M_turned_44 : decode b_M_turned 44 = .ok (.iload_n 2, 1) := by decide +kernel
theorem d_M_turned_45 : decode b_M_turned 45 = .ok (.ifCond .eq 12, 3) := by decide +kernel
theorem d_M_turned_48 : decode b_M_turned 48 = .ok (.iload 6, 2) := by decide +kernel
theorem d_M_turned_50 : decode b_M_turned 50 = .ok (.iconst 2, 1) := by decide +kernel
theorem d_M_turned_51 : decode b_M_turned 51 = .ok (.if_icmp .ge 15, 3) := by decide +kernel
theorem d_M_turned_54 : decode b_M_turned 54 = .ok (.goto 8, 3) := by decide +kernel
theorem d_M_turned_57 : decode b_M_turned 57 = .ok (.iload 6, 2) := by decide +kernel
theorem d_M_turned_59 : decode b_M_turned 59 = .ok (.ifCond .le 7, 3) := by decide +kernel
theorem d_M_turned_62 : decode b_M_turned 62 = .ok (.iconst 1, 1) := by decide +kernel
theorem d_M_turned_63 : decode b_M_turned 63 = .ok (.goto 4, 3) := by decide +kernel
theorem d_M_turned_66 : decode b_M_turned 66 = .ok (.iconst 0, 1) := by decide +kernel
theorem d_M_turned_67 : decode b_M_turned 67 = .ok (.istore 7, 2) := by decide +kernel
theorem d_M_turned_69 : decode b_M_turned 69 = .ok (.iload 7, 2) := by decide +kernel
theorem d_M_turned_71 : decode b_M_turned 71 = .ok (.ifCond .eq 26, 3) := by decide +kernel
theorem d_M_turned_74 : decode b_M_turned 74 = .ok (.aload_n 0, 1) := by decide +kernel
theorem d_M_turned_75 : decode b_M_turned 75 = .ok (.getfield 79, 3) := by decide +kernel
theorem d_M_turned_78 : decode b_M_turned 78 = .ok (.iload_n 2, 1) := by decide +kernel
theorem d_M_turned_79 : decode b_M_turned 79 = .ok (.ifCond .eq 10, 3) := by decide +kernel
theorem d_M_turned_82 : decode b_M_turned 82 = .ok (.iload_n 1, 1) := by decide +kernel
theorem d_M_turned_83 : decode b_M_turned 83 = .ok (.iload 4, 2) := by decide +kernel
theorem d_M_turned_85 : decode b_M_turned 85 = .ok (.iadd, 1) := by decide +kernel
theorem d_M_turned_86 : decode b_M_turned 86 = .ok (.goto 7, 3) := by decide +kernel
theorem d_M_turned_89 : decode b_M_turned 89 = .ok (.iload_n 1, 1) := by decide +kernel
theorem d_M_turned_90 : decode b_M_turned 90 = .ok (.iload 4, 2) := by decide +kernel
theorem d_M_turned_92 : decode b_M_turned 92 = .ok (.isub, 1) := by decide +kernel
theorem d_M_turned_93 : decode b_M_turned 93 = .ok (.iaload, 1) := by decide +kernel
theorem d_M_turned_94 : decode b_M_turned 94 = .ok (.goto 4, 3) := by decide +kernel
theorem d_M_turned_97 : decode b_M_turned 97 = .ok (.iload_n 3, 1) := by decide +kernel
theorem d_M_turned_98 : decode b_M_turned 98 = .ok (.istore 8, 2) := by decide +kernel
theorem d_M_turned_100 : decode b_M_turned 100 = .ok (.iload_n 2, 1) := by decide +kernel
theorem d_M_turned_101 : decode b_M_turned 101 = .ok (.ifCond .eq 18, 3) := by decide +kernel
theorem d_M_turned_104 : decode b_M_turned 104 = .ok (.iload 8, 2) := by decide +kernel
theorem d_M_turned_106 : decode b_M_turned 106 = .ok (.iload_n 3, 1) := by decide +kernel
theorem d_M_turned_107 : decode b_M_turned 107 = .ok (.if_icmp .ge 8, 3) := by decide +kernel
theorem d_M_turned_110 : decode b_M_turned 110 = .ok (.iload 8, 2) := by decide +kernel
theorem d_M_turned_112 : decode b_M_turned 112 = .ok (.goto 19, 3) := by decide +kernel
theorem d_M_turned_115 : decode b_M_turned 115 = .ok (.iload_n 3, 1) := by decide +kernel
theorem d_M_turned_116 : decode b_M_turned 116 = .ok (.goto 15, 3) := by decide +kernel
theorem d_M_turned_119 : decode b_M_turned 119 = .ok (.iload 8, 2) := by decide +kernel
theorem d_M_turned_121 : decode b_M_turned 121 = .ok (.iload_n 3, 1) := by decide +kernel
theorem d_M_turned_122 : decode b_M_turned 122 = .ok (.if_icmp .le 8, 3) := by decide +kernel
theorem d_M_turned_125 : decode b_M_turned 125 = .ok (.iload 8, 2) := by decide +kernel
theorem d_M_turned_127 : decode b_M_turned 127 = .ok (.goto 4, 3) := by decide +kernel
theorem d_M_turned_130 : decode b_M_turned 130 = .ok (.iload_n 3, 1) := by decide +kernel
theorem d_M_turned_131 : decode b_M_turned 131 = .ok (.istore_n 3, 1) := by decide +kernel
theorem d_M_turned_132 : decode b_M_turned 132 = .ok (.iload 4, 2) := by decide +kernel
theorem d_M_turned_134 : decode b_M_turned 134 = .ok (.iconst 3, 1) := by decide +kernel
theorem d_M_turned_135 : decode b_M_turned 135 = .ok (.imul, 1) := by decide +kernel
theorem d_M_turned_136 : decode b_M_turned 136 = .ok (.istore 4, 2) := by decide +kernel
theorem d_M_turned_138 : decode b_M_turned 138 = .ok (.iinc 5 1, 3) := by decide +kernel
theorem d_M_turned_141 : decode b_M_turned 141 = .ok (.goto (-128), 3) := by decide +kernel
theorem d_M_turned_144 : decode b_M_turned 144 = .ok (.iload_n 3, 1) := by decide +kernel
theorem d_M_turned_145 : decode b_M_turned 145 = .ok (.ireturn, 1) := by decide +kernel
theorem mo_M_turned : mok y_M_turned b_M_turned 9 (some .int) 2 := ⟨List.mem_of_getElem? (i := 1433) (by decide +kernel), ⟨by decide +kernel, by decide +kernel, by decide +kernel⟩, List.mem_of_getElem? (i := 86) (by decide +kernel), by decide⟩
set_option maxHeartbeats 4000000 in
theorem L_M_turned_true {X : FX} {u : Un} (hA : Ap u) {Q : State → Prop} (F : Fr X u "TakerBookModel" b_M_turned 9) {σ : St} {n : Nat} {kd : Nat → Nat} (hb : mkOk σ n kd) {a : Nat} (ha : a < 64) (h0 : σ.1 76 0 = nI a) {τ : St} (fτ : fr σ τ) {code : Nat} (hc : code < 3 ^ n) (k : V X u 1 9 Q 144 [(0, .ref (u.2.1 63)), (1, .int (nI code)), (2, .int 1), (3, .int (tuS (τ.1 85) a code true n)), (4, .int (nI (3 ^ n))), (5, .int (nI n))] [] (τ)) : ∀ (nn i : Nat), i ≤ n → n - i < nn → V X u 1 9 Q 13 [(0, .ref (u.2.1 63)), (1, .int (nI code)), (2, .int 1), (3, .int (tuS (τ.1 85) a code true i)), (4, .int (nI (3 ^ i))), (5, .int (nI i))] [] (τ) := by
  intro nn
  induction nn with
  | zero =>
    intro i h1 h2
    exact absurd h2 (Nat.not_lt_zero _)
  | succ nn ih =>
    intro i hii hnn
    obtain ⟨hn, hn6, hkd, hk6⟩ := id hb
    have h729 := p3_b hn6
    have hqc : code / 3 ^ i ≤ code := Nat.div_le_self _ _
    have hp0 : 0 < 3 ^ i := Nat.pow_pos (by decide)
    have hpi : i ≤ 6 → 3 ^ i ≤ 729 := fun h => p3_b h
    have hd3 : dg code i < 3 := dg_lt
    have hup : i < n ∧ dg code i < 2 → code + 3 ^ i < 3 ^ n := fun q => dg_up n (by omega) code hc i q.1 q.2
    have hdn : i < n ∧ 0 < dg code i → 3 ^ i ≤ code := fun q => dg_dn i (by omega) code (by omega) (by have := q.2; unfold dg at this; omega)
    refine v_iload F d_M_turned_13 5 rfl ?_
    refine v_aload_n F d_M_turned_15 rfl 0 rfl ?_
    refine v_geti F fk_M_146 G63 rfl d_M_turned_16 ?_
    refine v_te (y := nI n) (fτ.v rfl hn) ?_
    refine v_icmp_ge F 144 d_M_turned_19 rfl (fun h19 => ?_) (fun h19 => ?_)
    · skip
      have h19 : n ≤ i := (nI_leI (a := n) (b := i) (by omega) (by omega)).mp h19
      have he : i = n := by omega
      subst he
      exact k
    · skip
      have h19 : ¬ n ≤ i := fun q => h19 ((nI_leI (a := n) (b := i) (by omega) (by omega)).mpr q)
      refine v_iload_n F d_M_turned_22 rfl 1 rfl ?_
      refine v_iload F d_M_turned_23 4 rfl ?_
      refine v_idiv F d_M_turned_25 (nI_ne0 (by omega) (by omega)) ?_
      refine v_te (y := nI (code / 3 ^ i)) (pk_div (by omega) (by omega) (by omega)) ?_
      refine v_iconst (v := 3) F d_M_turned_26 ki_3 ?_
      refine v_irem F d_M_turned_27 (by decide) ?_
      refine v_te (y := nI (dg code i)) (pk_rem (by omega) (by decide) (by decide)) ?_
      refine v_istore (ls' := [(6, .int (nI (dg code i))), (0, .ref (u.2.1 63)), (1, .int (nI code)), (2, .int 1), (3, .int (tuS (τ.1 85) a code true i)), (4, .int (nI (3 ^ i))), (5, .int (nI i))]) F d_M_turned_28 (by decide) rfl ?_
      refine v_aload_n F d_M_turned_30 rfl 1 rfl ?_
      refine v_getr (r := 76) F fk_M_51 G63 rfl d_M_turned_31 ?_
      refine v_iconst (v := 0) F d_M_turned_34 ki_0 ?_
      refine v_ial F 0 G76 rfl (by omega) d_M_turned_35 ?_
      refine v_te (y := nI a) (fτ.v rfl h0) ?_
      refine v_iload F d_M_turned_36 6 rfl ?_
      refine v_runi (r_S F (c_M_has2 X.2.1 u hA τ i a (by omega) (by omega)) mo_M_has st_M_155 (by decide) rfl (Nat.le_of_ble_eq_true rfl) d_M_turned_38) (fun r1 σ2 q3 => ?_)
      obtain ⟨rfl, rfl⟩ := q3
      refine v_bt F 66 d_M_turned_41 rfl (fun h41 => ?_) (fun h41 => ?_)
      · skip
        refine v_iconst (v := 0) F d_M_turned_66 ki_0 ?_
        refine v_istore (ls' := [(7, .int 0), (6, .int (nI (dg code i))), (0, .ref (u.2.1 63)), (1, .int (nI code)), (2, .int 1), (3, .int (tuS (τ.1 85) a code true i)), (4, .int (nI (3 ^ i))), (5, .int (nI i))]) F d_M_turned_67 (by decide) rfl ?_
        refine v_iload F d_M_turned_69 0 rfl ?_
        refine v_if_eq F 97 d_M_turned_71 rfl (fun _ => ?_) (fun h => absurd (by decide) h)
        refine v_iload_n F d_M_turned_97 rfl 5 rfl ?_
        refine v_istore (ls' := [(8, .int (tuS (τ.1 85) a code true i)), (7, .int 0), (6, .int (nI (dg code i))), (0, .ref (u.2.1 63)), (1, .int (nI code)), (2, .int 1), (3, .int (tuS (τ.1 85) a code true i)), (4, .int (nI (3 ^ i))), (5, .int (nI i))]) F d_M_turned_98 (by decide) rfl ?_
        refine v_iload_n F d_M_turned_100 rfl 5 rfl ?_
        refine v_if_eq F 119 d_M_turned_101 rfl (fun h => absurd h (by decide)) (fun _ => ?_)
        refine v_iload F d_M_turned_104 0 rfl ?_
        refine v_iload_n F d_M_turned_106 rfl 6 rfl ?_
        refine v_icmp_ge F 115 d_M_turned_107 rfl (fun h107 => ?_) (fun h107 => ?_)
        · skip
          refine v_iload_n F d_M_turned_115 rfl 6 rfl ?_
          refine v_goto F 131 d_M_turned_116 rfl ?_
          refine v_istore_n (ls' := [(3, .int (tuS (τ.1 85) a code true i)), (8, .int (tuS (τ.1 85) a code true i)), (7, .int 0), (6, .int (nI (dg code i))), (0, .ref (u.2.1 63)), (1, .int (nI code)), (2, .int 1), (4, .int (nI (3 ^ i))), (5, .int (nI i))]) F d_M_turned_131 rfl (by decide) rfl ?_
          refine v_iload F d_M_turned_132 7 rfl ?_
          refine v_iconst (v := 3) F d_M_turned_134 ki_3 ?_
          refine v_imul F d_M_turned_135 ?_
          refine v_te (y := nI ((3 ^ i) * 3)) (pk_mul _ _) ?_
          refine v_istore (ls' := [(4, .int (nI ((3 ^ i) * 3))), (3, .int (tuS (τ.1 85) a code true i)), (8, .int (tuS (τ.1 85) a code true i)), (7, .int 0), (6, .int (nI (dg code i))), (0, .ref (u.2.1 63)), (1, .int (nI code)), (2, .int 1), (5, .int (nI i))]) F d_M_turned_136 (by decide) rfl ?_
          refine v_iinc (v := nI (i + 1)) (ls' := [(5, .int (nI (i + 1))), (4, .int (nI ((3 ^ i) * 3))), (3, .int (tuS (τ.1 85) a code true i)), (8, .int (tuS (τ.1 85) a code true i)), (7, .int 0), (6, .int (nI (dg code i))), (0, .ref (u.2.1 63)), (1, .int (nI code)), (2, .int 1)]) F d_M_turned_138 (j := 8) rfl (nI_inc _) (by decide) rfl ?_
          refine v_goto F 13 d_M_turned_141 rfl ?_
          refine v_sub [6, 7, 8, 2, 1, 0] (ls' := [(0, .ref (u.2.1 63)), (1, .int (nI code)), (2, .int 1), (3, .int (tuS (τ.1 85) a code true i)), (4, .int (nI ((3 ^ i) * 3))), (5, .int (nI (i + 1)))]) rfl ?_
          have g4 : (tuS (τ.1 85) a code true i) = (tuS (τ.1 85) a code true (i + 1)) := (by first | rfl | (rw [tu_n (tb_n (by assumption))]; done) | (rw [tu_n (tb_n1 (by omega))]; done) | (rw [tu_n (tb_n2 (by omega))]; done) | (rw [tu_t (tb_t (by assumption) (by omega)), if_pos (by assumption)]; done) | (rw [tu_t (tb_t (by assumption) (by omega)), if_neg (i_nlt.mpr (by assumption))]; done) | (rw [tu_f (tb_f (by assumption) (by omega)), if_pos (i_lt_le.mp (by assumption))]; done) | (rw [tu_f (tb_f (by assumption) (by omega)), if_neg (i_nlt.mpr (by assumption))]; done) | (rw [tu_t (tb_t (by assumption) (by omega)), if_pos (i_lt_le.mp (by assumption))]; done))
          have g5 : (nI ((3 ^ i) * 3)) = (nI (3 ^ (i + 1))) := (by first | rfl | (rw [tu_n (tb_n (by assumption))]; done) | (rw [tu_n (tb_n1 (by omega))]; done) | (rw [tu_n (tb_n2 (by omega))]; done) | (rw [tu_t (tb_t (by assumption) (by omega)), if_pos (by assumption)]; done) | (rw [tu_t (tb_t (by assumption) (by omega)), if_neg (i_nlt.mpr (by assumption))]; done) | (rw [tu_f (tb_f (by assumption) (by omega)), if_pos (i_lt_le.mp (by assumption))]; done) | (rw [tu_f (tb_f (by assumption) (by omega)), if_neg (i_nlt.mpr (by assumption))]; done) | (rw [tu_t (tb_t (by assumption) (by omega)), if_pos (i_lt_le.mp (by assumption))]; done))
          refine v_to (ls' := [(0, .ref (u.2.1 63)), (1, .int (nI code)), (2, .int 1), (3, .int (tuS (τ.1 85) a code true (i + 1))), (4, .int (nI (3 ^ (i + 1)))), (5, .int (nI (i + 1)))]) (by first | rfl | rw [g4, g5] | simp_all) ?_
          exact ih (i + 1) (by omega) (by omega)
        · skip
          refine v_iload F d_M_turned_110 0 rfl ?_
          refine v_goto F 131 d_M_turned_112 rfl ?_
          refine v_istore_n (ls' := [(3, .int (tuS (τ.1 85) a code true i)), (8, .int (tuS (τ.1 85) a code true i)), (7, .int 0), (6, .int (nI (dg code i))), (0, .ref (u.2.1 63)), (1, .int (nI code)), (2, .int 1), (4, .int (nI (3 ^ i))), (5, .int (nI i))]) F d_M_turned_131 rfl (by decide) rfl ?_
          refine v_iload F d_M_turned_132 7 rfl ?_
          refine v_iconst (v := 3) F d_M_turned_134 ki_3 ?_
          refine v_imul F d_M_turned_135 ?_
          refine v_te (y := nI ((3 ^ i) * 3)) (pk_mul _ _) ?_
          refine v_istore (ls' := [(4, .int (nI ((3 ^ i) * 3))), (3, .int (tuS (τ.1 85) a code true i)), (8, .int (tuS (τ.1 85) a code true i)), (7, .int 0), (6, .int (nI (dg code i))), (0, .ref (u.2.1 63)), (1, .int (nI code)), (2, .int 1), (5, .int (nI i))]) F d_M_turned_136 (by decide) rfl ?_
          refine v_iinc (v := nI (i + 1)) (ls' := [(5, .int (nI (i + 1))), (4, .int (nI ((3 ^ i) * 3))), (3, .int (tuS (τ.1 85) a code true i)), (8, .int (tuS (τ.1 85) a code true i)), (7, .int 0), (6, .int (nI (dg code i))), (0, .ref (u.2.1 63)), (1, .int (nI code)), (2, .int 1)]) F d_M_turned_138 (j := 8) rfl (nI_inc _) (by decide) rfl ?_
          refine v_goto F 13 d_M_turned_141 rfl ?_
          refine v_sub [6, 7, 8, 2, 1, 0] (ls' := [(0, .ref (u.2.1 63)), (1, .int (nI code)), (2, .int 1), (3, .int (tuS (τ.1 85) a code true i)), (4, .int (nI ((3 ^ i) * 3))), (5, .int (nI (i + 1)))]) rfl ?_
          have g6 : (tuS (τ.1 85) a code true i) = (tuS (τ.1 85) a code true (i + 1)) := (by first | rfl | (rw [tu_n (tb_n (by assumption))]; done) | (rw [tu_n (tb_n1 (by omega))]; done) | (rw [tu_n (tb_n2 (by omega))]; done) | (rw [tu_t (tb_t (by assumption) (by omega)), if_pos (by assumption)]; done) | (rw [tu_t (tb_t (by assumption) (by omega)), if_neg (i_nlt.mpr (by assumption))]; done) | (rw [tu_f (tb_f (by assumption) (by omega)), if_pos (i_lt_le.mp (by assumption))]; done) | (rw [tu_f (tb_f (by assumption) (by omega)), if_neg (i_nlt.mpr (by assumption))]; done) | (rw [tu_t (tb_t (by assumption) (by omega)), if_pos (i_lt_le.mp (by assumption))]; done))
          have g7 : (nI ((3 ^ i) * 3)) = (nI (3 ^ (i + 1))) := (by first | rfl | (rw [tu_n (tb_n (by assumption))]; done) | (rw [tu_n (tb_n1 (by omega))]; done) | (rw [tu_n (tb_n2 (by omega))]; done) | (rw [tu_t (tb_t (by assumption) (by omega)), if_pos (by assumption)]; done) | (rw [tu_t (tb_t (by assumption) (by omega)), if_neg (i_nlt.mpr (by assumption))]; done) | (rw [tu_f (tb_f (by assumption) (by omega)), if_pos (i_lt_le.mp (by assumption))]; done) | (rw [tu_f (tb_f (by assumption) (by omega)), if_neg (i_nlt.mpr (by assumption))]; done) | (rw [tu_t (tb_t (by assumption) (by omega)), if_pos (i_lt_le.mp (by assumption))]; done))
          refine v_to (ls' := [(0, .ref (u.2.1 63)), (1, .int (nI code)), (2, .int 1), (3, .int (tuS (τ.1 85) a code true (i + 1))), (4, .int (nI (3 ^ (i + 1)))), (5, .int (nI (i + 1)))]) (by first | rfl | rw [g6, g7] | simp_all) ?_
          exact ih (i + 1) (by omega) (by omega)
      · skip
        refine v_iload_n F d_M_turned_44 rfl 3 rfl ?_
        refine v_if_eq F 57 d_M_turned_45 rfl (fun h => absurd h (by decide)) (fun _ => ?_)
        refine v_iload F d_M_turned_48 0 rfl ?_
        refine v_iconst (v := 2) F d_M_turned_50 ki_2 ?_
        refine v_icmp_ge F 66 d_M_turned_51 rfl (fun h51 => ?_) (fun h51 => ?_)
        · skip
          have h51 : 2 ≤ dg code i := (nI_leI (a := 2) (b := dg code i) (by omega) (by omega)).mp h51
          refine v_iconst (v := 0) F d_M_turned_66 ki_0 ?_
          refine v_istore (ls' := [(7, .int 0), (6, .int (nI (dg code i))), (0, .ref (u.2.1 63)), (1, .int (nI code)), (2, .int 1), (3, .int (tuS (τ.1 85) a code true i)), (4, .int (nI (3 ^ i))), (5, .int (nI i))]) F d_M_turned_67 (by decide) rfl ?_
          refine v_iload F d_M_turned_69 0 rfl ?_
          refine v_if_eq F 97 d_M_turned_71 rfl (fun _ => ?_) (fun h => absurd (by decide) h)
          refine v_iload_n F d_M_turned_97 rfl 5 rfl ?_
          refine v_istore (ls' := [(8, .int (tuS (τ.1 85) a code true i)), (7, .int 0), (6, .int (nI (dg code i))), (0, .ref (u.2.1 63)), (1, .int (nI code)), (2, .int 1), (3, .int (tuS (τ.1 85) a code true i)), (4, .int (nI (3 ^ i))), (5, .int (nI i))]) F d_M_turned_98 (by decide) rfl ?_
          refine v_iload_n F d_M_turned_100 rfl 5 rfl ?_
          refine v_if_eq F 119 d_M_turned_101 rfl (fun h => absurd h (by decide)) (fun _ => ?_)
          refine v_iload F d_M_turned_104 0 rfl ?_
          refine v_iload_n F d_M_turned_106 rfl 6 rfl ?_
          refine v_icmp_ge F 115 d_M_turned_107 rfl (fun h107 => ?_) (fun h107 => ?_)
          · skip
            refine v_iload_n F d_M_turned_115 rfl 6 rfl ?_
            refine v_goto F 131 d_M_turned_116 rfl ?_
            refine v_istore_n (ls' := [(3, .int (tuS (τ.1 85) a code true i)), (8, .int (tuS (τ.1 85) a code true i)), (7, .int 0), (6, .int (nI (dg code i))), (0, .ref (u.2.1 63)), (1, .int (nI code)), (2, .int 1), (4, .int (nI (3 ^ i))), (5, .int (nI i))]) F d_M_turned_131 rfl (by decide) rfl ?_
            refine v_iload F d_M_turned_132 7 rfl ?_
            refine v_iconst (v := 3) F d_M_turned_134 ki_3 ?_
            refine v_imul F d_M_turned_135 ?_
            refine v_te (y := nI ((3 ^ i) * 3)) (pk_mul _ _) ?_
            refine v_istore (ls' := [(4, .int (nI ((3 ^ i) * 3))), (3, .int (tuS (τ.1 85) a code true i)), (8, .int (tuS (τ.1 85) a code true i)), (7, .int 0), (6, .int (nI (dg code i))), (0, .ref (u.2.1 63)), (1, .int (nI code)), (2, .int 1), (5, .int (nI i))]) F d_M_turned_136 (by decide) rfl ?_
            refine v_iinc (v := nI (i + 1)) (ls' := [(5, .int (nI (i + 1))), (4, .int (nI ((3 ^ i) * 3))), (3, .int (tuS (τ.1 85) a code true i)), (8, .int (tuS (τ.1 85) a code true i)), (7, .int 0), (6, .int (nI (dg code i))), (0, .ref (u.2.1 63)), (1, .int (nI code)), (2, .int 1)]) F d_M_turned_138 (j := 8) rfl (nI_inc _) (by decide) rfl ?_
            refine v_goto F 13 d_M_turned_141 rfl ?_
            refine v_sub [6, 7, 8, 2, 1, 0] (ls' := [(0, .ref (u.2.1 63)), (1, .int (nI code)), (2, .int 1), (3, .int (tuS (τ.1 85) a code true i)), (4, .int (nI ((3 ^ i) * 3))), (5, .int (nI (i + 1)))]) rfl ?_
            have g8 : (tuS (τ.1 85) a code true i) = (tuS (τ.1 85) a code true (i + 1)) := (by first | rfl | (rw [tu_n (tb_n (by assumption))]; done) | (rw [tu_n (tb_n1 (by omega))]; done) | (rw [tu_n (tb_n2 (by omega))]; done) | (rw [tu_t (tb_t (by assumption) (by omega)), if_pos (by assumption)]; done) | (rw [tu_t (tb_t (by assumption) (by omega)), if_neg (i_nlt.mpr (by assumption))]; done) | (rw [tu_f (tb_f (by assumption) (by omega)), if_pos (i_lt_le.mp (by assumption))]; done) | (rw [tu_f (tb_f (by assumption) (by omega)), if_neg (i_nlt.mpr (by assumption))]; done) | (rw [tu_t (tb_t (by assumption) (by omega)), if_pos (i_lt_le.mp (by assumption))]; done))
            have g9 : (nI ((3 ^ i) * 3)) = (nI (3 ^ (i + 1))) := (by first | rfl | (rw [tu_n (tb_n (by assumption))]; done) | (rw [tu_n (tb_n1 (by omega))]; done) | (rw [tu_n (tb_n2 (by omega))]; done) | (rw [tu_t (tb_t (by assumption) (by omega)), if_pos (by assumption)]; done) | (rw [tu_t (tb_t (by assumption) (by omega)), if_neg (i_nlt.mpr (by assumption))]; done) | (rw [tu_f (tb_f (by assumption) (by omega)), if_pos (i_lt_le.mp (by assumption))]; done) | (rw [tu_f (tb_f (by assumption) (by omega)), if_neg (i_nlt.mpr (by assumption))]; done) | (rw [tu_t (tb_t (by assumption) (by omega)), if_pos (i_lt_le.mp (by assumption))]; done))
            refine v_to (ls' := [(0, .ref (u.2.1 63)), (1, .int (nI code)), (2, .int 1), (3, .int (tuS (τ.1 85) a code true (i + 1))), (4, .int (nI (3 ^ (i + 1)))), (5, .int (nI (i + 1)))]) (by first | rfl | rw [g8, g9] | simp_all) ?_
            exact ih (i + 1) (by omega) (by omega)
          · skip
            refine v_iload F d_M_turned_110 0 rfl ?_
            refine v_goto F 131 d_M_turned_112 rfl ?_
            refine v_istore_n (ls' := [(3, .int (tuS (τ.1 85) a code true i)), (8, .int (tuS (τ.1 85) a code true i)), (7, .int 0), (6, .int (nI (dg code i))), (0, .ref (u.2.1 63)), (1, .int (nI code)), (2, .int 1), (4, .int (nI (3 ^ i))), (5, .int (nI i))]) F d_M_turned_131 rfl (by decide) rfl ?_
            refine v_iload F d_M_turned_132 7 rfl ?_
            refine v_iconst (v := 3) F d_M_turned_134 ki_3 ?_
            refine v_imul F d_M_turned_135 ?_
            refine v_te (y := nI ((3 ^ i) * 3)) (pk_mul _ _) ?_
            refine v_istore (ls' := [(4, .int (nI ((3 ^ i) * 3))), (3, .int (tuS (τ.1 85) a code true i)), (8, .int (tuS (τ.1 85) a code true i)), (7, .int 0), (6, .int (nI (dg code i))), (0, .ref (u.2.1 63)), (1, .int (nI code)), (2, .int 1), (5, .int (nI i))]) F d_M_turned_136 (by decide) rfl ?_
            refine v_iinc (v := nI (i + 1)) (ls' := [(5, .int (nI (i + 1))), (4, .int (nI ((3 ^ i) * 3))), (3, .int (tuS (τ.1 85) a code true i)), (8, .int (tuS (τ.1 85) a code true i)), (7, .int 0), (6, .int (nI (dg code i))), (0, .ref (u.2.1 63)), (1, .int (nI code)), (2, .int 1)]) F d_M_turned_138 (j := 8) rfl (nI_inc _) (by decide) rfl ?_
            refine v_goto F 13 d_M_turned_141 rfl ?_
            refine v_sub [6, 7, 8, 2, 1, 0] (ls' := [(0, .ref (u.2.1 63)), (1, .int (nI code)), (2, .int 1), (3, .int (tuS (τ.1 85) a code true i)), (4, .int (nI ((3 ^ i) * 3))), (5, .int (nI (i + 1)))]) rfl ?_
            have g10 : (tuS (τ.1 85) a code true i) = (tuS (τ.1 85) a code true (i + 1)) := (by first | rfl | (rw [tu_n (tb_n (by assumption))]; done) | (rw [tu_n (tb_n1 (by omega))]; done) | (rw [tu_n (tb_n2 (by omega))]; done) | (rw [tu_t (tb_t (by assumption) (by omega)), if_pos (by assumption)]; done) | (rw [tu_t (tb_t (by assumption) (by omega)), if_neg (i_nlt.mpr (by assumption))]; done) | (rw [tu_f (tb_f (by assumption) (by omega)), if_pos (i_lt_le.mp (by assumption))]; done) | (rw [tu_f (tb_f (by assumption) (by omega)), if_neg (i_nlt.mpr (by assumption))]; done) | (rw [tu_t (tb_t (by assumption) (by omega)), if_pos (i_lt_le.mp (by assumption))]; done))
            have g11 : (nI ((3 ^ i) * 3)) = (nI (3 ^ (i + 1))) := (by first | rfl | (rw [tu_n (tb_n (by assumption))]; done) | (rw [tu_n (tb_n1 (by omega))]; done) | (rw [tu_n (tb_n2 (by omega))]; done) | (rw [tu_t (tb_t (by assumption) (by omega)), if_pos (by assumption)]; done) | (rw [tu_t (tb_t (by assumption) (by omega)), if_neg (i_nlt.mpr (by assumption))]; done) | (rw [tu_f (tb_f (by assumption) (by omega)), if_pos (i_lt_le.mp (by assumption))]; done) | (rw [tu_f (tb_f (by assumption) (by omega)), if_neg (i_nlt.mpr (by assumption))]; done) | (rw [tu_t (tb_t (by assumption) (by omega)), if_pos (i_lt_le.mp (by assumption))]; done))
            refine v_to (ls' := [(0, .ref (u.2.1 63)), (1, .int (nI code)), (2, .int 1), (3, .int (tuS (τ.1 85) a code true (i + 1))), (4, .int (nI (3 ^ (i + 1)))), (5, .int (nI (i + 1)))]) (by first | rfl | rw [g10, g11] | simp_all) ?_
            exact ih (i + 1) (by omega) (by omega)
        · skip
          have h51 : ¬ 2 ≤ dg code i := fun q => h51 ((nI_leI (a := 2) (b := dg code i) (by omega) (by omega)).mpr q)
          refine v_goto F 62 d_M_turned_54 rfl ?_
          refine v_iconst (v := 1) F d_M_turned_62 ki_1 ?_
          refine v_goto F 67 d_M_turned_63 rfl ?_
          refine v_istore (ls' := [(7, .int 1), (6, .int (nI (dg code i))), (0, .ref (u.2.1 63)), (1, .int (nI code)), (2, .int 1), (3, .int (tuS (τ.1 85) a code true i)), (4, .int (nI (3 ^ i))), (5, .int (nI i))]) F d_M_turned_67 (by decide) rfl ?_
          refine v_iload F d_M_turned_69 0 rfl ?_
          refine v_if_eq F 97 d_M_turned_71 rfl (fun h => absurd h (by decide)) (fun _ => ?_)
          refine v_aload_n F d_M_turned_74 rfl 2 rfl ?_
          refine v_getr (r := 85) F fk_M_79 G63 rfl d_M_turned_75 ?_
          refine v_iload_n F d_M_turned_78 rfl 4 rfl ?_
          refine v_if_eq F 89 d_M_turned_79 rfl (fun h => absurd h (by decide)) (fun _ => ?_)
          refine v_iload_n F d_M_turned_82 rfl 3 rfl ?_
          refine v_iload F d_M_turned_83 6 rfl ?_
          refine v_iadd F d_M_turned_85 ?_
          refine v_te (y := nI (code + 3 ^ i)) (nI_add _ _) ?_
          refine v_goto F 93 d_M_turned_86 rfl ?_
          refine v_ial F (code + 3 ^ i) G85 rfl (by first | omega | (have := hup (by omega); omega)) d_M_turned_93 ?_
          refine v_goto F 98 d_M_turned_94 rfl ?_
          refine v_istore (ls' := [(8, .int (τ.1 85 (code + 3 ^ i))), (7, .int 1), (6, .int (nI (dg code i))), (0, .ref (u.2.1 63)), (1, .int (nI code)), (2, .int 1), (3, .int (tuS (τ.1 85) a code true i)), (4, .int (nI (3 ^ i))), (5, .int (nI i))]) F d_M_turned_98 (by decide) rfl ?_
          refine v_iload_n F d_M_turned_100 rfl 5 rfl ?_
          refine v_if_eq F 119 d_M_turned_101 rfl (fun h => absurd h (by decide)) (fun _ => ?_)
          refine v_iload F d_M_turned_104 0 rfl ?_
          refine v_iload_n F d_M_turned_106 rfl 6 rfl ?_
          refine v_icmp_ge F 115 d_M_turned_107 rfl (fun h107 => ?_) (fun h107 => ?_)
          · skip
            refine v_iload_n F d_M_turned_115 rfl 6 rfl ?_
            refine v_goto F 131 d_M_turned_116 rfl ?_
            refine v_istore_n (ls' := [(3, .int (tuS (τ.1 85) a code true i)), (8, .int (τ.1 85 (code + 3 ^ i))), (7, .int 1), (6, .int (nI (dg code i))), (0, .ref (u.2.1 63)), (1, .int (nI code)), (2, .int 1), (4, .int (nI (3 ^ i))), (5, .int (nI i))]) F d_M_turned_131 rfl (by decide) rfl ?_
            refine v_iload F d_M_turned_132 7 rfl ?_
            refine v_iconst (v := 3) F d_M_turned_134 ki_3 ?_
            refine v_imul F d_M_turned_135 ?_
            refine v_te (y := nI ((3 ^ i) * 3)) (pk_mul _ _) ?_
            refine v_istore (ls' := [(4, .int (nI ((3 ^ i) * 3))), (3, .int (tuS (τ.1 85) a code true i)), (8, .int (τ.1 85 (code + 3 ^ i))), (7, .int 1), (6, .int (nI (dg code i))), (0, .ref (u.2.1 63)), (1, .int (nI code)), (2, .int 1), (5, .int (nI i))]) F d_M_turned_136 (by decide) rfl ?_
            refine v_iinc (v := nI (i + 1)) (ls' := [(5, .int (nI (i + 1))), (4, .int (nI ((3 ^ i) * 3))), (3, .int (tuS (τ.1 85) a code true i)), (8, .int (τ.1 85 (code + 3 ^ i))), (7, .int 1), (6, .int (nI (dg code i))), (0, .ref (u.2.1 63)), (1, .int (nI code)), (2, .int 1)]) F d_M_turned_138 (j := 8) rfl (nI_inc _) (by decide) rfl ?_
            refine v_goto F 13 d_M_turned_141 rfl ?_
            refine v_sub [6, 7, 8, 2, 1, 0] (ls' := [(0, .ref (u.2.1 63)), (1, .int (nI code)), (2, .int 1), (3, .int (tuS (τ.1 85) a code true i)), (4, .int (nI ((3 ^ i) * 3))), (5, .int (nI (i + 1)))]) rfl ?_
            have g12 : (tuS (τ.1 85) a code true i) = (tuS (τ.1 85) a code true (i + 1)) := (by first | rfl | (rw [tu_n (tb_n (by assumption))]; done) | (rw [tu_n (tb_n1 (by omega))]; done) | (rw [tu_n (tb_n2 (by omega))]; done) | (rw [tu_t (tb_t (by assumption) (by omega)), if_pos (by assumption)]; done) | (rw [tu_t (tb_t (by assumption) (by omega)), if_neg (i_nlt.mpr (by assumption))]; done) | (rw [tu_f (tb_f (by assumption) (by omega)), if_pos (i_lt_le.mp (by assumption))]; done) | (rw [tu_f (tb_f (by assumption) (by omega)), if_neg (i_nlt.mpr (by assumption))]; done) | (rw [tu_t (tb_t (by assumption) (by omega)), if_pos (i_lt_le.mp (by assumption))]; done))
            have g13 : (nI ((3 ^ i) * 3)) = (nI (3 ^ (i + 1))) := (by first | rfl | (rw [tu_n (tb_n (by assumption))]; done) | (rw [tu_n (tb_n1 (by omega))]; done) | (rw [tu_n (tb_n2 (by omega))]; done) | (rw [tu_t (tb_t (by assumption) (by omega)), if_pos (by assumption)]; done) | (rw [tu_t (tb_t (by assumption) (by omega)), if_neg (i_nlt.mpr (by assumption))]; done) | (rw [tu_f (tb_f (by assumption) (by omega)), if_pos (i_lt_le.mp (by assumption))]; done) | (rw [tu_f (tb_f (by assumption) (by omega)), if_neg (i_nlt.mpr (by assumption))]; done) | (rw [tu_t (tb_t (by assumption) (by omega)), if_pos (i_lt_le.mp (by assumption))]; done))
            refine v_to (ls' := [(0, .ref (u.2.1 63)), (1, .int (nI code)), (2, .int 1), (3, .int (tuS (τ.1 85) a code true (i + 1))), (4, .int (nI (3 ^ (i + 1)))), (5, .int (nI (i + 1)))]) (by first | rfl | rw [g12, g13] | simp_all) ?_
            exact ih (i + 1) (by omega) (by omega)
          · skip
            refine v_iload F d_M_turned_110 0 rfl ?_
            refine v_goto F 131 d_M_turned_112 rfl ?_
            refine v_istore_n (ls' := [(3, .int (τ.1 85 (code + 3 ^ i))), (8, .int (τ.1 85 (code + 3 ^ i))), (7, .int 1), (6, .int (nI (dg code i))), (0, .ref (u.2.1 63)), (1, .int (nI code)), (2, .int 1), (4, .int (nI (3 ^ i))), (5, .int (nI i))]) F d_M_turned_131 rfl (by decide) rfl ?_
            refine v_iload F d_M_turned_132 7 rfl ?_
            refine v_iconst (v := 3) F d_M_turned_134 ki_3 ?_
            refine v_imul F d_M_turned_135 ?_
            refine v_te (y := nI ((3 ^ i) * 3)) (pk_mul _ _) ?_
            refine v_istore (ls' := [(4, .int (nI ((3 ^ i) * 3))), (3, .int (τ.1 85 (code + 3 ^ i))), (8, .int (τ.1 85 (code + 3 ^ i))), (7, .int 1), (6, .int (nI (dg code i))), (0, .ref (u.2.1 63)), (1, .int (nI code)), (2, .int 1), (5, .int (nI i))]) F d_M_turned_136 (by decide) rfl ?_
            refine v_iinc (v := nI (i + 1)) (ls' := [(5, .int (nI (i + 1))), (4, .int (nI ((3 ^ i) * 3))), (3, .int (τ.1 85 (code + 3 ^ i))), (8, .int (τ.1 85 (code + 3 ^ i))), (7, .int 1), (6, .int (nI (dg code i))), (0, .ref (u.2.1 63)), (1, .int (nI code)), (2, .int 1)]) F d_M_turned_138 (j := 8) rfl (nI_inc _) (by decide) rfl ?_
            refine v_goto F 13 d_M_turned_141 rfl ?_
            refine v_sub [6, 7, 8, 2, 1, 0] (ls' := [(0, .ref (u.2.1 63)), (1, .int (nI code)), (2, .int 1), (3, .int (τ.1 85 (code + 3 ^ i))), (4, .int (nI ((3 ^ i) * 3))), (5, .int (nI (i + 1)))]) rfl ?_
            have g14 : (τ.1 85 (code + 3 ^ i)) = (tuS (τ.1 85) a code true (i + 1)) := (by first | rfl | (rw [tu_n (tb_n (by assumption))]; done) | (rw [tu_n (tb_n1 (by omega))]; done) | (rw [tu_n (tb_n2 (by omega))]; done) | (rw [tu_t (tb_t (by assumption) (by omega)), if_pos (by assumption)]; done) | (rw [tu_t (tb_t (by assumption) (by omega)), if_neg (i_nlt.mpr (by assumption))]; done) | (rw [tu_f (tb_f (by assumption) (by omega)), if_pos (i_lt_le.mp (by assumption))]; done) | (rw [tu_f (tb_f (by assumption) (by omega)), if_neg (i_nlt.mpr (by assumption))]; done) | (rw [tu_t (tb_t (by assumption) (by omega)), if_pos (i_lt_le.mp (by assumption))]; done))
            have g15 : (nI ((3 ^ i) * 3)) = (nI (3 ^ (i + 1))) := (by first | rfl | (rw [tu_n (tb_n (by assumption))]; done) | (rw [tu_n (tb_n1 (by omega))]; done) | (rw [tu_n (tb_n2 (by omega))]; done) | (rw [tu_t (tb_t (by assumption) (by omega)), if_pos (by assumption)]; done) | (rw [tu_t (tb_t (by assumption) (by omega)), if_neg (i_nlt.mpr (by assumption))]; done) | (rw [tu_f (tb_f (by assumption) (by omega)), if_pos (i_lt_le.mp (by assumption))]; done) | (rw [tu_f (tb_f (by assumption) (by omega)), if_neg (i_nlt.mpr (by assumption))]; done) | (rw [tu_t (tb_t (by assumption) (by omega)), if_pos (i_lt_le.mp (by assumption))]; done))
            refine v_to (ls' := [(0, .ref (u.2.1 63)), (1, .int (nI code)), (2, .int 1), (3, .int (tuS (τ.1 85) a code true (i + 1))), (4, .int (nI (3 ^ (i + 1)))), (5, .int (nI (i + 1)))]) (by first | rfl | rw [g14, g15] | simp_all) ?_
            exact ih (i + 1) (by omega) (by omega)
set_option maxHeartbeats 4000000 in
theorem c_M_turnedt (l : Launch) (u : Un) (hA : Ap u) {σ τ : St} (fτ : fr σ τ) {n : Nat} {kd : Nat → Nat} (hb : mkOk σ n kd) {a : Nat} (ha : a < 64) (h0 : σ.1 76 0 = nI a) (code : Nat) (hc : code < 3 ^ n) : MTi l u y_M_turned b_M_turned 9 .int 1 [.ref (u.2.1 63), .int (nI code), .int 1] τ (fun ans σ' => tuS (τ.1 85) a code true n = ans ∧ τ = σ') := by
  refine MT_of hA rfl (by decide) (Nat.le_of_ble_eq_true rfl) (fun X hl F hr => ?_)
  subst hl
  refine v_to (ls' := [(0, .ref (u.2.1 63)), (1, .int (nI code)), (2, .int 1)]) rfl ?_
  obtain ⟨hn, hn6, hkd, hk6⟩ := id hb
  have h729 := p3_b hn6
  refine v_aload_n F d_M_turned_0 rfl 0 rfl ?_
  refine v_getr (r := 85) F fk_M_79 G63 rfl d_M_turned_1 ?_
  refine v_iload_n F d_M_turned_4 rfl 1 rfl ?_
  refine v_ial F code G85 rfl (by have := p3_b hn6; omega) d_M_turned_5 ?_
  refine v_istore_n (ls' := [(3, .int (τ.1 85 code)), (0, .ref (u.2.1 63)), (1, .int (nI code)), (2, .int 1)]) F d_M_turned_6 rfl (by decide) rfl ?_
  refine v_iconst (v := 1) F d_M_turned_7 ki_1 ?_
  refine v_istore (ls' := [(4, .int 1), (3, .int (τ.1 85 code)), (0, .ref (u.2.1 63)), (1, .int (nI code)), (2, .int 1)]) F d_M_turned_8 (by decide) rfl ?_
  refine v_iconst (v := 0) F d_M_turned_10 ki_0 ?_
  refine v_istore (ls' := [(5, .int 0), (4, .int 1), (3, .int (τ.1 85 code)), (0, .ref (u.2.1 63)), (1, .int (nI code)), (2, .int 1)]) F d_M_turned_11 (by decide) rfl ?_
  refine v_sub [3, 4, 5, 2, 1, 0] (ls' := [(0, .ref (u.2.1 63)), (1, .int (nI code)), (2, .int 1), (3, .int (τ.1 85 code)), (4, .int 1), (5, .int 0)]) rfl ?_
  have g1 : (τ.1 85 code) = (tuS (τ.1 85) a code true 0) := (by first | rfl | (rw [tu_n (tb_n (by assumption))]; done) | (rw [tu_n (tb_n1 (by omega))]; done) | (rw [tu_n (tb_n2 (by omega))]; done) | (rw [tu_t (tb_t (by assumption) (by omega)), if_pos (by assumption)]; done) | (rw [tu_t (tb_t (by assumption) (by omega)), if_neg (i_nlt.mpr (by assumption))]; done) | (rw [tu_f (tb_f (by assumption) (by omega)), if_pos (i_lt_le.mp (by assumption))]; done) | (rw [tu_f (tb_f (by assumption) (by omega)), if_neg (i_nlt.mpr (by assumption))]; done) | (rw [tu_t (tb_t (by assumption) (by omega)), if_pos (i_lt_le.mp (by assumption))]; done))
  have g2 : 1 = (nI (3 ^ 0)) := (by first | rfl | (rw [tu_n (tb_n (by assumption))]; done) | (rw [tu_n (tb_n1 (by omega))]; done) | (rw [tu_n (tb_n2 (by omega))]; done) | (rw [tu_t (tb_t (by assumption) (by omega)), if_pos (by assumption)]; done) | (rw [tu_t (tb_t (by assumption) (by omega)), if_neg (i_nlt.mpr (by assumption))]; done) | (rw [tu_f (tb_f (by assumption) (by omega)), if_pos (i_lt_le.mp (by assumption))]; done) | (rw [tu_f (tb_f (by assumption) (by omega)), if_neg (i_nlt.mpr (by assumption))]; done) | (rw [tu_t (tb_t (by assumption) (by omega)), if_pos (i_lt_le.mp (by assumption))]; done))
  have g3 : 0 = (nI 0) := (by first | rfl | (rw [tu_n (tb_n (by assumption))]; done) | (rw [tu_n (tb_n1 (by omega))]; done) | (rw [tu_n (tb_n2 (by omega))]; done) | (rw [tu_t (tb_t (by assumption) (by omega)), if_pos (by assumption)]; done) | (rw [tu_t (tb_t (by assumption) (by omega)), if_neg (i_nlt.mpr (by assumption))]; done) | (rw [tu_f (tb_f (by assumption) (by omega)), if_pos (i_lt_le.mp (by assumption))]; done) | (rw [tu_f (tb_f (by assumption) (by omega)), if_neg (i_nlt.mpr (by assumption))]; done) | (rw [tu_t (tb_t (by assumption) (by omega)), if_pos (i_lt_le.mp (by assumption))]; done))
  refine v_to (ls' := [(0, .ref (u.2.1 63)), (1, .int (nI code)), (2, .int 1), (3, .int (tuS (τ.1 85) a code true 0)), (4, .int (nI (3 ^ 0))), (5, .int (nI 0))]) (by first | rfl | rw [g1, g2, g3] | simp_all) ?_
  refine L_M_turned_true hA F hb ha h0 fτ hc ?_ _ 0 (Nat.zero_le _) (Nat.lt_succ_self _)
  refine v_iload_n F d_M_turned_144 rfl 3 rfl ?_
  refine v_iret F hr rfl d_M_turned_145 ?_
  exact ⟨rfl, rfl⟩
set_option maxHeartbeats 4000000 in
theorem L_M_turned_false {X : FX} {u : Un} (hA : Ap u) {Q : State → Prop} (F : Fr X u "TakerBookModel" b_M_turned 9) {σ : St} {n : Nat} {kd : Nat → Nat} (hb : mkOk σ n kd) {a : Nat} (ha : a < 64) (h0 : σ.1 76 0 = nI a) {τ : St} (fτ : fr σ τ) {code : Nat} (hc : code < 3 ^ n) (k : V X u 1 9 Q 144 [(0, .ref (u.2.1 63)), (1, .int (nI code)), (2, .int 0), (3, .int (tuS (τ.1 85) a code false n)), (4, .int (nI (3 ^ n))), (5, .int (nI n))] [] (τ)) : ∀ (nn i : Nat), i ≤ n → n - i < nn → V X u 1 9 Q 13 [(0, .ref (u.2.1 63)), (1, .int (nI code)), (2, .int 0), (3, .int (tuS (τ.1 85) a code false i)), (4, .int (nI (3 ^ i))), (5, .int (nI i))] [] (τ) := by
  intro nn
  induction nn with
  | zero =>
    intro i h1 h2
    exact absurd h2 (Nat.not_lt_zero _)
  | succ nn ih =>
    intro i hii hnn
    obtain ⟨hn, hn6, hkd, hk6⟩ := id hb
    have h729 := p3_b hn6
    have hqc : code / 3 ^ i ≤ code := Nat.div_le_self _ _
    have hp0 : 0 < 3 ^ i := Nat.pow_pos (by decide)
    have hpi : i ≤ 6 → 3 ^ i ≤ 729 := fun h => p3_b h
    have hd3 : dg code i < 3 := dg_lt
    have hup : i < n ∧ dg code i < 2 → code + 3 ^ i < 3 ^ n := fun q => dg_up n (by omega) code hc i q.1 q.2
    have hdn : i < n ∧ 0 < dg code i → 3 ^ i ≤ code := fun q => dg_dn i (by omega) code (by omega) (by have := q.2; unfold dg at this; omega)
    refine v_iload F d_M_turned_13 5 rfl ?_
    refine v_aload_n F d_M_turned_15 rfl 0 rfl ?_
    refine v_geti F fk_M_146 G63 rfl d_M_turned_16 ?_
    refine v_te (y := nI n) (fτ.v rfl hn) ?_
    refine v_icmp_ge F 144 d_M_turned_19 rfl (fun h19 => ?_) (fun h19 => ?_)
    · skip
      have h19 : n ≤ i := (nI_leI (a := n) (b := i) (by omega) (by omega)).mp h19
      have he : i = n := by omega
      subst he
      exact k
    · skip
      have h19 : ¬ n ≤ i := fun q => h19 ((nI_leI (a := n) (b := i) (by omega) (by omega)).mpr q)
      refine v_iload_n F d_M_turned_22 rfl 1 rfl ?_
      refine v_iload F d_M_turned_23 4 rfl ?_
      refine v_idiv F d_M_turned_25 (nI_ne0 (by omega) (by omega)) ?_
      refine v_te (y := nI (code / 3 ^ i)) (pk_div (by omega) (by omega) (by omega)) ?_
      refine v_iconst (v := 3) F d_M_turned_26 ki_3 ?_
      refine v_irem F d_M_turned_27 (by decide) ?_
      refine v_te (y := nI (dg code i)) (pk_rem (by omega) (by decide) (by decide)) ?_
      refine v_istore (ls' := [(6, .int (nI (dg code i))), (0, .ref (u.2.1 63)), (1, .int (nI code)), (2, .int 0), (3, .int (tuS (τ.1 85) a code false i)), (4, .int (nI (3 ^ i))), (5, .int (nI i))]) F d_M_turned_28 (by decide) rfl ?_
      refine v_aload_n F d_M_turned_30 rfl 1 rfl ?_
      refine v_getr (r := 76) F fk_M_51 G63 rfl d_M_turned_31 ?_
      refine v_iconst (v := 0) F d_M_turned_34 ki_0 ?_
      refine v_ial F 0 G76 rfl (by omega) d_M_turned_35 ?_
      refine v_te (y := nI a) (fτ.v rfl h0) ?_
      refine v_iload F d_M_turned_36 6 rfl ?_
      refine v_runi (r_S F (c_M_has2 X.2.1 u hA τ i a (by omega) (by omega)) mo_M_has st_M_155 (by decide) rfl (Nat.le_of_ble_eq_true rfl) d_M_turned_38) (fun r1 σ2 q3 => ?_)
      obtain ⟨rfl, rfl⟩ := q3
      refine v_bt F 66 d_M_turned_41 rfl (fun h41 => ?_) (fun h41 => ?_)
      · skip
        refine v_iconst (v := 0) F d_M_turned_66 ki_0 ?_
        refine v_istore (ls' := [(7, .int 0), (6, .int (nI (dg code i))), (0, .ref (u.2.1 63)), (1, .int (nI code)), (2, .int 0), (3, .int (tuS (τ.1 85) a code false i)), (4, .int (nI (3 ^ i))), (5, .int (nI i))]) F d_M_turned_67 (by decide) rfl ?_
        refine v_iload F d_M_turned_69 0 rfl ?_
        refine v_if_eq F 97 d_M_turned_71 rfl (fun _ => ?_) (fun h => absurd (by decide) h)
        refine v_iload_n F d_M_turned_97 rfl 5 rfl ?_
        refine v_istore (ls' := [(8, .int (tuS (τ.1 85) a code false i)), (7, .int 0), (6, .int (nI (dg code i))), (0, .ref (u.2.1 63)), (1, .int (nI code)), (2, .int 0), (3, .int (tuS (τ.1 85) a code false i)), (4, .int (nI (3 ^ i))), (5, .int (nI i))]) F d_M_turned_98 (by decide) rfl ?_
        refine v_iload_n F d_M_turned_100 rfl 5 rfl ?_
        refine v_if_eq F 119 d_M_turned_101 rfl (fun _ => ?_) (fun h => absurd (by decide) h)
        refine v_iload F d_M_turned_119 0 rfl ?_
        refine v_iload_n F d_M_turned_121 rfl 6 rfl ?_
        refine v_icmp_le F 130 d_M_turned_122 rfl (fun h122 => ?_) (fun h122 => ?_)
        · skip
          refine v_iload_n F d_M_turned_130 rfl 6 rfl ?_
          refine v_istore_n (ls' := [(3, .int (tuS (τ.1 85) a code false i)), (8, .int (tuS (τ.1 85) a code false i)), (7, .int 0), (6, .int (nI (dg code i))), (0, .ref (u.2.1 63)), (1, .int (nI code)), (2, .int 0), (4, .int (nI (3 ^ i))), (5, .int (nI i))]) F d_M_turned_131 rfl (by decide) rfl ?_
          refine v_iload F d_M_turned_132 7 rfl ?_
          refine v_iconst (v := 3) F d_M_turned_134 ki_3 ?_
          refine v_imul F d_M_turned_135 ?_
          refine v_te (y := nI ((3 ^ i) * 3)) (pk_mul _ _) ?_
          refine v_istore (ls' := [(4, .int (nI ((3 ^ i) * 3))), (3, .int (tuS (τ.1 85) a code false i)), (8, .int (tuS (τ.1 85) a code false i)), (7, .int 0), (6, .int (nI (dg code i))), (0, .ref (u.2.1 63)), (1, .int (nI code)), (2, .int 0), (5, .int (nI i))]) F d_M_turned_136 (by decide) rfl ?_
          refine v_iinc (v := nI (i + 1)) (ls' := [(5, .int (nI (i + 1))), (4, .int (nI ((3 ^ i) * 3))), (3, .int (tuS (τ.1 85) a code false i)), (8, .int (tuS (τ.1 85) a code false i)), (7, .int 0), (6, .int (nI (dg code i))), (0, .ref (u.2.1 63)), (1, .int (nI code)), (2, .int 0)]) F d_M_turned_138 (j := 8) rfl (nI_inc _) (by decide) rfl ?_
          refine v_goto F 13 d_M_turned_141 rfl ?_
          refine v_sub [6, 7, 8, 2, 1, 0] (ls' := [(0, .ref (u.2.1 63)), (1, .int (nI code)), (2, .int 0), (3, .int (tuS (τ.1 85) a code false i)), (4, .int (nI ((3 ^ i) * 3))), (5, .int (nI (i + 1)))]) rfl ?_
          have g4 : (tuS (τ.1 85) a code false i) = (tuS (τ.1 85) a code false (i + 1)) := (by first | rfl | (rw [tu_n (tb_n (by assumption))]; done) | (rw [tu_n (tb_n1 (by omega))]; done) | (rw [tu_n (tb_n2 (by omega))]; done) | (rw [tu_t (tb_t (by assumption) (by omega)), if_pos (by assumption)]; done) | (rw [tu_t (tb_t (by assumption) (by omega)), if_neg (i_nlt.mpr (by assumption))]; done) | (rw [tu_f (tb_f (by assumption) (by omega)), if_pos (i_lt_le.mp (by assumption))]; done) | (rw [tu_f (tb_f (by assumption) (by omega)), if_neg (i_nlt.mpr (by assumption))]; done) | (rw [tu_t (tb_t (by assumption) (by omega)), if_pos (i_lt_le.mp (by assumption))]; done))
          have g5 : (nI ((3 ^ i) * 3)) = (nI (3 ^ (i + 1))) := (by first | rfl | (rw [tu_n (tb_n (by assumption))]; done) | (rw [tu_n (tb_n1 (by omega))]; done) | (rw [tu_n (tb_n2 (by omega))]; done) | (rw [tu_t (tb_t (by assumption) (by omega)), if_pos (by assumption)]; done) | (rw [tu_t (tb_t (by assumption) (by omega)), if_neg (i_nlt.mpr (by assumption))]; done) | (rw [tu_f (tb_f (by assumption) (by omega)), if_pos (i_lt_le.mp (by assumption))]; done) | (rw [tu_f (tb_f (by assumption) (by omega)), if_neg (i_nlt.mpr (by assumption))]; done) | (rw [tu_t (tb_t (by assumption) (by omega)), if_pos (i_lt_le.mp (by assumption))]; done))
          refine v_to (ls' := [(0, .ref (u.2.1 63)), (1, .int (nI code)), (2, .int 0), (3, .int (tuS (τ.1 85) a code false (i + 1))), (4, .int (nI (3 ^ (i + 1)))), (5, .int (nI (i + 1)))]) (by first | rfl | rw [g4, g5] | simp_all) ?_
          exact ih (i + 1) (by omega) (by omega)
        · skip
          refine v_iload F d_M_turned_125 0 rfl ?_
          refine v_goto F 131 d_M_turned_127 rfl ?_
          refine v_istore_n (ls' := [(3, .int (tuS (τ.1 85) a code false i)), (8, .int (tuS (τ.1 85) a code false i)), (7, .int 0), (6, .int (nI (dg code i))), (0, .ref (u.2.1 63)), (1, .int (nI code)), (2, .int 0), (4, .int (nI (3 ^ i))), (5, .int (nI i))]) F d_M_turned_131 rfl (by decide) rfl ?_
          refine v_iload F d_M_turned_132 7 rfl ?_
          refine v_iconst (v := 3) F d_M_turned_134 ki_3 ?_
          refine v_imul F d_M_turned_135 ?_
          refine v_te (y := nI ((3 ^ i) * 3)) (pk_mul _ _) ?_
          refine v_istore (ls' := [(4, .int (nI ((3 ^ i) * 3))), (3, .int (tuS (τ.1 85) a code false i)), (8, .int (tuS (τ.1 85) a code false i)), (7, .int 0), (6, .int (nI (dg code i))), (0, .ref (u.2.1 63)), (1, .int (nI code)), (2, .int 0), (5, .int (nI i))]) F d_M_turned_136 (by decide) rfl ?_
          refine v_iinc (v := nI (i + 1)) (ls' := [(5, .int (nI (i + 1))), (4, .int (nI ((3 ^ i) * 3))), (3, .int (tuS (τ.1 85) a code false i)), (8, .int (tuS (τ.1 85) a code false i)), (7, .int 0), (6, .int (nI (dg code i))), (0, .ref (u.2.1 63)), (1, .int (nI code)), (2, .int 0)]) F d_M_turned_138 (j := 8) rfl (nI_inc _) (by decide) rfl ?_
          refine v_goto F 13 d_M_turned_141 rfl ?_
          refine v_sub [6, 7, 8, 2, 1, 0] (ls' := [(0, .ref (u.2.1 63)), (1, .int (nI code)), (2, .int 0), (3, .int (tuS (τ.1 85) a code false i)), (4, .int (nI ((3 ^ i) * 3))), (5, .int (nI (i + 1)))]) rfl ?_
          have g6 : (tuS (τ.1 85) a code false i) = (tuS (τ.1 85) a code false (i + 1)) := (by first | rfl | (rw [tu_n (tb_n (by assumption))]; done) | (rw [tu_n (tb_n1 (by omega))]; done) | (rw [tu_n (tb_n2 (by omega))]; done) | (rw [tu_t (tb_t (by assumption) (by omega)), if_pos (by assumption)]; done) | (rw [tu_t (tb_t (by assumption) (by omega)), if_neg (i_nlt.mpr (by assumption))]; done) | (rw [tu_f (tb_f (by assumption) (by omega)), if_pos (i_lt_le.mp (by assumption))]; done) | (rw [tu_f (tb_f (by assumption) (by omega)), if_neg (i_nlt.mpr (by assumption))]; done) | (rw [tu_t (tb_t (by assumption) (by omega)), if_pos (i_lt_le.mp (by assumption))]; done))
          have g7 : (nI ((3 ^ i) * 3)) = (nI (3 ^ (i + 1))) := (by first | rfl | (rw [tu_n (tb_n (by assumption))]; done) | (rw [tu_n (tb_n1 (by omega))]; done) | (rw [tu_n (tb_n2 (by omega))]; done) | (rw [tu_t (tb_t (by assumption) (by omega)), if_pos (by assumption)]; done) | (rw [tu_t (tb_t (by assumption) (by omega)), if_neg (i_nlt.mpr (by assumption))]; done) | (rw [tu_f (tb_f (by assumption) (by omega)), if_pos (i_lt_le.mp (by assumption))]; done) | (rw [tu_f (tb_f (by assumption) (by omega)), if_neg (i_nlt.mpr (by assumption))]; done) | (rw [tu_t (tb_t (by assumption) (by omega)), if_pos (i_lt_le.mp (by assumption))]; done))
          refine v_to (ls' := [(0, .ref (u.2.1 63)), (1, .int (nI code)), (2, .int 0), (3, .int (tuS (τ.1 85) a code false (i + 1))), (4, .int (nI (3 ^ (i + 1)))), (5, .int (nI (i + 1)))]) (by first | rfl | rw [g6, g7] | simp_all) ?_
          exact ih (i + 1) (by omega) (by omega)
      · skip
        refine v_iload_n F d_M_turned_44 rfl 3 rfl ?_
        refine v_if_eq F 57 d_M_turned_45 rfl (fun _ => ?_) (fun h => absurd (by decide) h)
        refine v_iload F d_M_turned_57 0 rfl ?_
        refine v_if_le F 66 d_M_turned_59 rfl (fun h59 => ?_) (fun h59 => ?_)
        · skip
          have h59 : dg code i ≤ 0 := (nI_leI (a := dg code i) (b := 0) (by omega) (by omega)).mp h59
          refine v_iconst (v := 0) F d_M_turned_66 ki_0 ?_
          refine v_istore (ls' := [(7, .int 0), (6, .int (nI (dg code i))), (0, .ref (u.2.1 63)), (1, .int (nI code)), (2, .int 0), (3, .int (tuS (τ.1 85) a code false i)), (4, .int (nI (3 ^ i))), (5, .int (nI i))]) F d_M_turned_67 (by decide) rfl ?_
          refine v_iload F d_M_turned_69 0 rfl ?_
          refine v_if_eq F 97 d_M_turned_71 rfl (fun _ => ?_) (fun h => absurd (by decide) h)
          refine v_iload_n F d_M_turned_97 rfl 5 rfl ?_
          refine v_istore (ls' := [(8, .int (tuS (τ.1 85) a code false i)), (7, .int 0), (6, .int (nI (dg code i))), (0, .ref (u.2.1 63)), (1, .int (nI code)), (2, .int 0), (3, .int (tuS (τ.1 85) a code false i)), (4, .int (nI (3 ^ i))), (5, .int (nI i))]) F d_M_turned_98 (by decide) rfl ?_
          refine v_iload_n F d_M_turned_100 rfl 5 rfl ?_
          refine v_if_eq F 119 d_M_turned_101 rfl (fun _ => ?_) (fun h => absurd (by decide) h)
          refine v_iload F d_M_turned_119 0 rfl ?_
          refine v_iload_n F d_M_turned_121 rfl 6 rfl ?_
          refine v_icmp_le F 130 d_M_turned_122 rfl (fun h122 => ?_) (fun h122 => ?_)
          · skip
            refine v_iload_n F d_M_turned_130 rfl 6 rfl ?_
            refine v_istore_n (ls' := [(3, .int (tuS (τ.1 85) a code false i)), (8, .int (tuS (τ.1 85) a code false i)), (7, .int 0), (6, .int (nI (dg code i))), (0, .ref (u.2.1 63)), (1, .int (nI code)), (2, .int 0), (4, .int (nI (3 ^ i))), (5, .int (nI i))]) F d_M_turned_131 rfl (by decide) rfl ?_
            refine v_iload F d_M_turned_132 7 rfl ?_
            refine v_iconst (v := 3) F d_M_turned_134 ki_3 ?_
            refine v_imul F d_M_turned_135 ?_
            refine v_te (y := nI ((3 ^ i) * 3)) (pk_mul _ _) ?_
            refine v_istore (ls' := [(4, .int (nI ((3 ^ i) * 3))), (3, .int (tuS (τ.1 85) a code false i)), (8, .int (tuS (τ.1 85) a code false i)), (7, .int 0), (6, .int (nI (dg code i))), (0, .ref (u.2.1 63)), (1, .int (nI code)), (2, .int 0), (5, .int (nI i))]) F d_M_turned_136 (by decide) rfl ?_
            refine v_iinc (v := nI (i + 1)) (ls' := [(5, .int (nI (i + 1))), (4, .int (nI ((3 ^ i) * 3))), (3, .int (tuS (τ.1 85) a code false i)), (8, .int (tuS (τ.1 85) a code false i)), (7, .int 0), (6, .int (nI (dg code i))), (0, .ref (u.2.1 63)), (1, .int (nI code)), (2, .int 0)]) F d_M_turned_138 (j := 8) rfl (nI_inc _) (by decide) rfl ?_
            refine v_goto F 13 d_M_turned_141 rfl ?_
            refine v_sub [6, 7, 8, 2, 1, 0] (ls' := [(0, .ref (u.2.1 63)), (1, .int (nI code)), (2, .int 0), (3, .int (tuS (τ.1 85) a code false i)), (4, .int (nI ((3 ^ i) * 3))), (5, .int (nI (i + 1)))]) rfl ?_
            have g8 : (tuS (τ.1 85) a code false i) = (tuS (τ.1 85) a code false (i + 1)) := (by first | rfl | (rw [tu_n (tb_n (by assumption))]; done) | (rw [tu_n (tb_n1 (by omega))]; done) | (rw [tu_n (tb_n2 (by omega))]; done) | (rw [tu_t (tb_t (by assumption) (by omega)), if_pos (by assumption)]; done) | (rw [tu_t (tb_t (by assumption) (by omega)), if_neg (i_nlt.mpr (by assumption))]; done) | (rw [tu_f (tb_f (by assumption) (by omega)), if_pos (i_lt_le.mp (by assumption))]; done) | (rw [tu_f (tb_f (by assumption) (by omega)), if_neg (i_nlt.mpr (by assumption))]; done) | (rw [tu_t (tb_t (by assumption) (by omega)), if_pos (i_lt_le.mp (by assumption))]; done))
            have g9 : (nI ((3 ^ i) * 3)) = (nI (3 ^ (i + 1))) := (by first | rfl | (rw [tu_n (tb_n (by assumption))]; done) | (rw [tu_n (tb_n1 (by omega))]; done) | (rw [tu_n (tb_n2 (by omega))]; done) | (rw [tu_t (tb_t (by assumption) (by omega)), if_pos (by assumption)]; done) | (rw [tu_t (tb_t (by assumption) (by omega)), if_neg (i_nlt.mpr (by assumption))]; done) | (rw [tu_f (tb_f (by assumption) (by omega)), if_pos (i_lt_le.mp (by assumption))]; done) | (rw [tu_f (tb_f (by assumption) (by omega)), if_neg (i_nlt.mpr (by assumption))]; done) | (rw [tu_t (tb_t (by assumption) (by omega)), if_pos (i_lt_le.mp (by assumption))]; done))
            refine v_to (ls' := [(0, .ref (u.2.1 63)), (1, .int (nI code)), (2, .int 0), (3, .int (tuS (τ.1 85) a code false (i + 1))), (4, .int (nI (3 ^ (i + 1)))), (5, .int (nI (i + 1)))]) (by first | rfl | rw [g8, g9] | simp_all) ?_
            exact ih (i + 1) (by omega) (by omega)
          · skip
            refine v_iload F d_M_turned_125 0 rfl ?_
            refine v_goto F 131 d_M_turned_127 rfl ?_
            refine v_istore_n (ls' := [(3, .int (tuS (τ.1 85) a code false i)), (8, .int (tuS (τ.1 85) a code false i)), (7, .int 0), (6, .int (nI (dg code i))), (0, .ref (u.2.1 63)), (1, .int (nI code)), (2, .int 0), (4, .int (nI (3 ^ i))), (5, .int (nI i))]) F d_M_turned_131 rfl (by decide) rfl ?_
            refine v_iload F d_M_turned_132 7 rfl ?_
            refine v_iconst (v := 3) F d_M_turned_134 ki_3 ?_
            refine v_imul F d_M_turned_135 ?_
            refine v_te (y := nI ((3 ^ i) * 3)) (pk_mul _ _) ?_
            refine v_istore (ls' := [(4, .int (nI ((3 ^ i) * 3))), (3, .int (tuS (τ.1 85) a code false i)), (8, .int (tuS (τ.1 85) a code false i)), (7, .int 0), (6, .int (nI (dg code i))), (0, .ref (u.2.1 63)), (1, .int (nI code)), (2, .int 0), (5, .int (nI i))]) F d_M_turned_136 (by decide) rfl ?_
            refine v_iinc (v := nI (i + 1)) (ls' := [(5, .int (nI (i + 1))), (4, .int (nI ((3 ^ i) * 3))), (3, .int (tuS (τ.1 85) a code false i)), (8, .int (tuS (τ.1 85) a code false i)), (7, .int 0), (6, .int (nI (dg code i))), (0, .ref (u.2.1 63)), (1, .int (nI code)), (2, .int 0)]) F d_M_turned_138 (j := 8) rfl (nI_inc _) (by decide) rfl ?_
            refine v_goto F 13 d_M_turned_141 rfl ?_
            refine v_sub [6, 7, 8, 2, 1, 0] (ls' := [(0, .ref (u.2.1 63)), (1, .int (nI code)), (2, .int 0), (3, .int (tuS (τ.1 85) a code false i)), (4, .int (nI ((3 ^ i) * 3))), (5, .int (nI (i + 1)))]) rfl ?_
            have g10 : (tuS (τ.1 85) a code false i) = (tuS (τ.1 85) a code false (i + 1)) := (by first | rfl | (rw [tu_n (tb_n (by assumption))]; done) | (rw [tu_n (tb_n1 (by omega))]; done) | (rw [tu_n (tb_n2 (by omega))]; done) | (rw [tu_t (tb_t (by assumption) (by omega)), if_pos (by assumption)]; done) | (rw [tu_t (tb_t (by assumption) (by omega)), if_neg (i_nlt.mpr (by assumption))]; done) | (rw [tu_f (tb_f (by assumption) (by omega)), if_pos (i_lt_le.mp (by assumption))]; done) | (rw [tu_f (tb_f (by assumption) (by omega)), if_neg (i_nlt.mpr (by assumption))]; done) | (rw [tu_t (tb_t (by assumption) (by omega)), if_pos (i_lt_le.mp (by assumption))]; done))
            have g11 : (nI ((3 ^ i) * 3)) = (nI (3 ^ (i + 1))) := (by first | rfl | (rw [tu_n (tb_n (by assumption))]; done) | (rw [tu_n (tb_n1 (by omega))]; done) | (rw [tu_n (tb_n2 (by omega))]; done) | (rw [tu_t (tb_t (by assumption) (by omega)), if_pos (by assumption)]; done) | (rw [tu_t (tb_t (by assumption) (by omega)), if_neg (i_nlt.mpr (by assumption))]; done) | (rw [tu_f (tb_f (by assumption) (by omega)), if_pos (i_lt_le.mp (by assumption))]; done) | (rw [tu_f (tb_f (by assumption) (by omega)), if_neg (i_nlt.mpr (by assumption))]; done) | (rw [tu_t (tb_t (by assumption) (by omega)), if_pos (i_lt_le.mp (by assumption))]; done))
            refine v_to (ls' := [(0, .ref (u.2.1 63)), (1, .int (nI code)), (2, .int 0), (3, .int (tuS (τ.1 85) a code false (i + 1))), (4, .int (nI (3 ^ (i + 1)))), (5, .int (nI (i + 1)))]) (by first | rfl | rw [g10, g11] | simp_all) ?_
            exact ih (i + 1) (by omega) (by omega)
        · skip
          have h59 : ¬ dg code i ≤ 0 := fun q => h59 ((nI_leI (a := dg code i) (b := 0) (by omega) (by omega)).mpr q)
          refine v_iconst (v := 1) F d_M_turned_62 ki_1 ?_
          refine v_goto F 67 d_M_turned_63 rfl ?_
          refine v_istore (ls' := [(7, .int 1), (6, .int (nI (dg code i))), (0, .ref (u.2.1 63)), (1, .int (nI code)), (2, .int 0), (3, .int (tuS (τ.1 85) a code false i)), (4, .int (nI (3 ^ i))), (5, .int (nI i))]) F d_M_turned_67 (by decide) rfl ?_
          refine v_iload F d_M_turned_69 0 rfl ?_
          refine v_if_eq F 97 d_M_turned_71 rfl (fun h => absurd h (by decide)) (fun _ => ?_)
          refine v_aload_n F d_M_turned_74 rfl 2 rfl ?_
          refine v_getr (r := 85) F fk_M_79 G63 rfl d_M_turned_75 ?_
          refine v_iload_n F d_M_turned_78 rfl 4 rfl ?_
          refine v_if_eq F 89 d_M_turned_79 rfl (fun _ => ?_) (fun h => absurd (by decide) h)
          refine v_iload_n F d_M_turned_89 rfl 3 rfl ?_
          refine v_iload F d_M_turned_90 6 rfl ?_
          refine v_isub F d_M_turned_92 ?_
          refine v_te (y := nI (code - 3 ^ i)) (pk_sub (hdn (by omega))) ?_
          refine v_ial F (code - 3 ^ i) G85 rfl (by first | omega | (have := hup (by omega); omega)) d_M_turned_93 ?_
          refine v_goto F 98 d_M_turned_94 rfl ?_
          refine v_istore (ls' := [(8, .int (τ.1 85 (code - 3 ^ i))), (7, .int 1), (6, .int (nI (dg code i))), (0, .ref (u.2.1 63)), (1, .int (nI code)), (2, .int 0), (3, .int (tuS (τ.1 85) a code false i)), (4, .int (nI (3 ^ i))), (5, .int (nI i))]) F d_M_turned_98 (by decide) rfl ?_
          refine v_iload_n F d_M_turned_100 rfl 5 rfl ?_
          refine v_if_eq F 119 d_M_turned_101 rfl (fun _ => ?_) (fun h => absurd (by decide) h)
          refine v_iload F d_M_turned_119 0 rfl ?_
          refine v_iload_n F d_M_turned_121 rfl 6 rfl ?_
          refine v_icmp_le F 130 d_M_turned_122 rfl (fun h122 => ?_) (fun h122 => ?_)
          · skip
            refine v_iload_n F d_M_turned_130 rfl 6 rfl ?_
            refine v_istore_n (ls' := [(3, .int (tuS (τ.1 85) a code false i)), (8, .int (τ.1 85 (code - 3 ^ i))), (7, .int 1), (6, .int (nI (dg code i))), (0, .ref (u.2.1 63)), (1, .int (nI code)), (2, .int 0), (4, .int (nI (3 ^ i))), (5, .int (nI i))]) F d_M_turned_131 rfl (by decide) rfl ?_
            refine v_iload F d_M_turned_132 7 rfl ?_
            refine v_iconst (v := 3) F d_M_turned_134 ki_3 ?_
            refine v_imul F d_M_turned_135 ?_
            refine v_te (y := nI ((3 ^ i) * 3)) (pk_mul _ _) ?_
            refine v_istore (ls' := [(4, .int (nI ((3 ^ i) * 3))), (3, .int (tuS (τ.1 85) a code false i)), (8, .int (τ.1 85 (code - 3 ^ i))), (7, .int 1), (6, .int (nI (dg code i))), (0, .ref (u.2.1 63)), (1, .int (nI code)), (2, .int 0), (5, .int (nI i))]) F d_M_turned_136 (by decide) rfl ?_
            refine v_iinc (v := nI (i + 1)) (ls' := [(5, .int (nI (i + 1))), (4, .int (nI ((3 ^ i) * 3))), (3, .int (tuS (τ.1 85) a code false i)), (8, .int (τ.1 85 (code - 3 ^ i))), (7, .int 1), (6, .int (nI (dg code i))), (0, .ref (u.2.1 63)), (1, .int (nI code)), (2, .int 0)]) F d_M_turned_138 (j := 8) rfl (nI_inc _) (by decide) rfl ?_
            refine v_goto F 13 d_M_turned_141 rfl ?_
            refine v_sub [6, 7, 8, 2, 1, 0] (ls' := [(0, .ref (u.2.1 63)), (1, .int (nI code)), (2, .int 0), (3, .int (tuS (τ.1 85) a code false i)), (4, .int (nI ((3 ^ i) * 3))), (5, .int (nI (i + 1)))]) rfl ?_
            have g12 : (tuS (τ.1 85) a code false i) = (tuS (τ.1 85) a code false (i + 1)) := (by first | rfl | (rw [tu_n (tb_n (by assumption))]; done) | (rw [tu_n (tb_n1 (by omega))]; done) | (rw [tu_n (tb_n2 (by omega))]; done) | (rw [tu_t (tb_t (by assumption) (by omega)), if_pos (by assumption)]; done) | (rw [tu_t (tb_t (by assumption) (by omega)), if_neg (i_nlt.mpr (by assumption))]; done) | (rw [tu_f (tb_f (by assumption) (by omega)), if_pos (i_lt_le.mp (by assumption))]; done) | (rw [tu_f (tb_f (by assumption) (by omega)), if_neg (i_nlt.mpr (by assumption))]; done) | (rw [tu_t (tb_t (by assumption) (by omega)), if_pos (i_lt_le.mp (by assumption))]; done))
            have g13 : (nI ((3 ^ i) * 3)) = (nI (3 ^ (i + 1))) := (by first | rfl | (rw [tu_n (tb_n (by assumption))]; done) | (rw [tu_n (tb_n1 (by omega))]; done) | (rw [tu_n (tb_n2 (by omega))]; done) | (rw [tu_t (tb_t (by assumption) (by omega)), if_pos (by assumption)]; done) | (rw [tu_t (tb_t (by assumption) (by omega)), if_neg (i_nlt.mpr (by assumption))]; done) | (rw [tu_f (tb_f (by assumption) (by omega)), if_pos (i_lt_le.mp (by assumption))]; done) | (rw [tu_f (tb_f (by assumption) (by omega)), if_neg (i_nlt.mpr (by assumption))]; done) | (rw [tu_t (tb_t (by assumption) (by omega)), if_pos (i_lt_le.mp (by assumption))]; done))
            refine v_to (ls' := [(0, .ref (u.2.1 63)), (1, .int (nI code)), (2, .int 0), (3, .int (tuS (τ.1 85) a code false (i + 1))), (4, .int (nI (3 ^ (i + 1)))), (5, .int (nI (i + 1)))]) (by first | rfl | rw [g12, g13] | simp_all) ?_
            exact ih (i + 1) (by omega) (by omega)
          · skip
            refine v_iload F d_M_turned_125 0 rfl ?_
            refine v_goto F 131 d_M_turned_127 rfl ?_
            refine v_istore_n (ls' := [(3, .int (τ.1 85 (code - 3 ^ i))), (8, .int (τ.1 85 (code - 3 ^ i))), (7, .int 1), (6, .int (nI (dg code i))), (0, .ref (u.2.1 63)), (1, .int (nI code)), (2, .int 0), (4, .int (nI (3 ^ i))), (5, .int (nI i))]) F d_M_turned_131 rfl (by decide) rfl ?_
            refine v_iload F d_M_turned_132 7 rfl ?_
            refine v_iconst (v := 3) F d_M_turned_134 ki_3 ?_
            refine v_imul F d_M_turned_135 ?_
            refine v_te (y := nI ((3 ^ i) * 3)) (pk_mul _ _) ?_
            refine v_istore (ls' := [(4, .int (nI ((3 ^ i) * 3))), (3, .int (τ.1 85 (code - 3 ^ i))), (8, .int (τ.1 85 (code - 3 ^ i))), (7, .int 1), (6, .int (nI (dg code i))), (0, .ref (u.2.1 63)), (1, .int (nI code)), (2, .int 0), (5, .int (nI i))]) F d_M_turned_136 (by decide) rfl ?_
            refine v_iinc (v := nI (i + 1)) (ls' := [(5, .int (nI (i + 1))), (4, .int (nI ((3 ^ i) * 3))), (3, .int (τ.1 85 (code - 3 ^ i))), (8, .int (τ.1 85 (code - 3 ^ i))), (7, .int 1), (6, .int (nI (dg code i))), (0, .ref (u.2.1 63)), (1, .int (nI code)), (2, .int 0)]) F d_M_turned_138 (j := 8) rfl (nI_inc _) (by decide) rfl ?_
            refine v_goto F 13 d_M_turned_141 rfl ?_
            refine v_sub [6, 7, 8, 2, 1, 0] (ls' := [(0, .ref (u.2.1 63)), (1, .int (nI code)), (2, .int 0), (3, .int (τ.1 85 (code - 3 ^ i))), (4, .int (nI ((3 ^ i) * 3))), (5, .int (nI (i + 1)))]) rfl ?_
            have g14 : (τ.1 85 (code - 3 ^ i)) = (tuS (τ.1 85) a code false (i + 1)) := (by first | rfl | (rw [tu_n (tb_n (by assumption))]; done) | (rw [tu_n (tb_n1 (by omega))]; done) | (rw [tu_n (tb_n2 (by omega))]; done) | (rw [tu_t (tb_t (by assumption) (by omega)), if_pos (by assumption)]; done) | (rw [tu_t (tb_t (by assumption) (by omega)), if_neg (i_nlt.mpr (by assumption))]; done) | (rw [tu_f (tb_f (by assumption) (by omega)), if_pos (i_lt_le.mp (by assumption))]; done) | (rw [tu_f (tb_f (by assumption) (by omega)), if_neg (i_nlt.mpr (by assumption))]; done) | (rw [tu_t (tb_t (by assumption) (by omega)), if_pos (i_lt_le.mp (by assumption))]; done))
            have g15 : (nI ((3 ^ i) * 3)) = (nI (3 ^ (i + 1))) := (by first | rfl | (rw [tu_n (tb_n (by assumption))]; done) | (rw [tu_n (tb_n1 (by omega))]; done) | (rw [tu_n (tb_n2 (by omega))]; done) | (rw [tu_t (tb_t (by assumption) (by omega)), if_pos (by assumption)]; done) | (rw [tu_t (tb_t (by assumption) (by omega)), if_neg (i_nlt.mpr (by assumption))]; done) | (rw [tu_f (tb_f (by assumption) (by omega)), if_pos (i_lt_le.mp (by assumption))]; done) | (rw [tu_f (tb_f (by assumption) (by omega)), if_neg (i_nlt.mpr (by assumption))]; done) | (rw [tu_t (tb_t (by assumption) (by omega)), if_pos (i_lt_le.mp (by assumption))]; done))
            refine v_to (ls' := [(0, .ref (u.2.1 63)), (1, .int (nI code)), (2, .int 0), (3, .int (tuS (τ.1 85) a code false (i + 1))), (4, .int (nI (3 ^ (i + 1)))), (5, .int (nI (i + 1)))]) (by first | rfl | rw [g14, g15] | simp_all) ?_
            exact ih (i + 1) (by omega) (by omega)
set_option maxHeartbeats 4000000 in
theorem c_M_turnedf (l : Launch) (u : Un) (hA : Ap u) {σ τ : St} (fτ : fr σ τ) {n : Nat} {kd : Nat → Nat} (hb : mkOk σ n kd) {a : Nat} (ha : a < 64) (h0 : σ.1 76 0 = nI a) (code : Nat) (hc : code < 3 ^ n) : MTi l u y_M_turned b_M_turned 9 .int 1 [.ref (u.2.1 63), .int (nI code), .int 0] τ (fun ans σ' => tuS (τ.1 85) a code false n = ans ∧ τ = σ') := by
  refine MT_of hA rfl (by decide) (Nat.le_of_ble_eq_true rfl) (fun X hl F hr => ?_)
  subst hl
  refine v_to (ls' := [(0, .ref (u.2.1 63)), (1, .int (nI code)), (2, .int 0)]) rfl ?_
  obtain ⟨hn, hn6, hkd, hk6⟩ := id hb
  have h729 := p3_b hn6
  refine v_aload_n F d_M_turned_0 rfl 0 rfl ?_
  refine v_getr (r := 85) F fk_M_79 G63 rfl d_M_turned_1 ?_
  refine v_iload_n F d_M_turned_4 rfl 1 rfl ?_
  refine v_ial F code G85 rfl (by have := p3_b hn6; omega) d_M_turned_5 ?_
  refine v_istore_n (ls' := [(3, .int (τ.1 85 code)), (0, .ref (u.2.1 63)), (1, .int (nI code)), (2, .int 0)]) F d_M_turned_6 rfl (by decide) rfl ?_
  refine v_iconst (v := 1) F d_M_turned_7 ki_1 ?_
  refine v_istore (ls' := [(4, .int 1), (3, .int (τ.1 85 code)), (0, .ref (u.2.1 63)), (1, .int (nI code)), (2, .int 0)]) F d_M_turned_8 (by decide) rfl ?_
  refine v_iconst (v := 0) F d_M_turned_10 ki_0 ?_
  refine v_istore (ls' := [(5, .int 0), (4, .int 1), (3, .int (τ.1 85 code)), (0, .ref (u.2.1 63)), (1, .int (nI code)), (2, .int 0)]) F d_M_turned_11 (by decide) rfl ?_
  refine v_sub [3, 4, 5, 2, 1, 0] (ls' := [(0, .ref (u.2.1 63)), (1, .int (nI code)), (2, .int 0), (3, .int (τ.1 85 code)), (4, .int 1), (5, .int 0)]) rfl ?_
  have g1 : (τ.1 85 code) = (tuS (τ.1 85) a code false 0) := (by first | rfl | (rw [tu_n (tb_n (by assumption))]; done) | (rw [tu_n (tb_n1 (by omega))]; done) | (rw [tu_n (tb_n2 (by omega))]; done) | (rw [tu_t (tb_t (by assumption) (by omega)), if_pos (by assumption)]; done) | (rw [tu_t (tb_t (by assumption) (by omega)), if_neg (i_nlt.mpr (by assumption))]; done) | (rw [tu_f (tb_f (by assumption) (by omega)), if_pos (i_lt_le.mp (by assumption))]; done) | (rw [tu_f (tb_f (by assumption) (by omega)), if_neg (i_nlt.mpr (by assumption))]; done) | (rw [tu_t (tb_t (by assumption) (by omega)), if_pos (i_lt_le.mp (by assumption))]; done))
  have g2 : 1 = (nI (3 ^ 0)) := (by first | rfl | (rw [tu_n (tb_n (by assumption))]; done) | (rw [tu_n (tb_n1 (by omega))]; done) | (rw [tu_n (tb_n2 (by omega))]; done) | (rw [tu_t (tb_t (by assumption) (by omega)), if_pos (by assumption)]; done) | (rw [tu_t (tb_t (by assumption) (by omega)), if_neg (i_nlt.mpr (by assumption))]; done) | (rw [tu_f (tb_f (by assumption) (by omega)), if_pos (i_lt_le.mp (by assumption))]; done) | (rw [tu_f (tb_f (by assumption) (by omega)), if_neg (i_nlt.mpr (by assumption))]; done) | (rw [tu_t (tb_t (by assumption) (by omega)), if_pos (i_lt_le.mp (by assumption))]; done))
  have g3 : 0 = (nI 0) := (by first | rfl | (rw [tu_n (tb_n (by assumption))]; done) | (rw [tu_n (tb_n1 (by omega))]; done) | (rw [tu_n (tb_n2 (by omega))]; done) | (rw [tu_t (tb_t (by assumption) (by omega)), if_pos (by assumption)]; done) | (rw [tu_t (tb_t (by assumption) (by omega)), if_neg (i_nlt.mpr (by assumption))]; done) | (rw [tu_f (tb_f (by assumption) (by omega)), if_pos (i_lt_le.mp (by assumption))]; done) | (rw [tu_f (tb_f (by assumption) (by omega)), if_neg (i_nlt.mpr (by assumption))]; done) | (rw [tu_t (tb_t (by assumption) (by omega)), if_pos (i_lt_le.mp (by assumption))]; done))
  refine v_to (ls' := [(0, .ref (u.2.1 63)), (1, .int (nI code)), (2, .int 0), (3, .int (tuS (τ.1 85) a code false 0)), (4, .int (nI (3 ^ 0))), (5, .int (nI 0))]) (by first | rfl | rw [g1, g2, g3] | simp_all) ?_
  refine L_M_turned_false hA F hb ha h0 fτ hc ?_ _ 0 (Nat.zero_le _) (Nat.lt_succ_self _)
  refine v_iload_n F d_M_turned_144 rfl 3 rfl ?_
  refine v_iret F hr rfl d_M_turned_145 ?_
  exact ⟨rfl, rfl⟩
abbrev b_M_duel : ByteArray := prog_14_method_86_code
abbrev y_M_duel : MethodName := ⟨"TakerBookModel", "duel", "(I)I"⟩
theorem d_M_duel_0 : decode b_M_duel 0 = .ok (.aload_n 0, 1) := by decide +kernel
theorem d_M_duel_1 : decode b_M_duel 1 = .ok (.iload_n 1, 1) := by decide +kernel
theorem d_M_duel_2 : decode b_M_duel 2 = .ok (.iconst 0, 1) := by decide +kernel
theorem d_M_duel_3 : decode b_M_duel 3 = .ok (.iconst 4, 1) := by decide +kernel
theorem d_M_duel_4 : decode b_M_duel 4 = .ok (.invokestatic 89, 3) := by decide +kernel
theorem d_M_duel_7 : decode b_M_duel 7 = .ok (.invokevirtual 229, 3) := by decide +kernel
theorem d_M_duel_10 : decode b_M_duel 10 = .ok (.istore_n 2, 1) := by decide +kernel
theorem d_M_duel_11 : decode b_M_duel 11 = .ok (.iload_n 2, 1) := by decide +kernel
theorem d_M_duel_12 : decode b_M_duel 12 = .ok (.ifCond .ge 5, 3) := by decide +kernel
theorem d_M_duel_15 : decode b_M_duel 15 = .ok (.iload_n 2, 1) := by decide +kernel
theorem d_M_duel_16 : decode b_M_duel 16 = .ok (.ireturn, 1) := by decide +kernel
theorem d_M_duel_17 : decode b_M_duel 17 = .ok (.iconst 0, 1) := by decide +kernel
theorem d_M_duel_18 : decode b_M_duel 18 = .ok (.istore_n 3, 1) := by decide +kernel
theorem d_M_duel_19 : decode b_M_duel 19 = .ok (.aload_n 0, 1) := by decide +kernel
theorem d_M_duel_20 : decode b_M_duel 20 = .ok (.getfield 146, 3) := by decide +kernel
theorem d_M_duel_23 : decode b_M_duel 23 = .ok (.iconst 1, 1) := by decide +kernel
theorem d_M_duel_24 : decode b_M_duel 24 = .ok (.isub, 1) := by decide +kernel
theorem d_M_duel_25 : decode b_M_duel 25 = .ok (.istore 4, 2) := by decide +kernel
theorem d_M_duel_27 : decode b_M_duel 27 = .ok (.iload 4, 2) := by decide +kernel
theorem d_M_duel_29 : decode b_M_duel 29 = .ok (.ifCond .lt 23, 3) := by decide +kernel
theorem d_M_duel_32 : decode b_M_duel 32 = .ok (.iconst 3, 1) := by decide +kernel
theorem d_M_duel_33 : decode b_M_duel 33 = .ok (.iload_n 3, 1) := by decide +kernel
theorem d_M_duel_34 : decode b_M_duel 34 = .ok (.imul, 1) := by decide +kernel
theorem d_M_duel_35 : decode b_M_duel 35 = .ok (.aload_n 0, 1) := by decide +kernel
theorem d_M_duel_36 : decode b_M_duel 36 = .ok (.getfield 51, 3) := by decide +kernel
theorem d_M_duel_39 : decode b_M_duel 39 = .ok (.iconst 5, 1) := by decide +kernel
theorem d_M_duel_40 : decode b_M_duel 40 = .ok (.iload 4, 2) := by decide +kernel
theorem d_M_duel_42 : decode b_M_duel 42 = .ok (.iadd, 1) := by decide +kernel
theorem d_M_duel_43 : decode b_M_duel 43 = .ok (.iaload, 1) := by decide +kernel
theorem d_M_duel_44 : decode b_M_duel 44 = .ok (.iadd, 1) := by decide +kernel
theorem d_M_duel_45 : decode b_M_duel 45 = .ok (.istore_n 3, 1) := by decide +kernel
theorem d_M_duel_46 : decode b_M_duel 46 = .ok (.iinc 4 (-1), 3) := by decide +kernel
theorem d_M_duel_49 : decode b_M_duel 49 = .ok (.goto (-22), 3) := by decide +kernel
theorem d_M_duel_52 : decode b_M_duel 52 = .ok (.iconst 0, 1) := by decide +kernel
theorem d_M_duel_53 : decode b_M_duel 53 = .ok (.istore 4, 2) := by decide +kernel
theorem d_M_duel_55 : decode b_M_duel 55 = .ok (.iload 4, 2) := by decide +kernel
theorem d_M_duel_57 : decode b_M_duel 57 = .ok (.aload_n 0, 1) := by decide +kernel
theorem d_M_duel_58 : decode b_M_duel 58 = .ok (.invokevirtual 219, 3) := by decide +kernel
theorem d_M_duel_61 : decode b_M_duel 61 = .ok (.if_icmp .ge 72, 3) := by decide +kernel
theorem d_M_duel_64 : decode b_M_duel 64 = .ok (.aload_n 0, 1) := by decide +kernel
theorem d_M_duel_65 : decode b_M_duel 65 = .ok (.invokevirtual 215, 3) := by decide +kernel
theorem d_M_duel_68 : decode b_M_duel 68 = .ok (.iload 4, 2) := by decide +kernel
theorem d_M_duel_70 : decode b_M_duel 70 = .ok (.istore 5, 2) := by decide +kernel
theorem d_M_duel_72 : decode b_M_duel 72 = .ok (.iconst 0, 1) := by decide +kernel
theorem d_M_duel_73 : decode b_M_duel 73 = .ok (.istore 6, 2) := by decide +kernel
theorem d_M_duel_75 : decode b_M_duel 75 = .ok (.iload 6, 2) := by decide +kernel
theorem d_M_duel_77 : decode b_M_duel 77 = .ok (.aload_n 0, 1) := by decide +kernel
theorem d_M_duel_78 : decode b_M_duel 78 = .ok (.getfield 146, 3) := by decide +kernel
theorem d_M_duel_81 : decode b_M_duel 81 = .ok (.if_icmp .ge 28, 3) := by decide +kernel
theorem d_M_duel_84 : decode b_M_duel 84 = .ok (.aload_n 0, 1) := by decide +kernel
theorem d_M_duel_85 : decode b_M_duel 85 = .ok (.getfield 54, 3) := by decide +kernel
theorem d_M_duel_88 : decode b_M_duel 88 = .ok (.iconst 5, 1) := by decide +kernel
theorem d_M_duel_89 : decode b_M_duel 89 = .ok (.iload 6, 2) := by decide +kernel
theorem d_M_duel_91 : decode b_M_duel 91 = .ok (.iadd, 1) := by decide +kernel
theorem d_M_duel_92 : decode b_M_duel 92 = .ok (.iload 5, 2) := by decide +kernel
theorem d_M_duel_94 : decode b_M_duel 94 = .ok (.iconst 3, 1) := by decide +kernel
theorem d_M_duel_95 : decode b_M_duel 95 = .ok (.irem, 1) := by decide +kernel
theorem d_M_duel_96 : decode b_M_duel 96 = .ok (.iastore, 1) := by decide +kernel
theorem d_M_duel_97 : decode b_M_duel 97 = .ok (.iload 5, 2) := by decide +kernel
theorem d_M_duel_99 : decode b_M_duel 99 = .ok (.iconst 3, 1) := by decide +kernel
theorem d_M_duel_100 : decode b_M_duel 100 = .ok (.idiv, 1) := by decide +kernel
theorem d_M_duel_101 : decode b_M_duel 101 = .ok (.istore 5, 2) := by decide +kernel
theorem d_M_duel_103 : decode b_M_duel 103 = .ok (.iinc 6 1, 3) := by decide +kernel
theorem d_M_duel_106 : decode b_M_duel 106 = .ok (.goto (-31), 3) := by decide +kernel
theorem d_M_duel_109 : decode b_M_duel 109 = .ok (.aload_n 0, 1) := by decide +kernel
theorem d_M_duel_110 : decode b_M_duel 110 = .ok (.getfield 79, 3) := by decide +kernel
theorem d_M_duel_113 : decode b_M_duel 113 = .ok (.iload 4, 2) := by decide +kernel
theorem d_M_duel_115 : decode b_M_duel 115 = .ok (.aload_n 0, 1) := by decide +kernel
theorem d_M_duel_116 : decode b_M_duel 116 = .ok (.aload_n 0, 1) := by decide +kernel
theorem d_M_duel_117 : decode b_M_duel 117 = .ok (.getfield 54, 3) := by decide +kernel
theorem d_M_duel_120 : decode b_M_duel 120 = .ok (.invokevirtual 171, 3) := by decide +kernel
theorem d_M_duel_123 : decode b_M_duel 123 = .ok (.invokestatic 175, 3) := by decide +kernel
theorem d_M_duel_126 : decode b_M_duel 126 = .ok (.iastore, 1) := by decide +kernel
theorem d_M_duel_127 : decode b_M_duel 127 = .ok (.iinc 4 1, 3) := by decide +kernel
theorem d_M_duel_130 : decode b_M_duel 130 = .ok (.goto (-75), 3) := by decide +kernel
theorem d_M_duel_133 : decode b_M_duel 133 = .ok (.iload_n 1, 1) := by decide +kernel
theorem d_M_duel_134 : decode b_M_duel 134 = .ok (.iconst 1, 1) := by decide +kernel
theorem d_M_duel_135 : decode b_M_duel 135 = .ok (.isub, 1) := by decide +kernel
theorem d_M_duel_136 : decode b_M_duel 136 = .ok (.istore 4, 2) := by decide +kernel
theorem d_M_duel_138 : decode b_M_duel 138 = .ok (.iload 4, 2) := by decide +kernel
theorem d_M_duel_140 : decode b_M_duel 140 = .ok (.ifCond .lt 84, 3) := by decide +kernel
theorem d_M_duel_143 : decode b_M_duel 143 = .ok (.iconst 0, 1) := by decide +kernel
theorem d_M_duel_144 : decode b_M_duel 144 = .ok (.istore 5, 2) := by decide +kernel
theorem d_M_duel_146 : decode b_M_duel 146 = .ok (.iload 5, 2) := by decide +kernel
theorem d_M_duel_148 : decode b_M_duel 148 = .ok (.aload_n 0, 1) := by decide +kernel
theorem d_M_duel_149 : decode b_M_duel 149 = .ok (.invokevirtual 219, 3) := by decide +kernel
theorem d_M_duel_152 : decode b_M_duel 152 = .ok (.if_icmp .ge 34, 3) := by decide +kernel
theorem d_M_duel_155 : decode b_M_duel 155 = .ok (.aload_n 0, 1) := by decide +kernel
theorem d_M_duel_156 : decode b_M_duel 156 = .ok (.getfield 82, 3) := by decide +kernel
theorem d_M_duel_159 : decode b_M_duel 159 = .ok (.iload 5, 2) := by decide +kernel
theorem d_M_duel_161 : decode b_M_duel 161 = .ok (.aload_n 0, 1) := by decide +kernel
theorem d_M_duel_162 : decode b_M_duel 162 = .ok (.iload 5, 2) := by decide +kernel
theorem d_M_duel_164 : decode b_M_duel 164 = .ok (.iload 4, 2) := by decide +kernel
theorem d_M_duel_166 : decode b_M_duel 166 = .ok (.iconst 2, 1) := by decide +kernel
theorem d_M_duel_167 : decode b_M_duel 167 = .ok (.irem, 1) := by decide +kernel
theorem d_M_duel_168 : decode b_M_duel 168 = .ok (.ifCond .ne 7, 3) := by decide +kernel
theorem d_M_duel_171 : decode b_M_duel 171 = .ok (.iconst 1, 1) := by decide +kernel
theorem d_M_duel_172 : decode b_M_duel 172 = .ok (.goto 4, 3) := by decide +kernel
theorem d_M_duel_175 : decode b_M_duel 175 = .ok (.iconst 0, 1) := by decide +kernel
theorem d_M_duel_176 : decode b_M_duel 176 = .ok (.invokevirtual 284, 3) := by decide +kernel
theorem d_M_duel_179 : decode b_M_duel 179 = .ok (.iastore, 1) := by decide +kernel
theorem d_M_duel_180 : decode b_M_duel 180 = .ok (.iinc 5 1, 3) := by decide +kernel
theorem d_M_duel_183 : decode b_M_duel 183 = .ok (.goto (-37), 3) := by decide +kernel
theorem d_M_duel_186 : decode b_M_duel 186 = .ok (.iconst 0, 1) := by decide +kernel
theorem d_M_duel_187 : decode b_M_duel 187 = .ok (.istore 5, 2) := by decide +kernel
theorem d_M_duel_189 : decode b_M_duel 189 = .ok (.iload 5, 2) := by decide +kernel
theorem d_M_duel_191 : decode b_M_duel 191 = .ok (.aload_n 0, 1) := by decide +kernel
theorem d_M_duel_192 : decode b_M_duel 192 = .ok (.invokevirtual 219, 3) := by decide +kernel
theorem d_M_duel_195 : decode b_M_duel 195 = .ok (.if_icmp .ge 23, 3) := by decide +kernel
theorem d_M_duel_198 : decode b_M_duel 198 = .ok (.aload_n 0, 1) := by decide +kernel
theorem d_M_duel_199 : decode b_M_duel 199 = .ok (.getfield 79, 3) := by decide +kernel
theorem d_M_duel_202 : decode b_M_duel 202 = .ok (.iload 5, 2) := by decide +kernel
theorem d_M_duel_204 : decode b_M_duel 204 = .ok (.aload_n 0, 1) := by decide +kernel
theorem d_M_duel_205 : decode b_M_duel 205 = .ok (.getfield 82, 3) := by decide +kernel
theorem d_M_duel_208 : decode b_M_duel 208 = .ok (.iload 5, 2) := by decide +kernel
theorem d_M_duel_210 : decode b_M_duel 210 = .ok (.iaload, 1) := by decide +kernel
theorem d_M_duel_211 : decode b_M_duel 211 = .ok (.iastore, 1) := by decide +kernel
theorem d_M_duel_212 : decode b_M_duel 212 = .ok (.iinc 5 1, 3) := by decide +kernel
theorem d_M_duel_215 : decode b_M_duel 215 = .ok (.goto (-26), 3) := by decide +kernel
theorem d_M_duel_218 : decode b_M_duel 218 = .ok (.iinc 4 (-1), 3) := by decide +kernel
theorem d_M_duel_221 : decode b_M_duel 221 = .ok (.goto (-83), 3) := by decide +kernel
theorem d_M_duel_224 : decode b_M_duel 224 = .ok (.aload_n 0, 1) := by decide +kernel
theorem d_M_duel_225 : decode b_M_duel 225 = .ok (.getfield 79, 3) := by decide +kernel
theorem d_M_duel_228 : decode b_M_duel 228 = .ok (.iload_n 3, 1) := by decide +kernel
theorem d_M_duel_229 : decode b_M_duel 229 = .ok (.iaload, 1) := by decide +kernel
theorem d_M_duel_230 : decode b_M_duel 230 = .ok (.ireturn, 1) := by decide +kernel
theorem mo_M_duel : mok y_M_duel b_M_duel 7 (some .int) 1 := ⟨List.mem_of_getElem? (i := 1429) (by decide +kernel), ⟨by decide +kernel, by decide +kernel, by decide +kernel⟩, List.mem_of_getElem? (i := 86) (by decide +kernel), by decide⟩
set_option maxHeartbeats 4000000 in
theorem L_M_duel_27 {X : FX} {u : Un} (hA : Ap u) {Q : State → Prop} (F : Fr X u "TakerBookModel" b_M_duel 7) {σ : St} {n : Nat} {kd : Nat → Nat} (hb : mkOk σ n kd) {a : Nat} (ha : a < 64) (h0 : σ.1 76 0 = nI a) {cr : Nat → Nat} (hcr : crOk σ cr n) {T : Nat} (k0 : ∀ (j : Nat) (m : Nat), V X u 4 7 Q 52 [(0, .ref (u.2.1 63)), (1, .int (nI T)), (3, .int (nI (hrN cr n n)))] [] (σ)) : ∀ (nn : Nat) (j : Nat) (m : Nat), j + m = n → m < nn → V X u 4 7 Q 27 [(0, .ref (u.2.1 63)), (1, .int (nI T)), (3, .int (nI (hrN cr n j))), (4, .int (kI m))] [] (σ) := by
  intro nn
  induction nn with
  | zero =>
    intro j m hj h2
    exact absurd h2 (Nat.not_lt_zero _)
  | succ nn ih =>
    intro j m hj hm
    obtain ⟨hn, hn6, hkd, hk6⟩ := id hb
    refine v_iload F d_M_duel_27 3 rfl ?_
    refine v_if_lt F 52 d_M_duel_29 rfl (fun h29 => ?_) (fun h29 => ?_)
    · skip
      refine v_sub [0, 1, 2] (ls' := [(0, .ref (u.2.1 63)), (1, .int (nI T)), (3, .int (nI (hrN cr n j)))]) rfl ?_
      have g1 : (nI (hrN cr n j)) = (nI (hrN cr n n)) := (by first | (have e : j = n := (by have := (kneg (by omega)).mp h29; omega); rw [e]; done) | (show nI (3 * hrN cr n j + cr (n - 1 - j)) = nI (hrN cr n (j + 1)); rfl) | (subst_vars; exact idec _) | rfl)
      refine v_to (ls' := [(0, .ref (u.2.1 63)), (1, .int (nI T)), (3, .int (nI (hrN cr n n)))]) (by first | rfl | rw [g1] | simp_all) ?_
      exact k0 j m 
    · skip
      obtain ⟨qq, rfl⟩ : ∃ qq, m = qq + 1 := ⟨m - 1, by have : m ≠ 0 := fun e => h29 ((kneg (by omega)).mpr e); omega⟩
      have hcj : σ.1 76 (5 + qq) = nI (cr (n - 1 - j)) := by rw [show n - 1 - j = qq by omega]; exact (hcr qq (by omega)).1
      refine v_to (ls' := [(0, .ref (u.2.1 63)), (1, .int (nI T)), (3, .int (nI (hrN cr n j))), (4, .int (nI qq))]) (by rw [kI_s]) ?_
      refine v_iconst (v := 3) F d_M_duel_32 ki_3 ?_
      refine v_iload_n F d_M_duel_33 rfl 2 rfl ?_
      refine v_imul F d_M_duel_34 ?_
      refine v_te (y := nI (3 * (hrN cr n j))) (pk_mul _ _) ?_
      refine v_aload_n F d_M_duel_35 rfl 0 rfl ?_
      refine v_getr (r := 76) F fk_M_51 G63 rfl d_M_duel_36 ?_
      refine v_iconst (v := 5) F d_M_duel_39 ki_5 ?_
      refine v_iload F d_M_duel_40 3 rfl ?_
      refine v_iadd F d_M_duel_42 ?_
      refine v_te (y := nI (5 + qq)) (nI_add _ _) ?_
      refine v_ial F (5 + qq) G76 rfl (by omega) d_M_duel_43 ?_
      refine v_te (y := nI (cr (n - 1 - j))) hcj ?_
      refine v_iadd F d_M_duel_44 ?_
      refine v_te (y := nI (3 * (hrN cr n j) + cr (n - 1 - j))) (nI_add _ _) ?_
      refine v_istore_n (ls' := [(3, .int (nI (3 * (hrN cr n j) + cr (n - 1 - j)))), (0, .ref (u.2.1 63)), (1, .int (nI T)), (4, .int (nI qq))]) F d_M_duel_45 rfl (by decide) rfl ?_
      refine v_iinc (v := (nI qq) + (-1)) (ls' := [(4, .int ((nI qq) + (-1))), (3, .int (nI (3 * (hrN cr n j) + cr (n - 1 - j)))), (0, .ref (u.2.1 63)), (1, .int (nI T))]) F d_M_duel_46 (j := 3) rfl (i_dec _) (by decide) rfl ?_
      obtain ⟨x2, ex2⟩ : ∃ y : Int32, y = (nI qq) + (-1) := ⟨_, rfl⟩
      refine v_to (ls' := [(4, .int x2), (3, .int (nI (3 * (hrN cr n j) + cr (n - 1 - j)))), (0, .ref (u.2.1 63)), (1, .int (nI T))]) (by rw [ex2]) ?_
      refine v_goto F 27 d_M_duel_49 rfl ?_
      refine v_sub [2, 3, 1, 0] (ls' := [(0, .ref (u.2.1 63)), (1, .int (nI T)), (3, .int (nI (3 * (hrN cr n j) + cr (n - 1 - j)))), (4, .int x2)]) rfl ?_
      have g3 : (nI (3 * (hrN cr n j) + cr (n - 1 - j))) = (nI (hrN cr n (j + 1))) := (by first | (have e : j = n := (by have := (kneg (by omega)).mp h29; omega); rw [e]; done) | (show nI (3 * hrN cr n j + cr (n - 1 - j)) = nI (hrN cr n (j + 1)); rfl) | (subst_vars; exact idec _) | rfl)
      have g4 : x2 = (kI qq) := (by first | (have e : j = n := (by have := (kneg (by omega)).mp h29; omega); rw [e]; done) | (show nI (3 * hrN cr n j + cr (n - 1 - j)) = nI (hrN cr n (j + 1)); rfl) | (subst_vars; exact idec _) | rfl)
      refine v_to (ls' := [(0, .ref (u.2.1 63)), (1, .int (nI T)), (3, .int (nI (hrN cr n (j + 1)))), (4, .int (kI qq))]) (by first | rfl | rw [g3, g4] | simp_all) ?_
      exact ih (j + 1) (qq) (by omega) (by omega)
set_option maxHeartbeats 4000000 in
theorem L_M_duel_75 {X : FX} {u : Un} (hA : Ap u) {Q : State → Prop} (F : Fr X u "TakerBookModel" b_M_duel 7) {σ : St} {n : Nat} {kd : Nat → Nat} (hb : mkOk σ n kd) {a : Nat} (ha : a < 64) (h0 : σ.1 76 0 = nI a) {T h c : Nat} (hc : c < 729) (k0 : ∀ (i : Nat) (τ : St), fr σ τ → tdOk a n c τ → (∀ x, x < c → τ.1 85 x = nI (pcN (spX σ kd n (dgI x) a))) → V X u 4 7 Q 109 [(0, .ref (u.2.1 63)), (1, .int (nI T)), (3, .int (nI h)), (4, .int (nI c))] [] (τ)) : ∀ (nn : Nat) (i : Nat) (τ : St), i ≤ n → fr σ τ → tdOk a i c τ → (∀ x, x < c → τ.1 85 x = nI (pcN (spX σ kd n (dgI x) a))) → n - i < nn → V X u 4 7 Q 75 [(0, .ref (u.2.1 63)), (1, .int (nI T)), (3, .int (nI h)), (4, .int (nI c)), (5, .int (nI (c / 3 ^ i))), (6, .int (nI i))] [] (τ) := by
  intro nn
  induction nn with
  | zero =>
    intro i τ hi fτ ht he h2
    exact absurd h2 (Nat.not_lt_zero _)
  | succ nn ih =>
    intro i τ hi fτ ht he hm
    obtain ⟨hn, hn6, hkd, hk6⟩ := id hb
    have hcq : c / 3 ^ i ≤ c := Nat.div_le_self _ _
    refine v_iload F d_M_duel_75 5 rfl ?_
    refine v_aload_n F d_M_duel_77 rfl 0 rfl ?_
    refine v_geti F fk_M_146 G63 rfl d_M_duel_78 ?_
    refine v_te (y := nI n) (fτ.v rfl hn) ?_
    refine v_icmp_ge F 109 d_M_duel_81 rfl (fun h81 => ?_) (fun h81 => ?_)
    · skip
      have h81 : n ≤ i := (nI_leI (a := n) (b := i) (by omega) (by omega)).mp h81
      refine v_sub [0, 1, 2, 3] (ls' := [(0, .ref (u.2.1 63)), (1, .int (nI T)), (3, .int (nI h)), (4, .int (nI c))]) rfl ?_
      exact k0 i τ fτ (by have e : i = n := (by omega); subst e; exact ht) he
    · skip
      have h81 : ¬ n ≤ i := fun q => h81 ((nI_leI (a := n) (b := i) (by omega) (by omega)).mpr q)
      refine v_aload_n F d_M_duel_84 rfl 0 rfl ?_
      refine v_getr (r := 77) F fk_M_54 G63 rfl d_M_duel_85 ?_
      refine v_iconst (v := 5) F d_M_duel_88 ki_5 ?_
      refine v_iload F d_M_duel_89 5 rfl ?_
      refine v_iadd F d_M_duel_91 ?_
      refine v_te (y := nI (5 + i)) (nI_add _ _) ?_
      refine v_iload F d_M_duel_92 4 rfl ?_
      refine v_iconst (v := 3) F d_M_duel_94 ki_3 ?_
      refine v_irem F d_M_duel_95 (by decide) ?_
      refine v_te (y := nI (dg c i)) (pk_rem (by omega) (by decide) (by decide)) ?_
      refine v_ias F (5 + i) G77 rfl (by omega) d_M_duel_96 ?_
      refine v_ns (fun σ1 eσ1 => ?_)
      have fσ1 : fr σ σ1 := by rw [eσ1]; exact fτ.u rfl
      refine v_iload F d_M_duel_97 4 rfl ?_
      refine v_iconst (v := 3) F d_M_duel_99 ki_3 ?_
      refine v_idiv F d_M_duel_100 (by decide) ?_
      refine v_te (y := nI (c / 3 ^ i / 3)) (pk_div (by omega) (by decide) (by decide)) ?_
      refine v_istore (ls' := [(5, .int (nI (c / 3 ^ i / 3))), (0, .ref (u.2.1 63)), (1, .int (nI T)), (3, .int (nI h)), (4, .int (nI c)), (6, .int (nI i))]) F d_M_duel_101 (by decide) rfl ?_
      refine v_iinc (v := nI (i + 1)) (ls' := [(6, .int (nI (i + 1))), (5, .int (nI (c / 3 ^ i / 3))), (0, .ref (u.2.1 63)), (1, .int (nI T)), (3, .int (nI h)), (4, .int (nI c))]) F d_M_duel_103 (j := 5) rfl (nI_inc _) (by decide) rfl ?_
      refine v_goto F 75 d_M_duel_106 rfl ?_
      refine v_sub [2, 3, 4, 5, 1, 0] (ls' := [(0, .ref (u.2.1 63)), (1, .int (nI T)), (3, .int (nI h)), (4, .int (nI c)), (5, .int (nI (c / 3 ^ i / 3))), (6, .int (nI (i + 1)))]) rfl ?_
      have g2 : (nI (c / 3 ^ i / 3)) = (nI (c / 3 ^ (i + 1))) := (by first | (rw [dg_s]; done) | rfl)
      refine v_to (ls' := [(0, .ref (u.2.1 63)), (1, .int (nI T)), (3, .int (nI h)), (4, .int (nI c)), (5, .int (nI (c / 3 ^ (i + 1)))), (6, .int (nI (i + 1)))]) (by first | rfl | rw [g2] | simp_all) ?_
      exact ih (i + 1) (σ1) (by omega) fσ1 (by rw [eσ1]; exact td_s ht rfl) (by rw [eσ1]; exact en_o (f := fun x => nI (pcN (spX σ kd n (dgI x) a))) he (by decide)) (by omega)
set_option maxHeartbeats 4000000 in
theorem L_M_duel_55 {X : FX} {u : Un} (hA : Ap u) {Q : State → Prop} (F : Fr X u "TakerBookModel" b_M_duel 7) {σ : St} {n : Nat} {kd : Nat → Nat} (hb : mkOk σ n kd) {a : Nat} (ha : a < 64) (h0 : σ.1 76 0 = nI a) {T h : Nat} (k0 : ∀ (c : Nat) (τ : St), c = 3 ^ n → fr σ τ → (∀ x, x < c → τ.1 85 x = nI (pcN (spX σ kd n (dgI x) a))) → V X u 4 7 Q 133 [(0, .ref (u.2.1 63)), (1, .int (nI T)), (3, .int (nI h))] [] (τ)) : ∀ (nn : Nat) (c : Nat) (τ : St), c ≤ 3 ^ n → fr σ τ → (∀ x, x < c → τ.1 85 x = nI (pcN (spX σ kd n (dgI x) a))) → 3 ^ n - c < nn → V X u 4 7 Q 55 [(0, .ref (u.2.1 63)), (1, .int (nI T)), (3, .int (nI h)), (4, .int (nI c))] [] (τ) := by
  intro nn
  induction nn with
  | zero =>
    intro c τ hc fτ he h2
    exact absurd h2 (Nat.not_lt_zero _)
  | succ nn ih =>
    intro c τ hc fτ he hm
    obtain ⟨hn, hn6, hkd, hk6⟩ := id hb
    have h729 := p3_b hn6
    refine v_iload F d_M_duel_55 3 rfl ?_
    refine v_aload_n F d_M_duel_57 rfl 0 rfl ?_
    refine v_runi (r_V F (c_M_codes X.2.1 u hA fτ hb) mo_M_codes st_M_219 rc_63 (by decide) rfl (Nat.le_of_ble_eq_true rfl) d_M_duel_58) (fun r1 σ2 q3 => ?_)
    obtain ⟨rfl, rfl⟩ := q3
    refine v_icmp_ge F 133 d_M_duel_61 rfl (fun h61 => ?_) (fun h61 => ?_)
    · skip
      have h61 : 3 ^ n ≤ c := (nI_leI (a := 3 ^ n) (b := c) (by omega) (by omega)).mp h61
      refine v_sub [0, 1, 2] (ls' := [(0, .ref (u.2.1 63)), (1, .int (nI T)), (3, .int (nI h))]) rfl ?_
      exact k0 c τ (by omega) fτ he
    · skip
      have h61 : ¬ 3 ^ n ≤ c := fun q => h61 ((nI_leI (a := 3 ^ n) (b := c) (by omega) (by omega)).mpr q)
      refine v_aload_n F d_M_duel_64 rfl 0 rfl ?_
      refine v_runv (r_V F (c_M_copyNow X.2.1 u hA τ) mo_M_copyNow st_M_215 rc_63 (by decide) rfl (Nat.le_of_ble_eq_true rfl) d_M_duel_65) (fun σ5 q6 => ?_)
      have eσ5 := q6
      have fσ5 : fr σ σ5 := by rw [eσ5]; exact fτ.c (fun _ => rfl) _
      refine v_iload F d_M_duel_68 3 rfl ?_
      refine v_istore (ls' := [(5, .int (nI c)), (0, .ref (u.2.1 63)), (1, .int (nI T)), (3, .int (nI h)), (4, .int (nI c))]) F d_M_duel_70 (by decide) rfl ?_
      refine v_iconst (v := 0) F d_M_duel_72 ki_0 ?_
      refine v_istore (ls' := [(6, .int 0), (5, .int (nI c)), (0, .ref (u.2.1 63)), (1, .int (nI T)), (3, .int (nI h)), (4, .int (nI c))]) F d_M_duel_73 (by decide) rfl ?_
      refine v_sub [2, 3, 4, 5, 1, 0] (ls' := [(0, .ref (u.2.1 63)), (1, .int (nI T)), (3, .int (nI h)), (4, .int (nI c)), (5, .int (nI c)), (6, .int 0)]) rfl ?_
      have g7 : (nI c) = (nI (c / 3 ^ 0)) := (by first | (rw [Nat.pow_zero, Nat.div_one]; done) | rfl)
      have g8 : 0 = (nI 0) := (by first | (rw [Nat.pow_zero, Nat.div_one]; done) | rfl)
      refine v_to (ls' := [(0, .ref (u.2.1 63)), (1, .int (nI T)), (3, .int (nI h)), (4, .int (nI c)), (5, .int (nI (c / 3 ^ 0))), (6, .int (nI 0))]) (by first | rfl | rw [g7, g8] | simp_all) ?_
      refine L_M_duel_75 hA F hb ha h0 (by omega) (fun i τ2 fτ2 ht2 he2 => ?_) _ 0 σ5 (Nat.zero_le _) fσ5 (by rw [eσ5]; exact td_0 fτ h0) (by rw [eσ5]; intro x hx; rw [cpF_other _ _ _ _ (by decide)]; exact he x hx) (Nat.lt_succ_self _)
      refine v_aload_n F d_M_duel_109 rfl 0 rfl ?_
      refine v_getr (r := 85) F fk_M_79 G63 rfl d_M_duel_110 ?_
      refine v_iload F d_M_duel_113 3 rfl ?_
      refine v_aload_n F d_M_duel_115 rfl 0 rfl ?_
      refine v_aload_n F d_M_duel_116 rfl 0 rfl ?_
      refine v_getr (r := 77) F fk_M_54 G63 rfl d_M_duel_117 ?_
      refine v_runi (r_V F (c_M_speakers_f X.2.1 u hA fτ2 hb (kO := 77) (Or.inr rfl) ha ht2.1 (cr := (dgI c)) (fun i hi => ht2.2 i hi)  ) mo_M_speakers st_M_171 rc_63 (by decide) rfl (Nat.le_of_ble_eq_true rfl) d_M_duel_120) (fun r9 σ10 q11 => ?_)
      obtain ⟨rfl, rfl⟩ := q11
      refine v_runi (r_S F (c_M_bits X.2.1 u hA τ2 (spX σ kd n (dgI c) a) (spX_64 hn6)) mo_M_bits st_M_175 (by decide) rfl (Nat.le_of_ble_eq_true rfl) d_M_duel_123) (fun r12 σ13 q14 => ?_)
      obtain ⟨rfl, rfl⟩ := q14
      refine v_ias F c G85 rfl (by omega) d_M_duel_126 ?_
      refine v_ns (fun σ15 eσ15 => ?_)
      have fσ15 : fr σ σ15 := by rw [eσ15]; exact fτ2.u rfl
      refine v_iinc (v := nI (c + 1)) (ls' := [(4, .int (nI (c + 1))), (0, .ref (u.2.1 63)), (1, .int (nI T)), (3, .int (nI h))]) F d_M_duel_127 (j := 3) rfl (nI_inc _) (by decide) rfl ?_
      refine v_goto F 55 d_M_duel_130 rfl ?_
      refine v_sub [1, 2, 3, 0] (ls' := [(0, .ref (u.2.1 63)), (1, .int (nI T)), (3, .int (nI h)), (4, .int (nI (c + 1)))]) rfl ?_
      exact ih (c + 1) (σ15) (by omega) fσ15 (by rw [eσ15]; exact en_s (f := fun x => nI (pcN (spX σ kd n (dgI x) a))) he2 rfl) (by omega)
set_option maxHeartbeats 4000000 in
theorem L_M_duel_146 {X : FX} {u : Un} (hA : Ap u) {Q : State → Prop} (F : Fr X u "TakerBookModel" b_M_duel 7) {σ : St} {n : Nat} {kd : Nat → Nat} (hb : mkOk σ n kd) {a : Nat} (ha : a < 64) (h0 : σ.1 76 0 = nI a) {T h l qq : Nat} (hT : T ≤ 4) (hq : l + (qq + 1) = T) (k0 : ∀ (c : Nat) (τ : St), c = 3 ^ n → fr σ τ → (∀ x, x < 3 ^ n → τ.1 85 x = dpV σ kd n a T l x) → (∀ x, x < c → τ.1 86 x = dpV σ kd n a T ((l + 1)) x) → V X u 4 7 Q 186 [(0, .ref (u.2.1 63)), (1, .int (nI T)), (3, .int (nI h)), (4, .int (nI qq))] [] (τ)) : ∀ (nn : Nat) (c : Nat) (τ : St), c ≤ 3 ^ n → fr σ τ → (∀ x, x < 3 ^ n → τ.1 85 x = dpV σ kd n a T l x) → (∀ x, x < c → τ.1 86 x = dpV σ kd n a T ((l + 1)) x) → 3 ^ n - c < nn → V X u 4 7 Q 146 [(0, .ref (u.2.1 63)), (1, .int (nI T)), (3, .int (nI h)), (4, .int (nI qq)), (5, .int (nI c))] [] (τ) := by
  intro nn
  induction nn with
  | zero =>
    intro c τ hc fτ he hd h2
    exact absurd h2 (Nat.not_lt_zero _)
  | succ nn ih =>
    intro c τ hc fτ he hd hm
    obtain ⟨hn, hn6, hkd, hk6⟩ := id hb
    have h729 := p3_b hn6
    refine v_iload F d_M_duel_146 4 rfl ?_
    refine v_aload_n F d_M_duel_148 rfl 0 rfl ?_
    refine v_runi (r_V F (c_M_codes X.2.1 u hA fτ hb) mo_M_codes st_M_219 rc_63 (by decide) rfl (Nat.le_of_ble_eq_true rfl) d_M_duel_149) (fun r1 σ2 q3 => ?_)
    obtain ⟨rfl, rfl⟩ := q3
    refine v_icmp_ge F 186 d_M_duel_152 rfl (fun h152 => ?_) (fun h152 => ?_)
    · skip
      have h152 : 3 ^ n ≤ c := (nI_leI (a := 3 ^ n) (b := c) (by omega) (by omega)).mp h152
      refine v_sub [0, 1, 2, 3] (ls' := [(0, .ref (u.2.1 63)), (1, .int (nI T)), (3, .int (nI h)), (4, .int (nI qq))]) rfl ?_
      exact k0 c τ (by omega) fτ he hd
    · skip
      have h152 : ¬ 3 ^ n ≤ c := fun q => h152 ((nI_leI (a := 3 ^ n) (b := c) (by omega) (by omega)).mpr q)
      refine v_aload_n F d_M_duel_155 rfl 0 rfl ?_
      refine v_getr (r := 86) F fk_M_82 G63 rfl d_M_duel_156 ?_
      refine v_iload F d_M_duel_159 4 rfl ?_
      refine v_aload_n F d_M_duel_161 rfl 0 rfl ?_
      refine v_iload F d_M_duel_162 4 rfl ?_
      refine v_iload F d_M_duel_164 3 rfl ?_
      refine v_iconst (v := 2) F d_M_duel_166 ki_2 ?_
      refine v_irem F d_M_duel_167 (by decide) ?_
      refine v_te (y := nI (qq % 2)) (pk_rem (by omega) (by decide) (by decide)) ?_
      refine v_if_ne F 175 d_M_duel_168 rfl (fun h168 => ?_) (fun h168 => ?_)
      · skip
        have h168 : ¬ qq % 2 = 0 := fun q => h168 ((nI_eq (a := qq % 2) (b := 0) (by omega) (by omega)).mpr q)
        refine v_iconst (v := 0) F d_M_duel_175 ki_0 ?_
        refine v_runi (r_V F (c_M_turnedf X.2.1 u hA fτ hb ha h0 c (by omega)) mo_M_turned st_M_284 rc_63 (by decide) rfl (Nat.le_of_ble_eq_true rfl) d_M_duel_176) (fun r4 σ5 q6 => ?_)
        obtain ⟨rfl, rfl⟩ := q6
        refine v_ias F c G86 rfl (by omega) d_M_duel_179 ?_
        refine v_ns (fun σ7 eσ7 => ?_)
        have fσ7 : fr σ σ7 := by rw [eσ7]; exact fτ.u rfl
        refine v_iinc (v := nI (c + 1)) (ls' := [(5, .int (nI (c + 1))), (0, .ref (u.2.1 63)), (1, .int (nI T)), (3, .int (nI h)), (4, .int (nI qq))]) F d_M_duel_180 (j := 4) rfl (nI_inc _) (by decide) rfl ?_
        refine v_goto F 146 d_M_duel_183 rfl ?_
        refine v_sub [1, 2, 3, 4, 0] (ls' := [(0, .ref (u.2.1 63)), (1, .int (nI T)), (3, .int (nI h)), (4, .int (nI qq)), (5, .int (nI (c + 1)))]) rfl ?_
        exact ih (c + 1) (σ7) (by omega) fσ7 (by rw [eσ7]; exact en_o (f := dpV σ kd n a T l) he (by decide)) (by rw [eσ7]; exact en_s (f := dpV σ kd n a T (l + 1)) hd (by show _ = tuS _ a c _ n; rw [show T - 1 - l = qq by omega]; first | (rw [decide_eq_true (by assumption)]; exact tuS_c (by omega) he (by omega) n (Nat.le_refl _)) | (rw [decide_eq_false (by assumption)]; exact tuS_c (by omega) he (by omega) n (Nat.le_refl _)))) (by omega)
      · skip
        have h168 : qq % 2 = 0 := (nI_eq (a := qq % 2) (b := 0) (by omega) (by omega)).mp h168
        refine v_iconst (v := 1) F d_M_duel_171 ki_1 ?_
        refine v_goto F 176 d_M_duel_172 rfl ?_
        refine v_runi (r_V F (c_M_turnedt X.2.1 u hA fτ hb ha h0 c (by omega)) mo_M_turned st_M_284 rc_63 (by decide) rfl (Nat.le_of_ble_eq_true rfl) d_M_duel_176) (fun r8 σ9 q10 => ?_)
        obtain ⟨rfl, rfl⟩ := q10
        refine v_ias F c G86 rfl (by omega) d_M_duel_179 ?_
        refine v_ns (fun σ11 eσ11 => ?_)
        have fσ11 : fr σ σ11 := by rw [eσ11]; exact fτ.u rfl
        refine v_iinc (v := nI (c + 1)) (ls' := [(5, .int (nI (c + 1))), (0, .ref (u.2.1 63)), (1, .int (nI T)), (3, .int (nI h)), (4, .int (nI qq))]) F d_M_duel_180 (j := 4) rfl (nI_inc _) (by decide) rfl ?_
        refine v_goto F 146 d_M_duel_183 rfl ?_
        refine v_sub [1, 2, 3, 4, 0] (ls' := [(0, .ref (u.2.1 63)), (1, .int (nI T)), (3, .int (nI h)), (4, .int (nI qq)), (5, .int (nI (c + 1)))]) rfl ?_
        exact ih (c + 1) (σ11) (by omega) fσ11 (by rw [eσ11]; exact en_o (f := dpV σ kd n a T l) he (by decide)) (by rw [eσ11]; exact en_s (f := dpV σ kd n a T (l + 1)) hd (by show _ = tuS _ a c _ n; rw [show T - 1 - l = qq by omega]; first | (rw [decide_eq_true (by assumption)]; exact tuS_c (by omega) he (by omega) n (Nat.le_refl _)) | (rw [decide_eq_false (by assumption)]; exact tuS_c (by omega) he (by omega) n (Nat.le_refl _)))) (by omega)
set_option maxHeartbeats 4000000 in
theorem L_M_duel_189 {X : FX} {u : Un} (hA : Ap u) {Q : State → Prop} (F : Fr X u "TakerBookModel" b_M_duel 7) {σ : St} {n : Nat} {kd : Nat → Nat} (hb : mkOk σ n kd) {a : Nat} (ha : a < 64) (h0 : σ.1 76 0 = nI a) {T h l qq : Nat} (hT : T ≤ 4) (hq : l + (qq + 1) = T) (k0 : ∀ (c : Nat) (τ : St), c = 3 ^ n → fr σ τ → (∀ x, x < c → τ.1 85 x = dpV σ kd n a T (l + 1) x) → V X u 4 7 Q 218 [(0, .ref (u.2.1 63)), (1, .int (nI T)), (3, .int (nI h)), (4, .int (nI qq))] [] (τ)) : ∀ (nn : Nat) (c : Nat) (τ : St), c ≤ 3 ^ n → fr σ τ → (∀ x, x < c → τ.1 85 x = dpV σ kd n a T (l + 1) x) → (∀ x, x < 3 ^ n → τ.1 86 x = dpV σ kd n a T ((l + 1)) x) → 3 ^ n - c < nn → V X u 4 7 Q 189 [(0, .ref (u.2.1 63)), (1, .int (nI T)), (3, .int (nI h)), (4, .int (nI qq)), (5, .int (nI c))] [] (τ) := by
  intro nn
  induction nn with
  | zero =>
    intro c τ hc fτ he hd h2
    exact absurd h2 (Nat.not_lt_zero _)
  | succ nn ih =>
    intro c τ hc fτ he hd hm
    obtain ⟨hn, hn6, hkd, hk6⟩ := id hb
    have h729 := p3_b hn6
    refine v_iload F d_M_duel_189 4 rfl ?_
    refine v_aload_n F d_M_duel_191 rfl 0 rfl ?_
    refine v_runi (r_V F (c_M_codes X.2.1 u hA fτ hb) mo_M_codes st_M_219 rc_63 (by decide) rfl (Nat.le_of_ble_eq_true rfl) d_M_duel_192) (fun r1 σ2 q3 => ?_)
    obtain ⟨rfl, rfl⟩ := q3
    refine v_icmp_ge F 218 d_M_duel_195 rfl (fun h195 => ?_) (fun h195 => ?_)
    · skip
      have h195 : 3 ^ n ≤ c := (nI_leI (a := 3 ^ n) (b := c) (by omega) (by omega)).mp h195
      refine v_sub [0, 1, 2, 3] (ls' := [(0, .ref (u.2.1 63)), (1, .int (nI T)), (3, .int (nI h)), (4, .int (nI qq))]) rfl ?_
      exact k0 c τ (by omega) fτ he
    · skip
      have h195 : ¬ 3 ^ n ≤ c := fun q => h195 ((nI_leI (a := 3 ^ n) (b := c) (by omega) (by omega)).mpr q)
      refine v_aload_n F d_M_duel_198 rfl 0 rfl ?_
      refine v_getr (r := 85) F fk_M_79 G63 rfl d_M_duel_199 ?_
      refine v_iload F d_M_duel_202 4 rfl ?_
      refine v_aload_n F d_M_duel_204 rfl 0 rfl ?_
      refine v_getr (r := 86) F fk_M_82 G63 rfl d_M_duel_205 ?_
      refine v_iload F d_M_duel_208 4 rfl ?_
      refine v_ial F c G86 rfl (by omega) d_M_duel_210 ?_
      refine v_te (y := dpV σ kd n a T (l + 1) c) (hd c (by omega)) ?_
      refine v_ias F c G85 rfl (by omega) d_M_duel_211 ?_
      refine v_ns (fun σ4 eσ4 => ?_)
      have fσ4 : fr σ σ4 := by rw [eσ4]; exact fτ.u rfl
      refine v_iinc (v := nI (c + 1)) (ls' := [(5, .int (nI (c + 1))), (0, .ref (u.2.1 63)), (1, .int (nI T)), (3, .int (nI h)), (4, .int (nI qq))]) F d_M_duel_212 (j := 4) rfl (nI_inc _) (by decide) rfl ?_
      refine v_goto F 189 d_M_duel_215 rfl ?_
      refine v_sub [1, 2, 3, 4, 0] (ls' := [(0, .ref (u.2.1 63)), (1, .int (nI T)), (3, .int (nI h)), (4, .int (nI qq)), (5, .int (nI (c + 1)))]) rfl ?_
      exact ih (c + 1) (σ4) (by omega) fσ4 (by rw [eσ4]; exact en_s (f := dpV σ kd n a T (l + 1)) he rfl) (by rw [eσ4]; exact en_o (f := dpV σ kd n a T (l + 1)) hd (by decide)) (by omega)
set_option maxHeartbeats 4000000 in
theorem L_M_duel_138 {X : FX} {u : Un} (hA : Ap u) {Q : State → Prop} (F : Fr X u "TakerBookModel" b_M_duel 7) {σ : St} {n : Nat} {kd : Nat → Nat} (hb : mkOk σ n kd) {a : Nat} (ha : a < 64) (h0 : σ.1 76 0 = nI a) {T h : Nat} (hT : T ≤ 4) (k0 : ∀ (l : Nat) (m : Nat) (τ : St), l = T → fr σ τ → (∀ x, x < 3 ^ n → τ.1 85 x = dpV σ kd n a T l x) → V X u 4 7 Q 224 [(0, .ref (u.2.1 63)), (3, .int (nI h))] [] (τ)) : ∀ (nn : Nat) (l : Nat) (m : Nat) (τ : St), l + m = T → fr σ τ → (∀ x, x < 3 ^ n → τ.1 85 x = dpV σ kd n a T l x) → m < nn → V X u 4 7 Q 138 [(0, .ref (u.2.1 63)), (1, .int (nI T)), (3, .int (nI h)), (4, .int (kI m))] [] (τ) := by
  intro nn
  induction nn with
  | zero =>
    intro l m τ hl fτ he h2
    exact absurd h2 (Nat.not_lt_zero _)
  | succ nn ih =>
    intro l m τ hl fτ he hm
    obtain ⟨hn, hn6, hkd, hk6⟩ := id hb
    refine v_iload F d_M_duel_138 3 rfl ?_
    refine v_if_lt F 224 d_M_duel_140 rfl (fun h140 => ?_) (fun h140 => ?_)
    · skip
      refine v_sub [0, 2] (ls' := [(0, .ref (u.2.1 63)), (3, .int (nI h))]) rfl ?_
      exact k0 l m τ (by have := (kneg (by omega)).mp h140; omega) fτ he
    · skip
      obtain ⟨qq, rfl⟩ : ∃ qq, m = qq + 1 := ⟨m - 1, by have : m ≠ 0 := fun e => h140 ((kneg (by omega)).mpr e); omega⟩
      refine v_to (ls' := [(0, .ref (u.2.1 63)), (1, .int (nI T)), (3, .int (nI h)), (4, .int (nI qq))]) (by rw [kI_s]) ?_
      refine v_iconst (v := 0) F d_M_duel_143 ki_0 ?_
      refine v_istore (ls' := [(5, .int 0), (0, .ref (u.2.1 63)), (1, .int (nI T)), (3, .int (nI h)), (4, .int (nI qq))]) F d_M_duel_144 (by decide) rfl ?_
      refine v_sub [1, 2, 3, 4, 0] (ls' := [(0, .ref (u.2.1 63)), (1, .int (nI T)), (3, .int (nI h)), (4, .int (nI qq)), (5, .int 0)]) rfl ?_
      have g1 : 0 = (nI 0) := (by first | rfl | (simp_all; done) | grind)
      refine v_to (ls' := [(0, .ref (u.2.1 63)), (1, .int (nI T)), (3, .int (nI h)), (4, .int (nI qq)), (5, .int (nI 0))]) (by first | rfl | rw [g1] | simp_all) ?_
      refine L_M_duel_146 hA F hb ha h0 hT (by omega) (fun c τ2 ec fτ2 he2 hd2 => ?_) _ 0 τ (Nat.zero_le _) fτ he (fun x hx => absurd hx (Nat.not_lt_zero _)) (Nat.lt_succ_self _)
      subst ec
      refine v_iconst (v := 0) F d_M_duel_186 ki_0 ?_
      refine v_istore (ls' := [(5, .int 0), (0, .ref (u.2.1 63)), (1, .int (nI T)), (3, .int (nI h)), (4, .int (nI qq))]) F d_M_duel_187 (by decide) rfl ?_
      refine v_sub [1, 2, 3, 4, 0] (ls' := [(0, .ref (u.2.1 63)), (1, .int (nI T)), (3, .int (nI h)), (4, .int (nI qq)), (5, .int 0)]) rfl ?_
      have g2 : 0 = (nI 0) := (by first | rfl | (simp_all; done) | grind)
      refine v_to (ls' := [(0, .ref (u.2.1 63)), (1, .int (nI T)), (3, .int (nI h)), (4, .int (nI qq)), (5, .int (nI 0))]) (by first | rfl | rw [g2] | simp_all) ?_
      refine L_M_duel_189 hA F hb ha h0 hT (by omega) (fun c τ3 ec fτ3 he3 => ?_) _ 0 τ2 (Nat.zero_le _) fτ2 (fun x hx => absurd hx (Nat.not_lt_zero _)) hd2 (Nat.lt_succ_self _)
      subst ec
      refine v_iinc (v := (nI qq) + (-1)) (ls' := [(4, .int ((nI qq) + (-1))), (0, .ref (u.2.1 63)), (1, .int (nI T)), (3, .int (nI h))]) F d_M_duel_218 (j := 3) rfl (i_dec _) (by decide) rfl ?_
      obtain ⟨x3, ex3⟩ : ∃ y : Int32, y = (nI qq) + (-1) := ⟨_, rfl⟩
      refine v_to (ls' := [(4, .int x3), (0, .ref (u.2.1 63)), (1, .int (nI T)), (3, .int (nI h))]) (by rw [ex3]) ?_
      refine v_goto F 138 d_M_duel_221 rfl ?_
      refine v_sub [1, 2, 3, 0] (ls' := [(0, .ref (u.2.1 63)), (1, .int (nI T)), (3, .int (nI h)), (4, .int x3)]) rfl ?_
      have g4 : x3 = (kI qq) := (by first | rfl | (subst_vars; exact idec _))
      refine v_to (ls' := [(0, .ref (u.2.1 63)), (1, .int (nI T)), (3, .int (nI h)), (4, .int (kI qq))]) (by first | rfl | rw [g4] | simp_all) ?_
      exact ih (l + 1) (qq) (τ3) (by omega) fτ3 he3 (by omega)
set_option maxHeartbeats 4000000 in
theorem c_M_duel (l : Launch) (u : Un) (hA : Ap u) (σ : St) {n : Nat} {kd : Nat → Nat} (hb : mkOk σ n kd) {a : Nat} (ha : a < 64) (h0 : σ.1 76 0 = nI a) {cr : Nat → Nat} (hcr : crOk σ cr n) (x : Int32) : MTi l u y_M_duel b_M_duel 7 .int 4 [.ref (u.2.1 63), .int x] σ (fun ans σ' => ∃ τ, fr σ τ ∧ (ans, σ') = mDuel σ τ kd cr n a x) := by
  refine MT_of hA rfl (by decide) (Nat.le_of_ble_eq_true rfl) (fun X hl F hr => ?_)
  subst hl
  refine v_to (ls' := [(0, .ref (u.2.1 63)), (1, .int x)]) rfl ?_
  obtain ⟨hn, hn6, hkd, hk6⟩ := id hb
  refine v_aload_n F d_M_duel_0 rfl 0 rfl ?_
  refine v_iload_n F d_M_duel_1 rfl 1 rfl ?_
  refine v_iconst (v := 0) F d_M_duel_2 ki_0 ?_
  refine v_iconst (v := 4) F d_M_duel_3 ki_4 ?_
  refine v_runi (r_S F (c_M_in X.2.1 u hA σ x 0 4 ) mo_M_in st_M_89 (by decide) rfl (Nat.le_of_ble_eq_true rfl) d_M_duel_4) (fun r1 σ2 q3 => ?_)
  obtain ⟨rfl, rfl⟩ := q3
  refine v_runi (r_V F (c_M_need X.2.1 u hA σ hb (0 ≤ x ∧ x ≤ 4)) mo_M_need st_M_229 rc_63 (by decide) rfl (Nat.le_of_ble_eq_true rfl) d_M_duel_7) (fun r4 σ5 q6 => ?_)
  rcases q6 with ⟨a1, rfl, rfl⟩ | ⟨a1, a2, rfl, rfl⟩ | ⟨a1, a2, rfl, rfl⟩
  · skip
    refine v_istore_n (ls' := [(2, .int (-1)), (0, .ref (u.2.1 63)), (1, .int x)]) F d_M_duel_10 rfl (by decide) rfl ?_
    refine v_iload_n F d_M_duel_11 rfl 0 rfl ?_
    refine v_if_ge F 17 d_M_duel_12 rfl (fun h => absurd h (by decide)) (fun _ => ?_)
    refine v_iload_n F d_M_duel_15 rfl 0 rfl ?_
    refine v_iret F hr rfl d_M_duel_16 ?_
    refine ⟨σ, fr.rf, ?_⟩
    unfold mDuel
    first | (rw [if_pos (by assumption)]; done) | (rw [if_neg (fun q => q (by assumption)), if_pos (by assumption)]; done)
  · skip
    refine v_istore_n (ls' := [(2, .int (-4)), (0, .ref (u.2.1 63)), (1, .int x)]) F d_M_duel_10 rfl (by decide) rfl ?_
    refine v_iload_n F d_M_duel_11 rfl 0 rfl ?_
    refine v_if_ge F 17 d_M_duel_12 rfl (fun h => absurd h (by decide)) (fun _ => ?_)
    refine v_iload_n F d_M_duel_15 rfl 0 rfl ?_
    refine v_iret F hr rfl d_M_duel_16 ?_
    refine ⟨σ, fr.rf, ?_⟩
    unfold mDuel
    first | (rw [if_pos (by assumption)]; done) | (rw [if_neg (fun q => q (by assumption)), if_pos (by assumption)]; done)
  · skip
    refine v_istore_n (ls' := [(2, .int 0), (0, .ref (u.2.1 63)), (1, .int x)]) F d_M_duel_10 rfl (by decide) rfl ?_
    refine v_iload_n F d_M_duel_11 rfl 0 rfl ?_
    refine v_if_ge F 17 d_M_duel_12 rfl (fun _ => ?_) (fun h => absurd (by decide) h)
    refine v_iconst (v := 0) F d_M_duel_17 ki_0 ?_
    refine v_istore_n (ls' := [(3, .int 0), (2, .int 0), (0, .ref (u.2.1 63)), (1, .int x)]) F d_M_duel_18 rfl (by decide) rfl ?_
    refine v_aload_n F d_M_duel_19 rfl 2 rfl ?_
    refine v_geti F fk_M_146 G63 rfl d_M_duel_20 ?_
    refine v_te (y := nI n) hn ?_
    refine v_iconst (v := 1) F d_M_duel_23 ki_1 ?_
    refine v_isub F d_M_duel_24 ?_
    refine v_ni (fun x7 ex7 => ?_)
    refine v_istore (ls' := [(4, .int x7), (3, .int 0), (2, .int 0), (0, .ref (u.2.1 63)), (1, .int x)]) F d_M_duel_25 (by decide) rfl ?_
    obtain ⟨T, hT, xT, rfl⟩ := nat_of (M := 4) a1.1 a1.2 rfl (by decide)
    refine v_sub [3, 4, 1, 0] (ls' := [(0, .ref (u.2.1 63)), (1, .int (nI T)), (3, .int 0), (4, .int x7)]) rfl ?_
    have g8 : 0 = (nI (hrN cr n 0)) := (by first | rfl | (subst_vars; rfl))
    have g9 : x7 = (kI n) := (by first | rfl | (subst_vars; rfl))
    refine v_to (ls' := [(0, .ref (u.2.1 63)), (1, .int (nI T)), (3, .int (nI (hrN cr n 0))), (4, .int (kI n))]) (by first | rfl | rw [g8, g9] | simp_all) ?_
    refine L_M_duel_27 hA F hb ha h0 hcr (fun j m => ?_) _ 0 n (Nat.zero_add _) (Nat.lt_succ_self _)
    refine v_iconst (v := 0) F d_M_duel_52 ki_0 ?_
    refine v_istore (ls' := [(4, .int 0), (0, .ref (u.2.1 63)), (1, .int (nI T)), (3, .int (nI (hrN cr n n)))]) F d_M_duel_53 (by decide) rfl ?_
    refine v_sub [1, 2, 3, 0] (ls' := [(0, .ref (u.2.1 63)), (1, .int (nI T)), (3, .int (nI (hrN cr n n))), (4, .int 0)]) rfl ?_
    have g10 : 0 = (nI 0) := (by first | rfl | (simp_all; done) | grind)
    refine v_to (ls' := [(0, .ref (u.2.1 63)), (1, .int (nI T)), (3, .int (nI (hrN cr n n))), (4, .int (nI 0))]) (by first | rfl | rw [g10] | simp_all) ?_
    refine L_M_duel_55 hA F hb ha h0 (fun c τ ec fτ he => ?_) _ 0 σ (Nat.zero_le _) fr.rf (fun x hx => absurd hx (Nat.not_lt_zero _)) (Nat.lt_succ_self _)
    subst ec
    refine v_iload_n F d_M_duel_133 rfl 1 rfl ?_
    refine v_iconst (v := 1) F d_M_duel_134 ki_1 ?_
    refine v_isub F d_M_duel_135 ?_
    refine v_ni (fun x11 ex11 => ?_)
    refine v_istore (ls' := [(4, .int x11), (0, .ref (u.2.1 63)), (1, .int (nI T)), (3, .int (nI (hrN cr n n)))]) F d_M_duel_136 (by decide) rfl ?_
    refine v_sub [1, 2, 3, 0] (ls' := [(0, .ref (u.2.1 63)), (1, .int (nI T)), (3, .int (nI (hrN cr n n))), (4, .int x11)]) rfl ?_
    have g12 : x11 = (kI T) := (by first | rfl | (subst_vars; rfl))
    refine v_to (ls' := [(0, .ref (u.2.1 63)), (1, .int (nI T)), (3, .int (nI (hrN cr n n))), (4, .int (kI T))]) (by first | rfl | rw [g12] | simp_all) ?_
    have hlt := hr_lt (cr := cr) (n := n) (fun i hi => (hcr i hi).2) n (Nat.le_refl _)
    have h729 := p3_b hn6
    refine L_M_duel_138 hA F hb ha h0 hT (fun l m τ4 el fτ4 he4 => ?_) _ 0 T τ (Nat.zero_add _) fτ he (Nat.lt_succ_self _)
    subst el
    refine v_aload_n F d_M_duel_224 rfl 0 rfl ?_
    refine v_getr (r := 85) F fk_M_79 G63 rfl d_M_duel_225 ?_
    refine v_iload_n F d_M_duel_228 rfl 1 rfl ?_
    refine v_ial F (hrN cr n n) G85 rfl (by omega) d_M_duel_229 ?_
    refine v_te (y := dpV σ kd n a l l (hrN cr n n)) (he4 _ hlt) ?_
    refine v_iret F hr rfl d_M_duel_230 ?_
    refine ⟨τ4, fτ4, ?_⟩
    unfold mDuel
    rw [if_neg (fun q => q (by assumption)), if_neg (by assumption), xT]
