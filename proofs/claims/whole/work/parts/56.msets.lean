theorem st_M_215 : siteV "TakerBookModel" 215 ⟨"TakerBookModel", "copyNow", "()V"⟩ := ⟨List.mem_of_getElem? (i := 1317) (by decide +kernel), List.mem_of_getElem? (i := 1319) (by decide +kernel), List.mem_of_getElem? (i := 51) (by decide +kernel)⟩
theorem st_M_233 : siteV "TakerBookModel" 233 ⟨"TakerBookModel", "headsOf", "(I)I"⟩ := ⟨List.mem_of_getElem? (i := 1346) (by decide +kernel), List.mem_of_getElem? (i := 1348) (by decide +kernel), List.mem_of_getElem? (i := 56) (by decide +kernel)⟩
theorem st_M_229 : siteV "TakerBookModel" 229 ⟨"TakerBookModel", "need", "(Z)I"⟩ := ⟨List.mem_of_getElem? (i := 1342) (by decide +kernel), List.mem_of_getElem? (i := 1344) (by decide +kernel), List.mem_of_getElem? (i := 55) (by decide +kernel)⟩
theorem c_M_isTrial_f (l : Launch) (u : Un) (hA : Ap u) {σ τ : St} (fτ : fr σ τ) {n : Nat} {kd : Nat → Nat} (hb : mkOk σ n kd) {kO b : Nat} (hO : ofOk kO) (hb64 : b < 64) (e0 : τ.1 kO 0 = nI b) {cr : Nat → Int32} (ec : ∀ i, i < n → τ.1 kO (5 + i) = cr i) : MTi l u y_M_isTrial b_M_isTrial 2 .boolean 4 [.ref (u.2.1 63), .ref (u.2.1 kO)] τ (fun ans σ' => bI (trX σ kd n cr b) = ans ∧ τ = σ') := by
  have h := c_M_isTrial l u hA τ (fτ.mk hb) hO hb64 e0
  rw [spX_eq fτ ec, fτ.1 70 3 rfl] at h
  exact h
theorem c_M_speakers_f (l : Launch) (u : Un) (hA : Ap u) {σ τ : St} (fτ : fr σ τ) {n : Nat} {kd : Nat → Nat} (hb : mkOk σ n kd) {kO b : Nat} (hO : ofOk kO) (hb64 : b < 64) (e0 : τ.1 kO 0 = nI b) {cr : Nat → Int32} (ec : ∀ i, i < n → τ.1 kO (5 + i) = cr i) : MTi l u y_M_speakers b_M_speakers 4 .int 3 [.ref (u.2.1 63), .ref (u.2.1 kO)] τ (fun ans σ' => nI (spX σ kd n cr b) = ans ∧ τ = σ') := by
  have h := c_M_speakers l u hA τ (fτ.mk hb) hO hb64 e0
  rw [spX_eq fτ ec] at h
  exact h
theorem c_M_steals_f (l : Launch) (u : Un) (hA : Ap u) {σ τ : St} (fτ : fr σ τ) {n : Nat} {kd : Nat → Nat} (hb : mkOk σ n kd) {kO b : Nat} (hO : ofOk kO) (hb64 : b < 64) (e0 : τ.1 kO 0 = nI b) (i : Nat) (hi : i < n) : MTi l u y_M_steals b_M_steals 3 .int 2 [.ref (u.2.1 63), .ref (u.2.1 kO), .int (nI i)] τ (fun ans σ' => ltF kd (σ.1 72) (gaN kd n) b i = ans ∧ τ = σ') := by
  have h := c_M_steals l u hA τ (fτ.mk hb) hO hb64 e0 i hi
  rw [skX fτ] at h
  exact h
theorem c_M_loot_f (l : Launch) (u : Un) (hA : Ap u) {σ τ : St} (fτ : fr σ τ) {n : Nat} {kd : Nat → Nat} (hb : mkOk σ n kd) {kO b : Nat} (hO : ofOk kO) (hb64 : b < 64) (e0 : τ.1 kO 0 = nI b) : MTi l u y_M_loot b_M_loot 4 .int 3 [.ref (u.2.1 63), .ref (u.2.1 kO)] τ (fun ans σ' => sumI (ltA kd (σ.1 72) (gaN kd n) b) n = ans ∧ τ = σ') := by
  have h := c_M_loot l u hA τ (fτ.mk hb) hO hb64 e0
  rw [skX fτ] at h
  exact h
theorem c_M_others_f (l : Launch) (u : Un) (hA : Ap u) {σ τ : St} (fτ : fr σ τ) {n : Nat} {kd : Nat → Nat} (hb : mkOk σ n kd) {kO b : Nat} (hO : ofOk kO) (hb64 : b < 64) (e0 : τ.1 kO 0 = nI b) (i : Nat) (hi : i < 6) : MTi l u y_M_others b_M_others 5 .int 1 [.ref (u.2.1 63), .ref (u.2.1 kO), .int (nI i)] τ (fun ans σ' => nI (othN b (gaN kd n) i) = ans ∧ τ = σ') := by
  have h := c_M_others l u hA τ (fτ.mk hb) hO hb64 e0 i hi
  exact h
abbrev b_M_safe : ByteArray := prog_14_method_60_code
abbrev y_M_safe : MethodName := ⟨"TakerBookModel", "safe", "()I"⟩
theorem d_M_safe_0 : decode b_M_safe 0 = .ok (.aload_n 0, 1) := by decide +kernel
theorem d_M_safe_1 : decode b_M_safe 1 = .ok (.getfield 146, 3) := by decide +kernel
theorem d_M_safe_4 : decode b_M_safe 4 = .ok (.ifCond .ne 6, 3) := by decide +kernel
theorem d_M_safe_7 : decode b_M_safe 7 = .ok (.bipush (-4), 2) := by decide +kernel
theorem d_M_safe_9 : decode b_M_safe 9 = .ok (.ireturn, 1) := by decide +kernel
theorem d_M_safe_10 : decode b_M_safe 10 = .ok (.bipush (-9), 2) := by decide +kernel
theorem d_M_safe_12 : decode b_M_safe 12 = .ok (.istore_n 1, 1) := by decide +kernel
theorem d_M_safe_13 : decode b_M_safe 13 = .ok (.iconst 0, 1) := by decide +kernel
theorem d_M_safe_14 : decode b_M_safe 14 = .ok (.istore_n 2, 1) := by decide +kernel
theorem d_M_safe_15 : decode b_M_safe 15 = .ok (.iload_n 2, 1) := by decide +kernel
theorem d_M_safe_16 : decode b_M_safe 16 = .ok (.iconst 1, 1) := by decide +kernel
theorem d_M_safe_17 : decode b_M_safe 17 = .ok (.aload_n 0, 1) := by decide +kernel
theorem d_M_safe_18 : decode b_M_safe 18 = .ok (.getfield 146, 3) := by decide +kernel
theorem d_M_safe_21 : decode b_M_safe 21 = .ok (.ishl, 1) := by decide +kernel
theorem d_M_safe_22 : decode b_M_safe 22 = .ok (.if_icmp .ge 86, 3) := by decide +kernel
theorem d_M_safe_25 : decode b_M_safe 25 = .ok (.aload_n 0, 1) := by decide +kernel
theorem d_M_safe_26 : decode b_M_safe 26 = .ok (.invokevirtual 215, 3) := by decide +kernel
theorem d_M_safe_29 : decode b_M_safe 29 = .ok (.aload_n 0, 1) := by decide +kernel
theorem d_M_safe_30 : decode b_M_safe 30 = .ok (.getfield 54, 3) := by decide +kernel
theorem d_M_safe_33 : decode b_M_safe 33 = .ok (.iconst 0, 1) := by decide +kernel
theorem d_M_safe_34 : decode b_M_safe 34 = .ok (.aload_n 0, 1) := by decide +kernel
theorem d_M_safe_35 : decode b_M_safe 35 = .ok (.getfield 51, 3) := by decide +kernel
theorem d_M_safe_38 : decode b_M_safe 38 = .ok (.iconst 0, 1) := by decide +kernel
theorem d_M_safe_39 : decode b_M_safe 39 = .ok (.iaload, 1) := by decide +kernel
theorem d_M_safe_40 : decode b_M_safe 40 = .ok (.iload_n 2, 1) := by decide +kernel
theorem d_M_safe_41 : decode b_M_safe 41 = .ok (.iconst (-1), 1) := by decide +kernel
theorem d_M_safe_42 : decode b_M_safe 42 = .ok (.ixor, 1) := by decide +kernel
theorem d_M_safe_43 : decode b_M_safe 43 = .ok (.iand, 1) := by decide +kernel
theorem d_M_safe_44 : decode b_M_safe 44 = .ok (.iastore, 1) := by decide +kernel
theorem d_M_safe_45 : decode b_M_safe 45 = .ok (.iload_n 1, 1) := by decide +kernel
theorem d_M_safe_46 : decode b_M_safe 46 = .ok (.bipush (-9), 2) := by decide +kernel
theorem d_M_safe_48 : decode b_M_safe 48 = .ok (.if_icmp .eq 14, 3) := by decide +kernel
theorem d_M_safe_51 : decode b_M_safe 51 = .ok (.iload_n 2, 1) := by decide +kernel
theorem d_M_safe_52 : decode b_M_safe 52 = .ok (.invokestatic 175, 3) := by decide +kernel
theorem d_M_safe_55 : decode b_M_safe 55 = .ok (.iload_n 1, 1) := by decide +kernel
theorem d_M_safe_56 : decode b_M_safe 56 = .ok (.invokestatic 175, 3) := by decide +kernel
theorem d_M_safe_59 : decode b_M_safe 59 = .ok (.if_icmp .ge 7, 3) := by decide +kernel
theorem d_M_safe_62 : decode b_M_safe 62 = .ok (.iconst 1, 1) := by decide +kernel
theorem d_M_safe_63 : decode b_M_safe 63 = .ok (.goto 4, 3) := by decide +kernel
theorem d_M_safe_66 : decode b_M_safe 66 = .ok (.iconst 0, 1) := by decide +kernel
theorem d_M_safe_67 : decode b_M_safe 67 = .ok (.istore_n 3, 1) := by decide +kernel
theorem d_M_safe_68 : decode b_M_safe 68 = .ok (.iload_n 3, 1) := by decide +kernel
theorem d_M_safe_69 : decode b_M_safe 69 = .ok (.ifCond .eq 31, 3) := by decide +kernel
theorem d_M_safe_72 : decode b_M_safe 72 = .ok (.iload_n 2, 1) := by decide +kernel
theorem d_M_safe_73 : decode b_M_safe 73 = .ok (.aload_n 0, 1) := by decide +kernel
theorem d_M_safe_74 : decode b_M_safe 74 = .ok (.getfield 51, 3) := by decide +kernel
theorem d_M_safe_77 : decode b_M_safe 77 = .ok (.iconst 0, 1) := by decide +kernel
theorem d_M_safe_78 : decode b_M_safe 78 = .ok (.iaload, 1) := by decide +kernel
theorem d_M_safe_79 : decode b_M_safe 79 = .ok (.iconst (-1), 1) := by decide +kernel
theorem d_M_safe_80 : decode b_M_safe 80 = .ok (.ixor, 1) := by decide +kernel
theorem d_M_safe_81 : decode b_M_safe 81 = .ok (.iand, 1) := by decide +kernel
theorem d_M_safe_82 : decode b_M_safe 82 = .ok (.ifCond .ne 18, 3) := by decide +kernel
theorem d_M_safe_85 : decode b_M_safe 85 = .ok (.aload_n 0, 1) := by decide +kernel
theorem d_M_safe_86 : decode b_M_safe 86 = .ok (.aload_n 0, 1) := by decide +kernel
theorem d_M_safe_87 : decode b_M_safe 87 = .ok (.getfield 54, 3) := by decide +kernel
theorem d_M_safe_90 : decode b_M_safe 90 = .ok (.invokevirtual 181, 3) := by decide +kernel
theorem d_M_safe_93 : decode b_M_safe 93 = .ok (.ifCond .ne 7, 3) := by decide +kernel
theorem d_M_safe_96 : decode b_M_safe 96 = .ok (.iload_n 2, 1) := by decide +kernel
theorem d_M_safe_97 : decode b_M_safe 97 = .ok (.goto 4, 3) := by decide +kernel
theorem d_M_safe_100 : decode b_M_safe 100 = .ok (.iload_n 1, 1) := by decide +kernel
theorem d_M_safe_101 : decode b_M_safe 101 = .ok (.istore_n 1, 1) := by decide +kernel
theorem d_M_safe_102 : decode b_M_safe 102 = .ok (.iinc 2 1, 3) := by decide +kernel
theorem d_M_safe_105 : decode b_M_safe 105 = .ok (.goto (-90), 3) := by decide +kernel
theorem d_M_safe_108 : decode b_M_safe 108 = .ok (.aload_n 0, 1) := by decide +kernel
theorem d_M_safe_109 : decode b_M_safe 109 = .ok (.iload_n 1, 1) := by decide +kernel
theorem d_M_safe_110 : decode b_M_safe 110 = .ok (.iload_n 1, 1) := by decide +kernel
theorem d_M_safe_111 : decode b_M_safe 111 = .ok (.invokestatic 175, 3) := by decide +kernel
theorem d_M_safe_114 : decode b_M_safe 114 = .ok (.invokevirtual 111, 3) := by decide +kernel
theorem d_M_safe_117 : decode b_M_safe 117 = .ok (.ireturn, 1) := by decide +kernel
theorem mo_M_safe : mok y_M_safe b_M_safe 4 (some .int) 0 := ⟨List.mem_of_getElem? (i := 1316) (by decide +kernel), ⟨by decide +kernel, by decide +kernel, by decide +kernel⟩, List.mem_of_getElem? (i := 86) (by decide +kernel), by decide⟩
set_option maxHeartbeats 4000000 in
theorem L_M_safe_15 {X : FX} {u : Un} (hA : Ap u) {Q : State → Prop} (F : Fr X u "TakerBookModel" b_M_safe 4) {σ : St} {n : Nat} {kd : Nat → Nat} (hb : mkOk σ n kd) {a : Nat} (ha : a < 64) (h0 : σ.1 76 0 = nI a) (k0 : ∀ (s : Nat) (τ : St), s = 2 ^ n → fr σ τ → V X u 5 4 Q 108 [(0, .ref (u.2.1 63)), (1, .int (oI (itr (sfM σ kd n a) none s))), (2, .int (nI s))] [] (τ)) : ∀ (nn : Nat) (s : Nat) (τ : St), s ≤ 2 ^ n → fr σ τ → 2 ^ n - s < nn → V X u 5 4 Q 15 [(0, .ref (u.2.1 63)), (1, .int (oI (itr (sfM σ kd n a) none s))), (2, .int (nI s))] [] (τ) := by
  intro nn
  induction nn with
  | zero =>
    intro s τ hs fτ h2
    exact absurd h2 (Nat.not_lt_zero _)
  | succ nn ih =>
    intro s τ hs fτ hm
    obtain ⟨hn, hn6, hkd, hk6⟩ := id hb
    have h64 := p2_64 hn6
    have hfb := sfM_b (σ := σ) (kd := kd) (n := n) (a := a) s (by omega)
    have hpl : s < 64 → pcN s ≤ 6 := pc_le s
    have hpl2 := pc_le _ hfb
    have hsL : s &&& (63 ^^^ a) ≤ s := Nat.and_le_left
    refine v_iload_n F d_M_safe_15 rfl 2 rfl ?_
    refine v_iconst (v := 1) F d_M_safe_16 ki_1 ?_
    refine v_aload_n F d_M_safe_17 rfl 0 rfl ?_
    refine v_geti F fk_M_146 G63 rfl d_M_safe_18 ?_
    refine v_te (y := nI n) (fτ.v rfl hn) ?_
    refine v_ishl F d_M_safe_21 ?_
    refine v_te (y := nI (2 ^ n)) (bit6 _ (by omega)) ?_
    refine v_icmp_ge F 108 d_M_safe_22 rfl (fun h22 => ?_) (fun h22 => ?_)
    · skip
      have h22 : 2 ^ n ≤ s := (nI_leI (a := 2 ^ n) (b := s) (by omega) (by omega)).mp h22
      exact k0 s τ (by omega) fτ
    · skip
      have h22 : ¬ 2 ^ n ≤ s := fun q => h22 ((nI_leI (a := 2 ^ n) (b := s) (by omega) (by omega)).mpr q)
      refine v_aload_n F d_M_safe_25 rfl 0 rfl ?_
      refine v_runv (r_V F (c_M_copyNow X.2.1 u hA τ) mo_M_copyNow st_M_215 rc_63 (by decide) rfl (Nat.le_of_ble_eq_true rfl) d_M_safe_26) (fun σ2 q3 => ?_)
      have eσ2 := q3
      have fσ2 : fr σ σ2 := by rw [eσ2]; exact fτ.c (fun _ => rfl) _
      refine v_aload_n F d_M_safe_29 rfl 0 rfl ?_
      refine v_getr (r := 77) F fk_M_54 G63 rfl d_M_safe_30 ?_
      refine v_iconst (v := 0) F d_M_safe_33 ki_0 ?_
      refine v_aload_n F d_M_safe_34 rfl 0 rfl ?_
      refine v_getr (r := 76) F fk_M_51 G63 rfl d_M_safe_35 ?_
      refine v_iconst (v := 0) F d_M_safe_38 ki_0 ?_
      refine v_ial F 0 G76 rfl (by omega) d_M_safe_39 ?_
      refine v_te (y := nI a) (fσ2.v rfl h0) ?_
      refine v_iload_n F d_M_safe_40 rfl 2 rfl ?_
      refine v_iconst (v := (-1)) F d_M_safe_41 ki_m1 ?_
      refine v_ixor F d_M_safe_42 ?_
      refine v_iand F d_M_safe_43 ?_
      refine v_te (y := nI (a &&& (63 ^^^ s))) (sub6 ha (by omega)) ?_
      refine v_ias F 0 G77 rfl (by omega) d_M_safe_44 ?_
      refine v_ns (fun σ4 eσ4 => ?_)
      have fσ4 : fr σ σ4 := by rw [eσ4]; exact fσ2.u rfl
      refine v_iload_n F d_M_safe_45 rfl 1 rfl ?_
      refine v_bipush (v := (-9)) F d_M_safe_46 kb_m9 ?_
      refine v_icmp_eq F 62 d_M_safe_48 rfl (fun h48 => ?_) (fun h48 => ?_)
      · skip
        refine v_iconst (v := 1) F d_M_safe_62 ki_1 ?_
        refine v_goto F 67 d_M_safe_63 rfl ?_
        refine v_istore_n (ls' := [(3, .int 1), (0, .ref (u.2.1 63)), (1, .int (oI (itr (sfM σ kd n a) none s))), (2, .int (nI s))]) F d_M_safe_67 rfl (by decide) rfl ?_
        refine v_iload_n F d_M_safe_68 rfl 0 rfl ?_
        refine v_if_eq F 100 d_M_safe_69 rfl (fun h => absurd h (by decide)) (fun _ => ?_)
        refine v_iload_n F d_M_safe_72 rfl 3 rfl ?_
        refine v_aload_n F d_M_safe_73 rfl 1 rfl ?_
        refine v_getr (r := 76) F fk_M_51 G63 rfl d_M_safe_74 ?_
        refine v_iconst (v := 0) F d_M_safe_77 ki_0 ?_
        refine v_ial F 0 G76 rfl (by omega) d_M_safe_78 ?_
        refine v_te (y := nI a) (fσ4.v rfl h0) ?_
        refine v_iconst (v := (-1)) F d_M_safe_79 ki_m1 ?_
        refine v_ixor F d_M_safe_80 ?_
        refine v_iand F d_M_safe_81 ?_
        refine v_te (y := nI (s &&& (63 ^^^ a))) (sub6 (by omega) ha) ?_
        refine v_if_ne F 100 d_M_safe_82 rfl (fun h82 => ?_) (fun h82 => ?_)
        · skip
          have h82 : ¬ s &&& (63 ^^^ a) = 0 := fun q => h82 ((nI_eq (a := s &&& (63 ^^^ a)) (b := 0) (by omega) (by omega)).mpr q)
          refine v_iload_n F d_M_safe_100 rfl 2 rfl ?_
          refine v_ni (fun x5 ex5 => ?_)
          refine v_istore_n (ls' := [(1, .int x5), (3, .int 1), (0, .ref (u.2.1 63)), (2, .int (nI s))]) F d_M_safe_101 rfl (by decide) rfl ?_
          refine v_iinc (v := nI (s + 1)) (ls' := [(2, .int (nI (s + 1))), (1, .int x5), (3, .int 1), (0, .ref (u.2.1 63))]) F d_M_safe_102 (j := 3) rfl (nI_inc _) (by decide) rfl ?_
          refine v_goto F 15 d_M_safe_105 rfl ?_
          refine v_sub [3, 1, 0] (ls' := [(0, .ref (u.2.1 63)), (1, .int x5), (2, .int (nI (s + 1)))]) rfl ?_
          have g6 : x5 = (oI (itr (sfM σ kd n a) none (s + 1))) := (by first | rfl | (simp only [itr, sfM]; rw [if_pos ⟨by first | exact Or.inl (by assumption) | exact Or.inr (by first | assumption | omega), by assumption, by assumption⟩]; first | done | rfl) | (simp only [itr, sfM]; rw [if_neg (by rintro ⟨q1, q2, q3⟩; first | exact absurd q2 (by assumption) | exact q3 (by assumption) | (rcases q1 with q1 | q1 <;> exact absurd q1 (by first | assumption | omega)))]; first | done | assumption))
          refine v_to (ls' := [(0, .ref (u.2.1 63)), (1, .int (oI (itr (sfM σ kd n a) none (s + 1)))), (2, .int (nI (s + 1)))]) (by first | rfl | rw [g6] | simp_all) ?_
          exact ih (s + 1) (σ4) (by omega) fσ4 (by omega)
        · skip
          have h82 : s &&& (63 ^^^ a) = 0 := (nI_eq (a := s &&& (63 ^^^ a)) (b := 0) (by omega) (by omega)).mp h82
          refine v_aload_n F d_M_safe_85 rfl 1 rfl ?_
          refine v_aload_n F d_M_safe_86 rfl 1 rfl ?_
          refine v_getr (r := 77) F fk_M_54 G63 rfl d_M_safe_87 ?_
          refine v_runi (r_V F (c_M_isTrial_f X.2.1 u hA fσ4 hb (kO := 77) (Or.inr rfl) (and_lt ha) (by rw [eσ4, uI_s]) (cr := (nwC σ)) (fun i hi => by rw [eσ4, uI_n _ _ _ _ (by omega), eσ2]; exact (copy_at fτ (by omega)))  ) mo_M_isTrial st_M_181 rc_63 (by decide) rfl (Nat.le_of_ble_eq_true rfl) d_M_safe_90) (fun r7 σ8 q9 => ?_)
          obtain ⟨rfl, rfl⟩ := q9
          refine v_bf F 100 d_M_safe_93 rfl (fun h93 => ?_) (fun h93 => ?_)
          · skip
            refine v_iload_n F d_M_safe_100 rfl 2 rfl ?_
            refine v_ni (fun x10 ex10 => ?_)
            refine v_istore_n (ls' := [(1, .int x10), (3, .int 1), (0, .ref (u.2.1 63)), (2, .int (nI s))]) F d_M_safe_101 rfl (by decide) rfl ?_
            refine v_iinc (v := nI (s + 1)) (ls' := [(2, .int (nI (s + 1))), (1, .int x10), (3, .int 1), (0, .ref (u.2.1 63))]) F d_M_safe_102 (j := 3) rfl (nI_inc _) (by decide) rfl ?_
            refine v_goto F 15 d_M_safe_105 rfl ?_
            refine v_sub [3, 1, 0] (ls' := [(0, .ref (u.2.1 63)), (1, .int x10), (2, .int (nI (s + 1)))]) rfl ?_
            have g11 : x10 = (oI (itr (sfM σ kd n a) none (s + 1))) := (by first | rfl | (simp only [itr, sfM]; rw [if_pos ⟨by first | exact Or.inl (by assumption) | exact Or.inr (by first | assumption | omega), by assumption, by assumption⟩]; first | done | rfl) | (simp only [itr, sfM]; rw [if_neg (by rintro ⟨q1, q2, q3⟩; first | exact absurd q2 (by assumption) | exact q3 (by assumption) | (rcases q1 with q1 | q1 <;> exact absurd q1 (by first | assumption | omega)))]; first | done | assumption))
            refine v_to (ls' := [(0, .ref (u.2.1 63)), (1, .int (oI (itr (sfM σ kd n a) none (s + 1)))), (2, .int (nI (s + 1)))]) (by first | rfl | rw [g11] | simp_all) ?_
            exact ih (s + 1) (σ4) (by omega) fσ4 (by omega)
          · skip
            refine v_iload_n F d_M_safe_96 rfl 3 rfl ?_
            refine v_goto F 101 d_M_safe_97 rfl ?_
            refine v_istore_n (ls' := [(1, .int (nI s)), (3, .int 1), (0, .ref (u.2.1 63)), (2, .int (nI s))]) F d_M_safe_101 rfl (by decide) rfl ?_
            refine v_iinc (v := nI (s + 1)) (ls' := [(2, .int (nI (s + 1))), (1, .int (nI s)), (3, .int 1), (0, .ref (u.2.1 63))]) F d_M_safe_102 (j := 3) rfl (nI_inc _) (by decide) rfl ?_
            refine v_goto F 15 d_M_safe_105 rfl ?_
            refine v_sub [3, 1, 0] (ls' := [(0, .ref (u.2.1 63)), (1, .int (nI s)), (2, .int (nI (s + 1)))]) rfl ?_
            have g12 : (nI s) = (oI (itr (sfM σ kd n a) none (s + 1))) := (by first | rfl | (simp only [itr, sfM]; rw [if_pos ⟨by first | exact Or.inl (by assumption) | exact Or.inr (by first | assumption | omega), by assumption, by assumption⟩]; first | done | rfl) | (simp only [itr, sfM]; rw [if_neg (by rintro ⟨q1, q2, q3⟩; first | exact absurd q2 (by assumption) | exact q3 (by assumption) | (rcases q1 with q1 | q1 <;> exact absurd q1 (by first | assumption | omega)))]; first | done | assumption))
            refine v_to (ls' := [(0, .ref (u.2.1 63)), (1, .int (oI (itr (sfM σ kd n a) none (s + 1)))), (2, .int (nI (s + 1)))]) (by first | rfl | rw [g12] | simp_all) ?_
            exact ih (s + 1) (σ4) (by omega) fσ4 (by omega)
      · skip
        refine v_iload_n F d_M_safe_51 rfl 2 rfl ?_
        refine v_runi (r_S F (c_M_bits X.2.1 u hA σ4 s (by omega)) mo_M_bits st_M_175 (by decide) rfl (Nat.le_of_ble_eq_true rfl) d_M_safe_52) (fun r13 σ14 q15 => ?_)
        obtain ⟨rfl, rfl⟩ := q15
        refine v_iload_n F d_M_safe_55 rfl 1 rfl ?_
        refine v_te (y := nI ((itr (sfM σ kd n a) none s).getD 0)) (oI_g (by assumption)) ?_
        refine v_runi (r_S F (c_M_bits X.2.1 u hA σ4 ((itr (sfM σ kd n a) none s).getD 0) (sfM_b s (by omega))) mo_M_bits st_M_175 (by decide) rfl (Nat.le_of_ble_eq_true rfl) d_M_safe_56) (fun r16 σ17 q18 => ?_)
        obtain ⟨rfl, rfl⟩ := q18
        refine v_icmp_ge F 66 d_M_safe_59 rfl (fun h59 => ?_) (fun h59 => ?_)
        · skip
          have h59 : pcN ((itr (sfM σ kd n a) none s).getD 0) ≤ pcN s := (nI_leI (a := pcN ((itr (sfM σ kd n a) none s).getD 0)) (b := pcN s) (by omega) (by omega)).mp h59
          refine v_iconst (v := 0) F d_M_safe_66 ki_0 ?_
          refine v_istore_n (ls' := [(3, .int 0), (0, .ref (u.2.1 63)), (1, .int (oI (itr (sfM σ kd n a) none s))), (2, .int (nI s))]) F d_M_safe_67 rfl (by decide) rfl ?_
          refine v_iload_n F d_M_safe_68 rfl 0 rfl ?_
          refine v_if_eq F 100 d_M_safe_69 rfl (fun _ => ?_) (fun h => absurd (by decide) h)
          refine v_iload_n F d_M_safe_100 rfl 2 rfl ?_
          refine v_ni (fun x19 ex19 => ?_)
          refine v_istore_n (ls' := [(1, .int x19), (3, .int 0), (0, .ref (u.2.1 63)), (2, .int (nI s))]) F d_M_safe_101 rfl (by decide) rfl ?_
          refine v_iinc (v := nI (s + 1)) (ls' := [(2, .int (nI (s + 1))), (1, .int x19), (3, .int 0), (0, .ref (u.2.1 63))]) F d_M_safe_102 (j := 3) rfl (nI_inc _) (by decide) rfl ?_
          refine v_goto F 15 d_M_safe_105 rfl ?_
          refine v_sub [3, 1, 0] (ls' := [(0, .ref (u.2.1 63)), (1, .int x19), (2, .int (nI (s + 1)))]) rfl ?_
          have g20 : x19 = (oI (itr (sfM σ kd n a) none (s + 1))) := (by first | rfl | (simp only [itr, sfM]; rw [if_pos ⟨by first | exact Or.inl (by assumption) | exact Or.inr (by first | assumption | omega), by assumption, by assumption⟩]; first | done | rfl) | (simp only [itr, sfM]; rw [if_neg (by rintro ⟨q1, q2, q3⟩; first | exact absurd q2 (by assumption) | exact q3 (by assumption) | (rcases q1 with q1 | q1 <;> exact absurd q1 (by first | assumption | omega)))]; first | done | assumption))
          refine v_to (ls' := [(0, .ref (u.2.1 63)), (1, .int (oI (itr (sfM σ kd n a) none (s + 1)))), (2, .int (nI (s + 1)))]) (by first | rfl | rw [g20] | simp_all) ?_
          exact ih (s + 1) (σ4) (by omega) fσ4 (by omega)
        · skip
          have h59 : ¬ pcN ((itr (sfM σ kd n a) none s).getD 0) ≤ pcN s := fun q => h59 ((nI_leI (a := pcN ((itr (sfM σ kd n a) none s).getD 0)) (b := pcN s) (by omega) (by omega)).mpr q)
          refine v_iconst (v := 1) F d_M_safe_62 ki_1 ?_
          refine v_goto F 67 d_M_safe_63 rfl ?_
          refine v_istore_n (ls' := [(3, .int 1), (0, .ref (u.2.1 63)), (1, .int (oI (itr (sfM σ kd n a) none s))), (2, .int (nI s))]) F d_M_safe_67 rfl (by decide) rfl ?_
          refine v_iload_n F d_M_safe_68 rfl 0 rfl ?_
          refine v_if_eq F 100 d_M_safe_69 rfl (fun h => absurd h (by decide)) (fun _ => ?_)
          refine v_iload_n F d_M_safe_72 rfl 3 rfl ?_
          refine v_aload_n F d_M_safe_73 rfl 1 rfl ?_
          refine v_getr (r := 76) F fk_M_51 G63 rfl d_M_safe_74 ?_
          refine v_iconst (v := 0) F d_M_safe_77 ki_0 ?_
          refine v_ial F 0 G76 rfl (by omega) d_M_safe_78 ?_
          refine v_te (y := nI a) (fσ4.v rfl h0) ?_
          refine v_iconst (v := (-1)) F d_M_safe_79 ki_m1 ?_
          refine v_ixor F d_M_safe_80 ?_
          refine v_iand F d_M_safe_81 ?_
          refine v_te (y := nI (s &&& (63 ^^^ a))) (sub6 (by omega) ha) ?_
          refine v_if_ne F 100 d_M_safe_82 rfl (fun h82 => ?_) (fun h82 => ?_)
          · skip
            have h82 : ¬ s &&& (63 ^^^ a) = 0 := fun q => h82 ((nI_eq (a := s &&& (63 ^^^ a)) (b := 0) (by omega) (by omega)).mpr q)
            refine v_iload_n F d_M_safe_100 rfl 2 rfl ?_
            refine v_ni (fun x21 ex21 => ?_)
            refine v_istore_n (ls' := [(1, .int x21), (3, .int 1), (0, .ref (u.2.1 63)), (2, .int (nI s))]) F d_M_safe_101 rfl (by decide) rfl ?_
            refine v_iinc (v := nI (s + 1)) (ls' := [(2, .int (nI (s + 1))), (1, .int x21), (3, .int 1), (0, .ref (u.2.1 63))]) F d_M_safe_102 (j := 3) rfl (nI_inc _) (by decide) rfl ?_
            refine v_goto F 15 d_M_safe_105 rfl ?_
            refine v_sub [3, 1, 0] (ls' := [(0, .ref (u.2.1 63)), (1, .int x21), (2, .int (nI (s + 1)))]) rfl ?_
            have g22 : x21 = (oI (itr (sfM σ kd n a) none (s + 1))) := (by first | rfl | (simp only [itr, sfM]; rw [if_pos ⟨by first | exact Or.inl (by assumption) | exact Or.inr (by first | assumption | omega), by assumption, by assumption⟩]; first | done | rfl) | (simp only [itr, sfM]; rw [if_neg (by rintro ⟨q1, q2, q3⟩; first | exact absurd q2 (by assumption) | exact q3 (by assumption) | (rcases q1 with q1 | q1 <;> exact absurd q1 (by first | assumption | omega)))]; first | done | assumption))
            refine v_to (ls' := [(0, .ref (u.2.1 63)), (1, .int (oI (itr (sfM σ kd n a) none (s + 1)))), (2, .int (nI (s + 1)))]) (by first | rfl | rw [g22] | simp_all) ?_
            exact ih (s + 1) (σ4) (by omega) fσ4 (by omega)
          · skip
            have h82 : s &&& (63 ^^^ a) = 0 := (nI_eq (a := s &&& (63 ^^^ a)) (b := 0) (by omega) (by omega)).mp h82
            refine v_aload_n F d_M_safe_85 rfl 1 rfl ?_
            refine v_aload_n F d_M_safe_86 rfl 1 rfl ?_
            refine v_getr (r := 77) F fk_M_54 G63 rfl d_M_safe_87 ?_
            refine v_runi (r_V F (c_M_isTrial_f X.2.1 u hA fσ4 hb (kO := 77) (Or.inr rfl) (and_lt ha) (by rw [eσ4, uI_s]) (cr := (nwC σ)) (fun i hi => by rw [eσ4, uI_n _ _ _ _ (by omega), eσ2]; exact (copy_at fτ (by omega)))  ) mo_M_isTrial st_M_181 rc_63 (by decide) rfl (Nat.le_of_ble_eq_true rfl) d_M_safe_90) (fun r23 σ24 q25 => ?_)
            obtain ⟨rfl, rfl⟩ := q25
            refine v_bf F 100 d_M_safe_93 rfl (fun h93 => ?_) (fun h93 => ?_)
            · skip
              refine v_iload_n F d_M_safe_100 rfl 2 rfl ?_
              refine v_ni (fun x26 ex26 => ?_)
              refine v_istore_n (ls' := [(1, .int x26), (3, .int 1), (0, .ref (u.2.1 63)), (2, .int (nI s))]) F d_M_safe_101 rfl (by decide) rfl ?_
              refine v_iinc (v := nI (s + 1)) (ls' := [(2, .int (nI (s + 1))), (1, .int x26), (3, .int 1), (0, .ref (u.2.1 63))]) F d_M_safe_102 (j := 3) rfl (nI_inc _) (by decide) rfl ?_
              refine v_goto F 15 d_M_safe_105 rfl ?_
              refine v_sub [3, 1, 0] (ls' := [(0, .ref (u.2.1 63)), (1, .int x26), (2, .int (nI (s + 1)))]) rfl ?_
              have g27 : x26 = (oI (itr (sfM σ kd n a) none (s + 1))) := (by first | rfl | (simp only [itr, sfM]; rw [if_pos ⟨by first | exact Or.inl (by assumption) | exact Or.inr (by first | assumption | omega), by assumption, by assumption⟩]; first | done | rfl) | (simp only [itr, sfM]; rw [if_neg (by rintro ⟨q1, q2, q3⟩; first | exact absurd q2 (by assumption) | exact q3 (by assumption) | (rcases q1 with q1 | q1 <;> exact absurd q1 (by first | assumption | omega)))]; first | done | assumption))
              refine v_to (ls' := [(0, .ref (u.2.1 63)), (1, .int (oI (itr (sfM σ kd n a) none (s + 1)))), (2, .int (nI (s + 1)))]) (by first | rfl | rw [g27] | simp_all) ?_
              exact ih (s + 1) (σ4) (by omega) fσ4 (by omega)
            · skip
              refine v_iload_n F d_M_safe_96 rfl 3 rfl ?_
              refine v_goto F 101 d_M_safe_97 rfl ?_
              refine v_istore_n (ls' := [(1, .int (nI s)), (3, .int 1), (0, .ref (u.2.1 63)), (2, .int (nI s))]) F d_M_safe_101 rfl (by decide) rfl ?_
              refine v_iinc (v := nI (s + 1)) (ls' := [(2, .int (nI (s + 1))), (1, .int (nI s)), (3, .int 1), (0, .ref (u.2.1 63))]) F d_M_safe_102 (j := 3) rfl (nI_inc _) (by decide) rfl ?_
              refine v_goto F 15 d_M_safe_105 rfl ?_
              refine v_sub [3, 1, 0] (ls' := [(0, .ref (u.2.1 63)), (1, .int (nI s)), (2, .int (nI (s + 1)))]) rfl ?_
              have g28 : (nI s) = (oI (itr (sfM σ kd n a) none (s + 1))) := (by first | rfl | (simp only [itr, sfM]; rw [if_pos ⟨by first | exact Or.inl (by assumption) | exact Or.inr (by first | assumption | omega), by assumption, by assumption⟩]; first | done | rfl) | (simp only [itr, sfM]; rw [if_neg (by rintro ⟨q1, q2, q3⟩; first | exact absurd q2 (by assumption) | exact q3 (by assumption) | (rcases q1 with q1 | q1 <;> exact absurd q1 (by first | assumption | omega)))]; first | done | assumption))
              refine v_to (ls' := [(0, .ref (u.2.1 63)), (1, .int (oI (itr (sfM σ kd n a) none (s + 1)))), (2, .int (nI (s + 1)))]) (by first | rfl | rw [g28] | simp_all) ?_
              exact ih (s + 1) (σ4) (by omega) fσ4 (by omega)
set_option maxHeartbeats 4000000 in
theorem c_M_safe (l : Launch) (u : Un) (hA : Ap u) (σ : St) {n : Nat} {kd : Nat → Nat} (hb : mkOk σ n kd) {a : Nat} (ha : a < 64) (h0 : σ.1 76 0 = nI a) (ha2 : a < 2 ^ n) (hben : 0 < σ.1 70 3) : MTi l u y_M_safe b_M_safe 4 .int 5 [.ref (u.2.1 63)] σ (fun ans σ' => ∃ τ, fr σ τ ∧ (ans, σ') = mSafe σ τ kd n a) := by
  refine MT_of hA rfl (by decide) (Nat.le_of_ble_eq_true rfl) (fun X hl F hr => ?_)
  subst hl
  refine v_to (ls' := [(0, .ref (u.2.1 63))]) rfl ?_
  obtain ⟨hn, hn6, hkd, hk6⟩ := id hb
  refine v_aload_n F d_M_safe_0 rfl 0 rfl ?_
  refine v_geti F fk_M_146 G63 rfl d_M_safe_1 ?_
  refine v_te (y := nI n) hn ?_
  refine v_if_ne F 10 d_M_safe_4 rfl (fun h4 => ?_) (fun h4 => ?_)
  · skip
    have h4 : ¬ n = 0 := fun q => h4 ((nI_eq (a := n) (b := 0) (by omega) (by omega)).mpr q)
    refine v_bipush (v := (-9)) F d_M_safe_10 kb_m9 ?_
    refine v_istore_n (ls' := [(1, .int (-9)), (0, .ref (u.2.1 63))]) F d_M_safe_12 rfl (by decide) rfl ?_
    refine v_iconst (v := 0) F d_M_safe_13 ki_0 ?_
    refine v_istore_n (ls' := [(2, .int 0), (1, .int (-9)), (0, .ref (u.2.1 63))]) F d_M_safe_14 rfl (by decide) rfl ?_
    refine v_sub [2, 1, 0] (ls' := [(0, .ref (u.2.1 63)), (1, .int (-9)), (2, .int 0)]) rfl ?_
    have g1 : (-9) = (oI (itr (sfM σ kd n a) none 0)) := (by first | rfl | (simp_all; done) | grind)
    have g2 : 0 = (nI 0) := (by first | rfl | (simp_all; done) | grind)
    refine v_to (ls' := [(0, .ref (u.2.1 63)), (1, .int (oI (itr (sfM σ kd n a) none 0))), (2, .int (nI 0))]) (by first | rfl | rw [g1, g2] | simp_all) ?_
    refine L_M_safe_15 hA F hb ha h0 (fun s τ es fτ => ?_) _ 0 σ (Nat.zero_le _) fr.rf (Nat.lt_succ_self _)
    subst es
    refine v_aload_n F d_M_safe_108 rfl 0 rfl ?_
    refine v_iload_n F d_M_safe_109 rfl 1 rfl ?_
    refine v_iload_n F d_M_safe_110 rfl 1 rfl ?_
    refine v_te (y := nI (safM σ kd n a)) (oI_g (safM_ne hn6 ha2 hben)) ?_
    refine v_runi (r_S F (c_M_bits X.2.1 u hA τ (safM σ kd n a) (sfM_b _ (p2_64 hn6))) mo_M_bits st_M_175 (by decide) rfl (Nat.le_of_ble_eq_true rfl) d_M_safe_111) (fun r3 σ4 q5 => ?_)
    obtain ⟨rfl, rfl⟩ := q5
    refine v_runi (r_V F (c_M_tells X.2.1 u hA τ (oI (itr (sfM σ kd n a) none ((2 ^ n)))) (nI (pcN (safM σ kd n a)))) mo_M_tells st_M_111 rc_63 (by decide) rfl (Nat.le_of_ble_eq_true rfl) d_M_safe_114) (fun r6 σ7 q8 => ?_)
    obtain ⟨rfl, eσ7⟩ := q8
    refine v_iret F hr rfl d_M_safe_117 ?_
    exact ⟨τ, fτ, by unfold mSafe; rw [if_neg (by assumption)]; subst_vars; rw [oI_g (safM_ne hn6 ha2 hben)]; rfl⟩
  · skip
    have h4 : n = 0 := (nI_eq (a := n) (b := 0) (by omega) (by omega)).mp h4
    refine v_bipush (v := (-4)) F d_M_safe_7 kb_m4 ?_
    refine v_iret F hr rfl d_M_safe_9 ?_
    exact ⟨σ, fr.rf, by unfold mSafe; rw [if_pos (by assumption)]⟩
abbrev b_M_headsOf : ByteArray := prog_14_method_65_code
abbrev y_M_headsOf : MethodName := ⟨"TakerBookModel", "headsOf", "(I)I"⟩
theorem d_M_headsOf_0 : decode b_M_headsOf 0 = .ok (.iconst 0, 1) := by decide +kernel
theorem d_M_headsOf_1 : decode b_M_headsOf 1 = .ok (.istore_n 2, 1) := by decide +kernel
theorem d_M_headsOf_2 : decode b_M_headsOf 2 = .ok (.iconst 0, 1) := by decide +kernel
theorem d_M_headsOf_3 : decode b_M_headsOf 3 = .ok (.istore_n 3, 1) := by decide +kernel
theorem d_M_headsOf_4 : decode b_M_headsOf 4 = .ok (.iload_n 3, 1) := by decide +kernel
theorem d_M_headsOf_5 : decode b_M_headsOf 5 = .ok (.aload_n 0, 1) := by decide +kernel
theorem d_M_headsOf_6 : decode b_M_headsOf 6 = .ok (.getfield 146, 3) := by decide +kernel
theorem d_M_headsOf_9 : decode b_M_headsOf 9 = .ok (.if_icmp .ge 33, 3) := by decide +kernel
theorem d_M_headsOf_12 : decode b_M_headsOf 12 = .ok (.iload_n 2, 1) := by decide +kernel
theorem d_M_headsOf_13 : decode b_M_headsOf 13 = .ok (.iload_n 1, 1) := by decide +kernel
theorem d_M_headsOf_14 : decode b_M_headsOf 14 = .ok (.iload_n 3, 1) := by decide +kernel
theorem d_M_headsOf_15 : decode b_M_headsOf 15 = .ok (.invokestatic 155, 3) := by decide +kernel
theorem d_M_headsOf_18 : decode b_M_headsOf 18 = .ok (.ifCond .eq 15, 3) := by decide +kernel
theorem d_M_headsOf_21 : decode b_M_headsOf 21 = .ok (.aload_n 0, 1) := by decide +kernel
theorem d_M_headsOf_22 : decode b_M_headsOf 22 = .ok (.aload_n 0, 1) := by decide +kernel
theorem d_M_headsOf_23 : decode b_M_headsOf 23 = .ok (.getfield 51, 3) := by decide +kernel
theorem d_M_headsOf_26 : decode b_M_headsOf 26 = .ok (.iload_n 3, 1) := by decide +kernel
theorem d_M_headsOf_27 : decode b_M_headsOf 27 = .ok (.invokevirtual 188, 3) := by decide +kernel
theorem d_M_headsOf_30 : decode b_M_headsOf 30 = .ok (.goto 4, 3) := by decide +kernel
theorem d_M_headsOf_33 : decode b_M_headsOf 33 = .ok (.iconst 0, 1) := by decide +kernel
theorem d_M_headsOf_34 : decode b_M_headsOf 34 = .ok (.iadd, 1) := by decide +kernel
theorem d_M_headsOf_35 : decode b_M_headsOf 35 = .ok (.istore_n 2, 1) := by decide +kernel
theorem d_M_headsOf_36 : decode b_M_headsOf 36 = .ok (.iinc 3 1, 3) := by decide +kernel
theorem d_M_headsOf_39 : decode b_M_headsOf 39 = .ok (.goto (-35), 3) := by decide +kernel
theorem d_M_headsOf_42 : decode b_M_headsOf 42 = .ok (.iload_n 2, 1) := by decide +kernel
theorem d_M_headsOf_43 : decode b_M_headsOf 43 = .ok (.ireturn, 1) := by decide +kernel
theorem mo_M_headsOf : mok y_M_headsOf b_M_headsOf 4 (some .int) 1 := ⟨List.mem_of_getElem? (i := 1349) (by decide +kernel), ⟨by decide +kernel, by decide +kernel, by decide +kernel⟩, List.mem_of_getElem? (i := 86) (by decide +kernel), by decide⟩
set_option maxHeartbeats 4000000 in
theorem L_M_headsOf_4 {X : FX} {u : Un} (hA : Ap u) {Q : State → Prop} (F : Fr X u "TakerBookModel" b_M_headsOf 4) {σ : St} {n : Nat} {kd : Nat → Nat} (hb : mkOk σ n kd) {a : Nat} (ha : a < 64) (h0 : σ.1 76 0 = nI a) {s : Nat} (hs : s < 64) (k : V X u 1 4 Q 42 [(0, .ref (u.2.1 63)), (1, .int (nI s)), (2, .int (sumI (hsM σ kd s) n)), (3, .int (nI n))] [] (σ)) : ∀ (nn i : Nat), i ≤ n → n - i < nn → V X u 1 4 Q 4 [(0, .ref (u.2.1 63)), (1, .int (nI s)), (2, .int (sumI (hsM σ kd s) i)), (3, .int (nI i))] [] (σ) := by
  intro nn
  induction nn with
  | zero =>
    intro i h1 h2
    exact absurd h2 (Nat.not_lt_zero _)
  | succ nn ih =>
    intro i hii hnn
    obtain ⟨hn, hn6, hkd, hk6⟩ := id hb
    refine v_iload_n F d_M_headsOf_4 rfl 3 rfl ?_
    refine v_aload_n F d_M_headsOf_5 rfl 0 rfl ?_
    refine v_geti F fk_M_146 G63 rfl d_M_headsOf_6 ?_
    refine v_te (y := nI n) hn ?_
    refine v_icmp_ge F 42 d_M_headsOf_9 rfl (fun h9 => ?_) (fun h9 => ?_)
    · skip
      have h9 : n ≤ i := (nI_leI (a := n) (b := i) (by omega) (by omega)).mp h9
      have he : i = n := by omega
      subst he
      exact k
    · skip
      have h9 : ¬ n ≤ i := fun q => h9 ((nI_leI (a := n) (b := i) (by omega) (by omega)).mpr q)
      refine v_iload_n F d_M_headsOf_12 rfl 2 rfl ?_
      refine v_iload_n F d_M_headsOf_13 rfl 1 rfl ?_
      refine v_iload_n F d_M_headsOf_14 rfl 3 rfl ?_
      refine v_runi (r_S F (c_M_has2 X.2.1 u hA σ i s (by omega) (by omega)) mo_M_has st_M_155 (by decide) rfl (Nat.le_of_ble_eq_true rfl) d_M_headsOf_15) (fun r1 σ2 q3 => ?_)
      obtain ⟨rfl, rfl⟩ := q3
      refine v_bt F 33 d_M_headsOf_18 rfl (fun h18 => ?_) (fun h18 => ?_)
      · skip
        refine v_iconst (v := 0) F d_M_headsOf_33 ki_0 ?_
        refine v_iadd F d_M_headsOf_34 ?_
        refine v_ni (fun x4 ex4 => ?_)
        refine v_istore_n (ls' := [(2, .int x4), (0, .ref (u.2.1 63)), (1, .int (nI s)), (3, .int (nI i))]) F d_M_headsOf_35 rfl (by decide) rfl ?_
        refine v_iinc (v := nI (i + 1)) (ls' := [(3, .int (nI (i + 1))), (2, .int x4), (0, .ref (u.2.1 63)), (1, .int (nI s))]) F d_M_headsOf_36 (j := 3) rfl (nI_inc _) (by decide) rfl ?_
        refine v_goto F 4 d_M_headsOf_39 rfl ?_
        refine v_sub [2, 3, 1, 0] (ls' := [(0, .ref (u.2.1 63)), (1, .int (nI s)), (2, .int x4), (3, .int (nI (i + 1)))]) rfl ?_
        have g5 : x4 = (sumI (hsM σ kd s) (i + 1)) := (by first | rfl | (simp [sumI, hsM, *]; done) | (simp_all [sumI, hsM]; done) | grind [sumI, hsM])
        refine v_to (ls' := [(0, .ref (u.2.1 63)), (1, .int (nI s)), (2, .int (sumI (hsM σ kd s) (i + 1))), (3, .int (nI (i + 1)))]) (by first | rfl | rw [g5] | simp_all) ?_
        exact ih (i + 1) (by omega) (by omega)
      · skip
        refine v_aload_n F d_M_headsOf_21 rfl 0 rfl ?_
        refine v_aload_n F d_M_headsOf_22 rfl 0 rfl ?_
        refine v_getr (r := 76) F fk_M_51 G63 rfl d_M_headsOf_23 ?_
        refine v_iload_n F d_M_headsOf_26 rfl 3 rfl ?_
        refine v_runi (r_V F (c_M_headOf X.2.1 u hA σ hb (kO := 76) (Or.inl rfl) ha h0 i (by omega)) mo_M_headOf st_M_188 rc_63 (by decide) rfl (Nat.le_of_ble_eq_true rfl) d_M_headsOf_27) (fun r6 σ7 q8 => ?_)
        obtain ⟨rfl, rfl⟩ := q8
        refine v_goto F 34 d_M_headsOf_30 rfl ?_
        refine v_iadd F d_M_headsOf_34 ?_
        refine v_ni (fun x9 ex9 => ?_)
        refine v_istore_n (ls' := [(2, .int x9), (0, .ref (u.2.1 63)), (1, .int (nI s)), (3, .int (nI i))]) F d_M_headsOf_35 rfl (by decide) rfl ?_
        refine v_iinc (v := nI (i + 1)) (ls' := [(3, .int (nI (i + 1))), (2, .int x9), (0, .ref (u.2.1 63)), (1, .int (nI s))]) F d_M_headsOf_36 (j := 3) rfl (nI_inc _) (by decide) rfl ?_
        refine v_goto F 4 d_M_headsOf_39 rfl ?_
        refine v_sub [2, 3, 1, 0] (ls' := [(0, .ref (u.2.1 63)), (1, .int (nI s)), (2, .int x9), (3, .int (nI (i + 1)))]) rfl ?_
        have g10 : x9 = (sumI (hsM σ kd s) (i + 1)) := (by first | rfl | (simp [sumI, hsM, *]; done) | (simp_all [sumI, hsM]; done) | grind [sumI, hsM])
        refine v_to (ls' := [(0, .ref (u.2.1 63)), (1, .int (nI s)), (2, .int (sumI (hsM σ kd s) (i + 1))), (3, .int (nI (i + 1)))]) (by first | rfl | rw [g10] | simp_all) ?_
        exact ih (i + 1) (by omega) (by omega)
set_option maxHeartbeats 4000000 in
theorem c_M_headsOf (l : Launch) (u : Un) (hA : Ap u) (σ : St) {n : Nat} {kd : Nat → Nat} (hb : mkOk σ n kd) {a : Nat} (ha : a < 64) (h0 : σ.1 76 0 = nI a) (s : Nat) (hs : s < 64) : MTi l u y_M_headsOf b_M_headsOf 4 .int 1 [.ref (u.2.1 63), .int (nI s)] σ (fun ans σ' => sumI (hsM σ kd s) n = ans ∧ σ = σ') := by
  refine MT_of hA rfl (by decide) (Nat.le_of_ble_eq_true rfl) (fun X hl F hr => ?_)
  subst hl
  refine v_to (ls' := [(0, .ref (u.2.1 63)), (1, .int (nI s))]) rfl ?_
  obtain ⟨hn, hn6, hkd, hk6⟩ := id hb
  refine v_iconst (v := 0) F d_M_headsOf_0 ki_0 ?_
  refine v_istore_n (ls' := [(2, .int 0), (0, .ref (u.2.1 63)), (1, .int (nI s))]) F d_M_headsOf_1 rfl (by decide) rfl ?_
  refine v_iconst (v := 0) F d_M_headsOf_2 ki_0 ?_
  refine v_istore_n (ls' := [(3, .int 0), (2, .int 0), (0, .ref (u.2.1 63)), (1, .int (nI s))]) F d_M_headsOf_3 rfl (by decide) rfl ?_
  refine v_sub [2, 3, 1, 0] (ls' := [(0, .ref (u.2.1 63)), (1, .int (nI s)), (2, .int 0), (3, .int 0)]) rfl ?_
  have g1 : 0 = (sumI (hsM σ kd s) 0) := (by first | rfl | (simp [sumI, hsM, *]; done) | (simp_all [sumI, hsM]; done) | grind [sumI, hsM])
  have g2 : 0 = (nI 0) := (by first | rfl | (simp [sumI, hsM, *]; done) | (simp_all [sumI, hsM]; done) | grind [sumI, hsM])
  refine v_to (ls' := [(0, .ref (u.2.1 63)), (1, .int (nI s)), (2, .int (sumI (hsM σ kd s) 0)), (3, .int (nI 0))]) (by first | rfl | rw [g1, g2] | simp_all) ?_
  refine L_M_headsOf_4 hA F hb ha h0 hs ?_ _ 0 (Nat.zero_le _) (Nat.lt_succ_self _)
  refine v_iload_n F d_M_headsOf_42 rfl 2 rfl ?_
  refine v_iret F hr rfl d_M_headsOf_43 ?_
  exact ⟨rfl, rfl⟩
abbrev b_M_heads : ByteArray := prog_14_method_66_code
abbrev y_M_heads : MethodName := ⟨"TakerBookModel", "heads", "(I)I"⟩
theorem d_M_heads_0 : decode b_M_heads 0 = .ok (.aload_n 0, 1) := by decide +kernel
theorem d_M_heads_1 : decode b_M_heads 1 = .ok (.iload_n 1, 1) := by decide +kernel
theorem d_M_heads_2 : decode b_M_heads 2 = .ok (.iconst 0, 1) := by decide +kernel
theorem d_M_heads_3 : decode b_M_heads 3 = .ok (.bipush 6, 2) := by decide +kernel
theorem d_M_heads_5 : decode b_M_heads 5 = .ok (.invokestatic 89, 3) := by decide +kernel
theorem d_M_heads_8 : decode b_M_heads 8 = .ok (.invokevirtual 229, 3) := by decide +kernel
theorem d_M_heads_11 : decode b_M_heads 11 = .ok (.istore_n 2, 1) := by decide +kernel
theorem d_M_heads_12 : decode b_M_heads 12 = .ok (.iload_n 2, 1) := by decide +kernel
theorem d_M_heads_13 : decode b_M_heads 13 = .ok (.ifCond .ge 5, 3) := by decide +kernel
theorem d_M_heads_16 : decode b_M_heads 16 = .ok (.iload_n 2, 1) := by decide +kernel
theorem d_M_heads_17 : decode b_M_heads 17 = .ok (.ireturn, 1) := by decide +kernel
theorem d_M_heads_18 : decode b_M_heads 18 = .ok (.bipush (-9), 2) := by decide +kernel
theorem d_M_heads_20 : decode b_M_heads 20 = .ok (.istore_n 3, 1) := by decide +kernel
theorem d_M_heads_21 : decode b_M_heads 21 = .ok (.iconst 0, 1) := by decide +kernel
theorem d_M_heads_22 : decode b_M_heads 22 = .ok (.istore 4, 2) := by decide +kernel
theorem d_M_heads_24 : decode b_M_heads 24 = .ok (.iload 4, 2) := by decide +kernel
theorem d_M_heads_26 : decode b_M_heads 26 = .ok (.iconst 1, 1) := by decide +kernel
theorem d_M_heads_27 : decode b_M_heads 27 = .ok (.aload_n 0, 1) := by decide +kernel
theorem d_M_heads_28 : decode b_M_heads 28 = .ok (.getfield 146, 3) := by decide +kernel
theorem d_M_heads_31 : decode b_M_heads 31 = .ok (.ishl, 1) := by decide +kernel
theorem d_M_heads_32 : decode b_M_heads 32 = .ok (.if_icmp .ge 71, 3) := by decide +kernel
theorem d_M_heads_35 : decode b_M_heads 35 = .ok (.iload 4, 2) := by decide +kernel
theorem d_M_heads_37 : decode b_M_heads 37 = .ok (.invokestatic 175, 3) := by decide +kernel
theorem d_M_heads_40 : decode b_M_heads 40 = .ok (.iload_n 1, 1) := by decide +kernel
theorem d_M_heads_41 : decode b_M_heads 41 = .ok (.if_icmp .ne 21, 3) := by decide +kernel
theorem d_M_heads_44 : decode b_M_heads 44 = .ok (.iload 4, 2) := by decide +kernel
theorem d_M_heads_46 : decode b_M_heads 46 = .ok (.aload_n 0, 1) := by decide +kernel
theorem d_M_heads_47 : decode b_M_heads 47 = .ok (.getfield 51, 3) := by decide +kernel
theorem d_M_heads_50 : decode b_M_heads 50 = .ok (.iconst 0, 1) := by decide +kernel
theorem d_M_heads_51 : decode b_M_heads 51 = .ok (.iaload, 1) := by decide +kernel
theorem d_M_heads_52 : decode b_M_heads 52 = .ok (.iconst (-1), 1) := by decide +kernel
theorem d_M_heads_53 : decode b_M_heads 53 = .ok (.ixor, 1) := by decide +kernel
theorem d_M_heads_54 : decode b_M_heads 54 = .ok (.iand, 1) := by decide +kernel
theorem d_M_heads_55 : decode b_M_heads 55 = .ok (.ifCond .ne 7, 3) := by decide +kernel
theorem d_M_heads_58 : decode b_M_heads 58 = .ok (.iconst 1, 1) := by decide +kernel
theorem d_M_heads_59 : decode b_M_heads 59 = .ok (.goto 4, 3) := by decide +kernel
theorem d_M_heads_62 : decode b_M_heads 62 = .ok (.iconst 0, 1) := by decide +kernel
theorem d_M_heads_63 : decode b_M_heads 63 = .ok (.istore 5, 2) := by decide +kernel
theorem d_M_heads_65 : decode b_M_heads 65 = .ok (.iload 5, 2) := by decide +kernel
theorem d_M_heads_67 : decode b_M_heads 67 = .ok (.ifCond .eq 28, 3) := by decide +kernel
theorem d_M_heads_70 : decode b_M_heads 70 = .ok (.iload_n 3, 1) := by decide +kernel
theorem d_M_heads_71 : decode b_M_heads 71 = .ok (.bipush (-9), 2) := by decide +kernel
theorem d_M_heads_73 : decode b_M_heads 73 = .ok (.if_icmp .eq 17, 3) := by decide +kernel
theorem d_M_heads_76 : decode b_M_heads 76 = .ok (.aload_n 0, 1) := by decide +kernel
theorem d_M_heads_77 : decode b_M_heads 77 = .ok (.iload 4, 2) := by decide +kernel
theorem d_M_heads_79 : decode b_M_heads 79 = .ok (.invokevirtual 233, 3) := by decide +kernel
theorem d_M_heads_82 : decode b_M_heads 82 = .ok (.aload_n 0, 1) := by decide +kernel
theorem d_M_heads_83 : decode b_M_heads 83 = .ok (.iload_n 3, 1) := by decide +kernel
theorem d_M_heads_84 : decode b_M_heads 84 = .ok (.invokevirtual 233, 3) := by decide +kernel
theorem d_M_heads_87 : decode b_M_heads 87 = .ok (.if_icmp .le 8, 3) := by decide +kernel
theorem d_M_heads_90 : decode b_M_heads 90 = .ok (.iload 4, 2) := by decide +kernel
theorem d_M_heads_92 : decode b_M_heads 92 = .ok (.goto 4, 3) := by decide +kernel
theorem d_M_heads_95 : decode b_M_heads 95 = .ok (.iload_n 3, 1) := by decide +kernel
theorem d_M_heads_96 : decode b_M_heads 96 = .ok (.istore_n 3, 1) := by decide +kernel
theorem d_M_heads_97 : decode b_M_heads 97 = .ok (.iinc 4 1, 3) := by decide +kernel
theorem d_M_heads_100 : decode b_M_heads 100 = .ok (.goto (-76), 3) := by decide +kernel
theorem d_M_heads_103 : decode b_M_heads 103 = .ok (.iload_n 3, 1) := by decide +kernel
theorem d_M_heads_104 : decode b_M_heads 104 = .ok (.bipush (-9), 2) := by decide +kernel
theorem d_M_heads_106 : decode b_M_heads 106 = .ok (.if_icmp .ne 8, 3) := by decide +kernel
theorem d_M_heads_109 : decode b_M_heads 109 = .ok (.bipush (-9), 2) := by decide +kernel
theorem d_M_heads_111 : decode b_M_heads 111 = .ok (.goto 13, 3) := by decide +kernel
theorem d_M_heads_114 : decode b_M_heads 114 = .ok (.aload_n 0, 1) := by decide +kernel
theorem d_M_heads_115 : decode b_M_heads 115 = .ok (.iload_n 3, 1) := by decide +kernel
theorem d_M_heads_116 : decode b_M_heads 116 = .ok (.aload_n 0, 1) := by decide +kernel
theorem d_M_heads_117 : decode b_M_heads 117 = .ok (.iload_n 3, 1) := by decide +kernel
theorem d_M_heads_118 : decode b_M_heads 118 = .ok (.invokevirtual 233, 3) := by decide +kernel
theorem d_M_heads_121 : decode b_M_heads 121 = .ok (.invokevirtual 111, 3) := by decide +kernel
theorem d_M_heads_124 : decode b_M_heads 124 = .ok (.ireturn, 1) := by decide +kernel
theorem mo_M_heads : mok y_M_heads b_M_heads 6 (some .int) 1 := ⟨List.mem_of_getElem? (i := 1341) (by decide +kernel), ⟨by decide +kernel, by decide +kernel, by decide +kernel⟩, List.mem_of_getElem? (i := 86) (by decide +kernel), by decide⟩
set_option maxHeartbeats 4000000 in
theorem L_M_heads_24 {X : FX} {u : Un} (hA : Ap u) {Q : State → Prop} (F : Fr X u "TakerBookModel" b_M_heads 6) {σ : St} {n : Nat} {kd : Nat → Nat} (hb : mkOk σ n kd) {a : Nat} (ha : a < 64) (h0 : σ.1 76 0 = nI a) {m : Nat} (hm : m ≤ 6) (k : V X u 5 6 Q 103 [(0, .ref (u.2.1 63)), (1, .int (nI m)), (3, .int (oI (itr (hdM σ kd n m a) none ((2 ^ n))))), (4, .int (nI ((2 ^ n))))] [] (σ)) : ∀ (nn s : Nat), s ≤ (2 ^ n) → (2 ^ n) - s < nn → V X u 5 6 Q 24 [(0, .ref (u.2.1 63)), (1, .int (nI m)), (3, .int (oI (itr (hdM σ kd n m a) none s))), (4, .int (nI s))] [] (σ) := by
  intro nn
  induction nn with
  | zero =>
    intro s h1 h2
    exact absurd h2 (Nat.not_lt_zero _)
  | succ nn ih =>
    intro s hii hnn
    obtain ⟨hn, hn6, hkd, hk6⟩ := id hb
    have h64 := p2_64 hn6
    have hpl : s < 64 → pcN s ≤ 6 := pc_le s
    have hsL : s &&& (63 ^^^ a) ≤ s := Nat.and_le_left
    refine v_iload F d_M_heads_24 3 rfl ?_
    refine v_iconst (v := 1) F d_M_heads_26 ki_1 ?_
    refine v_aload_n F d_M_heads_27 rfl 0 rfl ?_
    refine v_geti F fk_M_146 G63 rfl d_M_heads_28 ?_
    refine v_te (y := nI n) hn ?_
    refine v_ishl F d_M_heads_31 ?_
    refine v_te (y := nI (2 ^ n)) (bit6 _ (by omega)) ?_
    refine v_icmp_ge F 103 d_M_heads_32 rfl (fun h32 => ?_) (fun h32 => ?_)
    · skip
      have h32 : 2 ^ n ≤ s := (nI_leI (a := 2 ^ n) (b := s) (by omega) (by omega)).mp h32
      have he : s = (2 ^ n) := by omega
      subst he
      exact k
    · skip
      have h32 : ¬ 2 ^ n ≤ s := fun q => h32 ((nI_leI (a := 2 ^ n) (b := s) (by omega) (by omega)).mpr q)
      refine v_iload F d_M_heads_35 3 rfl ?_
      refine v_runi (r_S F (c_M_bits X.2.1 u hA σ s (by omega)) mo_M_bits st_M_175 (by decide) rfl (Nat.le_of_ble_eq_true rfl) d_M_heads_37) (fun r1 σ2 q3 => ?_)
      obtain ⟨rfl, rfl⟩ := q3
      refine v_iload_n F d_M_heads_40 rfl 1 rfl ?_
      refine v_icmp_ne F 62 d_M_heads_41 rfl (fun h41 => ?_) (fun h41 => ?_)
      · skip
        have h41 : ¬ pcN s = m := fun q => h41 ((nI_eq (a := pcN s) (b := m) (by omega) (by omega)).mpr q)
        refine v_iconst (v := 0) F d_M_heads_62 ki_0 ?_
        refine v_istore (ls' := [(5, .int 0), (0, .ref (u.2.1 63)), (1, .int (nI m)), (3, .int (oI (itr (hdM σ kd n m a) none s))), (4, .int (nI s))]) F d_M_heads_63 (by decide) rfl ?_
        refine v_iload F d_M_heads_65 0 rfl ?_
        refine v_if_eq F 95 d_M_heads_67 rfl (fun _ => ?_) (fun h => absurd (by decide) h)
        refine v_iload_n F d_M_heads_95 rfl 3 rfl ?_
        refine v_ni (fun x4 ex4 => ?_)
        refine v_istore_n (ls' := [(3, .int x4), (5, .int 0), (0, .ref (u.2.1 63)), (1, .int (nI m)), (4, .int (nI s))]) F d_M_heads_96 rfl (by decide) rfl ?_
        refine v_iinc (v := nI (s + 1)) (ls' := [(4, .int (nI (s + 1))), (3, .int x4), (5, .int 0), (0, .ref (u.2.1 63)), (1, .int (nI m))]) F d_M_heads_97 (j := 4) rfl (nI_inc _) (by decide) rfl ?_
        refine v_goto F 24 d_M_heads_100 rfl ?_
        refine v_sub [3, 4, 1, 0] (ls' := [(0, .ref (u.2.1 63)), (1, .int (nI m)), (3, .int x4), (4, .int (nI (s + 1)))]) rfl ?_
        have g5 : x4 = (oI (itr (hdM σ kd n m a) none (s + 1))) := (by first | rfl | (simp only [itr, hdM]; rw [if_pos ⟨by assumption, by assumption, by first | exact Or.inl (by assumption) | exact Or.inr (by assumption)⟩]; first | done | rfl) | (simp only [itr, hdM]; rw [if_neg (by rintro ⟨q1, q2, q3⟩; first | exact absurd q1 (by assumption) | exact absurd q2 (by assumption) | (rcases q3 with q3 | q3 <;> exact absurd q3 (by first | assumption | omega)))]; first | done | assumption))
        refine v_to (ls' := [(0, .ref (u.2.1 63)), (1, .int (nI m)), (3, .int (oI (itr (hdM σ kd n m a) none (s + 1)))), (4, .int (nI (s + 1)))]) (by first | rfl | rw [g5] | simp_all) ?_
        exact ih (s + 1) (by omega) (by omega)
      · skip
        have h41 : pcN s = m := (nI_eq (a := pcN s) (b := m) (by omega) (by omega)).mp h41
        refine v_iload F d_M_heads_44 3 rfl ?_
        refine v_aload_n F d_M_heads_46 rfl 0 rfl ?_
        refine v_getr (r := 76) F fk_M_51 G63 rfl d_M_heads_47 ?_
        refine v_iconst (v := 0) F d_M_heads_50 ki_0 ?_
        refine v_ial F 0 G76 rfl (by omega) d_M_heads_51 ?_
        refine v_te (y := nI a) h0 ?_
        refine v_iconst (v := (-1)) F d_M_heads_52 ki_m1 ?_
        refine v_ixor F d_M_heads_53 ?_
        refine v_iand F d_M_heads_54 ?_
        refine v_te (y := nI (s &&& (63 ^^^ a))) (sub6 (by omega) ha) ?_
        refine v_if_ne F 62 d_M_heads_55 rfl (fun h55 => ?_) (fun h55 => ?_)
        · skip
          have h55 : ¬ s &&& (63 ^^^ a) = 0 := fun q => h55 ((nI_eq (a := s &&& (63 ^^^ a)) (b := 0) (by omega) (by omega)).mpr q)
          refine v_iconst (v := 0) F d_M_heads_62 ki_0 ?_
          refine v_istore (ls' := [(5, .int 0), (0, .ref (u.2.1 63)), (1, .int (nI m)), (3, .int (oI (itr (hdM σ kd n m a) none s))), (4, .int (nI s))]) F d_M_heads_63 (by decide) rfl ?_
          refine v_iload F d_M_heads_65 0 rfl ?_
          refine v_if_eq F 95 d_M_heads_67 rfl (fun _ => ?_) (fun h => absurd (by decide) h)
          refine v_iload_n F d_M_heads_95 rfl 3 rfl ?_
          refine v_ni (fun x6 ex6 => ?_)
          refine v_istore_n (ls' := [(3, .int x6), (5, .int 0), (0, .ref (u.2.1 63)), (1, .int (nI m)), (4, .int (nI s))]) F d_M_heads_96 rfl (by decide) rfl ?_
          refine v_iinc (v := nI (s + 1)) (ls' := [(4, .int (nI (s + 1))), (3, .int x6), (5, .int 0), (0, .ref (u.2.1 63)), (1, .int (nI m))]) F d_M_heads_97 (j := 4) rfl (nI_inc _) (by decide) rfl ?_
          refine v_goto F 24 d_M_heads_100 rfl ?_
          refine v_sub [3, 4, 1, 0] (ls' := [(0, .ref (u.2.1 63)), (1, .int (nI m)), (3, .int x6), (4, .int (nI (s + 1)))]) rfl ?_
          have g7 : x6 = (oI (itr (hdM σ kd n m a) none (s + 1))) := (by first | rfl | (simp only [itr, hdM]; rw [if_pos ⟨by assumption, by assumption, by first | exact Or.inl (by assumption) | exact Or.inr (by assumption)⟩]; first | done | rfl) | (simp only [itr, hdM]; rw [if_neg (by rintro ⟨q1, q2, q3⟩; first | exact absurd q1 (by assumption) | exact absurd q2 (by assumption) | (rcases q3 with q3 | q3 <;> exact absurd q3 (by first | assumption | omega)))]; first | done | assumption))
          refine v_to (ls' := [(0, .ref (u.2.1 63)), (1, .int (nI m)), (3, .int (oI (itr (hdM σ kd n m a) none (s + 1)))), (4, .int (nI (s + 1)))]) (by first | rfl | rw [g7] | simp_all) ?_
          exact ih (s + 1) (by omega) (by omega)
        · skip
          have h55 : s &&& (63 ^^^ a) = 0 := (nI_eq (a := s &&& (63 ^^^ a)) (b := 0) (by omega) (by omega)).mp h55
          refine v_iconst (v := 1) F d_M_heads_58 ki_1 ?_
          refine v_goto F 63 d_M_heads_59 rfl ?_
          refine v_istore (ls' := [(5, .int 1), (0, .ref (u.2.1 63)), (1, .int (nI m)), (3, .int (oI (itr (hdM σ kd n m a) none s))), (4, .int (nI s))]) F d_M_heads_63 (by decide) rfl ?_
          refine v_iload F d_M_heads_65 0 rfl ?_
          refine v_if_eq F 95 d_M_heads_67 rfl (fun h => absurd h (by decide)) (fun _ => ?_)
          refine v_iload_n F d_M_heads_70 rfl 3 rfl ?_
          refine v_bipush (v := (-9)) F d_M_heads_71 kb_m9 ?_
          refine v_icmp_eq F 90 d_M_heads_73 rfl (fun h73 => ?_) (fun h73 => ?_)
          · skip
            refine v_iload F d_M_heads_90 4 rfl ?_
            refine v_goto F 96 d_M_heads_92 rfl ?_
            refine v_istore_n (ls' := [(3, .int (nI s)), (5, .int 1), (0, .ref (u.2.1 63)), (1, .int (nI m)), (4, .int (nI s))]) F d_M_heads_96 rfl (by decide) rfl ?_
            refine v_iinc (v := nI (s + 1)) (ls' := [(4, .int (nI (s + 1))), (3, .int (nI s)), (5, .int 1), (0, .ref (u.2.1 63)), (1, .int (nI m))]) F d_M_heads_97 (j := 4) rfl (nI_inc _) (by decide) rfl ?_
            refine v_goto F 24 d_M_heads_100 rfl ?_
            refine v_sub [3, 4, 1, 0] (ls' := [(0, .ref (u.2.1 63)), (1, .int (nI m)), (3, .int (nI s)), (4, .int (nI (s + 1)))]) rfl ?_
            have g8 : (nI s) = (oI (itr (hdM σ kd n m a) none (s + 1))) := (by first | rfl | (simp only [itr, hdM]; rw [if_pos ⟨by assumption, by assumption, by first | exact Or.inl (by assumption) | exact Or.inr (by assumption)⟩]; first | done | rfl) | (simp only [itr, hdM]; rw [if_neg (by rintro ⟨q1, q2, q3⟩; first | exact absurd q1 (by assumption) | exact absurd q2 (by assumption) | (rcases q3 with q3 | q3 <;> exact absurd q3 (by first | assumption | omega)))]; first | done | assumption))
            refine v_to (ls' := [(0, .ref (u.2.1 63)), (1, .int (nI m)), (3, .int (oI (itr (hdM σ kd n m a) none (s + 1)))), (4, .int (nI (s + 1)))]) (by first | rfl | rw [g8] | simp_all) ?_
            exact ih (s + 1) (by omega) (by omega)
          · skip
            refine v_aload_n F d_M_heads_76 rfl 1 rfl ?_
            refine v_iload F d_M_heads_77 4 rfl ?_
            refine v_runi (r_V F (c_M_headsOf X.2.1 u hA σ hb ha h0 s (by omega)) mo_M_headsOf st_M_233 rc_63 (by decide) rfl (Nat.le_of_ble_eq_true rfl) d_M_heads_79) (fun r9 σ10 q11 => ?_)
            obtain ⟨rfl, rfl⟩ := q11
            refine v_aload_n F d_M_heads_82 rfl 1 rfl ?_
            refine v_iload_n F d_M_heads_83 rfl 3 rfl ?_
            refine v_te (y := nI ((itr (hdM σ kd n m a) none s).getD 0)) (oI_g (by assumption)) ?_
            refine v_runi (r_V F (c_M_headsOf X.2.1 u hA σ hb ha h0 ((itr (hdM σ kd n m a) none s).getD 0) (hdM_b s (by omega))) mo_M_headsOf st_M_233 rc_63 (by decide) rfl (Nat.le_of_ble_eq_true rfl) d_M_heads_84) (fun r12 σ13 q14 => ?_)
            obtain ⟨rfl, rfl⟩ := q14
            refine v_icmp_le F 95 d_M_heads_87 rfl (fun h87 => ?_) (fun h87 => ?_)
            · skip
              have h87 := i_nlt.mpr h87
              refine v_iload_n F d_M_heads_95 rfl 3 rfl ?_
              refine v_ni (fun x15 ex15 => ?_)
              refine v_istore_n (ls' := [(3, .int x15), (5, .int 1), (0, .ref (u.2.1 63)), (1, .int (nI m)), (4, .int (nI s))]) F d_M_heads_96 rfl (by decide) rfl ?_
              refine v_iinc (v := nI (s + 1)) (ls' := [(4, .int (nI (s + 1))), (3, .int x15), (5, .int 1), (0, .ref (u.2.1 63)), (1, .int (nI m))]) F d_M_heads_97 (j := 4) rfl (nI_inc _) (by decide) rfl ?_
              refine v_goto F 24 d_M_heads_100 rfl ?_
              refine v_sub [3, 4, 1, 0] (ls' := [(0, .ref (u.2.1 63)), (1, .int (nI m)), (3, .int x15), (4, .int (nI (s + 1)))]) rfl ?_
              have g16 : x15 = (oI (itr (hdM σ kd n m a) none (s + 1))) := (by first | rfl | (simp only [itr, hdM]; rw [if_pos ⟨by assumption, by assumption, by first | exact Or.inl (by assumption) | exact Or.inr (by assumption)⟩]; first | done | rfl) | (simp only [itr, hdM]; rw [if_neg (by rintro ⟨q1, q2, q3⟩; first | exact absurd q1 (by assumption) | exact absurd q2 (by assumption) | (rcases q3 with q3 | q3 <;> exact absurd q3 (by first | assumption | omega)))]; first | done | assumption))
              refine v_to (ls' := [(0, .ref (u.2.1 63)), (1, .int (nI m)), (3, .int (oI (itr (hdM σ kd n m a) none (s + 1)))), (4, .int (nI (s + 1)))]) (by first | rfl | rw [g16] | simp_all) ?_
              exact ih (s + 1) (by omega) (by omega)
            · skip
              have h87 := i_lt_le.mp h87
              refine v_iload F d_M_heads_90 4 rfl ?_
              refine v_goto F 96 d_M_heads_92 rfl ?_
              refine v_istore_n (ls' := [(3, .int (nI s)), (5, .int 1), (0, .ref (u.2.1 63)), (1, .int (nI m)), (4, .int (nI s))]) F d_M_heads_96 rfl (by decide) rfl ?_
              refine v_iinc (v := nI (s + 1)) (ls' := [(4, .int (nI (s + 1))), (3, .int (nI s)), (5, .int 1), (0, .ref (u.2.1 63)), (1, .int (nI m))]) F d_M_heads_97 (j := 4) rfl (nI_inc _) (by decide) rfl ?_
              refine v_goto F 24 d_M_heads_100 rfl ?_
              refine v_sub [3, 4, 1, 0] (ls' := [(0, .ref (u.2.1 63)), (1, .int (nI m)), (3, .int (nI s)), (4, .int (nI (s + 1)))]) rfl ?_
              have g17 : (nI s) = (oI (itr (hdM σ kd n m a) none (s + 1))) := (by first | rfl | (simp only [itr, hdM]; rw [if_pos ⟨by assumption, by assumption, by first | exact Or.inl (by assumption) | exact Or.inr (by assumption)⟩]; first | done | rfl) | (simp only [itr, hdM]; rw [if_neg (by rintro ⟨q1, q2, q3⟩; first | exact absurd q1 (by assumption) | exact absurd q2 (by assumption) | (rcases q3 with q3 | q3 <;> exact absurd q3 (by first | assumption | omega)))]; first | done | assumption))
              refine v_to (ls' := [(0, .ref (u.2.1 63)), (1, .int (nI m)), (3, .int (oI (itr (hdM σ kd n m a) none (s + 1)))), (4, .int (nI (s + 1)))]) (by first | rfl | rw [g17] | simp_all) ?_
              exact ih (s + 1) (by omega) (by omega)
set_option maxHeartbeats 4000000 in
theorem c_M_heads (l : Launch) (u : Un) (hA : Ap u) (σ : St) {n : Nat} {kd : Nat → Nat} (hb : mkOk σ n kd) {a : Nat} (ha : a < 64) (h0 : σ.1 76 0 = nI a) (x : Int32) : MTi l u y_M_heads b_M_heads 6 .int 5 [.ref (u.2.1 63), .int x] σ (fun ans σ' => (ans, σ') = mHeads σ kd n a x) := by
  refine MT_of hA rfl (by decide) (Nat.le_of_ble_eq_true rfl) (fun X hl F hr => ?_)
  subst hl
  refine v_to (ls' := [(0, .ref (u.2.1 63)), (1, .int x)]) rfl ?_
  obtain ⟨hn, hn6, hkd, hk6⟩ := id hb
  refine v_aload_n F d_M_heads_0 rfl 0 rfl ?_
  refine v_iload_n F d_M_heads_1 rfl 1 rfl ?_
  refine v_iconst (v := 0) F d_M_heads_2 ki_0 ?_
  refine v_bipush (v := 6) F d_M_heads_3 kb_6 ?_
  refine v_runi (r_S F (c_M_in X.2.1 u hA σ x 0 6 ) mo_M_in st_M_89 (by decide) rfl (Nat.le_of_ble_eq_true rfl) d_M_heads_5) (fun r1 σ2 q3 => ?_)
  obtain ⟨rfl, rfl⟩ := q3
  refine v_runi (r_V F (c_M_need X.2.1 u hA σ hb (0 ≤ x ∧ x ≤ 6)) mo_M_need st_M_229 rc_63 (by decide) rfl (Nat.le_of_ble_eq_true rfl) d_M_heads_8) (fun r4 σ5 q6 => ?_)
  rcases q6 with ⟨a1, rfl, rfl⟩ | ⟨a1, a2, rfl, rfl⟩ | ⟨a1, a2, rfl, rfl⟩
  · skip
    refine v_istore_n (ls' := [(2, .int (-1)), (0, .ref (u.2.1 63)), (1, .int x)]) F d_M_heads_11 rfl (by decide) rfl ?_
    refine v_iload_n F d_M_heads_12 rfl 0 rfl ?_
    refine v_if_ge F 18 d_M_heads_13 rfl (fun h => absurd h (by decide)) (fun _ => ?_)
    refine v_iload_n F d_M_heads_16 rfl 0 rfl ?_
    refine v_iret F hr rfl d_M_heads_17 ?_
    unfold mHeads
    first | (rw [if_pos (by assumption)]; done) | (rw [if_neg (fun q => q (by assumption)), if_pos (by assumption)]; done)
  · skip
    refine v_istore_n (ls' := [(2, .int (-4)), (0, .ref (u.2.1 63)), (1, .int x)]) F d_M_heads_11 rfl (by decide) rfl ?_
    refine v_iload_n F d_M_heads_12 rfl 0 rfl ?_
    refine v_if_ge F 18 d_M_heads_13 rfl (fun h => absurd h (by decide)) (fun _ => ?_)
    refine v_iload_n F d_M_heads_16 rfl 0 rfl ?_
    refine v_iret F hr rfl d_M_heads_17 ?_
    unfold mHeads
    first | (rw [if_pos (by assumption)]; done) | (rw [if_neg (fun q => q (by assumption)), if_pos (by assumption)]; done)
  · skip
    refine v_istore_n (ls' := [(2, .int 0), (0, .ref (u.2.1 63)), (1, .int x)]) F d_M_heads_11 rfl (by decide) rfl ?_
    refine v_iload_n F d_M_heads_12 rfl 0 rfl ?_
    refine v_if_ge F 18 d_M_heads_13 rfl (fun _ => ?_) (fun h => absurd (by decide) h)
    refine v_bipush (v := (-9)) F d_M_heads_18 kb_m9 ?_
    refine v_istore_n (ls' := [(3, .int (-9)), (2, .int 0), (0, .ref (u.2.1 63)), (1, .int x)]) F d_M_heads_20 rfl (by decide) rfl ?_
    refine v_iconst (v := 0) F d_M_heads_21 ki_0 ?_
    refine v_istore (ls' := [(4, .int 0), (3, .int (-9)), (2, .int 0), (0, .ref (u.2.1 63)), (1, .int x)]) F d_M_heads_22 (by decide) rfl ?_
    obtain ⟨m, hm, xm, rfl⟩ := nat_of (M := 6) a1.1 a1.2 rfl (by decide)
    refine v_sub [3, 4, 1, 0] (ls' := [(0, .ref (u.2.1 63)), (1, .int (nI m)), (3, .int (-9)), (4, .int 0)]) rfl ?_
    have g7 : (-9) = (oI (itr (hdM σ kd n m a) none 0)) := (by first | rfl | (simp only [itr, hdM]; rw [if_pos ⟨by assumption, by assumption, by first | exact Or.inl (by assumption) | exact Or.inr (by assumption)⟩]; first | done | rfl) | (simp only [itr, hdM]; rw [if_neg (by rintro ⟨q1, q2, q3⟩; first | exact absurd q1 (by assumption) | exact absurd q2 (by assumption) | (rcases q3 with q3 | q3 <;> exact absurd q3 (by first | assumption | omega)))]; first | done | assumption))
    have g8 : 0 = (nI 0) := (by first | rfl | (simp only [itr, hdM]; rw [if_pos ⟨by assumption, by assumption, by first | exact Or.inl (by assumption) | exact Or.inr (by assumption)⟩]; first | done | rfl) | (simp only [itr, hdM]; rw [if_neg (by rintro ⟨q1, q2, q3⟩; first | exact absurd q1 (by assumption) | exact absurd q2 (by assumption) | (rcases q3 with q3 | q3 <;> exact absurd q3 (by first | assumption | omega)))]; first | done | assumption))
    refine v_to (ls' := [(0, .ref (u.2.1 63)), (1, .int (nI m)), (3, .int (oI (itr (hdM σ kd n m a) none 0))), (4, .int (nI 0))]) (by first | rfl | rw [g7, g8] | simp_all) ?_
    refine L_M_heads_24 hA F hb ha h0 hm ?_ _ 0 (Nat.zero_le _) (Nat.lt_succ_self _)
    refine v_iload_n F d_M_heads_103 rfl 2 rfl ?_
    refine v_bipush (v := (-9)) F d_M_heads_104 kb_m9 ?_
    refine v_icmp_ne F 114 d_M_heads_106 rfl (fun h106 => ?_) (fun h106 => ?_)
    · skip
      refine v_aload_n F d_M_heads_114 rfl 0 rfl ?_
      refine v_iload_n F d_M_heads_115 rfl 2 rfl ?_
      refine v_aload_n F d_M_heads_116 rfl 0 rfl ?_
      refine v_iload_n F d_M_heads_117 rfl 2 rfl ?_
      refine v_te (y := nI ((itr (hdM σ kd n m a) none ((2 ^ n))).getD 0)) (oI_g (by assumption)) ?_
      refine v_runi (r_V F (c_M_headsOf X.2.1 u hA σ hb ha h0 ((itr (hdM σ kd n m a) none ((2 ^ n))).getD 0) (hdM_b _ (p2_64 hn6))) mo_M_headsOf st_M_233 rc_63 (by decide) rfl (Nat.le_of_ble_eq_true rfl) d_M_heads_118) (fun r9 σ10 q11 => ?_)
      obtain ⟨rfl, rfl⟩ := q11
      refine v_runi (r_V F (c_M_tells X.2.1 u hA σ (oI (itr (hdM σ kd n m a) none ((2 ^ n)))) (sumI (hsM σ kd ((itr (hdM σ kd n m a) none ((2 ^ n))).getD 0)) n)) mo_M_tells st_M_111 rc_63 (by decide) rfl (Nat.le_of_ble_eq_true rfl) d_M_heads_121) (fun r12 σ13 q14 => ?_)
      obtain ⟨rfl, eσ13⟩ := q14
      refine v_iret F hr rfl d_M_heads_124 ?_
      unfold mHeads
      rw [if_neg (fun q => q (by assumption)), if_neg (by assumption), xm]
      first | (rw [if_pos (by assumption)]; done) | (rw [if_neg (by assumption), oI_g (by assumption)]; subst_vars; rfl) | (rw [if_neg (by assumption)]; subst_vars; rw [oI_g (by assumption)])
    · skip
      refine v_bipush (v := (-9)) F d_M_heads_109 kb_m9 ?_
      refine v_goto F 124 d_M_heads_111 rfl ?_
      refine v_iret F hr rfl d_M_heads_124 ?_
      unfold mHeads
      rw [if_neg (fun q => q (by assumption)), if_neg (by assumption), xm]
      first | (rw [if_pos (by assumption)]; done) | (rw [if_neg (by assumption), oI_g (by assumption)]; subst_vars; rfl) | (rw [if_neg (by assumption)]; subst_vars; rw [oI_g (by assumption)])
