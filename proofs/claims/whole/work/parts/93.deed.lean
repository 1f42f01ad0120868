-- deeds on both sides, one after the other
def mixF (F G : Nat → Nat → Int32) : Nat → Nat → Int32 := fun k => if k < 63 then F k else G k
theorem mx_t {F G : Nat → Nat → Int32} {k : Nat} (h : k < 63) : mixF F G k = F k := if_pos h
theorem mx_m {F G : Nat → Nat → Int32} {k : Nat} (h : 63 ≤ k) : mixF F G k = G k := if_neg (by omega)
def mst (kd : Nat → Nat) (n w a L : Nat) (τ : St) : St := match w with
  | 0 => paM τ 76 kd n L
  | 1 => baM τ (nI a)
  | 2 => crM τ a
  | _ => guM τ 76 kd L a
theorem mst_k (kd : Nat → Nat) (n w a L : Nat) (τ : St) {k : Nat} (h : k ≠ 76) : (mst kd n w a L τ).1 k = τ.1 k := by
  unfold mst
  split
  · rw [paM, uI_o _ _ _ _ h, uI_o _ _ _ _ h, uI_o _ _ _ _ h]
  · rw [baM, uI_o _ _ _ _ h, uI_o _ _ _ _ h]
  · rw [crM, uI_o _ _ _ _ h]
  · rw [guM, uI_o _ _ _ _ h, uI_o _ _ _ _ h]
theorem mst_2 (kd : Nat → Nat) (n w a L : Nat) (τ : St) : (mst kd n w a L τ).2 = τ.2 := by
  unfold mst
  split <;> rfl
theorem stS_2 (kd : Nat → Nat) (G n w a L : Nat) (σ : St) : (stS kd G n w a L σ).2 = σ.2 := by
  unfold stS
  split <;> rfl
theorem rmM_2 (τ : St) (D : Nat) : (rmM τ D).2 = τ.2 := cpF_2 _ _ _ _ _
theorem pcN_6 (x : Nat) : pcN x ≤ 6 := by
  unfold pcN
  omega
theorem loot_b : ∀ k, k < 6 → ∀ s, s < 10 → ∀ o, o < 7 → lootS k (nI s) (nI o) = nI (ix (lootS k (nI s) (nI o))) ∧ ix (lootS k (nI s) (nI o)) ≤ 16 := by decide +kernel
theorem ltA_b {kd : Nat → Nat} {sk : Nat → Int32} {G L i : Nat} (hk : kd i < 6) (hs : ∃ s, s < 10 ∧ sk i = nI s) : ∃ p, p ≤ 16 ∧ ltA kd sk G L i = nI p := by
  unfold ltA
  split
  · obtain ⟨s, h1, h2⟩ := hs
    unfold ltF
    rw [h2]
    obtain ⟨e1, e2⟩ := loot_b (kd i) hk s h1 (othN L G i) (Nat.lt_succ_of_le (pcN_6 _))
    exact ⟨_, e2, e1⟩
  · exact ⟨0, Nat.zero_le _, nI_0.symm⟩
theorem run_G {n : Nat} {kd : Nat → Nat} {sk bo hd fc : Nat → Int32} {wN aN : Nat → Nat} : ∀ d, ∃ g, g ≤ d ∧ (aRun n kd sk bo hd fc wN aN d).G = nI g
  | 0 => ⟨0, Nat.le_refl _, nI_0.symm⟩
  | d + 1 => by
    obtain ⟨g, h1, h2⟩ := run_G (n := n) (kd := kd) (sk := sk) (bo := bo) (hd := hd) (fc := fc) (wN := wN) (aN := aN) d
    show ∃ g, g ≤ d + 1 ∧ (aStep n kd sk bo hd (wN d) (aN d) (aRun n kd sk bo hd fc wN aN d)).G = nI g
    generalize aRun n kd sk bo hd fc wN aN d = z at *
    rcases wN d with _ | _ | _ | w
    · refine ⟨g + 1, by omega, ?_⟩
      show z.G + 1 = _
      rw [h2, nI_1]
    · exact ⟨g, by omega, h2⟩
    · exact ⟨g, by omega, h2⟩
    · exact ⟨g, by omega, h2⟩
theorem gd_step {n : Nat} {kd : Nat → Nat} {sk bo hd : Nat → Int32} {w a : Nat} {z : Ab} (h : gdZ n z) (h2 : w = 2 → z.C a < 2) (hG : ∃ g, g ≤ 40 ∧ z.G = nI g) (hl : ∃ l, l ≤ 96 ∧ sumI (ltA kd sk (gaN kd n) z.L) n = nI l) (h1 : w = 1 → a < 1000 ∧ nI a ≤ z.S) : gdZ n (aStep n kd sk bo hd w a z) := by
  obtain ⟨g, g1, g2⟩ := hG
  obtain ⟨s, s1, s2⟩ := h.2.2.2
  rw [g2, ix_nI (by omega)] at s1
  rcases w with _ | _ | _ | w
  · refine ⟨h.1, ?_, h.2.2.1, ?_⟩
    · show (if _ then (1 : Int32) else 0) = 0 ∨ (if _ then (1 : Int32) else 0) = 1
      split
      · exact Or.inr rfl
      · exact Or.inl rfl
    · obtain ⟨l, l1, l2⟩ := hl
      show ∃ s, s ≤ 100 * ix (z.G + 1) ∧ z.S + (if aTr n kd bo hd z.C z.L then 0 else sumI (ltA kd sk (gaN kd n) z.L) n) = nI s
      rw [g2, nI_1, ix_nI (by omega), s2, l2]
      split
      · exact ⟨s, by omega, Int32.add_zero _⟩
      · exact ⟨s + l, by omega, nI_add s l⟩
  · refine ⟨h.1, h.2.1, h.2.2.1, ?_⟩
    obtain ⟨a1, a2⟩ := h1 rfl
    rw [s2] at a2
    have a3 := (nI_leI (by omega) (by omega)).mp a2
    show ∃ s, s ≤ 100 * ix z.G ∧ z.S - nI a = nI s
    obtain ⟨x, rfl⟩ : ∃ x, s = x + a := ⟨s - a, by omega⟩
    refine ⟨x, by rw [g2, ix_nI (by omega)]; omega, ?_⟩
    rw [s2, ← nI_add]
    first | exact Int32.add_sub_cancel _ _ | rw [Int32.sub_eq_add_neg, Int32.add_assoc, Int32.add_right_neg, Int32.add_zero]
  · refine ⟨h.1, h.2.1, fun i hi => ?_, h.2.2.2⟩
    show ∃ c, c < 3 ∧ upd z.C a (z.C a + 1) i = nI c
    obtain ⟨c, hc, e⟩ := h.2.2.1 i hi
    by_cases k : i = a
    · subst k
      have h3 := h2 rfl
      rw [e] at h3
      have h4 : c < 2 := (nI_ltI (b := 2) (by omega) (by omega)).mp h3
      rw [pk_us, e]
      exact ⟨c + 1, by omega, nI_add c 1⟩
    · rw [pk_un k]
      exact ⟨c, hc, e⟩
  · exact ⟨and_lt h.1, h.2.1, h.2.2.1, h.2.2.2⟩
theorem mst_ab {τ : St} {n : Nat} {kd : Nat → Nat} {z : Ab} {w a : Nat} (h : gOk n z (τ.1 76)) (hg : gdZ n z) (hb : ∃ b, b < 10 ∧ τ.1 70 0 = nI b) (hw : w < 4) (ha : 2 ≤ w → a < n) : gOk n (aStep n kd (τ.1 72) (τ.1 73) (hmM τ) w a z) ((mst kd n w a z.L τ).1 76) := by
  rcases w with _ | _ | _ | _ | w
  · exact pa_ab h
  · exact ba_ab h
  · exact cr_ab h (ha (by omega))
  · exact gu_ab h (ha (by omega)) hg hb
  · omega
theorem RB_sm {σ τ : St} {n : Nat} {kd : Nat → Nat} {D : Nat} {wN aN : Nat → Nat} (h : RB (mixF σ.1 τ.1) n kd D wN aN) {w a : Nat} (hD : D < 40) (hw : w < 4) (ha : 2 ≤ w → a < n) (hc : w = 2 → σ.1 31 a < 2) (hs : w = 1 → a < 1000 ∧ nI a ≤ σ.1 19 17) :
    RB (mixF (stS kd (gaN kd n) n w a (runF (mixF σ.1 τ.1) n kd wN aN D).L (addS σ D (nI w) (nI a))).1 (mst kd n w a (runF (mixF σ.1 τ.1) n kd wN aN D).L (rmM τ D)).1) n kd (D + 1) (fun i => if i = D then w else wN i) (fun i => if i = D then a else aN i) := by
  obtain ⟨r1, r2, r3, r4, r5, r6, ⟨d1, d2, d3, d4, d5, d6, d7, d8⟩, -, -, -⟩ := id h
  have hg := d8 D (Nat.le_refl _)
  rw [mx_t (by decide), mx_t (by decide)] at d5
  rw [mx_m (by decide)] at d6
  have hz : w = 2 → (runF (mixF σ.1 τ.1) n kd wN aN D).C a < 2 := fun e => by
    rw [← d5.2.2.2.2.2 a (ha (by omega))]
    exact hc e
  have A31 : (addS σ D (nI w) (nI a)).1 31 = σ.1 31 := addS_k _ _ _ _ (by decide)
  have A19 : (addS σ D (nI w) (nI a)).1 19 = σ.1 19 := addS_k _ _ _ _ (by decide)
  have A28 : (addS σ D (nI w) (nI a)).1 28 = σ.1 28 := addS_k _ _ _ _ (by decide)
  have A29 : (addS σ D (nI w) (nI a)).1 29 = σ.1 29 := addS_k _ _ _ _ (by decide)
  have M70 : (rmM τ D).1 70 = τ.1 70 := rmM_k _ _ (by decide) (by decide)
  have M72 : (rmM τ D).1 72 = τ.1 72 := rmM_k _ _ (by decide) (by decide)
  have M73 : (rmM τ D).1 73 = τ.1 73 := rmM_k _ _ (by decide) (by decide)
  have M76 : (rmM τ D).1 76 = τ.1 76 := rmM_k _ _ (by decide) (by decide)
  have eT := stS_ab (σ := addS σ D (nI w) (nI a)) (kd := kd) (by rw [A19, A31]; exact d5) hw ha
  have eM := mst_ab (τ := rmM τ D) (kd := kd) (by rw [M76]; exact d6) hg (by
    obtain ⟨b, hb, e⟩ := r6.2.2.2.2.1
    refine ⟨b, hb, ?_⟩
    rw [M70, ← mx_m (F := σ.1) (G := τ.1) (k := 70) (by decide), ← r6.1, e]) hw ha
  have eH : hdF (addS σ D (nI w) (nI a)).1 = hdF (mixF σ.1 τ.1) := by
    unfold hdF
    rw [A19, mx_t (by decide)]
  rw [A28, A29, eH, ← mx_t (F := σ.1) (G := τ.1) (k := 28) (by decide), ← mx_t (F := σ.1) (G := τ.1) (k := 29) (by decide)] at eT
  have eS : aStep n kd ((rmM τ D).1 72) ((rmM τ D).1 73) (hmM (rmM τ D)) w a (runF (mixF σ.1 τ.1) n kd wN aN D) = aStep n kd (mixF σ.1 τ.1 28) (mixF σ.1 τ.1 29) (hdF (mixF σ.1 τ.1)) w a (runF (mixF σ.1 τ.1) n kd wN aN D) := by
    refine aStep_c (fun i hi => ?_) (fun i hi => ?_) (fun j hj => ?_)
    · rw [M72, ← mx_m (F := σ.1) (G := τ.1) (k := 72) (by decide)]
      exact (r5 i hi).2.2.2.1.symm
    · rw [M73, ← mx_m (F := σ.1) (G := τ.1) (k := 73) (by decide)]
      exact (r5 i hi).2.2.2.2.1.symm
    · show (rmM τ D).1 70 j = _
      rw [M70, ← mx_m (F := σ.1) (G := τ.1) (k := 70) (by decide)]
      rcases j with _ | _ | _ | _ | j
      · exact r6.1.symm
      · exact r6.2.1.symm
      · exact r6.2.2.1.symm
      · exact r6.2.2.2.1.symm
      · omega
  rw [eS] at eM
  refine RB_step (σ := (mixF σ.1 τ.1, σ.2)) (τ := (mixF (stS kd (gaN kd n) n w a (runF (mixF σ.1 τ.1) n kd wN aN D).L (addS σ D (nI w) (nI a))).1 (mst kd n w a (runF (mixF σ.1 τ.1) n kd wN aN D).L (rmM τ D)).1, σ.2)) h hD hw ha (gd_step hg hz (by
    obtain ⟨g, g1, g2⟩ := run_G (n := n) (kd := kd) (sk := mixF σ.1 τ.1 28) (bo := mixF σ.1 τ.1 29) (hd := hdF (mixF σ.1 τ.1)) (fc := mixF σ.1 τ.1 30) (wN := wN) (aN := aN) D
    exact ⟨g, by omega, g2⟩) (by
    obtain ⟨q, q1, q2⟩ := sumI_b (f := ltA kd (mixF σ.1 τ.1 28) (gaN kd n) (runF (mixF σ.1 τ.1) n kd wN aN D).L) (B := 16) n (fun i hi => ltA_b (r5 i hi).2.2.1 (r5 i hi).2.2.2.2.2.1)
    exact ⟨q, by omega, q2⟩) (fun q => ⟨(hs q).1, by rw [← d5.2.2.1]; exact (hs q).2⟩)) (fun k j hB hS => ?_) ?_ ?_ (fun i hi => ?_) ?_ (fun i hi => ?_) ?_ ?_ ?_ (fun i hi => ?_) (fun k hk => ?_)
  · unfold isS at hS
    simp only [Bool.or_eq_false_iff, Bool.and_eq_false_iff, beq_eq_false_iff_ne] at hS
    show mixF (stS kd (gaN kd n) n w a (runF (mixF σ.1 τ.1) n kd wN aN D).L (addS σ D (nI w) (nI a))).1 (mst kd n w a (runF (mixF σ.1 τ.1) n kd wN aN D).L (rmM τ D)).1 k j = mixF σ.1 τ.1 k j
    by_cases c : k < 63
    · rw [mx_t c, mx_t c]
      by_cases c19 : k = 19
      · subst c19
        have c14 : j ≠ 14 ∧ j ≠ 15 ∧ j ≠ 16 ∧ j ≠ 17 ∧ j ≠ 18 := by
          refine ⟨?_, ?_, ?_, ?_, ?_⟩ <;> (rintro rfl; revert hS; decide)
        rw [stS_f _ _ _ _ _ _ _ c14, A19]
      · by_cases c49 : k = 49
        · subst c49
          have c2 : j ≠ 2 := by
            rintro rfl
            revert hS
            decide
          rw [stS_k _ _ _ _ _ _ _ (by decide) (by decide), addS, uI_n _ _ _ _ c2, uI_o _ _ _ _ (by decide), uI_o _ _ _ _ (by decide)]
        · rw [stS_k _ _ _ _ _ _ _ c19 (by omega), addS_k _ _ _ _ (by omega)]
    · rw [mx_m (by omega), mx_m (by omega), mst_k _ _ _ _ _ _ (by omega)]
      by_cases c63 : k = 63
      · subst c63
        exact congrFun (congrArg _ rfl) _ |>.trans (rmM_f τ D (by
          rintro rfl
          revert hS
          decide))
      · rw [rmM_k _ _ (by omega) c63]
  · show (stS kd (gaN kd n) n w a (runF (mixF σ.1 τ.1) n kd wN aN D).L (addS σ D (nI w) (nI a))).1 49 2 = _
    rw [stS_k _ _ _ _ _ _ _ (by decide) (by decide), addS, uI_s]
  · show mixF (stS kd (gaN kd n) n w a (runF (mixF σ.1 τ.1) n kd wN aN D).L (addS σ D (nI w) (nI a))).1 (mst kd n w a (runF (mixF σ.1 τ.1) n kd wN aN D).L (rmM τ D)).1 63 22 = _
    rw [mx_m (by decide), mst_k _ _ _ _ _ _ (by decide), rmM, uI_s]
  · show mixF (stS kd (gaN kd n) n w a (runF (mixF σ.1 τ.1) n kd wN aN D).L (addS σ D (nI w) (nI a))).1 (mst kd n w a (runF (mixF σ.1 τ.1) n kd wN aN D).L (rmM τ D)).1 50 i = mixF σ.1 τ.1 50 i
    rw [mx_t (by decide), mx_t (by decide), stS_k _ _ _ _ _ _ _ (by decide) (by decide), addS, uI_o _ _ _ _ (by decide), uI_o _ _ _ _ (by decide), uI_n _ _ _ _ (by omega)]
  · show mixF (stS kd (gaN kd n) n w a (runF (mixF σ.1 τ.1) n kd wN aN D).L (addS σ D (nI w) (nI a))).1 (mst kd n w a (runF (mixF σ.1 τ.1) n kd wN aN D).L (rmM τ D)).1 50 D = _
    rw [mx_t (by decide), stS_k _ _ _ _ _ _ _ (by decide) (by decide), addS, uI_o _ _ _ _ (by decide), uI_o _ _ _ _ (by decide), uI_s]
  · show mixF (stS kd (gaN kd n) n w a (runF (mixF σ.1 τ.1) n kd wN aN D).L (addS σ D (nI w) (nI a))).1 (mst kd n w a (runF (mixF σ.1 τ.1) n kd wN aN D).L (rmM τ D)).1 51 i = mixF σ.1 τ.1 51 i
    rw [mx_t (by decide), mx_t (by decide), stS_k _ _ _ _ _ _ _ (by decide) (by decide), addS, uI_o _ _ _ _ (by decide), uI_n _ _ _ _ (by omega), uI_o _ _ _ _ (by decide)]
  · show mixF (stS kd (gaN kd n) n w a (runF (mixF σ.1 τ.1) n kd wN aN D).L (addS σ D (nI w) (nI a))).1 (mst kd n w a (runF (mixF σ.1 τ.1) n kd wN aN D).L (rmM τ D)).1 51 D = _
    rw [mx_t (by decide), stS_k _ _ _ _ _ _ _ (by decide) (by decide), addS, uI_o _ _ _ _ (by decide), uI_s]
  · show tOk n _ (mixF (stS kd (gaN kd n) n w a (runF (mixF σ.1 τ.1) n kd wN aN D).L (addS σ D (nI w) (nI a))).1 (mst kd n w a (runF (mixF σ.1 τ.1) n kd wN aN D).L (rmM τ D)).1 19) (mixF (stS kd (gaN kd n) n w a (runF (mixF σ.1 τ.1) n kd wN aN D).L (addS σ D (nI w) (nI a))).1 (mst kd n w a (runF (mixF σ.1 τ.1) n kd wN aN D).L (rmM τ D)).1 31)
    rw [mx_t (by decide), mx_t (by decide)]
    exact eT
  · show gOk n _ (mixF (stS kd (gaN kd n) n w a (runF (mixF σ.1 τ.1) n kd wN aN D).L (addS σ D (nI w) (nI a))).1 (mst kd n w a (runF (mixF σ.1 τ.1) n kd wN aN D).L (rmM τ D)).1 76)
    rw [mx_m (by decide)]
    exact eM
  · show mixF (stS kd (gaN kd n) n w a (runF (mixF σ.1 τ.1) n kd wN aN D).L (addS σ D (nI w) (nI a))).1 (mst kd n w a (runF (mixF σ.1 τ.1) n kd wN aN D).L (rmM τ D)).1 78 i = mixF σ.1 τ.1 78 i
    rw [mx_m (by decide), mx_m (by decide), mst_k _ _ _ _ _ _ (by decide), rmM, uI_o _ _ _ _ (by decide), cpF_out _ _ _ _ _ (by omega)]
  · show mixF (stS kd (gaN kd n) n w a (runF (mixF σ.1 τ.1) n kd wN aN D).L (addS σ D (nI w) (nI a))).1 (mst kd n w a (runF (mixF σ.1 τ.1) n kd wN aN D).L (rmM τ D)).1 78 (11 * D + k) = mixF σ.1 τ.1 76 k
    rw [mx_m (by decide), mx_m (by decide), mst_k _ _ _ _ _ _ (by decide), rmM, uI_o _ _ _ _ (by decide), cpF_at _ _ _ _ _ hk]
