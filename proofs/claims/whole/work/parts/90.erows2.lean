-- rows and texts: the others
theorem isX_r {j : Nat} (h : j < 6) : isX (2 + j) = true := by
  unfold isX
  simp only [Bool.or_eq_true, Bool.and_eq_true, beq_iff_eq, Nat.ble_eq]
  omega
theorem isX_t {j : Nat} (h : j < 4) : isX (10 + j) = true := by
  unfold isX
  simp only [Bool.or_eq_true, Bool.and_eq_true, beq_iff_eq, Nat.ble_eq]
  omega
theorem Rel_row {σ ρ : St} (h : Rel σ) {j : Nat} (hj : j < 6) (hb : kp isB σ ρ) (h62 : ρ.1 62 = σ.1 62) (h64 : ρ.1 64 = σ.1 64) (h1 : ρ.1 0 11 = ρ.1 63 0) (h2 : ρ.1 0 12 = ρ.1 63 2) (e2 : ρ.2 = σ.2) (ek : ∀ k, k ≠ 2 + j → isX k = true → k ≠ 8 → k ≠ 65 → k ≠ 66 → ρ.1 k = σ.1 k) (e8 : ∀ r, r ≠ j → ρ.1 8 r = σ.1 8 r) (e65 : ∀ r, r ≠ j → ρ.1 65 r = σ.1 65 r) (e66 : ∀ r i, r ≠ j → i < 40 → ρ.1 66 (40 * r + i) = σ.1 66 (40 * r + i)) (hr : rwR ρ.1 j) : Rel ρ := by
  refine Rel_x h (fun r' hr' => ?_) (fun t' ht' => ?_) hb h62 h64 h1 h2 e2
  · by_cases e : r' = j
    · rw [e]
      exact hr
    · exact rw_k (h.rw hr') (e8 _ e) (e65 _ e) (fun i' hi' => by rw [ek (2 + r') (by omega) (isX_r hr') (by omega) (by omega) (by omega)]) (fun i' hi' => e66 _ _ e hi')
  · refine tx_k (h.tx ht') ?_ ?_ (fun i' hi' => ?_) (fun i' hi' => ?_)
    · rw [ek 14 (by omega) rfl (by decide) (by decide) (by decide)]
    · rw [ek 68 (by omega) rfl (by decide) (by decide) (by decide)]
    · rw [ek (10 + t') (by omega) (isX_t ht') (by omega) (by omega) (by omega)]
    · rw [ek 69 (by omega) rfl (by decide) (by decide) (by decide)]
theorem Rel_txt {σ ρ : St} (h : Rel σ) {j : Nat} (hj : j < 4) (hb : kp isB σ ρ) (h62 : ρ.1 62 = σ.1 62) (h64 : ρ.1 64 = σ.1 64) (h1 : ρ.1 0 11 = ρ.1 63 0) (h2 : ρ.1 0 12 = ρ.1 63 2) (e2 : ρ.2 = σ.2) (ek : ∀ k, k ≠ 10 + j → isX k = true → k ≠ 14 → k ≠ 68 → k ≠ 69 → ρ.1 k = σ.1 k) (e8 : ∀ r, r ≠ j → ρ.1 14 r = σ.1 14 r) (e65 : ∀ r, r ≠ j → ρ.1 68 r = σ.1 68 r) (e66 : ∀ r i, r ≠ j → i < 60 → ρ.1 69 (60 * r + i) = σ.1 69 (60 * r + i)) (hr : txR ρ.1 j) : Rel ρ := by
  refine Rel_x h (fun r' hr' => ?_) (fun t' ht' => ?_) hb h62 h64 h1 h2 e2
  · refine rw_k (h.rw hr') ?_ ?_ (fun i' hi' => ?_) (fun i' hi' => ?_)
    · rw [ek 8 (by omega) rfl (by decide) (by decide) (by decide)]
    · rw [ek 65 (by omega) rfl (by decide) (by decide) (by decide)]
    · rw [ek (2 + r') (by omega) (isX_r hr') (by omega) (by omega) (by omega)]
    · rw [ek 66 (by omega) rfl (by decide) (by decide) (by decide)]
  · by_cases e : t' = j
    · rw [e]
      exact hr
    · exact tx_k (h.tx ht') (e8 _ e) (e65 _ e) (fun i' hi' => by rw [ek (10 + t') (by omega) (isX_t ht') (by omega) (by omega) (by omega)]) (fun i' hi' => e66 _ _ e hi')
theorem q_row {σ τ : St} {r n x : Int32} (ht : (x, τ) = tRow σ r n) : TM σ τ := by
  rw [show τ = (tRow σ r n).2 from congrArg Prod.snd ht]
  unfold tRow
  by_cases c : ¬ inR r 6 ∨ 40 < n
  · rw [if_pos c]
    exact TM.rf
  · rw [if_neg c]
    obtain ⟨j, hj, ej, -⟩ := inR_nat (N := 6) (Classical.not_not.mp (fun q => c (Or.inl q))) rfl (by decide)
    rw [ej, fl_c]
    split
    · exact TM.rf.r
    · exact (TM.rf.u (by decide)).c (by omega) _
theorem e_row {σ τ ρ : St} (h : Rel σ) {r n x y : Int32} (ht : (x, τ) = tRow σ r n) (hm : (y, ρ) = mRow τ r n) : x = y ∧ Rel ρ := by
  unfold tRow at ht
  unfold mRow at hm
  by_cases c : ¬ inR r 6 ∨ 40 < n
  · rw [if_pos c] at ht hm
    exact fin0 h ht hm
  · rw [if_neg c] at ht hm
    obtain ⟨j, hj, ej, -⟩ := inR_nat (N := 6) (Classical.not_not.mp (fun q => c (Or.inl q))) rfl (by decide)
    rw [ej, fl_c] at ht hm
    by_cases c2 : n < 0
    · rw [if_pos c2] at ht hm
      exact finR 5 h ht hm
    · rw [if_neg c2] at ht hm
      obtain ⟨N, hN, eN, rfl⟩ := nat_of (M := 40) (i_nlt.mp c2) (i_nlt.mp (fun q => c (Or.inr q))) rfl (by decide)
      rw [eN] at ht
      obtain ⟨rfl, rfl⟩ := Prod.mk.inj ht
      obtain ⟨rfl, rfl⟩ := Prod.mk.inj hm
      refine ⟨rfl, Rel_row h hj ((((kp.rf.u rfl).c (fun _ => isB_r hj) _).u rfl).c (fun _ => rfl) _) ?_ ?_ ?_ ?_ ?_ (fun k k1 k2 k3 k4 k5 => ?_) (fun r' hr' => ?_) (fun r' hr' => ?_) (fun r' i' hr' hi' => ?_) ?_⟩
      · rw [cpF_other _ _ _ _ (by decide), uI_o _ _ _ _ (by decide), cpF_other _ _ _ _ (by omega), uI_o _ _ _ _ (by decide)]
      · rw [cpF_other _ _ _ _ (by decide), uI_o _ _ _ _ (by decide), cpF_other _ _ _ _ (by omega), uI_o _ _ _ _ (by decide)]
      · rw [cpF_other _ _ _ _ (by decide), cpF_other _ _ _ _ (by decide), uI_o _ _ _ _ (by decide), uI_o _ _ _ _ (by decide), cpF_other _ _ _ _ (by omega), cpF_other _ _ _ _ (by omega), uI_o _ _ _ _ (by decide), uI_o _ _ _ _ (by decide)]
        exact h.fd.2.1
      · rw [cpF_other _ _ _ _ (by decide), cpF_other _ _ _ _ (by decide), uI_o _ _ _ _ (by decide), uI_o _ _ _ _ (by decide), cpF_other _ _ _ _ (by omega), cpF_other _ _ _ _ (by omega), uI_o _ _ _ _ (by decide), uI_o _ _ _ _ (by decide)]
        exact h.fd.2.2.1
      · rw [cpF_2]
        exact cpF_2 _ _ _ _ _
      · rw [cpF_other _ _ _ _ k5, uI_o _ _ _ _ k4, cpF_other _ _ _ _ k1, uI_o _ _ _ _ k3]
      · rw [cpF_other _ _ _ _ (by decide), uI_o _ _ _ _ (by decide), cpF_other _ _ _ _ (by omega), uI_n _ _ _ _ hr']
      · rw [cpF_other _ _ _ _ (by decide), uI_n _ _ _ _ hr', cpF_other _ _ _ _ (by omega), uI_o _ _ _ _ (by decide)]
      · rw [cpF_out _ _ _ _ _ (by omega), uI_o _ _ _ _ (by decide), cpF_other _ _ _ _ (by omega), uI_o _ _ _ _ (by decide)]
      · unfold rwR
        have e8 : (cpF (uI (cpF (uI σ 8 j (nI N)) (2 + j) 0 (fun _ => 0) N) 65 j (nI N)) 66 (40 * j) (fun _ => 0) 40).1 8 j = nI N := by
          rw [cpF_other _ _ _ _ (by decide), uI_o _ _ _ _ (by decide), cpF_other _ _ _ _ (by omega), uI_s]
        have e65 : (cpF (uI (cpF (uI σ 8 j (nI N)) (2 + j) 0 (fun _ => 0) N) 65 j (nI N)) 66 (40 * j) (fun _ => 0) 40).1 65 j = nI N := by
          rw [cpF_other _ _ _ _ (by decide), uI_s]
        rw [e8, e65, ix_nI (by omega)]
        refine ⟨rfl, ?_, (nI_leI (b := 40) (by omega) (by omega)).mpr hN, fun i hi => ?_⟩
        · have h1 : (0 : Int32) ≤ nI N := nI_nn (by omega)
          have e0 : (0 : Int32).toInt = 0 := rfl
          have e1 : (-1 : Int32).toInt = -1 := rfl
          simp only [Int32.le_iff_toInt_le] at *
          omega
        · rw [cpF_at _ _ _ _ _ (by omega), cpF_other _ _ _ _ (by omega), uI_o _ _ _ _ (by omega), cpF_a0 _ _ _ hi]
theorem q_text {σ τ : St} {r n x : Int32} (ht : (x, τ) = tText σ r n) : TM σ τ := by
  rw [show τ = (tText σ r n).2 from congrArg Prod.snd ht]
  unfold tText
  by_cases c : ¬ inR r 4 ∨ 60 < n
  · rw [if_pos c]
    exact TM.rf
  · rw [if_neg c]
    obtain ⟨j, hj, ej, -⟩ := inR_nat (N := 4) (Classical.not_not.mp (fun q => c (Or.inl q))) rfl (by decide)
    rw [ej, fl_c]
    split
    · exact TM.rf.r
    · exact (TM.rf.u (by decide)).c (by omega) _
theorem e_text {σ τ ρ : St} (h : Rel σ) {r n x y : Int32} (ht : (x, τ) = tText σ r n) (hm : (y, ρ) = mText τ r n) : x = y ∧ Rel ρ := by
  unfold tText at ht
  unfold mText at hm
  by_cases c : ¬ inR r 4 ∨ 60 < n
  · rw [if_pos c] at ht hm
    exact fin0 h ht hm
  · rw [if_neg c] at ht hm
    obtain ⟨j, hj, ej, -⟩ := inR_nat (N := 4) (Classical.not_not.mp (fun q => c (Or.inl q))) rfl (by decide)
    rw [ej, fl_c] at ht hm
    by_cases c2 : n < 0
    · rw [if_pos c2] at ht hm
      exact finR 5 h ht hm
    · rw [if_neg c2] at ht hm
      obtain ⟨N, hN, eN, rfl⟩ := nat_of (M := 60) (i_nlt.mp c2) (i_nlt.mp (fun q => c (Or.inr q))) rfl (by decide)
      rw [eN] at ht
      obtain ⟨rfl, rfl⟩ := Prod.mk.inj ht
      obtain ⟨rfl, rfl⟩ := Prod.mk.inj hm
      refine ⟨rfl, Rel_txt h hj ((((kp.rf.u rfl).c (fun _ => isB_t hj) _).u rfl).c (fun _ => rfl) _) ?_ ?_ ?_ ?_ ?_ (fun k k1 k2 k3 k4 k5 => ?_) (fun r' hr' => ?_) (fun r' hr' => ?_) (fun r' i' hr' hi' => ?_) ?_⟩
      · rw [cpF_other _ _ _ _ (by decide), uI_o _ _ _ _ (by decide), cpF_other _ _ _ _ (by omega), uI_o _ _ _ _ (by decide)]
      · rw [cpF_other _ _ _ _ (by decide), uI_o _ _ _ _ (by decide), cpF_other _ _ _ _ (by omega), uI_o _ _ _ _ (by decide)]
      · rw [cpF_other _ _ _ _ (by decide), cpF_other _ _ _ _ (by decide), uI_o _ _ _ _ (by decide), uI_o _ _ _ _ (by decide), cpF_other _ _ _ _ (by omega), cpF_other _ _ _ _ (by omega), uI_o _ _ _ _ (by decide), uI_o _ _ _ _ (by decide)]
        exact h.fd.2.1
      · rw [cpF_other _ _ _ _ (by decide), cpF_other _ _ _ _ (by decide), uI_o _ _ _ _ (by decide), uI_o _ _ _ _ (by decide), cpF_other _ _ _ _ (by omega), cpF_other _ _ _ _ (by omega), uI_o _ _ _ _ (by decide), uI_o _ _ _ _ (by decide)]
        exact h.fd.2.2.1
      · rw [cpF_2]
        exact cpF_2 _ _ _ _ _
      · rw [cpF_other _ _ _ _ k5, uI_o _ _ _ _ k4, cpF_other _ _ _ _ k1, uI_o _ _ _ _ k3]
      · rw [cpF_other _ _ _ _ (by decide), uI_o _ _ _ _ (by decide), cpF_other _ _ _ _ (by omega), uI_n _ _ _ _ hr']
      · rw [cpF_other _ _ _ _ (by decide), uI_n _ _ _ _ hr', cpF_other _ _ _ _ (by omega), uI_o _ _ _ _ (by decide)]
      · rw [cpF_out _ _ _ _ _ (by omega), uI_o _ _ _ _ (by decide), cpF_other _ _ _ _ (by omega), uI_o _ _ _ _ (by decide)]
      · unfold txR
        have e8 : (cpF (uI (cpF (uI σ 14 j (nI N)) (10 + j) 0 (fun _ => 32) N) 68 j (nI N)) 69 (60 * j) (fun _ => 32) 60).1 14 j = nI N := by
          rw [cpF_other _ _ _ _ (by decide), uI_o _ _ _ _ (by decide), cpF_other _ _ _ _ (by omega), uI_s]
        have e65 : (cpF (uI (cpF (uI σ 14 j (nI N)) (10 + j) 0 (fun _ => 32) N) 68 j (nI N)) 69 (60 * j) (fun _ => 32) 60).1 68 j = nI N := by
          rw [cpF_other _ _ _ _ (by decide), uI_s]
        rw [e8, e65, ix_nI (by omega)]
        refine ⟨rfl, ?_, (nI_leI (b := 60) (by omega) (by omega)).mpr hN, fun i hi => ?_⟩
        · have h1 : (0 : Int32) ≤ nI N := nI_nn (by omega)
          have e0 : (0 : Int32).toInt = 0 := rfl
          have e1 : (-1 : Int32).toInt = -1 := rfl
          simp only [Int32.le_iff_toInt_le] at *
          omega
        · rw [cpF_at _ _ _ _ _ (by omega), cpF_other _ _ _ _ (by omega), uI_o _ _ _ _ (by omega), cpF_a0 _ _ _ hi]
theorem q_put {σ τ : St} {t i v x : Int32} (ht : (x, τ) = tPut σ t i v) : TM σ τ := by
  rw [show τ = (tPut σ t i v).2 from congrArg Prod.snd ht]
  unfold tPut
  by_cases c : inR t 4
  · obtain ⟨j, hj, ej, -⟩ := inR_nat (N := 4) c rfl (by decide)
    rw [if_neg (fun q => q c), ej]
    split
    · exact TM.rf.r
    · split
      · exact TM.rf.r
      · exact TM.rf.u (by omega)
  · rw [if_pos c]
    exact TM.rf
theorem e_put {σ τ ρ : St} (h : Rel σ) {t i v x y : Int32} (ht : (x, τ) = tPut σ t i v) (hm : (y, ρ) = mPut τ t i v) : x = y ∧ Rel ρ := by
  have q := q_put ht
  unfold tPut at ht
  unfold mPut at hm
  rw [q.1 68 (by decide), q.1 69 (by decide)] at hm
  by_cases c : inR t 4
  · obtain ⟨j, hj, ej, -⟩ := inR_nat (N := 4) c rfl (by decide)
    obtain ⟨a1, a2, a3, a4⟩ := h.tx hj
    rw [if_neg (fun q => q c), ej] at ht hm
    rw [← a1] at hm
    by_cases c2 : σ.1 14 j < 0
    · rw [if_pos c2] at ht hm
      exact finR 1 h ht hm
    · rw [if_neg c2] at ht hm
      by_cases c3 : i < 0 ∨ σ.1 14 j ≤ i
      · rw [if_pos c3] at ht
        rw [if_pos (fun q => (pred_lt (N := 60) (i_nlt.mp c2) a3 (by decide)).mp q c3)] at hm
        exact finR 2 h ht hm
      · have hi := ix_in c3 a3
        have hz := ixN (N := 60) (by omega) a3
        rw [if_neg c3, a4 _ hi] at ht
        rw [if_neg (fun q => q ((pred_lt (N := 60) (i_nlt.mp c2) a3 (by decide)).mpr c3))] at hm
        obtain ⟨rfl, rfl⟩ := Prod.mk.inj ht
        obtain ⟨rfl, rfl⟩ := Prod.mk.inj hm
        refine ⟨Int32.add_comm _ _, Rel_txt h hj ((kp.rf.u (isB_t hj)).u rfl) ?_ ?_ ?_ ?_ rfl (fun k k1 k2 k3 k4 k5 => ?_) (fun r' hr' => ?_) (fun r' hr' => ?_) (fun r' i' hr' hi' => ?_) ?_⟩
        · rw [uI_o _ _ _ _ (by decide), uI_o _ _ _ _ (by omega)]
        · rw [uI_o _ _ _ _ (by decide), uI_o _ _ _ _ (by omega)]
        · rw [uI_o _ _ _ _ (by decide), uI_o _ _ _ _ (by omega), uI_o _ _ _ _ (by decide), uI_o _ _ _ _ (by omega)]
          exact h.fd.2.1
        · rw [uI_o _ _ _ _ (by decide), uI_o _ _ _ _ (by omega), uI_o _ _ _ _ (by decide), uI_o _ _ _ _ (by omega)]
          exact h.fd.2.2.1
        · rw [uI_o _ _ _ _ k5, uI_o _ _ _ _ k1]
        · rw [uI_o _ _ _ _ (by decide), uI_o _ _ _ _ (by omega)]
        · rw [uI_o _ _ _ _ (by decide), uI_o _ _ _ _ (by omega)]
        · rw [uI_n _ _ _ _ (by omega), uI_o _ _ _ _ (by omega)]
        · unfold txR
          rw [uI_o (uI σ _ _ _) _ _ _ (show 14 ≠ 69 by decide), uI_o σ _ _ _ (show 14 ≠ 10 + j by omega), uI_o (uI σ _ _ _) _ _ _ (show 68 ≠ 69 by decide), uI_o σ _ _ _ (show 68 ≠ 10 + j by omega)]
          refine ⟨a1, a2, a3, fun i' hi' => ?_⟩
          rw [uI_o _ _ _ _ (by omega)]
          by_cases ei : i' = ix i
          · subst ei
            rw [uI_s, uI_s]
          · rw [uI_n _ _ _ _ ei, uI_n _ _ _ _ (by omega), uI_o _ _ _ _ (by omega)]
            exact a4 i' hi'
  · rw [if_pos c] at ht hm
    exact fin0 h ht hm
theorem sumL_c {f g : Nat → Int32} : ∀ n, (∀ k, k < n → f k = g k) → sumL f n = sumL g n
  | 0, _ => rfl
  | n + 1, h => by
    simp only [sumL]
    rw [sumL_c n (fun k hk => h k (by omega)), h n (by omega)]
theorem q_mean {σ τ : St} {r x : Int32} (ht : (x, τ) = tMean σ r) : TM σ τ := by
  rw [show τ = (tMean σ r).2 from congrArg Prod.snd ht]
  unfold tMean
  split
  · exact TM.rf
  · split
    · exact TM.rf.r
    · split
      · exact TM.rf.r
      · exact TM.rf.u (by decide)
theorem e_mean {σ τ ρ : St} (h : Rel σ) {r x y : Int32} (ht : (x, τ) = tMean σ r) (hm : (y, ρ) = mMean τ r) : x = y ∧ Rel ρ := by
  have t := q_mean ht
  unfold tMean at ht
  unfold mMean at hm
  rw [t.1 65 (by decide), t.1 66 (by decide)] at hm
  by_cases c : inR r 6
  · obtain ⟨j, hj, ej, -⟩ := inR_nat (N := 6) c rfl (by decide)
    obtain ⟨a1, a2, a3, a4⟩ := h.rw hj
    rw [if_neg (fun q => q c), ej] at ht hm
    rw [← a1] at hm
    by_cases c2 : σ.1 8 j < 0
    · rw [if_pos c2] at ht hm
      exact finR 1 h ht hm
    · rw [if_neg c2] at ht hm
      by_cases c3 : σ.1 8 j = 0
      · rw [if_pos c3] at ht hm
        exact finR 4 h ht hm
      · rw [if_neg c3] at ht hm
        rw [← sumL_c (f := σ.1 (2 + j)) (ix (σ.1 8 j)) (fun k hk => a4 k hk)] at hm
        exact finT h ht hm
  · rw [if_pos c] at ht hm
    exact fin0 h ht hm
