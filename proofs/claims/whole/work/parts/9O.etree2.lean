-- plans: the tree, the best one, how many
section
variable {τ : St} {n : Nat} {kd : Nat → Nat} {L W : Nat}
theorem pl_or {w P i : Nat} : plN (n + 1) w P i = -9 ∨ ∃ v, v < n ∧ plN (n + 1) w P i = nI v := plN_or
theorem up_b (hn : n ≤ 6) (hL : L < 2 ^ n) {w P i : Nat} (ht : (gzS τ kd n L (plN (n + 1) w P) w).t = none) (hi : i < n) (hv : Vd (n + 1) L P w) : (gzS τ kd n L (plN (n + 1) w P) w).L.testBit i = true ↔ Vd (n + 1) L (P * (n + 1) + (i + 1)) (w + 1) := by
  have hL64 : L < 64 := Nat.lt_of_lt_of_le hL (p2_64 hn)
  rw [gz_L hn hL64 w ht (fun i _ => pl_or) i (by omega), Vd_d (by omega)]
  have e : (∀ j, j < w → ¬ plN (n + 1) w P j = nI i) ↔ ∀ j, j < w → ¬ pdg (n + 1) P j = i + 1 := by
    have key : ∀ j, j < w → (plN (n + 1) w P (w - 1 - j) = nI i ↔ pdg (n + 1) P j = i + 1) := fun j hj => by
      unfold plN pwE
      rw [show w - 1 - (w - 1 - j) = j by omega]
      have hlt : pdg (n + 1) P j < n + 1 := pdg_lt
      by_cases c : pdg (n + 1) P j = 0
      · rw [if_pos c]
        exact ⟨fun q => absurd q.symm (nI_n9 (by omega)), fun q => by omega⟩
      · rw [if_neg c, nI_eqI (by omega) (by omega)]
        omega
    constructor
    · intro q j hj r
      exact q (w - 1 - j) (by omega) ((key j hj).mpr r)
    · intro q j hj r
      have e2 := key (w - 1 - j) (by omega)
      rw [show w - 1 - (w - 1 - j) = j by omega] at e2
      exact q (w - 1 - j) (by omega) (e2.mp r)
  rw [e]
  exact ⟨fun q => ⟨hv, Or.inr q⟩, fun q => q.2.resolve_left (by omega)⟩
theorem node (hn : n ≤ 6) (hL : L < 2 ^ n) : ∀ (k w P : Nat), w + k = W → Vd (n + 1) L P w → (gzS τ kd n L (plN (n + 1) w P) w).t = none → ∀ s1, S1 τ kd n L s1 → (∀ i, i < w → s1.1 38 i = plN (n + 1) w P i) → RR τ kd n L W s1 (P * (n + 1) ^ k) → chP τ kd n L W k w P s1
  | 0, w, P, hW, hv, ht, s1, hS, h38, hR => by
    obtain rfl : w = W := by omega
    rw [Nat.pow_zero, Nat.mul_one] at hR
    unfold chP
    rw [Nat.pow_zero, Nat.mul_one]
    exact leaf hn hL hv ht hS.2.2.2 hR h38 _
  | k + 1, w, P, hW, hv, ht, s1, hS, h38, hR => by
    have hL64 : L < 64 := Nat.lt_of_lt_of_le hL (p2_64 hn)
    have IH : ∀ d, d < n + 1 → Vd (n + 1) L (P * (n + 1) + d) (w + 1) → (gzS τ kd n L (plN (n + 1) (w + 1) (P * (n + 1) + d)) (w + 1)).t = none → ∀ s2, S1 τ kd n L s2 → (∀ i, i < w + 1 → s2.1 38 i = plN (n + 1) (w + 1) (P * (n + 1) + d) i) → RR τ kd n L W s2 ((P * (n + 1) + d) * (n + 1) ^ k) → chP τ kd n L W k (w + 1) (P * (n + 1) + d) s2 := fun d _ hvd h1 s2 h2 h3 h4 => node hn hL k (w + 1) (P * (n + 1) + d) (by omega) hvd h1 s2 h2 h3 h4
    have hK : ∀ l s m τ, plK τ (gofS W k (w + 1) l s m τ) := fun l s m τ => plK_gof k (w + 1) l s m τ
    have hub : ∀ i, i < n → ((gzS τ kd n L (plN (n + 1) w P) w).L.testBit i = true ↔ Vd (n + 1) L (P * (n + 1) + (i + 1)) (w + 1)) := fun i hi => up_b hn hL ht hi hv
    have hout : ∀ i, n ≤ i → i < 6 → ¬ (gzS τ kd n L (plN (n + 1) w P) w).L.testBit i = true := fun i h1 h2 q => tb_no hL h1 ((gz_L hn hL64 w ht (fun i _ => pl_or) i h2).mp q).1
    have key : ∀ i, i ≤ n → RR τ kd n L W (foS W (gofS W k (w + 1)) w (gzS τ kd n L (plN (n + 1) w P) w).L (gzS τ kd n L (plN (n + 1) w P) w).s ((gzS τ kd n L (plN (n + 1) w P) w).m - τ.1 76 1) s1 i) ((P * (n + 1) + i + 1) * (n + 1) ^ k) ∧ ∀ j, j < w → (foS W (gofS W k (w + 1)) w (gzS τ kd n L (plN (n + 1) w P) w).L (gzS τ kd n L (plN (n + 1) w P) w).s ((gzS τ kd n L (plN (n + 1) w P) w).m - τ.1 76 1) s1 i).1 38 j = plN (n + 1) w P j := by
      intro i
      induction i with
      | zero =>
        intro _
        have hvd : Vd (n + 1) L (P * (n + 1) + 0) (w + 1) := (Vd_d (by omega)).mpr ⟨hv, Or.inl rfl⟩
        have h9 := pl_9 (τ := τ) (kd := kd) (pl := plN (n + 1) (w + 1) (P * (n + 1) + 0)) (k := w) (by rw [pl_top (by omega), if_pos rfl])
        have hR0 : RR τ kd n L W s1 ((P * (n + 1) + 0) * (n + 1) ^ k) := by
          have e : (P * (n + 1) + 0) * (n + 1) ^ k = P * (n + 1) ^ (k + 1) := by
            rw [Nat.add_zero, Nat.pow_succ, Nat.mul_assoc, Nat.mul_comm (n + 1)]
          rw [e]
          exact hR
        exact child hL64 hW (by omega) hvd ht hS h38 hR0 (IH 0 (by omega) hvd) (gv := -9) (by rw [if_pos rfl]) (h9 _ 0).1.symm (by rw [(h9 0 _).2])
      | succ i ih =>
        intro hi
        obtain ⟨ih1, ih2⟩ := ih (by omega)
        have ek : plK s1 (foS W (gofS W k (w + 1)) w (gzS τ kd n L (plN (n + 1) w P) w).L (gzS τ kd n L (plN (n + 1) w P) w).s ((gzS τ kd n L (plN (n + 1) w P) w).m - τ.1 76 1) s1 i) := plK_fo hK i
        have hSi := hS.k ek
        have ef : foS W (gofS W k (w + 1)) w (gzS τ kd n L (plN (n + 1) w P) w).L (gzS τ kd n L (plN (n + 1) w P) w).s ((gzS τ kd n L (plN (n + 1) w P) w).m - τ.1 76 1) s1 (i + 1) = if (gzS τ kd n L (plN (n + 1) w P) w).L.testBit i = true then paS W (gofS W k (w + 1)) w (nI i) ((gzS τ kd n L (plN (n + 1) w P) w).L &&& (63 ^^^ 2 ^ i)) (gzS τ kd n L (plN (n + 1) w P) w).s ((gzS τ kd n L (plN (n + 1) w P) w).m - τ.1 76 1 + (foS W (gofS W k (w + 1)) w (gzS τ kd n L (plN (n + 1) w P) w).L (gzS τ kd n L (plN (n + 1) w P) w).s ((gzS τ kd n L (plN (n + 1) w P) w).m - τ.1 76 1) s1 i).1 37 i) (foS W (gofS W k (w + 1)) w (gzS τ kd n L (plN (n + 1) w P) w).L (gzS τ kd n L (plN (n + 1) w P) w).s ((gzS τ kd n L (plN (n + 1) w P) w).m - τ.1 76 1) s1 i) else foS W (gofS W k (w + 1)) w (gzS τ kd n L (plN (n + 1) w P) w).L (gzS τ kd n L (plN (n + 1) w P) w).s ((gzS τ kd n L (plN (n + 1) w P) w).m - τ.1 76 1) s1 i := rfl
        rw [ef]
        generalize foS W (gofS W k (w + 1)) w (gzS τ kd n L (plN (n + 1) w P) w).L (gzS τ kd n L (plN (n + 1) w P) w).s ((gzS τ kd n L (plN (n + 1) w P) w).m - τ.1 76 1) s1 i = si at *
        have hw := pl_w (τ := τ) (kd := kd) (pl := plN (n + 1) (w + 1) (P * (n + 1) + (i + 1))) (k := w) (v := i) (by rw [pl_top (by omega), if_neg (by omega)]; rfl) (by omega)
        by_cases q : (gzS τ kd n L (plN (n + 1) w P) w).L.testBit i = true
        · rw [if_pos q]
          have hvd := (hub i (by omega)).mp q
          exact child hL64 hW (d := i + 1) (by omega) hvd ht hSi ih2 ih1 (IH (i + 1) (by omega) hvd) (gv := nI i) (by rw [if_neg (by omega)]; rfl) (hw _ 0).1.symm (by rw [(hw 0 _).2, i_ac, hSi.2.1 i (by omega)])
        · rw [if_neg q]
          exact ⟨blk_no (w := w + 1) (k := k) (P := P * (n + 1) + (i + 1)) (by omega) (fun r => q ((hub i (by omega)).mpr r)) ih1, ih2⟩
    have e6 : ∀ e, n + e ≤ 6 → foS W (gofS W k (w + 1)) w (gzS τ kd n L (plN (n + 1) w P) w).L (gzS τ kd n L (plN (n + 1) w P) w).s ((gzS τ kd n L (plN (n + 1) w P) w).m - τ.1 76 1) s1 (n + e) = foS W (gofS W k (w + 1)) w (gzS τ kd n L (plN (n + 1) w P) w).L (gzS τ kd n L (plN (n + 1) w P) w).s ((gzS τ kd n L (plN (n + 1) w P) w).m - τ.1 76 1) s1 n := by
      intro e
      induction e with
      | zero => intro _; rfl
      | succ e ih =>
        intro he
        rw [← ih (by omega)]
        exact if_neg (hout (n + e) (by omega) (by omega))
    have e6' := e6 (6 - n) (by omega)
    rw [show n + (6 - n) = 6 by omega] at e6'
    obtain ⟨k1, k2⟩ := key n (Nat.le_refl _)
    have eP : (P * (n + 1) + n + 1) * (n + 1) ^ k = (P + 1) * (n + 1) ^ (k + 1) := by
      rw [show P * (n + 1) + n + 1 = (P + 1) * (n + 1) by rw [Nat.add_mul, Nat.one_mul]; omega, Nat.pow_succ, Nat.mul_assoc, Nat.mul_comm (n + 1)]
    rw [← e6', eP] at k1
    rw [← e6'] at k2
    exact ⟨k1, k2⟩
end
theorem tryS_at {σ : St} {G : Nat} {kd : Nat → Nat} {n L x : Nat} (hx : x &&& (63 ^^^ L) = 0) : ∀ s, x < s → (tryS σ G kd n L s).1 35 x = bI (trT σ G kd n x) ∧ (tryS σ G kd n L s).1 36 x = sumI (ltA kd (σ.1 28) G x) n
  | 0, h => absurd h (Nat.not_lt_zero _)
  | s + 1, h => by
    simp only [tryS]
    by_cases e : x = s
    · subst e
      rw [if_pos hx]
      refine ⟨?_, uI_s _ _ _ _⟩
      rw [uI_o _ _ _ _ (by decide), uI_s]
    · have ih := tryS_at (σ := σ) (G := G) (kd := kd) (n := n) hx s (by omega)
      split
      · refine ⟨?_, ?_⟩
        · rw [uI_o _ _ _ _ (by decide), uI_n _ _ _ _ e]
          exact ih.1
        · rw [uI_n _ _ _ _ e, uI_o _ _ _ _ (by decide)]
          exact ih.2
      · exact ih
theorem tryS_2 (σ : St) (G : Nat) (kd : Nat → Nat) (n L : Nat) : ∀ s, (tryS σ G kd n L s).2 = σ.2
  | 0 => rfl
  | s + 1 => by
    simp only [tryS]
    split
    · exact tryS_2 σ G kd n L s
    · exact tryS_2 σ G kd n L s
theorem pln_fr (σ : St) (G : Nat) (kd : Nat → Nat) (n L m : Nat) : frT σ (plnS σ G kd n L m) := by
  refine ⟨fun k j e => ?_, ?_⟩
  · rw [pln_k _ _ _ _ _ _ (fun q => by
      have h : scrT k = true := by
        unfold scrT
        simp only [Bool.or_eq_true, Bool.and_eq_true, Nat.ble_eq]
        omega
      rw [h] at e
      cases e)]
  · unfold plnS
    rw [(plK_gof m 0 L (σ.1 19 17) 0 (goS σ G kd n L m)).2.2]
    show (prcS (tryS σ G kd n L 64) kd n).2 = _
    unfold prcS
    rw [cpF_2, tryS_2]
section
variable {σ τ : St} {n : Nat} {kd : Nat → Nat} {L D : Nat}
theorem Br.S1 (b : Br σ τ n kd L D) (W : Nat) : S1 τ kd n L (goS σ (gaN kd n) kd n L W) := by
  have e1 : ∀ k, k ≠ 34 → k ≠ 37 → (goS σ (gaN kd n) kd n L W).1 k = (tryS σ (gaN kd n) kd n L 64).1 k := fun k k1 k2 => by
    unfold goS prcS
    rw [uI_o _ _ _ _ k1, uI_o _ _ _ _ k1, uI_o _ _ _ _ k1, uI_o _ _ _ _ k1, uI_o _ _ _ _ k1, uI_o _ _ _ _ k1, cpF_other _ _ _ _ k2]
  refine ⟨fun x hx hz => ?_, fun i hi => ?_, ?_, ?_⟩
  · rw [e1 35 (by decide) (by decide), e1 36 (by decide) (by decide)]
    obtain ⟨t1, t2⟩ := tryS_at (σ := σ) (G := gaN kd n) (kd := kd) (n := n) hz 64 hx
    rw [t1, t2, b.lt]
    exact ⟨(bI_c (b.tx x)).symm, rfl⟩
  · unfold goS prcS
    rw [uI_o _ _ _ _ (by decide), uI_o _ _ _ _ (by decide), uI_o _ _ _ _ (by decide), uI_o _ _ _ _ (by decide), uI_o _ _ _ _ (by decide), uI_o _ _ _ _ (by decide), cpF_a0 _ _ _ hi, tryS_k _ _ _ _ _ (by decide) (by decide), tryS_k _ _ _ _ _ (by decide) (by decide)]
    exact (b.pr hi).symm
  · unfold goS
    rw [uI_n _ _ _ _ (by decide), uI_n _ _ _ _ (by decide), uI_n _ _ _ _ (by decide), uI_n _ _ _ _ (by decide), uI_n _ _ _ _ (by decide), uI_s]
    exact b.h.2.1
  · unfold goS
    rw [uI_n _ _ _ _ (by decide), uI_n _ _ _ _ (by decide), uI_n _ _ _ _ (by decide), uI_n _ _ _ _ (by decide), uI_s]
theorem x63n : ∀ n, n < 7 → 63 &&& (2 ^ n - 1) = 2 ^ n - 1 := by decide
theorem tree (b : Br σ τ n kd L D) (W : Nat) : RR τ kd n L W (plnS σ (gaN kd n) kd n L W) ((n + 1) ^ W) := by
  have hn := b.n6
  have h0 : RR τ kd n L W (goS σ (gaN kd n) kd n L W) (0 * (n + 1) ^ W) := by
    rw [Nat.zero_mul]
    have g8 : (goS σ (gaN kd n) kd n L W).1 34 8 = -1 := by
      unfold goS
      rw [uI_n _ _ _ _ (by decide), uI_n _ _ _ _ (by decide), uI_s]
    have g9 : (goS σ (gaN kd n) kd n L W).1 34 9 = 0 := by
      unfold goS
      rw [uI_n _ _ _ _ (by decide), uI_s]
    have g10 : (goS σ (gaN kd n) kd n L W).1 34 10 = 63 := by
      unfold goS
      rw [uI_s]
    have b0 : bsS τ kd n L W 0 = (0, -1) := rfl
    have w0 : wyS τ kd n L W 0 = (0, 2 ^ n - 1) := rfl
    unfold RR
    rw [b0, w0, g8, g9, g10]
    exact ⟨⟨rfl, by decide, Or.inl rfl⟩, nI_0.symm, 63, by decide, by decide, (x63n n (by omega)).symm, Or.inl rfl⟩
  have hv : Vd (n + 1) L 0 0 := ⟨fun j hj => absurd hj (Nat.not_lt_zero _), fun i j _ hj => absurd hj (Nat.not_lt_zero _)⟩
  have e0 : gzS τ kd n L (plN (n + 1) 0 0) 0 = (L, τ.1 76 2, τ.1 76 1, none) := gz_z
  have h := node (W := W) hn b.L2 W 0 0 (by omega) hv (by rw [e0]) _ (b.S1 W) (fun i hi => absurd hi (Nat.not_lt_zero _)) h0
  unfold chP at h
  rw [e0] at h
  have h1 : RR τ kd n L W (gofS W W 0 L (τ.1 76 2) (τ.1 76 1 - τ.1 76 1) (goS σ (gaN kd n) kd n L W)) ((0 + 1) * (n + 1) ^ W) := h.1
  rw [Int32.sub_self, ← b.z.2.1, Nat.zero_add, Nat.one_mul] at h1
  exact h1
end
