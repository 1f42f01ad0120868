-- plans: numbers of plans by figures
theorem pdg_hi {N P r k j : Nat} (hr : r < N ^ k) : pdg N (P * N ^ k + r) (k + j) = pdg N P j := by
  unfold pdg
  rw [Nat.pow_add, ← Nat.div_div_eq_div_mul, Nat.mul_comm P, Nat.mul_add_div (by omega), Nat.div_eq_of_lt hr, Nat.add_zero]
theorem pdg_lo {N P k j : Nat} (h : j < k) (hN : 0 < N) : pdg N (P * N ^ k) j = 0 := by
  obtain ⟨d, rfl⟩ : ∃ d, k = j + 1 + d := ⟨k - j - 1, by omega⟩
  unfold pdg
  have e : P * N ^ (j + 1 + d) = N ^ j * (N * (P * N ^ d)) := by
    rw [Nat.pow_add, Nat.pow_succ]
    simp only [Nat.mul_assoc, Nat.mul_comm, Nat.mul_left_comm]
  rw [e, Nat.mul_div_cancel_left _ (Nat.pow_pos hN), Nat.mul_mod_right]
theorem pl_pre {N W w k P r i : Nat} (hW : w + k = W) (hr : r < N ^ k) (hi : i < w) : plN N W (P * N ^ k + r) i = plN N w P i := by
  unfold plN pwE
  rw [show W - 1 - i = k + (w - 1 - i) by omega, pdg_hi hr]
theorem pl_post {N W w k P i : Nat} (hW : w + k = W) (hN : 0 < N) (hi : w ≤ i) (hi2 : i < W) : plN N W (P * N ^ k) i = -9 := pw_0 (pdg_lo (by omega) hN)
theorem pl_up {N w P d i : Nat} (hd : d < N) (hi : i < w) : plN N (w + 1) (P * N + d) i = plN N w P i := by
  have e := pl_pre (N := N) (W := w + 1) (w := w) (k := 1) (P := P) (r := d) rfl (by rw [Nat.pow_one]; exact hd) hi
  rw [Nat.pow_one] at e
  exact e
theorem pdg_0 {N P d : Nat} (hd : d < N) : pdg N (P * N + d) 0 = d := by
  unfold pdg
  rw [Nat.pow_zero, Nat.div_one, Nat.mul_add_mod_of_lt hd]
theorem pdg_s {N P d j : Nat} (hd : d < N) : pdg N (P * N + d) (j + 1) = pdg N P j := by
  have e := pdg_hi (N := N) (P := P) (r := d) (k := 1) (j := j) (by rw [Nat.pow_one]; exact hd)
  rw [Nat.pow_one, Nat.add_comm 1 j] at e
  exact e
theorem pl_top {N w P d : Nat} (hd : d < N) : plN N (w + 1) (P * N + d) w = if d = 0 then -9 else nI (d - 1) := by
  unfold plN pwE
  rw [show w + 1 - 1 - w = 0 by omega, pdg_0 hd]
def Vd (N a c W : Nat) : Prop := (∀ j, j < W → ¬ pdg N c j = 0 → a.testBit (pdg N c j - 1) = true) ∧ ∀ i j, i < j → j < W → pdg N c i = pdg N c j → pdg N c i = 0
theorem us_bit {N c x : Nat} : ∀ j, (usN N c j).testBit x = true ↔ ∃ i, i < j ∧ pdg N c i = x + 1
  | 0 => by
    show (0 : Nat).testBit x = true ↔ _
    rw [Nat.zero_testBit]
    exact ⟨fun q => absurd q Bool.false_ne_true, fun ⟨i, hi, _⟩ => absurd hi (Nat.not_lt_zero _)⟩
  | j + 1 => by
    have ih := us_bit (N := N) (c := c) (x := x) j
    by_cases e : pdg N c j = 0
    · rw [us_0 e, ih]
      refine ⟨fun ⟨i, hi, q⟩ => ⟨i, by omega, q⟩, fun ⟨i, hi, q⟩ => ?_⟩
      by_cases e2 : i = j
      · subst e2
        omega
      · exact ⟨i, by omega, q⟩
    · obtain ⟨v, ev⟩ : ∃ v, pdg N c j = v + 1 := ⟨pdg N c j - 1, by omega⟩
      rw [us_w ev, Nat.testBit_or, Nat.testBit_two_pow, Bool.or_eq_true, ih, decide_eq_true_eq]
      constructor
      · rintro (⟨i, hi, q⟩ | q)
        · exact ⟨i, by omega, q⟩
        · exact ⟨j, by omega, by rw [ev, q]⟩
      · rintro ⟨i, hi, q⟩
        by_cases e2 : i = j
        · subst e2
          exact Or.inr (by omega)
        · exact Or.inl ⟨i, by omega, q⟩
theorem Vd_s {N a c W : Nat} : Vd N a c (W + 1) ↔ Vd N a c W ∧ (pdg N c W = 0 ∨ (a.testBit (pdg N c W - 1) = true ∧ ∀ i, i < W → ¬ pdg N c i = pdg N c W)) := by
  constructor
  · rintro ⟨h1, h2⟩
    refine ⟨⟨fun j hj => h1 j (by omega), fun i j hi hj => h2 i j hi (by omega)⟩, ?_⟩
    by_cases e : pdg N c W = 0
    · exact Or.inl e
    · exact Or.inr ⟨h1 W (by omega) e, fun i hi q => e (q ▸ h2 i W hi (by omega) q)⟩
  · rintro ⟨⟨h1, h2⟩, h3⟩
    refine ⟨fun j hj q => ?_, fun i j hi hj q => ?_⟩
    · by_cases e : j = W
      · subst e
        exact (h3.resolve_left q).1
      · exact h1 j (by omega) q
    · by_cases e : j = W
      · subst e
        rcases h3 with h3 | h3
        · rw [q, h3]
        · exact absurd q (h3.2 i hi)
      · exact h2 i j hi (by omega) q
theorem gd_vd {N a c : Nat} : ∀ W, gdB N a c W = true ↔ Vd N a c W
  | 0 => ⟨fun _ => ⟨fun j hj => absurd hj (Nat.not_lt_zero _), fun i j _ hj => absurd hj (Nat.not_lt_zero _)⟩, fun _ => rfl⟩
  | W + 1 => by
    have ih := gd_vd (N := N) (a := a) (c := c) W
    rw [Vd_s, ← ih]
    show (gdB N a c W && (decide (pdg N c W = 0) || (a.testBit (pdg N c W - 1) && !(usN N c W).testBit (pdg N c W - 1)))) = true ↔ _
    rw [Bool.and_eq_true, Bool.or_eq_true, decide_eq_true_eq, Bool.and_eq_true, Bool.not_eq_true']
    by_cases e : pdg N c W = 0
    · exact ⟨fun q => ⟨q.1, Or.inl e⟩, fun q => ⟨q.1, Or.inl e⟩⟩
    · have eb : (usN N c W).testBit (pdg N c W - 1) = false ↔ ∀ i, i < W → ¬ pdg N c i = pdg N c W := by
        have u := us_bit (N := N) (c := c) (x := pdg N c W - 1) W
        rw [show pdg N c W - 1 + 1 = pdg N c W by omega] at u
        constructor
        · intro q i hi r
          have := u.mpr ⟨i, hi, r⟩
          rw [q] at this
          exact absurd this Bool.false_ne_true
        · intro q
          cases r : (usN N c W).testBit (pdg N c W - 1)
          · rfl
          · obtain ⟨i, hi, r2⟩ := u.mp r
            exact absurd r2 (q i hi)
      rw [eb]
theorem Vd_hi {N a P r k w W : Nat} (hW : w + k = W) (hr : r < N ^ k) (h : Vd N a (P * N ^ k + r) W) : Vd N a P w := by
  refine ⟨fun j hj q => ?_, fun i j hi hj q => ?_⟩
  · have e := h.1 (k + j) (by omega)
    rw [pdg_hi hr] at e
    exact e q
  · have e := h.2 (k + i) (k + j) (by omega) (by omega)
    rw [pdg_hi hr, pdg_hi hr] at e
    exact e q
theorem Vd_0 {N a P k w W : Nat} (hN : 0 < N) (hW : w + k = W) (h : Vd N a P w) : Vd N a (P * N ^ k) W := by
  have hk : ∀ j, k ≤ j → pdg N (P * N ^ k) j = pdg N P (j - k) := fun j hj => by
    have e := pdg_hi (N := N) (P := P) (r := 0) (k := k) (j := j - k) (Nat.pow_pos hN)
    rw [Nat.add_zero, show k + (j - k) = j by omega] at e
    exact e
  refine ⟨fun j hj q => ?_, fun i j hi hj q => ?_⟩
  · by_cases c : j < k
    · exact absurd (pdg_lo c hN) q
    · rw [hk j (by omega)] at q ⊢
      exact h.1 _ (by omega) q
  · by_cases c : i < k
    · exact pdg_lo c hN
    · rw [hk i (by omega), hk j (by omega)] at q
      rw [hk i (by omega)]
      exact h.2 _ _ (by omega) (by omega) q
theorem Vd_d {N a P d w : Nat} (hd : d < N) : Vd N a (P * N + d) (w + 1) ↔ Vd N a P w ∧ (d = 0 ∨ (a.testBit (d - 1) = true ∧ ∀ j, j < w → ¬ pdg N P j = d)) := by
  constructor
  · rintro ⟨h1, h2⟩
    refine ⟨⟨fun j hj q => ?_, fun i j hi hj q => ?_⟩, ?_⟩
    · have e := h1 (j + 1) (by omega)
      rw [pdg_s hd] at e
      exact e q
    · have e := h2 (i + 1) (j + 1) (by omega) (by omega)
      rw [pdg_s hd, pdg_s hd] at e
      exact e q
    · by_cases c : d = 0
      · exact Or.inl c
      · have e := h1 0 (by omega)
        rw [pdg_0 hd] at e
        refine Or.inr ⟨e c, fun j hj q => c ?_⟩
        have e2 := h2 0 (j + 1) (by omega) (by omega)
        rw [pdg_0 hd, pdg_s hd] at e2
        exact e2 q.symm
  · rintro ⟨⟨h1, h2⟩, h3⟩
    refine ⟨fun j hj q => ?_, fun i j hi hj q => ?_⟩
    · cases j with
      | zero =>
        rw [pdg_0 hd] at q ⊢
        exact (h3.resolve_left q).1
      | succ j =>
        rw [pdg_s hd] at q ⊢
        exact h1 j (by omega) q
    · cases j with
      | zero => exact absurd hi (Nat.not_lt_zero _)
      | succ j =>
        cases i with
        | zero =>
          rw [pdg_0 hd, pdg_s hd] at q
          rw [pdg_0 hd]
          rcases h3 with h3 | h3
          · exact h3
          · exact absurd q.symm (h3.2 j (by omega))
        | succ i =>
          rw [pdg_s hd, pdg_s hd] at q
          rw [pdg_s hd]
          exact h2 i j (by omega) (by omega) q
-- a plan goes by its first weeks alone
section
variable {τ : St} {n : Nat} {kd : Nat → Nat} {L : Nat}
theorem gzF_c {pl pl' : Nat → Int32} {k : Nat} (h : pl k = pl' k) (z : Fl) : gzF τ kd n pl k z = gzF τ kd n pl' k z := by
  have e1 : ∀ M, gN pl k M = gN pl' k M := fun M => by
    unfold gN
    rw [h]
  have e2 : ∀ m, gMn τ kd pl k m = gMn τ kd pl' k m := fun m => by
    unfold gMn
    rw [h]
  unfold gzF gvZ
  rw [e1, e2]
theorem gz_s {pl : Nat → Int32} {k : Nat} : gzS τ kd n L pl (k + 1) = gzF τ kd n pl k (gzS τ kd n L pl k) := rfl
theorem gz_z {pl : Nat → Int32} : gzS τ kd n L pl 0 = (L, τ.1 76 2, τ.1 76 1, none) := rfl
theorem gz_c {pl pl' : Nat → Int32} (k : Nat) (h : ∀ i, i < k → pl i = pl' i) : gzS τ kd n L pl k = gzS τ kd n L pl' k := by
  induction k with
  | zero => exact gz_z.trans gz_z.symm
  | succ k ih =>
    have e := ih (fun i hi => h i (by omega))
    have e2 := gzF_c (τ := τ) (kd := kd) (n := n) (h k (by omega)) (gzS τ kd n L pl' k)
    rw [gz_s, gz_s, e]
    exact e2
theorem gz_st {pl : Nat → Int32} {k W : Nat} (h : ¬ (gzS τ kd n L pl k).t = none) (hk : k ≤ W) : gzS τ kd n L pl W = gzS τ kd n L pl k := by
  have e := gz_stop h (W - k)
  rw [show k + (W - k) = W by omega] at e
  exact e
theorem gz_sn {pl : Nat → Int32} {k : Nat} (h : (gzS τ kd n L pl (k + 1)).t = none) : (gzS τ kd n L pl k).t = none := by
  by_cases c : (gzS τ kd n L pl k).t = none
  · exact c
  · have e := gz_stop c 1
    rw [e] at h
    exact h
theorem gz_ln {pl : Nat → Int32} {k : Nat} (h : (gzS τ kd n L pl (k + 1)).t = none) : (gzS τ kd n L pl (k + 1)).L = gN pl k (gzS τ kd n L pl k).L := by
  have h0 := gz_sn h
  by_cases c : trX τ kd n (nwC τ) (gN pl k (gzS τ kd n L pl k).L)
  · rw [gz_n h0 c] at h
    cases h
  · rw [gz_y h0 c]
    rfl
theorem gz_L (hn : n ≤ 6) (hL : L < 64) {pl : Nat → Int32} : ∀ k, (gzS τ kd n L pl k).t = none → (∀ i, i < k → pl i = -9 ∨ ∃ v, v < n ∧ pl i = nI v) → ∀ x, x < 6 → ((gzS τ kd n L pl k).L.testBit x = true ↔ (L.testBit x = true ∧ ∀ i, i < k → ¬ pl i = nI x))
  | 0, _, _, x, _ => ⟨fun q => ⟨q, fun i hi => absurd hi (Nat.not_lt_zero _)⟩, fun q => q.1⟩
  | k + 1, h, hv, x, hx => by
    have h0 := gz_sn h
    have ih := gz_L hn hL k h0 (fun i hi => hv i (by omega)) x hx
    have hM := gz_64 (σ := τ) (kd := kd) (n := n) (pl := pl) hL k
    rw [gz_ln h]
    rcases hv k (by omega) with e | ⟨v, hv1, e⟩
    · have eg : gN pl k (gzS τ kd n L pl k).L = (gzS τ kd n L pl k).L := if_pos e
      rw [eg, ih]
      refine ⟨fun q => ⟨q.1, fun i hi r => ?_⟩, fun q => ⟨q.1, fun i hi => q.2 i (by omega)⟩⟩
      by_cases c : i = k
      · rw [c, e] at r
        exact nI_n9 (p := x) (by omega) r.symm
      · exact q.2 i (by omega) r
    · have e9 : ¬ pl k = -9 := by
        rw [e]
        exact nI_n9 (by omega)
      have eg : gN pl k (gzS τ kd n L pl k).L = (gzS τ kd n L pl k).L &&& (63 ^^^ 2 ^ v) := by
        unfold gN
        rw [if_neg e9, e, ix_nI (by omega)]
      rw [eg, an_bit _ hM v (by omega) x hx, Bool.and_eq_true, ih, Bool.not_eq_true', decide_eq_false_iff_not]
      constructor
      · rintro ⟨⟨q1, q2⟩, q3⟩
        refine ⟨q1, fun i hi r => ?_⟩
        by_cases c : i = k
        · rw [c, e] at r
          exact q3 ((nI_eqI (by omega) (by omega)).mp r).symm
        · exact q2 i (by omega) r
      · rintro ⟨q1, q2⟩
        exact ⟨⟨q1, fun i hi => q2 i (by omega)⟩, fun r => q2 k (by omega) (by rw [e, r])⟩
end
