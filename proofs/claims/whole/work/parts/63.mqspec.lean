-- the model: the best plan, how many, what one brings
def pgS (σ : St) (kd : Nat → Nat) (n a W c : Nat) : Int32 := if gdB (n + 1) a c W = true then (gzS σ kd n a (plN (n + 1) W c) W).m - σ.1 76 1 else -1
def bsF (σ : St) (kd : Nat → Nat) (n a W : Nat) (c : Nat) (z : Nat × Int32) : Nat × Int32 := if z.2 < pgS σ kd n a W c then (c, pgS σ kd n a W c) else z
def bsS (σ : St) (kd : Nat → Nat) (n a W : Nat) (m : Nat) : Nat × Int32 := itr (bsF σ kd n a W) (0, -1) m
theorem bs_t {σ : St} {kd : Nat → Nat} {n a W c : Nat} (h : (bsS σ kd n a W c).2 < pgS σ kd n a W c) : bsS σ kd n a W (c + 1) = (c, pgS σ kd n a W c) := by
  show bsF σ kd n a W c (bsS σ kd n a W c) = _
  unfold bsF
  rw [if_pos h]
theorem bs_f {σ : St} {kd : Nat → Nat} {n a W c : Nat} (h : ¬ (bsS σ kd n a W c).2 < pgS σ kd n a W c) : bsS σ kd n a W (c + 1) = bsS σ kd n a W c := by
  show bsF σ kd n a W c (bsS σ kd n a W c) = _
  unfold bsF
  rw [if_neg h]
theorem bs_b {σ : St} {kd : Nat → Nat} {n a W : Nat} : ∀ m, m ≤ 2401 → (bsS σ kd n a W m).1 ≤ 2401
  | 0, _ => Nat.zero_le _
  | m + 1, h => by
    have ih := bs_b (σ := σ) (kd := kd) (n := n) (a := a) (W := W) m (by omega)
    by_cases q : (bsS σ kd n a W m).2 < pgS σ kd n a W m
    · rw [bs_t q]
      show m ≤ 2401
      omega
    · rw [bs_f q]
      exact ih
def mBest (σ τ : St) (kd : Nat → Nat) (n a : Nat) (wk rr : Int32) : Int32 × St := if ¬ ((0 ≤ wk ∧ wk ≤ 4) ∧ inR rr 6) then (-1, τ) else if ovM σ n then (-4, τ) else ((bsS σ kd n a (ix wk) ((n + 1) ^ ix wk)).2, cpF (uI τ 65 (ix rr) (nI (ix wk))) 66 (40 * ix rr) (plN (n + 1) (ix wk) (bsS σ kd n a (ix wk) ((n + 1) ^ ix wk)).1) (ix wk))
def wyF (σ : St) (kd : Nat → Nat) (n a W : Nat) (c : Nat) (z : Nat × Nat) : Nat × Nat := if gdB (n + 1) a c W = true ∧ (gzS σ kd n a (plN (n + 1) W c) W).t = none then (z.1 + 1, z.2 &&& (a &&& (63 ^^^ (gzS σ kd n a (plN (n + 1) W c) W).L))) else z
def wyS (σ : St) (kd : Nat → Nat) (n a W : Nat) (m : Nat) : Nat × Nat := itr (wyF σ kd n a W) (0, 2 ^ n - 1) m
theorem wy_t {σ : St} {kd : Nat → Nat} {n a W c : Nat} (h : gdB (n + 1) a c W = true ∧ (gzS σ kd n a (plN (n + 1) W c) W).t = none) : wyS σ kd n a W (c + 1) = ((wyS σ kd n a W c).1 + 1, (wyS σ kd n a W c).2 &&& (a &&& (63 ^^^ (gzS σ kd n a (plN (n + 1) W c) W).L))) := by
  show wyF σ kd n a W c (wyS σ kd n a W c) = _
  unfold wyF
  rw [if_pos h]
theorem wy_f {σ : St} {kd : Nat → Nat} {n a W c : Nat} (h : ¬ (gdB (n + 1) a c W = true ∧ (gzS σ kd n a (plN (n + 1) W c) W).t = none)) : wyS σ kd n a W (c + 1) = wyS σ kd n a W c := by
  show wyF σ kd n a W c (wyS σ kd n a W c) = _
  unfold wyF
  rw [if_neg h]
theorem wy_b {σ : St} {kd : Nat → Nat} {n a W : Nat} : ∀ m, (wyS σ kd n a W m).1 ≤ m
  | 0 => Nat.le_refl _
  | m + 1 => by
    have ih := wy_b (σ := σ) (kd := kd) (n := n) (a := a) (W := W) m
    by_cases q : gdB (n + 1) a m W = true ∧ (gzS σ kd n a (plN (n + 1) W m) W).t = none
    · rw [wy_t q]
      exact Nat.succ_le_succ ih
    · rw [wy_f q]
      omega
def mWays (σ τ : St) (kd : Nat → Nat) (n a : Nat) (wk : Int32) : Int32 × St := if ¬ (0 ≤ wk ∧ wk ≤ 4) then (-1, τ) else if ovM σ n then (-4, τ) else (1, uI (uL (uL τ 63 3 (lN (wyS σ kd n a (ix wk) ((n + 1) ^ ix wk)).1)) 63 4 (lN 1)) 63 2 (if (wyS σ kd n a (ix wk) ((n + 1) ^ ix wk)).1 = 0 then 0 else nI (wyS σ kd n a (ix wk) ((n + 1) ^ ix wk)).2))
abbrev rwM (σ : St) (ro k : Nat) : Int32 := σ.1 66 (40 * ro + k)
def brU (σ : St) (n ro : Nat) : Nat → Nat
  | 0 => 0
  | k + 1 => if 0 ≤ rwM σ ro k ∧ rwM σ ro k < nI n then brU σ n ro k ||| 2 ^ ix (rwM σ ro k) else brU σ n ro k
def brG (σ : St) (n a ro : Nat) : Nat → Bool
  | 0 => true
  | k + 1 => brG σ n a ro k && (decide (rwM σ ro k = -9) || (decide (0 ≤ rwM σ ro k ∧ rwM σ ro k < nI n) && (a.testBit (ix (rwM σ ro k)) && !(brU σ n ro k).testBit (ix (rwM σ ro k)))))
theorem br_th {σ : St} {n ro k w : Nat} (e : rwM σ ro k = nI w) (hw : w < n) (hn : n ≤ 6) : (0 ≤ rwM σ ro k ∧ rwM σ ro k < nI n) ∧ ix (rwM σ ro k) = w ∧ ¬ rwM σ ro k = -9 := by
  rw [e]
  refine ⟨⟨nI_nn (by omega), (nI_ltI (by omega) (by omega)).mpr hw⟩, ix_nI (by omega), fun q => ?_⟩
  have := nI_nn (n := w) (by omega)
  rw [q] at this
  exact absurd this (by decide)
theorem bu_w {σ : St} {n ro k w : Nat} (e : rwM σ ro k = nI w) (hw : w < n) (hn : n ≤ 6) : brU σ n ro (k + 1) = brU σ n ro k ||| 2 ^ w := by
  obtain ⟨h1, h2, -⟩ := br_th e hw hn
  simp only [brU]
  rw [if_pos h1, h2]
theorem bu_n {σ : St} {n ro k : Nat} (h : ¬ (0 ≤ rwM σ ro k ∧ rwM σ ro k < nI n)) : brU σ n ro (k + 1) = brU σ n ro k := by
  simp only [brU]
  rw [if_neg h]
theorem th_9 {σ : St} {n ro k : Nat} (h : rwM σ ro k = -9) : ¬ (0 ≤ rwM σ ro k ∧ rwM σ ro k < nI n) := by
  rw [h]
  exact fun q => absurd q.1 (by decide)
theorem bu_64 {σ : St} {n ro : Nat} (hn : n ≤ 6) : ∀ k, brU σ n ro k < 64
  | 0 => (by decide : (0 : Nat) < 64)
  | k + 1 => by
    have ih := bu_64 (σ := σ) (ro := ro) hn k
    by_cases q : 0 ≤ rwM σ ro k ∧ rwM σ ro k < nI n
    · obtain ⟨w, hw, -, e⟩ := has_nat q rfl hn
      rw [bu_w e hw hn]
      have h2 : 2 ^ w < 2 ^ 6 := Nat.pow_lt_pow_right (by decide) (by omega)
      exact Nat.or_lt_two_pow (n := 6) ih h2
    · rw [bu_n q]
      exact ih
theorem bg_9 {σ : St} {n a ro k : Nat} (h : brG σ n a ro k = true) (e : rwM σ ro k = -9) : brG σ n a ro (k + 1) = true := by
  simp only [brG, h, decide_eq_true e, Bool.true_or, Bool.and_self]
theorem bg_w {σ : St} {n a ro k w : Nat} (h : brG σ n a ro k = true) (e : rwM σ ro k = nI w) (hw : w < n) (hn : n ≤ 6) (h1 : a.testBit w = true) (h2 : ¬ (brU σ n ro k).testBit w = true) : brG σ n a ro (k + 1) = true := by
  obtain ⟨q1, q2, -⟩ := br_th e hw hn
  have h3 : (brU σ n ro k).testBit w = false := by simpa using h2
  simp only [brG, h, decide_eq_true q1, q2, h1, h3, Bool.not_false, Bool.and_self, Bool.or_true]
theorem bg_f {σ : St} {n a ro k : Nat} (h : ¬ brG σ n a ro k = true) : ¬ brG σ n a ro (k + 1) = true := by
  simp only [brG, Bool.and_eq_true]
  exact fun q => h q.1
theorem bg_f1 {σ : St} {n a ro k w : Nat} (e : rwM σ ro k = nI w) (hw : w < n) (hn : n ≤ 6) (h1 : ¬ a.testBit w = true) : ¬ brG σ n a ro (k + 1) = true := by
  obtain ⟨q1, q2, q3⟩ := br_th e hw hn
  have h3 : a.testBit w = false := by simpa using h1
  simp only [brG, q2, h3, decide_eq_false q3, Bool.false_and, Bool.and_false, Bool.or_false]
  exact Bool.false_ne_true
theorem bg_f2 {σ : St} {n a ro k w : Nat} (e : rwM σ ro k = nI w) (hw : w < n) (hn : n ≤ 6) (h1 : (brU σ n ro k).testBit w = true) : ¬ brG σ n a ro (k + 1) = true := by
  obtain ⟨q1, q2, q3⟩ := br_th e hw hn
  simp only [brG, q2, h1, decide_eq_false q3, Bool.not_true, Bool.and_false, Bool.or_false]
  exact Bool.false_ne_true
theorem bg_f3 {σ : St} {n a ro k : Nat} (h9 : ¬ rwM σ ro k = -9) (ht : ¬ (0 ≤ rwM σ ro k ∧ rwM σ ro k < nI n)) : ¬ brG σ n a ro (k + 1) = true := by
  simp only [brG, decide_eq_false h9, decide_eq_false ht, Bool.false_and, Bool.and_false, Bool.or_false]
  exact Bool.false_ne_true
theorem bg_in {σ : St} {n a ro : Nat} (hn : n ≤ 6) : ∀ N, brG σ n a ro N = true → ∀ k, k < N → rwM σ ro k = -9 ∨ ∃ w, w < n ∧ rwM σ ro k = nI w
  | 0, _, k, hk => absurd hk (Nat.not_lt_zero _)
  | N + 1, h, k, hk => by
    by_cases e : k = N
    · subst e
      by_cases q : rwM σ ro k = -9
      · exact Or.inl q
      · by_cases t : 0 ≤ rwM σ ro k ∧ rwM σ ro k < nI n
        · obtain ⟨w, hw, -, e⟩ := has_nat t rfl hn
          exact Or.inr ⟨w, hw, e⟩
        · exact absurd h (bg_f3 q t)
    · refine bg_in (a := a) hn N ?_ k (by omega)
      simp only [brG, Bool.and_eq_true] at h
      exact h.1
def mBrings (σ τ : St) (kd : Nat → Nat) (n a : Nat) (r : Int32) : Int32 × St := if ¬ inR r 6 then (-1, τ) else if ovM σ n then (-4, τ) else if σ.1 65 (ix r) < 0 then (-3, mRef τ 1) else if 4 < σ.1 65 (ix r) then (-3, mRef τ 5) else if ¬ brG σ n a (ix r) (ix (σ.1 65 (ix r))) = true then (-3, mRef τ 3) else
  ((gzS σ kd n a (rwM σ (ix r)) (ix (σ.1 65 (ix r)))).m - σ.1 76 1, uI τ 63 2 (oI (gzS σ kd n a (rwM σ (ix r)) (ix (σ.1 65 (ix r)))).t))
theorem pl_s {σ τ : St} {ro k : Nat} (h : ∀ i, i < k → τ.1 83 i = rwM σ ro i) {x : Int32} (hx : x = rwM σ ro k) : ∀ i, i < k + 1 → (uI τ 83 k x).1 83 i = rwM σ ro i := fun i hi => by
  by_cases e : i = k
  · subst e
    rw [uI_s, hx]
  · rw [uI_n _ _ _ _ e]
    exact h i (by omega)
