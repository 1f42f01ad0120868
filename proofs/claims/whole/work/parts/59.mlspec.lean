-- the model: the fewest crosses
def dg (code i : Nat) : Nat := code / 3 ^ i % 3
theorem dg_lt {code i : Nat} : dg code i < 3 := Nat.mod_lt _ (by decide)
theorem dmc : ∀ d, d < 3 → ∀ c, c < 3 → ((nI d - nI c < 0 ↔ d < c) ∧ (nI d - nI c = 0 ↔ d = c)) := by decide +kernel
def mgB (cr : Nat → Nat) (a code i : Nat) : Bool := decide (cr i ≤ dg code i) && (decide (dg code i = cr i) || a.testBit i)
def mrS (cr : Nat → Nat) (a n code : Nat) : Int32 := if allB (mgB cr a code) n = true then sumI (fun i => nI (dg code i) - nI (cr i)) n else -1
def crOk (σ : St) (cr : Nat → Nat) (n : Nat) : Prop := ∀ i, i < n → σ.1 76 (5 + i) = nI (cr i) ∧ cr i < 3
def tdOk (a n code : Nat) (τ : St) : Prop := τ.1 77 0 = nI a ∧ ∀ i, i < n → τ.1 77 (5 + i) = nI (dg code i)
theorem td_s {a i code : Nat} {τ : St} (h : tdOk a i code τ) {x : Int32} (hx : x = nI (dg code i)) : tdOk a (i + 1) code (uI τ 77 (5 + i) x) := by
  refine ⟨?_, fun j hj => ?_⟩
  · rw [uI_n _ _ _ _ (by omega)]
    exact h.1
  · by_cases e : j = i
    · subst e
      rw [uI_s, hx]
    · rw [uI_n _ _ _ _ (by omega)]
      exact h.2 j (by omega)
theorem td_0 {σ τ : St} (h : fr σ τ) {a code : Nat} (h0 : σ.1 76 0 = nI a) : tdOk a 0 code (cpF τ 77 0 (τ.1 76) 11) := by
  refine ⟨?_, fun j hj => absurd hj (Nat.not_lt_zero _)⟩
  have e := cpF_at τ 77 0 (τ.1 76) (j := 0) 11 (by decide)
  exact e.trans (h.v rfl h0)
theorem dg_s {code i : Nat} : code / 3 ^ i / 3 = code / 3 ^ (i + 1) := by rw [Nat.div_div_eq_div_mul, Nat.pow_succ]
theorem p3_b {n : Nat} (h : n ≤ 6) : 3 ^ n ≤ 729 := Nat.le_trans (Nat.pow_le_pow_right (by decide) h) (by decide)
def tdN (a n code : Nat) : Nat := cntN (fun i => a.testBit i && decide (dg code i = 2)) n
abbrev dgI (code : Nat) : Nat → Int32 := fun i => nI (dg code i)
def slF (σ : St) (kd cr : Nat → Nat) (n a : Nat) (code : Nat) (z : Int32 × Int32) : Int32 × Int32 := if 0 ≤ mrS cr a n code ∧ ¬ trX σ kd n (dgI code) a ∧ (mrS cr a n code < z.1 ∨ (mrS cr a n code = z.1 ∧ z.2 < nI (tdN a n code))) then (mrS cr a n code, nI (tdN a n code)) else z
def slS (σ : St) (kd cr : Nat → Nat) (n a : Nat) (m : Nat) : Int32 × Int32 := itr (slF σ kd cr n a) (1000000, 0) m
theorem slS_t {σ : St} {kd cr : Nat → Nat} {n a c : Nat} (h : 0 ≤ mrS cr a n c ∧ ¬ trX σ kd n (dgI c) a ∧ (mrS cr a n c < (slS σ kd cr n a c).1 ∨ (mrS cr a n c = (slS σ kd cr n a c).1 ∧ (slS σ kd cr n a c).2 < nI (tdN a n c)))) : slS σ kd cr n a (c + 1) = (mrS cr a n c, nI (tdN a n c)) := by
  show slF σ kd cr n a c (slS σ kd cr n a c) = _
  unfold slF
  rw [if_pos h]
theorem slS_f {σ : St} {kd cr : Nat → Nat} {n a c : Nat} (h : ¬ (0 ≤ mrS cr a n c ∧ ¬ trX σ kd n (dgI c) a ∧ (mrS cr a n c < (slS σ kd cr n a c).1 ∨ (mrS cr a n c = (slS σ kd cr n a c).1 ∧ (slS σ kd cr n a c).2 < nI (tdN a n c))))) : slS σ kd cr n a (c + 1) = slS σ kd cr n a c := by
  show slF σ kd cr n a c (slS σ kd cr n a c) = _
  unfold slF
  rw [if_neg h]
def mSilent (σ τ : St) (kd cr : Nat → Nat) (n a : Nat) : Int32 × St := if n = 0 then (-4, τ) else if (slS σ kd cr n a (3 ^ n)).1 = 1000000 then (-9, τ) else ((slS σ kd cr n a (3 ^ n)).1, uI τ 63 2 (slS σ kd cr n a (3 ^ n)).2)
theorem mg_t {cr : Nat → Nat} {a code i : Nat} (h1 : ¬ dg code i < cr i) (h2 : dg code i = cr i ∨ a.testBit i = true) : mgB cr a code i = true := by
  unfold mgB
  rw [Bool.and_eq_true, Bool.or_eq_true, decide_eq_true_eq, decide_eq_true_eq]
  exact ⟨by omega, h2⟩
theorem mg_f1 {cr : Nat → Nat} {a code i : Nat} (h1 : dg code i < cr i) : ¬ mgB cr a code i = true := by
  unfold mgB
  rw [Bool.and_eq_true, decide_eq_true_eq]
  omega
theorem mg_f2 {cr : Nat → Nat} {a code i : Nat} (h1 : ¬ dg code i = cr i) (h2 : ¬ a.testBit i = true) : ¬ mgB cr a code i = true := by
  unfold mgB
  rw [Bool.and_eq_true, Bool.or_eq_true, decide_eq_true_eq, decide_eq_true_eq]
  exact fun q => q.2.elim h1 h2
theorem allB_f {f : Nat → Bool} {t : Nat} (h : ¬ allB f t = true) : ¬ allB f (t + 1) = true := by
  simp only [allB, Bool.and_eq_true]
  exact fun q => h q.1
theorem allB_f2 {f : Nat → Bool} {t : Nat} (h : ¬ f t = true) : ¬ allB f (t + 1) = true := by
  simp only [allB, Bool.and_eq_true]
  exact fun q => h q.2
