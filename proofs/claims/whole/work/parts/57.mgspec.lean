-- the model: whose goods, sums
def stM (σ : St) (kd : Nat → Nat) (n a s : Nat) : Nat → Int32 := fun i => if s.testBit i = true then ltF kd (σ.1 72) (gaN kd n) a i else 0
abbrev fiP (σ : St) (kd : Nat → Nat) (n a : Nat) (v : Int32) (s : Nat) : Prop := s &&& (63 ^^^ a) = 0 ∧ sumI (stM σ kd n a s) n = v
def fiB (σ : St) (kd : Nat → Nat) (n a : Nat) (v : Int32) (s : Nat) : Bool := decide (fiP σ kd n a v s)
def lfF (P : Nat → Bool) (s : Nat) (z : Nat × Int32 × Nat × Nat) : Nat × Int32 × Nat × Nat := if P s = true then (z.1 + 1, (if z.1 = 0 then nI s else z.2.1), z.2.2.1 &&& s, z.2.2.2 ||| s) else z
def lfS (P : Nat → Bool) (a m : Nat) : Nat × Int32 × Nat × Nat := itr (lfF P) (0, -9, a, 0) m
def lfC (P : Nat → Bool) (m j : Nat) : Nat := cntN (fun s => P s && s.testBit j) m
theorem lfS_t {P : Nat → Bool} {a s : Nat} (h : P s = true) : lfS P a (s + 1) = ((lfS P a s).1 + 1, (if (lfS P a s).1 = 0 then nI s else (lfS P a s).2.1), (lfS P a s).2.2.1 &&& s, (lfS P a s).2.2.2 ||| s) := by
  show lfF P s (lfS P a s) = _
  unfold lfF
  rw [if_pos h]
theorem lfS_f {P : Nat → Bool} {a s : Nat} (h : ¬ P s = true) : lfS P a (s + 1) = lfS P a s := by
  show lfF P s (lfS P a s) = _
  unfold lfF
  rw [if_neg h]
theorem lfC_f {P : Nat → Bool} {s j : Nat} (h : ¬ P s = true) : lfC P (s + 1) j = lfC P s j := by
  unfold lfC
  exact cntN_f (by simp [h])
theorem lfC_t {P : Nat → Bool} {s j : Nat} (h : P s = true) : lfC P (s + 1) j = lfC P s j + (if s.testBit j = true then 1 else 0) := by
  unfold lfC
  show _ + _ = _ + _
  simp [h]
theorem lf_b {P : Nat → Bool} {a : Nat} (ha : a < 64) : ∀ s, s ≤ 64 → (lfS P a s).1 ≤ s ∧ (lfS P a s).2.2.1 < 64 ∧ (lfS P a s).2.2.2 < 64
  | 0, _ => ⟨Nat.le_refl _, ha, (by decide : (0 : Nat) < 64)⟩
  | s + 1, h => by
    obtain ⟨h1, h2, h3⟩ := lf_b (P := P) ha s (by omega)
    by_cases q : P s = true
    · rw [lfS_t q]
      exact ⟨Nat.succ_le_succ h1, and_lt h2, Nat.or_lt_two_pow (n := 6) h3 (by omega)⟩
    · rw [lfS_f q]
      exact ⟨by omega, h2, h3⟩
theorem lfC_le {P : Nat → Bool} {a j : Nat} : ∀ s, lfC P s j ≤ (lfS P a s).1
  | 0 => Nat.le_refl _
  | s + 1 => by
    have ih := lfC_le (P := P) (a := a) (j := j) s
    by_cases q : P s = true
    · rw [lfS_t q, lfC_t q]
      show _ ≤ _ + 1
      split <;> omega
    · rw [lfS_f q, lfC_f q]
      exact ih
def lfOk (P : Nat → Bool) (a n m : Nat) (τ : St) : Prop := τ.1 63 30 = nI (lfS P a m).1 ∧ τ.1 63 31 = (lfS P a m).2.1 ∧ τ.1 63 32 = nI (lfS P a m).2.2.1 ∧ τ.1 63 33 = nI (lfS P a m).2.2.2 ∧ ∀ j, j < n → τ.1 84 j = nI (lfC P m j)
def lgOk (P : Nat → Bool) (a n s i : Nat) (τ : St) : Prop := τ.1 63 30 = nI (lfS P a (s + 1)).1 ∧ τ.1 63 31 = (lfS P a (s + 1)).2.1 ∧ τ.1 63 32 = nI (lfS P a (s + 1)).2.2.1 ∧ τ.1 63 33 = nI (lfS P a (s + 1)).2.2.2 ∧ ∀ j, j < n → τ.1 84 j = nI (lfC P s j + if j < i ∧ s.testBit j = true then 1 else 0)
theorem lf_no {P : Nat → Bool} {a n s : Nat} {τ : St} (h : lfOk P a n s τ) (hP : ¬ P s = true) : lfOk P a n (s + 1) τ := by
  unfold lfOk at *
  rw [lfS_f hP]
  exact ⟨h.1, h.2.1, h.2.2.1, h.2.2.2.1, fun j hj => by rw [lfC_f hP]; exact h.2.2.2.2 j hj⟩
theorem lg_n {P : Nat → Bool} {a n s : Nat} {τ : St} (h : lgOk P a n s n τ) (hP : P s = true) : lfOk P a n (s + 1) τ := by
  refine ⟨h.1, h.2.1, h.2.2.1, h.2.2.2.1, fun j hj => ?_⟩
  rw [lfC_t hP, h.2.2.2.2 j hj]
  simp [hj]
theorem lg_0 {P : Nat → Bool} {a n s : Nat} {τ : St} (h : lfOk P a n s τ) (hP : P s = true) {x : Int32} (hx : x = if (lfS P a s).1 = 0 then nI s else τ.1 63 31) : lgOk P a n s 0 (uI (uI (uI (uI τ 63 31 x) 63 30 (nI ((lfS P a s).1 + 1))) 63 32 (nI ((lfS P a s).2.2.1 &&& s))) 63 33 (nI ((lfS P a s).2.2.2 ||| s))) := by
  obtain ⟨h1, h2, h3, h4, h5⟩ := h
  unfold lgOk
  rw [lfS_t hP]
  refine ⟨?_, ?_, ?_, ?_, fun j hj => ?_⟩
  · rw [uI_n _ _ _ _ (by decide), uI_n _ _ _ _ (by decide), uI_s]
  · rw [uI_n _ _ _ _ (by decide), uI_n _ _ _ _ (by decide), uI_n _ _ _ _ (by decide), uI_s, hx, h2]
  · rw [uI_n _ _ _ _ (by decide), uI_s]
  · rw [uI_s]
  · rw [uI_o _ _ _ _ (by decide), uI_o _ _ _ _ (by decide), uI_o _ _ _ _ (by decide), uI_o _ _ _ _ (by decide), h5 j hj]
    simp
theorem lg_s {P : Nat → Bool} {a n s i : Nat} {τ : St} (h : lgOk P a n s i τ) (hi : i < n) {x : Int32} (hx : x = τ.1 84 i + if s.testBit i = true then 1 else 0) : lgOk P a n s (i + 1) (uI τ 84 i x) := by
  obtain ⟨h1, h2, h3, h4, h5⟩ := h
  refine ⟨?_, ?_, ?_, ?_, fun j hj => ?_⟩
  · rw [uI_o _ _ _ _ (by decide)]; exact h1
  · rw [uI_o _ _ _ _ (by decide)]; exact h2
  · rw [uI_o _ _ _ _ (by decide)]; exact h3
  · rw [uI_o _ _ _ _ (by decide)]; exact h4
  · by_cases e : j = i
    · subst e
      rw [uI_s, hx, h5 j hj]
      have e1 : ¬ (j < j ∧ s.testBit j = true) := fun q => absurd q.1 (Nat.lt_irrefl _)
      rw [if_neg e1, Nat.add_zero]
      by_cases q : s.testBit j = true
      · rw [if_pos q, if_pos ⟨Nat.lt_succ_self _, q⟩]
        exact nI_add _ 1
      · rw [if_neg q, if_neg (fun r => q r.2)]
        exact nI_add _ 0
    · rw [uI_n _ _ _ _ e, h5 j hj]
      have e2 : (j < i + 1 ∧ s.testBit j = true) ↔ (j < i ∧ s.testBit j = true) := ⟨fun q => ⟨by omega, q.2⟩, fun q => ⟨by omega, q.2⟩⟩
      simp only [e2]
def lf0 (a i : Nat) (τ : St) : Prop := τ.1 63 30 = 0 ∧ τ.1 63 31 = -9 ∧ τ.1 63 32 = nI a ∧ τ.1 63 33 = 0 ∧ ∀ j, j < i → τ.1 84 j = 0
theorem lf0_0 {σ : St} {a : Nat} : lf0 a 0 (uI (uI (uI (uI σ 63 30 0) 63 31 (-9)) 63 32 (nI a)) 63 33 0) := by
  refine ⟨?_, ?_, ?_, ?_, fun j hj => absurd hj (Nat.not_lt_zero _)⟩
  · rw [uI_n _ _ _ _ (by decide), uI_n _ _ _ _ (by decide), uI_n _ _ _ _ (by decide), uI_s]
  · rw [uI_n _ _ _ _ (by decide), uI_n _ _ _ _ (by decide), uI_s]
  · rw [uI_n _ _ _ _ (by decide), uI_s]
  · rw [uI_s]
theorem lf0_s {a i : Nat} {τ : St} (h : lf0 a i τ) : lf0 a (i + 1) (uI τ 84 i 0) := by
  obtain ⟨h1, h2, h3, h4, h5⟩ := h
  refine ⟨?_, ?_, ?_, ?_, fun j hj => ?_⟩
  · rw [uI_o _ _ _ _ (by decide)]; exact h1
  · rw [uI_o _ _ _ _ (by decide)]; exact h2
  · rw [uI_o _ _ _ _ (by decide)]; exact h3
  · rw [uI_o _ _ _ _ (by decide)]; exact h4
  · by_cases e : j = i
    · subst e
      rw [uI_s]
    · rw [uI_n _ _ _ _ e]
      exact h5 j (by omega)
theorem lf0_n {P : Nat → Bool} {a n : Nat} {τ : St} (h : lf0 a n τ) : lfOk P a n 0 τ := h
theorem fiB_t {σ : St} {kd : Nat → Nat} {n a : Nat} {v : Int32} {s : Nat} (h : fiP σ kd n a v s) : fiB σ kd n a v s = true := decide_eq_true h
theorem fiB_f {σ : St} {kd : Nat → Nat} {n a : Nat} {v : Int32} {s : Nat} (h : ¬ fiP σ kd n a v s) : ¬ fiB σ kd n a v s = true := fun q => h (of_decide_eq_true q)
def lfR (σ : St) (kd : Nat → Nat) (n a : Nat) (v : Int32) : Nat × Int32 × Nat × Nat := lfS (fiB σ kd n a v) a (2 ^ n)
def mFits (σ τ : St) (kd : Nat → Nat) (n a : Nat) (v : Int32) : Int32 × St := if ¬ (0 ≤ v ∧ v ≤ 99) then (-1, τ) else if n = 0 then (-4, τ) else (1, uI (uL (uL τ 63 3 (lN (lfR σ kd n a v).1)) 63 4 (lN 1)) 63 2 (lfR σ kd n a v).2.1)
def mSure (σ τ : St) (kd : Nat → Nat) (n a : Nat) (v : Int32) : Int32 × St := if ¬ (0 ≤ v ∧ v ≤ 99) then (-1, τ) else if n = 0 then (-4, τ) else if (lfR σ kd n a v).1 = 0 then (-3, mRef τ 4) else (nI (lfR σ kd n a v).2.2.1, uI τ 63 2 (nI (a &&& (63 ^^^ (lfR σ kd n a v).2.2.2))))
def ptM (c w : Nat) : Nat := if c - w < w then w else c - w
def akF (c : Nat) (w : Nat → Nat) (a i : Nat) (z : Option Nat × Nat) : Option Nat × Nat := if a.testBit i = true ∧ ptM c (w i) < z.2 then (some i, ptM c (w i)) else z
def akS (σ : St) (kd : Nat → Nat) (n a : Nat) (v : Int32) (i : Nat) : Option Nat × Nat := itr (akF (lfR σ kd n a v).1 (lfC (fiB σ kd n a v) (2 ^ n)) a) (none, 1000000) i
def mAsk (σ τ : St) (kd : Nat → Nat) (n a : Nat) (v : Int32) : Int32 × St := if ¬ (0 ≤ v ∧ v ≤ 99) then (-1, τ) else if n = 0 then (-4, τ) else if (lfR σ kd n a v).1 = 0 then (-3, mRef τ 4) else (oI (akS σ kd n a v n).1, if oI (akS σ kd n a v n).1 = -9 then τ else uI τ 63 2 (nI (akS σ kd n a v n).2))
theorem akS_t {σ : St} {kd : Nat → Nat} {n a : Nat} {v : Int32} {i : Nat} (h : a.testBit i = true ∧ ptM (lfR σ kd n a v).1 (lfC (fiB σ kd n a v) (2 ^ n) i) < (akS σ kd n a v i).2) : akS σ kd n a v (i + 1) = (some i, ptM (lfR σ kd n a v).1 (lfC (fiB σ kd n a v) (2 ^ n) i)) := by
  show akF _ _ _ i (akS σ kd n a v i) = _
  unfold akF
  rw [if_pos h]
theorem akS_f {σ : St} {kd : Nat → Nat} {n a : Nat} {v : Int32} {i : Nat} (h : ¬ (a.testBit i = true ∧ ptM (lfR σ kd n a v).1 (lfC (fiB σ kd n a v) (2 ^ n) i) < (akS σ kd n a v i).2)) : akS σ kd n a v (i + 1) = akS σ kd n a v i := by
  show akF _ _ _ i (akS σ kd n a v i) = _
  unfold akF
  rw [if_neg h]
theorem akF_b {c : Nat} {w : Nat → Nat} {a : Nat} (hc : c ≤ 64) (hw : ∀ i, w i ≤ c) (i : Nat) : (itr (akF c w a) (none, 1000000) i).2 ≤ 1000000 := by
  refine itr_b (fun z : Option Nat × Nat => z.2 ≤ 1000000) (Nat.le_refl _) (fun i x hx => ?_) i
  unfold akF
  have := hw i
  split
  · show ptM _ _ ≤ _
    unfold ptM
    split <;> omega
  · exact hx
def goM (fee x : Int32) : Int32 := if x < 0 then -1 else if x = 0 then 0 else if fee = 0 ∨ ¬ x - x / fee * fee = 0 then -1 else x / fee
def gsM (σ : St) (kd : Nat → Nat) (n a : Nat) (v : Int32) (s : Nat) : Int32 := if s &&& (63 ^^^ a) = 0 then goM (σ.1 70 1) (v - sumI (hsM σ kd s) n) else -1
def smF (σ : St) (kd : Nat → Nat) (n a : Nat) (v : Int32) (s : Nat) (z : Int32 × Int32) : Int32 × Int32 := if 0 ≤ gsM σ kd n a v s ∧ (gsM σ kd n a v s + nI (pcN s) < z.1 ∨ (gsM σ kd n a v s + nI (pcN s) = z.1 ∧ z.2 < nI (pcN s))) then (gsM σ kd n a v s + nI (pcN s), nI (pcN s)) else z
def smS (σ : St) (kd : Nat → Nat) (n a : Nat) (v : Int32) (s : Nat) : Int32 × Int32 := itr (smF σ kd n a v) (1000000, 0) s
theorem smS_t {σ : St} {kd : Nat → Nat} {n a : Nat} {v : Int32} {s : Nat} (h : 0 ≤ gsM σ kd n a v s ∧ (gsM σ kd n a v s + nI (pcN s) < (smS σ kd n a v s).1 ∨ (gsM σ kd n a v s + nI (pcN s) = (smS σ kd n a v s).1 ∧ (smS σ kd n a v s).2 < nI (pcN s)))) : smS σ kd n a v (s + 1) = (gsM σ kd n a v s + nI (pcN s), nI (pcN s)) := by
  show smF σ kd n a v s (smS σ kd n a v s) = _
  unfold smF
  rw [if_pos h]
theorem smS_f {σ : St} {kd : Nat → Nat} {n a : Nat} {v : Int32} {s : Nat} (h : ¬ (0 ≤ gsM σ kd n a v s ∧ (gsM σ kd n a v s + nI (pcN s) < (smS σ kd n a v s).1 ∨ (gsM σ kd n a v s + nI (pcN s) = (smS σ kd n a v s).1 ∧ (smS σ kd n a v s).2 < nI (pcN s))))) : smS σ kd n a v (s + 1) = smS σ kd n a v s := by
  show smF σ kd n a v s (smS σ kd n a v s) = _
  unfold smF
  rw [if_neg h]
def mSum (σ : St) (kd : Nat → Nat) (n a : Nat) (v : Int32) : Int32 × St := if ¬ (0 ≤ v ∧ v ≤ 99) then (-1, σ) else if n = 0 then (-4, σ) else if (smS σ kd n a v (2 ^ n)).1 = 1000000 then (-9, σ) else ((smS σ kd n a v (2 ^ n)).1, uI σ 63 2 (smS σ kd n a v (2 ^ n)).2)
