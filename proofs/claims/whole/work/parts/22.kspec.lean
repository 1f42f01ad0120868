-- the model's band
def cntN (f : Nat → Bool) : Nat → Nat
  | 0 => 0
  | i + 1 => cntN f i + (if f i = true then 1 else 0)
def isG (k : Nat) : Bool := k == 3 || k == 5
def othF (kd : Nat → Nat) (a i k : Nat) : Bool := decide (k ≠ i) && (isG (kd k) && a.testBit k)
def gaN (kd : Nat → Nat) (n : Nat) : Nat := mkN (fun k => isG (kd k)) n
theorem mkN_bit (f : Nat → Bool) (k : Nat) : ∀ n, (mkN f n).testBit k = (decide (k < n) && f k)
  | 0 => by simp [mkN]
  | n + 1 => by
    have ih := mkN_bit f k n
    simp only [mkN]
    by_cases h : f n = true
    · rw [if_pos h, Nat.testBit_or, ih, Nat.testBit_two_pow]
      by_cases hk : n = k
      · subst hk
        simp [h]
      · have e : decide (k < n + 1) = decide (k < n) := decide_eq_decide.mpr (by omega)
        rw [e]
        simp [hk]
    · rw [if_neg h, ih]
      by_cases hk : k = n
      · subst hk
        simp [h]
      · have e : decide (k < n + 1) = decide (k < n) := decide_eq_decide.mpr (by omega)
        rw [e]
theorem pc_cnt : ∀ x, x < 64 → pcN x = cntN (fun k => x.testBit k) 6 := by decide +kernel
theorem cntN_c {f g : Nat → Bool} : ∀ n, (∀ k, k < n → f k = g k) → cntN f n = cntN g n
  | 0, _ => rfl
  | n + 1, h => by
    simp only [cntN]
    rw [cntN_c n (fun k hk => h k (by omega)), h n (by omega)]
theorem cntN_ext (f : Nat → Bool) {n : Nat} : ∀ m, n ≤ m → cntN (fun k => decide (k < n) && f k) m = cntN f n := by
  intro m hm
  induction m with
  | zero =>
    have : n = 0 := by omega
    subst this
    rfl
  | succ m ih =>
    by_cases h : n = m + 1
    · subst h
      exact cntN_c _ (fun k hk => by simp [hk])
    · simp only [cntN]
      rw [ih (by omega)]
      have : ¬ m < n := by omega
      simp [this]
theorem x63 : ∀ i, i < 6 → ∀ k, k < 6 → (63 ^^^ 2 ^ i).testBit k = decide (k ≠ i) := by decide +kernel
theorem oth_eq {kd : Nat → Nat} {n a i : Nat} (hn : n ≤ 6) (ha : a < 64) (hi : i < 6) : cntN (othF kd a i) n = othN a (gaN kd n) i := by
  unfold othN
  rw [pc_cnt _ (and_lt (and_lt ha)), ← cntN_ext (othF kd a i) 6 hn]
  apply cntN_c
  intro k hk
  rw [Nat.testBit_and, Nat.testBit_and, x63 i hi k hk, gaN, mkN_bit]
  unfold othF
  cases decide (k < n) <;> cases decide (k ≠ i) <;> cases isG (kd k) <;> cases a.testBit k <;> rfl
theorem gaN_64 {kd : Nat → Nat} {n : Nat} (h : n ≤ 6) : gaN kd n < 64 := mkN_64 _ h
def mkOk (σ : St) (n : Nat) (kd : Nat → Nat) : Prop := σ.1 63 10 = nI n ∧ n ≤ 6 ∧ (∀ i, i < n → σ.1 71 i = nI (kd i)) ∧ ∀ i, i < n → kd i < 6
theorem mkOk_of {σ σ' : St} {n : Nat} {kd : Nat → Nat} (h : mkOk σ n kd) (h1 : σ'.1 63 10 = σ.1 63 10) (h3 : σ'.1 71 = σ.1 71) : mkOk σ' n kd := by
  unfold mkOk at *
  rw [h1, h3]
  exact h
def ofOk (k : Nat) : Prop := k = 76 ∨ k = 77
theorem ofOk.gam {k : Nat} (h : ofOk k) : Gam[k]? = some (.inl (.int, 11)) := by rcases h with rfl | rfl <;> rfl
theorem ofOk.ne {k : Nat} (h : ofOk k) : 63 ≠ k ∧ 71 ≠ k ∧ 72 ≠ k ∧ 73 ≠ k ∧ 70 ≠ k ∧ k ≠ 63 ∧ k ≠ 71 ∧ k ≠ 72 ∧ k ≠ 73 ∧ k ≠ 70 := by rcases h with rfl | rfl <;> decide
def priceM (k : Nat) (b c : Int32) : Int32 := if k = 2 then (b + c) / 2 else if k = 5 then (if 0 < b + c then b + c - 1 else 0) else b + c
def tkM (σ : St) (kO : Nat) (kd : Nat → Nat) (n a : Nat) : Nat → Bool := tkF kd (σ.1 73) (fun j => σ.1 kO (5 + j)) (σ.1 70 2) (gaN kd n) a
def trM (σ : St) (kO : Nat) (kd : Nat → Nat) (n a : Nat) : Prop := σ.1 70 3 ≤ nI (pcN (mkN (tkM σ kO kd n a) n))
def paM (σ : St) (kO : Nat) (kd : Nat → Nat) (n a : Nat) : St := uI (uI (uI σ kO 3 (σ.1 kO 3 + 1)) kO 4 (if σ.1 70 3 ≤ nI (pcN (mkN (tkM σ kO kd n a) n)) then 1 else 0)) kO 2 (σ.1 kO 2 + if σ.1 70 3 ≤ nI (pcN (mkN (tkM σ kO kd n a) n)) then 0 else sumI (ltA kd (σ.1 72) (gaN kd n) a) n)
def guM (σ : St) (kO : Nat) (kd : Nat → Nat) (a i : Nat) : St := uI (uI σ kO 1 (σ.1 kO 1 + priceM (kd i) (σ.1 70 0) (σ.1 kO (5 + i)))) kO 0 (nI (a &&& (63 ^^^ 2 ^ i)))
