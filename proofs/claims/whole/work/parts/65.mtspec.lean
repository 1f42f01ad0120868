-- the model: when one spoke
def tgB (σ : St) (ro k : Nat) : Bool := decide (0 ≤ rwM σ ro k) && decide (rwM σ ro k ≤ if k % 3 = 0 then 9 else if k % 3 = 1 then 2 else 1)
def rdM (σ : St) (r : Nat) : Nat := ix (σ.1 65 r)
def trM1 (σ : St) (n : Nat) (i r : Int32) (x : Int32) (σ' : St) (z : Int32) (σz : St) : Prop := (¬ ((0 ≤ i ∧ i < nI n) ∧ inR r 6) ∧ -1 = x ∧ σ = σ') ∨ (((0 ≤ i ∧ i < nI n) ∧ inR r 6) ∧ ((σ.1 65 (ix r) < 0 ∧ -3 = x ∧ σ' = mRef σ 1) ∨ (0 ≤ σ.1 65 (ix r) ∧ ¬ rdM σ (ix r) % 3 = 0 ∧ -3 = x ∧ σ' = mRef σ 5) ∨ (0 ≤ σ.1 65 (ix r) ∧ rdM σ (ix r) % 3 = 0 ∧ allB (tgB σ (ix r)) (rdM σ (ix r)) = true ∧ z = x ∧ σz = σ') ∨ (0 ≤ σ.1 65 (ix r) ∧ rdM σ (ix r) % 3 = 0 ∧ ¬ allB (tgB σ (ix r)) (rdM σ (ix r)) = true ∧ -3 = x ∧ σ' = mRef σ 3)))
theorem tg_0 {σ : St} {ro k : Nat} (h : 0 ≤ rwM σ ro k ∧ rwM σ ro k ≤ 9) (e : k % 3 = 0) : tgB σ ro k = true := by
  unfold tgB
  rw [if_pos e, decide_eq_true h.1, decide_eq_true h.2, Bool.and_self]
theorem tg_1 {σ : St} {ro k : Nat} (h : 0 ≤ rwM σ ro k ∧ rwM σ ro k ≤ 2) (e : ¬ k % 3 = 0) (e1 : k % 3 = 1) : tgB σ ro k = true := by
  unfold tgB
  rw [if_neg e, if_pos e1, decide_eq_true h.1, decide_eq_true h.2, Bool.and_self]
theorem tg_2 {σ : St} {ro k : Nat} (h : 0 ≤ rwM σ ro k ∧ rwM σ ro k ≤ 1) (e : ¬ k % 3 = 0) (e1 : ¬ k % 3 = 1) : tgB σ ro k = true := by
  unfold tgB
  rw [if_neg e, if_neg e1, decide_eq_true h.1, decide_eq_true h.2, Bool.and_self]
theorem tg_n0 {σ : St} {ro k : Nat} (h : ¬ (0 ≤ rwM σ ro k ∧ rwM σ ro k ≤ 9)) (e : k % 3 = 0) : ¬ tgB σ ro k = true := by
  unfold tgB
  rw [if_pos e, Bool.and_eq_true, decide_eq_true_eq, decide_eq_true_eq]
  exact h
theorem tg_n1 {σ : St} {ro k : Nat} (h : ¬ (0 ≤ rwM σ ro k ∧ rwM σ ro k ≤ 2)) (e : ¬ k % 3 = 0) (e1 : k % 3 = 1) : ¬ tgB σ ro k = true := by
  unfold tgB
  rw [if_neg e, if_pos e1, Bool.and_eq_true, decide_eq_true_eq, decide_eq_true_eq]
  exact h
theorem tg_n2 {σ : St} {ro k : Nat} (h : ¬ (0 ≤ rwM σ ro k ∧ rwM σ ro k ≤ 1)) (e : ¬ k % 3 = 0) (e1 : ¬ k % 3 = 1) : ¬ tgB σ ro k = true := by
  unfold tgB
  rw [if_neg e, if_neg e1, Bool.and_eq_true, decide_eq_true_eq, decide_eq_true_eq]
  exact h
def stB (σ : St) (ro kN : Nat) (b o : Int32) (t : Nat) : Bool := talkB kN b (rwM σ ro (3 * t)) (rwM σ ro (3 * t + 1)) o == decide (rwM σ ro (3 * t + 2) = 1)
def ksM (σ : St) (kd : Nat → Nat) (n a i ro T : Nat) : Nat := mkN (fun k => allB (stB σ ro k (σ.1 73 i) (nI (othN a (gaN kd n) i))) T) 6
def blM (σ : St) (kd : Nat → Nat) (n a i ro T : Nat) : Nat := mkN (fun b => allB (stB σ ro (kd i) (nI b) (nI (othN a (gaN kd n) i))) T) 10
theorem ksM_64 {σ : St} {kd : Nat → Nat} {n a i ro T : Nat} : ksM σ kd n a i ro T < 64 := mkN_64 _ (Nat.le_refl _)
def gqF (σ : St) (i S c : Nat) (o : Int32) (k : Nat) : Bool := S.testBit k && talkB k (σ.1 73 i) (nI (c / 3)) (nI (c % 3)) o
theorem gq_le {σ : St} {i S c : Nat} {o : Int32} (h : S < 64) : cntN (gqF σ i S c o) 6 ≤ pcN S := by
  rw [pc_cnt S h]
  exact cnt_and_le 6
def pqN (b s : Nat) : Nat := if b < 2 * s then s else b - s
def tqF (σ : St) (i S : Nat) (o : Int32) (c : Nat) (z : Nat × Nat) : Nat × Nat := if pqN (pcN S) (cntN (gqF σ i S c o) 6) < z.2 then (10 * (c / 3) + c % 3, pqN (pcN S) (cntN (gqF σ i S c o) 6)) else z
def tqS (σ : St) (i S : Nat) (o : Int32) (m : Nat) : Nat × Nat := itr (tqF σ i S o) (0, 1000000) m
theorem tq_t {σ : St} {i S : Nat} {o : Int32} {c : Nat} (h : pqN (pcN S) (cntN (gqF σ i S c o) 6) < (tqS σ i S o c).2) : tqS σ i S o (c + 1) = (10 * (c / 3) + c % 3, pqN (pcN S) (cntN (gqF σ i S c o) 6)) := by
  show tqF σ i S o c (tqS σ i S o c) = _
  unfold tqF
  rw [if_pos h]
theorem tq_f {σ : St} {i S : Nat} {o : Int32} {c : Nat} (h : ¬ pqN (pcN S) (cntN (gqF σ i S c o) 6) < (tqS σ i S o c).2) : tqS σ i S o (c + 1) = tqS σ i S o c := by
  show tqF σ i S o c (tqS σ i S o c) = _
  unfold tqF
  rw [if_neg h]
theorem tq_b {σ : St} {i S : Nat} {o : Int32} : ∀ m, m ≤ 30 → (tqS σ i S o m).1 ≤ 1000 ∧ (tqS σ i S o m).2 ≤ 1000000
  | 0, _ => ⟨Nat.zero_le _, Nat.le_refl _⟩
  | m + 1, h => by
    have ih := tq_b (σ := σ) (i := i) (S := S) (o := o) m (by omega)
    by_cases q : pqN (pcN S) (cntN (gqF σ i S m o) 6) < (tqS σ i S o m).2
    · rw [tq_t q]
      exact ⟨by show 10 * (m / 3) + m % 3 ≤ 1000; omega, by show pqN _ _ ≤ _; omega⟩
    · rw [tq_f q]
      exact ih
