-- when one spoke
theorem mkN_t {f : Nat → Bool} {i : Nat} (h : f i = true) : mkN f (i + 1) = mkN f i ||| 2 ^ i := by simp [mkN, h]
theorem mkN_f {f : Nat → Bool} {i : Nat} (h : ¬ f i = true) : mkN f (i + 1) = mkN f i := by simp [mkN, h]
def trRes (σ : St) (i r : Int32) (v : St → Prop) (x : Int32) (σ' : St) (z : Int32) (σz : St) : Prop := (¬ ((0 ≤ i ∧ i < σ.1 19 8) ∧ inR r 6) ∧ -1 = x ∧ σ = σ') ∨ (((0 ≤ i ∧ i < σ.1 19 8) ∧ inR r 6) ∧ ((σ.1 8 (ix r) < 0 ∧ -3 = x ∧ σ' = tRef σ 1) ∨ (0 ≤ σ.1 8 (ix r) ∧ ¬ rdS σ (ix r) % 3 = 0 ∧ -3 = x ∧ σ' = tRef σ 5) ∨ (0 ≤ σ.1 8 (ix r) ∧ rdS σ (ix r) % 3 = 0 ∧ allB (triB σ (2 + ix r)) (rdS σ (ix r) / 3) = true ∧ z = x ∧ σz = σ') ∨ (0 ≤ σ.1 8 (ix r) ∧ rdS σ (ix r) % 3 = 0 ∧ ¬ allB (triB σ (2 + ix r)) (rdS σ (ix r) / 3) = true ∧ -3 = x ∧ σ' = tRef σ 3)))
def teN (σ : St) (G : Nat) (L i a N : Nat) : Nat × Int32 := itr (teG σ i (kbN σ G L i a N) (nI (othN L G i))) (7, -9) 10
theorem kbN_64 {σ : St} {G L i a N : Nat} : kbN σ G L i a N < 64 := mkN_64 _ (Nat.le_refl _)
theorem le9 {f : Nat} : ¬ f ≤ 9 ↔ 10 ≤ f := by omega
