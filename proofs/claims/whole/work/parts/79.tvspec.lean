-- the class: a whole book
theorem rdT_e {f : Nat → Int32} {N i q : Nat} (hR : tgo f N (6 - i) i q = rdF f N) (hi : i ≤ 6) (h : 6 ≤ i ∨ N ≤ q) : rdF f N = (if q < N ∨ i = 0 then nI q else -9, i) := by
  rw [← hR]
  rcases h with h | h
  · have e : i = 6 := by omega
    subst e
    rfl
  · rw [tgo_e (by omega)]
    by_cases e : i = 0
    · rw [if_pos e, if_pos (Or.inr e)]
    · rw [if_neg e, if_neg (fun r => r.elim (by omega) e)]
theorem cpF_a0 (σ : St) (k : Nat) (f : Nat → Int32) {j m : Nat} (h : j < m) : (cpF σ k 0 f m).1 k j = f j := by
  have e := cpF_at σ k 0 f (j := j) m h
  rw [Nat.zero_add] at e
  exact e
def gnT (kd : Nat → Nat) (n : Nat) : Nat := mkN (fun k => ofB (kd k) 3) n
def ldA (σ τ : St) (kd : Nat → Nat) (i : Nat) : Prop := (∀ j, j < i → τ.1 27 j = nI (kd j) ∧ τ.1 28 j = σ.1 18 (3 * j) ∧ τ.1 29 j = σ.1 18 (3 * j + 1) ∧ τ.1 30 j = σ.1 18 (3 * j + 2)) ∧ τ.1 19 13 = nI (gnT kd i)
def ldB (σ τ : St) (n : Nat) : Prop := τ.1 19 8 = nI n ∧ τ.1 19 9 = σ.1 17 0 ∧ τ.1 19 10 = σ.1 17 1 ∧ τ.1 19 11 = σ.1 17 2 ∧ τ.1 19 12 = σ.1 17 3 ∧ (∀ k j, k ≠ 19 → ¬ (27 ≤ k ∧ k ≤ 30) → τ.1 k j = σ.1 k j) ∧ τ.2 = σ.2
theorem ldB_u {σ τ : St} {n k j : Nat} {v : Int32} (h : ldB σ τ n) (hk : 27 ≤ k ∧ k ≤ 30) : ldB σ (uI τ k j v) n := by
  obtain ⟨h1, h2, h3, h4, h5, h6, h7⟩ := h
  have hB : 19 ≠ k := by omega
  refine ⟨?_, ?_, ?_, ?_, ?_, fun k' j' a b => ?_, h7⟩
  · rw [uI_o _ _ _ _ hB]; exact h1
  · rw [uI_o _ _ _ _ hB]; exact h2
  · rw [uI_o _ _ _ _ hB]; exact h3
  · rw [uI_o _ _ _ _ hB]; exact h4
  · rw [uI_o _ _ _ _ hB]; exact h5
  · rw [uI_o _ _ _ _ (fun q => b (by omega))]
    exact h6 k' j' a b
theorem ldB_g {σ τ : St} {n : Nat} {v : Int32} (h : ldB σ τ n) : ldB σ (uI τ 19 13 v) n := by
  obtain ⟨h1, h2, h3, h4, h5, h6, h7⟩ := h
  refine ⟨?_, ?_, ?_, ?_, ?_, fun k' j' a b => ?_, h7⟩
  · rw [uI_n _ _ _ _ (by decide)]; exact h1
  · rw [uI_n _ _ _ _ (by decide)]; exact h2
  · rw [uI_n _ _ _ _ (by decide)]; exact h3
  · rw [uI_n _ _ _ _ (by decide)]; exact h4
  · rw [uI_n _ _ _ _ (by decide)]; exact h5
  · rw [uI_o _ _ _ _ a]
    exact h6 k' j' a b
def ld4 (σ τ : St) (kd : Nat → Nat) (i : Nat) : St := uI (uI (uI (uI τ 27 i (nI (kd i))) 28 i (σ.1 18 (3 * i))) 29 i (σ.1 18 (3 * i + 1))) 30 i (σ.1 18 (3 * i + 2))
theorem ld4_B {σ τ : St} {n : Nat} {kd : Nat → Nat} {i : Nat} (h : ldB σ τ n) : ldB σ (ld4 σ τ kd i) n := ldB_u (ldB_u (ldB_u (ldB_u h (by decide)) (by decide)) (by decide)) (by decide)
theorem ld4_j {σ τ : St} {kd : Nat → Nat} {i : Nat} (h : ldA σ τ kd i) : ∀ j, j < i + 1 → (ld4 σ τ kd i).1 27 j = nI (kd j) ∧ (ld4 σ τ kd i).1 28 j = σ.1 18 (3 * j) ∧ (ld4 σ τ kd i).1 29 j = σ.1 18 (3 * j + 1) ∧ (ld4 σ τ kd i).1 30 j = σ.1 18 (3 * j + 2) := fun j hj => by
  unfold ld4
  by_cases e : j = i
  · subst e
    refine ⟨?_, ?_, ?_, ?_⟩
    · rw [uI_o _ _ _ _ (by decide), uI_o _ _ _ _ (by decide), uI_o _ _ _ _ (by decide), uI_s]
    · rw [uI_o _ _ _ _ (by decide), uI_o _ _ _ _ (by decide), uI_s]
    · rw [uI_o _ _ _ _ (by decide), uI_s]
    · rw [uI_s]
  · obtain ⟨h1, h2, h3, h4⟩ := h.1 j (by omega)
    refine ⟨?_, ?_, ?_, ?_⟩
    · rw [uI_o _ _ _ _ (by decide), uI_o _ _ _ _ (by decide), uI_o _ _ _ _ (by decide), uI_n _ _ _ _ e]; exact h1
    · rw [uI_o _ _ _ _ (by decide), uI_o _ _ _ _ (by decide), uI_n _ _ _ _ e, uI_o _ _ _ _ (by decide)]; exact h2
    · rw [uI_o _ _ _ _ (by decide), uI_n _ _ _ _ e, uI_o _ _ _ _ (by decide), uI_o _ _ _ _ (by decide)]; exact h3
    · rw [uI_n _ _ _ _ e, uI_o _ _ _ _ (by decide), uI_o _ _ _ _ (by decide), uI_o _ _ _ _ (by decide)]; exact h4
theorem ld4_g {σ τ : St} {kd : Nat → Nat} {i : Nat} (h : ldA σ τ kd i) : (ld4 σ τ kd i).1 19 13 = nI (gnT kd i) := by
  unfold ld4
  rw [uI_o _ _ _ _ (by decide), uI_o _ _ _ _ (by decide), uI_o _ _ _ _ (by decide), uI_o _ _ _ _ (by decide)]
  exact h.2
theorem ldA_f {σ τ : St} {kd : Nat → Nat} {i : Nat} (h : ldA σ τ kd i) (hk : ¬ ofB (kd i) 3 = true) : ldA σ (ld4 σ τ kd i) kd (i + 1) := ⟨ld4_j h, by rw [ld4_g h, gnT, gnT, mkN_f (f := fun k => ofB (kd k) 3) hk]⟩
theorem ldA_t {σ τ : St} {kd : Nat → Nat} {i : Nat} (h : ldA σ τ kd i) (hk : ofB (kd i) 3 = true) : ldA σ (uI (ld4 σ τ kd i) 19 13 (nI (gnT kd i ||| 2 ^ i))) kd (i + 1) := ⟨fun j hj => by
  obtain ⟨h1, h2, h3, h4⟩ := ld4_j h j hj
  refine ⟨?_, ?_, ?_, ?_⟩
  · rw [uI_o _ _ _ _ (by decide)]; exact h1
  · rw [uI_o _ _ _ _ (by decide)]; exact h2
  · rw [uI_o _ _ _ _ (by decide)]; exact h3
  · rw [uI_o _ _ _ _ (by decide)]; exact h4, by rw [uI_s, gnT, gnT, mkN_t (f := fun k => ofB (kd k) 3) hk]⟩
theorem gnT_64 {kd : Nat → Nat} {n : Nat} (h : n ≤ 6) : gnT kd n < 64 := mkN_64 _ h
def kkS (s : St) : Nat → St
  | 0 => s
  | i + 1 => uI (kkS s i) (53 + 3 * i) 2 (-1)
