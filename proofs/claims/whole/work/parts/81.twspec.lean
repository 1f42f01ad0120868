-- the class: the book is laid into the band
def kdF (f : Nat → Int32) (N i : Nat) : Nat := ix (kbF (f (QQ f N i)))
theorem kdF_eq {f : Nat → Int32} {N i : Nat} (h : ¬ kbF (f (QQ f N i)) = -9) : kbF (f (QQ f N i)) = nI (kdF f N i) ∧ kdF f N i < 6 := by
  obtain ⟨k, hk, e⟩ := (kb_or (f (QQ f N i))).resolve_left h
  unfold kdF
  rw [e, ix_nI (by omega)]
  exact ⟨rfl, hk⟩
theorem ld_0 {σ : St} {n : Nat} {kd : Nat → Nat} : ldB σ (uI (uI (uI (uI (uI (uI σ 19 8 (nI n)) 19 9 (σ.1 17 0)) 19 10 (σ.1 17 1)) 19 11 (σ.1 17 2)) 19 12 (σ.1 17 3)) 19 13 0) n ∧ ldA σ (uI (uI (uI (uI (uI (uI σ 19 8 (nI n)) 19 9 (σ.1 17 0)) 19 10 (σ.1 17 1)) 19 11 (σ.1 17 2)) 19 12 (σ.1 17 3)) 19 13 0) kd 0 := by
  refine ⟨⟨?_, ?_, ?_, ?_, ?_, fun k j a b => ?_, rfl⟩, fun j hj => absurd hj (Nat.not_lt_zero _), ?_⟩
  · rw [uI_n _ _ _ _ (by decide), uI_n _ _ _ _ (by decide), uI_n _ _ _ _ (by decide), uI_n _ _ _ _ (by decide), uI_n _ _ _ _ (by decide), uI_s]
  · rw [uI_n _ _ _ _ (by decide), uI_n _ _ _ _ (by decide), uI_n _ _ _ _ (by decide), uI_n _ _ _ _ (by decide), uI_s]
  · rw [uI_n _ _ _ _ (by decide), uI_n _ _ _ _ (by decide), uI_n _ _ _ _ (by decide), uI_s]
  · rw [uI_n _ _ _ _ (by decide), uI_n _ _ _ _ (by decide), uI_s]
  · rw [uI_n _ _ _ _ (by decide), uI_s]
  · rw [uI_o _ _ _ _ a, uI_o _ _ _ _ a, uI_o _ _ _ _ a, uI_o _ _ _ _ a, uI_o _ _ _ _ a, uI_o _ _ _ _ a]
  · rw [uI_s]
    rfl
