-- Euclid within 200 steps
def eucI (s x y : Nat) : Prop := s ≤ 200 ∧ ((y ≤ x ∧ x * y < 2 ^ (200 - s)) ∨ (s = 0 ∧ x * y < 2 ^ 199))
theorem eucI_next {s x y : Nat} (h : eucI s x y) (hs : s < 200) (hy : 0 < y) : eucI (s + 1) y (x % y) := by
  obtain ⟨h0, h⟩ := h
  refine ⟨by omega, Or.inl ⟨Nat.le_of_lt (Nat.mod_lt x hy), ?_⟩⟩
  rcases h with ⟨h1, h2⟩ | ⟨h1, h2⟩
  · obtain ⟨t, ht⟩ : ∃ t, 200 - s = t + 1 := ⟨199 - s, by omega⟩
    rw [ht, Nat.pow_succ, Nat.mul_comm] at h2
    rw [show 200 - (s + 1) = t by omega]
    exact euc_pos hy h1 (by rw [Nat.mul_comm] at h2; omega)
  · subst h1
    rcases Nat.lt_or_ge x y with q | q
    · rw [Nat.mod_eq_of_lt q, Nat.mul_comm]
      exact h2
    · refine euc_pos hy q ?_
      omega
theorem eucI_end {s x y : Nat} (h : eucI s x y) (hs : ¬ s < 200) : y = 0 := by
  obtain ⟨h0, h⟩ := h
  rcases h with ⟨h1, h2⟩ | ⟨h1, h2⟩
  · have e : 200 - s = 0 := by omega
    rw [e] at h2
    have h3 : x * y = 0 := by omega
    rcases Nat.mul_eq_zero.mp h3 with q | q
    · omega
    · exact q
  · omega
theorem eucI_0 {x y : Nat} (hx : x < 4611686018427387904) (hy : y < 4611686018427387904) : eucI 0 x y := by
  refine ⟨by omega, Or.inr ⟨rfl, ?_⟩⟩
  have h1 : x * y ≤ 4611686018427387904 * 4611686018427387904 := Nat.mul_le_mul (Nat.le_of_lt hx) (Nat.le_of_lt hy)
  exact Nat.lt_of_le_of_lt h1 (by decide)
theorem lgle {x : Nat} (hx : x < 4611686018427387904) (h0 : 0 < x) : ¬ lg_cmp (lN x) 0 ≤ 0 := by
  intro h
  have h1 : (0 : Int64) < lN x := (pk_lLT (a := 0) (b := x) (by omega) (by omega)).mpr h0
  exact i_nlt.mpr h (lg_pos.mpr h1)
