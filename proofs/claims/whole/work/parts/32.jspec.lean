-- sums
theorem ex_step {P : Nat → Prop} {s : Nat} (h : ∀ t, t < s → ¬ P t) (hs : ¬ P s) : ∀ t, t < s + 1 → ¬ P t := by
  intro t ht
  rcases Nat.lt_or_ge t s with q | q
  · exact h t q
  · have e : t = s := by omega
    subst e
    exact hs
