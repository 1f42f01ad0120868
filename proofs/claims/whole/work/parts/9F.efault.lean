-- fault: equal answers
theorem bt_bm {σ τ : St} (h : Rel σ) (t : TM σ τ) {j : Nat} (hj : j < 4) : szN τ j = ix (σ.1 14 j) ∧ bMf τ j (ix (σ.1 14 j)) = bTf σ j (ix (σ.1 14 j)) := by
  obtain ⟨a1, a2, a3, a4⟩ := h.tx hj
  refine ⟨?_, funext fun p => ?_⟩
  · unfold szN
    rw [t.1 68 (by decide), a1]
  · unfold bMf bTf
    by_cases c : p < ix (σ.1 14 j)
    · rw [if_pos c, if_pos c, t.1 69 (by decide), a4 p c]
    · rw [if_neg c, if_neg c]
theorem q_fault {σ τ κ : St} {v x : Int32} (hk : frT σ κ) (ht : (x, τ) = tFault σ κ v) : TM σ τ := by
  rw [show τ = (tFault σ κ v).2 from congrArg Prod.snd ht]
  unfold tFault
  split
  · exact hk.tm
  · split
    · exact hk.tm.r
    · exact hk.tm
theorem e_fault {σ τ κ ω ρ : St} {v x y : Int32} (h : Rel σ) (hk : frT σ κ) (ht : (x, τ) = tFault σ κ v) (hf : fr τ ω) (hm : (y, ρ) = mFault τ ω v) : x = y ∧ Rel ρ := by
  have t := q_fault hk ht
  unfold tFault at ht
  unfold mFault at hm
  by_cases c : inR v 4
  · obtain ⟨j, hj, ej, -⟩ := inR_nat (N := 4) c rfl (by decide)
    obtain ⟨a1, -, -, -⟩ := h.tx hj
    obtain ⟨s1, s2⟩ := bt_bm h t hj
    rw [if_neg (fun q => q c), ej] at ht hm
    rw [t.1 68 (by decide), ← a1, s1, s2] at hm
    by_cases c2 : σ.1 14 j < 0
    · rw [if_pos c2] at ht hm
      exact finFR 1 (h.frT hk) ht hf hm
    · rw [if_neg c2] at ht hm
      exact finF (h.frT hk) ht hf hm
  · rw [if_pos c] at ht hm
    exact finF (h.frT hk) ht hf hm
