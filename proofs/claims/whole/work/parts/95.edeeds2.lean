-- cross, give: equal answers
section
variable {σ τ : St} {n : Nat} {kd : Nat → Nat} {D : Nat} {wN aN : Nat → Nat}
theorem e_cross {ρ : St} (h : Rel σ) (hB : RB σ.1 n kd D wN aN) (t : TM σ τ) {i x y : Int32} (ht : (x, τ) = tCross σ (runF σ.1 n kd wN aN D).L D i) (hm : (y, ρ) = mCross τ n (runF σ.1 n kd wN aN D).L D i) : x = y ∧ Rel ρ := by
  have b := hB.br t
  have hD := b.D2
  have hn := b.n6
  unfold tCross at ht
  unfold mCross at hm
  rw [b.n8] at ht
  by_cases c0 : ¬ (0 ≤ i ∧ i < nI n)
  · rw [if_pos c0] at ht hm
    exact fin0 h ht hm
  rw [if_neg c0] at ht hm
  obtain ⟨j, hj, ej, ei⟩ := inR_nat (N := n) (Classical.not_not.mp c0) rfl (by omega)
  rw [ej] at ht hm
  have eo : ¬ σ.1 19 18 = 0 ↔ ovM τ n := by
    have e := b.op
    have e0 : 0 < σ.1 19 8 := by
      rw [b.n8, ← nI_0]
      exact (nI_ltI (by omega) (by omega)).mpr (by omega)
    exact ⟨fun q => Classical.byContradiction (fun r => q (e.mpr r).2), fun q r => e.mp ⟨e0, r⟩ q⟩
  by_cases c : ¬ σ.1 19 18 = 0 ∨ ¬ ((runF σ.1 n kd wN aN D).L.testBit j = true ∧ σ.1 31 j < 2)
  · rw [if_pos c] at ht
    rw [if_pos (c.imp eo.mp (fun r s => r (by rw [(b.c hj).2.2]; exact s)))] at hm
    exact fin0 h ht hm
  rw [if_neg c] at ht
  rw [if_neg (fun q => c (q.imp eo.mpr (fun r s => r (by rw [← (b.c hj).2.2]; exact s))))] at hm
  by_cases c2 : D = 40
  · rw [if_pos (by omega)] at ht
    rw [if_pos c2] at hm
    exact fin0 h ht hm
  rw [if_neg (by omega)] at ht
  rw [if_neg c2] at hm
  obtain ⟨rfl, e1⟩ := Prod.mk.inj ht
  obtain ⟨rfl, e2⟩ := Prod.mk.inj hm
  obtain ⟨⟨L', b'⟩, hr⟩ := deed (τ := τ) (ρ := ρ) (w := 2) (a := j) h hB (by omega) (by decide) (fun _ => hj) (fun _ => (Classical.not_not.mp (fun q => c (Or.inr q))).2) (fun q => absurd q (by decide)) (T := enC (addS σ D 2 i) j) (by rw [ei]; rfl) (fun k hk => by rw [e1]) (by rw [e1]; rfl) (by rw [e1]; rfl) (M := crM (rmM τ D) j) rfl (fun k hk => by rw [e2]) (fun j hj => by rw [e2]) (by rw [e2]; exact cpF_2 _ _ _ _ _)
  have eK : ρ.1 31 = (enC (addS σ D 2 i) j).1 31 := by
    rw [e2, crM, uI_o _ _ _ _ (by decide), rmM_k _ _ (by decide) (by decide), e1]
  rw [← eK, ← e2]
  refine ⟨(b'.c hj).2.2, hr ?_⟩
  rw [e2, crM, uI_o _ _ _ _ (by decide), uI_o _ _ _ _ (by decide), rmM_k _ _ (by decide) (by decide), rmM_f _ _ (by decide), e1]
  exact h.fd.2.2.1
theorem e_give {ρ : St} (h : Rel σ) (hB : RB σ.1 n kd D wN aN) (t : TM σ τ) {i x y : Int32} (ht : (x, τ) = tGive σ kd (runF σ.1 n kd wN aN D).L D i) (hm : (y, ρ) = mGive τ kd n (runF σ.1 n kd wN aN D).L D i) : x = y ∧ Rel ρ := by
  have b := hB.br t
  have hD := b.D2
  have hn := b.n6
  unfold tGive at ht
  unfold mGive at hm
  rw [b.n8] at ht
  by_cases c0 : ¬ (0 ≤ i ∧ i < nI n)
  · rw [if_pos c0] at ht hm
    exact fin0 h ht hm
  rw [if_neg c0] at ht hm
  obtain ⟨j, hj, ej, ei⟩ := inR_nat (N := n) (Classical.not_not.mp c0) rfl (by omega)
  rw [ej] at ht hm
  have eo : ¬ σ.1 19 18 = 0 ↔ ovM τ n := by
    have e := b.op
    have e0 : 0 < σ.1 19 8 := by
      rw [b.n8, ← nI_0]
      exact (nI_ltI (by omega) (by omega)).mpr (by omega)
    exact ⟨fun q => Classical.byContradiction (fun r => q (e.mpr r).2), fun q r => e.mp ⟨e0, r⟩ q⟩
  by_cases c : ¬ σ.1 19 18 = 0 ∨ ¬ (runF σ.1 n kd wN aN D).L.testBit j = true
  · rw [if_pos c] at ht
    rw [if_pos (c.imp eo.mp id)] at hm
    exact fin0 h ht hm
  rw [if_neg c] at ht
  rw [if_neg (fun q => c (q.imp eo.mpr id))] at hm
  by_cases c2 : D = 40
  · rw [if_pos (by omega)] at ht
    rw [if_pos c2] at hm
    exact fin0 h ht hm
  rw [if_neg (by omega)] at ht
  rw [if_neg c2] at hm
  obtain ⟨rfl, e1⟩ := Prod.mk.inj ht
  obtain ⟨rfl, e2⟩ := Prod.mk.inj hm
  obtain ⟨⟨L', b'⟩, hr⟩ := deed (τ := τ) (ρ := ρ) (w := 3) (a := j) h hB (by omega) (by decide) (fun _ => hj) (fun q => absurd q (by decide)) (fun q => absurd q (by decide)) (T := enH (addS σ D 3 i) kd j (runF σ.1 n kd wN aN D).L) (by rw [ei]; rfl) (fun k hk => by rw [e1]) (by rw [e1]; rfl) (by rw [e1]; rfl) (M := guM (rmM τ D) 76 kd (runF σ.1 n kd wN aN D).L j) rfl (fun k hk => by rw [e2]) (fun j hj => by rw [e2]) (by rw [e2]; exact cpF_2 _ _ _ _ _)
  have eK : ρ.1 19 = (enH (addS σ D 3 i) kd j (runF σ.1 n kd wN aN D).L).1 19 := by
    rw [e2, guM, uI_o _ _ _ _ (by decide), uI_o _ _ _ _ (by decide), rmM_k _ _ (by decide) (by decide), e1]
  rw [← eK, ← e2]
  refine ⟨b'.z.1, hr ?_⟩
  rw [e2, guM, uI_o _ _ _ _ (by decide), uI_o _ _ _ _ (by decide), uI_o _ _ _ _ (by decide), uI_o _ _ _ _ (by decide), rmM_k _ _ (by decide) (by decide), rmM_f _ _ (by decide), e1]
  exact h.fd.2.2.1
end
