-- test: equal answers
section
variable {σ τ : St} {n : Nat} {kd : Nat → Nat} {L D : Nat}
theorem Br.gk (b : Br σ τ n kd L D) {p K : Nat} (hp : p < n) (hK : K < 64) {f c : Nat} (hc : c < 3) (o : Int32) : gkN σ p K (nI f) (nI c) o = pqN (pcN K) (cntN (gqF τ p K (3 * f + c) o) 6) := by
  have e : cntN (gkF σ p K (nI f) (nI c) o) 6 = cntN (gqF τ p K (3 * f + c) o) 6 := cntN_c 6 (fun k _ => by
    unfold gkF gqF
    rw [(b.c hp).2.1, show (3 * f + c) / 3 = f by omega, show (3 * f + c) % 3 = c by omega])
  have h1 := gq_le (σ := τ) (i := p) (S := K) (c := 3 * f + c) (o := o) hK
  unfold gkN pqN
  rw [e, Nat.max_def]
  split <;> split <;> omega
theorem te_1 (b : Br σ τ n kd L D) {p K : Nat} (hp : p < n) (hK : K < 64) {f c : Nat} (hc : c < 3) {o : Int32} {x : Nat × Int32} {z : Nat × Nat} (h : (x.1 = 7 ∧ z.2 = 1000000) ∨ (x.1 = z.2 ∧ x.2 = nI z.1)) : (teF σ p K o f c x).1 = (tqF τ p K o (3 * f + c) z).2 ∧ (teF σ p K o f c x).2 = nI (tqF τ p K o (3 * f + c) z).1 := by
  have hg := gkN_b (σ := σ) (i := p) (fe := nI f) (cr := nI c) (o := o) hK
  unfold teF tqF
  rw [← b.gk hp hK hc o]
  rcases h with ⟨h1, h2⟩ | ⟨h1, h2⟩
  · rw [if_pos (by omega), if_pos (by omega)]
    refine ⟨rfl, ?_⟩
    show nI (10 * f + c) = nI (10 * ((3 * f + c) / 3) + (3 * f + c) % 3)
    rw [show (3 * f + c) / 3 = f by omega, show (3 * f + c) % 3 = c by omega]
  · by_cases k : gkN σ p K (nI f) (nI c) o < x.1
    · rw [if_pos k, if_pos (by omega)]
      refine ⟨rfl, ?_⟩
      show nI (10 * f + c) = nI (10 * ((3 * f + c) / 3) + (3 * f + c) % 3)
      rw [show (3 * f + c) / 3 = f by omega, show (3 * f + c) % 3 = c by omega]
    · rw [if_neg k, if_neg (by omega)]
      exact ⟨h1, h2⟩
theorem te_3 (b : Br σ τ n kd L D) {p K : Nat} (hp : p < n) (hK : K < 64) {o : Int32} : ∀ f, 0 < f → (itr (teG σ p K o) (7, -9) f).1 = (tqS τ p K o (3 * f)).2 ∧ (itr (teG σ p K o) (7, -9) f).2 = nI (tqS τ p K o (3 * f)).1
  | 0, h => absurd h (Nat.lt_irrefl _)
  | f + 1, _ => by
    have e0 : ∀ x, itr (teF σ p K o f) x 3 = teF σ p K o f 2 (teF σ p K o f 1 (teF σ p K o f 0 x)) := fun x => rfl
    have e1 : itr (teG σ p K o) (7, -9) (f + 1) = teF σ p K o f 2 (teF σ p K o f 1 (teF σ p K o f 0 (itr (teG σ p K o) (7, -9) f))) := by
      rw [← e0]
      rw [itr, teG]
    have e2 : tqS τ p K o (3 * (f + 1)) = tqF τ p K o (3 * f + 2) (tqF τ p K o (3 * f + 1) (tqF τ p K o (3 * f + 0) (tqS τ p K o (3 * f)))) := by
      unfold tqS
      rw [show 3 * (f + 1) = 3 * f + 1 + 1 + 1 by omega, itr, itr, itr, show 3 * f + 0 = 3 * f from rfl]
    have ih : ((itr (teG σ p K o) (7, -9) f).1 = 7 ∧ (tqS τ p K o (3 * f)).2 = 1000000) ∨ ((itr (teG σ p K o) (7, -9) f).1 = (tqS τ p K o (3 * f)).2 ∧ (itr (teG σ p K o) (7, -9) f).2 = nI (tqS τ p K o (3 * f)).1) := by
      by_cases h0 : 0 < f
      · exact Or.inr (te_3 b hp hK f h0)
      · have h1 : f = 0 := by omega
        subst h1
        exact Or.inl ⟨rfl, rfl⟩
    rw [e1, e2]
    exact te_1 b hp hK (by decide) (Or.inr (te_1 b hp hK (by decide) (Or.inr (te_1 b hp hK (by decide) ih))))
theorem e_test {ρ : St} {x y i r : Int32} (h : Rel σ) (b : Br σ τ n kd L D) (t : TM σ τ) (ht : trRes σ i r (fun _ => True) x τ (if kbN σ (gaN kd n) L (ix i) (ix r) (rdS σ (ix r)) = 0 then -9 else (teN σ (gaN kd n) L (ix i) (ix r) (rdS σ (ix r))).2) (if kbN σ (gaN kd n) L (ix i) (ix r) (rdS σ (ix r)) = 0 then σ else uI σ 0 12 (nI (teN σ (gaN kd n) L (ix i) (ix r) (rdS σ (ix r))).1)))
    (hm : trM1 τ n i r y ρ (if ksM τ kd n L (ix i) (ix r) (rdM τ (ix r) / 3) = 0 then -9 else nI (tqS τ (ix i) (ksM τ kd n L (ix i) (ix r) (rdM τ (ix r) / 3)) (nI (othN L (gaN kd n) (ix i))) 30).1) (if ksM τ kd n L (ix i) (ix r) (rdM τ (ix r) / 3) = 0 then τ else uI τ 63 2 (nI (tqS τ (ix i) (ksM τ kd n L (ix i) (ix r) (rdM τ (ix r) / 3)) (nI (othN L (gaN kd n) (ix i))) 30).2))) : x = y ∧ Rel ρ := by
  refine tr_fin h b t ht hm (fun j p ej hj ep hp hN hs e => ?_)
  rw [ej, ep, hN]
  have ek := b.ksk hp e
  unfold teN
  rw [ek]
  have hK : ksM τ kd n L p j (rdS σ j / 3) < 64 := mkN_64 _ (by decide)
  obtain ⟨t1, t2⟩ := te_3 b hp hK (o := nI (othN L (gaN kd n) p)) 10 (by decide)
  by_cases k : ksM τ kd n L p j (rdS σ j / 3) = 0
  · rw [if_pos k, if_pos k, if_pos k, if_pos k]
    exact ⟨rfl, fun e1 e2 => by rw [← e2, ← e1]; exact h⟩
  · rw [if_neg k, if_neg k, if_neg k, if_neg k]
    refine ⟨t2, fun e1 e2 => ?_⟩
    have t3 : (itr (teG σ p (ksM τ kd n L p j (rdS σ j / 3)) (nI (othN L (gaN kd n) p))) (7, -9) 10).1 = (tqS τ p (ksM τ kd n L p j (rdS σ j / 3)) (nI (othN L (gaN kd n) p)) 30).2 := t1
    rw [t3] at e1
    generalize tqS τ p (ksM τ kd n L p j (rdS σ j / 3)) (nI (othN L (gaN kd n) p)) 30 = z at e1 e2
    rw [← e2, ← e1]
    exact h.tell _
end
