-- bold, kinds: equal answers
theorem all_iff {f : Nat → Bool} : ∀ m, allB f m = true ↔ ∀ t, t < m → f t = true
  | 0 => ⟨fun _ t ht => absurd ht (Nat.not_lt_zero _), fun _ => rfl⟩
  | m + 1 => by
    have ih := all_iff (f := f) m
    simp only [allB, Bool.and_eq_true]
    rw [ih]
    refine ⟨fun q t ht => ?_, fun q => ⟨fun t ht => q t (by omega), q m (by omega)⟩⟩
    by_cases e : t = m
    · rw [e]
      exact q.2
    · exact q.1 t (by omega)
theorem all_c {f g : Nat → Bool} : ∀ m, (∀ t, t < m → f t = g t) → allB f m = allB g m
  | 0, _ => rfl
  | m + 1, h => by
    simp only [allB]
    rw [all_c m (fun t ht => h t (by omega)), h m (by omega)]
theorem tg_t {τ : St} {j k : Nat} : tgB τ j k = true ↔ (0 ≤ rwM τ j k ∧ rwM τ j k ≤ if k % 3 = 0 then 9 else if k % 3 = 1 then 2 else 1) := by
  simp only [tgB, Bool.and_eq_true, decide_eq_true_eq]
theorem tri_tg {σ τ : St} {j N : Nat} (hN : N % 3 = 0) (e : ∀ k, k < N → σ.1 (2 + j) k = rwM τ j k) : allB (triB σ (2 + j)) (N / 3) = true ↔ allB (tgB τ j) N = true := by
  rw [all_iff, all_iff]
  constructor
  · intro q k hk
    obtain ⟨q1, q2, q3, q4, q5, q6⟩ := triB_t.mp (q (k / 3) (by omega))
    rw [tg_t, ← e k hk]
    have hr : k % 3 = 0 ∨ k % 3 = 1 ∨ k % 3 = 2 := by omega
    rcases hr with r | r | r
    · rw [show 3 * (k / 3) = k by omega] at q1 q2
      rw [if_pos r]
      exact ⟨q1, q2⟩
    · rw [show 3 * (k / 3) + 1 = k by omega] at q3 q4
      rw [if_neg (by omega), if_pos r]
      exact ⟨q3, q4⟩
    · rw [show 3 * (k / 3) + 2 = k by omega] at q5 q6
      rw [if_neg (by omega), if_neg (by omega)]
      exact ⟨q5, q6⟩
  · intro q t ht
    have h0 := tg_t.mp (q (3 * t) (by omega))
    have h1 := tg_t.mp (q (3 * t + 1) (by omega))
    have h2 := tg_t.mp (q (3 * t + 2) (by omega))
    rw [if_pos (by omega), ← e _ (by omega)] at h0
    rw [if_neg (by omega), if_pos (by omega), ← e _ (by omega)] at h1
    rw [if_neg (by omega), if_neg (by omega), ← e _ (by omega)] at h2
    exact triB_t.mpr ⟨h0.1, h0.2, h1.1, h1.2, h2.1, h2.2⟩
theorem sp_st {σ τ : St} {j kN t N : Nat} {x o : Int32} (e : ∀ k, k < N → σ.1 (2 + j) k = rwM τ j k) (ht : t < N / 3) : spB σ (2 + j) kN x o t = stB τ j kN x o t := by
  unfold spB stB
  rw [e _ (by omega), e _ (by omega), e _ (by omega)]
section
variable {σ τ : St} {n : Nat} {kd : Nat → Nat} {L D : Nat}
theorem tr_fin {ρ σz τz : St} {x y z z' i r : Int32} (h : Rel σ) (b : Br σ τ n kd L D) (t : TM σ τ) (ht : trRes σ i r (fun _ => True) x τ z σz) (hm : trM1 τ n i r y ρ z' τz)
    (hz : ∀ j p, ix r = j → j < 6 → ix i = p → p < n → rdM τ j = rdS σ j → rdS σ j ≤ 40 → (∀ k, k < rdS σ j → σ.1 (2 + j) k = rwM τ j k) → z = z' ∧ (σz = τ → τz = ρ → Rel ρ)) : x = y ∧ Rel ρ := by
  unfold trRes at ht
  unfold trM1 at hm
  rw [b.n8] at ht
  have hn := b.n6
  by_cases c : (0 ≤ i ∧ i < nI n) ∧ inR r 6
  · obtain ⟨p, hp, ep, -⟩ := inR_nat (N := n) c.1 rfl (by omega)
    obtain ⟨j, hj, ej, -⟩ := inR_nat (N := 6) c.2 rfl (by decide)
    obtain ⟨a1, a2, a3, a4⟩ := h.rw hj
    have e65 : τ.1 65 j = σ.1 8 j := by rw [t.1 65 (by decide), a1]
    have hN : rdM τ j = rdS σ j := by
      unfold rdM rdS
      rw [e65]
    have e66 : ∀ k, k < rdS σ j → σ.1 (2 + j) k = rwM τ j k := fun k hk => by
      rw [a4 k hk]
      show _ = τ.1 66 (40 * j + k)
      rw [t.1 66 (by decide)]
    have ht := (ht.resolve_left (fun q => q.1 c)).2
    have hm := (hm.resolve_left (fun q => q.1 c)).2
    rw [ej] at ht hm
    rw [e65, hN] at hm
    rcases ht with T | T | T | T
    · rcases hm with m | m | m | m
      · exact finR 1 h (by rw [← T.2.1, ← T.2.2]) (by rw [← m.2.1, ← m.2.2])
      · exact absurd T.1 (i_nlt.mpr m.1)
      · exact absurd T.1 (i_nlt.mpr m.1)
      · exact absurd T.1 (i_nlt.mpr m.1)
    · rcases hm with m | m | m | m
      · exact absurd m.1 (i_nlt.mpr T.1)
      · exact finR 5 h (by rw [← T.2.2.1, ← T.2.2.2]) (by rw [← m.2.2.1, ← m.2.2.2])
      · exact absurd m.2.1 T.2.1
      · exact absurd m.2.1 T.2.1
    · rcases hm with m | m | m | m
      · exact absurd m.1 (i_nlt.mpr T.1)
      · exact absurd T.2.1 m.2.1
      · obtain ⟨z1, z2⟩ := hz j p ej hj ep hp hN (ixN (N := 40) (by omega) a3) e66
        rw [← T.2.2.2.1, ← m.2.2.2.1]
        exact ⟨z1, z2 T.2.2.2.2 m.2.2.2.2⟩
      · exact absurd ((tri_tg T.2.1 e66).mp T.2.2.1) m.2.2.1
    · rcases hm with m | m | m | m
      · exact absurd m.1 (i_nlt.mpr T.1)
      · exact absurd T.2.1 m.2.1
      · exact absurd ((tri_tg T.2.1 e66).mpr m.2.2.1) T.2.2.1
      · exact finR 3 h (by rw [← T.2.2.2.1, ← T.2.2.2.2]) (by rw [← m.2.2.2.1, ← m.2.2.2.2])
  · rcases ht with ⟨-, e1, e2⟩ | ⟨q, -⟩
    · rcases hm with ⟨-, e3, e4⟩ | ⟨q, -⟩
      · exact fin0 h (by rw [← e1, e2]) (by rw [← e3, e4])
      · exact absurd q c
    · exact absurd q c
theorem e_bold {ρ : St} {x y i r : Int32} (h : Rel σ) (b : Br σ τ n kd L D) (t : TM σ τ) (ht : trRes σ i r (fun _ => True) x τ (nI (boN σ (gaN kd n) kd L (ix i) (ix r) (rdS σ (ix r)))) σ) (hm : trM1 τ n i r y ρ (nI (blM τ kd n L (ix i) (ix r) (rdM τ (ix r) / 3))) τ) : x = y ∧ Rel ρ := by
  refine tr_fin h b t ht hm (fun j p ej hj ep hp hN hs e => ⟨?_, fun e1 e2 => by rw [← e2, ← e1]; exact h⟩)
  rw [ej, ep, hN]
  unfold boN blM
  rw [mkN_c 10 (fun k _ => all_c _ (fun t ht => sp_st e ht))]
theorem Br.ksk (b : Br σ τ n kd L D) {j p N : Nat} (hp : p < n) (e : ∀ k, k < N → σ.1 (2 + j) k = rwM τ j k) : kbN σ (gaN kd n) L p j N = ksM τ kd n L p j (N / 3) := by
  unfold kbN ksM
  rw [← (b.c hp).2.1]
  exact mkN_c 6 (fun k _ => all_c _ (fun t ht => sp_st e ht))
theorem e_kinds {ρ : St} {x y i r : Int32} (h : Rel σ) (b : Br σ τ n kd L D) (t : TM σ τ) (ht : trRes σ i r (fun _ => True) x τ (nI (kbN σ (gaN kd n) L (ix i) (ix r) (rdS σ (ix r)))) σ) (hm : trM1 τ n i r y ρ (nI (ksM τ kd n L (ix i) (ix r) (rdM τ (ix r) / 3))) τ) : x = y ∧ Rel ρ := by
  refine tr_fin h b t ht hm (fun j p ej hj ep hp hN hs e => ⟨?_, fun e1 e2 => by rw [← e2, ← e1]; exact h⟩)
  rw [ej, ep, hN, b.ksk hp e]
end
