-- copy, fits, sure: equal answers
theorem uAo (σ : St) (k : Nat) (g : Nat → Int32) {k' : Nat} (h : k' ≠ k) : (uA σ k g).1 k' = σ.1 k' := by simp only [uA, if_neg h]
theorem uAs (σ : St) (k : Nat) (g : Nat → Int32) : (uA σ k g).1 k = g := by simp only [uA, if_true]
theorem cp_iff {i n s : Int32} (hn : 0 ≤ n) (h0 : 0 ≤ s) (h1 : s ≤ 40) : (0 ≤ i ∧ i ≤ s ∧ n ≤ s - i) ↔ ¬ (i < 0 ∨ 0 < lg_cmp (i.toInt64 + n.toInt64) s.toInt64) := by
  by_cases hi : i < 0
  · refine ⟨fun q => absurd q.1 (i_lt_le.mpr hi), fun q => absurd (Or.inl hi) q⟩
  · obtain ⟨b, hb, rfl⟩ := nI_of hi
    obtain ⟨N, hN, rfl⟩ := nI_of (i_nlt.mpr hn)
    obtain ⟨S, hS, -, rfl⟩ := nat_of (M := 40) h0 h1 rfl (by decide)
    rw [lg_pos, nI_l hb, nI_l hN, nI_l (by omega), lN_add, pk_lLT (by omega) (by omega)]
    have e0 : 0 ≤ nI b := nI_nn (by omega)
    by_cases hbS : b ≤ S
    · rw [pk_sub hbS, nI_leI (by omega) (by omega), nI_leI (by omega) (by omega)]
      refine ⟨fun q => ?_, fun q => ⟨e0, hbS, ?_⟩⟩
      · rintro (k | k)
        · exact hi k
        · have := q.2.2
          omega
      · have : ¬ S < b + N := fun r => q (Or.inr r)
        omega
    · refine ⟨fun q => absurd ((nI_leI (by omega) (by omega)).mp q.2.1) hbS, fun q => absurd (Or.inr (by omega)) q⟩
theorem cp_nat {i n s : Int32} (hn : 0 ≤ n) (h0 : 0 ≤ s) (h1 : s ≤ 40) (A : 0 ≤ i ∧ i ≤ s ∧ n ≤ s - i) : ix i + ix n ≤ ix s := by
  obtain ⟨S, hS, eS, rfl⟩ := nat_of (M := 40) h0 h1 rfl (by decide)
  obtain ⟨k1, k2, k3⟩ := A
  obtain ⟨b, hb, eb, rfl⟩ := nat_of (M := S) k1 k2 rfl (by omega)
  rw [pk_sub hb] at k3
  obtain ⟨N, hN, eN, rfl⟩ := nat_of (M := S - b) hn k3 rfl (by omega)
  omega
theorem q_copy {σ τ : St} {r i to j n x : Int32} (ht : (x, τ) = tCopy σ r i to j n) : TM σ τ := by
  rw [show τ = (tCopy σ r i to j n).2 from congrArg Prod.snd ht]
  unfold tCopy
  by_cases c : ¬ inR r 6 ∨ ¬ inR to 6
  · rw [if_pos c]
    exact TM.rf
  · rw [if_neg c]
    obtain ⟨q, hq, eq, -⟩ := inR_nat (N := 6) (Classical.not_not.mp (fun k => c (Or.inr k))) rfl (by decide)
    rw [eq]
    split
    · exact TM.rf.r
    · split
      · exact TM.rf.r
      · split
        · exact TM.rf.r
        · exact TM.rf.a (by omega)
theorem e_copy {σ τ ρ : St} (h : Rel σ) {r i to j n x y : Int32} (ht : (x, τ) = tCopy σ r i to j n) (hm : (y, ρ) = mCopy τ r i to j n) : x = y ∧ Rel ρ := by
  have t := q_copy ht
  unfold tCopy at ht
  unfold mCopy at hm
  rw [t.1 65 (by decide)] at hm
  by_cases c : ¬ inR r 6 ∨ ¬ inR to 6
  · rw [if_pos c] at ht hm
    exact fin0 h ht hm
  rw [if_neg c] at ht hm
  by_cases c1 : n < 0
  · rw [if_pos c1] at ht hm
    exact finR 5 h ht hm
  rw [if_neg c1] at ht hm
  obtain ⟨jr, hjr, ejr, -⟩ := inR_nat (N := 6) (Classical.not_not.mp (fun k => c (Or.inl k))) rfl (by decide)
  obtain ⟨jt, hjt, ejt, -⟩ := inR_nat (N := 6) (Classical.not_not.mp (fun k => c (Or.inr k))) rfl (by decide)
  obtain ⟨a1, a2, a3, a4⟩ := h.rw hjr
  obtain ⟨b1, b2, b3, b4⟩ := h.rw hjt
  rw [ejr, ejt] at ht hm
  rw [← a1, ← b1] at hm
  by_cases c2 : σ.1 8 jr < 0 ∨ σ.1 8 jt < 0
  · rw [if_pos c2] at ht hm
    exact finR 1 h ht hm
  rw [if_neg c2] at ht hm
  have n0 := i_nlt.mp c1
  have r0 := i_nlt.mp (fun k => c2 (Or.inl k))
  have t0 := i_nlt.mp (fun k => c2 (Or.inr k))
  by_cases c3 : ¬ (0 ≤ i ∧ i ≤ σ.1 8 jr ∧ n ≤ σ.1 8 jr - i) ∨ ¬ (0 ≤ j ∧ j ≤ σ.1 8 jt ∧ n ≤ σ.1 8 jt - j)
  · rw [if_pos c3] at ht
    rw [if_pos (Classical.byContradiction (fun q => c3.elim (fun k => k ((cp_iff n0 r0 a3).mpr (fun z => q (z.elim Or.inl (fun w => Or.inr (Or.inr (Or.inl w))))))) (fun k => k ((cp_iff n0 t0 b3).mpr (fun z => q (z.elim (fun w => Or.inr (Or.inl w)) (fun w => Or.inr (Or.inr (Or.inr w)))))))))] at hm
    exact finR 2 h ht hm
  rw [if_neg c3] at ht
  have A := Classical.not_not.mp (fun k => c3 (Or.inl k))
  have B := Classical.not_not.mp (fun k => c3 (Or.inr k))
  have A1 := (cp_iff n0 r0 a3).mp A
  have B1 := (cp_iff n0 t0 b3).mp B
  have A2 := cp_nat n0 r0 a3 A
  have B2 := cp_nat n0 t0 b3 B
  have ha := ixN (N := 40) (by omega) a3
  have hb := ixN (N := 40) (by omega) b3
  rw [if_neg (fun q => q.elim (fun w => A1 (Or.inl w)) (fun q => q.elim (fun w => B1 (Or.inl w)) (fun q => q.elim (fun w => A1 (Or.inr w)) (fun w => B1 (Or.inr w)))))] at hm
  obtain ⟨rfl, rfl⟩ := Prod.mk.inj ht
  obtain ⟨rfl, rfl⟩ := Prod.mk.inj hm
  refine ⟨rfl, Rel_row h hjt (((kp.rf.a (fun _ => isB_r hjt)).c (fun _ => rfl) _).c (fun _ => rfl) _) ?_ ?_ ?_ ?_ ?_ (fun k k1 k2 k3 k4 k5 => ?_) (fun r' hr' => ?_) (fun r' hr' => ?_) (fun r' i' hr' hi' => ?_) ?_⟩
  · rw [cpF_other _ _ _ _ (by decide), cpF_other _ _ _ _ (by decide), uAo _ _ _ (by omega)]
  · rw [cpF_other _ _ _ _ (by decide), cpF_other _ _ _ _ (by decide), uAo _ _ _ (by omega)]
  · rw [cpF_other _ _ _ _ (by decide), cpF_other _ _ _ _ (by decide), cpF_other _ _ _ _ (by decide), cpF_other _ _ _ _ (by decide), uAo _ _ _ (by omega), uAo _ _ _ (by omega)]
    exact h.fd.2.1
  · rw [cpF_other _ _ _ _ (by decide), cpF_other _ _ _ _ (by decide), cpF_other _ _ _ _ (by decide), cpF_other _ _ _ _ (by decide), uAo _ _ _ (by omega), uAo _ _ _ (by omega)]
    exact h.fd.2.2.1
  · rw [cpF_2, cpF_2]
    rfl
  · have k6 : k ≠ 67 := fun e => by
      subst e
      exact absurd k2 (by decide)
    rw [cpF_other _ _ _ _ k5, cpF_other _ _ _ _ k6, uAo _ _ _ k1]
  · rw [cpF_other _ _ _ _ (by decide), cpF_other _ _ _ _ (by decide), uAo _ _ _ (by omega)]
  · rw [cpF_other _ _ _ _ (by decide), cpF_other _ _ _ _ (by decide), uAo _ _ _ (by omega)]
  · rw [cpF_out _ _ _ _ _ (by omega), cpF_other _ _ _ _ (by decide), uAo _ _ _ (by omega)]
  · have e8 : ∀ X : St, ∀ f g : Nat → Int32, ∀ m, ∀ o, (cpF (cpF (uA X (2 + jt) (va_cpy (σ.1 (2 + jr)) (σ.1 (2 + jt)) (ix i) (ix j) (ix n))) 67 0 f m) 66 o g m).1 8 = X.1 8 := fun X f g m o => by
      rw [cpF_other _ _ _ _ (by decide), cpF_other _ _ _ _ (by decide), uAo _ _ _ (by omega)]
    have e65 : ∀ X : St, ∀ f g : Nat → Int32, ∀ m, ∀ o, (cpF (cpF (uA X (2 + jt) (va_cpy (σ.1 (2 + jr)) (σ.1 (2 + jt)) (ix i) (ix j) (ix n))) 67 0 f m) 66 o g m).1 65 = X.1 65 := fun X f g m o => by
      rw [cpF_other _ _ _ _ (by decide), cpF_other _ _ _ _ (by decide), uAo _ _ _ (by omega)]
    unfold rwR
    rw [e8, e65]
    refine ⟨b1, b2, b3, fun i' hi' => ?_⟩
    rw [cpF_other _ _ _ _ (by omega), cpF_other _ _ _ _ (by omega), uAs]
    unfold va_cpy
    by_cases k : ix j ≤ i' ∧ i' < ix j + ix n
    · rw [if_pos k, show 40 * jt + i' = 40 * jt + ix j + (i' - ix j) by omega, cpF_at _ _ _ _ _ (by omega), cpF_a0 _ _ _ (by omega), uAo _ _ _ (by omega)]
      exact a4 _ (by omega)
    · rw [if_neg k, cpF_out _ _ _ _ _ (by omega), cpF_other _ _ _ _ (by decide), uAo _ _ _ (by omega)]
      exact b4 _ hi'
section
variable {σ τ : St} {n : Nat} {kd : Nat → Nat} {L D : Nat}
theorem Br.wl (b : Br σ τ n kd L D) {s : Nat} (h : s < 2 ^ n) : totF ((wgd σ (gaN kd n) kd n L).1 32) s 6 = sumI (stM τ kd n L s) n := by
  rw [tot_n (g := fun i => ltF kd (τ.1 72) (gaN kd n) L i) h b.n6 (fun i hi => by
    unfold wgd
    rw [wgS_32 n hi]
    unfold ltF
    rw [(b.c hi).1])]
  rfl
theorem Br.sc (b : Br σ τ n kd L D) {v : Int32} {s : Nat} (h : s < 2 ^ n) : such (wgd σ (gaN kd n) kd n L) L v s ↔ fiB τ kd n L v s = true := by
  unfold such fiB
  rw [b.wl h]
  exact (decide_eq_true_iff).symm
theorem Br.fit (b : Br σ τ n kd L D) (v : Int32) : itr (fitF (wgd σ (gaN kd n) kd n L) L v) (0, -9) 64 = ((lfR τ kd n L v).1, (lfR τ kd n L v).2.1) := by
  rw [b.cut64 (fun s hs hc a => by unfold fitF; rw [if_neg (fun r => hc r.1)])]
  have e := itr_R (f := fitF (wgd σ (gaN kd n) kd n L) L v) (g := lfF (fiB τ kd n L v)) (a := (0, -9)) (b := (0, -9, L, 0)) (fun (a : Nat × Int32) (z : Nat × Int32 × Nat × Nat) => a = (z.1, z.2.1)) rfl (2 ^ n) (fun i hi a z hr => by
    subst hr
    unfold fitF lfF
    by_cases c : fiB τ kd n L v i = true
    · rw [if_pos c, if_pos ((b.sc hi).mpr c)]
    · rw [if_neg c, if_neg (fun r => c ((b.sc hi).mp r))])
  exact e
theorem Br.su (b : Br σ τ n kd L D) (v : Int32) : itr (sureF (wgd σ (gaN kd n) kd n L) L v) (L, 0) 64 = ((lfR τ kd n L v).2.2.1, (lfR τ kd n L v).2.2.2) := by
  rw [b.cut64 (fun s hs hc a => by unfold sureF; rw [if_neg (fun r => hc r.1)])]
  have e := itr_R (f := sureF (wgd σ (gaN kd n) kd n L) L v) (g := lfF (fiB τ kd n L v)) (a := (L, 0)) (b := (0, -9, L, 0)) (fun (a : Nat × Nat) (z : Nat × Int32 × Nat × Nat) => a = (z.2.2.1, z.2.2.2)) rfl (2 ^ n) (fun i hi a z hr => by
    subst hr
    unfold sureF lfF
    by_cases c : fiB τ kd n L v i = true
    · rw [if_pos c, if_pos ((b.sc hi).mpr c)]
    · rw [if_neg c, if_neg (fun r => c ((b.sc hi).mp r))])
  exact e
theorem lf_z {P : Nat → Bool} {a : Nat} : ∀ m, (lfS P a m).1 = 0 ↔ ∀ s, s < m → ¬ P s = true
  | 0 => ⟨fun _ s hs => absurd hs (Nat.not_lt_zero _), fun _ => rfl⟩
  | m + 1 => by
    have ih := lf_z (P := P) (a := a) m
    by_cases q : P m = true
    · rw [lfS_t q]
      refine ⟨fun r => ?_, fun r => absurd q (r m (by omega))⟩
      have r' : (lfS P a m).1 + 1 = 0 := r
      omega
    · rw [lfS_f q, ih]
      refine ⟨fun r s hs => ?_, fun r s hs => r s (by omega)⟩
      by_cases e : s = m
      · rw [e]
        exact q
      · exact r s (by omega)
theorem Br.ex (b : Br σ τ n kd L D) (v : Int32) : exS (wgd σ (gaN kd n) kd n L) L v ↔ ¬ (lfR τ kd n L v).1 = 0 := by
  unfold lfR
  rw [lf_z]
  constructor
  · rintro ⟨s, h1, h2⟩ q
    have h3 : s < 2 ^ n := by
      by_cases k : s < 2 ^ n
      · exact k
      · exact absurd h2.1 (b.cut h1 (by omega))
    exact q s h3 ((b.sc h3).mp h2)
  · intro q
    refine Classical.byContradiction (fun r => q (fun s hs p => r ⟨s, Nat.lt_of_lt_of_le hs (p2_64 b.n6), (b.sc hs).mpr p⟩))
theorem e_fits {ρ ω : St} (h : Rel σ) (b : Br σ τ n kd L D) {v x y : Int32} (ht : (x, τ) = tFits σ (gaN kd n) kd n L v) (hf : fr τ ω) (hm : (y, ρ) = mFits τ ω kd n L v) : x = y ∧ Rel ρ := by
  unfold tFits at ht
  unfold mFits at hm
  rw [b.fit] at ht
  by_cases c : ¬ (0 ≤ v ∧ v ≤ 99)
  · rw [if_pos c] at ht hm
    obtain ⟨rfl, e1⟩ := Prod.mk.inj ht
    obtain ⟨rfl, e2⟩ := Prod.mk.inj hm
    rw [e1] at hf
    rw [e2]
    exact ⟨rfl, h.fr hf⟩
  rw [if_neg c] at ht hm
  by_cases q : n = 0
  · rw [if_pos (b.n0.mpr q)] at ht
    rw [if_pos q] at hm
    obtain ⟨rfl, e1⟩ := Prod.mk.inj ht
    obtain ⟨rfl, e2⟩ := Prod.mk.inj hm
    rw [e1] at hf
    rw [e2]
    exact ⟨rfl, h.fr hf⟩
  rw [if_neg (fun r => q (b.n0.mp r))] at ht
  rw [if_neg q] at hm
  obtain ⟨rfl, e1⟩ := Prod.mk.inj ht
  obtain ⟨rfl, e2⟩ := Prod.mk.inj hm
  rw [e2]
  refine ⟨rfl, ?_⟩
  have hW : Rel (wgd σ (gaN kd n) kd n L) := h.frT (wgS_fr n)
  have hZ := (hW.num (lN (lfR τ kd n L v).1) (lN 1)).tell (lfR τ kd n L v).2.1
  have hZ2 : Rel (uI (uL (uL τ 63 3 (lN (lfR τ kd n L v).1)) 63 4 (lN 1)) 63 2 (lfR τ kd n L v).2.1) := by
    generalize lfR τ kd n L v = z at *
    rw [e1]
    exact hZ
  exact hZ2.fr (fr_uI (fr_uL (fr_uL hf _ _ _) _ _ _) _ _ _)
end
