-- lots: equal answers
theorem lotW_2 {σ : St} {L act a : Nat} (h : lotW σ L act a = 2) : σ.1 31 a < 2 := by
  unfold lotW at h
  split at h
  · exact absurd h (by decide)
  · split at h
    · rename_i k
      exact k.2.2
    · exact absurd h (by decide)
theorem lotW_1 {σ : St} {L act a : Nat} : ¬ lotW σ L act a = 1 := by
  unfold lotW
  split
  · decide
  · split
    · decide
    · decide
theorem lm_lo {σ τ : St} {L act a : Nat} (h : τ.1 76 (5 + a) = σ.1 31 a) : lmW τ L act a = lotW σ L act a := by
  unfold lmW lotW
  rw [h]
theorem sm_ms {kd : Nat → Nat} {n a L : Nat} {σ τ : St} {act : Nat} : smT kd n (lotW σ L act a) a L τ = mst kd n (lotW σ L act a) a L τ := by
  unfold lotW
  split
  · rfl
  · split <;> rfl
def lotR (σ τ : St) (n : Nat) (kd : Nat → Nat) (D i : Nat) (z y : Lo) : Prop := (∃ wN aN, RB (mixF z.1.1 y.1.1) n kd z.2.2 wN aN) ∧ z.2.2 = y.2.2 ∧ (∀ k, k ≠ 19 → k ≠ 31 → k ≠ 49 → k ≠ 50 → k ≠ 51 → z.1.1 k = σ.1 k) ∧ z.1.2 = σ.2 ∧ (∀ k, k ≠ 76 → k ≠ 78 → k ≠ 63 → y.1.1 k = τ.1 k) ∧ (∀ j, j ≠ 22 → y.1.1 63 j = τ.1 63 j) ∧ y.1.2 = τ.2
section
variable {σ τ : St} {n : Nat} {kd : Nat → Nat} {L D : Nat}
theorem lot_all (b : Br σ τ n kd L D) (hn : 0 < n) {s m : Nat} (hm : D + m ≤ 40) (h0 : ∃ wN aN, RB (mixF σ.1 τ.1) n kd D wN aN) : ∀ i, i ≤ m → lotR σ τ n kd D i (loS σ (gaN kd n) kd n L D s i) (lmS τ kd n L D s i)
  | 0, _ => ⟨h0, rfl, fun k _ _ _ _ _ => rfl, rfl, fun k _ _ _ => rfl, fun j _ => rfl, rfl⟩
  | i + 1, hi => by
    have ih := lot_all b hn (s := s) hm h0 i (by omega)
    obtain ⟨-, p2, p3, p4, p5, p6⟩ := loS_P b.bk b.L1 b.L3 b.D1 (s := s) i
    obtain ⟨-, m2, m3, m4, m5, m6⟩ := lm_P b.mk b.mL b.L3 b.mD (s := s) i
    have ez : loS σ (gaN kd n) kd n L D s (i + 1) = loF (gaN kd n) kd n s i (loS σ (gaN kd n) kd n L D s i) := rfl
    have ey : lmS τ kd n L D s (i + 1) = lmF kd n s i (lmS τ kd n L D s i) := rfl
    rw [ez, ey]
    generalize loS σ (gaN kd n) kd n L D s i = z at *
    generalize lmS τ kd n L D s i = y at *
    obtain ⟨⟨wN, aN, hB⟩, q2, q3, q4, q5, q6, q7⟩ := ih
    obtain ⟨r1, r2, r3, r4, r5, r6, ⟨d1, d2, d3, d4, d5, d6, d7, d8⟩, -, -, -⟩ := id hB
    have hg := d8 z.2.2 (Nat.le_refl _)
    rw [mx_t (by decide), mx_t (by decide)] at d5
    rw [mx_m (by decide)] at d6
    have h64 := p2_64 r1
    have eL : z.2.1 = (runF (mixF z.1.1 y.1.1) n kd wN aN z.2.2).L := (nI_eqI (by omega) (by have := hg.1; omega)).mp (p2.symm.trans d5.1)
    have eA : y.2.1 = (runF (mixF z.1.1 y.1.1) n kd wN aN z.2.2).L := (nI_eqI (by omega) (by have := hg.1; omega)).mp (m2.symm.trans d6.1)
    have eT : z.1.1 19 18 = y.1.1 76 4 := d5.2.2.2.2.1.trans d6.2.2.2.2.1.symm
    have ha : lotA s n i < n := Nat.mod_lt _ hn
    have eC : (rmM y.1 y.2.2).1 76 (5 + lotA s n i) = z.1.1 31 (lotA s n i) := by
      rw [rmM_k _ _ (by decide) (by decide)]
      exact (d6.2.2.2.2.2 _ ha).trans (d5.2.2.2.2.2 _ ha).symm
    unfold loF lmF
    by_cases c : z.1.1 19 18 = 0
    · rw [if_pos c, if_pos (eT ▸ c), lm_lo eC, eA, ← eL, sm_ms, ← q2]
      have hs := RB_sm hB (w := lotW z.1 z.2.1 (lotN s (i + 1) % 4) (lotA s n i)) (a := lotA s n i) (by omega) lotW_4 (fun _ => ha) lotW_2 (fun q => absurd q lotW_1)
      rw [← eL] at hs
      refine ⟨⟨_, _, hs⟩, rfl, fun k k1 k2 k3 k4 k5 => ?_, ?_, fun k k1 k2 k3 => ?_, fun j hj => ?_, ?_⟩
      · show (stS _ _ _ _ _ _ _).1 k = _
        rw [stS_k _ _ _ _ _ _ _ k1 k2, addS_k _ _ _ _ ⟨k3, k4, k5⟩]
        exact q3 k k1 k2 k3 k4 k5
      · exact (stS_2 _ _ _ _ _ _ _).trans q4
      · show (mst _ _ _ _ _ _).1 k = _
        rw [mst_k _ _ _ _ _ _ k1, rmM_k _ _ k2 k3]
        exact q5 k k1 k2 k3
      · show (mst _ _ _ _ _ _).1 63 j = _
        rw [mst_k _ _ _ _ _ _ (by decide), rmM_f _ _ hj]
        exact q6 j hj
      · exact (mst_2 _ _ _ _ _ _).trans ((rmM_2 _ _).trans q7)
    · rw [if_neg c, if_neg (fun r => c (eT.trans r))]
      exact ⟨⟨wN, aN, hB⟩, q2, q3, q4, q5, q6, q7⟩
theorem lo_cond {m seed : Int32} : (m < 1 ∨ 20 < m ∨ seed < 1 ∨ ¬ seed.toInt64 < 2147483647) ↔ ¬ ((1 ≤ m ∧ m ≤ 20) ∧ (1 ≤ seed ∧ seed ≤ 2147483646)) := by
  simp only [Int64.lt_iff_toInt_lt, Int32.toInt_toInt64, Int32.lt_iff_toInt_lt, Int32.le_iff_toInt_le]
  have h1 : (1 : Int32).toInt = 1 := rfl
  have h2 : (20 : Int32).toInt = 20 := rfl
  have h3 : (2147483646 : Int32).toInt = 2147483646 := rfl
  have h4 : (2147483647 : Int64).toInt = 2147483647 := rfl
  omega
theorem q_lots {m seed x : Int32} (ht : (x, τ) = tLots σ (gaN kd n) kd n L D m seed) (hs : ∀ i s k, 63 ≤ k → (loS σ (gaN kd n) kd n L D s i).1.1 k = σ.1 k ∧ (loS σ (gaN kd n) kd n L D s i).1.2 = σ.2) : TM σ τ := by
  rw [show τ = (tLots σ (gaN kd n) kd n L D m seed).2 from congrArg Prod.snd ht]
  unfold tLots
  split
  · exact TM.rf
  · split
    · exact TM.rf
    · split
      · exact TM.rf
      · exact ⟨fun k hk => (hs _ _ k hk).1, fun k hk => by rw [(hs _ _ k hk).2]⟩
theorem lo_tm {s : Nat} : ∀ i, (∀ k, 63 ≤ k → (loS σ (gaN kd n) kd n L D s i).1.1 k = σ.1 k) ∧ (loS σ (gaN kd n) kd n L D s i).1.2 = σ.2
  | 0 => ⟨fun _ _ => rfl, rfl⟩
  | i + 1 => by
    have ih := lo_tm (s := s) i
    have ez : loS σ (gaN kd n) kd n L D s (i + 1) = loF (gaN kd n) kd n s i (loS σ (gaN kd n) kd n L D s i) := rfl
    rw [ez]
    generalize loS σ (gaN kd n) kd n L D s i = z at *
    unfold loF
    split
    · refine ⟨fun k hk => ?_, (stS_2 _ _ _ _ _ _ _).trans ih.2⟩
      show (stS _ _ _ _ _ _ _).1 k = _
      rw [stS_k _ _ _ _ _ _ _ (by omega) (by omega), addS_k _ _ _ _ (by omega)]
      exact ih.1 k hk
    · exact ih
theorem q_lots2 {m seed x : Int32} (ht : (x, τ) = tLots σ (gaN kd n) kd n L D m seed) : TM σ τ := q_lots ht (fun i s k hk => ⟨(lo_tm i).1 k hk, (lo_tm i).2⟩)
end
theorem e_lots {σ τ ρ : St} {n : Nat} {kd : Nat → Nat} {D : Nat} {wN aN : Nat → Nat} (h : Rel σ) (hB : RB σ.1 n kd D wN aN) {m seed x y : Int32} (ht : (x, τ) = tLots σ (gaN kd n) kd n (runF σ.1 n kd wN aN D).L D m seed) (hm : (y, ρ) = mLots τ kd n (runF σ.1 n kd wN aN D).L D m seed) : x = y ∧ Rel ρ := by
  have t := q_lots2 ht
  have b := hB.br t
  unfold tLots at ht
  unfold mLots at hm
  by_cases c : ¬ ((1 ≤ m ∧ m ≤ 20) ∧ (1 ≤ seed ∧ seed ≤ 2147483646))
  · rw [if_pos (lo_cond.mpr c)] at ht
    rw [if_pos c] at hm
    exact fin0 h ht hm
  rw [if_neg (mt lo_cond.mp c)] at ht
  rw [if_neg c] at hm
  by_cases c1 : ovM τ n
  · rw [if_pos (fun q => b.op.mp q c1)] at ht
    rw [if_pos c1] at hm
    exact fin0 h ht hm
  rw [if_neg (fun q => q (b.op.mpr c1))] at ht
  rw [if_neg c1] at hm
  by_cases c2 : 40 < D + ix m
  · rw [if_pos c2] at ht hm
    exact fin0 h ht hm
  rw [if_neg c2] at ht hm
  obtain ⟨rfl, e1⟩ := Prod.mk.inj ht
  obtain ⟨rfl, e2⟩ := Prod.mk.inj hm
  obtain ⟨⟨wN', aN', q1⟩, q2, q3, q4, q5, q6, q7⟩ := lot_all b (by unfold ovM at c1; omega) (s := ix seed) (m := ix m) (by omega) ⟨wN, aN, RB_mx hB (fun k j _ hk => by rw [t.1 k hk])⟩ (ix m) (Nat.le_refl _)
  rw [← q2]
  refine ⟨rfl, ?_⟩
  rw [← e1] at q1 q3 q4
  rw [← e2] at q1 q5 q6 q7
  have hR := RB.keep (σ := (mixF τ.1 ρ.1, σ.2)) (τ := ρ) q1 (fun k j e => by
    show _ = mixF τ.1 ρ.1 k j
    by_cases k1 : k < 63
    · rw [mx_t k1, q5 k (by omega) (by omega) (by omega)]
    · rw [mx_m (by omega)])
  have hs : ∀ k, k ≠ 76 → k ≠ 78 → k ≠ 63 → k ≠ 19 → k ≠ 31 → k ≠ 49 → k ≠ 50 → k ≠ 51 → ρ.1 k = σ.1 k := fun k k1 k2 k3 k4 k5 k6 k7 k8 => by
    rw [q5 k k1 k2 k3, q3 k k4 k5 k6 k7 k8]
  have h63 : ∀ j, j ≠ 22 → ρ.1 63 j = σ.1 63 j := fun j hj => by
    rw [q6 j hj, q3 63 (by decide) (by decide) (by decide) (by decide) (by decide)]
  refine Rel_b h hR (fun k e => ?_) ?_ ?_ ?_ ?_ (q7.trans q4)
  · obtain ⟨x1, x2, x3, x4, x5, x6, x7, x8, x9⟩ := isX_n2 e
    exact hs k x3 x4 x2 x5 x6 x7 x8 x9
  · exact hs 62 (by decide) (by decide) (by decide) (by decide) (by decide) (by decide) (by decide) (by decide)
  · exact hs 64 (by decide) (by decide) (by decide) (by decide) (by decide) (by decide) (by decide) (by decide)
  · rw [hs 0 (by decide) (by decide) (by decide) (by decide) (by decide) (by decide) (by decide) (by decide), h63 0 (by decide)]
    exact h.fd.2.1
  · rw [hs 0 (by decide) (by decide) (by decide) (by decide) (by decide) (by decide) (by decide) (by decide), h63 2 (by decide)]
    exact h.fd.2.2.1
