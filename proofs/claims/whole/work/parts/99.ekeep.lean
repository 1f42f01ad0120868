-- keep: equal answers
def isC (k j : Nat) : Bool := k == 19 || (Nat.ble 27 k && Nat.ble k 31) || (Nat.ble 49 k && Nat.ble k 51) || (k == 63 && (j == 10 || j == 22)) || (Nat.ble 70 k && Nat.ble k 73) || k == 76 || k == 78
def RC (F : Nat → Nat → Int32) (n : Nat) (kd : Nat → Nat) (D : Nat) (wN aN : Nat → Nat) : Prop := n ≤ 6 ∧ F 19 8 = nI n ∧ F 63 10 = nI n ∧ F 19 13 = nI (gaN kd n) ∧ RBi F n kd ∧ RBh F n ∧ RBd F n kd D wN aN
theorem RC_m {F : Nat → Nat → Int32} {n : Nat} {kd : Nat → Nat} {D : Nat} {wN aN : Nat → Nat} : RC (mask isC F) n kd D wN aN = RC F n kd D wN aN := rfl
theorem RC.keep {F G : Nat → Nat → Int32} {n : Nat} {kd : Nat → Nat} {D : Nat} {wN aN : Nat → Nat} (h : RC F n kd D wN aN) (hk : ∀ k j, isC k j = true → G k j = F k j) : RC G n kd D wN aN := by
  rw [← RC_m] at h ⊢
  rw [mask_eq hk]
  exact h
theorem KP_w {F G : Nat → Nat → Int32} {n : Nat} {kd : Nat → Nat} {p k : Nat} (hn : n ≤ 6) (h : KP F n kd p k) (e2 : G p 2 = F p 2) (e3 : G (p + 1) = F (p + 1)) (e4 : G (p + 2) = F (p + 2)) (e5 : G 79 k = F 79 k) (e6 : G 80 k = F 80 k) (e7 : ∀ i, i < 11 → G 81 (11 * k + i) = F 81 (11 * k + i)) (e8 : ∀ i, i < 440 → G 82 (440 * k + i) = F 82 (440 * k + i)) (er : ∀ wN aN d, runF G n kd wN aN d = runF F n kd wN aN d) : KP G n kd p k := by
  rcases h with ⟨q1, q2⟩ | ⟨D, wN, aN, q1, q2, q3, q4, q5, q6, q7, q8⟩
  · exact Or.inl ⟨e2.trans q1, e5.trans q2⟩
  · refine Or.inr ⟨D, wN, aN, q1, e2.trans q2, fun r => q3 (e5.symm.trans r), e6.trans q4, ?_, ?_, fun d hd => ?_, fun d hd => ?_⟩
    · rw [e3, e4]
      exact q5
    · rw [er]
      exact gOk_c hn q6 (fun i hi => e7 i hi)
    · rw [er]
      exact gOk_c hn (q7 d hd) (fun i hi => e8 _ (by omega))
    · rw [er]
      exact q8 d hd
theorem isC_ne {k j : Nat} (h : isC k j = true) : k ≠ 79 ∧ k ≠ 80 ∧ k ≠ 81 ∧ k ≠ 82 ∧ (k < 53 ∨ 61 < k) := by
  unfold isC at h
  simp only [Bool.or_eq_true, Bool.and_eq_true, beq_iff_eq, Nat.ble_eq] at h
  omega
theorem isX_n3 {k : Nat} (h : isX k = true) : k ≠ 79 ∧ k ≠ 80 ∧ k ≠ 81 ∧ k ≠ 82 ∧ k < 53 ∨ 61 < k ∧ k ≠ 79 ∧ k ≠ 80 ∧ k ≠ 81 ∧ k ≠ 82 := by
  unfold isX at h
  simp only [Bool.or_eq_true, Bool.and_eq_true, beq_iff_eq, Nat.ble_eq] at h
  omega
section
variable {σ τ : St} {n : Nat} {kd : Nat → Nat} {D : Nat} {wN aN : Nat → Nat}
theorem q_keep {v x : Int32} (ht : (x, τ) = tKeep σ v) : TM σ τ := by
  rw [show τ = (tKeep σ v).2 from congrArg Prod.snd ht]
  unfold tKeep
  by_cases c : ¬ (0 ≤ v ∧ v ≤ 2)
  · rw [if_pos (k3_iff.mpr c)]
    exact TM.rf
  · rw [if_neg (mt k3_iff.mp c)]
    obtain ⟨j, hj, ej, -⟩ := nat_of (M := 2) (Classical.not_not.mp c).1 (Classical.not_not.mp c).2 rfl (by decide)
    rw [ej]
    split
    · exact TM.rf
    · exact ((TM.rf.a (by omega)).a (by omega)).u (by omega)
theorem e_keep {ρ : St} (h : Rel σ) (hB : RB σ.1 n kd D wN aN) {v x y : Int32} (ht : (x, τ) = tKeep σ v) (hm : (y, ρ) = mKeep τ n D v) : x = y ∧ Rel ρ := by
  have t := q_keep ht
  have b := hB.br t
  unfold tKeep at ht
  unfold mKeep at hm
  by_cases c : ¬ (0 ≤ v ∧ v ≤ 2)
  · rw [if_pos (k3_iff.mpr c)] at ht
    rw [if_pos c] at hm
    exact fin0 h ht hm
  rw [if_neg (mt k3_iff.mp c)] at ht
  rw [if_neg c] at hm
  by_cases q : n = 0
  · rw [if_pos (b.n0.mpr q)] at ht
    rw [if_pos q] at hm
    exact fin0 h ht hm
  rw [if_neg (fun r => q (b.n0.mp r)), b.D1] at ht
  rw [if_neg q] at hm
  obtain ⟨j, hj, ej, -⟩ := nat_of (M := 2) (Classical.not_not.mp c).1 (Classical.not_not.mp c).2 rfl (by decide)
  rw [ej] at ht hm
  obtain ⟨rfl, e1⟩ := Prod.mk.inj ht
  obtain ⟨rfl, e2⟩ := Prod.mk.inj hm
  refine ⟨rfl, ?_⟩
  obtain ⟨r1, r2, r3, r4, r5, r6, r7, r8, r9, r10⟩ := id hB
  obtain ⟨d1, d2, d3, d4, d5, d6, d7, d8⟩ := id r7
  have tX : ∀ k, (k < 53 + 3 * j ∨ 53 + 3 * j + 2 < k) → τ.1 k = σ.1 k := fun k hk => funext fun i => by
    rw [e1, bc_o (by omega) (by omega) (by omega)]
  have mX : ∀ k, k ≠ 79 → k ≠ 80 → k ≠ 81 → k ≠ 82 → ρ.1 k = τ.1 k := fun k k1 k2 k3 k4 => by
    rw [e2, kpM, cpF_other _ _ _ _ k4, cpF_other _ _ _ _ k3, uI_o _ _ _ _ k2, uI_o _ _ _ _ k1]
  have rS : ∀ k, (k < 53 ∨ 61 < k) → k ≠ 79 → k ≠ 80 → k ≠ 81 → k ≠ 82 → ρ.1 k = σ.1 k := fun k k0 k1 k2 k3 k4 => by
    rw [mX k k1 k2 k3 k4, tX k (by omega)]
  have hC : RC ρ.1 n kd D wN aN := RC.keep (F := σ.1) ⟨r1, r2, r3, r4, r5, r6, r7⟩ (fun k i e => by
    obtain ⟨i1, i2, i3, i4, i5⟩ := isC_ne e
    rw [rS k i5 i1 i2 i3 i4])
  have er : ∀ wN aN d, runF ρ.1 n kd wN aN d = runF σ.1 n kd wN aN d := fun wN aN d => by
    unfold runF hdF
    rw [rS 19 (by decide) (by decide) (by decide) (by decide) (by decide), rS 28 (by decide) (by decide) (by decide) (by decide) (by decide), rS 29 (by decide) (by decide) (by decide) (by decide) (by decide), rS 30 (by decide) (by decide) (by decide) (by decide) (by decide)]
  have hS : ∀ s, s < 3 → KP σ.1 n kd (53 + 3 * s) s → KP ρ.1 n kd (53 + 3 * s) s := fun s hs hK => by
    by_cases es : s = j
    · subst es
      refine Or.inr ⟨D, wN, aN, d1, ?_, ?_, ?_, fun i hi => ?_, ?_, fun d hd => ?_, fun d hd => ?_⟩
      · rw [mX _ (by omega) (by omega) (by omega) (by omega), e1, bc_s]
        exact d2
      · rw [e2, kpM, cpF_other _ _ _ _ (by decide), cpF_other _ _ _ _ (by decide), uI_o _ _ _ _ (by decide), uI_s]
        decide
      · rw [e2, kpM, cpF_other _ _ _ _ (by decide), cpF_other _ _ _ _ (by decide), uI_s]
      · rw [mX _ (by omega) (by omega) (by omega) (by omega), mX _ (by omega) (by omega) (by omega) (by omega), e1, bc_1 (by omega), bc_2 (by omega) (by omega)]
        exact d4 i hi
      · rw [er]
        refine gOk_c r1 d6 (fun i hi => ?_)
        rw [e2, kpM, cpF_other _ _ _ _ (by decide), cpF_at _ _ _ _ _ hi, t.1 76 (by decide)]
      · rw [er]
        refine gOk_c r1 (d7 d hd) (fun i hi => ?_)
        rw [e2, kpM, cpF_at _ _ _ _ _ (by omega), t.1 78 (by decide)]
      · rw [er]
        exact d8 d hd
    · refine KP_w r1 hK ?_ ?_ ?_ ?_ ?_ (fun i hi => ?_) (fun i hi => ?_) er
      · rw [mX _ (by omega) (by omega) (by omega) (by omega), tX _ (by omega)]
      · rw [mX _ (by omega) (by omega) (by omega) (by omega), tX _ (by omega)]
      · rw [mX _ (by omega) (by omega) (by omega) (by omega), tX _ (by omega)]
      · rw [e2, kpM, cpF_other _ _ _ _ (by decide), cpF_other _ _ _ _ (by decide), uI_o _ _ _ _ (by decide), uI_n _ _ _ _ es, t.1 79 (by decide)]
      · rw [e2, kpM, cpF_other _ _ _ _ (by decide), cpF_other _ _ _ _ (by decide), uI_n _ _ _ _ es, uI_o _ _ _ _ (by decide), t.1 80 (by decide)]
      · rw [e2, kpM, cpF_other _ _ _ _ (by decide), cpF_out _ _ _ _ _ (by omega), uI_o _ _ _ _ (by decide), uI_o _ _ _ _ (by decide), t.1 81 (by decide)]
      · rw [e2, kpM, cpF_out _ _ _ _ _ (by omega), cpF_other _ _ _ _ (by decide), uI_o _ _ _ _ (by decide), uI_o _ _ _ _ (by decide), t.1 82 (by decide)]
  obtain ⟨s1, s2, s3, s4, s5, s6, s7⟩ := hC
  have hR : RB ρ.1 n kd D wN aN := ⟨s1, s2, s3, s4, s5, s6, s7, hS 0 (by decide) r8, hS 1 (by decide) r9, hS 2 (by decide) r10⟩
  refine Rel_b h hR (fun k e => ?_) (rS 62 (by decide) (by decide) (by decide) (by decide) (by decide)) (rS 64 (by decide) (by decide) (by decide) (by decide) (by decide)) ?_ ?_ ?_
  · have x := isX_n3 e
    exact rS k (by omega) (by omega) (by omega) (by omega) (by omega)
  · rw [rS 0 (by decide) (by decide) (by decide) (by decide) (by decide), rS 63 (by decide) (by decide) (by decide) (by decide) (by decide)]
    exact h.fd.2.1
  · rw [rS 0 (by decide) (by decide) (by decide) (by decide) (by decide), rS 63 (by decide) (by decide) (by decide) (by decide) (by decide)]
    exact h.fd.2.2.1
  · rw [e2, kpM, cpF_2, cpF_2]
    show τ.2 = _
    rw [e1]
    rfl
end
