-- on, keep: equal answers
def KQ (F : Nat → Nat → Int32) (n : Nat) (kd : Nat → Nat) (p k D : Nat) (wN aN : Nat → Nat) : Prop := (F p 2 = -1 ∧ F 79 k = 0) ∨ (D ≤ 40 ∧ F p 2 = nI D ∧ ¬ F 79 k = 0 ∧ F 80 k = nI D ∧ dOK n D wN aN (F (p + 1)) (F (p + 2)) ∧ gOk n (runF F n kd wN aN D) (fun j => F 81 (11 * k + j)) ∧ (∀ d, d < D → gOk n (runF F n kd wN aN d) (fun j => F 82 (440 * k + (11 * d + j)))) ∧ ∀ d, d ≤ D → gdZ n (runF F n kd wN aN d))
theorem KP_Q {F : Nat → Nat → Int32} {n : Nat} {kd : Nat → Nat} {p k : Nat} (h : KP F n kd p k) : ∃ (D : Nat) (wN aN : Nat → Nat), KQ F n kd p k D wN aN := by
  rcases h with h | ⟨D, wN, aN, h⟩
  · exact ⟨0, fun _ => 0, fun _ => 0, Or.inl h⟩
  · exact ⟨D, wN, aN, Or.inr h⟩
def sel {α : Type} (a b c : α) : Nat → α
  | 0 => a
  | 1 => b
  | _ => c
theorem RB.ks {F : Nat → Nat → Int32} {n : Nat} {kd : Nat → Nat} {D : Nat} {wN aN : Nat → Nat} (h : RB F n kd D wN aN) : ∃ (DK : Nat → Nat) (wK aK : Nat → Nat → Nat), ∀ j, j < 3 → KQ F n kd (53 + 3 * j) j (DK j) (wK j) (aK j) := by
  obtain ⟨-, -, -, -, -, -, -, r8, r9, r10⟩ := h
  obtain ⟨x0, y0, z0, q0⟩ := KP_Q r8
  obtain ⟨x1, y1, z1, q1⟩ := KP_Q r9
  obtain ⟨x2, y2, z2, q2⟩ := KP_Q r10
  refine ⟨sel x0 x1 x2, sel y0 y1 y2, sel z0 z1 z2, fun j hj => ?_⟩
  rcases j with _ | _ | _ | j
  · exact q0
  · exact q1
  · exact q2
  · omega
theorem KQ.t {σ : St} {n : Nat} {kd : Nat → Nat} {DK : Nat → Nat} {wK aK : Nat → Nat → Nat} (h : ∀ j, j < 3 → KQ σ.1 n kd (53 + 3 * j) j (DK j) (wK j) (aK j)) : ksOk σ n DK wK aK := fun j hj h0 => by
  rcases h j hj with ⟨q, -⟩ | ⟨q1, q2, q3, q4, q5, -⟩
  · rw [q] at h0
    exact absurd h0 (by decide)
  · exact ⟨q2, q1, fun d hd => q5 d hd⟩
theorem KQ.m {σ τ : St} {n : Nat} {kd : Nat → Nat} {DK : Nat → Nat} {wK aK : Nat → Nat → Nat} (h : ∀ j, j < 3 → KQ σ.1 n kd (53 + 3 * j) j (DK j) (wK j) (aK j)) (t : TM σ τ) : kmOk τ DK := fun j hj h0 => by
  rw [t.1 79 (by decide)] at h0
  rw [t.1 80 (by decide)]
  rcases h j hj with ⟨-, q⟩ | ⟨q1, q2, q3, q4, q5, -⟩
  · exact absurd q h0
  · exact ⟨q4, q1⟩
theorem k3_iff {k : Int32} : (k < 0 ∨ 3 ≤ k) ↔ ¬ (0 ≤ k ∧ k ≤ 2) := by
  simp only [Int32.le_iff_toInt_le, Int32.lt_iff_toInt_lt]
  have h1 : (3 : Int32).toInt = 3 := rfl
  have h2 : (0 : Int32).toInt = 0 := rfl
  have h3 : (2 : Int32).toInt = 2 := rfl
  omega
theorem bc_o {σ : St} {p q : Nat} {k j : Nat} (h1 : k ≠ p + 1) (h2 : k ≠ p + 2) (h3 : k = p → j ≠ 2) : (bcS σ p q).1 k j = σ.1 k j := by
  unfold bcS
  by_cases c : k = p
  · subst c
    rw [uI_n _ _ _ _ (h3 rfl), uAo _ _ _ h2, uAo _ _ _ h1]
  · rw [uI_o _ _ _ _ c, uAo _ _ _ h2, uAo _ _ _ h1]
theorem bc_s {σ : St} {p q : Nat} : (bcS σ p q).1 p 2 = σ.1 q 2 := uI_s _ _ _ _
theorem bc_1 {σ : St} {p q d : Nat} (h : d < 40) : (bcS σ p q).1 (p + 1) d = σ.1 (q + 1) d := by
  unfold bcS
  rw [uI_o _ _ _ _ (by omega), uAo _ _ _ (by omega), uAs]
  exact cpy40 _ _ h
theorem bc_2 {σ : St} {p q d : Nat} (h : d < 40) (hq : q + 2 ≠ p + 1) : (bcS σ p q).1 (p + 2) d = σ.1 (q + 2) d := by
  unfold bcS
  rw [uI_o _ _ _ _ (by omega), uAs]
  exact cpy40 _ _ h
section
variable {σ τ : St} {n : Nat} {kd : Nat → Nat} {D : Nat} {wN aN : Nat → Nat}
theorem q_on (hb : bkOk σ n (gaN kd n) kd) {DK : Nat → Nat} {wK aK : Nat → Nat → Nat} {v x : Int32} (ht : (x, τ) = tOn σ (gaN kd n) kd n DK wK aK v) : TM σ τ := by
  rw [show τ = (tOn σ (gaN kd n) kd n DK wK aK v).2 from congrArg Prod.snd ht]
  unfold tOn
  split
  · exact TM.rf
  · split
    · exact TM.rf.r
    · refine ⟨fun k hk => funext fun j => ?_, fun k _ => by rw [rpS_2]; rfl⟩
      show (rpS _ _ _ _ _ _ _).1.1 k j = _
      rw [rp_out (bcS_ok hb) _ (by omega) (by omega), bc_o (by omega) (by omega) (by omega)]
theorem e_on {ρ : St} (h : Rel σ) (hB : RB σ.1 n kd D wN aN) {DK : Nat → Nat} {wK aK : Nat → Nat → Nat} (hK : ∀ j, j < 3 → KQ σ.1 n kd (53 + 3 * j) j (DK j) (wK j) (aK j)) {v x y : Int32} (ht : (x, τ) = tOn σ (gaN kd n) kd n DK wK aK v) (hm : (y, ρ) = mOn τ DK v) : x = y ∧ Rel ρ := by
  have b0 := hB.br TM.rf
  have t := q_on b0.bk ht
  unfold tOn at ht
  unfold mOn at hm
  rw [t.1 79 (by decide)] at hm
  by_cases c : ¬ (0 ≤ v ∧ v ≤ 2)
  · rw [if_pos (k3_iff.mpr c)] at ht
    rw [if_pos c] at hm
    exact fin0 h ht hm
  rw [if_neg (mt k3_iff.mp c)] at ht
  rw [if_neg c] at hm
  obtain ⟨j, hj, ej, -⟩ := nat_of (M := 2) (Classical.not_not.mp c).1 (Classical.not_not.mp c).2 rfl (by decide)
  rw [ej] at ht hm
  have hb1 : bkOk (bcS σ 49 (53 + 3 * j)) n (gaN kd n) kd := bcS_ok b0.bk
  rcases hK j (by omega) with ⟨q1, q2⟩ | ⟨q1, q2, q3, q4, q5, q6, q7, q8⟩
  · rw [if_pos (by rw [q1]; decide)] at ht
    rw [if_pos q2] at hm
    exact finR 1 h ht hm
  rw [if_neg (by rw [q2]; exact i_nlt.mpr (nI_nn (by omega)))] at ht
  rw [if_neg q3] at hm
  obtain ⟨rfl, e1⟩ := Prod.mk.inj ht
  obtain ⟨rfl, e2⟩ := Prod.mk.inj hm
  refine ⟨rfl, ?_⟩
  generalize DK j = E at *
  generalize wK j = wE at *
  generalize aK j = aE at *
  have run1 : ∀ e, runF (bcS σ 49 (53 + 3 * j)).1 n kd wE aE e = runF σ.1 n kd wE aE e := fun e => by
    have f : ∀ k, k ≠ 49 → k ≠ 50 → k ≠ 51 → (bcS σ 49 (53 + 3 * j)).1 k = σ.1 k := fun k k1 k2 k3 => funext fun i => bc_o k2 k3 (fun r => absurd r k1)
    unfold runF hdF
    rw [f 19 (by decide) (by decide) (by decide), f 28 (by decide) (by decide) (by decide), f 29 (by decide) (by decide) (by decide), f 30 (by decide) (by decide) (by decide)]
  obtain ⟨-, tt⟩ := rp_ab hb1 (wN := wE) (aN := aE) E (fun i hi => (q5 i hi).2.2)
  rw [run1, ← e1] at tt
  have rX : ∀ k i, k ≠ 31 → (k = 19 → i ≠ 14 ∧ i ≠ 15 ∧ i ≠ 16 ∧ i ≠ 17 ∧ i ≠ 18) → k ≠ 50 → k ≠ 51 → (k = 49 → i ≠ 2) → τ.1 k i = σ.1 k i := fun k i k1 k2 k3 k4 k5 => by
    rw [e1, rp_out hb1 E k1 k2, bc_o k3 k4 k5]
  have mX : ∀ k i, k ≠ 76 → k ≠ 78 → (k = 63 → i ≠ 22) → ρ.1 k i = τ.1 k i := fun k i k1 k2 k3 => by
    rw [e2, onM, cpF_other _ _ _ _ k2, cpF_other _ _ _ _ k1]
    by_cases c2 : k = 63
    · subst c2
      exact uI_n _ _ _ _ (k3 rfl)
    · rw [uI_o _ _ _ _ c2]
  have hR : RB ρ.1 n kd E wE aE := by
    refine RB_set (σ := σ) hB q1 (fun k i f1 f2 => ?_) ?_ ?_ (fun i hi => ?_) ?_ ?_ (fun e he => ?_) q8
    · obtain ⟨i1, i2, i3, i4, i5, i6, i7, i8⟩ := isS_no f2
      rw [mX k i i4 i5 i8, rX k i i1 i6 i2 i3 i7]
    · rw [mX 49 2 (by decide) (by decide) (by decide), e1, rp_out hb1 E (by decide) (by decide), bc_s]
      exact q2
    · rw [e2, onM, cpF_other _ _ _ _ (by decide), cpF_other _ _ _ _ (by decide), uI_s]
    · rw [mX 50 i (by decide) (by decide) (fun r => absurd r (by decide)), mX 51 i (by decide) (by decide) (fun r => absurd r (by decide)), e1, rp_out hb1 E (by decide) (fun r => absurd r (by decide)), rp_out hb1 E (by decide) (fun r => absurd r (by decide)), bc_1 (p := 49) (by omega), bc_2 (p := 49) (by omega) (by omega)]
      exact q5 i hi
    · rw [show ρ.1 19 = τ.1 19 from funext fun j => mX 19 j (by decide) (by decide) (fun r => absurd r (by decide)), show ρ.1 31 = τ.1 31 from funext fun j => mX 31 j (by decide) (by decide) (fun r => absurd r (by decide))]
      exact tt
    · refine gOk_c b0.n6 q6 (fun i hi => ?_)
      rw [e2, onM, cpF_other _ _ _ _ (by decide), cpF_a0 _ _ _ hi, t.1 81 (by decide)]
    · refine gOk_c b0.n6 (q7 e he) (fun i hi => ?_)
      rw [e2, onM, cpF_a0 _ _ _ (by omega), t.1 82 (by decide)]
  have rS : ∀ k, k ≠ 31 → k ≠ 19 → k ≠ 49 → k ≠ 50 → k ≠ 51 → k ≠ 76 → k ≠ 78 → k ≠ 63 → ρ.1 k = σ.1 k := fun k k1 k2 k3 k4 k5 k6 k7 k8 => funext fun i => by
    rw [mX k i k6 k7 (fun r => absurd r k8), rX k i k1 (fun r => absurd r k2) k4 k5 (fun r => absurd r k3)]
  refine Rel_b h hR (fun k e => ?_) (rS 62 (by decide) (by decide) (by decide) (by decide) (by decide) (by decide) (by decide) (by decide)) (rS 64 (by decide) (by decide) (by decide) (by decide) (by decide) (by decide) (by decide) (by decide)) ?_ ?_ ?_
  · obtain ⟨x1, x2, x3, x4, x5, x6, x7, x8, x9⟩ := isX_n2 e
    exact rS k x6 x5 x7 x8 x9 x3 x4 x2
  · rw [rS 0 (by decide) (by decide) (by decide) (by decide) (by decide) (by decide) (by decide) (by decide), mX 63 0 (by decide) (by decide) (by decide), rX 63 0 (by decide) (by decide) (by decide) (by decide) (by decide)]
    exact h.fd.2.1
  · rw [rS 0 (by decide) (by decide) (by decide) (by decide) (by decide) (by decide) (by decide) (by decide), mX 63 2 (by decide) (by decide) (by decide), rX 63 2 (by decide) (by decide) (by decide) (by decide) (by decide)]
    exact h.fd.2.2.1
  · rw [e2, onM, cpF_2, cpF_2]
    show τ.2 = _
    rw [e1]
    exact rpS_2 _ _ _ _ _ _ _
end
