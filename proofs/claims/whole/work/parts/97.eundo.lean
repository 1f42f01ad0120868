-- undo, on: equal answers
theorem RB_set {σ τ : St} {n : Nat} {kd : Nat → Nat} {D : Nat} {wN aN : Nat → Nat} (h : RB σ.1 n kd D wN aN) {E : Nat} {wE aE : Nat → Nat} (hE : E ≤ 40)
    (ho : ∀ k j, isB k j = true → isS k j = false → τ.1 k j = σ.1 k j) (h49 : τ.1 49 2 = nI E) (h63 : τ.1 63 22 = nI E) (hd : dOK n E wE aE (τ.1 50) (τ.1 51))
    (ht : tOk n (runF σ.1 n kd wE aE E) (τ.1 19) (τ.1 31)) (hm : gOk n (runF σ.1 n kd wE aE E) (τ.1 76)) (hl : ∀ d, d < E → gOk n (runF σ.1 n kd wE aE d) (fun k => τ.1 78 (11 * d + k))) (hg : ∀ d, d ≤ E → gdZ n (runF σ.1 n kd wE aE d)) : RB τ.1 n kd E wE aE := by
  obtain ⟨r1, r2, r3, r4, r5, r6, -, r8, r9, r10⟩ := h
  have ef : ∀ k, (∀ j, isB k j = true ∧ isS k j = false) → τ.1 k = σ.1 k := fun k hk => funext fun j => ho k j (hk j).1 (hk j).2
  have e28 := ef 28 (fun j => ⟨rfl, rfl⟩)
  have e29 := ef 29 (fun j => ⟨rfl, rfl⟩)
  have e30 := ef 30 (fun j => ⟨rfl, rfl⟩)
  have e27 := ef 27 (fun j => ⟨rfl, rfl⟩)
  have e70 := ef 70 (fun j => ⟨rfl, rfl⟩)
  have e71 := ef 71 (fun j => ⟨rfl, rfl⟩)
  have e72 := ef 72 (fun j => ⟨rfl, rfl⟩)
  have e73 := ef 73 (fun j => ⟨rfl, rfl⟩)
  have e79 := ef 79 (fun j => ⟨rfl, rfl⟩)
  have e80 := ef 80 (fun j => ⟨rfl, rfl⟩)
  have e81 := ef 81 (fun j => ⟨rfl, rfl⟩)
  have e82 := ef 82 (fun j => ⟨rfl, rfl⟩)
  have b8 := ho 19 8 rfl rfl
  have b9 := ho 19 9 rfl rfl
  have b10 := ho 19 10 rfl rfl
  have b11 := ho 19 11 rfl rfl
  have b12 := ho 19 12 rfl rfl
  have b13 := ho 19 13 rfl rfl
  have m10 := ho 63 10 rfl rfl
  have eh : hdF τ.1 = hdF σ.1 := by
    unfold hdF
    rw [b9, b10, b11, b12]
  have er : ∀ d, runF τ.1 n kd wE aE d = runF σ.1 n kd wE aE d := fun d => by
    unfold runF
    rw [e28, e29, eh, e30]
  refine ⟨r1, b8.trans r2, m10.trans r3, b13.trans r4, ?_, ?_, ⟨hE, h49, h63, hd, ?_, ?_, fun d hd => ?_, fun d hd => ?_⟩, ?_, ?_, ?_⟩
  · unfold RBi
    rw [e27, e71, e28, e72, e29, e73]
    exact r5
  · unfold RBh
    rw [b9, b10, b11, b12, e70]
    exact r6
  · rw [er]
    exact ht
  · rw [er]
    exact hm
  · rw [er]
    exact hl d hd
  · rw [er]
    exact hg d hd
  · exact KP_c r8 (ho _ _ rfl rfl) (ef _ (fun j => ⟨rfl, rfl⟩)) (ef _ (fun j => ⟨rfl, rfl⟩)) e79 e80 e81 e82 e28 e29 eh e30
  · exact KP_c r9 (ho _ _ rfl rfl) (ef _ (fun j => ⟨rfl, rfl⟩)) (ef _ (fun j => ⟨rfl, rfl⟩)) e79 e80 e81 e82 e28 e29 eh e30
  · exact KP_c r10 (ho _ _ rfl rfl) (ef _ (fun j => ⟨rfl, rfl⟩)) (ef _ (fun j => ⟨rfl, rfl⟩)) e79 e80 e81 e82 e28 e29 eh e30
theorem isS_no {k j : Nat} (h : isS k j = false) : k ≠ 31 ∧ k ≠ 50 ∧ k ≠ 51 ∧ k ≠ 76 ∧ k ≠ 78 ∧ (k = 19 → j ≠ 14 ∧ j ≠ 15 ∧ j ≠ 16 ∧ j ≠ 17 ∧ j ≠ 18) ∧ (k = 49 → j ≠ 2) ∧ (k = 63 → j ≠ 22) := by
  have h1 : ¬ isS k j = true := by rw [h]; decide
  unfold isS at h1
  simp only [Bool.or_eq_true, Bool.and_eq_true, beq_iff_eq, Nat.ble_eq] at h1
  omega
theorem rp_out {σ : St} {n : Nat} {kd : Nat → Nat} (hb : bkOk σ n (gaN kd n) kd) {wN aN : Nat → Nat} (d : Nat) {k j : Nat} (h31 : k ≠ 31) (h19 : k = 19 → j ≠ 14 ∧ j ≠ 15 ∧ j ≠ 16 ∧ j ≠ 17 ∧ j ≠ 18) : (rpS σ kd (gaN kd n) n wN aN d).1.1 k j = σ.1 k j := by
  by_cases c : k = 19
  · subst c
    exact rpS_f _ _ _ _ _ _ (h19 rfl) d
  · rw [(rpS_facts hb wN aN d).2.2.2 k c h31]
theorem gOk_c {n : Nat} {z : Ab} {g g' : Nat → Int32} (hn : n ≤ 6) (h : gOk n z g) (e : ∀ j, j < 11 → g' j = g j) : gOk n z g' := by
  obtain ⟨g1, g2, g3, g4, g5, g6⟩ := h
  exact ⟨(e 0 (by omega)).trans g1, (e 1 (by omega)).trans g2, (e 2 (by omega)).trans g3, (e 3 (by omega)).trans g4, (e 4 (by omega)).trans g5, fun i hi => (e (5 + i) (by omega)).trans (g6 i hi)⟩
section
variable {σ τ : St} {n : Nat} {kd : Nat → Nat} {D : Nat} {wN aN : Nat → Nat}
theorem RB.dw (hB : RB σ.1 n kd D wN aN) : dwOk σ n D wN aN := hB.2.2.2.2.2.2.1.2.2.2.1
theorem un_ok {G : Nat} {x : Int32} (hb : bkOk σ n G kd) : bkOk (uI σ 49 2 x) n G kd := bkOk_of hb (by rw [uI_o _ _ _ _ (by decide)]) (by rw [uI_o _ _ _ _ (by decide)]) (by rw [uI_o _ _ _ _ (by decide)])
theorem q_undo (hb : bkOk σ n (gaN kd n) kd) {x y : Int32} (ht : (y, τ) = tUndo σ (gaN kd n) kd n D wN aN x) : TM σ τ := by
  rw [show τ = (tUndo σ (gaN kd n) kd n D wN aN x).2 from congrArg Prod.snd ht]
  unfold tUndo
  split
  · exact TM.rf
  · refine ⟨fun k hk => funext fun j => ?_, fun k _ => by rw [rpS_2]; rfl⟩
    have h1 := rp_out (σ := uI σ 49 2 x) (wN := wN) (aN := aN) (un_ok hb) (ix x) (k := k) (j := j) (by omega) (by omega)
    rw [uI_o _ _ _ _ (by omega)] at h1
    exact h1
theorem e_undo {ρ : St} (h : Rel σ) (hB : RB σ.1 n kd D wN aN) {v x y : Int32} (ht : (x, τ) = tUndo σ (gaN kd n) kd n D wN aN v) (hm : (y, ρ) = mUndo τ D v) : x = y ∧ Rel ρ := by
  have b0 := hB.br TM.rf
  have t := q_undo b0.bk ht
  have hD := b0.D2
  have hb1 : bkOk (uI σ 49 2 v) n (gaN kd n) kd := un_ok b0.bk
  unfold tUndo at ht
  unfold mUndo at hm
  by_cases c : ¬ (0 ≤ v ∧ v ≤ nI D)
  · rw [if_pos (out_iff.mp c)] at ht
    rw [if_pos c] at hm
    exact fin0 h ht hm
  rw [if_neg (mt out_iff.mpr c)] at ht
  rw [if_neg c] at hm
  obtain ⟨d, hd, ed, rfl⟩ := nat_of (M := D) (Classical.not_not.mp c).1 (Classical.not_not.mp c).2 rfl (by omega)
  rw [ed] at ht hm
  obtain ⟨rfl, e1⟩ := Prod.mk.inj ht
  obtain ⟨rfl, e2⟩ := Prod.mk.inj hm
  refine ⟨rfl, ?_⟩
  obtain ⟨d1, d2, d3, d4, d5, d6, d7, d8⟩ := hB.2.2.2.2.2.2.1
  have rX : ∀ k j, k ≠ 31 → (k = 19 → j ≠ 14 ∧ j ≠ 15 ∧ j ≠ 16 ∧ j ≠ 17 ∧ j ≠ 18) → (k = 49 → j ≠ 2) → τ.1 k j = σ.1 k j := fun k j k1 k2 k3 => by
    rw [e1, rp_out hb1 d k1 k2]
    by_cases c2 : k = 49
    · subst c2
      exact uI_n _ _ _ _ (k3 rfl)
    · rw [uI_o _ _ _ _ c2]
  have mX : ∀ k j, k ≠ 76 → (k = 63 → j ≠ 22) → ρ.1 k j = τ.1 k j := fun k j k1 k2 => by
    have e3 : (if nI d = nI D then τ else cpF τ 76 0 (fun k => τ.1 78 (11 * d + k)) 11).1 k = τ.1 k := by
      split
      · rfl
      · exact cpF_other _ _ _ _ k1 _
    rw [e2]
    by_cases c2 : k = 63
    · subst c2
      rw [uI_n _ _ _ _ (k2 rfl), e3]
    · rw [uI_o _ _ _ _ c2, e3]
  have run1 : ∀ e, runF (uI σ 49 2 (nI d)).1 n kd wN aN e = runF σ.1 n kd wN aN e := fun e => by
    unfold runF hdF
    rw [uI_o _ _ _ _ (by decide), uI_o _ _ _ _ (by decide), uI_o _ _ _ _ (by decide), uI_o _ _ _ _ (by decide)]
  obtain ⟨-, tt⟩ := rp_ab hb1 (wN := wN) (aN := aN) d (fun i hi => (d4 i (by omega)).2.2)
  rw [run1, ← e1] at tt
  have r76 : gOk n (runF σ.1 n kd wN aN d) (ρ.1 76) := by
    rw [e2, uI_o _ _ _ _ (by decide)]
    by_cases c2 : nI d = nI D
    · have c3 : d = D := (nI_eqI (by omega) (by omega)).mp c2
      rw [if_pos c2, t.1 76 (by decide), c3]
      exact d6
    · rw [if_neg c2]
      have c3 : d < D := by
        rcases Nat.lt_or_ge d D with q | q
        · exact q
        · exact absurd (by rw [show d = D by omega]) c2
      refine gOk_c b0.n6 (d7 d c3) (fun j hj => ?_)
      rw [cpF_a0 _ _ _ hj, t.1 78 (by decide)]
  have hR : RB ρ.1 n kd d wN aN := RB_set (σ := σ) hB (by omega) (fun k j e1 e2 => by
      obtain ⟨i1, i2, i3, i4, i5, i6, i7, i8⟩ := isS_no e2
      rw [mX k j i4 i8, rX k j i1 i6 i7]) (by
      rw [mX 49 2 (by decide) (by decide), e1, rp_out hb1 d (by decide) (by decide), uI_s]) (by rw [e2, uI_s]) (fun i hi => by
      rw [mX 50 i (by decide) (fun q => absurd q (by decide)), rX 50 i (by decide) (fun q => absurd q (by decide)) (fun q => absurd q (by decide)), mX 51 i (by decide) (fun q => absurd q (by decide)), rX 51 i (by decide) (fun q => absurd q (by decide)) (fun q => absurd q (by decide))]
      exact d4 i (by omega)) (by
      rw [show ρ.1 19 = τ.1 19 from funext fun j => mX 19 j (by decide) (fun q => absurd q (by decide)), show ρ.1 31 = τ.1 31 from funext fun j => mX 31 j (by decide) (fun q => absurd q (by decide))]
      exact tt) r76 (fun e he => gOk_c b0.n6 (d7 e (by omega)) (fun j _ => by
      rw [mX 78 _ (by decide) (fun q => absurd q (by decide)), rX 78 _ (by decide) (fun q => absurd q (by decide)) (fun q => absurd q (by decide))])) (fun e he => d8 e (by omega))
  have rS : ∀ k, k ≠ 31 → k ≠ 19 → k ≠ 49 → k ≠ 76 → k ≠ 63 → ρ.1 k = σ.1 k := fun k k1 k2 k3 k4 k5 => funext fun j => by
    rw [mX k j k4 (fun q => absurd q k5), rX k j k1 (fun q => absurd q k2) (fun q => absurd q k3)]
  refine Rel_b h hR (fun k e => ?_) (rS 62 (by decide) (by decide) (by decide) (by decide) (by decide)) (rS 64 (by decide) (by decide) (by decide) (by decide) (by decide)) ?_ ?_ ?_
  · obtain ⟨x1, x2, x3, x4, x5, x6, x7, x8, x9⟩ := isX_n2 e
    exact rS k x6 x5 x7 x3 x2
  · rw [rS 0 (by decide) (by decide) (by decide) (by decide) (by decide), mX 63 0 (by decide) (by decide), rX 63 0 (by decide) (by decide) (by decide)]
    exact h.fd.2.1
  · rw [rS 0 (by decide) (by decide) (by decide) (by decide) (by decide), mX 63 2 (by decide) (by decide), rX 63 2 (by decide) (by decide) (by decide)]
    exact h.fd.2.2.1
  · have e3 : ρ.2 = τ.2 := by
      rw [e2]
      show (if nI d = nI D then τ else cpF τ 76 0 (fun k => τ.1 78 (11 * d + k)) 11).2 = _
      split
      · rfl
      · exact cpF_2 _ _ _ _ _
    rw [e3, e1]
    exact rpS_2 _ _ _ _ _ _ _
end
