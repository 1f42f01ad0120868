-- the relation through a deed: the model's side, and both together
abbrev hmM (σ : St) : Nat → Int32 := σ.1 70
theorem pa_ab {σ : St} {n : Nat} {kd : Nat → Nat} {z : Ab} {a : Nat} (h : gOk n z (σ.1 76)) : gOk n (aStep n kd (σ.1 72) (σ.1 73) (hmM σ) 0 a z) ((paM σ 76 kd n z.L).1 76) := by
  obtain ⟨h1, h2, h3, h4, h5, h6⟩ := h
  have et : mkN (tkM σ 76 kd n z.L) n = mkN (tkF kd (σ.1 73) z.C (σ.1 70 2) (gaN kd n) z.L) n := tk_c h6 (fun _ _ => rfl)
  unfold paM
  rw [et]
  refine ⟨?_, ?_, ?_, ?_, ?_, fun i hi => ?_⟩
  · rw [uI_n _ _ _ _ (by decide), uI_n _ _ _ _ (by decide), uI_n _ _ _ _ (by decide)]; exact h1
  · rw [uI_n _ _ _ _ (by decide), uI_n _ _ _ _ (by decide), uI_n _ _ _ _ (by decide)]; exact h2
  · rw [uI_s, h3]; rfl
  · rw [uI_n _ _ _ _ (by decide), uI_n _ _ _ _ (by decide), uI_s, h4]; rfl
  · rw [uI_n _ _ _ _ (by decide), uI_s]; rfl
  · rw [uI_n _ _ _ _ (by omega), uI_n _ _ _ _ (by omega), uI_n _ _ _ _ (by omega)]; exact h6 i hi
theorem ba_ab {σ : St} {n : Nat} {kd : Nat → Nat} {sk bo : Nat → Int32} {z : Ab} {a : Nat} (h : gOk n z (σ.1 76)) : gOk n (aStep n kd sk bo (hmM σ) 1 a z) ((baM σ (nI a)).1 76) := by
  obtain ⟨h1, h2, h3, h4, h5, h6⟩ := h
  unfold baM
  refine ⟨?_, ?_, ?_, ?_, ?_, fun i hi => ?_⟩
  · rw [uI_n _ _ _ _ (by decide), uI_n _ _ _ _ (by decide)]; exact h1
  · rw [uI_s, h2]; rfl
  · rw [uI_n _ _ _ _ (by decide), uI_s, h3]; rfl
  · rw [uI_n _ _ _ _ (by decide), uI_n _ _ _ _ (by decide)]; exact h4
  · rw [uI_n _ _ _ _ (by decide), uI_n _ _ _ _ (by decide)]; exact h5
  · rw [uI_n _ _ _ _ (by omega), uI_n _ _ _ _ (by omega)]; exact h6 i hi
theorem cr_ab {σ : St} {n : Nat} {kd : Nat → Nat} {sk bo hd : Nat → Int32} {z : Ab} {a : Nat} (h : gOk n z (σ.1 76)) (ha : a < n) : gOk n (aStep n kd sk bo hd 2 a z) ((crM σ a).1 76) := by
  obtain ⟨h1, h2, h3, h4, h5, h6⟩ := h
  unfold crM
  refine ⟨?_, ?_, ?_, ?_, ?_, fun i hi => ?_⟩
  · rw [uI_n _ _ _ _ (by omega)]; exact h1
  · rw [uI_n _ _ _ _ (by omega)]; exact h2
  · rw [uI_n _ _ _ _ (by omega)]; exact h3
  · rw [uI_n _ _ _ _ (by omega)]; exact h4
  · rw [uI_n _ _ _ _ (by omega)]; exact h5
  · show _ = upd z.C a (z.C a + 1) i
    by_cases e : i = a
    · subst e
      rw [uI_s, pk_us, h6 i hi]
    · rw [uI_n _ _ _ _ (by omega), pk_un e]
      exact h6 i hi
theorem gu_ab {σ : St} {n : Nat} {kd : Nat → Nat} {sk bo : Nat → Int32} {z : Ab} {a : Nat} (h : gOk n z (σ.1 76)) (ha : a < n) (hg : gdZ n z) (hb : ∃ b, b < 10 ∧ σ.1 70 0 = nI b) : gOk n (aStep n kd sk bo (hmM σ) 3 a z) ((guM σ 76 kd z.L a).1 76) := by
  obtain ⟨h1, h2, h3, h4, h5, h6⟩ := h
  obtain ⟨b, hb1, hb2⟩ := hb
  obtain ⟨c, hc1, hc2⟩ := hg.2.2.1 a ha
  unfold guM
  refine ⟨uI_s _ _ _ _, ?_, ?_, ?_, ?_, fun i hi => ?_⟩
  · rw [uI_n _ _ _ _ (by decide), uI_s, h2, h6 a ha, hb2, hc2, pr_eq hb1 hc1, ← hb2, ← hc2]; rfl
  · rw [uI_n _ _ _ _ (by decide), uI_n _ _ _ _ (by decide)]; exact h3
  · rw [uI_n _ _ _ _ (by decide), uI_n _ _ _ _ (by decide)]; exact h4
  · rw [uI_n _ _ _ _ (by decide), uI_n _ _ _ _ (by decide)]; exact h5
  · rw [uI_n _ _ _ _ (by omega), uI_n _ _ _ _ (by omega)]; exact h6 i hi
/-- the cells that a deed touches -/
def isS (k j : Nat) : Bool := (k == 19 && (Nat.ble 14 j && Nat.ble j 18)) || k == 31 || (k == 49 && j == 2) || k == 50 || k == 51 || (k == 63 && j == 22) || k == 76 || k == 78
theorem KP_c {F F' : Nat → Nat → Int32} {n : Nat} {kd : Nat → Nat} {p k : Nat} (h : KP F n kd p k) (e1 : F' p 2 = F p 2) (e2 : F' (p + 1) = F (p + 1)) (e3 : F' (p + 2) = F (p + 2)) (e4 : F' 79 = F 79) (e5 : F' 80 = F 80) (e6 : F' 81 = F 81) (e7 : F' 82 = F 82) (e8 : F' 28 = F 28) (e9 : F' 29 = F 29) (e10 : hdF F' = hdF F) (e11 : F' 30 = F 30) : KP F' n kd p k := by
  unfold KP runF at *
  rw [e1, e2, e3, e4, e5, e6, e7, e8, e9, e10, e11]
  exact h
theorem dOK_s {n D w a : Nat} {wN aN : Nat → Nat} {c d c' d' : Nat → Int32} (h : dOK n D wN aN c d) (hw : w < 4) (ha : 2 ≤ w → a < n) (h1 : ∀ i, i < D → c' i = c i) (h2 : ∀ i, i < D → d' i = d i) (h3 : c' D = nI w) (h4 : d' D = nI a) : dOK n (D + 1) (fun i => if i = D then w else wN i) (fun i => if i = D then a else aN i) c' d' := fun i hi => by
  by_cases e : i = D
  · subst e
    simp only [if_true]
    exact ⟨h3, h4, hw, ha⟩
  · obtain ⟨q1, q2, q3, q4⟩ := h i (by omega)
    simp only [if_neg e]
    exact ⟨(h1 i (by omega)).trans q1, (h2 i (by omega)).trans q2, q3, q4⟩
theorem RB_step {σ τ : St} {n : Nat} {kd : Nat → Nat} {D : Nat} {wN aN : Nat → Nat} (h : RB σ.1 n kd D wN aN) {w a : Nat} (hD : D < 40) (hw : w < 4) (ha : 2 ≤ w → a < n)
    (hg : gdZ n (aStep n kd (σ.1 28) (σ.1 29) (hdF σ.1) w a (runF σ.1 n kd wN aN D)))
    (ho : ∀ k j, isB k j = true → isS k j = false → τ.1 k j = σ.1 k j) (h49 : τ.1 49 2 = nI (D + 1)) (h63 : τ.1 63 22 = nI (D + 1))
    (h50 : ∀ i, i < D → τ.1 50 i = σ.1 50 i) (h50' : τ.1 50 D = nI w) (h51 : ∀ i, i < D → τ.1 51 i = σ.1 51 i) (h51' : τ.1 51 D = nI a)
    (ht : tOk n (aStep n kd (σ.1 28) (σ.1 29) (hdF σ.1) w a (runF σ.1 n kd wN aN D)) (τ.1 19) (τ.1 31)) (hm : gOk n (aStep n kd (σ.1 28) (σ.1 29) (hdF σ.1) w a (runF σ.1 n kd wN aN D)) (τ.1 76))
    (hl : ∀ i, i < 11 * D → τ.1 78 i = σ.1 78 i) (hl' : ∀ k, k < 11 → τ.1 78 (11 * D + k) = σ.1 76 k) :
    RB τ.1 n kd (D + 1) (fun i => if i = D then w else wN i) (fun i => if i = D then a else aN i) := by
  obtain ⟨r1, r2, r3, r4, r5, r6, r7, r8, r9, r10⟩ := h
  have ef : ∀ k, (∀ j, isB k j = true ∧ isS k j = false) → τ.1 k = σ.1 k := fun k hk => funext fun j => ho k j (hk j).1 (hk j).2
  have e28 := ef 28 (fun j => ⟨rfl, rfl⟩)
  have e29 := ef 29 (fun j => ⟨rfl, rfl⟩)
  have e30 := ef 30 (fun j => ⟨rfl, rfl⟩)
  have e27 := ef 27 (fun j => ⟨rfl, rfl⟩)
  have e70 := ef 70 (fun j => ⟨rfl, rfl⟩)
  have e71 := ef 71 (fun j => ⟨rfl, rfl⟩)
  have e72 := ef 72 (fun j => ⟨rfl, rfl⟩)
  have e73 := ef 73 (fun j => ⟨rfl, rfl⟩)
  have e79 := ef 79 (fun j => ⟨rfl, rfl⟩)
  have e80 := ef 80 (fun j => ⟨rfl, rfl⟩)
  have e81 := ef 81 (fun j => ⟨rfl, rfl⟩)
  have e82 := ef 82 (fun j => ⟨rfl, rfl⟩)
  have b8 := ho 19 8 rfl rfl
  have b9 := ho 19 9 rfl rfl
  have b10 := ho 19 10 rfl rfl
  have b11 := ho 19 11 rfl rfl
  have b12 := ho 19 12 rfl rfl
  have b13 := ho 19 13 rfl rfl
  have m10 := ho 63 10 rfl rfl
  have eh : hdF τ.1 = hdF σ.1 := by
    unfold hdF
    rw [b9, b10, b11, b12]
  have er : ∀ d, d ≤ D → runF τ.1 n kd (fun i => if i = D then w else wN i) (fun i => if i = D then a else aN i) d = runF σ.1 n kd wN aN d := fun d hd => by
    unfold runF
    rw [e28, e29, eh, e30]
    exact aRun_w d (fun i hi => ⟨if_neg (by omega), if_neg (by omega)⟩)
  have er1 : runF τ.1 n kd (fun i => if i = D then w else wN i) (fun i => if i = D then a else aN i) (D + 1) = aStep n kd (σ.1 28) (σ.1 29) (hdF σ.1) w a (runF σ.1 n kd wN aN D) := by
    have e := er D (Nat.le_refl _)
    unfold runF at e ⊢
    show aStep _ _ _ _ _ (if D = D then w else wN D) (if D = D then a else aN D) _ = _
    rw [if_pos rfl, if_pos rfl, e, e28, e29, eh]
  obtain ⟨d1, d2, d3, d4, d5, d6, d7, d8⟩ := r7
  refine ⟨r1, b8.trans r2, m10.trans r3, b13.trans r4, ?_, ?_, ⟨by omega, h49, h63, dOK_s d4 hw ha h50 h51 h50' h51', ?_, ?_, fun d hd => ?_, fun d hd => ?_⟩, ?_, ?_, ?_⟩
  · unfold RBi
    rw [e27, e71, e28, e72, e29, e73]
    exact r5
  · unfold RBh
    rw [b9, b10, b11, b12, e70]
    exact r6
  · rw [er1]
    exact ht
  · rw [er1]
    exact hm
  · rw [er d (by omega)]
    by_cases e : d = D
    · subst e
      obtain ⟨g1, g2, g3, g4, g5, g6⟩ := d6
      exact ⟨(hl' 0 (by omega)).trans g1, (hl' 1 (by omega)).trans g2, (hl' 2 (by omega)).trans g3, (hl' 3 (by omega)).trans g4, (hl' 4 (by omega)).trans g5, fun i hi => (hl' (5 + i) (by omega)).trans (g6 i hi)⟩
    · obtain ⟨g1, g2, g3, g4, g5, g6⟩ := d7 d (by omega)
      exact ⟨(hl _ (by omega)).trans g1, (hl _ (by omega)).trans g2, (hl _ (by omega)).trans g3, (hl _ (by omega)).trans g4, (hl _ (by omega)).trans g5, fun i hi => (hl _ (by omega)).trans (g6 i hi)⟩
  · by_cases e : d = D + 1
    · rw [e, er1]
      exact hg
    · rw [er d (by omega)]
      exact d8 d (by omega)
  · exact KP_c r8 (ho _ _ rfl rfl) (ef _ (fun j => ⟨rfl, rfl⟩)) (ef _ (fun j => ⟨rfl, rfl⟩)) e79 e80 e81 e82 e28 e29 eh e30
  · exact KP_c r9 (ho _ _ rfl rfl) (ef _ (fun j => ⟨rfl, rfl⟩)) (ef _ (fun j => ⟨rfl, rfl⟩)) e79 e80 e81 e82 e28 e29 eh e30
  · exact KP_c r10 (ho _ _ rfl rfl) (ef _ (fun j => ⟨rfl, rfl⟩)) (ef _ (fun j => ⟨rfl, rfl⟩)) e79 e80 e81 e82 e28 e29 eh e30
