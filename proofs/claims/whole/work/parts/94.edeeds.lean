-- week, back, cross, give: equal answers
theorem Rel_b {σ ρ : St} (h : Rel σ) {n : Nat} {kd : Nat → Nat} {D : Nat} {wN aN : Nat → Nat} (hB : RB ρ.1 n kd D wN aN) (hx : ∀ k, isX k = true → ρ.1 k = σ.1 k) (h62 : ρ.1 62 = σ.1 62) (h64 : ρ.1 64 = σ.1 64) (h1 : ρ.1 0 11 = ρ.1 63 0) (h2 : ρ.1 0 12 = ρ.1 63 2) (e2 : ρ.2 = σ.2) : Rel ρ := by
  refine ⟨RA_of h.1 (fun k j e => by rw [hx k e]) (fun f hf => ?_) h1 h2, ?_, n, kd, D, wN, aN, hB⟩
  · rw [h62, h64]
    exact h.fd.1 f hf
  · unfold RU
    rw [e2]
    exact h.2.1
theorem run_mx {σ τ : St} {n : Nat} {kd wN aN : Nat → Nat} {D : Nat} : runF (mixF σ.1 τ.1) n kd wN aN D = runF σ.1 n kd wN aN D := by
  unfold runF hdF
  rw [mx_t (by decide), mx_t (by decide), mx_t (by decide), mx_t (by decide)]
theorem isB_ne {k j : Nat} (h : isB k j = true) : k ≠ 0 ∧ (k = 63 → j ≠ 2) := by
  unfold isB at h
  simp only [Bool.or_eq_true, Bool.and_eq_true, beq_iff_eq, Nat.ble_eq] at h
  omega
theorem isX_n2 {k : Nat} (h : isX k = true) : k ≠ 0 ∧ k ≠ 63 ∧ k ≠ 76 ∧ k ≠ 78 ∧ k ≠ 19 ∧ k ≠ 31 ∧ k ≠ 49 ∧ k ≠ 50 ∧ k ≠ 51 := by
  unfold isX at h
  simp only [Bool.or_eq_true, Bool.and_eq_true, beq_iff_eq, Nat.ble_eq] at h
  omega
theorem RB_mx {σ τ : St} {n : Nat} {kd : Nat → Nat} {D : Nat} {wN aN : Nat → Nat} (h : RB σ.1 n kd D wN aN) (t : ∀ k j, isB k j = true → 63 ≤ k → τ.1 k j = σ.1 k j) : RB (mixF σ.1 τ.1) n kd D wN aN := by
  refine RB.keep (σ := σ) (τ := (mixF σ.1 τ.1, σ.2)) h (fun k j e => ?_)
  show mixF σ.1 τ.1 k j = _
  by_cases c : k < 63
  · rw [mx_t c]
  · rw [mx_m (by omega)]
    exact t k j e (by omega)
theorem deed {σ τ ρ : St} {n : Nat} {kd : Nat → Nat} {D : Nat} {wN aN : Nat → Nat} (h : Rel σ) (hB : RB σ.1 n kd D wN aN) {w a : Nat} (hD : D < 40) (hw : w < 4) (ha : 2 ≤ w → a < n) (hc : w = 2 → σ.1 31 a < 2) (hs : w = 1 → a < 1000 ∧ nI a ≤ σ.1 19 17) {T : St} (eT : T = stS kd (gaN kd n) n w a (runF σ.1 n kd wN aN D).L (addS σ D (nI w) (nI a))) (hτ : ∀ k, k ≠ 0 → τ.1 k = T.1 k) (h011 : τ.1 0 11 = σ.1 0 11) (hτ2 : τ.2 = σ.2) {M : St} (eM : M = mst kd n w a (runF σ.1 n kd wN aN D).L (rmM τ D)) (hρ : ∀ k, k ≠ 63 → ρ.1 k = M.1 k) (hρ3 : ∀ j, j ≠ 2 → ρ.1 63 j = M.1 63 j) (hρ2 : ρ.2 = τ.2) :
    (∃ L, Br ρ ρ n kd L (D + 1)) ∧ (ρ.1 0 12 = ρ.1 63 2 → Rel ρ) := by
  have hT : ∀ k, k ≠ 19 → k ≠ 31 → k ≠ 49 → k ≠ 50 → k ≠ 51 → T.1 k = σ.1 k := fun k k1 k2 k3 k4 k5 => by
    rw [eT, stS_k _ _ _ _ _ _ _ k1 k2, addS_k _ _ _ _ ⟨k3, k4, k5⟩]
  have h1 := RB_mx (τ := τ) hB (fun k j e hk => by rw [hτ k (by omega), hT k (by omega) (by omega) (by omega) (by omega) (by omega)])
  have h2 := RB_sm h1 hD hw ha hc hs
  rw [run_mx, ← eT, ← eM] at h2
  have hM : ∀ k, k ≠ 76 → k ≠ 78 → k ≠ 63 → M.1 k = τ.1 k := fun k k1 k2 k3 => by
    rw [eM, mst_k _ _ _ _ _ _ k1, rmM_k _ _ k2 k3]
  have h3 := RB.keep (σ := (mixF T.1 M.1, σ.2)) (τ := ρ) h2 (fun k j e => by
    obtain ⟨e1, e2⟩ := isB_ne e
    show _ = mixF T.1 M.1 k j
    by_cases c : k < 63
    · rw [mx_t c, hρ k (by omega), hM k (by omega) (by omega) (by omega), hτ k e1]
    · rw [mx_m (by omega)]
      by_cases c2 : k = 63
      · subst c2
        exact hρ3 j (e2 rfl)
      · rw [hρ k c2])
  refine ⟨⟨_, h3.br TM.rf⟩, fun ht => Rel_b h h3 (fun k e => ?_) ?_ ?_ ?_ ht (hρ2.trans hτ2)⟩
  · obtain ⟨x1, x2, x3, x4, x5, x6, x7, x8, x9⟩ := isX_n2 e
    rw [hρ k x2, hM k x3 x4 x2, hτ k x1, hT k x5 x6 x7 x8 x9]
  · rw [hρ 62 (by decide), hM 62 (by decide) (by decide) (by decide), hτ 62 (by decide), hT 62 (by decide) (by decide) (by decide) (by decide) (by decide)]
  · rw [hρ 64 (by decide), hM 64 (by decide) (by decide) (by decide), hτ 64 (by decide), hT 64 (by decide) (by decide) (by decide) (by decide) (by decide)]
  · rw [hρ 0 (by decide), hM 0 (by decide) (by decide) (by decide), h011, hρ3 0 (by decide), eM, mst_k _ _ _ _ _ _ (by decide), rmM_f _ _ (by decide), hτ 63 (by decide), hT 63 (by decide) (by decide) (by decide) (by decide) (by decide)]
    exact h.fd.2.1
section
variable {σ τ : St} {n : Nat} {kd : Nat → Nat} {D : Nat} {wN aN : Nat → Nat}
theorem e_week {ρ : St} (h : Rel σ) (hB : RB σ.1 n kd D wN aN) (t : TM σ τ) {x y : Int32} (ht : (x, τ) = tWeek σ (gaN kd n) kd n (runF σ.1 n kd wN aN D).L D) (hm : (y, ρ) = mWeek τ kd n (runF σ.1 n kd wN aN D).L D) : x = y ∧ Rel ρ := by
  have b := hB.br t
  have hD := b.D2
  unfold tWeek at ht
  unfold mWeek at hm
  by_cases c : ovM τ n
  · rw [if_pos (fun q => b.op.mp q c)] at ht
    rw [if_pos c] at hm
    exact fin0 h ht hm
  rw [if_neg (fun q => q (b.op.mpr c))] at ht
  rw [if_neg c] at hm
  by_cases c2 : D = 40
  · rw [if_pos (by omega)] at ht
    rw [if_pos c2] at hm
    exact fin0 h ht hm
  rw [if_neg (by omega)] at ht
  rw [if_neg c2] at hm
  obtain ⟨rfl, e1⟩ := Prod.mk.inj ht
  obtain ⟨rfl, e2⟩ := Prod.mk.inj hm
  obtain ⟨⟨L', b'⟩, hr⟩ := deed (τ := τ) (ρ := ρ) (w := 0) (a := 0) h hB (by omega) (by decide) (fun q => absurd q (by decide)) (fun q => absurd q (by decide)) (fun q => absurd q (by decide)) (T := enW (addS σ D 0 0) (gaN kd n) kd n (runF σ.1 n kd wN aN D).L) rfl (fun k hk => by rw [e1, uI_o _ _ _ _ hk]) (by rw [e1, uI_n _ _ _ _ (by decide)]; rfl) (by rw [e1]; rfl) (M := paM (rmM τ D) 76 kd n (runF σ.1 n kd wN aN D).L) rfl (fun k hk => by rw [e2, uI_o _ _ _ _ hk]) (fun j hj => by rw [e2, uI_n _ _ _ _ hj]) (by rw [e2]; exact cpF_2 _ _ _ _ _)
  have e19 : ρ.1 19 = (enW (addS σ D 0 0) (gaN kd n) kd n (runF σ.1 n kd wN aN D).L).1 19 := by
    rw [e2, uI_o _ _ _ _ (by decide), paM, uI_o _ _ _ _ (by decide), uI_o _ _ _ _ (by decide), uI_o _ _ _ _ (by decide), rmM_k _ _ (by decide) (by decide), e1, uI_o _ _ _ _ (by decide)]
  have e76 : ρ.1 76 = (paM (rmM τ D) 76 kd n (runF σ.1 n kd wN aN D).L).1 76 := by
    rw [e2, uI_o _ _ _ _ (by decide)]
  rw [← e19, ← e76]
  refine ⟨b'.z.2.1, hr ?_⟩
  have e12 : ρ.1 0 12 = if ρ.1 19 18 = 0 then 0 else 1 := by
    rw [e19, e2, uI_o _ _ _ _ (by decide), paM, uI_o _ _ _ _ (by decide), uI_o _ _ _ _ (by decide), uI_o _ _ _ _ (by decide), rmM_k _ _ (by decide) (by decide), e1, uI_s]
  have e63 : ρ.1 63 2 = ρ.1 76 4 := by
    rw [e76, e2, uI_s]
  rw [e12, e63, ← b'.z.2.2.2]
  rcases b'.tr with q | q
  · rw [q, if_pos rfl]
  · rw [q, if_neg (by decide)]
theorem e_back {ρ : St} (h : Rel σ) (hB : RB σ.1 n kd D wN aN) (t : TM σ τ) {m x y : Int32} (ht : (x, τ) = tBack σ D m) (hm : (y, ρ) = mBack τ n D m) : x = y ∧ Rel ρ := by
  have b := hB.br t
  have hD := b.D2
  unfold tBack at ht
  unfold mBack at hm
  by_cases c0 : ¬ (1 ≤ m ∧ m ≤ 99)
  · rw [if_pos (out_iff.mp c0)] at ht
    rw [if_pos c0] at hm
    exact fin0 h ht hm
  rw [if_neg (mt out_iff.mpr c0)] at ht
  rw [if_neg c0] at hm
  by_cases c : ovM τ n
  · rw [if_pos (fun q => b.op.mp q c)] at ht
    rw [if_pos c] at hm
    exact fin0 h ht hm
  rw [if_neg (fun q => q (b.op.mpr c))] at ht
  rw [if_neg c, ← b.z.2.1] at hm
  by_cases c1 : σ.1 19 17 < m
  · rw [if_pos c1] at ht hm
    exact fin0 h ht hm
  rw [if_neg c1] at ht hm
  by_cases c2 : D = 40
  · rw [if_pos (by omega)] at ht
    rw [if_pos c2] at hm
    exact fin0 h ht hm
  rw [if_neg (by omega)] at ht
  rw [if_neg c2] at hm
  obtain ⟨rfl, e1⟩ := Prod.mk.inj ht
  obtain ⟨rfl, e2⟩ := Prod.mk.inj hm
  obtain ⟨N, hN, -, eN⟩ := nat_of (M := 99) (one_le (Classical.not_not.mp c0).1) (Classical.not_not.mp c0).2 rfl (by decide)
  obtain ⟨⟨L', b'⟩, hr⟩ := deed (τ := τ) (ρ := ρ) (w := 1) (a := N) h hB (by omega) (by decide) (fun q => absurd q (by decide)) (fun q => absurd q (by decide)) (fun _ => ⟨by omega, by rw [← eN]; exact i_nlt.mp c1⟩) (T := enG (addS σ D 1 m) m) (by rw [eN]; rfl) (fun k hk => by rw [e1]) (by rw [e1]; rfl) (by rw [e1]; rfl) (M := baM (rmM τ D) m) (by rw [eN]; rfl) (fun k hk => by rw [e2]) (fun j hj => by rw [e2]) (by rw [e2]; exact cpF_2 _ _ _ _ _)
  have e19 : ρ.1 19 = (enG (addS σ D 1 m) m).1 19 := by
    rw [e2, baM, uI_o _ _ _ _ (by decide), uI_o _ _ _ _ (by decide), rmM_k _ _ (by decide) (by decide), e1]
  rw [← e19, ← e2]
  refine ⟨b'.z.1, hr ?_⟩
  rw [e2, baM, uI_o _ _ _ _ (by decide), uI_o _ _ _ _ (by decide), uI_o _ _ _ _ (by decide), uI_o _ _ _ _ (by decide), rmM_k _ _ (by decide) (by decide), rmM_f _ _ (by decide), e1]
  exact h.fd.2.2.1
end
