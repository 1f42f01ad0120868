-- book: equal answers
theorem fl_a0 (σ : St) (k : Nat) (v : Int32) {j m : Nat} (h : j < m) : (fl σ k 0 v m).1 k j = v := by
  rw [fl_c]
  exact cpF_a0 _ _ _ h
theorem tlF_at (ρ s : St) : ∀ i j, j < i → (tlF ρ s i).1 71 j = ρ.1 75 (4 * j) ∧ (tlF ρ s i).1 72 j = ρ.1 75 (4 * j + 1) ∧ (tlF ρ s i).1 73 j = ρ.1 75 (4 * j + 2) ∧ (tlF ρ s i).1 76 (5 + j) = ρ.1 75 (4 * j + 3)
  | 0, j, h => absurd h (Nat.not_lt_zero _)
  | i + 1, j, h => by
    rw [tlF]
    by_cases e : j = i
    · subst e
      refine ⟨?_, ?_, ?_, ?_⟩
      · rw [uI_o _ _ _ _ (by decide), uI_o _ _ _ _ (by decide), uI_o _ _ _ _ (by decide), uI_s]
      · rw [uI_o _ _ _ _ (by decide), uI_o _ _ _ _ (by decide), uI_s]
      · rw [uI_o _ _ _ _ (by decide), uI_s]
      · rw [uI_s]
    · obtain ⟨h1, h2, h3, h4⟩ := tlF_at ρ s i j (by omega)
      refine ⟨?_, ?_, ?_, ?_⟩
      · rw [uI_o _ _ _ _ (by decide), uI_o _ _ _ _ (by decide), uI_o _ _ _ _ (by decide), uI_n _ _ _ _ e]; exact h1
      · rw [uI_o _ _ _ _ (by decide), uI_o _ _ _ _ (by decide), uI_n _ _ _ _ e, uI_o _ _ _ _ (by decide)]; exact h2
      · rw [uI_o _ _ _ _ (by decide), uI_n _ _ _ _ e, uI_o _ _ _ _ (by decide), uI_o _ _ _ _ (by decide)]; exact h3
      · rw [uI_n _ _ _ _ (by omega), uI_o _ _ _ _ (by decide), uI_o _ _ _ _ (by decide), uI_o _ _ _ _ (by decide)]; exact h4
theorem tlF_76 (ρ s : St) {j : Nat} (h : j < 5) : ∀ i, (tlF ρ s i).1 76 j = s.1 76 j
  | 0 => rfl
  | i + 1 => by
    rw [tlF, uI_n _ _ _ _ (by omega), uI_o _ _ _ _ (by decide), uI_o _ _ _ _ (by decide), uI_o _ _ _ _ (by decide)]
    exact tlF_76 ρ s h i
theorem tlF_2 (ρ s : St) : ∀ i, (tlF ρ s i).2 = s.2
  | 0 => rfl
  | i + 1 => tlF_2 ρ s i
theorem bkM_o (ρ : St) (m : Nat) {k j : Nat} (h : k ≠ 70 ∧ k ≠ 71 ∧ k ≠ 72 ∧ k ≠ 73 ∧ k ≠ 76 ∧ k ≠ 79) (h2 : k = 63 → j ≠ 10 ∧ j ≠ 22) : (bkM ρ m).1 k j = ρ.1 k j := by
  obtain ⟨a1, a2, a3, a4, a5, a6⟩ := h
  unfold bkM bm6 bm4 bm2
  rw [fl_o _ _ _ _ a6]
  by_cases e : k = 63
  · subst e
    rw [uI_n _ _ _ _ (h2 rfl).2, tlF_o _ _ (by decide), uI_o _ _ _ _ (by decide), fl_o _ _ _ _ (by decide), cpF_other _ _ _ _ (by decide), uI_n _ _ _ _ (h2 rfl).1]
  · rw [uI_o _ _ _ _ e, tlF_o _ _ ⟨a2, a3, a4, a5⟩, uI_o _ _ _ _ a5, fl_o _ _ _ _ a5, cpF_other _ _ _ _ a1, uI_o _ _ _ _ e]
theorem bkM_n (ρ : St) (m : Nat) : (bkM ρ m).1 63 10 = nI m := by
  unfold bkM bm6 bm4 bm2
  rw [fl_o _ _ _ _ (by decide), uI_n _ _ _ _ (by decide), tlF_o _ _ (by decide), uI_o _ _ _ _ (by decide), fl_o _ _ _ _ (by decide), cpF_other _ _ _ _ (by decide), uI_s]
theorem bkM_D (ρ : St) (m : Nat) : (bkM ρ m).1 63 22 = 0 := by
  unfold bkM bm6
  rw [fl_o _ _ _ _ (by decide), uI_s]
theorem bkM_h (ρ : St) (m : Nat) {k : Nat} (hk : k < 4) : (bkM ρ m).1 70 k = ρ.1 74 k := by
  unfold bkM bm6 bm4 bm2
  rw [fl_o _ _ _ _ (by decide), uI_o _ _ _ _ (by decide), tlF_o _ _ (by decide), uI_o _ _ _ _ (by decide), fl_o _ _ _ _ (by decide)]
  exact cpF_a0 _ _ _ hk
theorem bkM_t (ρ : St) (m : Nat) {i : Nat} (hi : i < m) : (bkM ρ m).1 71 i = ρ.1 75 (4 * i) ∧ (bkM ρ m).1 72 i = ρ.1 75 (4 * i + 1) ∧ (bkM ρ m).1 73 i = ρ.1 75 (4 * i + 2) ∧ (bkM ρ m).1 76 (5 + i) = ρ.1 75 (4 * i + 3) := by
  obtain ⟨h1, h2, h3, h4⟩ := tlF_at ρ (bm4 ρ m) m i hi
  unfold bkM bm6
  refine ⟨?_, ?_, ?_, ?_⟩
  · rw [fl_o _ _ _ _ (by decide), uI_o _ _ _ _ (by decide)]; exact h1
  · rw [fl_o _ _ _ _ (by decide), uI_o _ _ _ _ (by decide)]; exact h2
  · rw [fl_o _ _ _ _ (by decide), uI_o _ _ _ _ (by decide)]; exact h3
  · rw [fl_o _ _ _ _ (by decide), uI_o _ _ _ _ (by decide)]; exact h4
theorem bkM_L (ρ : St) (m : Nat) : (bkM ρ m).1 76 0 = nI (2 ^ m - 1) := by
  unfold bkM bm6
  rw [fl_o _ _ _ _ (by decide), uI_o _ _ _ _ (by decide), tlF_76 _ _ (by decide)]
  unfold bm4
  rw [uI_s]
theorem bkM_z (ρ : St) (m : Nat) {j : Nat} (h1 : 1 ≤ j) (h : j < 5) : (bkM ρ m).1 76 j = 0 := by
  unfold bkM bm6
  rw [fl_o _ _ _ _ (by decide), uI_o _ _ _ _ (by decide), tlF_76 _ _ h]
  unfold bm4
  rw [uI_n _ _ _ _ (by omega)]
  exact fl_a0 _ _ _ (by omega)
theorem bkM_k (ρ : St) (m : Nat) {j : Nat} (h : j < 3) : (bkM ρ m).1 79 j = 0 := fl_a0 _ _ _ h
theorem fl_2 (σ : St) (k off : Nat) (v : Int32) : ∀ i, (fl σ k off v i).2 = σ.2
  | 0 => rfl
  | i + 1 => fl_2 σ k off v i
theorem bkM_2 (ρ : St) (m : Nat) : (bkM ρ m).2 = ρ.2 := by
  unfold bkM bm6 bm4 bm2
  rw [fl_2]
  show (tlF _ _ _).2 = _
  rw [tlF_2]
  show (fl _ _ _ _ _).2 = _
  rw [fl_2, cpF_2]
  rfl
theorem kkS_o (s : St) {k : Nat} (h : k ≠ 53 ∧ k ≠ 56 ∧ k ≠ 59) : (kkS s 3).1 k = s.1 k := by
  show (uI (uI (uI s 53 2 (-1)) 56 2 (-1)) 59 2 (-1)).1 k = _
  rw [uI_o _ _ _ _ h.2.2, uI_o _ _ _ _ h.2.1, uI_o _ _ _ _ h.1]
theorem kkS_k (s : St) : (kkS s 3).1 53 2 = -1 ∧ (kkS s 3).1 56 2 = -1 ∧ (kkS s 3).1 59 2 = -1 := by
  show (uI (uI (uI s 53 2 (-1)) 56 2 (-1)) 59 2 (-1)).1 53 2 = _ ∧ (uI (uI (uI s 53 2 (-1)) 56 2 (-1)) 59 2 (-1)).1 56 2 = _ ∧ (uI (uI (uI s 53 2 (-1)) 56 2 (-1)) 59 2 (-1)).1 59 2 = _
  refine ⟨?_, ?_, ?_⟩
  · rw [uI_o _ _ _ _ (by decide), uI_o _ _ _ _ (by decide), uI_s]
  · rw [uI_o _ _ _ _ (by decide), uI_s]
  · rw [uI_s]
theorem RB_new {F : Nat → Nat → Int32} {n : Nat} {kd : Nat → Nat} (h6 : n ≤ 6) (h1 : F 19 8 = nI n) (h2 : F 63 10 = nI n) (h3 : F 19 13 = nI (gaN kd n)) (h4 : RBi F n kd) (h5 : RBh F n) (h7 : F 49 2 = 0) (h8 : F 63 22 = 0) (ht : F 19 14 = nI (2 ^ n - 1) ∧ F 19 16 = 0 ∧ F 19 17 = 0 ∧ F 19 15 = 0 ∧ F 19 18 = 0 ∧ ∀ i, i < n → F 31 i = F 30 i) (hg : F 76 0 = nI (2 ^ n - 1) ∧ F 76 1 = 0 ∧ F 76 2 = 0 ∧ F 76 3 = 0 ∧ F 76 4 = 0 ∧ ∀ i, i < n → F 76 (5 + i) = F 30 i) (hc : ∀ i, i < n → ∃ c, c < 3 ∧ F 30 i = nI c) (hk : F 53 2 = -1 ∧ F 56 2 = -1 ∧ F 59 2 = -1) (hk2 : ∀ k, k < 3 → F 79 k = 0) : RB F n kd 0 (fun _ => 0) (fun _ => 0) := by
  refine ⟨h6, h1, h2, h3, h4, h5, ⟨by decide, h7, h8, fun i hi => absurd hi (Nat.not_lt_zero _), ht, hg, fun d hd => absurd hd (Nat.not_lt_zero _), fun d hd => ?_⟩, Or.inl ⟨hk.1, hk2 0 (by decide)⟩, Or.inl ⟨hk.2.1, hk2 1 (by decide)⟩, Or.inl ⟨hk.2.2, hk2 2 (by decide)⟩⟩
  obtain rfl : d = 0 := by omega
  refine ⟨?_, Or.inl rfl, hc, 0, Nat.zero_le _, nI_0.symm⟩
  have := Nat.two_pow_pos n
  show 2 ^ n - 1 < 2 ^ n
  omega
theorem rg_n {x : Int32} {H : Nat} (h : 0 ≤ x) (h2 : x ≤ nI H) (hH : H < 1000) : ∃ s, s < H + 1 ∧ x = nI s := ⟨ix x, by have := ix_le h2 (by omega); omega, ix_eq h⟩
theorem lh_T0 : loT 0 = 0 ∧ hiT 0 = nI 9 ∧ loT 1 = 0 ∧ hiT 1 = nI 9 ∧ loT 2 = 0 ∧ hiT 2 = nI 2 := by decide
theorem lh_B0 : loB 0 = 0 ∧ hiB 0 = nI 9 ∧ loB 1 = 0 ∧ hiB 1 = nI 9 ∧ loB 2 = 0 ∧ hiB 2 = nI 9 ∧ loB 3 = 1 ∧ hiB 3 = nI 6 := by decide
theorem rd_T {f : Nat → Int32} {p : Nat} (h : ffk f loT hiT p 3 = 3) : (∃ s, s < 10 ∧ f (p + 0) - 48 = nI s) ∧ (∃ s, s < 10 ∧ f (p + 1) - 48 = nI s) ∧ ∃ s, s < 3 ∧ f (p + 2) - 48 = nI s := by
  have h0 := ffk_ok 3 h 0 (by decide)
  have h1 := ffk_ok 3 h 1 (by decide)
  have h2 := ffk_ok 3 h 2 (by decide)
  obtain ⟨a1, a2, a3, a4, a5, a6⟩ := lh_T0
  unfold okD at h0 h1 h2
  rw [a1, a2] at h0
  rw [a3, a4] at h1
  rw [a5, a6] at h2
  exact ⟨rg_n h0.1 h0.2 (by decide), rg_n h1.1 h1.2 (by decide), rg_n h2.1 h2.2 (by decide)⟩
theorem rd_B {f : Nat → Int32} {p : Nat} (h : ffk f loB hiB p 4 = 4) : (∃ s, s < 10 ∧ f (p + 0) - 48 = nI s) ∧ (∃ s, s < 10 ∧ f (p + 1) - 48 = nI s) ∧ (∃ s, s < 10 ∧ f (p + 2) - 48 = nI s) ∧ ∃ s, s < 7 ∧ f (p + 3) - 48 = nI s ∧ 0 < s := by
  have h0 := ffk_ok 4 h 0 (by decide)
  have h1 := ffk_ok 4 h 1 (by decide)
  have h2 := ffk_ok 4 h 2 (by decide)
  have h3 := ffk_ok 4 h 3 (by decide)
  obtain ⟨a1, a2, a3, a4, a5, a6, a7, a8⟩ := lh_B0
  unfold okD at h0 h1 h2 h3
  rw [a1, a2] at h0
  rw [a3, a4] at h1
  rw [a5, a6] at h2
  rw [a7, a8] at h3
  have e : (0 : Int32) ≤ f (p + 3) - 48 := by
    have := h3.1
    simp only [Int32.le_iff_toInt_le] at this ⊢
    have e1 : (1 : Int32).toInt = 1 := rfl
    have e0 : (0 : Int32).toInt = 0 := rfl
    omega
  obtain ⟨s, hs, es⟩ := rg_n e h3.2 (by decide)
  refine ⟨rg_n h0.1 h0.2 (by decide), rg_n h1.1 h1.2 (by decide), rg_n h2.1 h2.2 (by decide), s, hs, es, ?_⟩
  have q := h3.1
  rw [es] at q
  exact nI_1le q (by omega)
theorem scrB_63 {k j : Nat} (h : k < 63) : scrB k j = false := by
  cases e : scrB k j
  · rfl
  · exfalso
    unfold scrB at e
    simp only [Bool.or_eq_true, Bool.and_eq_true, beq_iff_eq] at e
    omega
theorem st_num {k j : Nat} (h : isX k = true ∨ isZ k j = true) : (k ≠ 19 ∧ k ≠ 31 ∧ k ≠ 49 ∧ k ≠ 53 ∧ k ≠ 56 ∧ k ≠ 59 ∧ ¬ (27 ≤ k ∧ k ≤ 30)) ∧ (k ≠ 70 ∧ k ≠ 71 ∧ k ≠ 72 ∧ k ≠ 73 ∧ k ≠ 76 ∧ k ≠ 79) ∧ (k = 63 → j ≠ 10 ∧ j ≠ 22) := by
  unfold isX isZ at h
  simp only [Bool.or_eq_true, Bool.and_eq_true, beq_iff_eq, Nat.ble_eq] at h
  omega
theorem gn_ga {kd : Nat → Nat} {n : Nat} (h : ∀ i, i < n → kd i < 6) : gnT kd n = gaN kd n := mkN_c n (fun i hi => by
  have e : ∀ k, k < 6 → ofB k 3 = isG k := by decide
  exact e _ (h i hi))
theorem bk_tm {σ κ ι τ : St} {n : Nat} (hκ : frT σ κ) (h2 : ldB κ ι n) (hτ : τ = kkS (uI (rsS ι n) 49 2 0) 3) : TM σ τ := by
  refine ⟨fun k hk => funext fun j => ?_, fun k hk => ?_⟩
  · rw [hτ, kkS_o _ (by omega), uI_o _ _ _ _ (by omega), rsS_k _ _ (by omega) (by omega), h2.2.2.2.2.2.1 k j (by omega) (by omega)]
    exact congrFun (hκ.tm.1 k hk) j
  · rw [hτ]
    show (rsS ι n).2 k = _
    rw [show (rsS ι n).2 = ι.2 from cpF_2 _ _ _ _ _, h2.2.2.2.2.2.2]
    exact hκ.tm.2 k hk
theorem bk_new {σ κ ι τ ω ρ : St} {f : Nat → Int32} {N n : Nat} (h : Rel σ) (hκ : frT σ κ) (hn : (rdF f N).2 = n) (h1 : bkT f N κ) (h2 : ldB κ ι n) (h3 : ldA κ ι (kdF f N) n) (hτ : τ = kkS (uI (rsS ι n) 49 2 0) 3) (hf : fr τ ω) (h4 : bkD f N ω) (hρ : ρ = bkM ω n) : Rel ρ := by
  have t := bk_tm hκ h2 hτ
  obtain ⟨b1, b2, b3, b4, b5⟩ := h1
  obtain ⟨g1, -, -, g4, -, g6⟩ := h4
  rw [hn] at b1 b2 b5 g1 g6
  obtain ⟨l1, l2, l3, l4, l5, l6, l7⟩ := h2
  obtain ⟨m1, m2⟩ := h3
  have a : ∀ k, k < 63 → ρ.1 k = τ.1 k := fun k hk => funext fun j => by
    rw [hρ, bkM_o _ _ (by omega) (by omega)]
    exact hf.1 k j (scrB_63 hk)
  have c : ∀ k, k ≠ 19 ∧ k ≠ 31 ∧ k ≠ 49 ∧ k ≠ 53 ∧ k ≠ 56 ∧ k ≠ 59 → τ.1 k = ι.1 k := fun k hk => by
    rw [hτ, kkS_o _ (by omega), uI_o _ _ _ _ hk.2.2.1, rsS_k _ _ hk.1 hk.2.1]
  have c19 : ∀ j, j ≠ 14 ∧ j ≠ 15 ∧ j ≠ 16 ∧ j ≠ 17 ∧ j ≠ 18 → ρ.1 19 j = ι.1 19 j := fun j hj => by
    rw [a 19 (by decide), hτ, kkS_o _ (by decide), uI_o _ _ _ _ (by decide), rsS_f _ _ hj]
  have r19 : τ.1 19 = (rsS ι n).1 19 := by
    rw [hτ, kkS_o _ (by decide), uI_o _ _ _ _ (by decide)]
  have r31 : τ.1 31 = (rsS ι n).1 31 := by
    rw [hτ, kkS_o _ (by decide), uI_o _ _ _ _ (by decide)]
  have hs : ∀ k j, isX k = true ∨ isZ k j = true → ρ.1 k j = σ.1 k j := fun k j e => by
    obtain ⟨n1, n2, n3⟩ := st_num e
    rw [hρ, bkM_o _ _ n2 n3, hf.1 k j (b_scr (Or.inr e)), c k ⟨n1.1, n1.2.1, n1.2.2.1, n1.2.2.2.1, n1.2.2.2.2.1, n1.2.2.2.2.2.1⟩, l6 k j n1.1 n1.2.2.2.2.2.2]
    exact hκ.1 k j (b_scrT (j := j) (Or.inr e))
  obtain ⟨q1, q2, q3, q4, q5⟩ := h.fd
  refine ⟨RA_of h.1 (fun k j e => hs k j (Or.inl e)) (fun i hi => ?_) ?_ ?_, ⟨?_, ?_⟩, n, kdF f N, 0, (fun _ => 0), (fun _ => 0), ?_⟩
  · rw [hs 62 i (Or.inr rfl), hs 64 i (Or.inr rfl)]; exact q1 i hi
  · rw [hs 0 11 (Or.inr rfl), hs 63 0 (Or.inr rfl)]; exact q2
  · rw [hs 0 12 (Or.inr rfl), hs 63 2 (Or.inr rfl)]; exact q3
  · rw [hρ, bkM_2, hf.2 0 13 rfl, hf.2 63 3 rfl, hτ]
    show (rsS ι n).2 0 13 = (rsS ι n).2 63 3
    rw [show (rsS ι n).2 = ι.2 from cpF_2 _ _ _ _ _, l7, hκ.2]
    exact q4
  · rw [hρ, bkM_2, hf.2 0 14 rfl, hf.2 63 4 rfl, hτ]
    show (rsS ι n).2 0 14 = (rsS ι n).2 63 4
    rw [show (rsS ι n).2 = ι.2 from cpF_2 _ _ _ _ _, l7, hκ.2]
    exact q5
  · have hkd : ∀ i, i < n → kbF (f (QQ f N i)) = nI (kdF f N i) ∧ kdF f N i < 6 := fun i hi => kdF_eq (b5 i hi).2.1
    have hh : ∀ j, j < 4 → ρ.1 70 j = f (P0 f N + j) - 48 := fun j hj => by
      rw [hρ, bkM_h _ _ hj]
      exact g4 j hj
    obtain ⟨x0, x1, x2, x3⟩ := rd_B b4
    have e0 := b3 0 (by decide)
    have e1 := b3 1 (by decide)
    have e2 := b3 2 (by decide)
    have e3 := b3 3 (by decide)
    have d27 : ∀ k, 27 ≤ k → k ≤ 30 → ρ.1 k = ι.1 k := fun k k1 k2 => (a k (by omega)).trans (c k (by omega))
    have y0 : ρ.1 19 9 = f (P0 f N + 0) - 48 := by rw [c19 9 (by decide), l2]; exact e0
    have y1 : ρ.1 19 10 = f (P0 f N + 1) - 48 := by rw [c19 10 (by decide), l3]; exact e1
    have y2 : ρ.1 19 11 = f (P0 f N + 2) - 48 := by rw [c19 11 (by decide), l4]; exact e2
    have y3 : ρ.1 19 12 = f (P0 f N + 3) - 48 := by rw [c19 12 (by decide), l5]; exact e3
    have z30 : ∀ i, i < n → ρ.1 30 i = f (QQ f N i + 1 + 2) - 48 := fun i hi => by
      rw [d27 30 (by decide) (by decide), (m1 i hi).2.2.2]
      exact (b5 i hi).2.2.2 2 (by decide)
    refine RB_new b1 ?_ ?_ ?_ (fun i hi => ?_) ?_ ?_ ?_ ?_ ?_ (fun i hi => ?_) ?_ (fun k hk => ?_)
    · rw [c19 8 (by decide), l1]
    · rw [hρ, bkM_n]
    · rw [c19 13 (by decide), m2, gn_ga (fun i hi => (hkd i hi).2)]
    · obtain ⟨j1, j2, j3, j4⟩ := m1 i hi
      obtain ⟨k1, k2, k3, k4⟩ := b5 i hi
      obtain ⟨w1, w2, w3, w4⟩ := g6 i hi
      obtain ⟨t1, t2, t3, t4⟩ := bkM_t ω n hi
      obtain ⟨v1, v2, -⟩ := rd_T k3
      have u1 : ρ.1 28 i = f (QQ f N i + 1 + 0) - 48 := by
        rw [d27 28 (by decide) (by decide), j2]
        exact k4 0 (by decide)
      have u2 : ρ.1 29 i = f (QQ f N i + 1 + 1) - 48 := by
        rw [d27 29 (by decide) (by decide), j3]
        exact k4 1 (by decide)
      refine ⟨?_, ?_, (hkd i hi).2, ?_, ?_, ?_, ?_⟩
      · rw [d27 27 (by decide) (by decide)]; exact j1
      · rw [hρ, t1, w1]; exact (hkd i hi).1
      · rw [u1, hρ, t2]; exact (w4 0 (by decide)).symm
      · rw [u2, hρ, t3]; exact (w4 1 (by decide)).symm
      · rw [u1]; exact v1
      · rw [u2]; exact v2
    · unfold RBh
      rw [y0, y1, y2, y3]
      refine ⟨(hh 0 (by decide)).symm, (hh 1 (by decide)).symm, (hh 2 (by decide)).symm, (hh 3 (by decide)).symm, x0, x1, x2, ?_⟩
      obtain ⟨s, s1, s2, s3⟩ := x3
      exact ⟨s, s1, s2, fun _ => s3⟩
    · rw [a 49 (by decide), hτ, kkS_o _ (by decide), uI_s]
    · rw [hρ, bkM_D]
    · rw [a 19 (by decide), r19, a 31 (by decide), r31, d27 30 (by decide) (by decide)]
      unfold rsS
      refine ⟨?_, ?_, ?_, ?_, uI_s _ _ _ _, fun i hi => ?_⟩
      · rw [uI_n _ _ _ _ (by decide), uI_n _ _ _ _ (by decide), uI_n _ _ _ _ (by decide), uI_n _ _ _ _ (by decide), uI_s]
      · rw [uI_n _ _ _ _ (by decide), uI_n _ _ _ _ (by decide), uI_s]
      · rw [uI_n _ _ _ _ (by decide), uI_s]
      · rw [uI_n _ _ _ _ (by decide), uI_n _ _ _ _ (by decide), uI_n _ _ _ _ (by decide), uI_s]
      · rw [uI_o _ _ _ _ (by decide), uI_o _ _ _ _ (by decide), uI_o _ _ _ _ (by decide), uI_o _ _ _ _ (by decide), uI_o _ _ _ _ (by decide)]
        exact cpF_a0 _ _ _ hi
    · rw [hρ]
      refine ⟨bkM_L _ _, bkM_z _ _ (by decide) (by decide), bkM_z _ _ (by decide) (by decide), bkM_z _ _ (by decide) (by decide), bkM_z _ _ (by decide) (by decide), fun i hi => ?_⟩
      rw [← hρ, z30 i hi, hρ, (bkM_t ω n hi).2.2.2]
      exact (g6 i hi).2.2.2 2 (by decide)
    · obtain ⟨-, -, k3, -⟩ := b5 i hi
      rw [z30 i hi]
      exact (rd_T k3).2.2
    · rw [a 53 (by decide), a 56 (by decide), a 59 (by decide), hτ]
      exact kkS_k _
    · rw [hρ]
      exact bkM_k _ _ hk
def tBook (σ τ : St) (v x : Int32) (f : Nat → Int32) (N : Nat) : Prop := (¬ inR v 4 ∧ (x, τ) = (-1, σ)) ∨ (inR v 4 ∧ σ.1 14 (ix v) < 0 ∧ (x, τ) = (-3, tRef σ 1)) ∨ (inR v 4 ∧ 0 ≤ σ.1 14 (ix v) ∧ ¬ (rdF f N).1 = -9 ∧ -4 = x ∧ frT σ τ) ∨ (inR v 4 ∧ 0 ≤ σ.1 14 (ix v) ∧ (rdF f N).1 = -9 ∧ ∃ κ ι, frT σ κ ∧ bkT f N κ ∧ ldB κ ι (rdF f N).2 ∧ ldA κ ι (kdF f N) (rdF f N).2 ∧ nI (rdF f N).2 = x ∧ τ = kkS (uI (rsS ι (rdF f N).2) 49 2 0) 3)
theorem q_book {σ τ : St} {v x : Int32} {f : Nat → Int32} {N : Nat} (ht : tBook σ τ v x f N) : TM σ τ := by
  rcases ht with ⟨-, e⟩ | ⟨-, -, e⟩ | ⟨-, -, -, -, e⟩ | ⟨-, -, -, κ, ι, k1, -, k3, -, -, k6⟩
  · rw [show τ = σ from congrArg Prod.snd e]
    exact TM.rf
  · rw [show τ = tRef σ 1 from congrArg Prod.snd e]
    exact TM.rf.r
  · exact e.tm
  · exact bk_tm k1 k3 k6
theorem e_book {σ τ ω ρ : St} {v x y : Int32} (h : Rel σ) (ht : tBook σ τ v x (bTf σ (ix v) (ix (σ.1 14 (ix v)))) (ix (σ.1 14 (ix v)))) (hf : fr τ ω) (hm : (y, ρ) = mBook τ ω v) (hb : inR v 4 ∧ 0 ≤ τ.1 68 (ix v) ∧ (rdF (bMf τ (ix v) (szN τ (ix v))) (szN τ (ix v))).1 = -9 → bkD (bMf τ (ix v) (szN τ (ix v))) (szN τ (ix v)) ω) : x = y ∧ Rel ρ := by
  have t := q_book ht
  unfold mBook at hm
  by_cases c : inR v 4
  · obtain ⟨j, hj, ej, -⟩ := inR_nat (N := 4) c rfl (by decide)
    obtain ⟨a1, -, -, -⟩ := h.tx hj
    obtain ⟨s1, s2⟩ := bt_bm h t hj
    have a3 : τ.1 68 j = σ.1 14 j := by rw [t.1 68 (by decide), a1]
    rw [if_neg (fun q => q c), ej, a3, s1, s2] at hm
    rw [ej, a3, s1, s2] at hb
    rw [ej] at ht
    rcases ht with ⟨q, -⟩ | ⟨-, q, e⟩ | ⟨-, q, q2, e, e2⟩ | ⟨-, q, q2, κ, ι, k1, k2, k3, k4, k5, k6⟩
    · exact absurd c q
    · rw [ej] at q
      rw [if_pos q] at hm
      exact finFR 1 h e hf hm
    · rw [if_neg (i_nlt.mpr (by rw [ej] at q; exact q)), if_pos q2] at hm
      exact finF (h.frT e2) (show (x, τ) = (-4, τ) by rw [← e]) hf hm
    · rw [ej] at q
      rw [if_neg (i_nlt.mpr q), if_neg (fun r => r q2)] at hm
      have m1 : y = _ := congrArg Prod.fst hm
      have m2 : ρ = _ := congrArg Prod.snd hm
      refine ⟨by rw [m1, ← k5], ?_⟩
      exact bk_new h k1 rfl k2 k3 k4 k6 hf (hb ⟨c, q, q2⟩) m2
  · rw [if_pos c] at hm
    rcases ht with ⟨-, e⟩ | ⟨q, -⟩ | ⟨q, -⟩ | ⟨q, -⟩
    · exact finF h e hf hm
    · exact absurd q c
    · exact absurd q c
    · exact absurd q c
