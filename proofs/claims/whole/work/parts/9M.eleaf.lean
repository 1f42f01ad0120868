-- plans: the walk through them against the numbers one by one
theorem ln_and : ∀ n, n < 7 → ∀ x, x < 2 ^ n → x &&& (2 ^ n - 1) = x := by decide +kernel
theorem ai_lt {a : Int32} (h : -1 ≤ a) : ¬ a < -1 := fun q => by
  simp only [Int32.lt_iff_toInt_lt, Int32.le_iff_toInt_le] at h q
  omega
theorem ai_le {a b : Int32} (h : -1 ≤ a) (q : a < b) : -1 ≤ b := by
  simp only [Int32.lt_iff_toInt_lt, Int32.le_iff_toInt_le] at h q ⊢
  omega
theorem ai_ir {a : Int32} : ¬ a < a := fun q => by
  simp only [Int32.lt_iff_toInt_lt] at q
  omega
def RR (τ : St) (kd : Nat → Nat) (n L W : Nat) (s1 : St) (A : Nat) : Prop := (s1.1 34 8 = (bsS τ kd n L W A).2 ∧ -1 ≤ (bsS τ kd n L W A).2 ∧ ((bsS τ kd n L W A).2 = -1 ∨ ∀ i, i < W → s1.1 39 i = plN (n + 1) W (bsS τ kd n L W A).1 i)) ∧ s1.1 34 9 = nI (wyS τ kd n L W A).1 ∧ ∃ X, X < 64 ∧ s1.1 34 10 = nI X ∧ (wyS τ kd n L W A).2 = X &&& (2 ^ n - 1) ∧ ((wyS τ kd n L W A).1 = 0 ∨ (wyS τ kd n L W A).2 = X)
def S1 (τ : St) (kd : Nat → Nat) (n L : Nat) (s1 : St) : Prop := (∀ x, x < 64 → x &&& (63 ^^^ L) = 0 → s1.1 35 x = bI (trX τ kd n (nwC τ) x) ∧ s1.1 36 x = sumI (ltA kd (τ.1 72) (gaN kd n) x) n) ∧ (∀ i, i < n → s1.1 37 i = priceM (kd i) (τ.1 70 0) (τ.1 76 (5 + i))) ∧ s1.1 34 6 = τ.1 70 1 ∧ s1.1 34 7 = nI L
section
variable {τ : St} {n : Nat} {kd : Nat → Nat} {L W : Nat}
theorem S1.k {s1 s2 : St} (h : S1 τ kd n L s1) (p : plK s1 s2) : S1 τ kd n L s2 := by
  obtain ⟨h1, h2, h3, h4⟩ := h
  obtain ⟨p1, p2, -⟩ := p
  unfold S1
  rw [p1 35 (by decide) (by decide) (by decide), p1 36 (by decide) (by decide) (by decide), p1 37 (by decide) (by decide) (by decide), p2 6 (by decide) (by decide) (by decide), p2 7 (by decide) (by decide) (by decide)]
  exact ⟨h1, h2, h3, h4⟩
theorem RR.c {s1 s2 : St} {A : Nat} (h : RR τ kd n L W s1 A) (h34 : s2.1 34 = s1.1 34) (h39 : s2.1 39 = s1.1 39) : RR τ kd n L W s2 A := by
  unfold RR
  rw [h34, h39]
  exact h
theorem bs_flat {A : Nat} : ∀ len, (∀ c, A ≤ c → c < A + len → ¬ (bsS τ kd n L W A).2 < pgS τ kd n L W c) → bsS τ kd n L W (A + len) = bsS τ kd n L W A
  | 0, _ => rfl
  | len + 1, h => by
    have ih := bs_flat len (fun c h1 h2 => h c h1 (by omega))
    have e := bs_f (σ := τ) (kd := kd) (n := n) (a := L) (W := W) (c := A + len) (by rw [ih]; exact h (A + len) (by omega) (by omega))
    rw [← Nat.add_assoc, e, ih]
theorem wy_flat {A : Nat} : ∀ len, (∀ c, A ≤ c → c < A + len → ¬ (gdB (n + 1) L c W = true ∧ (gzS τ kd n L (plN (n + 1) W c) W).t = none)) → wyS τ kd n L W (A + len) = wyS τ kd n L W A
  | 0, _ => rfl
  | len + 1, h => by
    have ih := wy_flat len (fun c h1 h2 => h c h1 (by omega))
    have e := wy_f (σ := τ) (kd := kd) (n := n) (a := L) (W := W) (c := A + len) (h (A + len) (by omega) (by omega))
    rw [← Nat.add_assoc, e, ih]
theorem RR_mv {s1 : St} {A B : Nat} (h : RR τ kd n L W s1 A) (e1 : bsS τ kd n L W B = bsS τ kd n L W A) (e2 : wyS τ kd n L W B = wyS τ kd n L W A) : RR τ kd n L W s1 B := by
  unfold RR
  rw [e1, e2]
  exact h
theorem blk_e {N P k : Nat} : (P + 1) * N ^ k = P * N ^ k + N ^ k := by rw [Nat.add_mul, Nat.one_mul]
theorem blk_r {N P k c : Nat} (h1 : P * N ^ k ≤ c) (h2 : c < P * N ^ k + N ^ k) : ∃ r, r < N ^ k ∧ c = P * N ^ k + r := ⟨c - P * N ^ k, by omega, by omega⟩
theorem blk_no {P k w : Nat} (hW : w + k = W) (hv : ¬ Vd (n + 1) L P w) {s1 : St} (h : RR τ kd n L W s1 (P * (n + 1) ^ k)) : RR τ kd n L W s1 ((P + 1) * (n + 1) ^ k) := by
  have hg : ∀ c, P * (n + 1) ^ k ≤ c → c < P * (n + 1) ^ k + (n + 1) ^ k → ¬ gdB (n + 1) L c W = true := fun c h1 h2 q => by
    obtain ⟨r, hr, rfl⟩ := blk_r h1 h2
    exact hv (Vd_hi hW hr ((gd_vd W).mp q))
  rw [blk_e]
  refine RR_mv h (bs_flat _ (fun c h1 h2 => ?_)) (wy_flat _ (fun c h1 h2 q => hg c h1 h2 q.1))
  have e : pgS τ kd n L W c = -1 := if_neg (hg c h1 h2)
  rw [e]
  exact ai_lt h.1.2.1
theorem end_38 {w : Nat} {m : Int32} {s1 : St} : (endS W w m s1).1 38 = s1.1 38 := by
  unfold endS
  split
  · unfold fiS
    rw [cpF_other _ _ _ _ (by decide), uI_o _ _ _ _ (by decide)]
  · rfl
theorem blk_tr {P k w : Nat} (hW : w + k = W) (hv : Vd (n + 1) L P w) (ht : ¬ (gzS τ kd n L (plN (n + 1) w P) w).t = none) {s1 : St} (h : RR τ kd n L W s1 (P * (n + 1) ^ k)) (h38 : ∀ i, i < w → s1.1 38 i = plN (n + 1) w P i) : RR τ kd n L W (endS W w ((gzS τ kd n L (plN (n + 1) w P) w).m - τ.1 76 1) s1) ((P + 1) * (n + 1) ^ k) := by
  have hN : 0 < n + 1 := by omega
  have hy : ∀ r, r < (n + 1) ^ k → gzS τ kd n L (plN (n + 1) W (P * (n + 1) ^ k + r)) W = gzS τ kd n L (plN (n + 1) w P) w := fun r hr => by
    have e := gz_c (τ := τ) (kd := kd) (n := n) (L := L) w (fun i hi => pl_pre (N := n + 1) (P := P) hW hr hi)
    rw [gz_st (k := w) (by rw [e]; exact ht) (by omega), e]
  generalize em : (gzS τ kd n L (plN (n + 1) w P) w).m - τ.1 76 1 = m
  have hpg : ∀ c, P * (n + 1) ^ k ≤ c → c < P * (n + 1) ^ k + (n + 1) ^ k → pgS τ kd n L W c = m ∨ pgS τ kd n L W c = -1 := fun c h1 h2 => by
    obtain ⟨r, hr, rfl⟩ := blk_r h1 h2
    by_cases q : gdB (n + 1) L (P * (n + 1) ^ k + r) W = true
    · have e : pgS τ kd n L W (P * (n + 1) ^ k + r) = (gzS τ kd n L (plN (n + 1) W (P * (n + 1) ^ k + r)) W).m - τ.1 76 1 := if_pos q
      rw [hy r hr, em] at e
      exact Or.inl e
    · exact Or.inr (if_neg q)
  have hA : pgS τ kd n L W (P * (n + 1) ^ k) = m := by
    have q : gdB (n + 1) L (P * (n + 1) ^ k) W = true := (gd_vd W).mpr (Vd_0 hN hW hv)
    have e : pgS τ kd n L W (P * (n + 1) ^ k) = (gzS τ kd n L (plN (n + 1) W (P * (n + 1) ^ k)) W).m - τ.1 76 1 := if_pos q
    have e2 : gzS τ kd n L (plN (n + 1) W (P * (n + 1) ^ k)) W = gzS τ kd n L (plN (n + 1) w P) w := hy 0 (Nat.pow_pos hN)
    rw [e2, em] at e
    exact e
  have hwy : wyS τ kd n L W (P * (n + 1) ^ k + (n + 1) ^ k) = wyS τ kd n L W (P * (n + 1) ^ k) := wy_flat _ (fun c h1 h2 q => by
    obtain ⟨r, hr, rfl⟩ := blk_r h1 h2
    rw [hy r hr] at q
    exact ht q.2)
  rw [blk_e]
  have hl : -1 ≤ (bsS τ kd n L W (P * (n + 1) ^ k)).2 := h.1.2.1
  by_cases c : (bsS τ kd n L W (P * (n + 1) ^ k)).2 < m
  · obtain ⟨len, el⟩ : ∃ len, (n + 1) ^ k = 1 + len := ⟨(n + 1) ^ k - 1, by have := Nat.pow_pos (n := k) hN; omega⟩
    have b1 : bsS τ kd n L W (P * (n + 1) ^ k + 1) = (P * (n + 1) ^ k, m) := by
      have e := bs_t (σ := τ) (kd := kd) (n := n) (a := L) (W := W) (c := P * (n + 1) ^ k) (by rw [hA]; exact c)
      rw [e, hA]
    have hm : -1 ≤ m := ai_le hl c
    have b2 : bsS τ kd n L W (P * (n + 1) ^ k + (n + 1) ^ k) = (P * (n + 1) ^ k, m) := by
      have e := bs_flat (τ := τ) (kd := kd) (n := n) (L := L) (W := W) (A := P * (n + 1) ^ k + 1) len (fun c2 h1 h2 => by
        rw [b1]
        rcases hpg c2 (by omega) (by omega) with e | e
        · rw [e]
          exact ai_ir
        · rw [e]
          exact ai_lt hm)
      rw [b1] at e
      have e3 : P * (n + 1) ^ k + (n + 1) ^ k = P * (n + 1) ^ k + 1 + len := by omega
      rw [e3]
      exact e
    have ee : endS W w m s1 = fiS W w (uI s1 34 8 m) := by
      unfold endS
      rw [if_pos (by rw [h.1.1]; exact c)]
    have e34 : ∀ j, (fiS W w (uI s1 34 8 m)).1 34 j = (uI s1 34 8 m).1 34 j := fun j => by
      unfold fiS
      rw [cpF_other _ _ _ _ (by decide)]
    rw [ee]
    unfold RR
    rw [b2, hwy, e34, e34, e34, uI_s, uI_n _ _ _ _ (by decide), uI_n _ _ _ _ (by decide)]
    refine ⟨⟨rfl, hm, Or.inr (fun i hi => ?_)⟩, h.2⟩
    show (fiS W w (uI s1 34 8 m)).1 39 i = plN (n + 1) W (P * (n + 1) ^ k) i
    have e39 : (fiS W w (uI s1 34 8 m)).1 39 i = if i < w then (uI s1 34 8 m).1 38 i else -9 := cpF_a0 _ _ _ hi
    rw [e39]
    by_cases c2 : i < w
    · rw [if_pos c2, uI_o _ _ _ _ (by decide), h38 i c2]
      have e := pl_pre (N := n + 1) (P := P) (r := 0) hW (Nat.pow_pos hN) c2
      rw [Nat.add_zero] at e
      exact e.symm
    · rw [if_neg c2]
      exact (pl_post hW hN (by omega) hi).symm
  · have ee : endS W w m s1 = s1 := by
      unfold endS
      rw [if_neg (by rw [h.1.1]; exact c)]
    rw [ee]
    refine RR_mv h (bs_flat _ (fun c2 h1 h2 => ?_)) hwy
    rcases hpg c2 h1 h2 with e | e
    · rw [e]
      exact c
    · rw [e]
      exact ai_lt hl
theorem leaf (hn : n ≤ 6) (hL : L < 2 ^ n) {P : Nat} (hv : Vd (n + 1) L P W) (ht : (gzS τ kd n L (plN (n + 1) W P) W).t = none) {s1 : St} (h7 : s1.1 34 7 = nI L) (h : RR τ kd n L W s1 P) (h38 : ∀ i, i < W → s1.1 38 i = plN (n + 1) W P i) (stk : Int32) : RR τ kd n L W (gofS W 0 W (gzS τ kd n L (plN (n + 1) W P) W).L stk ((gzS τ kd n L (plN (n + 1) W P) W).m - τ.1 76 1) s1) (P + 1) ∧ ∀ i, i < W → (gofS W 0 W (gzS τ kd n L (plN (n + 1) W P) W).L stk ((gzS τ kd n L (plN (n + 1) W P) W).m - τ.1 76 1) s1).1 38 i = plN (n + 1) W P i := by
  have hq : gdB (n + 1) L P W = true := (gd_vd W).mpr hv
  have hL64 : L < 64 := Nat.lt_of_lt_of_le hL (p2_64 hn)
  have hM := gz_64 (σ := τ) (kd := kd) (n := n) (pl := plN (n + 1) W P) hL64 W
  have ew := wy_t (σ := τ) (kd := kd) (n := n) (a := L) (W := W) (c := P) ⟨hq, ht⟩
  have ep : pgS τ kd n L W P = (gzS τ kd n L (plN (n + 1) W P) W).m - τ.1 76 1 := if_pos hq
  generalize (gzS τ kd n L (plN (n + 1) W P) W).m - τ.1 76 1 = m at *
  generalize (gzS τ kd n L (plN (n + 1) W P) W).L = M at *
  show RR τ kd n L W (endS W W m (uI (uI s1 34 9 (s1.1 34 9 + 1)) 34 10 (s1.1 34 10 &&& (s1.1 34 7 &&& (nI M ^^^ (-1)))))) (P + 1) ∧ ∀ i, i < W → (endS W W m (uI (uI s1 34 9 (s1.1 34 9 + 1)) 34 10 (s1.1 34 10 &&& (s1.1 34 7 &&& (nI M ^^^ (-1)))))).1 38 i = plN (n + 1) W P i
  generalize e2 : uI (uI s1 34 9 (s1.1 34 9 + 1)) 34 10 (s1.1 34 10 &&& (s1.1 34 7 &&& (nI M ^^^ (-1)))) = s2
  obtain ⟨⟨r1, r2, r3⟩, r4, X, x1, x2, x3, x4⟩ := h
  have k38 : s2.1 38 = s1.1 38 := by rw [← e2, uI_o _ _ _ _ (by decide), uI_o _ _ _ _ (by decide)]
  have k39 : s2.1 39 = s1.1 39 := by rw [← e2, uI_o _ _ _ _ (by decide), uI_o _ _ _ _ (by decide)]
  have k8 : s2.1 34 8 = s1.1 34 8 := by rw [← e2, uI_n _ _ _ _ (by decide), uI_n _ _ _ _ (by decide)]
  have k9 : s2.1 34 9 = nI ((wyS τ kd n L W P).1 + 1) := by rw [← e2, uI_n _ _ _ _ (by decide), uI_s, r4, nI_1]
  have k10 : s2.1 34 10 = nI (X &&& (L &&& (63 ^^^ M))) := by rw [← e2, uI_s, x2, h7, sub6 hL64 hM, nI_and]
  have kK : (L &&& (63 ^^^ M)) &&& (2 ^ n - 1) = L &&& (63 ^^^ M) := ln_and n (by omega) _ (and_lt hL)
  have kE : X &&& (2 ^ n - 1) &&& (L &&& (63 ^^^ M)) = X &&& (L &&& (63 ^^^ M)) := by rw [Nat.and_assoc, Nat.and_comm (2 ^ n - 1), kK]
  have hw2 : s2.1 34 9 = nI (wyS τ kd n L W (P + 1)).1 ∧ ∃ X, X < 64 ∧ s2.1 34 10 = nI X ∧ (wyS τ kd n L W (P + 1)).2 = X &&& (2 ^ n - 1) ∧ ((wyS τ kd n L W (P + 1)).1 = 0 ∨ (wyS τ kd n L W (P + 1)).2 = X) := by
    rw [ew]
    refine ⟨k9, X &&& (L &&& (63 ^^^ M)), and_lt x1, k10, ?_, Or.inr ?_⟩
    · show (wyS τ kd n L W P).2 &&& (L &&& (63 ^^^ M)) = _
      rw [x3, kE, Nat.and_assoc, kK]
    · show (wyS τ kd n L W P).2 &&& (L &&& (63 ^^^ M)) = _
      rw [x3, kE]
  refine ⟨?_, fun i hi => by rw [end_38, k38]; exact h38 i hi⟩
  by_cases c : (bsS τ kd n L W P).2 < m
  · have eb : bsS τ kd n L W (P + 1) = (P, m) := by
      have e := bs_t (σ := τ) (kd := kd) (n := n) (a := L) (W := W) (c := P) (by rw [ep]; exact c)
      rw [e, ep]
    have ee : endS W W m s2 = fiS W W (uI s2 34 8 m) := by
      unfold endS
      rw [if_pos (by rw [k8, r1]; exact c)]
    have e34 : ∀ j, (fiS W W (uI s2 34 8 m)).1 34 j = (uI s2 34 8 m).1 34 j := fun j => by
      unfold fiS
      rw [cpF_other _ _ _ _ (by decide)]
    rw [ee]
    unfold RR
    rw [eb, e34, e34, e34, uI_s, uI_n _ _ _ _ (by decide), uI_n _ _ _ _ (by decide)]
    refine ⟨⟨rfl, ai_le r2 c, Or.inr (fun i hi => ?_)⟩, hw2⟩
    show (fiS W W (uI s2 34 8 m)).1 39 i = plN (n + 1) W P i
    have e39 : (fiS W W (uI s2 34 8 m)).1 39 i = if i < W then (uI s2 34 8 m).1 38 i else -9 := cpF_a0 _ _ _ hi
    rw [e39, if_pos hi, uI_o _ _ _ _ (by decide), k38, h38 i hi]
  · have eb : bsS τ kd n L W (P + 1) = bsS τ kd n L W P := bs_f (by rw [ep]; exact c)
    have ee : endS W W m s2 = s2 := by
      unfold endS
      rw [if_neg (by rw [k8, r1]; exact c)]
    rw [ee]
    unfold RR
    rw [eb, k8, k39]
    exact ⟨⟨r1, r2, r3⟩, hw2⟩
end
