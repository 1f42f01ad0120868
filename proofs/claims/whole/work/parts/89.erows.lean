-- rows and texts: equal answers
theorem fin0 {σ τ ρ : St} {x y a : Int32} (h : Rel σ) (ht : (x, τ) = (a, σ)) (hm : (y, ρ) = (a, τ)) : x = y ∧ Rel ρ := by
  obtain ⟨rfl, rfl⟩ := Prod.mk.inj ht
  obtain ⟨rfl, rfl⟩ := Prod.mk.inj hm
  exact ⟨rfl, h⟩
theorem finR {σ τ ρ : St} {x y a : Int32} (f : Nat) (h : Rel σ) (ht : (x, τ) = (a, tRef σ f)) (hm : (y, ρ) = (a, mRef τ f)) : x = y ∧ Rel ρ := by
  obtain ⟨rfl, rfl⟩ := Prod.mk.inj ht
  obtain ⟨rfl, rfl⟩ := Prod.mk.inj hm
  exact ⟨rfl, h.ref f⟩
theorem finT {σ τ ρ : St} {x y a v : Int32} (h : Rel σ) (ht : (x, τ) = (a, uI σ 0 12 v)) (hm : (y, ρ) = (a, uI τ 63 2 v)) : x = y ∧ Rel ρ := by
  obtain ⟨rfl, rfl⟩ := Prod.mk.inj ht
  obtain ⟨rfl, rfl⟩ := Prod.mk.inj hm
  exact ⟨rfl, h.tell v⟩
def rwR (F : Nat → Nat → Int32) (r : Nat) : Prop := F 8 r = F 65 r ∧ -1 ≤ F 8 r ∧ F 8 r ≤ 40 ∧ ∀ i, i < ix (F 8 r) → F (2 + r) i = F 66 (40 * r + i)
def txR (F : Nat → Nat → Int32) (t : Nat) : Prop := F 14 t = F 68 t ∧ -1 ≤ F 14 t ∧ F 14 t ≤ 60 ∧ ∀ i, i < ix (F 14 t) → F (10 + t) i = F 69 (60 * t + i)
theorem ixN {s : Int32} {N : Nat} (hN : N < 2147483648) (h : s ≤ nI N) : ix s ≤ N := by
  have h1 : s.toInt ≤ (nI N).toInt := Int32.le_iff_toInt_le.mp h
  rw [nI_toInt hN] at h1
  show s.toInt.toNat ≤ N
  omega
theorem Rel_x {σ ρ : St} (h : Rel σ) (hr : ∀ r, r < 6 → rwR ρ.1 r) (ht : ∀ t, t < 4 → txR ρ.1 t) (hb : kp isB σ ρ) (h62 : ρ.1 62 = σ.1 62) (h64 : ρ.1 64 = σ.1 64) (h1 : ρ.1 0 11 = ρ.1 63 0) (h2 : ρ.1 0 12 = ρ.1 63 2) (e2 : ρ.2 = σ.2) : Rel ρ := by
  obtain ⟨⟨-, -, a, -⟩, u, n, kd, D, wN, aN, hB⟩ := h
  refine ⟨⟨hr, ht, fun f hf => ?_, h1, h2⟩, ?_, n, kd, D, wN, aN, hB.keep hb⟩
  · rw [h62, h64]
    exact a f hf
  · unfold RU
    rw [e2]
    exact u
theorem Rel.rw {σ : St} (h : Rel σ) {r : Nat} (hr : r < 6) : rwR σ.1 r := h.1.1 r hr
theorem Rel.tx {σ : St} (h : Rel σ) {t : Nat} (ht : t < 4) : txR σ.1 t := h.1.2.1 t ht
theorem rw_k {F F' : Nat → Nat → Int32} {r : Nat} (h : rwR F r) (e1 : F' 8 r = F 8 r) (e2 : F' 65 r = F 65 r) (e3 : ∀ i, i < 40 → F' (2 + r) i = F (2 + r) i) (e4 : ∀ i, i < 40 → F' 66 (40 * r + i) = F 66 (40 * r + i)) : rwR F' r := by
  obtain ⟨a, b, c, d⟩ := h
  have hz := ixN (N := 40) (by omega) c
  unfold rwR
  rw [e1, e2]
  exact ⟨a, b, c, fun i hi => (e3 i (by omega)).trans ((d i hi).trans (e4 i (by omega)).symm)⟩
theorem tx_k {F F' : Nat → Nat → Int32} {t : Nat} (h : txR F t) (e1 : F' 14 t = F 14 t) (e2 : F' 68 t = F 68 t) (e3 : ∀ i, i < 60 → F' (10 + t) i = F (10 + t) i) (e4 : ∀ i, i < 60 → F' 69 (60 * t + i) = F 69 (60 * t + i)) : txR F' t := by
  obtain ⟨a, b, c, d⟩ := h
  have hz := ixN (N := 60) (by omega) c
  unfold txR
  rw [e1, e2]
  exact ⟨a, b, c, fun i hi => (e3 i (by omega)).trans ((d i hi).trans (e4 i (by omega)).symm)⟩
theorem Rel.mR {σ τ : St} (h : Rel σ) (t : TM σ τ) : mRowsOk τ := fun j hj => by
  obtain ⟨a, b, c, d⟩ := h.rw hj
  rw [t.1 65 (by decide), ← a]
  exact c
theorem Rel.mT {σ τ : St} (h : Rel σ) (t : TM σ τ) : mTextsOk τ := fun j hj => by
  obtain ⟨a, b, c, d⟩ := h.tx hj
  rw [t.1 68 (by decide), ← a]
  exact c
theorem Rel.tR {σ : St} (h : Rel σ) : rowsOk σ := fun j hj => (h.rw hj).2.2.1
theorem Rel.tT {σ : St} (h : Rel σ) : textsOk σ := fun j hj => (h.tx hj).2.2.1
theorem fl_c (σ : St) (k off : Nat) (v : Int32) : ∀ m, fl σ k off v m = cpF σ k off (fun _ => v) m
  | 0 => rfl
  | m + 1 => by rw [fl, cpF, fl_c σ k off v m]
theorem ix_in {i s : Int32} (h : ¬ (i < 0 ∨ s ≤ i)) (hs : s ≤ 60) : ix i < ix s := by
  have h0 : 0 ≤ i := i_nlt.mp (fun r => h (Or.inl r))
  have h1 : i < s := i_lt_le.mp (fun r => h (Or.inr r))
  have h2 := ixN (N := 60) (by omega) hs
  exact ix_lt h0 h1 (ix_eq (by
    simp only [Int32.lt_iff_toInt_lt, Int32.le_iff_toInt_le] at *
    omega)) (by omega)
theorem le4060 {s : Int32} (h : s ≤ 40) : s ≤ 60 := by
  simp only [Int32.le_iff_toInt_le] at *
  have h1 : (40 : Int32).toInt = 40 := rfl
  have h2 : (60 : Int32).toInt = 60 := rfl
  omega
theorem isB_r {j k : Nat} (h : j < 6) : isB (2 + j) k = false := by
  cases e : isB (2 + j) k
  · rfl
  · exfalso
    unfold isB at e
    simp only [Bool.or_eq_true, Bool.and_eq_true, beq_iff_eq, Nat.ble_eq] at e
    omega
theorem isB_t {j k : Nat} (h : j < 4) : isB (10 + j) k = false := by
  cases e : isB (10 + j) k
  · rfl
  · exfalso
    unfold isB at e
    simp only [Bool.or_eq_true, Bool.and_eq_true, beq_iff_eq, Nat.ble_eq] at e
    omega
theorem q_at {σ τ : St} {r i x : Int32} (ht : (x, τ) = tAt σ r i) : TM σ τ := by
  rw [show τ = (tAt σ r i).2 from congrArg Prod.snd ht]
  unfold tAt
  split
  · exact TM.rf
  · split
    · exact TM.rf.r
    · split
      · exact TM.rf.r
      · exact TM.rf.u (by decide)
theorem e_at {σ τ ρ : St} (h : Rel σ) {r i x y : Int32} (ht : (x, τ) = tAt σ r i) (hm : (y, ρ) = mAt τ r i) : x = y ∧ Rel ρ := by
  have t := q_at ht
  unfold tAt at ht
  unfold mAt at hm
  rw [t.1 65 (by decide), t.1 66 (by decide)] at hm
  by_cases c : inR r 6
  · obtain ⟨j, hj, ej, -⟩ := inR_nat (N := 6) c rfl (by decide)
    obtain ⟨a1, a2, a3, a4⟩ := h.rw hj
    rw [if_neg (fun q => q c), ej] at ht hm
    rw [← a1] at hm
    by_cases c2 : σ.1 8 j < 0
    · rw [if_pos c2] at ht hm
      exact finR 1 h ht hm
    · rw [if_neg c2] at ht hm
      by_cases c3 : i < 0 ∨ σ.1 8 j ≤ i
      · rw [if_pos c3] at ht
        rw [if_pos (fun q => (pred_lt (N := 40) (i_nlt.mp c2) a3 (by decide)).mp q c3)] at hm
        exact finR 2 h ht hm
      · rw [if_neg c3, a4 _ (ix_in c3 (le4060 a3))] at ht
        rw [if_neg (fun q => q ((pred_lt (N := 40) (i_nlt.mp c2) a3 (by decide)).mpr c3))] at hm
        exact finT h ht hm
  · rw [if_pos c] at ht hm
    exact fin0 h ht hm
theorem q_lay {σ τ : St} {r i v x : Int32} (ht : (x, τ) = tLay σ r i v) : TM σ τ := by
  rw [show τ = (tLay σ r i v).2 from congrArg Prod.snd ht]
  unfold tLay
  by_cases c : inR r 6
  · obtain ⟨j, hj, ej, -⟩ := inR_nat (N := 6) c rfl (by decide)
    rw [if_neg (fun q => q c), ej]
    split
    · exact TM.rf.r
    · split
      · exact TM.rf.r
      · exact (TM.rf.u (by decide)).u (by omega)
  · rw [if_pos c]
    exact TM.rf
theorem e_lay {σ τ ρ : St} (h : Rel σ) {r i v x y : Int32} (ht : (x, τ) = tLay σ r i v) (hm : (y, ρ) = mLay τ r i v) : x = y ∧ Rel ρ := by
  have t := q_lay ht
  unfold tLay at ht
  unfold mLay at hm
  rw [t.1 65 (by decide), t.1 66 (by decide)] at hm
  by_cases c : inR r 6
  · obtain ⟨j, hj, ej, -⟩ := inR_nat (N := 6) c rfl (by decide)
    obtain ⟨a1, a2, a3, a4⟩ := h.rw hj
    rw [if_neg (fun q => q c), ej] at ht hm
    rw [← a1] at hm
    by_cases c2 : σ.1 8 j < 0
    · rw [if_pos c2] at ht hm
      exact finR 1 h ht hm
    · rw [if_neg c2] at ht hm
      by_cases c3 : i < 0 ∨ σ.1 8 j ≤ i
      · rw [if_pos c3] at ht
        rw [if_pos (fun q => (pred_lt (N := 40) (i_nlt.mp c2) a3 (by decide)).mp q c3)] at hm
        exact finR 2 h ht hm
      · have hi := ix_in c3 (le4060 a3)
        have hz := ixN (N := 40) (by omega) a3
        rw [if_neg c3, a4 _ hi] at ht
        rw [if_neg (fun q => q ((pred_lt (N := 40) (i_nlt.mp c2) a3 (by decide)).mpr c3))] at hm
        obtain ⟨rfl, rfl⟩ := Prod.mk.inj ht
        obtain ⟨rfl, rfl⟩ := Prod.mk.inj hm
        refine ⟨rfl, Rel_x h (fun r' hr' => ?_) (fun t' ht' => ?_) ?_ ?_ ?_ ?_ ?_ rfl⟩
        · by_cases e : r' = j
          · subst e
            unfold rwR
            have e8 : (uI (uI (uI (uI σ 0 12 (σ.1 66 (40 * r' + ix i))) (2 + r') (ix i) v) 66 (40 * r' + ix i) v) 63 2 (σ.1 66 (40 * r' + ix i))).1 8 = σ.1 8 := by
              rw [uI_o _ _ _ _ (by decide), uI_o _ _ _ _ (by decide), uI_o _ _ _ _ (by omega), uI_o _ _ _ _ (by decide)]
            have e65 : (uI (uI (uI (uI σ 0 12 (σ.1 66 (40 * r' + ix i))) (2 + r') (ix i) v) 66 (40 * r' + ix i) v) 63 2 (σ.1 66 (40 * r' + ix i))).1 65 = σ.1 65 := by
              rw [uI_o _ _ _ _ (by decide), uI_o _ _ _ _ (by decide), uI_o _ _ _ _ (by omega), uI_o _ _ _ _ (by decide)]
            rw [e8, e65]
            refine ⟨a1, a2, a3, fun i' hi' => ?_⟩
            rw [uI_o _ _ _ _ (by omega), uI_o _ _ _ _ (by omega)]
            by_cases ei : i' = ix i
            · subst ei
              rw [uI_s, uI_o _ _ _ _ (by decide), uI_s]
            · rw [uI_n _ _ _ _ ei, uI_o _ _ _ _ (by omega), uI_o _ _ _ _ (by decide), uI_n _ _ _ _ (by omega), uI_o _ _ _ _ (by omega), uI_o _ _ _ _ (by decide)]
              exact a4 i' hi'
          · refine rw_k (h.rw hr') ?_ ?_ (fun i' hi' => ?_) (fun i' hi' => ?_)
            · rw [uI_o _ _ _ _ (by decide), uI_o _ _ _ _ (by decide), uI_o _ _ _ _ (by omega), uI_o _ _ _ _ (by decide)]
            · rw [uI_o _ _ _ _ (by decide), uI_o _ _ _ _ (by decide), uI_o _ _ _ _ (by omega), uI_o _ _ _ _ (by decide)]
            · rw [uI_o _ _ _ _ (by omega), uI_o _ _ _ _ (by omega), uI_o _ _ _ _ (by omega), uI_o _ _ _ _ (by omega)]
            · rw [uI_o _ _ _ _ (by decide), uI_n _ _ _ _ (by omega), uI_o _ _ _ _ (by omega), uI_o _ _ _ _ (by decide)]
        · refine tx_k (h.tx ht') ?_ ?_ (fun i' hi' => ?_) (fun i' hi' => ?_)
          · rw [uI_o _ _ _ _ (by decide), uI_o _ _ _ _ (by decide), uI_o _ _ _ _ (by omega), uI_o _ _ _ _ (by decide)]
          · rw [uI_o _ _ _ _ (by decide), uI_o _ _ _ _ (by decide), uI_o _ _ _ _ (by omega), uI_o _ _ _ _ (by decide)]
          · rw [uI_o _ _ _ _ (by omega), uI_o _ _ _ _ (by omega), uI_o _ _ _ _ (by omega), uI_o _ _ _ _ (by omega)]
          · rw [uI_o _ _ _ _ (by decide), uI_o _ _ _ _ (by decide), uI_o _ _ _ _ (by omega), uI_o _ _ _ _ (by decide)]
        · exact (((kp.rf.u rfl).u (isB_r hj)).u rfl).u rfl
        · rw [uI_o _ _ _ _ (by decide), uI_o _ _ _ _ (by decide), uI_o _ _ _ _ (by omega), uI_o _ _ _ _ (by decide)]
        · rw [uI_o _ _ _ _ (by decide), uI_o _ _ _ _ (by decide), uI_o _ _ _ _ (by omega), uI_o _ _ _ _ (by decide)]
        · rw [uI_o _ _ _ _ (by decide), uI_o _ _ _ _ (by decide), uI_o _ _ _ _ (by omega), uI_n _ _ _ _ (by decide), uI_n _ _ _ _ (by decide), uI_o _ _ _ _ (by decide), uI_o _ _ _ _ (by omega), uI_o _ _ _ _ (by decide)]
          exact h.fd.2.1
        · rw [uI_o _ _ _ _ (by decide), uI_o _ _ _ _ (by decide), uI_o _ _ _ _ (by omega), uI_s, uI_s]
  · rw [if_pos c] at ht hm
    exact fin0 h ht hm
theorem q_tear {σ τ : St} {r x : Int32} (ht : (x, τ) = tTear σ r) : TM σ τ := by
  rw [show τ = (tTear σ r).2 from congrArg Prod.snd ht]
  unfold tTear
  split
  · exact TM.rf
  · split
    · exact TM.rf.r
    · exact TM.rf.u (by decide)
theorem e_tear {σ τ ρ : St} (h : Rel σ) {r x y : Int32} (ht : (x, τ) = tTear σ r) (hm : (y, ρ) = mTear τ r) : x = y ∧ Rel ρ := by
  have t := q_tear ht
  unfold tTear at ht
  unfold mTear at hm
  rw [t.1 65 (by decide)] at hm
  by_cases c : inR r 6
  · obtain ⟨j, hj, ej, -⟩ := inR_nat (N := 6) c rfl (by decide)
    obtain ⟨a1, a2, a3, a4⟩ := h.rw hj
    rw [if_neg (fun q => q c), ej] at ht hm
    rw [← a1] at hm
    by_cases c2 : σ.1 8 j < 0
    · rw [if_pos c2] at ht hm
      exact finR 1 h ht hm
    · rw [if_neg c2] at ht hm
      obtain ⟨rfl, rfl⟩ := Prod.mk.inj ht
      obtain ⟨rfl, rfl⟩ := Prod.mk.inj hm
      refine ⟨rfl, Rel_x h (fun r' hr' => ?_) (fun t' ht' => tx_k (h.tx ht') rfl rfl (fun i' hi' => by rw [uI_o _ _ _ _ (by omega), uI_o _ _ _ _ (by omega)]) (fun i' hi' => rfl)) ((kp.rf.u rfl).u rfl) rfl rfl h.fd.2.1 h.fd.2.2.1 rfl⟩
      by_cases e : r' = j
      · subst e
        unfold rwR
        rw [uI_s, uI_o _ _ _ _ (by decide), uI_s]
        exact ⟨rfl, by decide, by decide, fun i hi => absurd hi (by rw [show ix (-1) = 0 from rfl]; omega)⟩
      · refine rw_k (h.rw hr') ?_ ?_ (fun i' hi' => ?_) (fun i' hi' => rfl)
        · rw [uI_o _ _ _ _ (by decide), uI_n _ _ _ _ e]
        · rw [uI_n _ _ _ _ e, uI_o _ _ _ _ (by decide)]
        · rw [uI_o _ _ _ _ (by omega), uI_o _ _ _ _ (by omega)]
  · rw [if_pos c] at ht hm
    exact fin0 h ht hm
