-- the model's methods, as functions of the state
theorem le5 {x : Int32} : (0 ≤ x ∧ x ≤ 5) ↔ inR x 6 := by
  simp only [inR, Int32.lt_iff_toInt_lt, Int32.le_iff_toInt_le]
  have h1 : (5 : Int32).toInt = 5 := rfl
  have h2 : (6 : Int32).toInt = 6 := rfl
  omega
theorem le3 {x : Int32} : (0 ≤ x ∧ x ≤ 3) ↔ inR x 4 := by
  simp only [inR, Int32.lt_iff_toInt_lt, Int32.le_iff_toInt_le]
  have h1 : (3 : Int32).toInt = 3 := rfl
  have h2 : (4 : Int32).toInt = 4 := rfl
  omega
theorem inR_nat {x n : Int32} {N : Nat} (h : inR x n) (hn : n = nI N) (hN : N < 2147483648) : ∃ j, j < N ∧ ix x = j ∧ x = nI j := by
  obtain ⟨j, hj, rfl⟩ := nI_of (i_nlt.mpr h.1)
  subst hn
  exact ⟨j, (nI_ltI hj (by omega)).mp h.2, nI_clamp hj, rfl⟩
theorem pred_nat {s i : Int32} {N : Nat} (h0 : 0 ≤ s) (h1 : s ≤ nI N) (hN : N < 2147483648) (h : 0 ≤ i ∧ i ≤ s - 1) : ∃ b, b < N ∧ ix i = b ∧ i = nI b := by
  obtain ⟨a, ha, -, rfl⟩ := nat_of h0 h1 rfl hN
  rcases a with _ | a
  · exfalso
    have h2 := h.2
    have h3 := h.1
    rw [show nI 0 - 1 = -1 from rfl] at h2
    simp only [Int32.le_iff_toInt_le] at h2 h3
    have e1 : (-1 : Int32).toInt = -1 := rfl
    have e0 : (0 : Int32).toInt = 0 := rfl
    omega
  · rw [nI_pred] at h
    obtain ⟨b, hb, eb, rfl⟩ := nat_of h.1 h.2 rfl (by omega)
    exact ⟨b, by omega, eb, rfl⟩
theorem pred_lt {s i : Int32} {N : Nat} (h0 : 0 ≤ s) (h1 : s ≤ nI N) (hN : N < 2147483648) : (0 ≤ i ∧ i ≤ s - 1) ↔ ¬ (i < 0 ∨ s ≤ i) := by
  obtain ⟨a, ha, -, rfl⟩ := nat_of h0 h1 rfl hN
  rcases a with _ | a
  · rw [show nI 0 - 1 = -1 from rfl, nI_0]
    simp only [Int32.le_iff_toInt_le, Int32.lt_iff_toInt_lt]
    have e1 : (-1 : Int32).toInt = -1 := rfl
    have e0 : (0 : Int32).toInt = 0 := rfl
    omega
  · rw [nI_pred]
    simp only [Int32.le_iff_toInt_le, Int32.lt_iff_toInt_lt]
    rw [nI_toInt (by omega), nI_toInt (by omega)]
    have e0 : (0 : Int32).toInt = 0 := rfl
    omega
def mRowsOk (σ : St) : Prop := ∀ j, j < 6 → σ.1 65 j ≤ 40
def mTextsOk (σ : St) : Prop := ∀ j, j < 4 → σ.1 68 j ≤ 60
def mLay (σ : St) (r i v : Int32) : Int32 × St := if ¬ inR r 6 then (-1, σ) else if σ.1 65 (ix r) < 0 then (-3, mRef σ 1) else if ¬ (0 ≤ i ∧ i ≤ σ.1 65 (ix r) - 1) then (-3, mRef σ 2) else (1, uI (uI σ 66 (40 * ix r + ix i) v) 63 2 (σ.1 66 (40 * ix r + ix i)))
def mAt (σ : St) (r i : Int32) : Int32 × St := if ¬ inR r 6 then (-1, σ) else if σ.1 65 (ix r) < 0 then (-3, mRef σ 1) else if ¬ (0 ≤ i ∧ i ≤ σ.1 65 (ix r) - 1) then (-3, mRef σ 2) else (1, uI σ 63 2 (σ.1 66 (40 * ix r + ix i)))
def mTear (σ : St) (r : Int32) : Int32 × St := if ¬ inR r 6 then (-1, σ) else if σ.1 65 (ix r) < 0 then (-3, mRef σ 1) else (1, uI σ 65 (ix r) (-1))
def mPut (σ : St) (t i v : Int32) : Int32 × St := if ¬ inR t 4 then (-1, σ) else if σ.1 68 (ix t) < 0 then (-3, mRef σ 1) else if ¬ (0 ≤ i ∧ i ≤ σ.1 68 (ix t) - 1) then (-3, mRef σ 2) else (1000 + σ.1 69 (60 * ix t + ix i), uI σ 69 (60 * ix t + ix i) (vp_nar .byte v.toInt8.toInt32))
def mRow (σ : St) (r n : Int32) : Int32 × St := if ¬ inR r 6 ∨ 40 < n then (-1, σ) else if n < 0 then (-3, mRef σ 5) else (n, fl (uI σ 65 (ix r) n) 66 (40 * ix r) 0 40)
def mText (σ : St) (t n : Int32) : Int32 × St := if ¬ inR t 4 ∨ 60 < n then (-1, σ) else if n < 0 then (-3, mRef σ 5) else (n, fl (uI σ 68 (ix t) n) 69 (60 * ix t) 32 60)
def mMean (σ : St) (r : Int32) : Int32 × St := if ¬ inR r 6 then (-1, σ) else if σ.1 65 (ix r) < 0 then (-3, mRef σ 1) else if σ.1 65 (ix r) = 0 then (-3, mRef σ 4) else (1, uI σ 63 2 (sumL (fun j => σ.1 66 (40 * ix r + j)) (ix (σ.1 65 (ix r))) / (σ.1 65 (ix r)).toInt64).toInt32)
/-- a part of a row comes to another place -/
def cpF (σ : St) (k off : Nat) (f : Nat → Int32) : Nat → St
  | 0 => σ
  | i + 1 => uI (cpF σ k off f i) k (off + i) (f i)
