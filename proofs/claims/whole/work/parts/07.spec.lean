-- what the methods answer, as functions of the state
abbrev inR (x n : Int32) : Prop := 0 ≤ x ∧ x < n
abbrev ix (x : Int32) : Nat := x.toNatClampNeg
theorem i_lt_le {a b : Int32} : ¬ b ≤ a ↔ a < b := by
  simp only [Int32.lt_iff_toInt_lt, Int32.le_iff_toInt_le]
  omega
theorem i_nlt {a b : Int32} : ¬ a < b ↔ b ≤ a := by
  simp only [Int32.lt_iff_toInt_lt, Int32.le_iff_toInt_le]
  omega
theorem ix_eq {x : Int32} (h : 0 ≤ x) : x = nI (ix x) := by
  obtain ⟨j, hj, rfl⟩ := nI_of (i_nlt.mpr h)
  rw [ix, nI_clamp hj]
theorem ix_lt {x n : Int32} {N : Nat} (h : 0 ≤ x) (h2 : x < n) (hn : n = nI N) (hN : N < 2147483648) : ix x < N := by
  obtain ⟨j, hj, rfl⟩ := nI_of (i_nlt.mpr h)
  rw [ix, nI_clamp hj]
  subst hn
  exact (nI_ltI hj (by omega)).mp h2
theorem i_lt_of {a b c : Int32} (h : a < b) (h2 : b ≤ c) : a < c := by
  simp only [Int32.lt_iff_toInt_lt, Int32.le_iff_toInt_le] at *
  omega
def hasB (i set : Int32) : Prop := (set >>> (i &&& 31)) &&& 1 = 1
def tRef (σ : St) (n : Nat) : St := uI (uI σ 0 11 (nI n)) 62 n (σ.1 62 n + 1)
def mRef (σ : St) (n : Nat) : St := uI (uI σ 63 0 (nI n)) 64 n (σ.1 64 n + 1)
def rowsOk (σ : St) : Prop := ∀ j, j < 6 → σ.1 8 j ≤ 40
def textsOk (σ : St) : Prop := ∀ j, j < 4 → σ.1 14 j ≤ 60
def tLay (σ : St) (r i v : Int32) : Int32 × St := if ¬ inR r 6 then (-1, σ) else if σ.1 8 (ix r) < 0 then (-3, tRef σ 1) else if i < 0 ∨ σ.1 8 (ix r) ≤ i then (-3, tRef σ 2) else (1, uI (uI σ 0 12 (σ.1 (2 + ix r) (ix i))) (2 + ix r) (ix i) v)
def tAt (σ : St) (r i : Int32) : Int32 × St := if ¬ inR r 6 then (-1, σ) else if σ.1 8 (ix r) < 0 then (-3, tRef σ 1) else if i < 0 ∨ σ.1 8 (ix r) ≤ i then (-3, tRef σ 2) else (1, uI σ 0 12 (σ.1 (2 + ix r) (ix i)))
def tTear (σ : St) (r : Int32) : Int32 × St := if ¬ inR r 6 then (-1, σ) else if σ.1 8 (ix r) < 0 then (-3, tRef σ 1) else (1, uI σ 8 (ix r) (-1))
def tPut (σ : St) (t i v : Int32) : Int32 × St := if ¬ inR t 4 then (-1, σ) else if σ.1 14 (ix t) < 0 then (-3, tRef σ 1) else if i < 0 ∨ σ.1 14 (ix t) ≤ i then (-3, tRef σ 2) else (σ.1 (10 + ix t) (ix i) + 1000, uI σ (10 + ix t) (ix i) (vp_nar .byte v.toInt8.toInt32))
