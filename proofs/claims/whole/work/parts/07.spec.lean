-- what the methods answer, as functions of the state
abbrev inR (x n : Int32) : Prop := 0 ≤ x ∧ x < n
abbrev ix (x : Int32) : Nat := x.toNatClampNeg
theorem i_lt_le {a b : Int32} : ¬ b ≤ a ↔ a < b := by
  simp only [Int32.lt_iff_toInt_lt, Int32.le_iff_toInt_le]
  omega
theorem i_nlt {a b : Int32} : ¬ a < b ↔ b ≤ a := by
  simp only [Int32.lt_iff_toInt_lt, Int32.le_iff_toInt_le]
  omega
theorem ix_eq {x : Int32} (h : 0 ≤ x) : x = nI (ix x) := by
  obtain ⟨j, hj, rfl⟩ := nI_of (i_nlt.mpr h)
  rw [ix, nI_clamp hj]
theorem ix_lt {x n : Int32} {N : Nat} (h : 0 ≤ x) (h2 : x < n) (hn : n = nI N) (hN : N < 2147483648) : ix x < N := by
  obtain ⟨j, hj, rfl⟩ := nI_of (i_nlt.mpr h)
  rw [ix, nI_clamp hj]
  subst hn
  exact (nI_ltI hj (by omega)).mp h2
theorem i_lt_of {a b c : Int32} (h : a < b) (h2 : b ≤ c) : a < c := by
  simp only [Int32.lt_iff_toInt_lt, Int32.le_iff_toInt_le] at *
  omega
def hasB (i set : Int32) : Prop := (set >>> (i &&& 31)) &&& 1 = 1
def tRef (σ : St) (n : Nat) : St := uI (uI σ 0 11 (nI n)) 62 n (σ.1 62 n + 1)
def mRef (σ : St) (n : Nat) : St := uI (uI σ 63 0 (nI n)) 64 n (σ.1 64 n + 1)
def rowsOk (σ : St) : Prop := ∀ j, j < 6 → σ.1 8 j ≤ 40
def textsOk (σ : St) : Prop := ∀ j, j < 4 → σ.1 14 j ≤ 60
def tLay (σ : St) (r i v : Int32) : Int32 × St := if ¬ inR r 6 then (-1, σ) else if σ.1 8 (ix r) < 0 then (-3, tRef σ 1) else if i < 0 ∨ σ.1 8 (ix r) ≤ i then (-3, tRef σ 2) else (1, uI (uI σ 0 12 (σ.1 (2 + ix r) (ix i))) (2 + ix r) (ix i) v)
def tAt (σ : St) (r i : Int32) : Int32 × St := if ¬ inR r 6 then (-1, σ) else if σ.1 8 (ix r) < 0 then (-3, tRef σ 1) else if i < 0 ∨ σ.1 8 (ix r) ≤ i then (-3, tRef σ 2) else (1, uI σ 0 12 (σ.1 (2 + ix r) (ix i)))
def tTear (σ : St) (r : Int32) : Int32 × St := if ¬ inR r 6 then (-1, σ) else if σ.1 8 (ix r) < 0 then (-3, tRef σ 1) else (1, uI σ 8 (ix r) (-1))
theorem ix_nI {N : Nat} (h : N < 2147483648) : ix (nI N) = N := nI_clamp (by omega)
theorem nat_of {x c : Int32} {M : Nat} (h0 : 0 ≤ x) (h1 : x ≤ c) (hc : c = nI M) (hM : M < 2147483648) : ∃ N, N ≤ M ∧ ix x = N ∧ x = nI N := by
  obtain ⟨j, hj, rfl⟩ := nI_of (i_nlt.mpr h0)
  subst hc
  exact ⟨j, (nI_leI hj (by omega)).mp h1, nI_clamp hj, rfl⟩
def sumL (f : Nat → Int32) : Nat → Int64
  | 0 => 0
  | i + 1 => sumL f i + (f i).toInt64
def fl (σ : St) (k off : Nat) (v : Int32) : Nat → St
  | 0 => σ
  | i + 1 => uI (fl σ k off v i) k (off + i) v
theorem vp_nar32 : vp_nar .byte 32 = 32 := rfl
theorem l_ne0 {x : Int32} (h : ¬ x = 0) : ¬ x.toInt64 = 0 := by
  intro q
  apply h
  have h1 : x.toInt64.toInt = (0 : Int64).toInt := by rw [q]
  rw [Int32.toInt_toInt64] at h1
  exact Int32.toInt_inj.mp h1
def tMean (σ : St) (r : Int32) : Int32 × St := if ¬ inR r 6 then (-1, σ) else if σ.1 8 (ix r) < 0 then (-3, tRef σ 1) else if σ.1 8 (ix r) = 0 then (-3, tRef σ 4) else (1, uI σ 0 12 (sumL (σ.1 (2 + ix r)) (ix (σ.1 8 (ix r))) / (σ.1 8 (ix r)).toInt64).toInt32)
def tRow (σ : St) (r n : Int32) : Int32 × St := if ¬ inR r 6 ∨ 40 < n then (-1, σ) else if n < 0 then (-3, tRef σ 5) else (n, fl (uI σ 8 (ix r) n) (2 + ix r) 0 0 (ix n))
def tText (σ : St) (t n : Int32) : Int32 × St := if ¬ inR t 4 ∨ 60 < n then (-1, σ) else if n < 0 then (-3, tRef σ 5) else (n, fl (uI σ 14 (ix t) n) (10 + ix t) 0 32 (ix n))
def hld (z i n : Int32) : Prop := 0 ≤ i ∧ i ≤ z ∧ n ≤ z - i
def tCopy (σ : St) (r i to j n : Int32) : Int32 × St := if ¬ inR r 6 ∨ ¬ inR to 6 then (-1, σ) else if n < 0 then (-3, tRef σ 5) else if σ.1 8 (ix r) < 0 ∨ σ.1 8 (ix to) < 0 then (-3, tRef σ 1)
  else if ¬ (0 ≤ i ∧ i ≤ σ.1 8 (ix r) ∧ n ≤ σ.1 8 (ix r) - i) ∨ ¬ (0 ≤ j ∧ j ≤ σ.1 8 (ix to) ∧ n ≤ σ.1 8 (ix to) - j) then (-3, tRef σ 2) else (1, uA σ (2 + ix to) (va_cpy (σ.1 (2 + ix r)) (σ.1 (2 + ix to)) (ix i) (ix j) (ix n)))
theorem hld_le {z i n : Int32} (h0 : 0 ≤ z) (hz : z ≤ 40) (hn : 0 ≤ n) (h : 0 ≤ i ∧ i ≤ z ∧ n ≤ z - i) : ix i + ix n ≤ 40 := by
  obtain ⟨a, ha, -, rfl⟩ := nat_of (M := 40) h0 hz rfl (by decide)
  obtain ⟨h1, h2, h3⟩ := h
  obtain ⟨b, hb, eb, rfl⟩ := nat_of (M := a) h1 h2 rfl (by omega)
  rw [pk_sub hb] at h3
  obtain ⟨c, hc, ec, rfl⟩ := nat_of (M := a - b) hn h3 rfl (by omega)
  omega
def tPut (σ : St) (t i v : Int32) : Int32 × St := if ¬ inR t 4 then (-1, σ) else if σ.1 14 (ix t) < 0 then (-3, tRef σ 1) else if i < 0 ∨ σ.1 14 (ix t) ≤ i then (-3, tRef σ 2) else (σ.1 (10 + ix t) (ix i) + 1000, uI σ (10 + ix t) (ix i) (vp_nar .byte v.toInt8.toInt32))
