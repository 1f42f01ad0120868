-- the model: counts, the digest
def kpB2 (σ : St) (k : Nat) : Bool := decide (¬ σ.1 79 k = 0)
def ctM (σ : St) (kd : Nat → Nat) (n a D : Nat) : Nat → Int32
  | 0 => nI n
  | 1 => σ.1 76 3
  | 2 => nI D
  | 3 => σ.1 76 1
  | 4 => σ.1 76 2
  | 5 => nI a
  | 6 => σ.1 76 4
  | 7 => nI (cntN (fun k => isG (kd k)) n)
  | 8 => nI (cntN (prB σ 65) 6)
  | 9 => nI (cntN (prB σ 68) 4)
  | _ => nI (cntN (kpB2 σ) 3)
def cIf (w v c : Nat) : Nat := if w = v then c else 0
theorem cI_s {w v : Nat} {f : Nat → Bool} {k : Nat} (h : w = v) (hf : f k = true) : cIf w v (cntN f (k + 1)) = cIf w v (cntN f k) + 1 := by
  unfold cIf
  rw [if_pos h, if_pos h, cntN_t hf]
theorem cI_f {w v : Nat} {f : Nat → Bool} {k : Nat} (hf : ¬ f k = true) : cIf w v (cntN f (k + 1)) = cIf w v (cntN f k) := by
  unfold cIf
  rw [cntN_f hf]
theorem cI_n {w v : Nat} {c d : Nat} (h : ¬ w = v) : cIf w v c = cIf w v d := by
  unfold cIf
  rw [if_neg h, if_neg h]
theorem cI_0 {w v : Nat} : cIf w v 0 = 0 := by
  unfold cIf
  split <;> rfl
theorem tlM_f {σ τ : St} (f : fr σ τ) (kd : Nat → Nat) (n a i w : Nat) : tlM τ kd n a i w = tlM σ kd n a i w := by
  have h73 : τ.1 73 = σ.1 73 := funext fun j => f.1 _ j rfl
  have h76 : τ.1 76 = σ.1 76 := funext fun j => f.1 _ j rfl
  have h70 : τ.1 70 = σ.1 70 := funext fun j => f.1 _ j rfl
  unfold tlM
  rw [skX f, h73, h76, h70]
def kpV (σ : St) (k : Nat) : Int32 := if σ.1 79 k = 0 then -1 else σ.1 80 k
def mDigest (σ : St) (kd : Nat → Nat) (n a D : Nat) : Int64 := hsR (fun t i => σ.1 69 (60 * t + i)) (σ.1 68) (hsR (fun r i => σ.1 66 (40 * r + i)) (σ.1 65) (hsF (kpV σ) (hsT (tlM σ kd n a) (hsF (ctM σ kd n a D) 17 11) n) 3) 6) 4
theorem m1L : ((-1 : Int32)).toInt64 = -1 := by decide
def bMf (σ : St) (t N p : Nat) : Int32 := if p < N then σ.1 69 (60 * t + p) else 0
theorem ix_neg {x : Int32} (h : ¬ 0 ≤ x) : ix x = 0 := by
  unfold ix Int32.toNatClampNeg
  simp only [Int32.le_iff_toInt_le] at h
  have e : (0 : Int32).toInt = 0 := rfl
  omega
