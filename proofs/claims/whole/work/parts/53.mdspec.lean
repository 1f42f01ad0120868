-- the model's deeds
def tlM (σ : St) (kd : Nat → Nat) (n a i : Nat) : Nat → Int32
  | 0 => nI (kd i)
  | 1 => σ.1 72 i
  | 2 => σ.1 73 i
  | 3 => σ.1 76 (5 + i)
  | 4 => ltF kd (σ.1 72) (gaN kd n) a i
  | 5 => bI (talkB (kd i) (σ.1 73 i) (σ.1 70 2) (σ.1 76 (5 + i)) (nI (othN a (gaN kd n) i)) = true)
  | 6 => bI (a.testBit i = true)
  | _ => priceM (kd i) (σ.1 70 0) (σ.1 76 (5 + i))
def mkM (σ : St) (kd : Nat → Nat) (n a i : Nat) : Nat → Int32
  | 1 => nI (pcN (mkN (tkM σ 76 kd n a) n &&& (63 ^^^ 2 ^ i)))
  | 2 => σ.1 76 3 + 1
  | 3 => nI (othN a (gaN kd n) i)
  | 4 => 2 - σ.1 76 (5 + i)
  | _ => if 0 < σ.1 70 2 - σ.1 73 i - 1 then σ.1 70 2 - σ.1 73 i - 1 else 0
def mThief (σ : St) (kd : Nat → Nat) (n a : Nat) (i w : Int32) : Int32 × St := if ¬ (0 ≤ i ∧ i < nI n) ∨ ¬ (0 ≤ w ∧ w ≤ 7) then (-1, σ) else (1, uI σ 63 2 (tlM σ kd n a (ix i) (ix w)))
def mMark (σ : St) (kd : Nat → Nat) (n a : Nat) (i w : Int32) : Int32 × St := if ¬ (0 ≤ i ∧ i < nI n) ∨ ¬ (1 ≤ w ∧ w ≤ 5) then (-1, σ) else if ofB (kd (ix i)) w = true then (mkM σ kd n a (ix i) (ix w), σ) else (-3, mRef σ 3)
theorem ofB_m0 : ∀ k, k < 6 → ∀ v, v < 6 → v = 0 ∨ (ofB k (nI v) = decide (k = v ∨ (v = 1 ∧ k = 4) ∨ (v = 3 ∧ k = 5))) := by decide +kernel
theorem ofB_m {k v : Nat} (hk : k < 6) (hv : v < 6) (h0 : 0 < v) : ofB k (nI v) = true ↔ (k = v ∨ (v = 1 ∧ k = 4) ∨ (v = 3 ∧ k = 5)) := by
  rw [(ofB_m0 k hk v hv).resolve_left (by omega), decide_eq_true_eq]
def rmM (σ : St) (D : Nat) : St := uI (cpF σ 78 (11 * D) (σ.1 76) 11) 63 22 (nI (D + 1))
theorem rmM_k (σ : St) (D : Nat) {k : Nat} (h1 : k ≠ 78) (h2 : k ≠ 63) : (rmM σ D).1 k = σ.1 k := by rw [rmM, uI_o _ _ _ _ h2, cpF_other _ _ _ _ h1]
theorem rmM_f (σ : St) (D : Nat) {j : Nat} (h : j ≠ 22) : (rmM σ D).1 63 j = σ.1 63 j := by rw [rmM, uI_n _ _ _ _ h, cpF_other _ _ _ _ (by decide)]
theorem rm_ok {σ : St} {D n : Nat} {kd : Nat → Nat} (h : mkOk σ n kd) : mkOk (rmM σ D) n kd := mkOk_of h (rmM_f _ _ (by decide)) (rmM_k _ _ (by decide) (by decide))
theorem rm_0 {σ : St} {D a : Nat} (h : σ.1 76 0 = nI a) : (rmM σ D).1 76 0 = nI a := by rw [rmM_k _ _ (by decide) (by decide), h]
abbrev ovM (σ : St) (n : Nat) : Prop := n = 0 ∨ σ.1 76 4 = 1
def mWeek (σ : St) (kd : Nat → Nat) (n a D : Nat) : Int32 × St := if ovM σ n then (-4, σ) else if D = 40 then (-2, σ) else ((paM (rmM σ D) 76 kd n a).1 76 2, uI (paM (rmM σ D) 76 kd n a) 63 2 ((paM (rmM σ D) 76 kd n a).1 76 4))
def baM (σ : St) (m : Int32) : St := uI (uI σ 76 2 (σ.1 76 2 - m)) 76 1 (σ.1 76 1 + m * σ.1 70 1)
def mBack (σ : St) (n D : Nat) (m : Int32) : Int32 × St := if ¬ (1 ≤ m ∧ m ≤ 99) then (-1, σ) else if ovM σ n then (-4, σ) else if σ.1 76 2 < m then (-6, σ) else if D = 40 then (-2, σ) else ((baM (rmM σ D) m).1 76 1, baM (rmM σ D) m)
def crM (σ : St) (i : Nat) : St := uI σ 76 (5 + i) (σ.1 76 (5 + i) + 1)
def mCross (σ : St) (n a D : Nat) (i : Int32) : Int32 × St := if ¬ (0 ≤ i ∧ i < nI n) then (-1, σ) else if ovM σ n ∨ ¬ (a.testBit (ix i) = true ∧ σ.1 76 (5 + ix i) < 2) then (-4, σ) else if D = 40 then (-2, σ) else ((crM (rmM σ D) (ix i)).1 76 (5 + ix i), crM (rmM σ D) (ix i))
def mGive (σ : St) (kd : Nat → Nat) (n a D : Nat) (i : Int32) : Int32 × St := if ¬ (0 ≤ i ∧ i < nI n) then (-1, σ) else if ovM σ n ∨ ¬ a.testBit (ix i) = true then (-4, σ) else if D = 40 then (-2, σ) else ((guM (rmM σ D) 76 kd a (ix i)).1 76 1, guM (rmM σ D) 76 kd a (ix i))
def mUndo (σ : St) (D : Nat) (x : Int32) : Int32 × St := if ¬ (0 ≤ x ∧ x ≤ nI D) then (-1, σ) else (nI D - x, uI (if x = nI D then σ else cpF σ 76 0 (fun k => σ.1 78 (11 * ix x + k)) 11) 63 22 x)
def kpM (σ : St) (k D : Nat) : St := cpF (cpF (uI (uI σ 79 k 1) 80 k (nI D)) 81 (11 * k) (σ.1 76) 11) 82 (440 * k) (σ.1 78) (11 * D)
def mKeep (σ : St) (n D : Nat) (k : Int32) : Int32 × St := if ¬ (0 ≤ k ∧ k ≤ 2) then (-1, σ) else if n = 0 then (-4, σ) else (nI D, kpM σ (ix k) D)
def onM (σ : St) (k D : Nat) : St := cpF (cpF (uI σ 63 22 (nI D)) 76 0 (fun j => σ.1 81 (11 * k + j)) 11) 78 0 (fun j => σ.1 82 (440 * k + j)) (11 * D)
def kmOk (σ : St) (DK : Nat → Nat) : Prop := ∀ j, j < 3 → ¬ σ.1 79 j = 0 → σ.1 80 j = nI (DK j) ∧ DK j ≤ 40
def mOn (σ : St) (DK : Nat → Nat) (k : Int32) : Int32 × St := if ¬ (0 ≤ k ∧ k ≤ 2) then (-1, σ) else if σ.1 79 (ix k) = 0 then (-3, mRef σ 1) else (nI (DK (ix k)), onM σ (ix k) (DK (ix k)))
def mSpeak (σ : St) (kd : Nat → Nat) (n a : Nat) : Int32 × St := if n = 0 then (-4, σ) else (nI (mkN (tkM σ 76 kd n a) n), uI σ 63 2 (if σ.1 70 3 ≤ nI (pcN (mkN (tkM σ 76 kd n a) n)) then 1 else 0))
theorem th_lt {i : Int32} {n : Nat} (h : n ≤ 6) : (0 ≤ i ∧ i ≤ nI n - 1) ↔ (0 ≤ i ∧ i < nI n) := by
  rw [pred_lt (N := n) (nI_nn (by omega)) (nI_leI (by omega) (by omega) |>.mpr (Nat.le_refl _)) (by omega)]
  constructor
  · intro q
    exact ⟨i_nlt.mp (fun r => q (Or.inl r)), i_lt_le.mp (fun r => q (Or.inr r))⟩
  · rintro ⟨q1, q2⟩ (r | r)
    · exact absurd q1 (lt_le_i r)
    · exact absurd r (lt_le_i q2)
theorem one_le {x : Int32} (h : 1 ≤ x) : 0 ≤ x := by
  simp only [Int32.le_iff_toInt_le] at *
  have h1 : (1 : Int32).toInt = 1 := rfl
  have h2 : (0 : Int32).toInt = 0 := rfl
  omega
theorem nI_1le {v : Nat} (h : 1 ≤ nI v) (hv : v < 100) : 0 < v := (nI_leI (a := 1) (b := v) (by omega) (by omega)).mp h
