-- sets as numbers below 64; the band
theorem nI_or {a b : Nat} : nI a ||| nI b = nI (a ||| b) := by
  apply Int32.toBitVec_inj.mp
  show BitVec.ofNat 32 a ||| BitVec.ofNat 32 b = BitVec.ofNat 32 (a ||| b)
  rw [BitVec.ofNat_or]
theorem tb6 : ∀ z, z < 64 → ∀ i, i < 6 → (((nI z >>> (nI i &&& 31)) &&& 1 = 1) ↔ z.testBit i = true) := by decide +kernel
theorem mask6 : ∀ z, z < 64 → ∀ i, i < 6 → nI z &&& (((1 : Int32) <<< (nI i &&& 31)) ^^^ (-1)) = nI (z &&& (63 ^^^ 2 ^ i)) := by decide +kernel
theorem bit6 : ∀ i, i < 7 → (1 : Int32) <<< (nI i &&& 31) = nI (2 ^ i) := by decide +kernel
theorem not6 : ∀ z, z < 64 → nI z ^^^ (-1) = nI (4294967295 ^^^ z) := by decide +kernel
theorem and_not6 : ∀ s, s < 64 → ∀ z, z < 64 → s &&& (4294967295 ^^^ z) = s &&& (63 ^^^ z) := by decide +kernel
theorem sub6 {s z : Nat} (hs : s < 64) (hz : z < 64) : nI s &&& (nI z ^^^ (-1)) = nI (s &&& (63 ^^^ z)) := by rw [not6 z hz, nI_and, and_not6 s hs z hz]
theorem and_lt {a b n : Nat} (h : a < n) : a &&& b < n := Nat.lt_of_le_of_lt Nat.and_le_left h
theorem or_bit {f : Bool} {x i : Nat} (h : x < 2 ^ i) : x ||| 2 ^ i < 2 ^ (i + 1) := Nat.or_lt_two_pow (Nat.lt_of_lt_of_le h (Nat.pow_le_pow_right (by decide) (by omega))) (Nat.pow_lt_pow_right (by decide) (by omega))
def mkN (f : Nat → Bool) : Nat → Nat
  | 0 => 0
  | i + 1 => if f i = true then mkN f i ||| 2 ^ i else mkN f i
theorem mkN_lt (f : Nat → Bool) : ∀ i, mkN f i < 2 ^ i
  | 0 => Nat.one_pos
  | i + 1 => by
    have h := mkN_lt f i
    simp only [mkN]
    split
    · exact or_bit (f := true) h
    · exact Nat.lt_of_lt_of_le h (Nat.pow_le_pow_right (by decide) (by omega))
theorem p2_64 {n : Nat} (h : n ≤ 6) : 2 ^ n ≤ 64 := Nat.le_trans (Nat.pow_le_pow_right (by decide) h) (by decide)
theorem mkN_64 (f : Nat → Bool) {n : Nat} (h : n ≤ 6) : mkN f n < 64 := Nat.lt_of_lt_of_le (mkN_lt f n) (p2_64 h)
def sumI (f : Nat → Int32) : Nat → Int32
  | 0 => 0
  | i + 1 => sumI f i + f i
def othN (a G i : Nat) : Nat := pcN ((a &&& G) &&& (63 ^^^ 2 ^ i))
def tkF (kd : Nat → Nat) (bo cr : Nat → Int32) (fe : Int32) (G a i : Nat) : Bool := a.testBit i && talkB (kd i) (bo i) fe (cr i) (nI (othN a G i))
def ltF (kd : Nat → Nat) (sk : Nat → Int32) (G a i : Nat) : Int32 := lootS (kd i) (sk i) (nI (othN a G i))
def ltA (kd : Nat → Nat) (sk : Nat → Int32) (G a i : Nat) : Int32 := if a.testBit i = true then ltF kd sk G a i else 0
def bkOk (σ : St) (n G : Nat) (kd : Nat → Nat) : Prop := σ.1 19 8 = nI n ∧ n ≤ 6 ∧ σ.1 19 13 = nI G ∧ G < 64 ∧ (∀ i, i < n → σ.1 27 i = nI (kd i)) ∧ ∀ i, i < n → kd i < 6
def tkS (σ : St) (G : Nat) (kd : Nat → Nat) (a : Nat) : Nat → Bool := tkF kd (σ.1 29) (σ.1 31) (σ.1 19 11) G a
def wgS (σ : St) (lo pr : Nat → Int32) : Nat → St
  | 0 => σ
  | i + 1 => uI (uI (wgS σ lo pr i) 32 i (lo i)) 33 i (pr i)
theorem wgS_o (σ : St) (lo pr : Nat → Int32) {k : Nat} (h1 : k ≠ 32) (h2 : k ≠ 33) : ∀ i, (wgS σ lo pr i).1 k = σ.1 k
  | 0 => rfl
  | i + 1 => by simp only [wgS, uI, if_neg h1, if_neg h2, wgS_o σ lo pr h1 h2 i]
theorem bkOk_of {σ σ' : St} {n G : Nat} {kd : Nat → Nat} (h : bkOk σ n G kd) (h1 : σ'.1 19 8 = σ.1 19 8) (h2 : σ'.1 19 13 = σ.1 19 13) (h3 : σ'.1 27 = σ.1 27) : bkOk σ' n G kd := by
  unfold bkOk at *
  rw [h1, h2, h3]
  exact h
theorem wg_ok {σ : St} {n G : Nat} {kd : Nat → Nat} {lo pr : Nat → Int32} (h : bkOk σ n G kd) (i : Nat) : bkOk (wgS σ lo pr i) n G kd := bkOk_of h (by rw [wgS_o σ lo pr (by decide) (by decide)]) (by rw [wgS_o σ lo pr (by decide) (by decide)]) (by rw [wgS_o σ lo pr (by decide) (by decide)])
theorem uI_o (σ : St) (k j : Nat) (v : Int32) {k' : Nat} (h : k' ≠ k) : (uI σ k j v).1 k' = σ.1 k' := by simp only [uI, if_neg h]
theorem uI_s (σ : St) (k j : Nat) (v : Int32) : (uI σ k j v).1 k j = v := by simp [uI, upd]
theorem uI_n (σ : St) (k j : Nat) (v : Int32) {j' : Nat} (h : j' ≠ j) : (uI σ k j v).1 k j' = σ.1 k j' := by simp [uI, upd, h]
