-- the book's state apart from cells: left, money, stock, weeks gone, tried, crosses; the deeds done to it
abbrev Ab : Type := Nat × Int32 × Int32 × Int32 × Int32 × (Nat → Int32)
abbrev Ab.L (z : Ab) : Nat := z.1
abbrev Ab.M (z : Ab) : Int32 := z.2.1
abbrev Ab.S (z : Ab) : Int32 := z.2.2.1
abbrev Ab.G (z : Ab) : Int32 := z.2.2.2.1
abbrev Ab.T (z : Ab) : Int32 := z.2.2.2.2.1
abbrev Ab.C (z : Ab) : Nat → Int32 := z.2.2.2.2.2
abbrev aTr (n : Nat) (kd : Nat → Nat) (bo hd cr : Nat → Int32) (L : Nat) : Prop := hd 3 ≤ nI (pcN (mkN (tkF kd bo cr (hd 2) (gaN kd n) L) n))
def aStep (n : Nat) (kd : Nat → Nat) (sk bo hd : Nat → Int32) (w a : Nat) (z : Ab) : Ab := match w with
  | 0 => (z.L, z.M, z.S + (if aTr n kd bo hd z.C z.L then 0 else sumI (ltA kd sk (gaN kd n) z.L) n), z.G + 1, (if aTr n kd bo hd z.C z.L then 1 else 0), z.C)
  | 1 => (z.L, z.M + nI a * hd 1, z.S - nI a, z.G, z.T, z.C)
  | 2 => (z.L, z.M, z.S, z.G, z.T, upd z.C a (z.C a + 1))
  | _ => (z.L &&& (63 ^^^ 2 ^ a), z.M + priceS (kd a) (hd 0) (z.C a), z.S, z.G, z.T, z.C)
def aRun (n : Nat) (kd : Nat → Nat) (sk bo hd fc : Nat → Int32) (wN aN : Nat → Nat) : Nat → Ab
  | 0 => (2 ^ n - 1, 0, 0, 0, 0, fc)
  | d + 1 => aStep n kd sk bo hd (wN d) (aN d) (aRun n kd sk bo hd fc wN aN d)
/-- a row of the model's log; the class's cells -/
def gOk (n : Nat) (z : Ab) (g : Nat → Int32) : Prop := g 0 = nI z.L ∧ g 1 = z.M ∧ g 2 = z.S ∧ g 3 = z.G ∧ g 4 = z.T ∧ ∀ i, i < n → g (5 + i) = z.C i
def tOk (n : Nat) (z : Ab) (b c : Nat → Int32) : Prop := b 14 = nI z.L ∧ b 16 = z.M ∧ b 17 = z.S ∧ b 15 = z.G ∧ b 18 = z.T ∧ ∀ i, i < n → c i = z.C i
def gdZ (n : Nat) (z : Ab) : Prop := z.L < 2 ^ n ∧ (z.T = 0 ∨ z.T = 1) ∧ (∀ i, i < n → ∃ c, c < 3 ∧ z.C i = nI c) ∧ ∃ s, s ≤ 100 * ix z.G ∧ z.S = nI s
def dOK (n D : Nat) (wN aN : Nat → Nat) (c d : Nat → Int32) : Prop := ∀ i, i < D → c i = nI (wN i) ∧ d i = nI (aN i) ∧ wN i < 4 ∧ (2 ≤ wN i → aN i < n)
def hd4 (a b c d : Int32) : Nat → Int32
  | 0 => a
  | 1 => b
  | 2 => c
  | _ => d
abbrev hdF (F : Nat → Nat → Int32) : Nat → Int32 := hd4 (F 19 9) (F 19 10) (F 19 11) (F 19 12)
abbrev runF (F : Nat → Nat → Int32) (n : Nat) (kd wN aN : Nat → Nat) (d : Nat) : Ab := aRun n kd (F 28) (F 29) (hdF F) (F 30) wN aN d
/-- a kept book: the class's deeds in the cells p, p + 1, p + 2, the model's rows -/
def KP (F : Nat → Nat → Int32) (n : Nat) (kd : Nat → Nat) (p k : Nat) : Prop := (F p 2 = -1 ∧ F 79 k = 0) ∨ ∃ (D : Nat) (wN aN : Nat → Nat), D ≤ 40 ∧ F p 2 = nI D ∧ ¬ F 79 k = 0 ∧ F 80 k = nI D ∧ dOK n D wN aN (F (p + 1)) (F (p + 2)) ∧ gOk n (runF F n kd wN aN D) (fun j => F 81 (11 * k + j)) ∧ (∀ d, d < D → gOk n (runF F n kd wN aN d) (fun j => F 82 (440 * k + (11 * d + j)))) ∧ ∀ d, d ≤ D → gdZ n (runF F n kd wN aN d)
def RBh (F : Nat → Nat → Int32) (n : Nat) : Prop := F 19 9 = F 70 0 ∧ F 19 10 = F 70 1 ∧ F 19 11 = F 70 2 ∧ F 19 12 = F 70 3 ∧ (∃ b, b < 10 ∧ F 19 9 = nI b) ∧ (∃ b, b < 10 ∧ F 19 10 = nI b) ∧ (∃ b, b < 10 ∧ F 19 11 = nI b) ∧ ∃ b, b < 7 ∧ F 19 12 = nI b ∧ (0 < n → 0 < b)
def RBi (F : Nat → Nat → Int32) (n : Nat) (kd : Nat → Nat) : Prop := ∀ i, i < n → F 27 i = nI (kd i) ∧ F 71 i = nI (kd i) ∧ kd i < 6 ∧ F 28 i = F 72 i ∧ F 29 i = F 73 i ∧ (∃ s, s < 10 ∧ F 28 i = nI s) ∧ ∃ b, b < 10 ∧ F 29 i = nI b
def RBd (F : Nat → Nat → Int32) (n : Nat) (kd : Nat → Nat) (D : Nat) (wN aN : Nat → Nat) : Prop := D ≤ 40 ∧ F 49 2 = nI D ∧ F 63 22 = nI D ∧ dOK n D wN aN (F 50) (F 51) ∧ tOk n (runF F n kd wN aN D) (F 19) (F 31) ∧ gOk n (runF F n kd wN aN D) (F 76) ∧ (∀ d, d < D → gOk n (runF F n kd wN aN d) (fun k => F 78 (11 * d + k))) ∧ ∀ d, d ≤ D → gdZ n (runF F n kd wN aN d)
def RB (F : Nat → Nat → Int32) (n : Nat) (kd : Nat → Nat) (D : Nat) (wN aN : Nat → Nat) : Prop := n ≤ 6 ∧ F 19 8 = nI n ∧ F 63 10 = nI n ∧ F 19 13 = nI (gaN kd n) ∧ RBi F n kd ∧ RBh F n ∧ RBd F n kd D wN aN ∧ KP F n kd 53 0 ∧ KP F n kd 56 1 ∧ KP F n kd 59 2
def isB (k j : Nat) : Bool := k == 19 || (Nat.ble 27 k && Nat.ble k 31) || (Nat.ble 49 k && Nat.ble k 61) || (k == 63 && (j == 10 || j == 22)) || (Nat.ble 70 k && Nat.ble k 73) || k == 76 || (Nat.ble 78 k && Nat.ble k 82)
def mask (p : Nat → Nat → Bool) (F : Nat → Nat → Int32) : Nat → Nat → Int32 := fun k j => if p k j = true then F k j else 0
def keepB (σ τ : St) : Prop := ∀ k j, isB k j = true → τ.1 k j = σ.1 k j
theorem mask_eq {p : Nat → Nat → Bool} {F F' : Nat → Nat → Int32} (h : ∀ k j, p k j = true → F' k j = F k j) : mask p F' = mask p F := by
  funext k j
  unfold mask
  by_cases q : p k j = true
  · rw [if_pos q, if_pos q]
    exact h k j q
  · rw [if_neg q, if_neg q]
theorem RB_m {F : Nat → Nat → Int32} {n : Nat} {kd : Nat → Nat} {D : Nat} {wN aN : Nat → Nat} : RB (mask isB F) n kd D wN aN = RB F n kd D wN aN := rfl
theorem RB.keep {σ τ : St} {n : Nat} {kd : Nat → Nat} {D : Nat} {wN aN : Nat → Nat} (h : RB σ.1 n kd D wN aN) (hk : keepB σ τ) : RB τ.1 n kd D wN aN := by
  rw [← RB_m] at h ⊢
  rw [mask_eq hk]
  exact h
/-- rows, texts, what is told -/
def RA (F : Nat → Nat → Int32) : Prop := (∀ r, r < 6 → F 8 r = F 65 r ∧ -1 ≤ F 8 r ∧ F 8 r ≤ 40 ∧ ∀ i, i < ix (F 8 r) → F (2 + r) i = F 66 (40 * r + i)) ∧ (∀ t, t < 4 → F 14 t = F 68 t ∧ -1 ≤ F 14 t ∧ F 14 t ≤ 60 ∧ ∀ i, i < ix (F 14 t) → F (10 + t) i = F 69 (60 * t + i)) ∧ (∀ f, f < 6 → F 62 f = F 64 f) ∧ F 0 11 = F 63 0 ∧ F 0 12 = F 63 2
def RU (σ : St) : Prop := σ.2 0 13 = σ.2 63 3 ∧ σ.2 0 14 = σ.2 63 4
def Rel (σ : St) : Prop := RA σ.1 ∧ RU σ ∧ ∃ (n : Nat) (kd : Nat → Nat) (D : Nat) (wN aN : Nat → Nat), RB σ.1 n kd D wN aN
