-- the band's deeds and what it tells
theorem nI_pred1 {m : Nat} (h : 0 < m) : nI m - 1 = nI (m - 1) := by
  obtain ⟨k, rfl⟩ : ∃ k, m = k + 1 := ⟨m - 1, by omega⟩
  exact nI_pred k
theorem p2_pos (n : Nat) : 0 < 2 ^ n := Nat.pow_pos (by decide)
def rsS (σ : St) (n : Nat) : St := uI (uI (uI (uI (uI (cpF σ 31 0 (σ.1 30) n) 19 14 (nI (2 ^ n - 1))) 19 15 0) 19 16 0) 19 17 0) 19 18 0
def enW (σ : St) (G : Nat) (kd : Nat → Nat) (n L : Nat) : St := uI (uI (uI σ 19 15 (σ.1 19 15 + 1)) 19 18 (if σ.1 19 12 ≤ nI (pcN (mkN (tkS σ G kd L) n)) then 1 else 0)) 19 17 (σ.1 19 17 + if σ.1 19 12 ≤ nI (pcN (mkN (tkS σ G kd L) n)) then 0 else sumI (ltA kd (σ.1 28) G L) n)
def enG (σ : St) (m : Int32) : St := uI (uI σ 19 17 (σ.1 19 17 - m)) 19 16 (σ.1 19 16 + m * σ.1 19 10)
def enC (σ : St) (i : Nat) : St := uI σ 31 i (σ.1 31 i + 1)
def enH (σ : St) (kd : Nat → Nat) (i L : Nat) : St := uI (uI σ 19 16 (σ.1 19 16 + priceS (kd i) (σ.1 19 9) (σ.1 31 i))) 19 14 (nI (L &&& (63 ^^^ 2 ^ i)))
def tlS (σ : St) (G : Nat) (kd : Nat → Nat) (L i : Nat) : Nat → Int32
  | 0 => nI (kd i)
  | 1 => σ.1 28 i
  | 2 => σ.1 29 i
  | 3 => σ.1 31 i
  | 4 => ltF kd (σ.1 28) G L i
  | 5 => bI (talkB (kd i) (σ.1 29 i) (σ.1 19 11) (σ.1 31 i) (nI (othN L G i)) = true)
  | 6 => bI (L.testBit i = true)
  | _ => priceS (kd i) (σ.1 19 9) (σ.1 31 i)
def mkS (σ : St) (G : Nat) (kd : Nat → Nat) (n L i : Nat) : Nat → Int32
  | 1 => nI (pcN (mkN (tkS σ G kd L) n &&& (63 ^^^ 2 ^ i)))
  | 2 => σ.1 19 15 + 1
  | 3 => nI (othN L G i)
  | 4 => 2 - σ.1 31 i
  | _ => if 0 < σ.1 19 11 + 1 - σ.1 29 i - 2 then σ.1 19 11 + 1 - σ.1 29 i - 2 else 0
def pwL (x : Int64) : Nat → Int64
  | 0 => 1
  | i + 1 => pwL x i * x
def utL (bench p : Int32) (t : Nat) : Nat → Int64
  | 0 => 0
  | s + 1 => if nI (t - pcN s) < bench then utL bench p t s + pwL p.toInt64 (pcN s) * pwL (12 - p).toInt64 (t - pcN s) else utL bench p t s
theorem pc_le : ∀ x, x < 64 → pcN x ≤ 6 := by decide +kernel
theorem pc_lt2 : ∀ t, t < 7 → ∀ x, x < 2 ^ t → pcN x ≤ t := by decide +kernel
theorem p2_le {t : Nat} (h : t ≤ 6) : 2 ^ t ≤ 64 := p2_64 h
