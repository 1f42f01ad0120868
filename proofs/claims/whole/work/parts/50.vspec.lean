-- lots, the digest
theorem lg_neg {x y : Int64} : lg_cmp x y < 0 ↔ x < y := by
  unfold lg_cmp
  split
  · rename_i h
    refine ⟨fun q => absurd q (by decide), fun q => ?_⟩
    exfalso
    simp only [Int64.lt_iff_toInt_lt] at h q
    omega
  · rename_i h
    split
    · rename_i h2
      subst h2
      exact ⟨fun q => absurd q (by decide), fun q => absurd q h⟩
    · rename_i h2
      refine ⟨fun _ => ?_, fun _ => by decide⟩
      simp only [Int64.lt_iff_toInt_lt] at h ⊢
      have h3 : x.toInt ≠ y.toInt := fun q => h2 (Int64.toInt_inj.mp q)
      omega
def lotN (s : Nat) : Nat → Nat
  | 0 => s
  | i + 1 => lotN s i * 48271 % 2147483647
theorem lotN_lt {s : Nat} (h : s < 2147483647) : ∀ i, lotN s i < 2147483647
  | 0 => h
  | i + 1 => Nat.mod_lt _ (by decide)
def lotA (s n i : Nat) : Nat := lotN s (i + 1) / 8 % n
def lotW (σ : St) (L act a : Nat) : Nat := if act = 2 ∧ L.testBit a = true then 3 else if act = 3 ∧ (L.testBit a = true ∧ σ.1 31 a < 2) then 2 else 0
theorem lotW_4 {σ : St} {L act a : Nat} : lotW σ L act a < 4 := by
  unfold lotW
  split
  · omega
  · split <;> omega
abbrev Lo : Type := St × Nat × Nat
def loF (G : Nat) (kd : Nat → Nat) (n s : Nat) (i : Nat) (z : Lo) : Lo := if z.1.1 19 18 = 0 then (stS kd G n (lotW z.1 z.2.1 (lotN s (i + 1) % 4) (lotA s n i)) (lotA s n i) z.2.1 (addS z.1 z.2.2 (nI (lotW z.1 z.2.1 (lotN s (i + 1) % 4) (lotA s n i))) (nI (lotA s n i))), stL (lotW z.1 z.2.1 (lotN s (i + 1) % 4) (lotA s n i)) (lotA s n i) z.2.1, z.2.2 + 1) else z
def loS (σ : St) (G : Nat) (kd : Nat → Nat) (n L D s : Nat) (i : Nat) : Lo := itr (loF G kd n s) (σ, L, D) i
theorem loS_0 (σ : St) (G : Nat) (kd : Nat → Nat) (n L D s : Nat) : loS σ G kd n L D s 0 = (σ, L, D) := rfl
theorem loS_y {σ : St} {G : Nat} {kd : Nat → Nat} {n L D s i : Nat} (h : (loS σ G kd n L D s i).1.1 19 18 = 0) : loS σ G kd n L D s (i + 1) = (stS kd G n (lotW (loS σ G kd n L D s i).1 (loS σ G kd n L D s i).2.1 (lotN s (i + 1) % 4) (lotA s n i)) (lotA s n i) (loS σ G kd n L D s i).2.1 (addS (loS σ G kd n L D s i).1 (loS σ G kd n L D s i).2.2 (nI (lotW (loS σ G kd n L D s i).1 (loS σ G kd n L D s i).2.1 (lotN s (i + 1) % 4) (lotA s n i))) (nI (lotA s n i))), stL (lotW (loS σ G kd n L D s i).1 (loS σ G kd n L D s i).2.1 (lotN s (i + 1) % 4) (lotA s n i)) (lotA s n i) (loS σ G kd n L D s i).2.1, (loS σ G kd n L D s i).2.2 + 1) := by
  show loF G kd n s i (loS σ G kd n L D s i) = _
  unfold loF
  rw [if_pos h]
theorem loS_n {σ : St} {G : Nat} {kd : Nat → Nat} {n L D s i : Nat} (h : ¬ (loS σ G kd n L D s i).1.1 19 18 = 0) : ∀ d, loS σ G kd n L D s (i + d) = loS σ G kd n L D s i
  | 0 => rfl
  | d + 1 => by
    show loF G kd n s (i + d) (loS σ G kd n L D s (i + d)) = _
    rw [loS_n h d]
    unfold loF
    rw [if_neg h]
def loP (n G : Nat) (kd : Nat → Nat) (D i : Nat) (z : Lo) : Prop := bkOk z.1 n G kd ∧ z.1.1 19 14 = nI z.2.1 ∧ z.2.1 < 64 ∧ z.1.1 49 2 = nI z.2.2 ∧ D ≤ z.2.2 ∧ z.2.2 ≤ D + i
theorem loS_P {σ : St} {G : Nat} {kd : Nat → Nat} {n L D s : Nat} (hb : bkOk σ n G kd) (hL : σ.1 19 14 = nI L) (hL64 : L < 64) (hD : σ.1 49 2 = nI D) : ∀ i, loP n G kd D i (loS σ G kd n L D s i)
  | 0 => ⟨hb, hL, hL64, hD, Nat.le_refl _, Nat.le_refl _⟩
  | i + 1 => by
    obtain ⟨h1, h2, h3, h4, h5, h6⟩ := loS_P hb hL hL64 hD (s := s) i
    by_cases h : (loS σ G kd n L D s i).1.1 19 18 = 0
    · rw [loS_y h]
      refine ⟨stS_ok (addS_ok h1), stS_l _ _ _ _ _ _ _ ?_, stL_64 h3, ?_, ?_, ?_⟩
      · rw [addS_k _ _ _ _ (by decide)]
        exact h2
      · show (stS _ _ _ _ _ _ _).1 49 2 = _
        rw [stS_k _ _ _ _ _ _ _ (by decide) (by decide)]
        exact uI_s _ _ _ _
      · show _ ≤ _ + 1
        omega
      · show _ + 1 ≤ _
        omega
    · rw [show loS σ G kd n L D s (i + 1) = _ from loS_n h 1]
      exact ⟨h1, h2, h3, h4, h5, by omega⟩
def tLots (σ : St) (G : Nat) (kd : Nat → Nat) (n L D : Nat) (m seed : Int32) : Int32 × St := if m < 1 ∨ 20 < m ∨ seed < 1 ∨ ¬ seed.toInt64 < 2147483647 then (-1, σ) else if ¬ (0 < σ.1 19 8 ∧ σ.1 19 18 = 0) then (-4, σ) else if 40 < D + ix m then (-2, σ) else (nI ((loS σ G kd n L D (ix seed) (ix m)).2.2 - D), (loS σ G kd n L D (ix seed) (ix m)).1)
def hsF (f : Nat → Int32) (h : Int64) : Nat → Int64
  | 0 => h
  | i + 1 => 31 * hsF f h i + (f i).toInt64
theorem le_ix {x : Int32} {i : Nat} (h : i < 2147483648) : x ≤ nI i ↔ ix x ≤ i := by
  by_cases h0 : 0 ≤ x
  · obtain ⟨a, ha, rfl⟩ := nI_of (i_nlt.mpr h0)
    rw [ix_nI (by omega)]
    exact nI_leI (by omega) h
  · have h1 : ix x = 0 := by
      unfold ix Int32.toNatClampNeg
      simp only [Int32.le_iff_toInt_le] at h0
      have e : (0 : Int32).toInt = 0 := rfl
      omega
    rw [h1]
    refine ⟨fun _ => Nat.zero_le _, fun _ => ?_⟩
    simp only [Int32.le_iff_toInt_le] at h0 ⊢
    rw [nI_toInt (by omega)]
    have e : (0 : Int32).toInt = 0 := rfl
    omega
theorem ix_le {x : Int32} {N : Nat} (h : x ≤ nI N) (hN : N < 2147483648) : ix x ≤ N := (le_ix hN).mp h
def hsR (f : Nat → Nat → Int32) (sz : Nat → Int32) (h : Int64) : Nat → Int64
  | 0 => h
  | r + 1 => hsF (f r) (31 * hsR f sz h r + (sz r).toInt64) (ix (sz r))
def hsT (f : Nat → Nat → Int32) (h : Int64) : Nat → Int64
  | 0 => h
  | i + 1 => hsF (f i) (hsT f h i) 8
def tDigest (σ : St) (G : Nat) (kd : Nat → Nat) (n L : Nat) : Int64 := hsR (fun t => σ.1 (10 + t)) (σ.1 14) (hsR (fun r => σ.1 (2 + r)) (σ.1 8) (hsF (fun k => σ.1 (53 + 3 * k) 2) (hsT (tlS σ G kd L) (hsF (ctT σ G) 17 11) n) 3) 6) 4
