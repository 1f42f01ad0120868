-- plans: untried ones are not many; a plan followed
theorem end_j {W w : Nat} {m : Int32} {σ : St} {j : Nat} (h : j ≠ 8) : (endS W w m σ).1 34 j = σ.1 34 j := by
  unfold endS
  split
  · rw [fiS, cpF_other _ _ _ _ (by decide), uI_n _ _ _ _ h]
  · rfl
def utOk (k : Nat) (σ τ : St) : Prop := ∀ x, σ.1 34 9 = nI x → ∃ y, y ≤ x + k ∧ τ.1 34 9 = nI y
theorem utOk.tr {a b : Nat} {σ τ ρ : St} (h : utOk a σ τ) (h2 : utOk b τ ρ) : utOk (a + b) σ ρ := fun x hx => by
  obtain ⟨y, hy, ey⟩ := h x hx
  obtain ⟨z, hz, ez⟩ := h2 y ey
  exact ⟨z, by omega, ez⟩
theorem utOk.eq {k : Nat} {σ τ : St} (h : τ.1 34 9 = σ.1 34 9) : utOk k σ τ := fun x hx => ⟨x, by omega, by rw [h, hx]⟩
theorem ut_pa {W b : Nat} {g : Nat → Int32 → Int32 → St → St} (hg : ∀ l s m τ, utOk b τ (g l s m τ)) {w : Nat} {given : Int32} {left : Nat} {stock money : Int32} {σ : St} : utOk b σ (paS W g w given left stock money σ) := by
  have e : utOk 0 σ (uI σ 38 w given) := utOk.eq (by rw [uI_o _ _ _ _ (by decide)])
  have h2 : ∀ τ, utOk b (uI σ 38 w given) τ → utOk b σ τ := fun τ h => by
    have := e.tr h
    rwa [Nat.zero_add] at this
  unfold paS
  split
  · exact h2 _ (hg _ _ _ _)
  · exact h2 _ (utOk.eq (end_j (by decide)))
theorem ut_fo {W b : Nat} {g : Nat → Int32 → Int32 → St → St} (hg : ∀ l s m τ, utOk b τ (g l s m τ)) {w left : Nat} {stock money : Int32} {σ : St} : ∀ i, utOk (b * (i + 1)) σ (foS W g w left stock money σ i)
  | 0 => by
    rw [Nat.zero_add, Nat.mul_one]
    exact ut_pa hg
  | i + 1 => by
    have ih := ut_fo (W := W) hg (w := w) (left := left) (stock := stock) (money := money) (σ := σ) i
    have h2 := ih.tr (b := b) (ρ := foS W g w left stock money σ (i + 1)) (by
      simp only [foS]
      split
      · exact ut_pa hg
      · exact utOk.eq rfl)
    exact h2
theorem ut_gof {W : Nat} : ∀ (k w l : Nat) (s m : Int32) (τ : St), utOk (7 ^ k) τ (gofS W k w l s m τ)
  | 0, w, l, s, m, τ => fun x hx => ⟨x + 1, by simp, by
    simp only [gofS]
    rw [end_j (by decide), uI_n _ _ _ _ (by decide), uI_s, hx]
    exact nI_add x 1⟩
  | k + 1, w, l, s, m, τ => by
    have := ut_fo (W := W) (b := 7 ^ k) (g := gofS W k (w + 1)) (fun l s m τ => ut_gof k (w + 1) l s m τ) (w := w) (left := l) (stock := s) (money := m) (σ := τ) 6
    rw [Nat.pow_succ]
    exact this
theorem goS_k (σ : St) (G : Nat) (kd : Nat → Nat) (n L m : Nat) {k : Nat} (h1 : k ≠ 34) (h2 : k ≠ 35) (h3 : k ≠ 36) (h4 : k ≠ 37) : (goS σ G kd n L m).1 k = σ.1 k := by
  unfold goS prcS
  rw [uI_o _ _ _ _ h1, uI_o _ _ _ _ h1, uI_o _ _ _ _ h1, uI_o _ _ _ _ h1, uI_o _ _ _ _ h1, uI_o _ _ _ _ h1, cpF_other _ _ _ _ h4, tryS_k _ _ _ _ _ h2 h3]
theorem pln_ut (σ : St) (G : Nat) (kd : Nat → Nat) (n L : Nat) {m : Nat} (hm : m ≤ 4) : ∃ U, U ≤ 2401 ∧ (plnS σ G kd n L m).1 34 9 = nI U := by
  obtain ⟨y, hy, e⟩ := ut_gof (W := m) m 0 L (σ.1 19 17) 0 (goS σ G kd n L m) 0 (by unfold goS; rw [uI_n _ _ _ _ (by decide), uI_s]; rfl)
  have h7 : 7 ^ m ≤ 7 ^ 4 := Nat.pow_le_pow_right (by decide) hm
  have : 7 ^ 4 = 2401 := by decide
  exact ⟨y, by omega, e⟩
theorem pln_k (σ : St) (G : Nat) (kd : Nat → Nat) (n L m : Nat) {k : Nat} (h : ¬ (34 ≤ k ∧ k ≤ 39)) : (plnS σ G kd n L m).1 k = σ.1 k := by
  unfold plnS
  rw [(plK_gof m 0 L (σ.1 19 17) 0 (goS σ G kd n L m)).1 k (by omega) (by omega) (by omega), goS_k _ _ _ _ _ _ (by omega) (by omega) (by omega) (by omega)]
def pnN (σ : St) (a w L : Nat) : Nat := if σ.1 a w = -9 then L else L &&& (63 ^^^ 2 ^ ix (σ.1 a w))
def pnM (σ : St) (kd : Nat → Nat) (a w : Nat) (m : Int32) : Int32 := if σ.1 a w = -9 then m else m + priceS (kd (ix (σ.1 a w))) (σ.1 19 9) (σ.1 31 (ix (σ.1 a w)))
theorem pnN_64 {σ : St} {a w L : Nat} (h : L < 64) : pnN σ a w L < 64 := by
  unfold pnN
  split
  · exact h
  · exact and_lt h
abbrev Fl : Type := Nat × Int32 × Int32 × Option Nat
abbrev Fl.L (z : Fl) : Nat := z.1
abbrev Fl.s (z : Fl) : Int32 := z.2.1
abbrev Fl.m (z : Fl) : Int32 := z.2.2.1
abbrev Fl.t (z : Fl) : Option Nat := z.2.2.2
def flF (σ : St) (G : Nat) (kd : Nat → Nat) (n a w : Nat) (z : Fl) : Fl := if z.t = none then (if trT σ G kd n (pnN σ a w z.L) then ⟨pnN σ a w z.L, z.s, pnM σ kd a w z.m, some w⟩ else ⟨pnN σ a w z.L, 0, pnM σ kd a w z.m + σ.1 19 10 * (z.s + sumI (ltA kd (σ.1 28) G (pnN σ a w z.L)) n), none⟩) else z
def flS (σ : St) (G : Nat) (kd : Nat → Nat) (n L a : Nat) (N : Nat) : Fl := itr (flF σ G kd n a) ⟨L, σ.1 19 17, 0, none⟩ N
theorem flS_64 {σ : St} {G : Nat} {kd : Nat → Nat} {n L a : Nat} (h : L < 64) (N : Nat) : (flS σ G kd n L a N).L < 64 := by
  refine itr_b (fun z : Fl => z.L < 64) h (fun i z hz => ?_) N
  unfold flF
  split
  · split <;> exact pnN_64 hz
  · exact hz
theorem flS_n {σ : St} {G : Nat} {kd : Nat → Nat} {n L a w : Nat} (h : (flS σ G kd n L a w).t = none) (h2 : trT σ G kd n (pnN σ a w (flS σ G kd n L a w).L)) : flS σ G kd n L a (w + 1) = ⟨pnN σ a w (flS σ G kd n L a w).L, (flS σ G kd n L a w).s, pnM σ kd a w (flS σ G kd n L a w).m, some w⟩ := by
  show flF σ G kd n a w (flS σ G kd n L a w) = _
  unfold flF
  rw [if_pos h, if_pos h2]
theorem flS_y {σ : St} {G : Nat} {kd : Nat → Nat} {n L a w : Nat} (h : (flS σ G kd n L a w).t = none) (h2 : ¬ trT σ G kd n (pnN σ a w (flS σ G kd n L a w).L)) : flS σ G kd n L a (w + 1) = ⟨pnN σ a w (flS σ G kd n L a w).L, 0, pnM σ kd a w (flS σ G kd n L a w).m + σ.1 19 10 * ((flS σ G kd n L a w).s + sumI (ltA kd (σ.1 28) G (pnN σ a w (flS σ G kd n L a w).L)) n), none⟩ := by
  show flF σ G kd n a w (flS σ G kd n L a w) = _
  unfold flF
  rw [if_pos h, if_neg h2]
theorem flS_stop {σ : St} {G : Nat} {kd : Nat → Nat} {n L a w : Nat} (h : ¬ (flS σ G kd n L a w).t = none) : ∀ d, flS σ G kd n L a (w + d) = flS σ G kd n L a w
  | 0 => rfl
  | d + 1 => by
    show flF σ G kd n a (w + d) (flS σ G kd n L a (w + d)) = _
    rw [flS_stop h d]
    unfold flF
    rw [if_neg h]
def trS (σ : St) (o : Option Nat) : St := uI σ 34 11 (oI o)
theorem oI_9 {o : Option Nat} (h : ∀ i, o = some i → i < 64) : oI o = -9 ↔ o = none := by
  cases o with
  | none => simp [oI]
  | some i =>
    have := h i rfl
    have h1 : (-9 : Int32) < nI i := by
      simp only [Int32.lt_iff_toInt_lt]
      rw [nI_toInt (by omega)]
      have e1 : (-9 : Int32).toInt = -9 := rfl
      omega
    simp only [oI, reduceCtorEq, iff_false]
    intro q
    rw [q] at h1
    exact absurd h1 (by decide)
theorem flS_t {σ : St} {G : Nat} {kd : Nat → Nat} {n L a : Nat} (N : Nat) : ∀ i, (flS σ G kd n L a N).t = some i → i < N := by
  induction N with
  | zero => intro i h; cases h
  | succ N ih =>
    intro i
    show (flF σ G kd n a N (flS σ G kd n L a N)).t = some i → _
    unfold flF
    split
    · split
      · intro h
        have := Option.some.inj h
        omega
      · intro h; cases h
    · intro h
      have := ih i h
      omega
def okF (σ : St) (a w : Nat) (z : Option Nat) : Option Nat := match z with
  | none => none
  | some L => if σ.1 a w = -9 then some L else if (0 ≤ σ.1 a w ∧ σ.1 a w < σ.1 19 8) ∧ L.testBit (ix (σ.1 a w)) = true then some (L &&& (63 ^^^ 2 ^ ix (σ.1 a w))) else none
def okS (σ : St) (L a N : Nat) : Option Nat := itr (okF σ a) (some L) N
theorem okS_none {σ : St} {L a w : Nat} (h : okS σ L a w = none) : ∀ d, okS σ L a (w + d) = none
  | 0 => h
  | d + 1 => by
    show okF σ a (w + d) (okS σ L a (w + d)) = _
    rw [okS_none h d]
    rfl
theorem okS_no {σ : St} {L a w N : Nat} (h : okS σ L a w = none) (hw : w ≤ N) : ¬ (okS σ L a N).isSome = true := by
  obtain ⟨d, rfl⟩ : ∃ d, N = w + d := ⟨N - w, by omega⟩
  rw [okS_none h d]
  simp
theorem okS_in {σ : St} {L a N : Nat} (h : (okS σ L a N).isSome = true) : ∀ w, w < N → σ.1 a w = -9 ∨ (0 ≤ σ.1 a w ∧ σ.1 a w < σ.1 19 8) := by
  intro w hw
  by_cases h1 : σ.1 a w = -9
  · exact Or.inl h1
  · by_cases h2 : (0 ≤ σ.1 a w ∧ σ.1 a w < σ.1 19 8)
    · exact Or.inr h2
    · exfalso
      refine okS_no (w := w + 1) ?_ (by omega) h
      show okF σ a w (okS σ L a w) = none
      unfold okF
      split
      · rfl
      · rw [if_neg h1, if_neg (fun q => h2 q.1)]
theorem okS_s {σ : St} {L a w : Nat} : okS σ L a (w + 1) = okF σ a w (okS σ L a w) := rfl
theorem okS_9 {σ : St} {L a w z : Nat} (h : okS σ L a w = some z) (h2 : σ.1 a w = -9) : okS σ L a (w + 1) = some z := by
  rw [okS_s, h]
  show (if _ then _ else _) = _
  rw [if_pos h2]
theorem okS_y {σ : St} {L a w z j : Nat} (h : okS σ L a w = some z) (h2 : ¬ σ.1 a w = -9) (hj : ix (σ.1 a w) = j) (h3 : 0 ≤ σ.1 a w ∧ σ.1 a w < σ.1 19 8) (h4 : z.testBit j = true) : okS σ L a (w + 1) = some (z &&& (63 ^^^ 2 ^ j)) := by
  rw [okS_s, h]
  show (if _ then _ else _) = _
  rw [if_neg h2, hj, if_pos ⟨h3, h4⟩]
theorem okS_bad {σ : St} {L a w z N : Nat} (h : okS σ L a w = some z) (hw : w < N) (h2 : ¬ σ.1 a w = -9) (h3 : ¬ ((0 ≤ σ.1 a w ∧ σ.1 a w < σ.1 19 8) ∧ z.testBit (ix (σ.1 a w)) = true)) : ¬ (okS σ L a N).isSome = true := by
  refine okS_no (w := w + 1) ?_ (by omega)
  rw [okS_s, h]
  show (if _ then _ else _) = _
  rw [if_neg h2, if_neg h3]
def tBest (σ : St) (G : Nat) (kd : Nat → Nat) (n L : Nat) (m r : Int32) : Int32 × St := if ¬ ((0 ≤ m ∧ m ≤ 4) ∧ inR r 6) then (-1, σ) else if ¬ (0 < σ.1 19 8 ∧ σ.1 19 18 = 0) then (-4, σ) else
  ((plnS σ G kd n L (ix m)).1 34 8, uA (tRow (plnS σ G kd n L (ix m)) r m).2 (2 + ix r) (va_cpy ((tRow (plnS σ G kd n L (ix m)) r m).2.1 39) ((tRow (plnS σ G kd n L (ix m)) r m).2.1 (2 + ix r)) (0 : Int32).toNatClampNeg (0 : Int32).toNatClampNeg m.toNatClampNeg))
def tWays (σ : St) (G : Nat) (kd : Nat → Nat) (n L : Nat) (m : Int32) : Int32 × St := if ¬ (0 ≤ m ∧ m ≤ 4) then (-1, σ) else if ¬ (0 < σ.1 19 8 ∧ σ.1 19 18 = 0) then (-4, σ) else
  (1, uI (uL (uL (plnS σ G kd n L (ix m)) 0 13 (lN (ix ((plnS σ G kd n L (ix m)).1 34 9)))) 0 14 (lN 1)) 0 12 (if (plnS σ G kd n L (ix m)).1 34 9 = 0 then 0 else (plnS σ G kd n L (ix m)).1 34 10))
def tBrings (σ : St) (G : Nat) (kd : Nat → Nat) (n L : Nat) (r : Int32) : Int32 × St := if ¬ inR r 6 then (-1, σ) else if ¬ (0 < σ.1 19 8 ∧ σ.1 19 18 = 0) then (-4, σ) else if σ.1 8 (ix r) < 0 then (-3, tRef σ 1) else if 4 < σ.1 8 (ix r) then (-3, tRef σ 5) else if ¬ (okS σ L (2 + ix r) (ix (σ.1 8 (ix r)))).isSome = true then (-3, tRef σ 3) else
  ((flS σ G kd n L (2 + ix r) (ix (σ.1 8 (ix r)))).m, uI (trS σ (flS σ G kd n L (2 + ix r) (ix (σ.1 8 (ix r)))).t) 0 12 (oI (flS σ G kd n L (2 + ix r) (ix (σ.1 8 (ix r)))).t))
-- what row leaves alone
theorem uA_o (σ : St) (k : Nat) (f : Nat → Int32) {k' : Nat} (h : k' ≠ k) : (uA σ k f).1 k' = σ.1 k' := by simp [uA, h]
theorem nI_nn {n : Nat} (h : n < 2147483648) : (0 : Int32) ≤ nI n := (nI_leI (a := 0) (b := n) (by omega) h).mpr (Nat.zero_le _)
theorem tRow_o (σ : St) (m a : Nat) (hm : m ≤ 40) {k : Nat} (ha : a < 6) (h1 : k ≠ 8) (h2 : k ≠ 2 + a) : (tRow σ (nI a) (nI m)).2.1 k = σ.1 k := by
  have e1 : inR (nI a) 6 := by
    refine ⟨nI_nn (by omega), ?_⟩
    exact (nI_ltI (a := a) (b := 6) (by omega) (by omega)).mpr ha
  have e2 : ¬ (40 : Int32) < nI m := fun q => absurd ((nI_ltI (a := 40) (b := m) (by omega) (by omega)).mp q) (by omega)
  have e3 : ¬ nI m < 0 := fun q => absurd (nI_nn (n := m) (by omega)) (fun r => absurd r (i_lt_le.mpr q))
  unfold tRow
  rw [if_neg (by rintro (q | q); exact q e1; exact e2 q), if_neg e3, ix_nI (by omega)]
  show (fl _ _ _ _ _).1 k = _
  have h3 : ∀ N, (fl (uI σ 8 a (nI m)) (2 + a) 0 0 N).1 k = σ.1 k := by
    intro N
    induction N with
    | zero => exact uI_o _ _ _ _ h1
    | succ N ih => rw [fl, uI_o _ _ _ _ h2, ih]
  exact h3 _
