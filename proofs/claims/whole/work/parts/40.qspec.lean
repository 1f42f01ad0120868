-- plans: what the walk through them leaves in the cells
def fiS (W w : Nat) (σ : St) : St := cpF σ 39 0 (fun i => if i < w then σ.1 38 i else -9) W
def endS (W w : Nat) (m : Int32) (σ : St) : St := if σ.1 34 8 < m then fiS W w (uI σ 34 8 m) else σ
def paS (W : Nat) (g : Nat → Int32 → Int32 → St → St) (w : Nat) (given : Int32) (left : Nat) (stock money : Int32) (σ : St) : St := if (uI σ 38 w given).1 35 left = 0 then g left 0 (money + (uI σ 38 w given).1 34 6 * (stock + (uI σ 38 w given).1 36 left)) (uI σ 38 w given) else endS W (w + 1) money (uI σ 38 w given)
def foS (W : Nat) (g : Nat → Int32 → Int32 → St → St) (w left : Nat) (stock money : Int32) (σ : St) : Nat → St
  | 0 => paS W g w (-9) left stock money σ
  | i + 1 => if left.testBit i = true then paS W g w (nI i) (left &&& (63 ^^^ 2 ^ i)) stock (money + (foS W g w left stock money σ i).1 37 i) (foS W g w left stock money σ i) else foS W g w left stock money σ i
def gofS (W : Nat) : Nat → Nat → Nat → Int32 → Int32 → St → St
  | 0 => fun w left _ money σ => endS W w money (uI (uI σ 34 9 (σ.1 34 9 + 1)) 34 10 (σ.1 34 10 &&& (σ.1 34 7 &&& (nI left ^^^ (-1)))))
  | k + 1 => fun w left stock money σ => foS W (gofS W k (w + 1)) w left stock money σ 6
def plK (σ τ : St) : Prop := (∀ c, c ≠ 34 → c ≠ 38 → c ≠ 39 → τ.1 c = σ.1 c) ∧ (∀ j, j ≠ 8 → j ≠ 9 → j ≠ 10 → τ.1 34 j = σ.1 34 j) ∧ τ.2 = σ.2
theorem plK.rf {σ : St} : plK σ σ := ⟨fun _ _ _ _ => rfl, fun _ _ _ _ => rfl, rfl⟩
theorem plK.tr {σ τ ρ : St} (h : plK σ τ) (h2 : plK τ ρ) : plK σ ρ := ⟨fun c a b d => (h2.1 c a b d).trans (h.1 c a b d), fun j a b d => (h2.2.1 j a b d).trans (h.2.1 j a b d), h2.2.2.trans h.2.2⟩
theorem plK_plan {σ : St} {j : Nat} {v : Int32} : plK σ (uI σ 38 j v) := ⟨fun c a b d => uI_o _ _ _ _ b, fun i a b d => by rw [uI_o _ _ _ _ (by decide)], rfl⟩
theorem plK_f {σ : St} {j : Nat} {v : Int32} (h : j = 8 ∨ j = 9 ∨ j = 10) : plK σ (uI σ 34 j v) := ⟨fun c a b d => uI_o _ _ _ _ a, fun i a b d => uI_n _ _ _ _ (by omega), rfl⟩
theorem cpF_2 (σ : St) (k off : Nat) (f : Nat → Int32) : ∀ i, (cpF σ k off f i).2 = σ.2
  | 0 => rfl
  | i + 1 => cpF_2 σ k off f i
theorem plK_fi {σ : St} {W w : Nat} : plK σ (fiS W w σ) := ⟨fun c a b d => cpF_other _ _ _ _ d _, fun j a b d => by rw [fiS, cpF_other _ _ _ _ (by decide)], cpF_2 _ _ _ _ _⟩
theorem plK_end {σ : St} {W w : Nat} {m : Int32} : plK σ (endS W w m σ) := by
  unfold endS
  split
  · exact (plK_f (Or.inl rfl)).tr plK_fi
  · exact plK.rf
theorem plK_pa {W : Nat} {g : Nat → Int32 → Int32 → St → St} (hg : ∀ l s m τ, plK τ (g l s m τ)) {w : Nat} {given : Int32} {left : Nat} {stock money : Int32} {σ : St} : plK σ (paS W g w given left stock money σ) := by
  unfold paS
  split
  · exact plK_plan.tr (hg _ _ _ _)
  · exact plK_plan.tr plK_end
theorem plK_fo {W : Nat} {g : Nat → Int32 → Int32 → St → St} (hg : ∀ l s m τ, plK τ (g l s m τ)) {w left : Nat} {stock money : Int32} {σ : St} : ∀ i, plK σ (foS W g w left stock money σ i)
  | 0 => plK_pa hg
  | i + 1 => by
    have ih := plK_fo (W := W) hg (w := w) (left := left) (stock := stock) (money := money) (σ := σ) i
    simp only [foS]
    split
    · exact ih.tr (plK_pa hg)
    · exact ih
theorem plK_gof {W : Nat} : ∀ (k w l : Nat) (s m : Int32) (τ : St), plK τ (gofS W k w l s m τ)
  | 0, w, l, s, m, τ => (plK_f (Or.inr (Or.inl rfl))).tr ((plK_f (Or.inr (Or.inr rfl))).tr plK_end)
  | k + 1, w, l, s, m, τ => plK_fo (fun l s m τ => plK_gof k (w + 1) l s m τ) 6
