-- the class reads a book
def scrT (k : Nat) : Bool := Nat.ble 15 k && (Nat.ble k 18 || (Nat.ble 32 k && Nat.ble k 40) || (Nat.ble 42 k && Nat.ble k 48))
def frT (σ τ : St) : Prop := (∀ k j, scrT k = false → τ.1 k j = σ.1 k j) ∧ τ.2 = σ.2
theorem frT.rf {σ : St} : frT σ σ := ⟨fun _ _ _ => rfl, rfl⟩
theorem frT.tr {σ τ ρ : St} (h : frT σ τ) (h2 : frT τ ρ) : frT σ ρ := ⟨fun k j e => (h2.1 k j e).trans (h.1 k j e), h2.2.trans h.2⟩
theorem frT.u {σ τ : St} (h : frT σ τ) {k j : Nat} {v : Int32} (hs : scrT k = true) : frT σ (uI τ k j v) := ⟨fun k' j' e => by
  have hk : k' ≠ k := fun q => by
    rw [q, hs] at e
    cases e
  rw [uI_o _ _ _ _ hk]
  exact h.1 _ _ e, h.2⟩
theorem frT.c {σ τ : St} (h : frT σ τ) {k off : Nat} {f : Nat → Int32} (hs : scrT k = true) : ∀ m, frT σ (cpF τ k off f m)
  | 0 => h
  | m + 1 => (frT.c h hs m).u hs
theorem scr_tx {t : Nat} (h : t < 4) : scrT (10 + t) = false := by
  rcases t with _ | _ | _ | _ | t
  · rfl
  · rfl
  · rfl
  · rfl
  · omega
def bTf (σ : St) (t N p : Nat) : Int32 := if p < N then σ.1 (10 + t) p else 0
theorem bT_0 {σ : St} {t N p : Nat} (h : N ≤ p) : bTf σ t N p = 0 := if_neg (by omega)
theorem bT_r {σ τ : St} (f : frT σ τ) {t N p : Nat} (ht : t < 4) (h : p < N) : τ.1 (10 + t) p = bTf σ t N p := by
  unfold bTf
  rw [if_pos h]
  exact f.1 _ _ (scr_tx ht)
theorem uI_cm (σ : St) (k j : Nat) (v : Int32) (k' j' : Nat) (w : Int32) (h : k' ≠ k) : uI (uI σ k j v) k' j' w = uI (uI σ k' j' w) k j v := by
  have h2 : k ≠ k' := fun q => h q.symm
  unfold uI
  congr 1
  funext z
  by_cases h1 : z = k'
  · subst h1
    simp [h]
  · by_cases h3 : z = k
    · subst h3
      simp [h2]
    · simp [h1, h3]
def rfS (ρ : St) (c off p : Nat) (g : Nat → Int32) (k : Nat) : St := uI (cpF ρ c off g k) 15 4 (nI (p + k))
theorem rf_s {ρ : St} {c off p k : Nat} {g : Nat → Int32} (hc : c ≠ 15) : uI (uI (rfS ρ c off p g k) c (off + k) (g k)) 15 4 (nI (p + k + 1)) = rfS ρ c off p g (k + 1) := by
  unfold rfS
  rw [uI_cm _ _ _ _ _ _ _ hc, uI_uI]
  rfl
theorem rf_0 {ρ : St} {c off p : Nat} {g : Nat → Int32} (h : ρ.1 15 4 = nI p) : rfS ρ c off p g 0 = ρ := uI_self _ _ _ _ h
def tth (f : Nat → Int32) (N m : Nat) (τ : St) : Prop := ∀ i, i < m → τ.1 16 i = kbF (f (QQ f N i)) ∧ ¬ kbF (f (QQ f N i)) = -9 ∧ ffk f loT hiT (QQ f N i + 1) 3 = 3 ∧ ∀ k, k < 3 → τ.1 18 (3 * i + k) = f (QQ f N i + 1 + k) - 48
def thd (f : Nat → Int32) (p : Nat) (τ : St) : Prop := ∀ k, k < 4 → τ.1 17 k = f (p + k) - 48
def bkT (f : Nat → Int32) (N : Nat) (τ : St) : Prop := (rdF f N).2 ≤ 6 ∧ 0 < (rdF f N).2 ∧ thd f (P0 f N) τ ∧ ffk f loB hiB (P0 f N) 4 = 4 ∧ tth f N (rdF f N).2 τ
theorem tth_c {f : Nat → Int32} {N m : Nat} {τ τ' : St} (h : tth f N m τ) (e : ∀ i, i < m → τ'.1 16 i = τ.1 16 i) (e2 : ∀ i, i < 3 * m → τ'.1 18 i = τ.1 18 i) : tth f N m τ' := fun i hi => by
  obtain ⟨h1, h2, h3, h4⟩ := h i hi
  exact ⟨(e _ (by omega)).trans h1, h2, h3, fun k hk => (e2 _ (by omega)).trans (h4 k hk)⟩
/-- a thief read at p, the m-th one -/
def rtS (τ : St) (f : Nat → Int32) (p m : Nat) : St := uI (uI (rfS (uI τ 15 4 (nI (p + 1))) 18 (3 * m) (p + 1) (fun i => f (p + 1 + i) - 48) 3) 16 m (kbF (f p))) 15 3 (nI (m + 1))
theorem tth_s {f : Nat → Int32} {N m p : Nat} {τ : St} {x : Int32} (h : tth f N m τ) (hq : QQ f N m = p) (h1 : ¬ kbF (f p) = -9) (h2 : ffk f loT hiT (p + 1) 3 = 3) : tth f N (m + 1) (uI (rtS τ f p m) 15 4 x) := fun i hi => by
  unfold rtS rfS
  by_cases q : i = m
  · subst q
    rw [hq]
    refine ⟨?_, h1, h2, fun k hk => ?_⟩
    · rw [uI_o _ _ _ _ (by decide), uI_o _ _ _ _ (by decide), uI_s]
    · rw [uI_o _ _ _ _ (by decide), uI_o _ _ _ _ (by decide), uI_o _ _ _ _ (by decide), uI_o _ _ _ _ (by decide)]
      exact cpF_at _ _ _ _ 3 hk
  · refine tth_c h (fun j hj => ?_) (fun j hj => ?_) i (by omega)
    · rw [uI_o _ _ _ _ (by decide), uI_o _ _ _ _ (by decide), uI_n _ _ _ _ (by omega), uI_o _ _ _ _ (by decide), cpF_other _ _ _ _ (by decide), uI_o _ _ _ _ (by decide)]
    · rw [uI_o _ _ _ _ (by decide), uI_o _ _ _ _ (by decide), uI_o _ _ _ _ (by decide), uI_o _ _ _ _ (by decide), cpF_out _ _ _ _ 3 (by omega), uI_o _ _ _ _ (by decide)]
theorem rt_fr {σ τ : St} (h : frT σ τ) {f : Nat → Int32} {p m : Nat} : frT σ (rtS τ f p m) := ((((h.u rfl).c rfl _).u rfl).u rfl).u rfl
theorem rf_fr {σ τ : St} (h : frT σ τ) {c off p k : Nat} {g : Nat → Int32} (hc : scrT c = true) : frT σ (rfS τ c off p g k) := (h.c hc _).u rfl
def tFault (σ τ : St) (t : Int32) : Int32 × St := if ¬ inR t 4 then (-1, τ) else if σ.1 14 (ix t) < 0 then (-3, tRef τ 1) else ((rdF (bTf σ (ix t) (ix (σ.1 14 (ix t)))) (ix (σ.1 14 (ix t)))).1, τ)
theorem loB_9 : ∀ k, k < 4 → (-9 : Int32) < loB k := by decide
theorem loT_9 : ∀ k, k < 3 → (-9 : Int32) < loT k := by decide
theorem loB_0 : ∀ k, k < 4 → 0 ≤ loB k := by decide
theorem loT_0 : ∀ k, k < 3 → 0 ≤ loT k := by decide
