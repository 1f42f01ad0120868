-- what no call shows: the model's scratch cells
def scrB (k j : Nat) : Bool := (k == 67 || k == 74 || k == 75 || k == 77 || k == 83 || k == 84 || k == 85 || k == 86) || (k == 63 && ((Nat.ble 15 j && Nat.ble j 17) || (Nat.ble 29 j && Nat.ble j 33)))
def scrL (k j : Nat) : Bool := k == 63 && Nat.ble 37 j
def fr (σ τ : St) : Prop := (∀ k j, scrB k j = false → τ.1 k j = σ.1 k j) ∧ ∀ k j, scrL k j = false → τ.2 k j = σ.2 k j
theorem fr.rf {σ : St} : fr σ σ := ⟨fun _ _ _ => rfl, fun _ _ _ => rfl⟩
theorem fr.tr {σ τ ρ : St} (h : fr σ τ) (h2 : fr τ ρ) : fr σ ρ := ⟨fun k j e => (h2.1 k j e).trans (h.1 k j e), fun k j e => (h2.2 k j e).trans (h.2 k j e)⟩
theorem fr.u {σ τ : St} (h : fr σ τ) {k j : Nat} {v : Int32} (hs : scrB k j = true) : fr σ (uI τ k j v) := ⟨fun k' j' e => by
  by_cases hk : k' = k
  · subst hk
    by_cases hj : j' = j
    · subst hj
      rw [hs] at e
      cases e
    · rw [uI_n _ _ _ _ hj]
      exact h.1 _ _ e
  · rw [uI_o _ _ _ _ hk]
    exact h.1 _ _ e, fun k' j' e => h.2 _ _ e⟩
theorem fr.l {σ τ : St} (h : fr σ τ) {k j : Nat} {v : Int64} (hs : scrL k j = true) : fr σ (uL τ k j v) := ⟨fun k' j' e => h.1 _ _ e, fun k' j' e => by
  by_cases hk : k' = k
  · subst hk
    by_cases hj : j' = j
    · subst hj
      rw [hs] at e
      cases e
    · show (if k' = k' then vp_updL (τ.2 k') j v else τ.2 k') j' = _
      rw [if_pos rfl, pk_uLn hj]
      exact h.2 _ _ e
  · show (if k' = k then vp_updL (τ.2 k) j v else τ.2 k') j' = _
    rw [if_neg hk]
    exact h.2 _ _ e⟩
theorem fr.c {σ τ : St} (h : fr σ τ) {k off : Nat} {f : Nat → Int32} (hs : ∀ j, scrB k j = true) : ∀ m, fr σ (cpF τ k off f m)
  | 0 => h
  | m + 1 => (fr.c h hs m).u (hs _)
theorem fr.v {σ τ : St} (h : fr σ τ) {k j : Nat} {x : Int32} (hs : scrB k j = false) (e : σ.1 k j = x) : τ.1 k j = x := (h.1 k j hs).trans e
theorem fr.mk {σ τ : St} (h : fr σ τ) {n : Nat} {kd : Nat → Nat} (hb : mkOk σ n kd) : mkOk τ n kd := mkOk_of hb (h.1 63 10 rfl) (funext fun j => h.1 71 j rfl)
theorem cpF_at (σ : St) (k off : Nat) (f : Nat → Int32) {j : Nat} : ∀ m, j < m → (cpF σ k off f m).1 k (off + j) = f j
  | 0, h => absurd h (Nat.not_lt_zero _)
  | m + 1, h => by
    by_cases e : j = m
    · subst e
      exact uI_s _ _ _ _
    · rw [cpF, uI_n _ _ _ _ (by omega)]
      exact cpF_at σ k off f m (by omega)
theorem cpF_out (σ : St) (k off : Nat) (f : Nat → Int32) {j : Nat} : ∀ m, (j < off ∨ off + m ≤ j) → (cpF σ k off f m).1 k j = σ.1 k j
  | 0, _ => rfl
  | m + 1, h => by
    rw [cpF, uI_n _ _ _ _ (by omega)]
    exact cpF_out σ k off f m (by omega)
theorem mkN_c {f g : Nat → Bool} : ∀ n, (∀ k, k < n → f k = g k) → mkN f n = mkN g n
  | 0, _ => rfl
  | n + 1, h => by
    simp only [mkN]
    rw [mkN_c n (fun k hk => h k (by omega)), h n (by omega)]
theorem sumI_c {f g : Nat → Int32} : ∀ n, (∀ k, k < n → f k = g k) → sumI f n = sumI g n
  | 0, _ => rfl
  | n + 1, h => by
    simp only [sumI]
    rw [sumI_c n (fun k hk => h k (by omega)), h n (by omega)]
/-- who speaks, by these crosses, of those left -/
def spX (σ : St) (kd : Nat → Nat) (n : Nat) (cr : Nat → Int32) (b : Nat) : Nat := mkN (tkF kd (σ.1 73) cr (σ.1 70 2) (gaN kd n) b) n
abbrev trX (σ : St) (kd : Nat → Nat) (n : Nat) (cr : Nat → Int32) (b : Nat) : Prop := σ.1 70 3 ≤ nI (pcN (spX σ kd n cr b))
abbrev nwC (σ : St) : Nat → Int32 := fun i => σ.1 76 (5 + i)
theorem spX_eq {σ τ : St} (h : fr σ τ) {kd : Nat → Nat} {n kO b : Nat} {cr : Nat → Int32} (ec : ∀ i, i < n → τ.1 kO (5 + i) = cr i) : mkN (tkM τ kO kd n b) n = spX σ kd n cr b := by
  apply mkN_c
  intro i hi
  show (b.testBit i && _) = (b.testBit i && _)
  simp only []
  rw [ec i hi, h.1 73 i rfl, h.1 70 2 rfl]
theorem spX_64 {σ : St} {kd : Nat → Nat} {n b : Nat} {cr : Nat → Int32} (h : n ≤ 6) : spX σ kd n cr b < 64 := mkN_64 _ h
theorem skX {σ τ : St} (h : fr σ τ) : τ.1 72 = σ.1 72 := funext fun j => h.1 _ j rfl
theorem oI_g {o : Option Nat} (h : ¬ oI o = -9) : oI o = nI (o.getD 0) := by
  cases o with
  | none => exact absurd rfl h
  | some s => rfl
def sfM (σ : St) (kd : Nat → Nat) (n a : Nat) (s : Nat) (o : Option Nat) : Option Nat := if (oI o = -9 ∨ pcN s < pcN (o.getD 0)) ∧ s &&& (63 ^^^ a) = 0 ∧ ¬ trX σ kd n (nwC σ) (a &&& (63 ^^^ s)) then some s else o
theorem sfM_b {σ : St} {kd : Nat → Nat} {n a : Nat} : ∀ s, s ≤ 64 → (itr (sfM σ kd n a) none s).getD 0 < 64
  | 0, _ => (by decide : (0 : Nat) < 64)
  | s + 1, h => by
    have ih := sfM_b (σ := σ) (kd := kd) (n := n) (a := a) s (by omega)
    simp only [itr, sfM]
    split
    · show s < 64
      omega
    · exact ih
theorem oI_s {s : Nat} (h : s < 2147483648) : ¬ oI (some s) = -9 := by
  intro q
  have h1 : (0 : Int32) ≤ nI s := nI_nn h
  rw [show nI s = -9 from q] at h1
  exact absurd h1 (by decide)
theorem oI_9' {o : Option Nat} (h : o.getD 0 < 64) : oI o = -9 ↔ o = none := by
  cases o with
  | none => exact ⟨fun _ => rfl, fun _ => rfl⟩
  | some s => exact ⟨fun q => absurd q (oI_s (by have : s < 64 := h; omega)), fun q => by cases q⟩
theorem sfM_some {σ : St} {kd : Nat → Nat} {n a : Nat} {s0 : Nat} (h1 : s0 &&& (63 ^^^ a) = 0) (h2 : ¬ trX σ kd n (nwC σ) (a &&& (63 ^^^ s0))) : ∀ s, s0 < s → s ≤ 64 → ¬ itr (sfM σ kd n a) none s = none
  | 0, h, _ => absurd h (Nat.not_lt_zero _)
  | s + 1, h, h64 => by
    have hb := sfM_b (σ := σ) (kd := kd) (n := n) (a := a) s (by omega)
    simp only [itr, sfM]
    by_cases e : s0 = s
    · subst e
      split
      · simp
      · rename_i q
        intro r
        apply q
        exact ⟨Or.inl ((oI_9' hb).mpr r), h1, h2⟩
    · have ih := sfM_some h1 h2 s (by omega) (by omega)
      split
      · simp
      · exact ih
theorem mkN_0 : ∀ n, mkN (fun _ => false) n = 0
  | 0 => rfl
  | n + 1 => by simp [mkN, mkN_0 n]
theorem trX_0 {σ : St} {kd : Nat → Nat} {n : Nat} {cr : Nat → Int32} (h : 0 < σ.1 70 3) : ¬ trX σ kd n cr 0 := by
  have e : spX σ kd n cr 0 = 0 := by
    exact (mkN_c n (g := fun _ => false) (fun k hk => by simp [tkF])).trans (mkN_0 n)
  intro q
  unfold trX at q
  rw [e] at q
  exact absurd q (i_lt_le.mpr h)
theorem and_x63 : ∀ a, a < 64 → a &&& (63 ^^^ a) = 0 := by decide +kernel
def safM (σ : St) (kd : Nat → Nat) (n a : Nat) : Nat := (itr (sfM σ kd n a) none (2 ^ n)).getD 0
theorem safM_ne {σ : St} {kd : Nat → Nat} {n a : Nat} (hn : n ≤ 6) (ha : a < 2 ^ n) (hben : 0 < σ.1 70 3) : ¬ oI (itr (sfM σ kd n a) none (2 ^ n)) = -9 := by
  have h64 := p2_64 hn
  rw [oI_9' (sfM_b _ h64)]
  refine sfM_some (s0 := a) (and_x63 a (by omega)) ?_ _ ha h64
  rw [and_x63 a (by omega)]
  exact trX_0 hben
def mSafe (σ τ : St) (kd : Nat → Nat) (n a : Nat) : Int32 × St := if n = 0 then (-4, τ) else (nI (pcN (safM σ kd n a)), uI τ 63 2 (nI (safM σ kd n a)))
def hsM (σ : St) (kd : Nat → Nat) (s : Nat) : Nat → Int32 := fun i => if s.testBit i = true then priceM (kd i) (σ.1 70 0) (σ.1 76 (5 + i)) else 0
def hdM (σ : St) (kd : Nat → Nat) (n m a : Nat) (s : Nat) (o : Option Nat) : Option Nat := if pcN s = m ∧ s &&& (63 ^^^ a) = 0 ∧ (oI o = -9 ∨ sumI (hsM σ kd (o.getD 0)) n < sumI (hsM σ kd s) n) then some s else o
theorem hdM_b {σ : St} {kd : Nat → Nat} {n m a : Nat} : ∀ s, s ≤ 64 → (itr (hdM σ kd n m a) none s).getD 0 < 64
  | 0, _ => (by decide : (0 : Nat) < 64)
  | s + 1, h => by
    have ih := hdM_b (σ := σ) (kd := kd) (n := n) (m := m) (a := a) s (by omega)
    simp only [itr, hdM]
    split
    · show s < 64
      omega
    · exact ih
def mHeads (σ : St) (kd : Nat → Nat) (n a : Nat) (x : Int32) : Int32 × St := if ¬ (0 ≤ x ∧ x ≤ 6) then (-1, σ) else if n = 0 then (-4, σ) else if oI (itr (hdM σ kd n (ix x) a) none (2 ^ n)) = -9 then (-9, σ) else (sumI (hsM σ kd ((itr (hdM σ kd n (ix x) a) none (2 ^ n)).getD 0)) n, uI σ 63 2 (nI ((itr (hdM σ kd n (ix x) a) none (2 ^ n)).getD 0)))
theorem copy_at {σ τ : St} (h : fr σ τ) {i : Nat} (hi : i < 6) : (cpF τ 77 0 (τ.1 76) 11).1 77 (5 + i) = σ.1 76 (5 + i) := by
  have e : (cpF τ 77 0 (τ.1 76) 11).1 77 (0 + (5 + i)) = τ.1 76 (5 + i) := cpF_at τ 77 0 (τ.1 76) 11 (by omega)
  rw [Nat.zero_add] at e
  rw [e]
  exact h.1 76 _ rfl
