-- deeds
def stS (kd : Nat → Nat) (G n w a L : Nat) (σ : St) : St := match w with
  | 0 => enW σ G kd n L
  | 1 => enG σ (nI a)
  | 2 => enC σ a
  | _ => enH σ kd a L
def stL (w a L : Nat) : Nat := match w with
  | 0 => L
  | 1 => L
  | 2 => L
  | _ => L &&& (63 ^^^ 2 ^ a)
theorem stL_64 {w a L : Nat} (h : L < 64) : stL w a L < 64 := by
  unfold stL
  split <;> first | exact h | exact and_lt h
theorem stS_k (kd : Nat → Nat) (G n w a L : Nat) (σ : St) {k : Nat} (h1 : k ≠ 19) (h2 : k ≠ 31) : (stS kd G n w a L σ).1 k = σ.1 k := by
  unfold stS
  split <;> simp [enW, enG, enC, enH, uI, h1, h2]
theorem stS_f (kd : Nat → Nat) (G n w a L : Nat) (σ : St) {j : Nat} (h : j ≠ 14 ∧ j ≠ 15 ∧ j ≠ 16 ∧ j ≠ 17 ∧ j ≠ 18) : (stS kd G n w a L σ).1 19 j = σ.1 19 j := by
  obtain ⟨h1, h2, h3, h4, h5⟩ := h
  unfold stS
  split <;> simp [enW, enG, enC, enH, uI, upd, h1, h2, h3, h4, h5]
theorem stS_l (kd : Nat → Nat) (G n w a L : Nat) (σ : St) (h : σ.1 19 14 = nI L) : (stS kd G n w a L σ).1 19 14 = nI (stL w a L) := by
  unfold stS stL
  split <;> simp [enW, enG, enC, enH, uI, upd, h]
theorem stS_ok {kd : Nat → Nat} {G n w a L : Nat} {σ : St} (h : bkOk σ n G kd) : bkOk (stS kd G n w a L σ) n G kd := bkOk_of h (stS_f _ _ _ _ _ _ _ (by decide)) (stS_f _ _ _ _ _ _ _ (by decide)) (stS_k _ _ _ _ _ _ _ (by decide) (by decide))
def rpS (σ : St) (kd : Nat → Nat) (G n : Nat) (wN aN : Nat → Nat) : Nat → St × Nat
  | 0 => (rsS σ n, 2 ^ n - 1)
  | d + 1 => (stS kd G n (wN d) (aN d) (rpS σ kd G n wN aN d).2 (rpS σ kd G n wN aN d).1, stL (wN d) (aN d) (rpS σ kd G n wN aN d).2)
theorem rsS_k (σ : St) (n : Nat) {k : Nat} (h1 : k ≠ 19) (h2 : k ≠ 31) : (rsS σ n).1 k = σ.1 k := by simp [rsS, uI, h1, cpF_other _ _ _ _ h2]
theorem rsS_f (σ : St) (n : Nat) {j : Nat} (h : j ≠ 14 ∧ j ≠ 15 ∧ j ≠ 16 ∧ j ≠ 17 ∧ j ≠ 18) : (rsS σ n).1 19 j = σ.1 19 j := by
  obtain ⟨h1, h2, h3, h4, h5⟩ := h
  simp [rsS, uI, upd, h1, h2, h3, h4, h5, cpF_other _ _ _ _ (show 19 ≠ 31 by decide)]
theorem rsS_ok {σ : St} {n G : Nat} {kd : Nat → Nat} (h : bkOk σ n G kd) : bkOk (rsS σ n) n G kd := bkOk_of h (rsS_f _ _ (by decide)) (rsS_f _ _ (by decide)) (rsS_k _ _ (by decide) (by decide))
theorem rpS_facts {σ : St} {n G : Nat} {kd : Nat → Nat} (hb : bkOk σ n G kd) (wN aN : Nat → Nat) : ∀ d, bkOk (rpS σ kd G n wN aN d).1 n G kd ∧ (rpS σ kd G n wN aN d).1.1 19 14 = nI (rpS σ kd G n wN aN d).2 ∧ (rpS σ kd G n wN aN d).2 < 64 ∧ ∀ k, k ≠ 19 → k ≠ 31 → (rpS σ kd G n wN aN d).1.1 k = σ.1 k
  | 0 => by
    refine ⟨rsS_ok hb, by simp [rpS, rsS, uI, upd], ?_, fun k h1 h2 => rsS_k σ n h1 h2⟩
    have h1 := p2_64 hb.2.1
    have h2 := p2_pos n
    show 2 ^ n - 1 < 64
    omega
  | d + 1 => by
    obtain ⟨h1, h2, h3, h4⟩ := rpS_facts hb wN aN d
    exact ⟨stS_ok h1, stS_l _ _ _ _ _ _ _ h2, stL_64 h3, fun k h5 h6 => by rw [rpS, stS_k _ _ _ _ _ _ _ h5 h6, h4 k h5 h6]⟩
def addS (σ : St) (D : Nat) (w a : Int32) : St := uI (uI (uI σ 50 D w) 51 D a) 49 2 (nI (D + 1))
theorem addS_k (σ : St) (D : Nat) (w a : Int32) {k : Nat} (h : k ≠ 49 ∧ k ≠ 50 ∧ k ≠ 51) : (addS σ D w a).1 k = σ.1 k := by simp [addS, uI, h.1, h.2.1, h.2.2]
theorem addS_ok {σ : St} {n G : Nat} {kd : Nat → Nat} {D : Nat} {w a : Int32} (h : bkOk σ n G kd) : bkOk (addS σ D w a) n G kd := bkOk_of h (by rw [addS_k _ _ _ _ (by decide)]) (by rw [addS_k _ _ _ _ (by decide)]) (by rw [addS_k _ _ _ _ (by decide)])
def dwOk (σ : St) (n D : Nat) (wN aN : Nat → Nat) : Prop := ∀ d, d < D → σ.1 50 d = nI (wN d) ∧ σ.1 51 d = nI (aN d) ∧ wN d < 4 ∧ (2 ≤ wN d → aN d < n)
def dOk (p : Nat) : Prop := p = 49 ∨ p = 53 ∨ p = 56 ∨ p = 59
theorem gam_d {p : Nat} (h : dOk p) : Gam[p]? = some (.inr (.inr (4, [.inl (p + 1), .inl (p + 2), .inr false]))) := by rcases h with rfl | rfl | rfl | rfl <;> rfl
theorem gam_dw {p : Nat} (h : dOk p) : Gam[p + 1]? = some (.inl (.int, 40)) := by rcases h with rfl | rfl | rfl | rfl <;> rfl
theorem gam_do {p : Nat} (h : dOk p) : Gam[p + 2]? = some (.inl (.int, 40)) := by rcases h with rfl | rfl | rfl | rfl <;> rfl
theorem recv_d {p : Nat} (h : dOk p) : recv p "TakerBook$Deeds" := ⟨4, _, (R_D, F_D, 3), gam_d h, rfl, rfl⟩
theorem dOk_k {j : Nat} (h : j < 3) : dOk (53 + 3 * j) := by
  rcases j with _ | _ | _ | j
  · exact Or.inr (Or.inl rfl)
  · exact Or.inr (Or.inr (Or.inl rfl))
  · exact Or.inr (Or.inr (Or.inr rfl))
  · omega
theorem dOk_0 : dOk 49 := Or.inl rfl
def bcS (σ : St) (p q : Nat) : St := uI (uA (uA σ (p + 1) (va_cpy (σ.1 (q + 1)) (σ.1 (p + 1)) (0 : Int32).toNatClampNeg (0 : Int32).toNatClampNeg (40 : Int32).toNatClampNeg)) (p + 2) (va_cpy (σ.1 (q + 2)) (σ.1 (p + 2)) (0 : Int32).toNatClampNeg (0 : Int32).toNatClampNeg (40 : Int32).toNatClampNeg)) p 2 (σ.1 q 2)
theorem has_nat {i x : Int32} {n : Nat} (h : 0 ≤ i ∧ i < x) (hx : x = nI n) (hn : n ≤ 6) : ∃ j, j < n ∧ ix i = j ∧ i = nI j := by
  subst hx
  exact inR_nat (N := n) h rfl (by omega)
def tThief (σ : St) (G : Nat) (kd : Nat → Nat) (L : Nat) (i w : Int32) : Int32 × St := if ¬ (0 ≤ i ∧ i < σ.1 19 8) ∨ w < 0 ∨ 7 < w then (-1, σ) else (1, uI σ 0 12 (tlS σ G kd L (ix i) (ix w)))
def tMark (σ : St) (G : Nat) (kd : Nat → Nat) (n L : Nat) (i w : Int32) : Int32 × St := if ¬ (0 ≤ i ∧ i < σ.1 19 8) ∨ w ≤ 0 ∨ 6 ≤ w then (-1, σ) else if ofB (kd (ix i)) w = true then (mkS σ G kd n L (ix i) (ix w), σ) else (-3, tRef σ 3)
def opT (σ : St) : Prop := 0 < σ.1 19 8 ∧ σ.1 19 18 = 0
def tWeek (σ : St) (G : Nat) (kd : Nat → Nat) (n L D : Nat) : Int32 × St := if ¬ (0 < σ.1 19 8 ∧ σ.1 19 18 = 0) then (-4, σ) else if ¬ D < 40 then (-2, σ) else
  ((enW (addS σ D 0 0) G kd n L).1 19 17, uI (enW (addS σ D 0 0) G kd n L) 0 12 (if (enW (addS σ D 0 0) G kd n L).1 19 18 = 0 then 0 else 1))
def tBack (σ : St) (D : Nat) (m : Int32) : Int32 × St := if m < 1 ∨ 99 < m then (-1, σ) else if ¬ (0 < σ.1 19 8 ∧ σ.1 19 18 = 0) then (-4, σ) else if σ.1 19 17 < m then (-6, σ) else if ¬ D < 40 then (-2, σ) else
  ((enG (addS σ D 1 m) m).1 19 16, enG (addS σ D 1 m) m)
def tCross (σ : St) (L D : Nat) (i : Int32) : Int32 × St := if ¬ (0 ≤ i ∧ i < σ.1 19 8) then (-1, σ) else if ¬ σ.1 19 18 = 0 ∨ ¬ (L.testBit (ix i) = true ∧ σ.1 31 (ix i) < 2) then (-4, σ) else if ¬ D < 40 then (-2, σ) else
  ((enC (addS σ D 2 i) (ix i)).1 31 (ix i), enC (addS σ D 2 i) (ix i))
def tGive (σ : St) (kd : Nat → Nat) (L D : Nat) (i : Int32) : Int32 × St := if ¬ (0 ≤ i ∧ i < σ.1 19 8) then (-1, σ) else if ¬ σ.1 19 18 = 0 ∨ ¬ L.testBit (ix i) = true then (-4, σ) else if ¬ D < 40 then (-2, σ) else
  ((enH (addS σ D 3 i) kd (ix i) L).1 19 16, enH (addS σ D 3 i) kd (ix i) L)
theorem nI_nle40 {D : Nat} (h : D < 40) : ¬ (40 : Int32) ≤ nI D := fun q => absurd ((nI_leI (a := 40) (b := D) (by omega) (by omega)).mp q) (by omega)
