-- marks by turns
def tcF (σ : St) (G : Nat) (kd : Nat → Nat) (L i c : Nat) : Int32 := bI (talkB (kd i) (σ.1 29 i) (σ.1 19 11) (nI c) (nI (othN L G i)) = true)
def bgS (σ : St) (G : Nat) (kd : Nat → Nat) (L : Nat) : Nat → St
  | 0 => uI (uI σ 40 2 (nI L)) 40 3 (σ.1 19 12)
  | i + 1 => cpF (uI (bgS σ G kd L i) 48 i (σ.1 31 i)) (42 + i) 0 (tcF σ G kd L i) 3
theorem bgS_k (σ : St) (G : Nat) (kd : Nat → Nat) (L : Nat) {k : Nat} (h : ¬ (40 ≤ k ∧ k ≤ 48)) : ∀ i, i ≤ 6 → (bgS σ G kd L i).1 k = σ.1 k
  | 0, _ => by
    simp only [bgS]
    rw [uI_o _ _ _ _ (by omega), uI_o _ _ _ _ (by omega)]
  | i + 1, hi => by
    simp only [bgS]
    rw [cpF_other _ _ _ _ (by omega), uI_o _ _ _ _ (by omega), bgS_k σ G kd L h i (by omega)]
theorem bgS_f (σ : St) (G : Nat) (kd : Nat → Nat) (L : Nat) : ∀ i, i ≤ 6 → (bgS σ G kd L i).1 40 = (bgS σ G kd L 0).1 40
  | 0, _ => rfl
  | i + 1, hi => by
    rw [← bgS_f σ G kd L i (by omega)]
    show (cpF _ _ _ _ _).1 _ = _
    rw [cpF_other _ _ _ _ (by omega), uI_o _ _ _ _ (by omega)]
theorem bgS_l (σ : St) (G : Nat) (kd : Nat → Nat) (L i : Nat) (hi : i ≤ 6) : (bgS σ G kd L i).1 40 2 = nI L := by rw [bgS_f _ _ _ _ i hi]; rfl
theorem bgS_b (σ : St) (G : Nat) (kd : Nat → Nat) (L i : Nat) (hi : i ≤ 6) : (bgS σ G kd L i).1 40 3 = σ.1 19 12 := by rw [bgS_f _ _ _ _ i hi]; rfl
theorem bgS_c (σ : St) (G : Nat) (kd : Nat → Nat) (L : Nat) {j : Nat} : ∀ i, i ≤ 6 → j < i → (bgS σ G kd L i).1 48 j = σ.1 31 j
  | 0, _, h => absurd h (Nat.not_lt_zero _)
  | i + 1, hi, h => by
    show (cpF _ _ _ _ _).1 _ _ = _
    rw [cpF_other _ _ _ _ (by omega)]
    by_cases e : j = i
    · subst e
      rw [uI_s]
    · rw [uI_n _ _ _ _ e, bgS_c σ G kd L i (by omega) (by omega)]
def kS (σ : St) (p : Int32 × Int32) : St := uI (uI σ 40 4 p.1) 40 5 p.2
theorem kS_kS (σ : St) (p q : Int32 × Int32) : uI (uI (kS σ p) 40 4 q.1) 40 5 q.2 = kS σ q := by
  unfold kS uI
  congr 1
  funext z
  by_cases h : z = 40
  · subst h
    simp only [if_true]
    funext y
    simp only [upd]
    by_cases h5 : y = 5
    · simp [h5]
    · by_cases h4 : y = 4
      · simp [h4]
      · simp [h4, h5]
  · simp [h]
theorem kS_k (σ : St) (p : Int32 × Int32) {k : Nat} (h : k ≠ 40) : (kS σ p).1 k = σ.1 k := by simp [kS, uI, h]
theorem kS_f (σ : St) (p : Int32 × Int32) {j : Nat} (h : j ≠ 4 ∧ j ≠ 5) : (kS σ p).1 40 j = σ.1 40 j := by simp [kS, uI, upd, h.1, h.2]
def skF (L : Nat) (cr : Nat → Nat) (tk : Nat → Nat → Int32) (b : Int32) : Nat → Int32 → Int32 → Int32 → Int32 × Int32 → Int32 × Int32
  | 0 => fun m s t p => if s < b ∧ (p.1 = -9 ∨ m < p.1 ∨ (m = p.1 ∧ p.2 < t)) then (m, t) else p
  | k + 1 => fun m s t p => if L.testBit (5 - k) = true then itr (fun d q => skF L cr tk b k (m + nI (cr (5 - k) + d) - nI (cr (5 - k))) (s + tk (5 - k) (cr (5 - k) + d)) (if cr (5 - k) + d = 2 then t + 1 else t) q) p (3 - cr (5 - k)) else skF L cr tk b k m s t p
def tkC (σ : St) (i c : Nat) : Int32 := σ.1 (42 + i) c
theorem uI_self (σ : St) (k j : Nat) (v : Int32) (h : σ.1 k j = v) : uI σ k j v = σ := by
  obtain ⟨f, g⟩ := σ
  unfold uI
  congr 1
  funext z
  by_cases hz : z = k
  · subst hz
    simp only [if_true]
    funext y
    simp only [upd]
    split
    · rename_i e
      rw [e]
      exact h.symm
    · rfl
  · simp [hz]
def cfOk (L : Nat) (cf : Nat → Int32) : Prop := ∀ i, i < 6 → L.testBit i = true → 0 ≤ cf i ∧ cf i ≤ 2
def tnG (L : Nat) (tk : Nat → Nat → Int32) (rec : (Nat → Int32) → Int32 → Int32 → Int32) (cf : Nat → Int32) (st sp : Int32) (i : Nat) (r : Int32) : Int32 := if L.testBit i = true ∧ 0 ≤ cf i + st ∧ cf i + st ≤ 2 then (if 0 < st then (if rec (upd cf i (cf i + st)) (-st) (sp - tk i (ix (cf i)) + tk i (ix (cf i + st))) < r then rec (upd cf i (cf i + st)) (-st) (sp - tk i (ix (cf i)) + tk i (ix (cf i + st))) else r) else (if r < rec (upd cf i (cf i + st)) (-st) (sp - tk i (ix (cf i)) + tk i (ix (cf i + st))) then rec (upd cf i (cf i + st)) (-st) (sp - tk i (ix (cf i)) + tk i (ix (cf i + st))) else r)) else r
def tnF (L : Nat) (tk : Nat → Nat → Int32) : Nat → (Nat → Int32) → Int32 → Int32 → Int32
  | 0 => fun _ _ sp => sp
  | k + 1 => fun cf st sp => itr (tnG L tk (tnF L tk k) cf st sp) (tnF L tk k cf (-st) sp) 6
theorem cf_ix {x : Int32} (h0 : 0 ≤ x) (h2 : x ≤ 2) : ∃ a, a < 3 ∧ ix x = a ∧ x = nI a := by
  obtain ⟨a, ha, xa, e⟩ := nat_of (M := 2) h0 h2 rfl (by decide)
  exact ⟨a, by omega, xa, e⟩
def tSilent (σ : St) (G : Nat) (kd cr : Nat → Nat) (n L : Nat) : Int32 × St := if σ.1 19 8 = 0 then (-4, σ) else if (skF L cr (tkC (bgS σ G kd L n)) (σ.1 19 12) 6 0 0 0 (-9, 0)).1 = -9 then (-9, kS (bgS σ G kd L n) (skF L cr (tkC (bgS σ G kd L n)) (σ.1 19 12) 6 0 0 0 (-9, 0))) else ((skF L cr (tkC (bgS σ G kd L n)) (σ.1 19 12) 6 0 0 0 (-9, 0)).1, uI (kS (bgS σ G kd L n) (skF L cr (tkC (bgS σ G kd L n)) (σ.1 19 12) 6 0 0 0 (-9, 0))) 0 12 (skF L cr (tkC (bgS σ G kd L n)) (σ.1 19 12) 6 0 0 0 (-9, 0)).2)
def tDuel (σ : St) (G : Nat) (kd : Nat → Nat) (n L : Nat) (x : Int32) : Int32 × St := if x < 0 ∨ 4 < x then (-1, σ) else if σ.1 19 8 = 0 then (-4, σ) else (tnF L (tkC (bgS σ G kd L n)) (ix x) ((bgS σ G kd L n).1 48) 1 (nI (pcN (mkN (tkS σ G kd L) n))), bgS σ G kd L n)
