-- how a book is read out of a text
def kbF (b : Int32) : Int32 := if b = 116 then 0 else if b = 114 then 1 else if b = 99 then 2 else if b = 103 then 3 else if b = 108 then 4 else if b = 121 then 5 else -9
theorem kb_or (b : Int32) : kbF b = -9 ∨ ∃ k, k < 6 ∧ kbF b = nI k := by
  unfold kbF
  repeat' split
  · exact Or.inr ⟨0, by decide, rfl⟩
  · exact Or.inr ⟨1, by decide, rfl⟩
  · exact Or.inr ⟨2, by decide, rfl⟩
  · exact Or.inr ⟨3, by decide, rfl⟩
  · exact Or.inr ⟨4, by decide, rfl⟩
  · exact Or.inr ⟨5, by decide, rfl⟩
  · exact Or.inl rfl
def loB (j : Nat) : Int32 := [0, 0, 0, 1].getD j 0
def hiB (j : Nat) : Int32 := [9, 9, 9, 6].getD j 0
def loT (j : Nat) : Int32 := [0, 0, 0].getD j 0
def hiT (j : Nat) : Int32 := [9, 9, 2].getD j 0
theorem lhB : ∀ k, k < 4 → (k < 3 → loB k = 0 ∧ hiB k = 9) ∧ (¬ k < 3 → loB k = 1 ∧ hiB k = 6) := by decide
theorem lhT : ∀ k, k < 3 → loT k = 0 ∧ (k < 2 → hiT k = 9) ∧ (¬ k < 2 → hiT k = 2) := by decide
abbrev okD (f : Nat → Int32) (lo hi : Nat → Int32) (p k : Nat) : Prop := lo k ≤ f (p + k) - 48 ∧ f (p + k) - 48 ≤ hi k
def ffk (f : Nat → Int32) (lo hi : Nat → Int32) (p : Nat) : Nat → Nat
  | 0 => 0
  | k + 1 => if ffk f lo hi p k = k ∧ okD f lo hi p k then k + 1 else ffk f lo hi p k
theorem ffk_t {f : Nat → Int32} {lo hi : Nat → Int32} {p k : Nat} (h : ffk f lo hi p k = k) (h2 : okD f lo hi p k) : ffk f lo hi p (k + 1) = k + 1 := by
  show (if _ then _ else _) = _
  rw [if_pos ⟨h, h2⟩]
theorem ffk_f {f : Nat → Int32} {lo hi : Nat → Int32} {p k : Nat} (h : ffk f lo hi p k = k) (h2 : ¬ okD f lo hi p k) : ∀ d, ffk f lo hi p (k + 1 + d) = k
  | 0 => by
    show (if _ then _ else _) = _
    rw [if_neg (fun q => h2 q.2)]
    exact h
  | d + 1 => by
    have ih := ffk_f h h2 d
    show (if ffk f lo hi p (k + 1 + d) = k + 1 + d ∧ _ then _ else ffk f lo hi p (k + 1 + d)) = _
    rw [if_neg (fun q => by have := q.1; omega)]
    exact ih
theorem ffk_n {f : Nat → Int32} {lo hi : Nat → Int32} {p k m : Nat} (h : ffk f lo hi p k = k) (h2 : ¬ okD f lo hi p k) (hm : k < m) : ffk f lo hi p m = k := by
  obtain ⟨d, rfl⟩ : ∃ d, m = k + 1 + d := ⟨m - (k + 1), by omega⟩
  exact ffk_f h h2 d
theorem ffk_le {f : Nat → Int32} {lo hi : Nat → Int32} {p : Nat} : ∀ k, ffk f lo hi p k ≤ k
  | 0 => Nat.le_refl _
  | k + 1 => by
    have ih := ffk_le (f := f) (lo := lo) (hi := hi) (p := p) k
    simp only [ffk]
    split
    · exact Nat.le_refl _
    · exact Nat.le_succ_of_le ih
theorem ffk_ok {f : Nat → Int32} {lo hi : Nat → Int32} {p : Nat} : ∀ m, ffk f lo hi p m = m → ∀ k, k < m → okD f lo hi p k
  | 0, _, k, hk => absurd hk (Nat.not_lt_zero _)
  | m + 1, h, k, hk => by
    by_cases q : ffk f lo hi p m = m ∧ okD f lo hi p m
    · by_cases e : k = m
      · subst e
        exact q.2
      · exact ffk_ok m q.1 k (by omega)
    · have h2 : ffk f lo hi p (m + 1) = ffk f lo hi p m := by
        show (if _ then _ else _) = _
        rw [if_neg q]
      have h3 := ffk_le (f := f) (lo := lo) (hi := hi) (p := p) m
      omega
def sk (f : Nat → Int32) : Nat → Nat → Nat
  | 0, p => p
  | m + 1, p => if f p = 32 then sk f m (p + 1) else p
def skN (f : Nat → Int32) (N p : Nat) : Nat := sk f (N - p) p
theorem skN_b {f : Nat → Int32} {N p : Nat} (h : f p = 32) (hp : p < N) : skN f N p = skN f N (p + 1) := by
  unfold skN
  obtain ⟨m, e⟩ : ∃ m, N - p = m + 1 := ⟨N - p - 1, by omega⟩
  rw [e, show N - (p + 1) = m by omega, sk, if_pos h]
theorem skN_n {f : Nat → Int32} {N p : Nat} (h : ¬ f p = 32) : skN f N p = p := by
  unfold skN
  cases N - p with
  | zero => rfl
  | succ m => rw [sk, if_neg h]
theorem skN_ge {f : Nat → Int32} {N p : Nat} (h : N ≤ p) : skN f N p = p := by
  unfold skN
  rw [show N - p = 0 by omega]
  rfl
theorem sk_le {f : Nat → Int32} : ∀ m p, p ≤ sk f m p ∧ sk f m p ≤ p + m
  | 0, p => ⟨Nat.le_refl _, Nat.le_refl _⟩
  | m + 1, p => by
    have ih := sk_le (f := f) m (p + 1)
    rw [sk]
    split
    · omega
    · omega
theorem skN_le {f : Nat → Int32} {N p : Nat} (h : p ≤ N) : skN f N p ≤ N := by
  have := (sk_le (f := f) (N - p) p).2
  unfold skN
  omega
def tgo (f : Nat → Int32) (N : Nat) : Nat → Nat → Nat → Int32 × Nat
  | 0, i, q => (if q < N ∨ i = 0 then nI q else -9, i)
  | k + 1, i, q => if q < N then (if kbF (f q) = -9 then (nI q, i) else if ffk f loT hiT (q + 1) 3 = 3 then tgo f N k (i + 1) (skN f N (q + 4)) else (nI (q + 1 + ffk f loT hiT (q + 1) 3), i)) else (if i = 0 then nI q else -9, i)
def rdA (f : Nat → Int32) (N q : Nat) : Int32 × Nat := if f q = 107 then (if ffk f loB hiB (q + 1) 4 = 4 then tgo f N 6 0 (skN f N (q + 5)) else (nI (q + 1 + ffk f loB hiB (q + 1) 4), 0)) else (nI q, 0)
def rdF (f : Nat → Int32) (N : Nat) : Int32 × Nat := rdA f N (skN f N 0)
def thP (f : Nat → Int32) (N q0 : Nat) : Nat → Nat
  | 0 => q0
  | i + 1 => skN f N (thP f N q0 i + 4)
def rst (f : Nat → Int32) (N : Nat) (h : Bool) (m p : Nat) : Int32 × Nat := if h = true then tgo f N (6 - m) m (skN f N p) else rdA f N (skN f N p)
def P0 (f : Nat → Int32) (N : Nat) : Nat := skN f N 0 + 1
def QQ (f : Nat → Int32) (N i : Nat) : Nat := thP f N (skN f N (skN f N 0 + 5)) i
def mhd (f : Nat → Int32) (p : Nat) (τ : St) : Prop := ∀ k, k < 4 → τ.1 74 k = f (p + k) - 48
def mth (f : Nat → Int32) (N m : Nat) (τ : St) : Prop := ∀ i, i < m → τ.1 75 (4 * i) = kbF (f (QQ f N i)) ∧ ¬ kbF (f (QQ f N i)) = -9 ∧ ffk f loT hiT (QQ f N i + 1) 3 = 3 ∧ ∀ k, k < 3 → τ.1 75 (4 * i + (k + 1)) = f (QQ f N i + 1 + k) - 48
theorem nI_n9 {p : Nat} (h : p < 100) : ¬ nI p = -9 := fun q => by
  have := nI_nn (n := p) (by omega)
  rw [q] at this
  exact absurd this (by decide)
theorem bM_0 {σ : St} {t N p : Nat} (h : N ≤ p) : bMf σ t N p = 0 := if_neg (by omega)
theorem rt_s {τ : St} {m j : Nat} {f : Nat → Int32} (h : ∀ i, i < j → τ.1 75 (4 * m + (i + 1)) = f i) {x : Int32} : ∀ i, i < j + 1 → (uI (uI τ 63 15 x) 75 (4 * m + (j + 1)) (f j)).1 75 (4 * m + (i + 1)) = f i := fun i hi => by
  by_cases e : i = j
  · subst e
    rw [uI_s]
  · rw [uI_n _ _ _ _ (by omega), uI_o _ _ _ _ (by decide)]
    exact h i (by omega)
