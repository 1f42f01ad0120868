-- the model reads a whole book
theorem tgo_s {f : Nat → Int32} {N k i q : Nat} (h : q < N) (h1 : ¬ kbF (f q) = -9) (h2 : ffk f loT hiT (q + 1) 3 = 3) : tgo f N (k + 1) i q = tgo f N k (i + 1) (skN f N (q + 4)) := by
  rw [tgo, if_pos h, if_neg h1, if_pos h2]
theorem tgo_b {f : Nat → Int32} {N m q : Nat} (h : q < N) (hm : m ≤ 6) (h1 : kbF (f q) = -9 ∨ m = 6) : tgo f N (6 - m) m q = (nI q, m) := by
  by_cases e : m = 6
  · subst e
    show (if q < N ∨ 6 = 0 then nI q else -9, 6) = _
    rw [if_pos (Or.inl h)]
  · obtain ⟨k, ek⟩ : ∃ k, 6 - m = k + 1 := ⟨6 - m - 1, by omega⟩
    rw [ek, tgo, if_pos h, if_pos (h1.resolve_right e)]
theorem tgo_f {f : Nat → Int32} {N m q : Nat} (h : q < N) (hm : m ≤ 6) (h1 : ¬ (kbF (f q) = -9 ∨ m = 6)) (h2 : ¬ ffk f loT hiT (q + 1) 3 = 3) : tgo f N (6 - m) m q = (nI (q + 1 + ffk f loT hiT (q + 1) 3), m) := by
  obtain ⟨k, ek⟩ : ∃ k, 6 - m = k + 1 := ⟨6 - m - 1, by omega⟩
  rw [ek, tgo, if_pos h, if_neg (fun q => h1 (Or.inl q)), if_neg h2]
theorem tgo_e {f : Nat → Int32} {N m q : Nat} (h : ¬ q < N) : ∀ k, tgo f N k m q = (if m = 0 then nI q else -9, m)
  | 0 => by
    show (if q < N ∨ m = 0 then nI q else -9, m) = _
    by_cases e : m = 0
    · rw [if_pos (Or.inr e), if_pos e]
    · rw [if_neg (fun r => r.elim h e), if_neg e]
  | k + 1 => by
    rw [tgo, if_neg h]
theorem fig_in {f : Nat → Int32} {N : Nat} (hf : ∀ p, N ≤ p → f p = 0) {lo hi : Nat → Int32} {p k : Nat} (h : okD f lo hi p k) (hl : 0 ≤ lo k) : p + k < N := by
  refine Decidable.byContradiction fun q => ?_
  have e := hf (p + k) (by omega)
  unfold okD at h
  rw [e] at h
  have h1 := h.1
  simp only [Int32.le_iff_toInt_le] at h1 hl
  have e1 : ((0 : Int32) - 48).toInt = -48 := rfl
  have e2 : (0 : Int32).toInt = 0 := rfl
  omega
theorem ffB_in {f : Nat → Int32} {N : Nat} (hf : ∀ p, N ≤ p → f p = 0) {p : Nat} (h : ffk f loB hiB p 4 = 4) : p + 3 < N := fig_in hf (ffk_ok 4 h 3 (by omega)) (by decide)
theorem ffT_in {f : Nat → Int32} {N : Nat} (hf : ∀ p, N ≤ p → f p = 0) {p : Nat} (h : ffk f loT hiT p 3 = 3) : p + 2 < N := fig_in hf (ffk_ok 3 h 2 (by omega)) (by decide)
theorem mth_c {f : Nat → Int32} {N m : Nat} {τ τ' : St} (h : mth f N m τ) (e : ∀ i, i < 4 * m → τ'.1 75 i = τ.1 75 i) : mth f N m τ' := fun i hi => by
  obtain ⟨h1, h2, h3, h4⟩ := h i hi
  exact ⟨(e _ (by omega)).trans h1, h2, h3, fun k hk => (e _ (by omega)).trans (h4 k hk)⟩
theorem mth_s {f : Nat → Int32} {N m p : Nat} {τ τ' : St} (h : mth f N m τ) (e : ∀ i, i < 4 * m → τ'.1 75 i = τ.1 75 i) (hq : QQ f N m = p) (h1 : ¬ kbF (f p) = -9) (h2 : ffk f loT hiT (p + 1) 3 = 3) (ek : τ'.1 75 (4 * m) = kbF (f p)) (e3 : ∀ k, k < 3 → τ'.1 75 (4 * m + (k + 1)) = f (p + 1 + k) - 48) : mth f N (m + 1) τ' := fun i hi => by
  by_cases q : i = m
  · subst q
    rw [hq]
    exact ⟨ek, h1, h2, e3⟩
  · exact mth_c h e i (by omega)
theorem rd_end {f : Nat → Int32} {N m : Nat} {h : Bool} (hf : ∀ p, N ≤ p → f p = 0) (hm0 : ¬ h = true → m = 0) (hR : rst f N h m N = rdF f N) : rdF f N = (if m = 0 then nI N else -9, m) := by
  rw [← hR]
  unfold rst
  rw [skN_ge (Nat.le_refl _)]
  by_cases q : h = true
  · rw [if_pos q, tgo_e (Nat.lt_irrefl _)]
  · rw [if_neg q, hm0 q]
    unfold rdA
    rw [hf N (Nat.le_refl _), if_neg (by decide)]
    rfl
theorem rd_t1 {f : Nat → Int32} {N m p : Nat} {h : Bool} (hR : rst f N h m p = rdF f N) (hh : h = true) (h32 : ¬ f p = 32) (hp : p < N) (hm : m ≤ 6) (hk : kbF (f p) = -9 ∨ m = 6) : (rdF f N).1 = nI p := by
  rw [← hR]
  unfold rst
  rw [if_pos hh, skN_n h32, tgo_b hp hm hk]
theorem rd_t2 {f : Nat → Int32} {N m p : Nat} {h : Bool} (hR : rst f N h m p = rdF f N) (hh : h = true) (h32 : ¬ f p = 32) (hp : p < N) (hm : m ≤ 6) (hk : ¬ (kbF (f p) = -9 ∨ m = 6)) (h3 : ¬ ffk f loT hiT (p + 1) 3 = 3) : (rdF f N).1 = nI (p + 1 + ffk f loT hiT (p + 1) 3) := by
  rw [← hR]
  unfold rst
  rw [if_pos hh, skN_n h32, tgo_f hp hm hk h3]
theorem rd_h1 {f : Nat → Int32} {N m p : Nat} {h : Bool} (hR : rst f N h m p = rdF f N) (hh : ¬ h = true) (h32 : ¬ f p = 32) (hk : ¬ f p = 107) : (rdF f N).1 = nI p := by
  rw [← hR]
  unfold rst
  rw [if_neg hh, skN_n h32]
  unfold rdA
  rw [if_neg hk]
theorem rd_h2 {f : Nat → Int32} {N m p : Nat} {h : Bool} (hR : rst f N h m p = rdF f N) (hh : ¬ h = true) (h32 : ¬ f p = 32) (hk : f p = 107) (h4 : ¬ ffk f loB hiB (p + 1) 4 = 4) : (rdF f N).1 = nI (p + 1 + ffk f loB hiB (p + 1) 4) := by
  rw [← hR]
  unfold rst
  rw [if_neg hh, skN_n h32]
  unfold rdA
  rw [if_pos hk, if_neg h4]
theorem rs_b {f : Nat → Int32} {N m p : Nat} {h : Bool} (hR : rst f N h m p = rdF f N) (h32 : f p = 32) (hp : p < N) : rst f N h m (p + 1) = rdF f N := by
  rw [← hR]
  unfold rst
  rw [skN_b h32 hp]
theorem rs_h {f : Nat → Int32} {N m p : Nat} {h : Bool} (hR : rst f N h m p = rdF f N) (hh : ¬ h = true) (h32 : ¬ f p = 32) (hk : f p = 107) (h4 : ffk f loB hiB (p + 1) 4 = 4) : rst f N true 0 (p + 5) = rdF f N := by
  rw [← hR]
  unfold rst
  rw [if_pos rfl, if_neg hh, skN_n h32]
  unfold rdA
  rw [if_pos hk, if_pos h4]
theorem rs_t {f : Nat → Int32} {N m p : Nat} {h : Bool} (hR : rst f N h m p = rdF f N) (hh : h = true) (h32 : ¬ f p = 32) (hp : p < N) (hm : m ≤ 6) (hk : ¬ (kbF (f p) = -9 ∨ m = 6)) (h3 : ffk f loT hiT (p + 1) 3 = 3) : rst f N h (m + 1) (p + 4) = rdF f N := by
  rw [← hR]
  unfold rst
  have e : 6 - m = 6 - (m + 1) + 1 := by omega
  rw [if_pos hh, if_pos hh, skN_n h32, e, tgo_s hp (fun q => hk (Or.inl q)) h3]
def bkD (f : Nat → Int32) (N : Nat) (τ : St) : Prop := τ.1 63 16 = nI (rdF f N).2 ∧ (rdF f N).2 ≤ 6 ∧ 0 < (rdF f N).2 ∧ mhd f (P0 f N) τ ∧ ffk f loB hiB (P0 f N) 4 = 4 ∧ mth f N (rdF f N).2 τ
def szN (σ : St) (t : Nat) : Nat := ix (σ.1 68 t)
def mFault (σ τ : St) (t : Int32) : Int32 × St := if ¬ inR t 4 then (-1, τ) else if σ.1 68 (ix t) < 0 then (-3, mRef τ 1) else ((rdF (bMf σ (ix t) (szN σ (ix t))) (szN σ (ix t))).1, τ)
def tlF (ρ s : St) : Nat → St
  | 0 => s
  | i + 1 => uI (uI (uI (uI (tlF ρ s i) 71 i (ρ.1 75 (4 * i))) 72 i (ρ.1 75 (4 * i + 1))) 73 i (ρ.1 75 (4 * i + 2))) 76 (5 + i) (ρ.1 75 (4 * i + 3))
theorem tlF_o (ρ s : St) {k : Nat} (h : k ≠ 71 ∧ k ≠ 72 ∧ k ≠ 73 ∧ k ≠ 76) : ∀ i, (tlF ρ s i).1 k = s.1 k
  | 0 => rfl
  | i + 1 => by rw [tlF, uI_o _ _ _ _ h.2.2.2, uI_o _ _ _ _ h.2.2.1, uI_o _ _ _ _ h.2.1, uI_o _ _ _ _ h.1, tlF_o ρ s h i]
theorem fl_o (σ : St) (k off : Nat) (v : Int32) {k' : Nat} (h : k' ≠ k) : ∀ i, (fl σ k off v i).1 k' = σ.1 k'
  | 0 => rfl
  | i + 1 => by rw [fl, uI_o _ _ _ _ h, fl_o σ k off v h i]
def bm2 (ρ : St) (m : Nat) : St := cpF (uI ρ 63 10 (nI m)) 70 0 (ρ.1 74) 4
def bm4 (ρ : St) (m : Nat) : St := uI (fl (bm2 ρ m) 76 0 0 11) 76 0 (nI (2 ^ m - 1))
def bm6 (ρ : St) (m : Nat) : St := uI (tlF ρ (bm4 ρ m) m) 63 22 0
def bkM (ρ : St) (m : Nat) : St := fl (bm6 ρ m) 79 0 0 3
def mBook (σ τ : St) (t : Int32) : Int32 × St := if ¬ inR t 4 then (-1, τ) else if σ.1 68 (ix t) < 0 then (-3, mRef τ 1) else if ¬ (rdF (bMf σ (ix t) (szN σ (ix t))) (szN σ (ix t))).1 = -9 then (-4, τ) else (nI (rdF (bMf σ (ix t) (szN σ (ix t))) (szN σ (ix t))).2, bkM τ (rdF (bMf σ (ix t) (szN σ (ix t))) (szN σ (ix t))).2)
