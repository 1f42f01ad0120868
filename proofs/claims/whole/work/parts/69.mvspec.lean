-- the model: chances, lots
theorem uL_s (σ : St) (k j : Nat) (v : Int64) : (uL σ k j v).2 k j = v := by
  show (if k = k then vp_updL (σ.2 k) j v else σ.2 k) j = v
  rw [if_pos rfl]
  exact pk_uLs
theorem uL_n (σ : St) (k j : Nat) (v : Int64) {j' : Nat} (h : j' ≠ j) : (uL σ k j v).2 k j' = σ.2 k j' := by
  show (if k = k then vp_updL (σ.2 k) j v else σ.2 k) j' = _
  rw [if_pos rfl]
  exact pk_uLn h
theorem lN_m1 (x : Nat) : lN x * 1 = lN x := (lN_mul x 1).trans (by rw [Nat.mul_one])
theorem lN_a0 (x : Nat) : lN x + 0 = lN x := lN_add x 0
def whN (S : Nat) : Nat → Nat
  | 0 => 1
  | i + 1 => if S.testBit i = true then whN S i * 12 else whN S i
theorem wh_t {S i : Nat} (h : S.testBit i = true) : whN S (i + 1) = whN S i * 12 := by simp [whN, h]
theorem wh_f {S i : Nat} (h : ¬ S.testBit i = true) : whN S (i + 1) = whN S i := by simp [whN, h]
def prN (p S s : Nat) : Nat → Nat
  | 0 => 1
  | i + 1 => prN p S s i * (if S.testBit i = true then (if s.testBit i = true then p else 12 - p) else 1)
theorem pr_n {p S s i : Nat} (h : ¬ S.testBit i = true) : prN p S s (i + 1) = prN p S s i * 1 := by simp [prN, h]
theorem pr_s {p S s i : Nat} (h : S.testBit i = true) (h2 : s.testBit i = true) : prN p S s (i + 1) = prN p S s i * p := by simp [prN, h, h2]
theorem pr_t {p S s i : Nat} (h : S.testBit i = true) (h2 : ¬ s.testBit i = true) : prN p S s (i + 1) = prN p S s i * (12 - p) := by simp [prN, h, h2]
def psN (b : Int32) (p S n : Nat) : Nat → Nat
  | 0 => 0
  | s + 1 => if s &&& (63 ^^^ S) = 0 ∧ nI (pcN S - pcN s) < b then psN b p S n s + prN p S s n else psN b p S n s
theorem ps_t {b : Int32} {p S n s : Nat} (h : s &&& (63 ^^^ S) = 0) (h2 : nI (pcN S - pcN s) < b) : psN b p S n (s + 1) = psN b p S n s + prN p S s n := by simp [psN, h, h2]
theorem ps_f {b : Int32} {p S n s : Nat} (h : ¬ s &&& (63 ^^^ S) = 0) : psN b p S n (s + 1) = psN b p S n s := by simp [psN, h]
theorem ps_f2 {b : Int32} {p S n s : Nat} (h2 : ¬ nI (pcN S - pcN s) < b) : psN b p S n (s + 1) = psN b p S n s := by
  simp only [psN]
  rw [if_neg (fun q => h2 q.2)]
theorem pc_sub0 : ∀ S, S < 64 → ∀ s, s < 64 → (¬ s &&& (63 ^^^ S) = 0 ∨ pcN s ≤ pcN S) := by decide +kernel
theorem pc_sub {S s : Nat} (hS : S < 64) (hs : s < 64) (h : s &&& (63 ^^^ S) = 0) : pcN s ≤ pcN S := (pc_sub0 S hS s hs).resolve_left (fun q => q h)
theorem wh_b {S : Nat} : ∀ i, 0 < whN S i ∧ whN S i ≤ 12 ^ i
  | 0 => ⟨(by decide : (0 : Nat) < 1), Nat.le_refl _⟩
  | i + 1 => by
    obtain ⟨h1, h2⟩ := wh_b (S := S) i
    have e : 12 ^ (i + 1) = 12 ^ i * 12 := by rw [Nat.pow_succ]
    by_cases q : S.testBit i = true
    · rw [wh_t q]
      omega
    · rw [wh_f q]
      omega
theorem pr_b {p S s : Nat} (hp : p ≤ 12) : ∀ i, prN p S s i ≤ 12 ^ i
  | 0 => Nat.le_refl _
  | i + 1 => by
    have ih := pr_b (S := S) (s := s) hp i
    have e : 12 ^ (i + 1) = 12 ^ i * 12 := by rw [Nat.pow_succ]
    rw [e]
    exact Nat.mul_le_mul ih (by (repeat' split) <;> omega)
theorem ps_b {b : Int32} {p S n : Nat} (hp : p ≤ 12) (hn : n ≤ 6) : ∀ s, psN b p S n s ≤ s * 2985984
  | 0 => Nat.zero_le _
  | s + 1 => by
    have ih := ps_b (b := b) (S := S) hp hn s
    have h1 := pr_b (S := S) (s := s) hp n
    have h2 := p12_b hn
    simp only [psN]
    rw [Nat.succ_mul]
    split
    · exact Nat.add_le_add ih (Nat.le_trans h1 h2)
    · exact Nat.le_trans ih (Nat.le_add_right _ _)
def mOdds (σ τ : St) (kd : Nat → Nat) (n a : Nat) (x : Int32) : Int32 × St := if ¬ (0 ≤ x ∧ x ≤ 12) then (-1, τ) else if n = 0 then (-4, τ) else (1, uL (uL τ 63 3 (lN (psN (σ.1 70 3) (ix x) (spX σ kd n (nwC σ) a) n (spX σ kd n (nwC σ) a + 1) / Nat.gcd (psN (σ.1 70 3) (ix x) (spX σ kd n (nwC σ) a) n (spX σ kd n (nwC σ) a + 1)) (whN (spX σ kd n (nwC σ) a) n)))) 63 4 (lN (whN (spX σ kd n (nwC σ) a) n / Nat.gcd (psN (σ.1 70 3) (ix x) (spX σ kd n (nwC σ) a) n (spX σ kd n (nwC σ) a + 1)) (whN (spX σ kd n (nwC σ) a) n))))
def mMid (σ τ : St) (kd : Nat → Nat) (n a lo : Nat) (x : Int32) : Int32 × St := if ¬ (0 ≤ x ∧ x ≤ 12) then (-1, τ) else if n = 0 then (-4, τ) else (1, uL (uL τ 63 3 (lN (psN (σ.1 70 3) (ix x) (spX σ kd n (nwC σ) a) n (spX σ kd n (nwC σ) a + 1) * lo / Nat.gcd (psN (σ.1 70 3) (ix x) (spX σ kd n (nwC σ) a) n (spX σ kd n (nwC σ) a + 1) * lo) (whN (spX σ kd n (nwC σ) a) n)))) 63 4 (lN (whN (spX σ kd n (nwC σ) a) n / Nat.gcd (psN (σ.1 70 3) (ix x) (spX σ kd n (nwC σ) a) n (spX σ kd n (nwC σ) a + 1) * lo) (whN (spX σ kd n (nwC σ) a) n))))
theorem ps_lt {b : Int32} {p S n : Nat} (hp : p ≤ 12) (hn : n ≤ 6) (hS : S < 64) : psN b p S n (S + 1) ≤ 191102976 := Nat.le_trans (ps_b hp hn _) (by omega)
theorem ml_lt {x lo : Nat} (h : x ≤ 191102976) (h2 : lo ≤ 1000) : x * lo < 4611686018427387904 := Nat.lt_of_le_of_lt (Nat.mul_le_mul h h2) (by decide)
theorem wh_lt {S n : Nat} (hn : n ≤ 6) : whN S n ≤ 2985984 := Nat.le_trans (wh_b n).2 (p12_b hn)
def lmW (σ : St) (a act i : Nat) : Nat := if act = 2 ∧ a.testBit i = true then 3 else if act = 3 ∧ (a.testBit i = true ∧ σ.1 76 (5 + i) < 2) then 2 else 0
def smT (kd : Nat → Nat) (n w i a : Nat) (σ : St) : St := match w with
  | 3 => guM σ 76 kd a i
  | 2 => crM σ i
  | _ => paM σ 76 kd n a
def lmF (kd : Nat → Nat) (n s : Nat) (i : Nat) (z : Lo) : Lo := if z.1.1 76 4 = 0 then (smT kd n (lmW (rmM z.1 z.2.2) z.2.1 (lotN s (i + 1) % 4) (lotA s n i)) (lotA s n i) z.2.1 (rmM z.1 z.2.2), stL (lmW (rmM z.1 z.2.2) z.2.1 (lotN s (i + 1) % 4) (lotA s n i)) (lotA s n i) z.2.1, z.2.2 + 1) else z
def lmS (σ : St) (kd : Nat → Nat) (n a D s : Nat) (i : Nat) : Lo := itr (lmF kd n s) (σ, a, D) i
theorem lm_y {σ : St} {kd : Nat → Nat} {n a D s i : Nat} (h : (lmS σ kd n a D s i).1.1 76 4 = 0) : lmS σ kd n a D s (i + 1) = (smT kd n (lmW (rmM (lmS σ kd n a D s i).1 (lmS σ kd n a D s i).2.2) (lmS σ kd n a D s i).2.1 (lotN s (i + 1) % 4) (lotA s n i)) (lotA s n i) (lmS σ kd n a D s i).2.1 (rmM (lmS σ kd n a D s i).1 (lmS σ kd n a D s i).2.2), stL (lmW (rmM (lmS σ kd n a D s i).1 (lmS σ kd n a D s i).2.2) (lmS σ kd n a D s i).2.1 (lotN s (i + 1) % 4) (lotA s n i)) (lotA s n i) (lmS σ kd n a D s i).2.1, (lmS σ kd n a D s i).2.2 + 1) := by
  show lmF kd n s i (lmS σ kd n a D s i) = _
  unfold lmF
  rw [if_pos h]
theorem lm_n {σ : St} {kd : Nat → Nat} {n a D s i : Nat} (h : ¬ (lmS σ kd n a D s i).1.1 76 4 = 0) : ∀ d, lmS σ kd n a D s (i + d) = lmS σ kd n a D s i
  | 0 => rfl
  | d + 1 => by
    show lmF kd n s (i + d) (lmS σ kd n a D s (i + d)) = _
    rw [lm_n h d]
    unfold lmF
    rw [if_neg h]
theorem smT_k (kd : Nat → Nat) (n w i a : Nat) (σ : St) {k : Nat} (h : k ≠ 76) : (smT kd n w i a σ).1 k = σ.1 k := by
  unfold smT
  split
  · rw [guM, uI_o _ _ _ _ h, uI_o _ _ _ _ h]
  · rw [crM, uI_o _ _ _ _ h]
  · rw [paM, uI_o _ _ _ _ h, uI_o _ _ _ _ h, uI_o _ _ _ _ h]
theorem smT_0 (kd : Nat → Nat) (n w i a : Nat) (σ : St) (h : σ.1 76 0 = nI a) (hw : w = 3 ∨ w = 2 ∨ w = 0) : (smT kd n w i a σ).1 76 0 = nI (stL w i a) := by
  unfold smT stL
  rcases hw with rfl | rfl | rfl
  · show (guM _ _ _ _ _).1 _ _ = _
    rw [guM, uI_s]
    rfl
  · show (crM _ _).1 _ _ = _
    rw [crM, uI_n _ _ _ _ (by omega), h]
    rfl
  · show (paM _ _ _ _ _).1 _ _ = _
    rw [paM, uI_n _ _ _ _ (by decide), uI_n _ _ _ _ (by decide), uI_n _ _ _ _ (by decide), h]
    rfl
theorem lmW_4 {σ : St} {a act i : Nat} : lmW σ a act i = 3 ∨ lmW σ a act i = 2 ∨ lmW σ a act i = 0 := by
  unfold lmW
  split
  · exact Or.inl rfl
  · split
    · exact Or.inr (Or.inl rfl)
    · exact Or.inr (Or.inr rfl)
def lmP (n : Nat) (kd : Nat → Nat) (D i : Nat) (z : Lo) : Prop := mkOk z.1 n kd ∧ z.1.1 76 0 = nI z.2.1 ∧ z.2.1 < 64 ∧ z.1.1 63 22 = nI z.2.2 ∧ D ≤ z.2.2 ∧ z.2.2 ≤ D + i
theorem lm_P {σ : St} {kd : Nat → Nat} {n a D s : Nat} (hb : mkOk σ n kd) (h0 : σ.1 76 0 = nI a) (ha : a < 64) (hD : σ.1 63 22 = nI D) : ∀ i, lmP n kd D i (lmS σ kd n a D s i)
  | 0 => ⟨hb, h0, ha, hD, Nat.le_refl _, Nat.le_refl _⟩
  | i + 1 => by
    obtain ⟨h1, h2, h3, h4, h5, h6⟩ := lm_P hb h0 ha hD (s := s) i
    by_cases h : (lmS σ kd n a D s i).1.1 76 4 = 0
    · rw [lm_y h]
      refine ⟨mkOk_of (rm_ok (D := (lmS σ kd n a D s i).2.2) h1) ?_ ?_, smT_0 _ _ _ _ _ _ (rm_0 h2) lmW_4, stL_64 h3, ?_, ?_, ?_⟩
      · exact congrFun (smT_k _ _ _ _ _ _ (by decide)) _
      · exact smT_k _ _ _ _ _ _ (by decide)
      · show (smT _ _ _ _ _ _).1 63 22 = _
        rw [smT_k _ _ _ _ _ _ (by decide)]
        exact uI_s _ _ _ _
      · show _ ≤ _ + 1
        omega
      · show _ + 1 ≤ _
        omega
    · rw [show lmS σ kd n a D s (i + 1) = _ from lm_n h 1]
      exact ⟨h1, h2, h3, h4, h5, by omega⟩
def mLots (σ : St) (kd : Nat → Nat) (n a D : Nat) (m seed : Int32) : Int32 × St := if ¬ ((1 ≤ m ∧ m ≤ 20) ∧ (1 ≤ seed ∧ seed ≤ 2147483646)) then (-1, σ) else if ovM σ n then (-4, σ) else if 40 < D + ix m then (-2, σ) else (nI ((lmS σ kd n a D (ix seed) (ix m)).2.2 - D), (lmS σ kd n a D (ix seed) (ix m)).1)
