-- triples
def allB (f : Nat → Bool) : Nat → Bool
  | 0 => true
  | t + 1 => allB f t && f t
theorem allB_no {f : Nat → Bool} {t T : Nat} (h : t < T) (hf : ¬ f t = true) : ¬ allB f T = true := by
  induction T with
  | zero => omega
  | succ T ih =>
    simp only [allB, Bool.and_eq_true]
    rintro ⟨a, b⟩
    by_cases e : t = T
    · subst e
      exact hf b
    · exact ih (by omega) a
theorem allB_s {f : Nat → Bool} {t : Nat} (h : allB f t = true) (hf : f t = true) : allB f (t + 1) = true := by simp [allB, h, hf]
def triB (σ : St) (k t : Nat) : Bool := decide (0 ≤ σ.1 k (3 * t)) && (decide (σ.1 k (3 * t) ≤ 9) && (decide (0 ≤ σ.1 k (3 * t + 1)) && (decide (σ.1 k (3 * t + 1) ≤ 2) && (decide (0 ≤ σ.1 k (3 * t + 2)) && decide (σ.1 k (3 * t + 2) ≤ 1)))))
theorem triB_t {σ : St} {k t : Nat} : triB σ k t = true ↔ (0 ≤ σ.1 k (3 * t) ∧ σ.1 k (3 * t) ≤ 9 ∧ 0 ≤ σ.1 k (3 * t + 1) ∧ σ.1 k (3 * t + 1) ≤ 2 ∧ 0 ≤ σ.1 k (3 * t + 2) ∧ σ.1 k (3 * t + 2) ≤ 1) := by
  simp only [triB, Bool.and_eq_true, decide_eq_true_eq]
/-- whether kind, boldness speak as the t-th triple says -/
def spB (σ : St) (k kN : Nat) (b o : Int32) (t : Nat) : Bool := talkB kN b (σ.1 k (3 * t)) (σ.1 k (3 * t + 1)) o == decide (σ.1 k (3 * t + 2) = 1)
theorem bit16 : ∀ i, i < 16 → (1 : Int32) <<< (nI i &&& 31) = nI (2 ^ i) := by decide +kernel
theorem rem3 {N : Nat} (h : N ≤ 40) : nI N - nI N / 3 * 3 = nI (N % 3) := pk_rem (a := N) (d := 3) (by omega) (by decide) (by decide)
def rdS (σ : St) (r : Nat) : Nat := ix (σ.1 8 r)
theorem cnt_and_le {a : Nat} {g : Nat → Bool} : ∀ n, cntN (fun k => a.testBit k && g k) n ≤ cntN (fun k => a.testBit k) n
  | 0 => Nat.le_refl _
  | n + 1 => by
    have ih := cnt_and_le (a := a) (g := g) n
    simp only [cntN]
    by_cases h1 : a.testBit n = true <;> by_cases h2 : g n = true <;> simp [h1, h2] <;> omega
def gkF (σ : St) (i a : Nat) (fe cr o : Int32) (k : Nat) : Bool := a.testBit k && talkB k (σ.1 29 i) fe cr o
def gkN (σ : St) (i a : Nat) (fe cr o : Int32) : Nat := max (cntN (gkF σ i a fe cr o) 6) (pcN a - cntN (gkF σ i a fe cr o) 6)
theorem gk_le {σ : St} {i a : Nat} {fe cr o : Int32} (h : a < 64) : cntN (gkF σ i a fe cr o) 6 ≤ pcN a := by
  rw [pc_cnt a h]
  exact cnt_and_le 6
theorem gkN_b {σ : St} {i a : Nat} {fe cr o : Int32} (h : a < 64) : gkN σ i a fe cr o ≤ 6 := by
  have h1 := gk_le (σ := σ) (i := i) (fe := fe) (cr := cr) (o := o) h
  have h2 := pc_le a h
  unfold gkN
  omega
def teF (σ : St) (i a : Nat) (o : Int32) (f c : Nat) (x : Nat × Int32) : Nat × Int32 := if gkN σ i a (nI f) (nI c) o < x.1 then (gkN σ i a (nI f) (nI c) o, nI (10 * f + c)) else x
def teG (σ : St) (i a : Nat) (o : Int32) (f : Nat) (x : Nat × Int32) : Nat × Int32 := itr (teF σ i a o f) x 3
theorem teF_b {σ : St} {i a : Nat} {o : Int32} (ha : a < 64) {f : Nat} (c : Nat) {x : Nat × Int32} (h : x.1 ≤ 7) : (itr (teF σ i a o f) x c).1 ≤ 7 := by
  refine itr_b (fun x : Nat × Int32 => x.1 ≤ 7) h (fun c x hx => ?_) c
  unfold teF
  split
  · exact Nat.le_trans (gkN_b ha) (by decide)
  · exact hx
theorem teG_b {σ : St} {i a : Nat} {o : Int32} (ha : a < 64) (f : Nat) : (itr (teG σ i a o) (7, -9) f).1 ≤ 7 := itr_b (fun x : Nat × Int32 => x.1 ≤ 7) (Nat.le_refl _) (fun f x hx => teF_b ha 3 hx) f
def kbN (σ : St) (G : Nat) (L i a N : Nat) : Nat := mkN (fun k => allB (spB σ (2 + a) k (σ.1 29 i) (nI (othN L G i))) (N / 3)) 6
def boN (σ : St) (G : Nat) (kd : Nat → Nat) (L i a N : Nat) : Nat := mkN (fun b => allB (spB σ (2 + a) (kd i) (nI b) (nI (othN L G i))) (N / 3)) 10
theorem sp_no1 {p : Bool} {c : Prop} [Decidable c] (q : (p == decide c) = true) (hc : c) (h : ¬ bI (p = true) = 1) : False := by
  cases p <;> simp_all [bI]
theorem sp_no0 {p : Bool} {c : Prop} [Decidable c] (q : (p == decide c) = true) (hc : ¬ c) (h : ¬ bI (p = true) = 0) : False := by
  cases p <;> simp_all [bI]
theorem sp_ok1 {p : Bool} {c : Prop} [Decidable c] (hc : c) (h : bI (p = true) = 1) : (p == decide c) = true := by
  cases p <;> simp_all [bI]
theorem sp_ok0 {p : Bool} {c : Prop} [Decidable c] (hc : ¬ c) (h : bI (p = true) = 0) : (p == decide c) = true := by
  cases p <;> simp_all [bI]
