-- the model: crosses by turns
theorem dg_up : ∀ n, n < 7 → ∀ c, c < 3 ^ n → ∀ i, i < n → c / 3 ^ i % 3 < 2 → c + 3 ^ i < 3 ^ n := by decide +kernel
theorem dg_dn : ∀ i, i < 6 → ∀ c, c < 729 → ¬ c / 3 ^ i % 3 = 0 → 3 ^ i ≤ c := by decide +kernel
def tuX (E : Nat → Int32) (code : Nat) (mk : Bool) (i : Nat) : Int32 := if mk = true then E (code + 3 ^ i) else E (code - 3 ^ i)
def tuB (a code : Nat) (mk : Bool) (i : Nat) : Bool := a.testBit i && (if mk = true then decide (dg code i < 2) else decide (0 < dg code i))
def tuF (E : Nat → Int32) (a code : Nat) (mk : Bool) (i : Nat) (b : Int32) : Int32 := if tuB a code mk i = true then (if mk = true then (if tuX E code mk i < b then tuX E code mk i else b) else (if b < tuX E code mk i then tuX E code mk i else b)) else b
def tuS (E : Nat → Int32) (a code : Nat) (mk : Bool) (m : Nat) : Int32 := itr (tuF E a code mk) (E code) m
theorem tu_n {E : Nat → Int32} {a code m : Nat} {mk : Bool} (h : ¬ tuB a code mk m = true) : tuS E a code mk (m + 1) = tuS E a code mk m := by
  show tuF E a code mk m (tuS E a code mk m) = _
  unfold tuF
  rw [if_neg h]
theorem tu_t {E : Nat → Int32} {a code m : Nat} (h : tuB a code true m = true) : tuS E a code true (m + 1) = if E (code + 3 ^ m) < tuS E a code true m then E (code + 3 ^ m) else tuS E a code true m := by
  show tuF E a code true m (tuS E a code true m) = _
  unfold tuF
  rw [if_pos h]
  rfl
theorem tu_f {E : Nat → Int32} {a code m : Nat} (h : tuB a code false m = true) : tuS E a code false (m + 1) = if tuS E a code false m < E (code - 3 ^ m) then E (code - 3 ^ m) else tuS E a code false m := by
  show tuF E a code false m (tuS E a code false m) = _
  unfold tuF
  rw [if_pos h]
  rfl
theorem tb_t {a code i : Nat} (h1 : a.testBit i = true) (h2 : dg code i < 2) : tuB a code true i = true := by
  unfold tuB
  rw [h1, if_pos rfl, decide_eq_true h2]
  rfl
theorem tb_f {a code i : Nat} (h1 : a.testBit i = true) (h2 : 0 < dg code i) : tuB a code false i = true := by
  unfold tuB
  rw [h1, if_neg (by decide), decide_eq_true h2]
  rfl
theorem tb_n {a code i : Nat} {mk : Bool} (h1 : ¬ a.testBit i = true) : ¬ tuB a code mk i = true := by
  unfold tuB
  rw [Bool.and_eq_true]
  exact fun q => h1 q.1
theorem tb_n1 {a code i : Nat} (h1 : ¬ dg code i < 2) : ¬ tuB a code true i = true := by
  unfold tuB
  rw [Bool.and_eq_true, if_pos rfl, decide_eq_true_eq]
  exact fun q => h1 q.2
theorem tb_n2 {a code i : Nat} (h1 : ¬ 0 < dg code i) : ¬ tuB a code false i = true := by
  unfold tuB
  rw [Bool.and_eq_true, if_neg (by decide), decide_eq_true_eq]
  exact fun q => h1 q.2
theorem tuS_c {E E' : Nat → Int32} {a code n : Nat} {mk : Bool} (hn : n < 7) (h : ∀ c, c < 3 ^ n → E c = E' c) (hc : code < 3 ^ n) : ∀ m, m ≤ n → tuS E a code mk m = tuS E' a code mk m
  | 0, _ => h code hc
  | m + 1, hm => by
    have ih := tuS_c (E := E) (E' := E') (a := a) (mk := mk) hn h hc m (by omega)
    by_cases q : tuB a code mk m = true
    · cases mk
      · rw [tu_f q, tu_f q, ih, h (code - 3 ^ m) (Nat.lt_of_le_of_lt (Nat.sub_le _ _) hc)]
      · have q2 : dg code m < 2 := by
          unfold tuB at q
          rw [Bool.and_eq_true, if_pos rfl, decide_eq_true_eq] at q
          exact q.2
        rw [tu_t q, tu_t q, ih, h (code + 3 ^ m) (dg_up n hn code hc m (by omega) q2)]
    · rw [tu_n q, tu_n q, ih]
def hrN (cr : Nat → Nat) (n : Nat) : Nat → Nat
  | 0 => 0
  | j + 1 => 3 * hrN cr n j + cr (n - 1 - j)
theorem hr_lt {cr : Nat → Nat} {n : Nat} (h : ∀ i, i < n → cr i < 3) : ∀ j, j ≤ n → hrN cr n j < 3 ^ j
  | 0, _ => (by decide : (0 : Nat) < 3 ^ 0)
  | j + 1, hj => by
    have ih := hr_lt h j (by omega)
    have h1 := h (n - 1 - j) (by omega)
    show 3 * hrN cr n j + _ < 3 ^ (j + 1)
    rw [Nat.pow_succ]
    omega
def dpV (σ : St) (kd : Nat → Nat) (n a T : Nat) : Nat → Nat → Int32
  | 0 => fun c => nI (pcN (spX σ kd n (dgI c) a))
  | l + 1 => fun c => tuS (dpV σ kd n a T l) a c (decide ((T - 1 - l) % 2 = 0)) n
def mDuel (σ τ : St) (kd cr : Nat → Nat) (n a : Nat) (x : Int32) : Int32 × St := if ¬ (0 ≤ x ∧ x ≤ 4) then (-1, τ) else if n = 0 then (-4, τ) else (dpV σ kd n a (ix x) (ix x) (hrN cr n n), τ)
theorem en_s {c : Nat} {τ : St} {f : Nat → Int32} {k : Nat} (h : ∀ i, i < c → τ.1 k i = f i) {x : Int32} (hx : x = f c) : ∀ i, i < c + 1 → (uI τ k c x).1 k i = f i := fun i hi => by
  by_cases e : i = c
  · subst e
    rw [uI_s, hx]
  · rw [uI_n _ _ _ _ e]
    exact h i (by omega)
theorem en_o {c : Nat} {τ : St} {f : Nat → Int32} {k : Nat} (h : ∀ i, i < c → τ.1 k i = f i) {k2 j : Nat} {x : Int32} (hk : k ≠ k2) : ∀ i, i < c → (uI τ k2 j x).1 k i = f i := fun i hi => by
  rw [uI_o _ _ _ _ hk]
  exact h i hi
