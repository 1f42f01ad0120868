-- chances, counts, what is kept
theorem sw_out {x : Int32} {N : Nat} {M : Int32} (h : ¬ inR x M) (hM : M = nI N) (hN : N < 2147483648) : x.toInt < 0 ∨ ((N : Int) - 1) < x.toInt := by
  subst hM
  have e : (nI N).toInt = (N : Int) := nI_toInt (by omega)
  have e0 : (0 : Int32).toInt = 0 := rfl
  simp only [inR, Int32.lt_iff_toInt_lt, Int32.le_iff_toInt_le, e, e0] at h
  omega
def utN (bench : Int32) (p t : Nat) : Nat → Nat
  | 0 => 0
  | s + 1 => if nI (t - pcN s) < bench then utN bench p t s + p ^ pcN s * (12 - p) ^ (t - pcN s) else utN bench p t s
theorem pwL_N {p : Nat} (hp : p < 2147483648) : ∀ k, pwL (nI p).toInt64 k = lN (p ^ k)
  | 0 => rfl
  | k + 1 => by rw [pwL, pwL_N hp k, nI_l hp, lN_mul, Nat.pow_succ]
theorem utL_N {b : Int32} {p t : Nat} (hp : p ≤ 12) : ∀ s, utL b (nI p) t s = lN (utN b p t s)
  | 0 => rfl
  | s + 1 => by
    have e : (12 : Int32) - nI p = nI (12 - p) := pk_sub (a := 12) hp
    simp only [utL, utN]
    split
    · rw [utL_N hp s, e, pwL_N (by omega), pwL_N (by omega), lN_mul, lN_add]
    · exact utL_N hp s
theorem pw_le {p k : Nat} (hp : p ≤ 12) (hk : k ≤ 6) : p ^ k ≤ 2985984 := Nat.le_trans (Nat.pow_le_pow_left hp k) (Nat.le_trans (Nat.pow_le_pow_right (by decide) hk) (by decide))
theorem utN_b {b : Int32} {p t : Nat} (hp : p ≤ 12) (ht : t ≤ 6) : ∀ s, s ≤ 64 → utN b p t s ≤ s * 8916100448256
  | 0, _ => Nat.zero_le _
  | s + 1, hs => by
    have ih := utN_b (b := b) hp ht s (by omega)
    have h1 := pw_le hp (pc_le s (by omega))
    have h2 := pw_le (p := 12 - p) (k := t - pcN s) (by omega) (by omega)
    have h3 : p ^ pcN s * (12 - p) ^ (t - pcN s) ≤ 2985984 * 2985984 := Nat.mul_le_mul h1 h2
    have h4 : p ^ pcN s * (12 - p) ^ (t - pcN s) ≤ 8916100448256 := Nat.le_trans h3 (Nat.le_of_ble_eq_true rfl)
    simp only [utN]
    rw [Nat.succ_mul]
    split
    · exact Nat.add_le_add ih h4
    · exact Nat.le_trans ih (Nat.le_add_right _ _)
theorem utN_b2 {b : Int32} {p t : Nat} (hp : p ≤ 12) (ht : t ≤ 6) : utN b p t (2 ^ t) ≤ 570630428688384 := Nat.le_trans (utN_b hp ht _ (p2_le ht)) (Nat.le_trans (Nat.mul_le_mul_right _ (p2_le ht)) (Nat.le_of_ble_eq_true rfl))
theorem ut_lt {a : Nat} (h : a ≤ 570630428688384) : a < 4611686018427387904 := Nat.lt_of_le_of_lt h (Nat.le_of_ble_eq_true rfl)
theorem p12_lt {a : Nat} (h : a ≤ 2985984) : a < 4611686018427387904 := Nat.lt_of_le_of_lt h (Nat.le_of_ble_eq_true rfl)
def tOdds (σ : St) (G : Nat) (kd : Nat → Nat) (n L : Nat) (v : Int32) : Int32 × St := if ¬ (0 ≤ v ∧ v ≤ 12) then (-1, σ) else if σ.1 19 8 = 0 then (-4, σ) else
  (1, uL (uL σ 0 13 (lN (utN (σ.1 19 12) (ix v) (pcN (mkN (tkS σ G kd L) n)) (2 ^ pcN (mkN (tkS σ G kd L) n)) / Nat.gcd (utN (σ.1 19 12) (ix v) (pcN (mkN (tkS σ G kd L) n)) (2 ^ pcN (mkN (tkS σ G kd L) n))) (12 ^ pcN (mkN (tkS σ G kd L) n))))) 0 14 (lN (12 ^ pcN (mkN (tkS σ G kd L) n) / Nat.gcd (utN (σ.1 19 12) (ix v) (pcN (mkN (tkS σ G kd L) n)) (2 ^ pcN (mkN (tkS σ G kd L) n))) (12 ^ pcN (mkN (tkS σ G kd L) n)))))
def tMid (σ : St) (G : Nat) (kd : Nat → Nat) (n L lo : Nat) (v : Int32) : Int32 × St := if ¬ (0 ≤ v ∧ v ≤ 12) then (-1, σ) else if σ.1 19 8 = 0 then (-4, σ) else
  (1, uL (uL σ 0 13 (lN (utN (σ.1 19 12) (ix v) (pcN (mkN (tkS σ G kd L) n)) (2 ^ pcN (mkN (tkS σ G kd L) n)) * lo / Nat.gcd (utN (σ.1 19 12) (ix v) (pcN (mkN (tkS σ G kd L) n)) (2 ^ pcN (mkN (tkS σ G kd L) n)) * lo) (12 ^ pcN (mkN (tkS σ G kd L) n))))) 0 14 (lN (12 ^ pcN (mkN (tkS σ G kd L) n) / Nat.gcd (utN (σ.1 19 12) (ix v) (pcN (mkN (tkS σ G kd L) n)) (2 ^ pcN (mkN (tkS σ G kd L) n)) * lo) (12 ^ pcN (mkN (tkS σ G kd L) n)))))
theorem cntN_t {f : Nat → Bool} {i : Nat} (h : f i = true) : cntN f (i + 1) = cntN f i + 1 := by simp [cntN, h]
theorem cntN_f {f : Nat → Bool} {i : Nat} (h : ¬ f i = true) : cntN f (i + 1) = cntN f i := by simp [cntN, h]
theorem lt_le_i {a b : Int32} (h : a < b) : ¬ b ≤ a := i_lt_le.mpr h
def prB (σ : St) (k i : Nat) : Bool := decide (0 ≤ σ.1 k i)
def kpB (σ : St) (k : Nat) : Bool := decide (0 ≤ σ.1 (53 + 3 * k) 2)
theorem cntN_le (f : Nat → Bool) : ∀ n, cntN f n ≤ n
  | 0 => Nat.le_refl _
  | n + 1 => by
    have := cntN_le f n
    simp only [cntN]
    split <;> omega
def ctT (σ : St) (G : Nat) : Nat → Int32
  | 0 => σ.1 19 8
  | 1 => σ.1 19 15
  | 2 => σ.1 49 2
  | 3 => σ.1 19 16
  | 4 => σ.1 19 17
  | 5 => σ.1 19 14
  | 6 => if σ.1 19 18 = 0 then 0 else 1
  | 7 => nI (pcN G)
  | 8 => nI (cntN (prB σ 8) 6)
  | 9 => nI (cntN (prB σ 14) 4)
  | _ => nI (cntN (kpB σ) 3)
def tUndo (σ : St) (G : Nat) (kd : Nat → Nat) (n D : Nat) (wN aN : Nat → Nat) (x : Int32) : Int32 × St := if x < 0 ∨ nI D < x then (-1, σ) else (nI D - x, (rpS (uI σ 49 2 x) kd G n wN aN (ix x)).1)
def tKeep (σ : St) (k : Int32) : Int32 × St := if k < 0 ∨ 3 ≤ k then (-1, σ) else if σ.1 19 8 = 0 then (-4, σ) else (σ.1 49 2, bcS σ (53 + 3 * ix k) 49)
def ksOk (σ : St) (n : Nat) (DK : Nat → Nat) (wK aK : Nat → Nat → Nat) : Prop := ∀ j, j < 3 → 0 ≤ σ.1 (53 + 3 * j) 2 → σ.1 (53 + 3 * j) 2 = nI (DK j) ∧ DK j ≤ 40 ∧ ∀ d, d < DK j → σ.1 (53 + 3 * j + 1) d = nI (wK j d) ∧ σ.1 (53 + 3 * j + 2) d = nI (aK j d) ∧ wK j d < 4 ∧ (2 ≤ wK j d → aK j d < n)
def tOn (σ : St) (G : Nat) (kd : Nat → Nat) (n : Nat) (DK : Nat → Nat) (wK aK : Nat → Nat → Nat) (k : Int32) : Int32 × St := if k < 0 ∨ 3 ≤ k then (-1, σ) else if σ.1 (53 + 3 * ix k) 2 < 0 then (-3, tRef σ 1) else (nI (DK (ix k)), (rpS (bcS σ 49 (53 + 3 * ix k)) kd G n (wK (ix k)) (aK (ix k)) (DK (ix k))).1)
theorem cpy40 (f g : Nat → Int32) {d : Nat} (h : d < 40) : va_cpy f g (0 : Int32).toNatClampNeg (0 : Int32).toNatClampNeg (40 : Int32).toNatClampNeg d = f d := by
  have e0 : (0 : Int32).toNatClampNeg = 0 := rfl
  have e1 : (40 : Int32).toNatClampNeg = 40 := rfl
  rw [e0, e1, pk_cpy_in (Nat.zero_le _) (by omega)]
  simp
theorem bcS_dw {σ : St} {n : Nat} {DK : Nat → Nat} {wK aK : Nat → Nat → Nat} (h : ksOk σ n DK wK aK) {j : Nat} (hj : j < 3) (h0 : 0 ≤ σ.1 (53 + 3 * j) 2) : dwOk (bcS σ 49 (53 + 3 * j)) n (DK j) (wK j) (aK j) ∧ (bcS σ 49 (53 + 3 * j)).1 49 2 = nI (DK j) ∧ DK j ≤ 40 := by
  obtain ⟨h1, h2, h3⟩ := h j hj h0
  refine ⟨fun d hd => ?_, ?_, h2⟩
  · obtain ⟨a1, a2, a3⟩ := h3 d hd
    refine ⟨?_, ?_, a3⟩
    · rw [← a1]
      exact cpy40 (σ.1 (53 + 3 * j + 1)) (σ.1 50) (by omega)
    · rw [← a2]
      exact cpy40 (σ.1 (53 + 3 * j + 2)) (σ.1 51) (by omega)
  · simp only [bcS, uI_s]
    exact h1
theorem bcS_ok {σ : St} {n G : Nat} {kd : Nat → Nat} {q : Nat} (h : bkOk σ n G kd) : bkOk (bcS σ 49 q) n G kd := bkOk_of h (by simp [bcS, uI, uA]) (by simp [bcS, uI, uA]) (by simp [bcS, uI, uA])
theorem un_dw {σ : St} {n D N : Nat} {wN aN : Nat → Nat} {x : Int32} (h : dwOk σ n D wN aN) (hN : N ≤ D) : dwOk (uI σ 49 2 x) n N wN aN := fun d hd => by
  obtain ⟨h1, h2, h3⟩ := h d (by omega)
  exact ⟨by rw [uI_o _ _ _ _ (by decide)]; exact h1, by rw [uI_o _ _ _ _ (by decide)]; exact h2, h3⟩
theorem p12_b {t : Nat} (h : t ≤ 6) : 12 ^ t ≤ 2985984 := Nat.le_trans (Nat.pow_le_pow_right (by decide) h) (by decide)
theorem p12_p (t : Nat) : 0 < 12 ^ t := Nat.pow_pos (by decide)
theorem mul_b {a lo : Nat} (h4 : a ≤ 570630428688384) (h3 : lo ≤ 1000) : a * lo < 4611686018427387904 := Nat.lt_of_le_of_lt (Nat.mul_le_mul h4 h3) (Nat.le_of_ble_eq_true rfl)
