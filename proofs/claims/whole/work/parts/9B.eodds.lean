-- odds, mid: equal answers
def cK (P : Nat → Bool) (k m : Nat) : Nat := cntN (fun s => P s && decide (pcN s = k)) m
def gS (P : Nat → Bool) (f : Nat → Nat) : Nat → Nat
  | 0 => 0
  | s + 1 => if P s = true then gS P f s + f (pcN s) else gS P f s
theorem cK_s (P : Nat → Bool) (k m : Nat) : cK P k (m + 1) = cK P k m + (if (P m && decide (pcN m = k)) = true then 1 else 0) := rfl
theorem gS_c (P : Nat → Bool) (f : Nat → Nat) : ∀ m, m ≤ 64 → gS P f m = cK P 0 m * f 0 + cK P 1 m * f 1 + cK P 2 m * f 2 + cK P 3 m * f 3 + cK P 4 m * f 4 + cK P 5 m * f 5 + cK P 6 m * f 6
  | 0, _ => by simp [gS, cK, cntN]
  | m + 1, h => by
    have ih := gS_c P f m (by omega)
    have hp := pc_le m (by omega)
    rw [cK_s, cK_s, cK_s, cK_s, cK_s, cK_s, cK_s]
    simp only [gS]
    by_cases q : P m = true
    · rw [if_pos q, ih, q]
      have hc : pcN m = 0 ∨ pcN m = 1 ∨ pcN m = 2 ∨ pcN m = 3 ∨ pcN m = 4 ∨ pcN m = 5 ∨ pcN m = 6 := by omega
      rcases hc with r | r | r | r | r | r | r <;> rw [r] <;> simp [Nat.add_mul] <;> (try omega)
    · rw [if_neg q, ih]
      simp [q]
theorem gS_y {P : Nat → Bool} {f : Nat → Nat} {s : Nat} (h : P s = true) : gS P f (s + 1) = gS P f s + f (pcN s) := if_pos h
theorem gS_n {P : Nat → Bool} {f : Nat → Nat} {s : Nat} (h : ¬ P s = true) : gS P f (s + 1) = gS P f s := if_neg h
def sbB (S s : Nat) : Bool := decide (s &&& (63 ^^^ S) = 0)
theorem cK_eq : ∀ S, S < 64 → ∀ k, k < 7 → cK (sbB S) k (S + 1) = cK (fun _ => true) k (2 ^ pcN S) := by decide +kernel
theorem gS_eq {S : Nat} (hS : S < 64) (f : Nat → Nat) : gS (sbB S) f (S + 1) = gS (fun _ => true) f (2 ^ pcN S) := by
  rw [gS_c _ _ _ (by omega), gS_c _ _ _ (p2_64 (pc_le S hS)), cK_eq S hS 0 (by decide), cK_eq S hS 1 (by decide), cK_eq S hS 2 (by decide), cK_eq S hS 3 (by decide), cK_eq S hS 4 (by decide), cK_eq S hS 5 (by decide), cK_eq S hS 6 (by decide)]
theorem pr_ct {p S s : Nat} : ∀ i, prN p S s i = p ^ cntN (fun j => S.testBit j && s.testBit j) i * (12 - p) ^ cntN (fun j => S.testBit j && !s.testBit j) i
  | 0 => rfl
  | i + 1 => by
    have ih := pr_ct (p := p) (S := S) (s := s) i
    simp only [prN, cntN]
    rw [ih]
    by_cases c : S.testBit i = true
    · by_cases c2 : s.testBit i = true
      · simp [c, c2, Nat.pow_succ, Nat.mul_assoc, Nat.mul_comm, Nat.mul_left_comm]
      · simp [c, c2, Nat.pow_succ, Nat.mul_assoc]
    · simp [c]
theorem wh_ct {S : Nat} : ∀ i, whN S i = 12 ^ cntN (fun j => S.testBit j) i
  | 0 => rfl
  | i + 1 => by
    have ih := wh_ct (S := S) i
    simp only [whN, cntN]
    rw [ih]
    by_cases c : S.testBit i = true
    · simp [c, Nat.pow_succ]
    · simp [c]
theorem ct_cut {S n : Nat} (g : Nat → Bool) (h : S < 2 ^ n) (hn : n ≤ 6) : cntN (fun j => S.testBit j && g j) n = cntN (fun j => S.testBit j && g j) 6 := by
  rw [← cntN_ext (fun j => S.testBit j && g j) 6 hn]
  refine cntN_c 6 (fun k hk => ?_)
  by_cases c : k < n
  · simp [c]
  · rw [Nat.testBit_lt_two_pow (Nat.lt_of_lt_of_le h (Nat.pow_le_pow_right (by decide) (by omega)))]
    simp
theorem ct_pc : ∀ S, S < 64 → ∀ s, s < 64 → s &&& (63 ^^^ S) = 0 → cntN (fun j => S.testBit j && s.testBit j) 6 = pcN s ∧ cntN (fun j => S.testBit j && !s.testBit j) 6 = pcN S - pcN s := by decide +kernel
theorem ct_S : ∀ S, S < 64 → cntN (fun j => S.testBit j && true) 6 = pcN S := by decide +kernel
def wF (b : Int32) (p t k : Nat) : Nat := if nI (t - k) < b then p ^ k * (12 - p) ^ (t - k) else 0
theorem ps_g {b : Int32} {p S n : Nat} (hS : S < 64) (h : S < 2 ^ n) (hn : n ≤ 6) : ∀ m, m ≤ 64 → psN b p S n m = gS (sbB S) (wF b p (pcN S)) m
  | 0, _ => rfl
  | s + 1, hm => by
    have ih := ps_g (b := b) (p := p) hS h hn s (by omega)
    simp only [psN]
    rw [ih]
    by_cases c : s &&& (63 ^^^ S) = 0
    · obtain ⟨e1, e2⟩ := ct_pc S hS s (by omega) c
      rw [gS_y (P := sbB S) (decide_eq_true c)]
      by_cases c2 : nI (pcN S - pcN s) < b
      · rw [if_pos ⟨c, c2⟩, pr_ct, ct_cut _ h hn, ct_cut _ h hn, e1, e2, show wF b p (pcN S) (pcN s) = p ^ pcN s * (12 - p) ^ (pcN S - pcN s) from if_pos c2]
      · rw [if_neg (fun q => c2 q.2), show wF b p (pcN S) (pcN s) = 0 from if_neg c2, Nat.add_zero]
    · rw [if_neg (fun q => c q.1), gS_n (P := sbB S) (fun q => c (of_decide_eq_true q))]
theorem ut_g {b : Int32} {p t : Nat} : ∀ m, utN b p t m = gS (fun _ => true) (wF b p t) m
  | 0 => rfl
  | s + 1 => by
    have ih := ut_g (b := b) (p := p) (t := t) s
    simp only [utN]
    rw [ih, gS_y (P := fun _ => true) rfl]
    by_cases c2 : nI (t - pcN s) < b
    · rw [if_pos c2, show wF b p t (pcN s) = p ^ pcN s * (12 - p) ^ (t - pcN s) from if_pos c2]
    · rw [if_neg c2, show wF b p t (pcN s) = 0 from if_neg c2, Nat.add_zero]
theorem od_eq {b : Int32} {p S n : Nat} (hS : S < 64) (h : S < 2 ^ n) (hn : n ≤ 6) : psN b p S n (S + 1) = utN b p (pcN S) (2 ^ pcN S) := by
  rw [ps_g hS h hn _ (by omega), gS_eq hS, ut_g]
theorem wh_eq {S n : Nat} (hS : S < 64) (h : S < 2 ^ n) (hn : n ≤ 6) : whN S n = 12 ^ pcN S := by
  have e := ct_cut (fun _ => true) h hn
  rw [ct_S S hS] at e
  rw [wh_ct, ← e]
  simp
section
variable {σ τ : St} {n : Nat} {kd : Nat → Nat} {L D : Nat}
theorem finN {ω ρ : St} {x y : Int32} {u v : Int64} (h : Rel σ) (ht : (x, τ) = (1, uL (uL σ 0 13 u) 0 14 v)) (hf : fr τ ω) (hm : (y, ρ) = (1, uL (uL ω 63 3 u) 63 4 v)) : x = y ∧ Rel ρ := by
  obtain ⟨rfl, rfl⟩ := Prod.mk.inj ht
  obtain ⟨rfl, rfl⟩ := Prod.mk.inj hm
  exact ⟨rfl, (h.num u v).fr (fr_uL (fr_uL hf _ _ _) _ _ _)⟩
theorem e_odds {ρ ω : St} (h : Rel σ) (b : Br σ τ n kd L D) {v x y : Int32} (ht : (x, τ) = tOdds σ (gaN kd n) kd n L v) (hf : fr τ ω) (hm : (y, ρ) = mOdds τ ω kd n L v) : x = y ∧ Rel ρ := by
  unfold tOdds at ht
  unfold mOdds at hm
  by_cases c : ¬ (0 ≤ v ∧ v ≤ 12)
  · rw [if_pos c] at ht hm
    exact finF h ht hf hm
  rw [if_neg c] at ht hm
  by_cases q : n = 0
  · rw [if_pos (b.n0.mpr q)] at ht
    rw [if_pos q] at hm
    exact finF h ht hf hm
  rw [if_neg (fun r => q (b.n0.mp r))] at ht
  rw [if_neg q, b.sp, ← b.h.2.2.2, od_eq (mkN_64 _ b.n6) (mkN_lt _ n) b.n6, wh_eq (mkN_64 _ b.n6) (mkN_lt _ n) b.n6] at hm
  exact finN h ht hf hm
theorem e_mid {ρ ω : St} (h : Rel σ) (b : Br σ τ n kd L D) {v x y : Int32} {lo : Nat} (ht : (x, τ) = tMid σ (gaN kd n) kd n L lo v) (hf : fr τ ω) (hm : (y, ρ) = mMid τ ω kd n L lo v) : x = y ∧ Rel ρ := by
  unfold tMid at ht
  unfold mMid at hm
  by_cases c : ¬ (0 ≤ v ∧ v ≤ 12)
  · rw [if_pos c] at ht hm
    exact finF h ht hf hm
  rw [if_neg c] at ht hm
  by_cases q : n = 0
  · rw [if_pos (b.n0.mpr q)] at ht
    rw [if_pos q] at hm
    exact finF h ht hf hm
  rw [if_neg (fun r => q (b.n0.mp r))] at ht
  rw [if_neg q, b.sp, ← b.h.2.2.2, od_eq (mkN_64 _ b.n6) (mkN_lt _ n) b.n6, wh_eq (mkN_64 _ b.n6) (mkN_lt _ n) b.n6] at hm
  exact finN h ht hf hm
end
