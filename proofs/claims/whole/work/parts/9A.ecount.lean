-- count, the digest: equal answers
theorem le10 {x : Int32} : (0 ≤ x ∧ x ≤ 10) ↔ inR x 11 := by
  simp only [inR, Int32.lt_iff_toInt_lt, Int32.le_iff_toInt_le]
  have h1 : (10 : Int32).toInt = 10 := rfl
  have h2 : (11 : Int32).toInt = 11 := rfl
  omega
theorem pc_mk {f : Nat → Bool} {n : Nat} (h : n ≤ 6) : pcN (mkN f n) = cntN f n := by
  rw [pc_cnt _ (mkN_64 f h), ← cntN_ext f 6 h]
  exact cntN_c _ (fun k hk => mkN_bit f k n)
theorem hsF_c {f g : Nat → Int32} {h h' : Int64} (e : h = h') : ∀ m, (∀ i, i < m → f i = g i) → hsF f h m = hsF g h' m
  | 0, _ => e
  | m + 1, q => by
    simp only [hsF]
    rw [hsF_c e m (fun i hi => q i (by omega)), q m (by omega)]
theorem hsT_c {f g : Nat → Nat → Int32} {h h' : Int64} (e : h = h') : ∀ m, (∀ i, i < m → ∀ k, f i k = g i k) → hsT f h m = hsT g h' m
  | 0, _ => e
  | m + 1, q => by
    simp only [hsT]
    exact hsF_c (hsT_c e m (fun i hi => q i (by omega))) 8 (fun k _ => q m (by omega) k)
theorem hsR_c {f g : Nat → Nat → Int32} {s t : Nat → Int32} {h h' : Int64} (e : h = h') : ∀ m, (∀ r, r < m → s r = t r ∧ ∀ i, i < ix (s r) → f r i = g r i) → hsR f s h m = hsR g t h' m
  | 0, _ => e
  | m + 1, q => by
    simp only [hsR]
    obtain ⟨q1, q2⟩ := q m (by omega)
    rw [hsR_c e m (fun r hr => q r (by omega)), ← q1]
    exact hsF_c rfl _ q2
section
variable {σ τ : St} {n : Nat} {kd : Nat → Nat} {L D : Nat}
theorem ks_v {wN aN : Nat → Nat} (hB : RB σ.1 n kd D wN aN) (t : TM σ τ) {k : Nat} (hk : k < 3) : σ.1 (53 + 3 * k) 2 = kpV τ k ∧ (0 ≤ σ.1 (53 + 3 * k) 2 ↔ ¬ τ.1 79 k = 0) := by
  obtain ⟨DK, wK, aK, hK⟩ := hB.ks
  unfold kpV
  rw [t.1 79 (by decide), t.1 80 (by decide)]
  rcases hK k hk with ⟨q1, q2⟩ | ⟨q1, q2, q3, q4, -⟩
  · rw [if_pos q2, q1]
    exact ⟨rfl, fun r => absurd r (by decide), fun r => absurd q2 r⟩
  · rw [if_neg q3, q4, q2]
    exact ⟨rfl, fun _ => q3, fun _ => nI_nn (by omega)⟩
theorem ct_eq (h : Rel σ) {wN aN : Nat → Nat} (hB : RB σ.1 n kd D wN aN) (t : TM σ τ) (b : Br σ τ n kd L D) {k : Nat} (hk : k < 11) : ctT σ (gaN kd n) k = ctM τ kd n L D k := by
  rcases k with _ | _ | _ | _ | _ | _ | _ | _ | _ | _ | k
  · simp only [ctT, ctM]
    exact b.n8
  · simp only [ctT, ctM]
    exact b.z.2.2.1
  · simp only [ctT, ctM]
    exact b.D1
  · simp only [ctT, ctM]
    exact b.z.1
  · simp only [ctT, ctM]
    exact b.z.2.1
  · simp only [ctT, ctM]
    exact b.L1
  · simp only [ctT, ctM]
    rw [← b.z.2.2.2]
    rcases b.tr with q | q
    · rw [q, if_pos rfl]
    · rw [q, if_neg (by decide)]
  · simp only [ctT, ctM]
    unfold gaN
    rw [pc_mk b.n6]
  · simp only [ctT, ctM]
    rw [cntN_c (g := prB τ 65) 6 (fun r hr => by
      unfold prB
      rw [t.1 65 (by decide), (h.rw hr).1])]
  · simp only [ctT, ctM]
    rw [cntN_c (g := prB τ 68) 4 (fun r hr => by
      unfold prB
      rw [t.1 68 (by decide), (h.tx hr).1])]
  · have e : k = 0 := by omega
    subst e
    simp only [ctT, ctM]
    rw [cntN_c (g := kpB2 τ) 3 (fun r hr => by
      unfold kpB kpB2
      exact decide_eq_decide.mpr (ks_v hB t hr).2)]
theorem e_count (h : Rel σ) {wN aN : Nat → Nat} (hB : RB σ.1 n kd D wN aN) {v x y : Int32} {ρ : St} (ht : (if inR v 11 then ctT σ (gaN kd n) (ix v) else -1) = x ∧ σ = τ) (hm : (if 0 ≤ v ∧ v ≤ 10 then ctM τ kd n (runF σ.1 n kd wN aN D).L D (ix v) else -1) = y ∧ τ = ρ) : x = y ∧ Rel ρ := by
  obtain ⟨rfl, rfl⟩ := ht
  obtain ⟨rfl, rfl⟩ := hm
  refine ⟨?_, h⟩
  by_cases c : inR v 11
  · obtain ⟨j, hj, ej, -⟩ := inR_nat (N := 11) c rfl (by decide)
    rw [if_pos c, if_pos (le10.mpr c), ej]
    exact ct_eq h hB TM.rf (hB.br TM.rf) hj
  · rw [if_neg c, if_neg (fun q => c (le10.mp q))]
theorem e_digest (h : Rel σ) {wN aN : Nat → Nat} (hB : RB σ.1 n kd D wN aN) {x y : Int64} {ρ : St} (ht : tDigest σ (gaN kd n) kd n (runF σ.1 n kd wN aN D).L = x ∧ σ = τ) (hm : mDigest τ kd n (runF σ.1 n kd wN aN D).L D = y ∧ fr τ ρ) : x = y ∧ Rel ρ := by
  obtain ⟨rfl, rfl⟩ := ht
  obtain ⟨rfl, hf⟩ := hm
  refine ⟨?_, h.fr hf⟩
  have b := hB.br (TM.rf (σ := σ))
  unfold tDigest mDigest
  refine hsR_c (hsR_c (hsF_c (hsT_c (hsF_c rfl 11 (fun k hk => ct_eq h hB TM.rf b hk)) n (fun i hi k => (b.tl hi k).symm)) 3 (fun k hk => (ks_v hB TM.rf hk).1)) 6 (fun r hr => ?_)) 4 (fun t ht => ?_)
  · obtain ⟨a1, -, -, a4⟩ := h.rw hr
    exact ⟨a1, a4⟩
  · obtain ⟨a1, -, -, a4⟩ := h.tx ht
    exact ⟨a1, a4⟩
end
