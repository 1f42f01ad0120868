-- both sides' numbers of the book; the first equal answers
theorem nI_eqI {a b : Nat} (ha : a < 2147483648) (hb : b < 2147483648) : nI a = nI b ↔ a = b := ⟨fun h => by
  have e := congrArg ix h
  rwa [ix_nI ha, ix_nI hb] at e, fun h => by rw [h]⟩
theorem out_iff {a b x : Int32} : ¬ (a ≤ x ∧ x ≤ b) ↔ (x < a ∨ b < x) := by
  simp only [Int32.lt_iff_toInt_lt, Int32.le_iff_toInt_le]
  omega
def Br (σ τ : St) (n : Nat) (kd : Nat → Nat) (L D : Nat) : Prop := bkOk σ n (gaN kd n) kd ∧ (σ.1 19 14 = nI L ∧ L < 2 ^ n ∧ σ.1 49 2 = nI D ∧ D ≤ 40) ∧ (mkOk τ n kd ∧ τ.1 76 0 = nI L ∧ τ.1 63 22 = nI D) ∧ (∀ i, i < n → σ.1 28 i = τ.1 72 i ∧ σ.1 29 i = τ.1 73 i ∧ σ.1 31 i = τ.1 76 (5 + i)) ∧ (σ.1 19 16 = τ.1 76 1 ∧ σ.1 19 17 = τ.1 76 2 ∧ σ.1 19 15 = τ.1 76 3 ∧ σ.1 19 18 = τ.1 76 4) ∧ (σ.1 19 9 = τ.1 70 0 ∧ σ.1 19 10 = τ.1 70 1 ∧ σ.1 19 11 = τ.1 70 2 ∧ σ.1 19 12 = τ.1 70 3) ∧ (∀ i, i < n → (∃ s, s < 10 ∧ σ.1 28 i = nI s) ∧ (∃ b, b < 10 ∧ σ.1 29 i = nI b) ∧ ∃ c, c < 3 ∧ σ.1 31 i = nI c) ∧ ((∃ b, b < 10 ∧ σ.1 19 9 = nI b) ∧ (∃ b, b < 10 ∧ σ.1 19 10 = nI b) ∧ (∃ b, b < 10 ∧ σ.1 19 11 = nI b) ∧ ∃ b, b < 7 ∧ σ.1 19 12 = nI b ∧ (0 < n → 0 < b)) ∧ (σ.1 19 18 = 0 ∨ σ.1 19 18 = 1)
theorem RB.br {σ τ : St} {n : Nat} {kd : Nat → Nat} {D : Nat} {wN aN : Nat → Nat} (h : RB σ.1 n kd D wN aN) (t : TM σ τ) : Br σ τ n kd (runF σ.1 n kd wN aN D).L D := by
  obtain ⟨r1, r2, r3, r4, r5, r6, ⟨d1, d2, d3, d4, ⟨t1, t2, t3, t4, t5, t6⟩, ⟨g1, g2, g3, g4, g5, g6⟩, -, d8⟩, -, -, -⟩ := h
  obtain ⟨z1, z2, z3, -⟩ := d8 D (Nat.le_refl _)
  obtain ⟨s1, s2, s3, s4, s5, s6, s7, s8⟩ := r6
  unfold Br mkOk
  rw [t.1 63 (by decide), t.1 70 (by decide), t.1 71 (by decide), t.1 72 (by decide), t.1 73 (by decide), t.1 76 (by decide)]
  refine ⟨⟨r2, r1, r4, gaN_64 r1, fun i hi => (r5 i hi).1, fun i hi => (r5 i hi).2.2.1⟩, ⟨t1, z1, d2, d1⟩, ⟨⟨r3, r1, fun i hi => (r5 i hi).2.1, fun i hi => (r5 i hi).2.2.1⟩, g1, d3⟩, fun i hi => ⟨(r5 i hi).2.2.2.1, (r5 i hi).2.2.2.2.1, (t6 i hi).trans (g6 i hi).symm⟩, ⟨t2.trans g2.symm, t3.trans g3.symm, t4.trans g4.symm, t5.trans g5.symm⟩, ⟨s1, s2, s3, s4⟩, fun i hi => ⟨(r5 i hi).2.2.2.2.2.1, (r5 i hi).2.2.2.2.2.2, ?_⟩, ⟨s5, s6, s7, s8⟩, ?_⟩
  · obtain ⟨c, hc, e⟩ := z3 i hi
    exact ⟨c, hc, (t6 i hi).trans e⟩
  · rw [t5]
    exact z2
section
variable {σ τ : St} {n : Nat} {kd : Nat → Nat} {L D : Nat}
theorem Br.bk (b : Br σ τ n kd L D) : bkOk σ n (gaN kd n) kd := b.1
theorem Br.n8 (b : Br σ τ n kd L D) : σ.1 19 8 = nI n := b.1.1
theorem Br.n6 (b : Br σ τ n kd L D) : n ≤ 6 := b.1.2.1
theorem Br.L1 (b : Br σ τ n kd L D) : σ.1 19 14 = nI L := b.2.1.1
theorem Br.L2 (b : Br σ τ n kd L D) : L < 2 ^ n := b.2.1.2.1
theorem Br.L3 (b : Br σ τ n kd L D) : L < 64 := Nat.lt_of_lt_of_le b.L2 (p2_64 b.n6)
theorem Br.D1 (b : Br σ τ n kd L D) : σ.1 49 2 = nI D := b.2.1.2.2.1
theorem Br.D2 (b : Br σ τ n kd L D) : D ≤ 40 := b.2.1.2.2.2
theorem Br.mk (b : Br σ τ n kd L D) : mkOk τ n kd := b.2.2.1.1
theorem Br.mL (b : Br σ τ n kd L D) : τ.1 76 0 = nI L := b.2.2.1.2.1
theorem Br.mD (b : Br σ τ n kd L D) : τ.1 63 22 = nI D := b.2.2.1.2.2
theorem Br.c (b : Br σ τ n kd L D) {i : Nat} (hi : i < n) : σ.1 28 i = τ.1 72 i ∧ σ.1 29 i = τ.1 73 i ∧ σ.1 31 i = τ.1 76 (5 + i) := b.2.2.2.1 i hi
theorem Br.z (b : Br σ τ n kd L D) : σ.1 19 16 = τ.1 76 1 ∧ σ.1 19 17 = τ.1 76 2 ∧ σ.1 19 15 = τ.1 76 3 ∧ σ.1 19 18 = τ.1 76 4 := b.2.2.2.2.1
theorem Br.h (b : Br σ τ n kd L D) : σ.1 19 9 = τ.1 70 0 ∧ σ.1 19 10 = τ.1 70 1 ∧ σ.1 19 11 = τ.1 70 2 ∧ σ.1 19 12 = τ.1 70 3 := b.2.2.2.2.2.1
theorem Br.r (b : Br σ τ n kd L D) {i : Nat} (hi : i < n) : (∃ s, s < 10 ∧ σ.1 28 i = nI s) ∧ (∃ b, b < 10 ∧ σ.1 29 i = nI b) ∧ ∃ c, c < 3 ∧ σ.1 31 i = nI c := b.2.2.2.2.2.2.1 i hi
theorem Br.hr (b : Br σ τ n kd L D) : (∃ b, b < 10 ∧ σ.1 19 9 = nI b) ∧ (∃ b, b < 10 ∧ σ.1 19 10 = nI b) ∧ (∃ b, b < 10 ∧ σ.1 19 11 = nI b) ∧ ∃ b, b < 7 ∧ σ.1 19 12 = nI b ∧ (0 < n → 0 < b) := b.2.2.2.2.2.2.2.1
theorem Br.tr (b : Br σ τ n kd L D) : σ.1 19 18 = 0 ∨ σ.1 19 18 = 1 := b.2.2.2.2.2.2.2.2
theorem Br.n0 (b : Br σ τ n kd L D) : σ.1 19 8 = 0 ↔ n = 0 := by
  have h := b.n6
  rw [b.n8, ← nI_0]
  exact nI_eqI (by omega) (by omega)
theorem Br.tk (b : Br σ τ n kd L D) (x : Nat) : mkN (tkM τ 76 kd n x) n = mkN (tkS σ (gaN kd n) kd x) n := by
  unfold tkM tkS
  rw [← b.h.2.2.1]
  exact tk_c (fun i hi => (b.c hi).2.2.symm) (fun i hi => (b.c hi).2.1.symm)
theorem Br.sp (b : Br σ τ n kd L D) (x : Nat) : spX τ kd n (nwC τ) x = mkN (tkS σ (gaN kd n) kd x) n := b.tk x
theorem Br.lt (b : Br σ τ n kd L D) (x : Nat) : sumI (ltA kd (τ.1 72) (gaN kd n) x) n = sumI (ltA kd (σ.1 28) (gaN kd n) x) n := lt_c (fun i hi => (b.c hi).1.symm)
theorem Br.pr (b : Br σ τ n kd L D) {i : Nat} (hi : i < n) : priceM (kd i) (τ.1 70 0) (τ.1 76 (5 + i)) = priceS (kd i) (σ.1 19 9) (σ.1 31 i) := by
  obtain ⟨x, hx, ex⟩ := b.hr.1
  obtain ⟨c, hc, ec⟩ := (b.r hi).2.2
  rw [← b.h.1, ← (b.c hi).2.2, ex, ec]
  exact pr_eq hx hc
theorem Br.op (b : Br σ τ n kd L D) : (0 < σ.1 19 8 ∧ σ.1 19 18 = 0) ↔ ¬ ovM τ n := by
  have h := b.n6
  have e : 0 < σ.1 19 8 ↔ 0 < n := by
    rw [b.n8, ← nI_0]
    exact nI_ltI (by omega) (by omega)
  unfold ovM
  rw [e, ← b.z.2.2.2]
  rcases b.tr with q | q
  · rw [q]
    refine ⟨fun r => ?_, fun r => ⟨by omega, rfl⟩⟩
    rintro (k | k)
    · omega
    · exact absurd k (by decide)
  · rw [q]
    exact ⟨fun r => absurd r.2 (by decide), fun r => absurd (Or.inr rfl) r⟩
theorem tlM7 (i k : Nat) (x : St) (y : Nat) : tlM x kd n y i (k + 7) = priceM (kd i) (x.1 70 0) (x.1 76 (5 + i)) := rfl
theorem tlS7 (i k : Nat) (x : St) (y z : Nat) : tlS x z kd y i (k + 7) = priceS (kd i) (x.1 19 9) (x.1 31 i) := rfl
theorem tl5 (b : Br σ τ n kd L D) {i : Nat} (hi : i < n) : tlM τ kd n L i 5 = tlS σ (gaN kd n) kd L i 5 := by
  obtain ⟨c1, c2, c3⟩ := b.c hi
  simp only [tlM, tlS]
  rw [c2, c3, b.h.2.2.1]
theorem tl4 (b : Br σ τ n kd L D) {i : Nat} (hi : i < n) : tlM τ kd n L i 4 = tlS σ (gaN kd n) kd L i 4 := by
  obtain ⟨c1, c2, c3⟩ := b.c hi
  simp only [tlM, tlS, ltF]
  rw [c1]
theorem Br.tl (b : Br σ τ n kd L D) {i : Nat} (hi : i < n) (k : Nat) : tlM τ kd n L i k = tlS σ (gaN kd n) kd L i k := by
  obtain ⟨c1, c2, c3⟩ := b.c hi
  rcases k with _ | _ | _ | _ | _ | _ | _ | k
  · simp only [tlM, tlS]
  · simp only [tlM, tlS]
    exact c1.symm
  · simp only [tlM, tlS]
    exact c2.symm
  · simp only [tlM, tlS]
    exact c3.symm
  · exact tl4 b hi
  · exact tl5 b hi
  · simp only [tlM, tlS]
  · rw [tlM7, tlS7]
    exact b.pr hi
theorem mkM5 (i k : Nat) (x : St) (y : Nat) : mkM x kd n y i (k + 5) = if 0 < x.1 70 2 - x.1 73 i - 1 then x.1 70 2 - x.1 73 i - 1 else 0 := rfl
theorem mkS5 (i k : Nat) (x : St) (y z : Nat) : mkS x z kd n y i (k + 5) = if 0 < x.1 19 11 + 1 - x.1 29 i - 2 then x.1 19 11 + 1 - x.1 29 i - 2 else 0 := rfl
theorem fx_eq : ∀ f, f < 10 → ∀ x, x < 10 → nI f - nI x - 1 = nI f + 1 - nI x - 2 := by decide +kernel
theorem Br.mr (b : Br σ τ n kd L D) {i : Nat} (hi : i < n) (k : Nat) : mkM τ kd n L i k = mkS σ (gaN kd n) kd n L i k := by
  obtain ⟨c1, c2, c3⟩ := b.c hi
  have e : (if 0 < τ.1 70 2 - τ.1 73 i - 1 then τ.1 70 2 - τ.1 73 i - 1 else 0) = (if 0 < σ.1 19 11 + 1 - σ.1 29 i - 2 then σ.1 19 11 + 1 - σ.1 29 i - 2 else 0) := by
    obtain ⟨f, hf, ef⟩ := b.hr.2.2.1
    obtain ⟨x, hx, ex⟩ := (b.r hi).2.1
    rw [← b.h.2.2.1, ← c2, ef, ex, fx_eq f hf x hx]
  rcases k with _ | _ | _ | _ | _ | k
  · simp only [mkM, mkS]
    exact e
  · simp only [mkM, mkS]
    rw [b.tk]
  · simp only [mkM, mkS]
    rw [b.z.2.2.1]
  · simp only [mkM, mkS]
  · simp only [mkM, mkS]
    rw [c3]
  · rw [mkM5, mkS5]
    exact e
theorem e_thief {ρ : St} (h : Rel σ) (b : Br σ τ n kd L D) {i w x y : Int32} (ht : (x, τ) = tThief σ (gaN kd n) kd L i w) (hm : (y, ρ) = mThief τ kd n L i w) : x = y ∧ Rel ρ := by
  unfold tThief at ht
  unfold mThief at hm
  rw [b.n8] at ht
  by_cases q : ¬ (0 ≤ i ∧ i < nI n) ∨ ¬ (0 ≤ w ∧ w ≤ 7)
  · rw [if_pos (q.imp id out_iff.mp)] at ht
    rw [if_pos q] at hm
    obtain ⟨rfl, e1⟩ := Prod.mk.inj ht
    obtain ⟨rfl, e2⟩ := Prod.mk.inj hm
    rw [e2, e1]
    exact ⟨rfl, h⟩
  · rw [if_neg (mt (Or.imp id out_iff.mpr) q)] at ht
    rw [if_neg q] at hm
    obtain ⟨rfl, e1⟩ := Prod.mk.inj ht
    obtain ⟨rfl, e2⟩ := Prod.mk.inj hm
    have hn := b.n6
    obtain ⟨j, hj, ej, -⟩ := inR_nat (N := n) (Classical.not_not.mp (fun r => q (Or.inl r))) rfl (by omega)
    rw [e2, ej, b.tl hj, e1, ej]
    exact ⟨rfl, h.tell _⟩
theorem e_mark {ρ : St} (h : Rel σ) (b : Br σ τ n kd L D) {i w x y : Int32} (ht : (x, τ) = tMark σ (gaN kd n) kd n L i w) (hm : (y, ρ) = mMark τ kd n L i w) : x = y ∧ Rel ρ := by
  unfold tMark at ht
  unfold mMark at hm
  rw [b.n8] at ht
  have ew : (¬ (1 ≤ w ∧ w ≤ 5)) ↔ (w ≤ 0 ∨ 6 ≤ w) := by
    simp only [Int32.le_iff_toInt_le]
    have h1 : (1 : Int32).toInt = 1 := rfl
    have h2 : (0 : Int32).toInt = 0 := rfl
    have h3 : (5 : Int32).toInt = 5 := rfl
    have h4 : (6 : Int32).toInt = 6 := rfl
    omega
  by_cases q : ¬ (0 ≤ i ∧ i < nI n) ∨ ¬ (1 ≤ w ∧ w ≤ 5)
  · rw [if_pos (q.imp id ew.mp)] at ht
    rw [if_pos q] at hm
    obtain ⟨rfl, e1⟩ := Prod.mk.inj ht
    obtain ⟨rfl, e2⟩ := Prod.mk.inj hm
    rw [e2, e1]
    exact ⟨rfl, h⟩
  · rw [if_neg (mt (Or.imp id ew.mpr) q)] at ht
    rw [if_neg q] at hm
    have hn := b.n6
    obtain ⟨j, hj, ej, -⟩ := inR_nat (N := n) (Classical.not_not.mp (fun r => q (Or.inl r))) rfl (by omega)
    rw [ej] at ht hm
    by_cases q2 : ofB (kd j) w = true
    · rw [if_pos q2] at ht hm
      obtain ⟨rfl, e1⟩ := Prod.mk.inj ht
      obtain ⟨rfl, e2⟩ := Prod.mk.inj hm
      rw [e2, b.mr hj, e1]
      exact ⟨rfl, h⟩
    · rw [if_neg q2] at ht hm
      obtain ⟨rfl, e1⟩ := Prod.mk.inj ht
      obtain ⟨rfl, e2⟩ := Prod.mk.inj hm
      rw [e2, e1]
      exact ⟨rfl, h.ref 3⟩
theorem e_speak {ρ : St} (h : Rel σ) (b : Br σ τ n kd L D) {x y : Int32} (ht : (x, τ) = tSpeak σ (gaN kd n) kd n L) (hm : (y, ρ) = mSpeak τ kd n L) : x = y ∧ Rel ρ := by
  unfold tSpeak trT at ht
  unfold mSpeak at hm
  rw [b.tk, ← b.h.2.2.2] at hm
  by_cases q : n = 0
  · rw [if_pos (b.n0.mpr q)] at ht
    rw [if_pos q] at hm
    obtain ⟨rfl, e1⟩ := Prod.mk.inj ht
    obtain ⟨rfl, e2⟩ := Prod.mk.inj hm
    rw [e2, e1]
    exact ⟨rfl, h⟩
  · rw [if_neg (fun r => q (b.n0.mp r))] at ht
    rw [if_neg q] at hm
    obtain ⟨rfl, e1⟩ := Prod.mk.inj ht
    obtain ⟨rfl, e2⟩ := Prod.mk.inj hm
    rw [e2, e1]
    exact ⟨rfl, h.tell _⟩
end
