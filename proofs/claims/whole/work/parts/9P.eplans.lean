-- ways, best: equal answers
theorem RB.stk {F : Nat → Nat → Int32} {n : Nat} {kd : Nat → Nat} {D : Nat} {wN aN : Nat → Nat} (h : RB F n kd D wN aN) : ∃ s, s ≤ 4000 ∧ F 19 17 = nI s := by
  obtain ⟨-, -, -, -, -, -, ⟨d1, -, -, -, d5, -, -, d8⟩, -, -, -⟩ := h
  obtain ⟨-, -, -, s, s1, s2⟩ := d8 D (Nat.le_refl _)
  obtain ⟨g, g1, g2⟩ := run_G (n := n) (kd := kd) (sk := F 28) (bo := F 29) (hd := hdF F) (fc := F 30) (wN := wN) (aN := aN) D
  have g3 : (runF F n kd wN aN D).G = nI g := g2
  rw [g3, ix_nI (by omega)] at s1
  exact ⟨s, by omega, d5.2.2.1.trans s2⟩
theorem TM.tr2 {σ τ ρ : St} (h : TM σ τ) (h2 : TM τ ρ) : TM σ ρ := ⟨fun k hk => (h2.1 k hk).trans (h.1 k hk), fun k hk => (h2.2 k hk).trans (h.2 k hk)⟩
theorem fr_cpF {σ τ : St} (h : fr σ τ) (k off : Nat) (f : Nat → Int32) : ∀ m, fr (cpF σ k off f m) (cpF τ k off f m)
  | 0 => h
  | m + 1 => fr_uI (fr_cpF h k off f m) _ _ _
theorem q_ways {σ τ : St} {x v : Int32} {n G L : Nat} {kd : Nat → Nat} (ht : (x, τ) = tWays σ G kd n L v) : TM σ τ := by
  rw [show τ = (tWays σ G kd n L v).2 from congrArg Prod.snd ht]
  unfold tWays
  split
  · exact TM.rf
  · split
    · exact TM.rf
    · exact (((pln_fr σ G kd n L (ix v)).tm.l (by decide)).l (by decide)).u (by decide)
theorem q_best {σ τ : St} {x m r : Int32} {n G L : Nat} {kd : Nat → Nat} (ht : (x, τ) = tBest σ G kd n L m r) : TM σ τ := by
  rw [show τ = (tBest σ G kd n L m r).2 from congrArg Prod.snd ht]
  unfold tBest
  by_cases c : ¬ ((0 ≤ m ∧ m ≤ 4) ∧ inR r 6)
  · rw [if_pos c]
    exact TM.rf
  · rw [if_neg c]
    split
    · exact TM.rf
    · obtain ⟨j, hj, ej, -⟩ := inR_nat (N := 6) (Classical.not_not.mp c).2 rfl (by decide)
      have h2 : TM (plnS σ G kd n L (ix m)) (tRow (plnS σ G kd n L (ix m)) r m).2 := q_row (x := (tRow (plnS σ G kd n L (ix m)) r m).1) rfl
      exact (((pln_fr σ G kd n L (ix m)).tm).tr2 h2).a (by omega)
section
variable {σ τ : St} {n : Nat} {kd : Nat → Nat} {L D : Nat}
theorem e_ways {ρ ω : St} (h : Rel σ) (b : Br σ τ n kd L D) {v x y : Int32} (ht : (x, τ) = tWays σ (gaN kd n) kd n L v) (hf : fr τ ω) (hm : (y, ρ) = mWays τ ω kd n L v) : x = y ∧ Rel ρ := by
  have hT := tree b (ix v)
  unfold tWays at ht
  unfold mWays at hm
  by_cases c : ¬ (0 ≤ v ∧ v ≤ 4)
  · rw [if_pos c] at ht hm
    exact finF h ht hf hm
  rw [if_neg c] at ht hm
  by_cases c1 : ovM τ n
  · rw [if_pos (fun q => b.op.mp q c1)] at ht
    rw [if_pos c1] at hm
    exact finF h ht hf hm
  rw [if_neg (fun q => q (b.op.mpr c1))] at ht
  rw [if_neg c1] at hm
  obtain ⟨W, hW, eW, -⟩ := nat_of (M := 4) (Classical.not_not.mp c).1 (Classical.not_not.mp c).2 rfl (by decide)
  rw [eW] at ht hm hT
  have hR : Rel (plnS σ (gaN kd n) kd n L W) := h.frT (pln_fr σ (gaN kd n) kd n L W)
  have hb := wy_b (σ := τ) (kd := kd) (n := n) (a := L) (W := W) ((n + 1) ^ W)
  have hb2 := pN_b b.n6 hW
  obtain ⟨-, r4, X, x1, x2, x3, x4⟩ := hT
  have e0 : (plnS σ (gaN kd n) kd n L W).1 34 9 = 0 ↔ (wyS τ kd n L W ((n + 1) ^ W)).1 = 0 := by
    rw [r4, ← nI_0]
    exact nI_eqI (by omega) (by omega)
  have ev : (if (plnS σ (gaN kd n) kd n L W).1 34 9 = 0 then 0 else (plnS σ (gaN kd n) kd n L W).1 34 10) = if (wyS τ kd n L W ((n + 1) ^ W)).1 = 0 then 0 else nI (wyS τ kd n L W ((n + 1) ^ W)).2 := by
    by_cases q : (wyS τ kd n L W ((n + 1) ^ W)).1 = 0
    · rw [if_pos q, if_pos (e0.mpr q)]
    · rw [if_neg q, if_neg (fun r => q (e0.mp r)), x2, x4.resolve_left q]
  rw [ev, r4, ix_nI (by omega)] at ht
  generalize wyS τ kd n L W ((n + 1) ^ W) = z at *
  obtain ⟨rfl, e1⟩ := Prod.mk.inj ht
  obtain ⟨rfl, e2⟩ := Prod.mk.inj hm
  rw [e2]
  refine ⟨rfl, ?_⟩
  have hZ := (hR.num (lN z.1) (lN 1)).tell (if z.1 = 0 then 0 else nI z.2)
  have hZ2 : Rel (uI (uL (uL τ 63 3 (lN z.1)) 63 4 (lN 1)) 63 2 (if z.1 = 0 then 0 else nI z.2)) := by
    rw [e1]
    exact hZ
  exact hZ2.fr (fr_uI (fr_uL (fr_uL hf _ _ _) _ _ _) _ _ _)
theorem bs_ge {W : Nat} : ∀ m c, c < m → ¬ (bsS τ kd n L W m).2 < pgS τ kd n L W c
  | 0, c, h => absurd h (Nat.not_lt_zero _)
  | m + 1, c, h => by
    by_cases q : (bsS τ kd n L W m).2 < pgS τ kd n L W m
    · rw [bs_t q]
      by_cases e : c = m
      · rw [e]
        exact ai_ir
      · have ih := bs_ge (W := W) m c (by omega)
        intro r
        apply ih
        have r' : pgS τ kd n L W m < pgS τ kd n L W c := r
        simp only [Int32.lt_iff_toInt_lt] at *
        omega
    · rw [bs_f q]
      by_cases e : c = m
      · rw [e]
        exact q
      · exact bs_ge m c (by omega)
theorem gz_up (b : Br σ τ n kd L D) {s0 : Nat} (hs0 : s0 ≤ 4000) (es : σ.1 19 17 = nI s0) {pl : Nat → Int32} (hp : ∀ i, pl i = -9) : ∀ k, k ≤ 4 → ∃ s X, s ≤ 4000 ∧ X ≤ k * 40000 ∧ (gzS τ kd n L pl k).2.1 = nI s ∧ (gzS τ kd n L pl k).2.2.1 = τ.1 76 1 + nI X
  | 0, _ => ⟨s0, 0, hs0, Nat.zero_le _, b.z.2.1.symm.trans es, by
      rw [nI_0, Int32.add_zero, gz_z]⟩
  | k + 1, hk => by
    obtain ⟨s, X, h1, h2, h3, h4⟩ := gz_up b hs0 es hp k (by omega)
    have hX : X ≤ (k + 1) * 40000 := Nat.le_trans h2 (Nat.mul_le_mul_right _ (Nat.le_succ k))
    rw [gz_s]
    generalize gzS τ kd n L pl k = z at *
    obtain ⟨zL, zs, zm, zt⟩ := z
    have h3' : zs = nI s := h3
    have h4' : zm = τ.1 76 1 + nI X := h4
    cases zt with
    | some j =>
      rw [gzF_s (i := j) rfl]
      exact ⟨s, X, h1, hX, h3', h4'⟩
    | none =>
      have e9 := fun M m => pl_9 (τ := τ) (kd := kd) (hp k) M m
      by_cases c : trX τ kd n (nwC τ) (gN pl k zL)
      · rw [gzF_t c, (e9 zL zm).2]
        exact ⟨s, X, h1, hX, h3', h4'⟩
      · rw [gzF_y c, (e9 zL zm).2]
        obtain ⟨l, l1, l2⟩ := sumI_b (f := ltA kd (σ.1 28) (gaN kd n) (gN pl k zL)) (B := 16) n (fun i hi => ltA_b (b.bk.2.2.2.2.2 i hi) (b.r hi).1)
        obtain ⟨f, f1, f2⟩ := b.hr.2.1
        have hn := b.n6
        refine ⟨0, X + (s + l) * f, Nat.zero_le _, ?_, nI_0.symm, ?_⟩
        · have : (s + l) * f ≤ 4100 * 9 := Nat.mul_le_mul (by omega) (by omega)
          omega
        · show zm + (zs + sumI (ltA kd (τ.1 72) (gaN kd n) (gN pl k zL)) n) * τ.1 70 1 = _
          rw [b.lt, l2, ← b.h.2.1, f2, h3', h4', nI_add, pk_mul, Int32.add_assoc, nI_add]
theorem pg_0 (b : Br σ τ n kd L D) {s0 W : Nat} (hs0 : s0 ≤ 4000) (es : σ.1 19 17 = nI s0) (hW : W ≤ 4) : -1 < pgS τ kd n L W 0 := by
  have hz : ∀ j, pdg (n + 1) 0 j = 0 := fun j => by
    unfold pdg
    rw [Nat.zero_div, Nat.zero_mod]
  have hg : gdB (n + 1) L 0 W = true := (gd_vd W).mpr ⟨fun j _ q => absurd (hz j) q, fun i j _ _ _ => hz i⟩
  obtain ⟨s, X, h1, h2, h3, h4⟩ := gz_up b hs0 es (pl := plN (n + 1) W 0) (fun i => pw_0 (hz _)) W hW
  have e : pgS τ kd n L W 0 = (gzS τ kd n L (plN (n + 1) W 0) W).2.2.1 - τ.1 76 1 := if_pos hg
  rw [e, h4, Int32.add_comm, i_as]
  have h0 : (0 : Int32) ≤ nI X := nI_nn (by omega)
  simp only [Int32.lt_iff_toInt_lt, Int32.le_iff_toInt_le] at *
  have e0 : (0 : Int32).toInt = 0 := rfl
  have e1 : (-1 : Int32).toInt = -1 := rfl
  omega
theorem e_best {ρ ω : St} (h : Rel σ) (b : Br σ τ n kd L D) (hs : ∃ s, s ≤ 4000 ∧ σ.1 19 17 = nI s) {m r x y : Int32} (ht : (x, τ) = tBest σ (gaN kd n) kd n L m r) (hf : fr τ ω) (hm : (y, ρ) = mBest τ ω kd n L m r) : x = y ∧ Rel ρ := by
  have hT := tree b (ix m)
  unfold tBest at ht
  unfold mBest at hm
  by_cases c : ¬ ((0 ≤ m ∧ m ≤ 4) ∧ inR r 6)
  · rw [if_pos c] at ht hm
    exact finF h ht hf hm
  rw [if_neg c] at ht hm
  by_cases c1 : ovM τ n
  · rw [if_pos (fun q => b.op.mp q c1)] at ht
    rw [if_pos c1] at hm
    exact finF h ht hf hm
  rw [if_neg (fun q => q (b.op.mpr c1))] at ht
  rw [if_neg c1] at hm
  have c' := Classical.not_not.mp c
  obtain ⟨W, hW, eW, eW2⟩ := nat_of (M := 4) c'.1.1 c'.1.2 rfl (by decide)
  obtain ⟨j, hj, ej, ej2⟩ := inR_nat (N := 6) c'.2 rfl (by decide)
  subst eW2 ej2
  rw [eW] at ht hm hT
  rw [ej] at ht hm
  have hR : Rel (plnS σ (gaN kd n) kd n L W) := h.frT (pln_fr σ (gaN kd n) kd n L W)
  have tR : tRow (plnS σ (gaN kd n) kd n L W) (nI j) (nI W) = (nI W, cpF (uI (plnS σ (gaN kd n) kd n L W) 8 j (nI W)) (2 + j) 0 (fun _ => 0) W) := by
    have e1 : ¬ (¬ inR (nI j) 6 ∨ (40 : Int32) < nI W) := by
      rintro (q | q)
      · exact q c'.2
      · have := (nI_ltI (a := 40) (b := W) (by omega) (by omega)).mp q
        omega
    have e2 : ¬ nI W < 0 := i_nlt.mpr (nI_nn (by omega))
    unfold tRow
    rw [if_neg e1, if_neg e2, ej, eW, fl_c]
  obtain ⟨⟨r1, r2, r3⟩, -⟩ := hT
  obtain ⟨s0, hs0, es0⟩ := hs
  have hlt : ¬ (bsS τ kd n L W ((n + 1) ^ W)).2 = -1 := fun q => by
    have h1 := bs_ge (τ := τ) (kd := kd) (n := n) (L := L) (W := W) ((n + 1) ^ W) 0 (Nat.pow_pos (by omega))
    rw [q] at h1
    exact h1 (pg_0 b hs0 es0 hW)
  have r3' := r3.resolve_left hlt
  rw [r1, tR] at ht
  obtain ⟨ex, e1⟩ := Prod.mk.inj ht
  obtain ⟨ey, e2⟩ := Prod.mk.inj hm
  refine ⟨by rw [ex, ey], ?_⟩
  generalize (bsS τ kd n L W ((n + 1) ^ W)).1 = bc at *
  generalize plnS σ (gaN kd n) kd n L W = p at *
  have hc : ∀ k, k ≠ 8 → k ≠ 2 + j → τ.1 k = p.1 k := fun k k1 k2 => by
    rw [e1, uA_o _ _ _ k2]
    show (cpF (uI p 8 j (nI W)) (2 + j) 0 (fun _ => 0) W).1 k = _
    rw [cpF_other _ _ _ _ k2, uI_o _ _ _ _ k1]
  have hc8 : τ.1 8 = (uI p 8 j (nI W)).1 8 := by
    rw [e1, uA_o _ _ _ (by omega)]
    show (cpF (uI p 8 j (nI W)) (2 + j) 0 (fun _ => 0) W).1 8 = _
    rw [cpF_other _ _ _ _ (by omega)]
  have hcr : ∀ i, i < W → τ.1 (2 + j) i = p.1 39 i := fun i hi => by
    rw [e1]
    show (if 2 + j = 2 + j then va_cpy ((cpF (uI p 8 j (nI W)) (2 + j) 0 (fun _ => 0) W).1 39) ((cpF (uI p 8 j (nI W)) (2 + j) 0 (fun _ => 0) W).1 (2 + j)) (0 : Int32).toNatClampNeg (0 : Int32).toNatClampNeg (nI W).toNatClampNeg else _) i = _
    rw [if_pos rfl, show (0 : Int32).toNatClampNeg = 0 from rfl, show (nI W).toNatClampNeg = W from eW]
    unfold va_cpy
    rw [if_pos ⟨Nat.zero_le _, by omega⟩, cpF_other _ _ _ _ (by omega), uI_o _ _ _ _ (by decide)]
    rw [Nat.sub_zero, Nat.zero_add]
  have hc2 : τ.2 = p.2 := by
    rw [e1]
    show (cpF (uI p 8 j (nI W)) (2 + j) 0 (fun _ => 0) W).2 = _
    rw [cpF_2]
    rfl
  have hρ : fr (cpF (uI τ 65 j (nI W)) 66 (40 * j) (plN (n + 1) W bc) W) ρ := by
    rw [e2]
    exact fr_cpF (fr_uI hf _ _ _) _ _ _ _
  refine Rel.fr ?_ hρ
  have hx : ∀ k, k ≠ 2 + j → k ≠ 8 → k ≠ 65 → k ≠ 66 → (cpF (uI τ 65 j (nI W)) 66 (40 * j) (plN (n + 1) W bc) W).1 k = p.1 k := fun k k1 k3 k4 k5 => by
    rw [cpF_other _ _ _ _ k5, uI_o _ _ _ _ k4, hc k k3 k1]
  have hb : kp isB p (cpF (uI τ 65 j (nI W)) 66 (40 * j) (plN (n + 1) W bc) W) := fun k i e => by
    have hk : k ≠ 2 + j ∧ k ≠ 8 ∧ k ≠ 65 ∧ k ≠ 66 := by
      unfold isB at e
      simp only [Bool.or_eq_true, Bool.and_eq_true, beq_iff_eq, Nat.ble_eq] at e
      omega
    rw [hx k hk.1 hk.2.1 hk.2.2.1 hk.2.2.2]
  have e8 : (cpF (uI τ 65 j (nI W)) 66 (40 * j) (plN (n + 1) W bc) W).1 8 = (uI p 8 j (nI W)).1 8 := by rw [cpF_other _ _ _ _ (by decide), uI_o _ _ _ _ (by decide), hc8]
  have e65 : (cpF (uI τ 65 j (nI W)) 66 (40 * j) (plN (n + 1) W bc) W).1 65 = (uI τ 65 j (nI W)).1 65 := by rw [cpF_other _ _ _ _ (by decide)]
  refine Rel_row hR hj hb ?_ ?_ ?_ ?_ ?_ (fun k k1 _ k3 k4 k5 => hx k k1 k3 k4 k5) (fun r' hr' => ?_) (fun r' hr' => ?_) (fun r' i' hr' hi' => ?_) ?_
  · exact hx 62 (by omega) (by decide) (by decide) (by decide)
  · exact hx 64 (by omega) (by decide) (by decide) (by decide)
  · rw [hx 0 (by omega) (by decide) (by decide) (by decide), hx 63 (by omega) (by decide) (by decide) (by decide)]
    exact hR.fd.2.1
  · rw [hx 0 (by omega) (by decide) (by decide) (by decide), hx 63 (by omega) (by decide) (by decide) (by decide)]
    exact hR.fd.2.2.1
  · rw [cpF_2]
    exact hc2
  · rw [e8, uI_n _ _ _ _ hr']
  · rw [e65, uI_n _ _ _ _ hr', hc 65 (by decide) (by omega)]
  · rw [cpF_out _ _ _ _ _ (by omega), uI_o _ _ _ _ (by decide), hc 66 (by decide) (by omega)]
  · unfold rwR
    have f8 : (cpF (uI τ 65 j (nI W)) 66 (40 * j) (plN (n + 1) W bc) W).1 8 j = nI W := by rw [e8, uI_s]
    have f65 : (cpF (uI τ 65 j (nI W)) 66 (40 * j) (plN (n + 1) W bc) W).1 65 j = nI W := by rw [e65, uI_s]
    rw [f8, f65, ix_nI (by omega)]
    refine ⟨rfl, ?_, (nI_leI (b := 40) (by omega) (by omega)).mpr (by omega), fun i hi => ?_⟩
    · have h1 : (0 : Int32) ≤ nI W := nI_nn (by omega)
      have e0 : (0 : Int32).toInt = 0 := rfl
      have e1 : (-1 : Int32).toInt = -1 := rfl
      simp only [Int32.le_iff_toInt_le] at *
      omega
    · rw [cpF_at _ _ _ _ _ hi, cpF_other _ _ _ _ (by omega), uI_o _ _ _ _ (by omega), hcr i hi]
      exact r3' i hi
end
