-- duel: equal answers
theorem dg_u0 : ∀ c, c < 729 → ∀ i, i < 6 → c / 3 ^ i % 3 < 2 → ∀ j, j < 6 → (c + 3 ^ i) / 3 ^ j % 3 = if j = i then c / 3 ^ i % 3 + 1 else c / 3 ^ j % 3 := by decide +kernel
theorem dg_d0 : ∀ c, c < 729 → ∀ i, i < 6 → 0 < c / 3 ^ i % 3 → ∀ j, j < 6 → (c - 3 ^ i) / 3 ^ j % 3 = if j = i then c / 3 ^ i % 3 - 1 else c / 3 ^ j % 3 := by decide +kernel
theorem cn_1 {f g : Nat → Bool} {i : Nat} : ∀ m, i < m → (∀ j, j < m → ¬ j = i → f j = g j) → cntN f m + (if g i = true then 1 else 0) = cntN g m + (if f i = true then 1 else 0)
  | 0, h, _ => absurd h (Nat.not_lt_zero _)
  | m + 1, h, he => by
    by_cases e : i = m
    · subst e
      have ec : cntN f i = cntN g i := cntN_c i (fun j hj => he j (by omega) (by omega))
      simp only [cntN]
      rw [ec]
      omega
    · have ih := cn_1 m (by omega) (fun j hj h2 => he j (by omega) h2)
      simp only [cntN]
      rw [he m (by omega) (fun q => e q.symm)]
      omega
theorem nI_xc {A B p q : Nat} (h : A + q = B + p) : nI A - nI p + nI q = nI B := by
  have e : nI A + nI q = nI B + nI p := by rw [nI_add, nI_add, h]
  have e2 : nI A - nI p + nI q = (nI A + nI q) - nI p := by
    rw [Int32.sub_eq_add_neg, Int32.sub_eq_add_neg, Int32.add_assoc, Int32.add_assoc, Int32.add_comm (-nI p) (nI q)]
  rw [e2, e]
  first | exact Int32.add_sub_cancel _ _ | rw [Int32.sub_eq_add_neg, Int32.add_assoc, Int32.add_right_neg, Int32.add_zero]
theorem sp_mv {L n i v w : Nat} {tb : Nat → Nat → Bool} {d d' : Nat → Nat} (hi : i < n) (q : L.testBit i = true) (h1 : d i = v) (h2 : d' i = w) (h3 : ∀ j, j < n → ¬ j = i → d' j = d j) {y z : Int32} (hy : y = nI (if tb i v = true then 1 else 0)) (hz : z = nI (if tb i w = true then 1 else 0)) : nI (spN L tb d n) - y + z = nI (spN L tb d' n) := by
  rw [hy, hz]
  apply nI_xc
  have e := cn_1 (f := fun j => L.testBit j && tb j (d j)) (g := fun j => L.testBit j && tb j (d' j)) (i := i) n hi (fun j hj h => by rw [h3 j hj h])
  simp only [h1, h2, q, Bool.true_and] at e
  exact e
theorem stn (t : Nat) : (-(if t % 2 = 0 then (1 : Int32) else -1)) = if (t + 1) % 2 = 0 then 1 else -1 := by
  by_cases c : t % 2 = 0
  · rw [if_pos c, if_neg (by omega)]
  · rw [if_neg c, if_pos (by omega)]
    decide
theorem d3_up : ∀ d, d < 3 → ((0 ≤ nI d + 1 ∧ nI d + 1 ≤ 2) ↔ d < 2) := by decide
theorem d3_dn : ∀ d, d < 3 → ((0 ≤ nI d + -1 ∧ nI d + -1 ≤ 2) ↔ 0 < d) := by decide
theorem d3_m : ∀ d, d < 3 → 0 < d → nI d + -1 = nI (d - 1) := by decide
section
variable {τ : St} {kd : Nat → Nat} {n L T : Nat} {tk : Nat → Nat → Int32}
theorem tn_dp (htk : ∀ i c, i < n → c < 3 → tk i c = nI (if tbF τ kd n L i c = true then 1 else 0)) (hL : L < 2 ^ n) (hn : n ≤ 6) : ∀ k, k ≤ T → ∀ c, c < 3 ^ n → ∀ cf : Nat → Int32, (∀ i, i < n → L.testBit i = true → cf i = nI (dg c i)) → tnF L tk k cf (if (T - k) % 2 = 0 then 1 else -1) (nI (spN L (tbF τ kd n L) (dg c) n)) = dpV τ kd n L T k c
  | 0, _, c, _, cf, _ => by
    show nI (spN L (tbF τ kd n L) (dg c) n) = nI (pcN (spX τ kd n (dgI c) L))
    rw [show pcN (spX τ kd n (dgI c) L) = spN L (tbF τ kd n L) (dg c) n from sx_sp hn (dg c)]
  | k + 1, hk, c, hc, cf, hcf => by
    have h729 : c < 729 := Nat.lt_of_lt_of_le hc (p3_b hn)
    have ih := tn_dp htk hL hn k (by omega)
    have est : -(if (T - (k + 1)) % 2 = 0 then (1 : Int32) else -1) = if (T - k) % 2 = 0 then 1 else -1 := by
      rw [stn, show T - (k + 1) + 1 = T - k by omega]
    show itr (tnG L tk (tnF L tk k) cf (if (T - (k + 1)) % 2 = 0 then 1 else -1) (nI (spN L (tbF τ kd n L) (dg c) n))) (tnF L tk k cf (-(if (T - (k + 1)) % 2 = 0 then 1 else -1)) (nI (spN L (tbF τ kd n L) (dg c) n))) 6 = itr (tuF (dpV τ kd n L T k) L c (decide ((T - 1 - k) % 2 = 0))) (dpV τ kd n L T k c) n
    rw [est, ih c hc cf hcf, show T - 1 - k = T - (k + 1) by omega]
    have e6 : ∀ f : Nat → Int32 → Int32, (∀ i, n ≤ i → ∀ r, f i r = r) → ∀ a, itr f a 6 = itr f a n := fun f hf a => by
      have e := itr_cut (f := f) (a := a) (m := n) (6 - n) (fun i h1 _ x => hf i h1 x)
      rw [show n + (6 - n) = 6 by omega] at e
      exact e
    rw [e6 _ (fun i hi r => by
      unfold tnG
      rw [if_neg (fun q => tb_no hL hi q.1)])]
    refine itr_R (fun x y => x = y) rfl n (fun i hi x y e => ?_)
    subst e
    by_cases q : L.testBit i = true
    · have hd3 : dg c i < 3 := dg_lt
      have eci := hcf i hi q
      have ixd : ix (cf i) = dg c i := by rw [eci, ix_nI (by omega)]
      by_cases c0 : (T - (k + 1)) % 2 = 0
      · have c1 : ¬ (T - k) % 2 = 0 := by omega
        rw [if_neg c1] at ih
        unfold tnG
        rw [if_pos c0, decide_eq_true c0]
        by_cases m : dg c i < 2
        · have em := (d3_up _ hd3).mpr m
          rw [← eci] at em
          have hu := dg_u0 c h729 i (by omega) m
          have hu' : ∀ j, j < n → dg (c + 3 ^ i) j = if j = i then dg c i + 1 else dg c j := fun j hj => hu j (by omega)
          have er : tnF L tk k (upd cf i (cf i + 1)) (-1) (nI (spN L (tbF τ kd n L) (dg c) n) - tk i (ix (cf i)) + tk i (ix (cf i + 1))) = dpV τ kd n L T k (c + 3 ^ i) := by
            rw [← ih (c + 3 ^ i) (dg_up n (by omega) c hc i hi m) (upd cf i (cf i + 1)) (fun j hj qj => by
              rw [hu' j hj]
              by_cases e : j = i
              · subst e
                rw [if_pos rfl, pk_us, eci, nI_1]
              · rw [if_neg e, pk_un e]
                exact hcf j hj qj)]
            rw [sp_mv (d := dg c) (d' := dg (c + 3 ^ i)) hi q rfl (by rw [hu' i hi, if_pos rfl]) (fun j hj e => by rw [hu' j hj, if_neg e]) (by rw [ixd]; exact htk i _ hi hd3) (by rw [eci, nI_1, ix_nI (by omega)]; exact htk i _ hi (by omega))]
          rw [if_pos ⟨q, em⟩, if_pos (by decide), er]
          unfold tuF
          rw [if_pos (tb_t q m), if_pos rfl]
          rfl
        · rw [if_neg (fun r => m ((d3_up _ hd3).mp (by rw [← eci]; exact r.2)))]
          unfold tuF
          rw [if_neg (tb_n1 m)]
      · have c1 : (T - k) % 2 = 0 := by omega
        rw [if_pos c1] at ih
        unfold tnG
        rw [if_neg c0, decide_eq_false c0]
        by_cases m : 0 < dg c i
        · have em := (d3_dn _ hd3).mpr m
          rw [← eci] at em
          have hu := dg_d0 c h729 i (by omega) m
          have hu' : ∀ j, j < n → dg (c - 3 ^ i) j = if j = i then dg c i - 1 else dg c j := fun j hj => hu j (by omega)
          have er : tnF L tk k (upd cf i (cf i + -1)) (- -1) (nI (spN L (tbF τ kd n L) (dg c) n) - tk i (ix (cf i)) + tk i (ix (cf i + -1))) = dpV τ kd n L T k (c - 3 ^ i) := by
            rw [show (- -1 : Int32) = 1 from by decide]
            rw [← ih (c - 3 ^ i) (Nat.lt_of_le_of_lt (Nat.sub_le _ _) hc) (upd cf i (cf i + -1)) (fun j hj qj => by
              rw [hu' j hj]
              by_cases e : j = i
              · subst e
                rw [if_pos rfl, pk_us, eci, d3_m _ hd3 m]
              · rw [if_neg e, pk_un e]
                exact hcf j hj qj)]
            rw [sp_mv (d := dg c) (d' := dg (c - 3 ^ i)) hi q rfl (by rw [hu' i hi, if_pos rfl]) (fun j hj e => by rw [hu' j hj, if_neg e]) (by rw [ixd]; exact htk i _ hi hd3) (by rw [eci, d3_m _ hd3 m, ix_nI (by omega)]; exact htk i _ hi (by omega))]
          rw [if_pos ⟨q, em⟩, if_neg (by decide), er]
          unfold tuF
          rw [if_pos (tb_f q m), if_neg Bool.false_ne_true]
          rfl
        · rw [if_neg (fun r => m ((d3_dn _ hd3).mp (by rw [← eci]; exact r.2)))]
          unfold tuF
          rw [if_neg (tb_n2 m)]
    · unfold tnG tuF
      rw [if_neg (fun r => q r.1), if_neg (tb_n q)]
end
theorem hr_dg {cr : Nat → Nat} {n : Nat} (h : ∀ i, i < n → cr i < 3) : ∀ j, j ≤ n → ∀ t, t < j → dg (hrN cr n j) t = cr (n - j + t)
  | 0, _, t, ht => absurd ht (Nat.not_lt_zero _)
  | j + 1, hj, t, ht => by
    have h1 := h (n - 1 - j) (by omega)
    show (3 * hrN cr n j + cr (n - 1 - j)) / 3 ^ t % 3 = _
    cases t with
    | zero =>
      rw [Nat.pow_zero, Nat.div_one, show n - (j + 1) + 0 = n - 1 - j by omega]
      omega
    | succ s =>
      have h3 : 3 ^ (s + 1) = 3 * 3 ^ s := by rw [Nat.pow_succ, Nat.mul_comm]
      rw [h3, ← Nat.div_div_eq_div_mul, show (3 * hrN cr n j + cr (n - 1 - j)) / 3 = hrN cr n j by omega, show n - (j + 1) + (s + 1) = n - j + s by omega]
      exact hr_dg h j (by omega) s (by omega)
theorem q_duel {σ τ : St} {x v : Int32} {n G L : Nat} {kd : Nat → Nat} (hn : n ≤ 6) (ht : (x, τ) = tDuel σ G kd n L v) : TM σ τ := by
  rw [show τ = (tDuel σ G kd n L v).2 from congrArg Prod.snd ht]
  unfold tDuel
  split
  · exact TM.rf
  · split
    · exact TM.rf
    · exact (bg_fr σ G kd L n hn).tm
theorem e_duel {σ τ ω ρ : St} {n : Nat} {kd : Nat → Nat} {L D : Nat} {x y v : Int32} (h : Rel σ) (b : Br σ τ n kd L D) {cr : Nat → Nat} (hcr : ∀ i, i < n → σ.1 31 i = nI (cr i) ∧ cr i ≤ 2) (ht : (x, τ) = tDuel σ (gaN kd n) kd n L v) (hf : fr τ ω) (hm : (y, ρ) = mDuel τ ω kd cr n L v) : x = y ∧ Rel ρ := by
  unfold tDuel at ht
  unfold mDuel at hm
  by_cases c : ¬ (0 ≤ v ∧ v ≤ 4)
  · rw [if_pos (out_iff.mp c)] at ht
    rw [if_pos c] at hm
    exact finF h ht hf hm
  rw [if_neg (mt out_iff.mpr c)] at ht
  rw [if_neg c] at hm
  by_cases c0 : n = 0
  · rw [if_pos (b.n0.mpr c0)] at ht
    rw [if_pos c0] at hm
    exact finF h ht hf hm
  rw [if_neg (fun q => c0 (b.n0.mp q))] at ht
  rw [if_neg c0] at hm
  have hn := b.n6
  have h3 : ∀ i, i < n → cr i < 3 := fun i hi => by have := (hcr i hi).2; omega
  have hdg : ∀ i, i < n → dg (hrN cr n n) i = cr i := fun i hi => by
    rw [hr_dg h3 n (Nat.le_refl _) i hi, Nat.sub_self, Nat.zero_add]
  have e := tn_dp (τ := τ) (kd := kd) (T := ix v) (tk := tkC (bgS σ (gaN kd n) kd L n)) (fun i c hi hc => b.tkv hi hc) b.L2 hn (ix v) (Nat.le_refl _) (hrN cr n n) (hr_lt h3 n (Nat.le_refl _)) ((bgS σ (gaN kd n) kd L n).1 48) (fun i hi _ => by
    rw [bgS_c σ _ kd L n hn hi, hdg i hi]
    exact (hcr i hi).1)
  rw [Nat.sub_self, if_pos rfl] at e
  have es : pcN (mkN (tkS σ (gaN kd n) kd L) n) = spN L (tbF τ kd n L) (dg (hrN cr n n)) n := by
    rw [pc_mk hn]
    refine cntN_c n (fun j hj => ?_)
    show (L.testBit j && talkB (kd j) (σ.1 29 j) (σ.1 19 11) (σ.1 31 j) (nI (othN L (gaN kd n) j))) = (L.testBit j && tbF τ kd n L j (dg (hrN cr n n) j))
    rw [hdg j hj, (hcr j hj).1, (b.c hj).2.1, b.h.2.2.1]
    rfl
  rw [es, e] at ht
  exact finF (h.frT (bg_fr σ (gaN kd n) kd L n hn)) ht hf hm
