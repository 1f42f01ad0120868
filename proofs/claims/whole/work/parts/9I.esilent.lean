-- silent: equal answers
theorem tb_no {L n i : Nat} (h : L < 2 ^ n) (hi : n ≤ i) : ¬ L.testBit i = true := by
  rw [Nat.testBit_lt_two_pow (Nat.lt_of_lt_of_le h (Nat.pow_le_pow_right (by decide) hi))]
  exact Bool.false_ne_true
theorem tb_in {L n i : Nat} (h : L < 2 ^ n) (q : L.testBit i = true) : i < n := by
  by_cases c : i < n
  · exact c
  · exact absurd q (tb_no h (by omega))
theorem mx_ext {L n : Nat} {cr d : Nat → Nat} (h : L < 2 ^ n) : ∀ e, mxN L cr d (n + e) = mxN L cr d n
  | 0 => rfl
  | e + 1 => by
    show mxN L cr d (n + e + 1) = _
    rw [mx_n (tb_no h (by omega))]
    exact mx_ext h e
theorem mx_6 {L n : Nat} {cr d : Nat → Nat} (h : L < 2 ^ n) (hn : n ≤ 6) : mxN L cr d n = mxN L cr d 6 := by
  have e := mx_ext (cr := cr) (d := d) h (6 - n)
  rw [show n + (6 - n) = 6 by omega] at e
  exact e.symm
theorem al_of {f : Nat → Bool} : ∀ n, (∀ i, i < n → f i = true) → allB f n = true
  | 0, _ => rfl
  | n + 1, h => by
    simp only [allB, Bool.and_eq_true]
    exact ⟨al_of n (fun i hi => h i (by omega)), h n (by omega)⟩
theorem al_at {f : Nat → Bool} : ∀ n, allB f n = true → ∀ i, i < n → f i = true
  | 0, _, i, hi => absurd hi (Nat.not_lt_zero _)
  | n + 1, h, i, hi => by
    simp only [allB, Bool.and_eq_true] at h
    by_cases e : i = n
    · rw [e]
      exact h.2
    · exact al_at n h.1 i (by omega)
theorem mg_at {cr : Nat → Nat} {a c i : Nat} (h : mgB cr a c i = true) : cr i ≤ dg c i ∧ (dg c i = cr i ∨ a.testBit i = true) := by
  unfold mgB at h
  rw [Bool.and_eq_true, Bool.or_eq_true, decide_eq_true_eq, decide_eq_true_eq] at h
  exact h
theorem nI_sb {a b : Nat} (h : b ≤ a) : nI a - nI b = nI (a - b) := by
  obtain ⟨x, rfl⟩ : ∃ x, a = b + x := ⟨a - b, by omega⟩
  have e := nI_as 0 b x
  rw [nI_0, Int32.zero_add, Nat.zero_add] at e
  rw [e, Nat.add_sub_cancel_left]
theorem mr_v {cr : Nat → Nat} {a c : Nat} : ∀ n, allB (mgB cr a c) n = true → sumI (fun i => nI (dg c i) - nI (cr i)) n = nI (mxN a cr (dg c) n)
  | 0, _ => nI_0.symm
  | n + 1, h => by
    simp only [allB, Bool.and_eq_true] at h
    obtain ⟨h1, h2⟩ := mg_at h.2
    simp only [sumI, mxN]
    rw [mr_v n h.1]
    by_cases q : a.testBit n = true
    · rw [if_pos q, nI_sb h1, nI_add]
    · rw [if_neg q, h2.resolve_right q, Int32.sub_self, Int32.add_zero, Nat.add_zero]
theorem i_mil : (1000000 : Int32) = nI 1000000 := by decide
theorem Kz_leaf {z : Int32 × Int32} {κ : Nat} (h : Kp 1000000 z κ) {m s t bN : Nat} (hm : m ≤ 12) (hs : s ≤ 6) (ht : t ≤ 6) (hb : bN < 7) : ∃ κ', Kp 1000000 (if 0 ≤ nI m ∧ ¬ nI bN ≤ nI s ∧ (nI m < z.1 ∨ (nI m = z.1 ∧ z.2 < nI t)) then (nI m, nI t) else z) κ' ∧ κ' ≤ κ ∧ κ' ≤ kyN bN m s t ∧ (κ' = κ ∨ κ' = kyN bN m s t) := by
  by_cases c : s < bN
  · have c' : ¬ nI bN ≤ nI s := fun r => by
      have := (nI_leI (by omega) (by omega)).mp r
      omega
    have c0 : (0 : Int32) ≤ nI m := nI_nn (by omega)
    have ek : kyN bN m s t = 7 * m + 6 - t := if_pos c
    rw [ek]
    rcases h with ⟨e1, e2⟩ | ⟨m0, t0, h1, h2, e1, e2⟩
    · subst e1
      refine ⟨7 * m + 6 - t, ?_, by omega, Nat.le_refl _, Or.inr rfl⟩
      have c1 : nI m < (1000000 : Int32) := by
        rw [i_mil]
        exact (nI_ltI (by omega) (by omega)).mpr (by omega)
      rw [if_pos ⟨c0, c', Or.inl c1⟩]
      exact Or.inr ⟨m, t, hm, ht, rfl, rfl⟩
    · subst e1
      by_cases q : m < m0 ∨ (m = m0 ∧ t0 < t)
      · refine ⟨7 * m + 6 - t, ?_, by omega, Nat.le_refl _, Or.inr rfl⟩
        have q' : nI m < nI m0 ∨ (nI m = nI m0 ∧ nI t0 < nI t) := q.imp (fun r => (nI_ltI (by omega) (by omega)).mpr r) (fun r => ⟨by rw [r.1], (nI_ltI (by omega) (by omega)).mpr r.2⟩)
        rw [if_pos ⟨c0, c', q'⟩]
        exact Or.inr ⟨m, t, hm, ht, rfl, rfl⟩
      · refine ⟨κ, ?_, Nat.le_refl _, by omega, Or.inl rfl⟩
        have q' : ¬ (nI m < nI m0 ∨ (nI m = nI m0 ∧ nI t0 < nI t)) := by
          rintro (r | ⟨r, r2⟩)
          · exact q (Or.inl ((nI_ltI (by omega) (by omega)).mp r))
          · exact q (Or.inr ⟨(nI_eqI (by omega) (by omega)).mp r, (nI_ltI (by omega) (by omega)).mp r2⟩)
        rw [if_neg (fun r => q' r.2.2)]
        exact Or.inr ⟨m0, t0, h1, h2, rfl, e2⟩
  · have ek : kyN bN m s t = 1000 := if_neg c
    have c' : nI bN ≤ nI s := (nI_leI (by omega) (by omega)).mpr (by omega)
    rw [ek, if_neg (fun r => r.2.1 c')]
    refine ⟨κ, h, Nat.le_refl _, ?_, Or.inl rfl⟩
    rcases h with ⟨-, e2⟩ | ⟨m0, t0, h1, h2, -, e2⟩
    · omega
    · omega
def tbF (τ : St) (kd : Nat → Nat) (n a : Nat) (i x : Nat) : Bool := talkB (kd i) (τ.1 73 i) (τ.1 70 2) (nI x) (nI (othN a (gaN kd n) i))
theorem sx_sp {τ : St} {kd : Nat → Nat} {n a : Nat} (hn : n ≤ 6) (d : Nat → Nat) : pcN (spX τ kd n (fun i => nI (d i)) a) = spN a (tbF τ kd n a) d n := by
  unfold spX
  rw [pc_mk hn]
  rfl
theorem ok_dg {L n c : Nat} {cr : Nat → Nat} (hL : L < 2 ^ n) (h : allB (mgB cr L c) n = true) : okd L cr (dg c) := fun i _ q => ⟨(mg_at (al_at n h i (tb_in hL q))).1, dg_lt⟩
theorem sl_res {τ : St} {kd cr : Nat → Nat} {n a bN : Nat} (hb : τ.1 70 3 = nI bN) (hb7 : bN < 7) (ha : a < 2 ^ n) (hn : n ≤ 6) : ∀ m, ∃ κ, Kp 1000000 (slS τ kd cr n a m) κ ∧ κ ≤ 1000 ∧ (∀ c, c < m → allB (mgB cr a c) n = true → κ ≤ kvN a bN cr (tbF τ kd n a) (dg c)) ∧ (κ = 1000 ∨ ∃ c, c < m ∧ allB (mgB cr a c) n = true ∧ κ = kvN a bN cr (tbF τ kd n a) (dg c))
  | 0 => ⟨1000, Or.inl ⟨rfl, rfl⟩, Nat.le_refl _, fun c hc => absurd hc (Nat.not_lt_zero _), Or.inl rfl⟩
  | m + 1 => by
    obtain ⟨κ, h1, h2, h3, h4⟩ := sl_res (cr := cr) hb hb7 ha hn m
    by_cases q : allB (mgB cr a m) n = true
    · have em : mrS cr a n m = nI (mxN a cr (dg m) 6) := by
        unfold mrS
        rw [if_pos q, mr_v n q, mx_6 ha hn]
      have es : pcN (spX τ kd n (dgI m) a) = spN a (tbF τ kd n a) (dg m) 6 := (sx_sp hn (dg m)).trans (ct_cut (fun j => tbF τ kd n a j (dg m j)) ha hn)
      have et : tdN a n m = twN a (dg m) 6 := ct_cut (fun j => decide (dg m j = 2)) ha hn
      obtain ⟨κ', q1, q2, q3, q4⟩ := Kz_leaf h1 (m := mxN a cr (dg m) 6) (s := spN a (tbF τ kd n a) (dg m) 6) (t := twN a (dg m) 6) (mx_le (ok_dg ha q) 6 (by decide)) (cntN_le _ 6) (cntN_le _ 6) hb7
      refine ⟨κ', ?_, by omega, fun c hc hv => ?_, ?_⟩
      · show Kp 1000000 (if 0 ≤ mrS cr a n m ∧ ¬ τ.1 70 3 ≤ nI (pcN (spX τ kd n (dgI m) a)) ∧ (mrS cr a n m < (slS τ kd cr n a m).1 ∨ (mrS cr a n m = (slS τ kd cr n a m).1 ∧ (slS τ kd cr n a m).2 < nI (tdN a n m))) then (mrS cr a n m, nI (tdN a n m)) else slS τ kd cr n a m) κ'
        rw [em, es, et, hb]
        exact q1
      · by_cases e : c = m
        · rw [e]
          exact q3
        · exact Nat.le_trans q2 (h3 c (by omega) hv)
      · rcases q4 with e | e
        · rcases h4 with e2 | ⟨c, hc, hv, e2⟩
          · exact Or.inl (e.trans e2)
          · exact Or.inr ⟨c, by omega, hv, e.trans e2⟩
        · exact Or.inr ⟨m, by omega, q, e⟩
    · have em : mrS cr a n m = -1 := if_neg q
      rw [slS_f (fun r => absurd (em ▸ r.1) (by decide))]
      refine ⟨κ, h1, h2, fun c hc hv => ?_, ?_⟩
      · by_cases e : c = m
        · rw [e] at hv
          exact absurd hv q
        · exact h3 c (by omega) hv
      · rcases h4 with e2 | ⟨c, hc, hv, e2⟩
        · exact Or.inl e2
        · exact Or.inr ⟨c, by omega, hv, e2⟩
theorem Kp_eq {p z : Int32 × Int32} {κ : Nat} (h1 : Kp (-9) p κ) (h2 : Kp 1000000 z κ) : (p.1 = -9 ∧ z.1 = 1000000) ∨ (¬ p.1 = -9 ∧ ¬ z.1 = 1000000 ∧ p = z) := by
  rcases h1 with ⟨e1, k1⟩ | ⟨m, t, hm, ht, e1, k1⟩
  · rcases h2 with ⟨e2, k2⟩ | ⟨m2, t2, hm2, ht2, e2, k2⟩
    · exact Or.inl ⟨by rw [e1], by rw [e2]⟩
    · omega
  · rcases h2 with ⟨e2, k2⟩ | ⟨m2, t2, hm2, ht2, e2, k2⟩
    · omega
    · refine Or.inr ⟨?_, ?_, ?_⟩
      · rw [e1]
        exact nI_n9 (by omega)
      · rw [e2, i_mil]
        exact fun r => by
          have := (nI_eqI (by omega) (by omega)).mp r
          omega
      · rw [e1, e2, show m = m2 by omega, show t = t2 by omega]
theorem bgS_t (σ : St) (G : Nat) (kd : Nat → Nat) (L : Nat) {j c : Nat} (hc : c < 3) : ∀ i, i ≤ 6 → j < i → (bgS σ G kd L i).1 (42 + j) c = tcF σ G kd L j c
  | 0, _, h => absurd h (Nat.not_lt_zero _)
  | i + 1, hi, h => by
    show (cpF (uI (bgS σ G kd L i) 48 i (σ.1 31 i)) (42 + i) 0 (tcF σ G kd L i) 3).1 (42 + j) c = _
    by_cases e : j = i
    · subst e
      exact cpF_a0 _ _ _ hc
    · rw [cpF_other _ _ _ _ (by omega), uI_o _ _ _ _ (by omega)]
      exact bgS_t σ G kd L hc i (by omega) (by omega)
theorem scr42 {i : Nat} (h : i < 6) : scrT (42 + i) = true := by
  rcases i with _ | _ | _ | _ | _ | _ | i
  · rfl
  · rfl
  · rfl
  · rfl
  · rfl
  · rfl
  · omega
theorem bg_fr (σ : St) (G : Nat) (kd : Nat → Nat) (L : Nat) : ∀ i, i ≤ 6 → frT σ (bgS σ G kd L i)
  | 0, _ => (frT.rf.u rfl).u rfl
  | i + 1, hi => ((bg_fr σ G kd L i (by omega)).u rfl).c (scr42 (by omega)) 3
theorem kS_fr {σ τ : St} (h : frT σ τ) (p : Int32 × Int32) : frT σ (kS τ p) := (h.u rfl).u rfl
theorem q_silent {σ τ : St} {x : Int32} {n G L : Nat} {kd cr : Nat → Nat} (hn : n ≤ 6) (ht : (x, τ) = tSilent σ G kd cr n L) : TM σ τ := by
  rw [show τ = (tSilent σ G kd cr n L).2 from congrArg Prod.snd ht]
  unfold tSilent
  split
  · exact TM.rf
  · split
    · exact (kS_fr (bg_fr σ G kd L n hn) _).tm
    · exact (kS_fr (bg_fr σ G kd L n hn) _).tm.u (by decide)
section
variable {σ τ : St} {n : Nat} {kd : Nat → Nat} {L D : Nat}
theorem Br.tkv (b : Br σ τ n kd L D) {i c : Nat} (hi : i < n) (hc : c < 3) : tkC (bgS σ (gaN kd n) kd L n) i c = nI (if tbF τ kd n L i c = true then 1 else 0) := by
  show (bgS σ (gaN kd n) kd L n).1 (42 + i) c = _
  rw [bgS_t σ _ kd L hc n b.n6 hi]
  unfold tcF tbF
  rw [(b.c hi).2.1, b.h.2.2.1]
  unfold bI
  by_cases q : talkB (kd i) (τ.1 73 i) (τ.1 70 2) (nI c) (nI (othN L (gaN kd n) i)) = true
  · rw [if_pos q, if_pos q]
    rfl
  · rw [if_neg q, if_neg q]
    rfl
theorem Br.sil (b : Br σ τ n kd L D) {cr : Nat → Nat} (hcr : ∀ i, i < n → cr i ≤ 2) : (∃ κ, Kp (-9) (skF L cr (tkC (bgS σ (gaN kd n) kd L n)) (σ.1 19 12) 6 0 0 0 (-9, 0)) κ ∧ Kp 1000000 (slS τ kd cr n L (3 ^ n)) κ) := by
  obtain ⟨bN, hb7, eb, -⟩ := b.hr.2.2.2
  have hn := b.n6
  have hL := b.L2
  obtain ⟨κ1, a1, a2, a3, a4⟩ := sk_res (L := L) (bN := bN) (cr := cr) (tb := tbF τ kd n L) (tk := tkC (bgS σ (gaN kd n) kd L n)) (fun i c _ q hc => b.tkv (tb_in hL q) hc) (fun i _ q => hcr i (tb_in hL q)) hb7 6 0 rfl cr (-9, 0) 1000 (fun i _ q => ⟨Nat.le_refl _, by have := hcr i (tb_in hL q); omega⟩) (Or.inl ⟨rfl, rfl⟩)
  obtain ⟨κ2, m1, m2, m3, m4⟩ := sl_res (τ := τ) (kd := kd) (cr := cr) (n := n) (a := L) (bN := bN) (by rw [← b.h.2.2.2]; exact eb) hb7 hL hn (3 ^ n)
  have a1' : Kp (-9) (skF L cr (tkC (bgS σ (gaN kd n) kd L n)) (nI bN) 6 (nI 0) (nI 0) (nI 0) (-9, 0)) κ1 := a1
  rw [nI_0, ← eb] at a1'
  have e : κ1 = κ2 := by
    apply Nat.le_antisymm
    · rcases m4 with e | ⟨c, hc, hv, e⟩
      · omega
      · rw [e]
        exact a3 _ (ok_dg hL hv) (fun j hj => absurd hj (Nat.not_lt_zero _))
    · rcases a4 with e | ⟨d, hd, -, e⟩
      · omega
      · obtain ⟨c, hc, hdc⟩ := dgB_ex (B := 3) n (fun i => if L.testBit i = true then d i else cr i) (fun i hi => by
          by_cases q : L.testBit i = true
          · rw [if_pos q]
            exact (hd i (by omega) q).2
          · rw [if_neg q]
            have := hcr i hi
            omega)
        have hdg : ∀ i, i < n → dg c i = if L.testBit i = true then d i else cr i := hdc
        have hv : allB (mgB cr L c) n = true := al_of n (fun i hi => by
          have e1 := hdg i hi
          by_cases q : L.testBit i = true
          · rw [if_pos q] at e1
            exact mg_t (by have := (hd i (by omega) q).1; omega) (Or.inr q)
          · rw [if_neg q] at e1
            exact mg_t (by omega) (Or.inl e1))
        rw [e, kv_c (d := d) (d' := dg c) (fun j hj q => by rw [hdg j (tb_in hL q), if_pos q])]
        exact m3 c hc hv
  exact ⟨κ1, a1', by rw [e]; exact m1⟩
theorem e_silent {ω ρ : St} {x y : Int32} (h : Rel σ) (b : Br σ τ n kd L D) {cr : Nat → Nat} (hcr : ∀ i, i < n → cr i ≤ 2) (ht : (x, τ) = tSilent σ (gaN kd n) kd cr n L) (hf : fr τ ω) (hm : (y, ρ) = mSilent τ ω kd cr n L) : x = y ∧ Rel ρ := by
  obtain ⟨κ, k1, k2⟩ := b.sil hcr
  have hk := Kp_eq k1 k2
  have hR := h.frT (kS_fr (bg_fr σ (gaN kd n) kd L n b.n6) (skF L cr (tkC (bgS σ (gaN kd n) kd L n)) (σ.1 19 12) 6 0 0 0 (-9, 0)))
  unfold tSilent at ht
  unfold mSilent at hm
  by_cases c : n = 0
  · rw [if_pos (b.n0.mpr c)] at ht
    rw [if_pos c] at hm
    exact finF h ht hf hm
  rw [if_neg (fun q => c (b.n0.mp q))] at ht
  rw [if_neg c] at hm
  rcases hk with ⟨e1, e2⟩ | ⟨e1, e2, e3⟩
  · rw [if_pos e1] at ht
    rw [if_pos e2] at hm
    exact finF hR ht hf hm
  · rw [if_neg e1] at ht
    rw [if_neg e2, ← e3] at hm
    exact finFT hR ht hf hm
end
