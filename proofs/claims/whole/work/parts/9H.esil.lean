-- the fewest crosses: the class's search
theorem dgB_ex {B : Nat} : ∀ (n : Nat) (e : Nat → Nat), (∀ i, i < n → e i < B) → ∃ c, c < B ^ n ∧ ∀ i, i < n → c / B ^ i % B = e i
  | 0, e, _ => ⟨0, by rw [Nat.pow_zero]; exact Nat.one_pos, fun i hi => absurd hi (Nat.not_lt_zero _)⟩
  | n + 1, e, h => by
    obtain ⟨c, hc, hd⟩ := dgB_ex n (fun i => e (i + 1)) (fun i hi => h (i + 1) (by omega))
    have h0 := h 0 (by omega)
    have hB : 0 < B := by omega
    refine ⟨e 0 + B * c, ?_, fun i hi => ?_⟩
    · have h1 : B * (c + 1) ≤ B * B ^ n := Nat.mul_le_mul_left B hc
      have h2 : B * (c + 1) = B * c + B := Nat.mul_succ B c
      have h3 : B ^ (n + 1) = B * B ^ n := by rw [Nat.pow_succ, Nat.mul_comm]
      omega
    · cases i with
      | zero => rw [Nat.pow_zero, Nat.div_one, Nat.add_mul_mod_self_left, Nat.mod_eq_of_lt h0]
      | succ j =>
        have h3 : B ^ (j + 1) = B * B ^ j := by rw [Nat.pow_succ, Nat.mul_comm]
        rw [h3, ← Nat.div_div_eq_div_mul, Nat.add_mul_div_left _ _ hB, Nat.div_eq_of_lt h0, Nat.zero_add]
        exact hd j (by omega)
def mxN (L : Nat) (cr d : Nat → Nat) : Nat → Nat
  | 0 => 0
  | i + 1 => mxN L cr d i + (if L.testBit i = true then d i - cr i else 0)
def spN (L : Nat) (tb : Nat → Nat → Bool) (d : Nat → Nat) (i : Nat) : Nat := cntN (fun j => L.testBit j && tb j (d j)) i
def twN (L : Nat) (d : Nat → Nat) (i : Nat) : Nat := cntN (fun j => L.testBit j && decide (d j = 2)) i
def kyN (bN m s t : Nat) : Nat := if s < bN then 7 * m + 6 - t else 1000
def kvN (L bN : Nat) (cr : Nat → Nat) (tb : Nat → Nat → Bool) (d : Nat → Nat) : Nat := kyN bN (mxN L cr d 6) (spN L tb d 6) (twN L d 6)
def okd (L : Nat) (cr d : Nat → Nat) : Prop := ∀ i, i < 6 → L.testBit i = true → cr i ≤ d i ∧ d i < 3
def Kp (x : Int32) (p : Int32 × Int32) (κ : Nat) : Prop := (p = (x, 0) ∧ κ = 1000) ∨ ∃ m t, m ≤ 12 ∧ t ≤ 6 ∧ p = (nI m, nI t) ∧ κ = 7 * m + 6 - t
theorem mx_c {L : Nat} {cr d d' : Nat → Nat} : ∀ i, (∀ j, j < i → L.testBit j = true → d j = d' j) → mxN L cr d i = mxN L cr d' i
  | 0, _ => rfl
  | i + 1, h => by
    simp only [mxN]
    rw [mx_c i (fun j hj => h j (by omega))]
    by_cases q : L.testBit i = true
    · rw [if_pos q, if_pos q, h i (by omega) q]
    · rw [if_neg q, if_neg q]
theorem an_c {L : Nat} {f g : Nat → Bool} {j : Nat} (h : L.testBit j = true → f j = g j) : (L.testBit j && f j) = (L.testBit j && g j) := by
  cases q : L.testBit j
  · rfl
  · rw [h q]
theorem sp_c {L : Nat} {tb : Nat → Nat → Bool} {d d' : Nat → Nat} (i : Nat) (h : ∀ j, j < i → L.testBit j = true → d j = d' j) : spN L tb d i = spN L tb d' i := cntN_c i (fun j hj => an_c (f := fun j => tb j (d j)) (g := fun j => tb j (d' j)) (fun q => by rw [h j hj q]))
theorem tw_c {L : Nat} {d d' : Nat → Nat} (i : Nat) (h : ∀ j, j < i → L.testBit j = true → d j = d' j) : twN L d i = twN L d' i := cntN_c i (fun j hj => an_c (f := fun j => decide (d j = 2)) (g := fun j => decide (d' j = 2)) (fun q => by rw [h j hj q]))
theorem kv_c {L bN : Nat} {cr : Nat → Nat} {tb : Nat → Nat → Bool} {d d' : Nat → Nat} (h : ∀ j, j < 6 → L.testBit j = true → d j = d' j) : kvN L bN cr tb d = kvN L bN cr tb d' := by
  unfold kvN
  rw [mx_c 6 h, sp_c 6 h, tw_c 6 h]
theorem mx_le {L : Nat} {cr d : Nat → Nat} (h : okd L cr d) : ∀ i, i ≤ 6 → mxN L cr d i ≤ 2 * i
  | 0, _ => Nat.le_refl _
  | i + 1, hi => by
    have ih := mx_le h i (by omega)
    simp only [mxN]
    by_cases q : L.testBit i = true
    · have := (h i (by omega) q).2
      rw [if_pos q]
      omega
    · rw [if_neg q]
      omega
theorem mx_n {L : Nat} {cr d : Nat → Nat} {i : Nat} (q : ¬ L.testBit i = true) : mxN L cr d (i + 1) = mxN L cr d i := by simp only [mxN, if_neg q, Nat.add_zero]
theorem an_n {b c : Bool} (q : ¬ b = true) : ¬ (b && c) = true := by
  rw [Bool.and_eq_true]
  exact fun r => q r.1
theorem sp_n {L : Nat} {tb : Nat → Nat → Bool} {d : Nat → Nat} {i : Nat} (q : ¬ L.testBit i = true) : spN L tb d (i + 1) = spN L tb d i := cntN_f (f := fun j => L.testBit j && tb j (d j)) (an_n q)
theorem tw_n {L : Nat} {d : Nat → Nat} {i : Nat} (q : ¬ L.testBit i = true) : twN L d (i + 1) = twN L d i := cntN_f (f := fun j => L.testBit j && decide (d j = 2)) (an_n q)
theorem ky_le {bN m s t : Nat} (hm : m ≤ 12) : kyN bN m s t ≤ 1000 := by
  unfold kyN
  split <;> omega
theorem Kp_leaf {p : Int32 × Int32} {κ : Nat} (h : Kp (-9) p κ) {m s t bN : Nat} (hm : m ≤ 12) (hs : s ≤ 6) (ht : t ≤ 6) (hb : bN < 7) : ∃ κ', Kp (-9) (if nI s < nI bN ∧ (p.1 = -9 ∨ nI m < p.1 ∨ (nI m = p.1 ∧ p.2 < nI t)) then (nI m, nI t) else p) κ' ∧ κ' ≤ κ ∧ κ' ≤ kyN bN m s t ∧ (κ' = κ ∨ κ' = kyN bN m s t) := by
  by_cases c : s < bN
  · have c' : nI s < nI bN := (nI_ltI (by omega) (by omega)).mpr c
    have ek : kyN bN m s t = 7 * m + 6 - t := if_pos c
    rw [ek]
    rcases h with ⟨e1, e2⟩ | ⟨m0, t0, h1, h2, e1, e2⟩
    · subst e1
      refine ⟨7 * m + 6 - t, ?_, by omega, Nat.le_refl _, Or.inr rfl⟩
      rw [if_pos ⟨c', Or.inl rfl⟩]
      exact Or.inr ⟨m, t, hm, ht, rfl, rfl⟩
    · subst e1
      by_cases q : m < m0 ∨ (m = m0 ∧ t0 < t)
      · refine ⟨7 * m + 6 - t, ?_, by omega, Nat.le_refl _, Or.inr rfl⟩
        have q' : nI m < nI m0 ∨ (nI m = nI m0 ∧ nI t0 < nI t) := q.imp (fun r => (nI_ltI (by omega) (by omega)).mpr r) (fun r => ⟨by rw [r.1], (nI_ltI (by omega) (by omega)).mpr r.2⟩)
        rw [if_pos ⟨c', Or.inr q'⟩]
        exact Or.inr ⟨m, t, hm, ht, rfl, rfl⟩
      · refine ⟨κ, ?_, Nat.le_refl _, by omega, Or.inl rfl⟩
        have q' : ¬ (nI m0 = -9 ∨ nI m < nI m0 ∨ (nI m = nI m0 ∧ nI t0 < nI t)) := by
          rintro (r | r | ⟨r, r2⟩)
          · exact nI_n9 (p := m0) (by omega) r
          · exact q (Or.inl ((nI_ltI (by omega) (by omega)).mp r))
          · exact q (Or.inr ⟨(nI_eqI (by omega) (by omega)).mp r, (nI_ltI (by omega) (by omega)).mp r2⟩)
        rw [if_neg (fun r => q' r.2)]
        exact Or.inr ⟨m0, t0, h1, h2, rfl, e2⟩
  · have ek : kyN bN m s t = 1000 := if_neg c
    have c' : ¬ nI s < nI bN := fun r => c ((nI_ltI (by omega) (by omega)).mp r)
    rw [ek, if_neg (fun r => c' r.1)]
    refine ⟨κ, h, Nat.le_refl _, ?_, Or.inl rfl⟩
    rcases h with ⟨-, e2⟩ | ⟨m0, t0, h1, h2, -, e2⟩
    · omega
    · omega
theorem nI_as (a c x : Nat) : nI a + nI (c + x) - nI c = nI (a + x) := by
  rw [nI_add, show a + (c + x) = (a + x) + c by omega, ← nI_add]
  first | exact Int32.add_sub_cancel _ _ | rw [Int32.sub_eq_add_neg, Int32.add_assoc, Int32.add_right_neg, Int32.add_zero]
def Rs (L bN : Nat) (cr : Nat → Nat) (tb : Nat → Nat → Bool) (P : (Nat → Nat) → Prop) (p' : Int32 × Int32) (κ : Nat) : Prop := ∃ κ', Kp (-9) p' κ' ∧ κ' ≤ κ ∧ (∀ d, okd L cr d → P d → κ' ≤ kvN L bN cr tb d) ∧ (κ' = κ ∨ ∃ d, okd L cr d ∧ P d ∧ κ' = kvN L bN cr tb d)
def agr (L i : Nat) (d0 d : Nat → Nat) : Prop := ∀ j, j < i → L.testBit j = true → d j = d0 j
def stp (i v : Nat) (d0 : Nat → Nat) (j : Nat) : Nat := if j = i then v else d0 j
theorem stp_s {i v : Nat} {d0 : Nat → Nat} : stp i v d0 i = v := if_pos rfl
theorem stp_n {i v j : Nat} {d0 : Nat → Nat} (h : ¬ j = i) : stp i v d0 j = d0 j := if_neg h
theorem mx_s {L : Nat} {cr d0 : Nat → Nat} {i x : Nat} (q : L.testBit i = true) : mxN L cr (stp i (cr i + x) d0) (i + 1) = mxN L cr d0 i + x := by
  simp only [mxN]
  rw [if_pos q, stp_s, mx_c (d' := d0) i (fun j hj _ => stp_n (by omega))]
  omega
theorem sp_s {L : Nat} {tb : Nat → Nat → Bool} {d0 : Nat → Nat} {i v : Nat} (q : L.testBit i = true) {y : Int32} (hy : y = nI (if tb i v = true then 1 else 0)) : nI (spN L tb d0 i) + y = nI (spN L tb (stp i v d0) (i + 1)) := by
  have e : spN L tb (stp i v d0) i = spN L tb d0 i := sp_c i (fun j hj _ => stp_n (by omega))
  rw [← e, hy]
  by_cases c : tb i v = true
  · rw [if_pos c, nI_add]
    exact congrArg nI (cntN_t (f := fun j => L.testBit j && tb j (stp i v d0 j)) (by rw [stp_s, q, c]; rfl)).symm
  · rw [if_neg c, nI_add]
    exact congrArg nI (cntN_f (f := fun j => L.testBit j && tb j (stp i v d0 j)) (by rw [stp_s, q, Bool.true_and]; exact c)).symm
theorem tw_s {L : Nat} {d0 : Nat → Nat} {i v : Nat} (q : L.testBit i = true) : (if v = 2 then nI (twN L d0 i) + 1 else nI (twN L d0 i)) = nI (twN L (stp i v d0) (i + 1)) := by
  have e : twN L (stp i v d0) i = twN L d0 i := tw_c i (fun j hj _ => stp_n (by omega))
  rw [← e]
  by_cases c : v = 2
  · rw [if_pos c, nI_1]
    exact congrArg nI (cntN_t (f := fun j => L.testBit j && decide (stp i v d0 j = 2)) (by rw [stp_s, q, decide_eq_true c]; rfl)).symm
  · rw [if_neg c]
    exact congrArg nI (cntN_f (f := fun j => L.testBit j && decide (stp i v d0 j = 2)) (by rw [stp_s, q, Bool.true_and, decide_eq_true_eq]; exact c)).symm
set_option maxHeartbeats 1000000 in
theorem sk_res {L bN : Nat} {cr : Nat → Nat} {tb : Nat → Nat → Bool} {tk : Nat → Nat → Int32} (htk : ∀ i c, i < 6 → L.testBit i = true → c < 3 → tk i c = nI (if tb i c = true then 1 else 0)) (hcr : ∀ i, i < 6 → L.testBit i = true → cr i ≤ 2) (hb : bN < 7) : ∀ (k i : Nat), i + k = 6 → ∀ (d0 : Nat → Nat) (p : Int32 × Int32) (κ : Nat), okd L cr d0 → Kp (-9) p κ → Rs L bN cr tb (agr L i d0) (skF L cr tk (nI bN) k (nI (mxN L cr d0 i)) (nI (spN L tb d0 i)) (nI (twN L d0 i)) p) κ
  | 0, i, hi, d0, p, κ, h0, hp => by
    obtain rfl : i = 6 := by omega
    obtain ⟨κ', q1, q2, q3, q4⟩ := Kp_leaf hp (m := mxN L cr d0 6) (s := spN L tb d0 6) (t := twN L d0 6) (mx_le h0 6 (by decide)) (cntN_le _ 6) (cntN_le _ 6) hb
    refine ⟨κ', q1, q2, fun d hd ha => ?_, q4.imp id (fun e => ⟨d0, h0, fun _ _ _ => rfl, e⟩)⟩
    rw [kv_c ha]
    exact q3
  | k + 1, i, hi, d0, p, κ, h0, hp => by
    have e5 : 5 - k = i := by omega
    have hi6 : i < 6 := by omega
    show Rs L bN cr tb (agr L i d0) (if L.testBit (5 - k) = true then itr (fun d q => skF L cr tk (nI bN) k (nI (mxN L cr d0 i) + nI (cr (5 - k) + d) - nI (cr (5 - k))) (nI (spN L tb d0 i) + tk (5 - k) (cr (5 - k) + d)) (if cr (5 - k) + d = 2 then nI (twN L d0 i) + 1 else nI (twN L d0 i)) q) p (3 - cr (5 - k)) else skF L cr tk (nI bN) k (nI (mxN L cr d0 i)) (nI (spN L tb d0 i)) (nI (twN L d0 i)) p) κ
    rw [e5]
    by_cases q : L.testBit i = true
    · rw [if_pos q]
      have key : ∀ x, x ≤ 3 - cr i → Rs L bN cr tb (fun d => agr L i d0 d ∧ d i < cr i + x) (itr (fun d q => skF L cr tk (nI bN) k (nI (mxN L cr d0 i) + nI (cr i + d) - nI (cr i)) (nI (spN L tb d0 i) + tk i (cr i + d)) (if cr i + d = 2 then nI (twN L d0 i) + 1 else nI (twN L d0 i)) q) p x) κ := by
        intro x
        induction x with
        | zero =>
          intro _
          exact ⟨κ, hp, Nat.le_refl _, fun d hd ha => absurd ha.2 (by have := (hd i (by omega) q).1; omega), Or.inl rfl⟩
        | succ x ih =>
          intro hx
          have hx3 : cr i + x < 3 := by omega
          obtain ⟨κ1, a1, a2, a3, a4⟩ := ih (by omega)
          have h1 : okd L cr (stp i (cr i + x) d0) := fun j hj r => by
            by_cases c : j = i
            · subst c
              rw [stp_s]
              omega
            · rw [stp_n c]
              exact h0 j hj r
          obtain ⟨κ2, b1, b2, b3, b4⟩ := sk_res htk hcr hb k (i + 1) (by omega) (stp i (cr i + x) d0) _ κ1 h1 a1
          refine ⟨κ2, ?_, by omega, fun d hd ha => ?_, ?_⟩
          · rw [← sp_s (d0 := d0) q (htk i (cr i + x) hi6 q hx3), ← tw_s q, mx_s q, ← nI_as] at b1
            exact b1
          · by_cases c : d i = cr i + x
            · refine b3 d hd (fun j hj r => ?_)
              by_cases c2 : j = i
              · rw [c2, stp_s]
                exact c
              · rw [stp_n c2]
                exact ha.1 j (by omega) r
            · exact Nat.le_trans b2 (a3 d hd ⟨ha.1, by have := ha.2; omega⟩)
          · rcases b4 with e | ⟨d, hd, ha, e⟩
            · rcases a4 with e2 | ⟨d, hd, ha, e2⟩
              · exact Or.inl (e.trans e2)
              · exact Or.inr ⟨d, hd, ⟨ha.1, by have := ha.2; omega⟩, e.trans e2⟩
            · refine Or.inr ⟨d, hd, ⟨fun j hj r => (ha j (by omega) r).trans (stp_n (by omega)), ?_⟩, e⟩
              rw [ha i (by omega) q, stp_s]
              omega
      obtain ⟨κ', c1, c2, c3, c4⟩ := key (3 - cr i) (Nat.le_refl _)
      have hci := hcr i (by omega) q
      refine ⟨κ', c1, c2, fun d hd ha => c3 d hd ⟨ha, by have := (hd i (by omega) q).2; omega⟩, ?_⟩
      rcases c4 with e | ⟨d, hd, ha, e⟩
      · exact Or.inl e
      · exact Or.inr ⟨d, hd, ha.1, e⟩
    · rw [if_neg q]
      obtain ⟨κ', c1, c2, c3, c4⟩ := sk_res htk hcr hb k (i + 1) (by omega) d0 p κ h0 hp
      rw [mx_n q, sp_n q, tw_n q] at c1
      have up : ∀ d, agr L i d0 d → agr L (i + 1) d0 d := fun d ha j hj r => by
        by_cases c : j = i
        · rw [c] at r
          exact absurd r q
        · exact ha j (by omega) r
      refine ⟨κ', c1, c2, fun d hd ha => c3 d hd (up d ha), ?_⟩
      rcases c4 with e | ⟨d, hd, ha, e⟩
      · exact Or.inl e
      · exact Or.inr ⟨d, hd, fun j hj r => ha j (by omega) r, e⟩
