-- sets: safe, heads
theorem itr_R {α β : Type} {f : Nat → α → α} {g : Nat → β → β} (R : α → β → Prop) {a : α} {b : β} (h0 : R a b) : ∀ m, (∀ i, i < m → ∀ x y, R x y → R (f i x) (g i y)) → R (itr f a m) (itr g b m)
  | 0, _ => h0
  | m + 1, h => h m (Nat.lt_succ_self m) _ _ (itr_R R h0 m (fun i hi => h i (by omega)))
theorem itr_cut {α : Type} {f : Nat → α → α} {a : α} {m : Nat} : ∀ d, (∀ i, m ≤ i → i < m + d → ∀ x, f i x = x) → itr f a (m + d) = itr f a m
  | 0, _ => rfl
  | d + 1, h => by
    show f (m + d) (itr f a (m + d)) = _
    rw [h (m + d) (by omega) (by omega), itr_cut d (fun i h1 h2 => h i h1 (by omega))]
theorem itr_ne {f : Nat → Option Nat → Option Nat} {s0 : Nat} (h1 : ∀ o, f s0 o ≠ none) (h2 : ∀ i o, o ≠ none → f i o ≠ none) : ∀ m, s0 < m → itr f none m ≠ none
  | 0, h => absurd h (Nat.not_lt_zero _)
  | m + 1, h => by
    by_cases e : s0 = m
    · subst e
      exact h1 _
    · exact h2 _ _ (itr_ne h1 h2 m (by omega))
theorem sub_le : ∀ s, s < 64 → ∀ z, z < 64 → s &&& (63 ^^^ z) = 0 → s ≤ z := by decide +kernel
theorem sub_pc : ∀ s, s < 64 → ∀ z, z < 64 → s &&& (63 ^^^ z) = 0 → pcN s ≤ pcN z := by decide +kernel
theorem hd_ex : ∀ z, z < 64 → ∀ m, m < 7 → m ≤ pcN z → ∃ s, s < 64 ∧ s &&& (63 ^^^ z) = 0 ∧ pcN s = m := by decide +kernel
theorem wgS_33 {σ : St} {lo pr : Nat → Int32} {j : Nat} : ∀ m, j < m → (wgS σ lo pr m).1 33 j = pr j
  | 0, h => absurd h (Nat.not_lt_zero _)
  | m + 1, h => by
    by_cases e : j = m
    · subst e
      exact uI_s _ _ _ _
    · rw [wgS, uI_n _ _ _ _ e, uI_o _ _ _ _ (by decide)]
      exact wgS_33 m (by omega)
theorem wgS_32 {σ : St} {lo pr : Nat → Int32} {j : Nat} : ∀ m, j < m → (wgS σ lo pr m).1 32 j = lo j
  | 0, h => absurd h (Nat.not_lt_zero _)
  | m + 1, h => by
    rw [wgS, uI_o _ _ _ _ (by decide)]
    by_cases e : j = m
    · subst e
      exact uI_s _ _ _ _
    · rw [uI_n _ _ _ _ e]
      exact wgS_32 m (by omega)
theorem wgS_fr {σ : St} {lo pr : Nat → Int32} : ∀ m, frT σ (wgS σ lo pr m)
  | 0 => frT.rf
  | m + 1 => ((wgS_fr m).u rfl).u rfl
theorem tot_s {f : Nat → Int32} {s : Nat} : ∀ n, totF f s n = sumI (fun i => if s.testBit i = true then f i else 0) n
  | 0 => rfl
  | n + 1 => by
    simp only [totF, sumI]
    rw [tot_s n]
    by_cases q : s.testBit n = true
    · rw [if_pos q, if_pos q]
    · rw [if_neg q, if_neg q, Int32.add_zero]
theorem tot_u {f : Nat → Int32} {s n : Nat} (h : s < 2 ^ n) : ∀ d, totF f s (n + d) = totF f s n
  | 0 => rfl
  | d + 1 => by
    show (if s.testBit (n + d) = true then totF f s (n + d) + f (n + d) else totF f s (n + d)) = _
    rw [Nat.testBit_lt_two_pow (Nat.lt_of_lt_of_le h (Nat.pow_le_pow_right (by decide) (by omega)))]
    exact tot_u h d
theorem tot_n {f g : Nat → Int32} {s n : Nat} (h : s < 2 ^ n) (hn : n ≤ 6) (e : ∀ i, i < n → f i = g i) : totF f s 6 = sumI (fun i => if s.testBit i = true then g i else 0) n := by
  have q := tot_u (f := f) h (6 - n)
  rw [show n + (6 - n) = 6 by omega] at q
  rw [q, tot_s]
  exact sumI_c n (fun i hi => by rw [e i hi])
theorem sumI_b {f : Nat → Int32} {B : Nat} : ∀ n, (∀ i, i < n → ∃ p, p ≤ B ∧ f i = nI p) → ∃ q, q ≤ n * B ∧ sumI f n = nI q
  | 0, _ => ⟨0, Nat.zero_le _, rfl⟩
  | n + 1, h => by
    obtain ⟨q, hq, eq⟩ := sumI_b n (fun i hi => h i (by omega))
    obtain ⟨p, hp, ep⟩ := h n (by omega)
    refine ⟨q + p, ?_, ?_⟩
    · rw [Nat.succ_mul]
      omega
    · simp only [sumI]
      rw [eq, ep]
      exact nI_add _ _
theorem pr_bd : ∀ k, k < 6 → ∀ b, b < 10 → ∀ c, c < 3 → ∃ p, p < 12 ∧ priceS k (nI b) (nI c) = nI p := by decide +kernel
def sfV (o : Option Nat) : Nat := match o with
  | none => 7
  | some s => pcN s
def bdO (o : Option Nat) : Prop := o.getD 0 < 64
section
variable {σ τ : St} {n : Nat} {kd : Nat → Nat} {L D : Nat}
theorem Br.trx (b : Br σ τ n kd L D) (x : Nat) : trX τ kd n (nwC τ) x ↔ trT σ (gaN kd n) kd n x := by
  unfold trX trT
  rw [b.sp, b.h.2.2.2]
theorem Br.cut (b : Br σ τ n kd L D) {s : Nat} (h : s < 64) (h1 : 2 ^ n ≤ s) : ¬ s &&& (63 ^^^ L) = 0 := fun q => by
  have h2 := sub_le s h L b.L3 q
  have h3 := b.L2
  omega
theorem Br.cut64 (b : Br σ τ n kd L D) {α : Type} {f : Nat → α → α} {a : α} (h : ∀ s, s < 64 → ¬ s &&& (63 ^^^ L) = 0 → ∀ x, f s x = x) : itr f a 64 = itr f a (2 ^ n) := by
  have h1 := p2_64 b.n6
  have e := itr_cut (f := f) (a := a) (m := 2 ^ n) (64 - 2 ^ n) (fun i h2 h3 x => h i (by omega) (b.cut (by omega) h2) x)
  rwa [show 2 ^ n + (64 - 2 ^ n) = 64 by omega] at e
theorem e_safe {ρ ω : St} (h : Rel σ) (b : Br σ τ n kd L D) {x y : Int32} (ht : (x, τ) = tSafe σ (gaN kd n) kd n L) (hf : fr τ ω) (hm : (y, ρ) = mSafe τ ω kd n L) : x = y ∧ Rel ρ := by
  unfold tSafe at ht
  unfold mSafe at hm
  by_cases q : n = 0
  · rw [if_pos (b.n0.mpr q)] at ht
    rw [if_pos q] at hm
    obtain ⟨rfl, e1⟩ := Prod.mk.inj ht
    obtain ⟨rfl, e2⟩ := Prod.mk.inj hm
    rw [e2]
    rw [e1] at hf
    exact ⟨rfl, h.fr hf⟩
  · rw [if_neg (fun r => q (b.n0.mp r))] at ht
    rw [if_neg q] at hm
    have hne : ¬ oI (itr (sfM τ kd n L) none (2 ^ n)) = -9 := safM_ne b.n6 b.L2 (by
      obtain ⟨c, hc, ec, h0⟩ := b.hr.2.2.2
      rw [← b.h.2.2.2, ec, ← nI_0]
      exact (nI_ltI (by omega) (by omega)).mpr (h0 (by omega)))
    have hR : (itr (safeF σ (gaN kd n) kd n L) (7, none) (2 ^ n)).2 = itr (sfM τ kd n L) none (2 ^ n) ∧ (itr (safeF σ (gaN kd n) kd n L) (7, none) (2 ^ n)).1 = sfV (itr (sfM τ kd n L) none (2 ^ n)) ∧ bdO (itr (sfM τ kd n L) none (2 ^ n)) := by
      refine itr_R (a := (7, none)) (b := none) (fun (a : Nat × Option Nat) (o : Option Nat) => a.2 = o ∧ a.1 = sfV o ∧ bdO o) ⟨rfl, rfl, (by decide : (0 : Nat) < 64)⟩ (2 ^ n) (fun i hi a o hr => ?_)
      obtain ⟨r1, r2, r3⟩ := hr
      have hi64 : i < 64 := Nat.lt_of_lt_of_le hi (p2_64 b.n6)
      have ec : (oI o = -9 ∨ pcN i < pcN (o.getD 0)) ↔ pcN i < a.1 := by
        rw [r2]
        cases o with
        | none => exact ⟨fun _ => Nat.lt_succ_of_le (pc_le i hi64), fun _ => Or.inl rfl⟩
        | some s =>
          have hs : s < 64 := r3
          exact ⟨fun r => r.resolve_left (oI_s (by omega)), fun r => Or.inr r⟩
      unfold safeF sfM
      by_cases c : i &&& (63 ^^^ L) = 0 ∧ pcN i < a.1 ∧ ¬ trT σ (gaN kd n) kd n (L &&& (63 ^^^ i))
      · rw [if_pos c, if_pos ⟨ec.mpr c.2.1, c.1, fun r => c.2.2 ((b.trx _).mp r)⟩]
        exact ⟨rfl, rfl, hi64⟩
      · rw [if_neg c, if_neg (fun r => c ⟨r.2.1, ec.mp r.1, fun r2 => r.2.2 ((b.trx _).mpr r2)⟩)]
        exact ⟨r1, r2, r3⟩
    rw [b.cut64 (fun s hs hc a => by unfold safeF; rw [if_neg (fun r => hc r.1)]), hR.1, hR.2.1] at ht
    unfold safM at hm
    obtain ⟨rfl, e1⟩ := Prod.mk.inj ht
    obtain ⟨rfl, e2⟩ := Prod.mk.inj hm
    cases eo : itr (sfM τ kd n L) none (2 ^ n) with
    | none =>
      rw [eo] at hne
      exact absurd rfl hne
    | some s =>
      rw [eo] at e1 e2
      rw [e2]
      refine ⟨rfl, ?_⟩
      have e3 : τ = uI σ 0 12 (nI s) := e1
      rw [e3] at hf
      exact (h.tell (nI s)).fr (fr_uI hf 63 2 _)
def hdV (f : Nat → Int32) (o : Option Nat) : Int32 := match o with
  | none => -1
  | some s => f s
theorem Br.wp (b : Br σ τ n kd L D) {s : Nat} (h : s < 2 ^ n) : totF ((wgd σ (gaN kd n) kd n L).1 33) s 6 = sumI (hsM τ kd s) n := by
  rw [tot_n (g := fun i => priceM (kd i) (τ.1 70 0) (τ.1 76 (5 + i))) h b.n6 (fun i hi => by
    unfold wgd
    rw [wgS_33 n hi]
    exact (b.pr hi).symm)]
  rfl
theorem Br.hs (b : Br σ τ n kd L D) (s : Nat) : ∃ q, q ≤ n * 12 ∧ sumI (hsM τ kd s) n = nI q := sumI_b n (fun i hi => by
  unfold hsM
  by_cases c : s.testBit i = true
  · rw [if_pos c, b.pr hi]
    obtain ⟨x, hx, ex⟩ := b.hr.1
    obtain ⟨z, hz, ez⟩ := (b.r hi).2.2
    obtain ⟨p, hp, ep⟩ := pr_bd (kd i) (b.bk.2.2.2.2.2 i hi) x hx z hz
    rw [ex, ez]
    exact ⟨p, by omega, ep⟩
  · rw [if_neg c]
    exact ⟨0, by omega, rfl⟩)
theorem e_heads {ρ : St} (h : Rel σ) (b : Br σ τ n kd L D) {v x y : Int32} (ht : (x, τ) = tHeads σ (gaN kd n) kd n L v) (hm : (y, ρ) = mHeads τ kd n L v) : x = y ∧ Rel ρ := by
  unfold tHeads at ht
  unfold mHeads at hm
  have hn := b.n6
  by_cases c : ¬ (0 ≤ v ∧ v ≤ 6)
  · rw [if_pos (out_iff.mp c)] at ht
    rw [if_pos c] at hm
    obtain ⟨rfl, e1⟩ := Prod.mk.inj ht
    obtain ⟨rfl, e2⟩ := Prod.mk.inj hm
    rw [e2, e1]
    exact ⟨rfl, h⟩
  rw [if_neg (mt out_iff.mpr c)] at ht
  rw [if_neg c] at hm
  by_cases q : n = 0
  · rw [if_pos (b.n0.mpr q)] at ht
    rw [if_pos q] at hm
    obtain ⟨rfl, e1⟩ := Prod.mk.inj ht
    obtain ⟨rfl, e2⟩ := Prod.mk.inj hm
    rw [e2, e1]
    exact ⟨rfl, h⟩
  rw [if_neg (fun r => q (b.n0.mp r))] at ht
  rw [if_neg q] at hm
  obtain ⟨m, hm6, em, -⟩ := nat_of (M := 6) (Classical.not_not.mp c).1 (Classical.not_not.mp c).2 rfl (by decide)
  rw [em] at ht hm
  by_cases c2 : pcN L < m
  · rw [if_pos c2] at ht
    have en : itr (hdM τ kd n m L) none (2 ^ n) = none := by
      have e := itr_R (f := fun _ (x : Unit) => x) (g := hdM τ kd n m L) (a := ()) (b := none) (fun _ o => o = none) rfl (2 ^ n) (fun i hi a o hr => by
        have hi64 : i < 64 := Nat.lt_of_lt_of_le hi (p2_64 b.n6)
        unfold hdM
        rw [if_neg (fun r => by
          have h1 := sub_pc i hi64 L b.L3 r.2.1
          have h2 := r.1
          omega)]
        exact hr)
      exact e
    rw [en, if_pos (show oI none = -9 from rfl)] at hm
    obtain ⟨rfl, e1⟩ := Prod.mk.inj ht
    obtain ⟨rfl, e2⟩ := Prod.mk.inj hm
    rw [e2, e1]
    exact ⟨rfl, h⟩
  rw [if_neg c2] at ht
  obtain ⟨s0, hs0, hs1, hs2⟩ := hd_ex L b.L3 m (by omega) (by omega)
  have hs3 : s0 < 2 ^ n := Nat.lt_of_le_of_lt (sub_le s0 hs0 L b.L3 hs1) b.L2
  have hne : itr (hdM τ kd n m L) none (2 ^ n) ≠ none := by
    refine itr_ne (s0 := s0) (fun o => ?_) (fun i o ho => ?_) _ hs3
    · unfold hdM
      cases o with
      | none =>
        rw [if_pos ⟨hs2, hs1, Or.inl rfl⟩]
        simp
      | some s =>
        split <;> simp
    · unfold hdM
      split
      · simp
      · exact ho
  have hR : (itr (headF (wgd σ (gaN kd n) kd n L) m L) (-1, none) (2 ^ n)).2 = itr (hdM τ kd n m L) none (2 ^ n) ∧ (itr (headF (wgd σ (gaN kd n) kd n L) m L) (-1, none) (2 ^ n)).1 = hdV (fun s => sumI (hsM τ kd s) n) (itr (hdM τ kd n m L) none (2 ^ n)) ∧ bdO (itr (hdM τ kd n m L) none (2 ^ n)) := by
    refine itr_R (a := (-1, none)) (b := none) (fun (a : Int32 × Option Nat) (o : Option Nat) => a.2 = o ∧ a.1 = hdV (fun s => sumI (hsM τ kd s) n) o ∧ bdO o) ⟨rfl, rfl, (by decide : (0 : Nat) < 64)⟩ (2 ^ n) (fun i hi a o hr => ?_)
    obtain ⟨r1, r2, r3⟩ := hr
    have hi64 : i < 64 := Nat.lt_of_lt_of_le hi (p2_64 b.n6)
    have ec : (oI o = -9 ∨ sumI (hsM τ kd (o.getD 0)) n < sumI (hsM τ kd i) n) ↔ a.1 < sumI (hsM τ kd i) n := by
      rw [r2]
      cases o with
      | none =>
        refine ⟨fun _ => ?_, fun _ => Or.inl rfl⟩
        obtain ⟨w, hw, ew⟩ := b.hs i
        show (-1 : Int32) < _
        rw [ew]
        have h1 : (0 : Int32) ≤ nI w := nI_nn (by omega)
        have e0 : (0 : Int32).toInt = 0 := rfl
        have e1 : (-1 : Int32).toInt = -1 := rfl
        simp only [Int32.lt_iff_toInt_lt, Int32.le_iff_toInt_le] at *
        omega
      | some s =>
        have hs : s < 64 := r3
        exact ⟨fun r => r.resolve_left (oI_s (by omega)), fun r => Or.inr r⟩
    unfold headF hdM
    rw [b.wp hi]
    by_cases c : i &&& (63 ^^^ L) = 0 ∧ pcN i = m ∧ a.1 < sumI (hsM τ kd i) n
    · rw [if_pos c, if_pos ⟨c.2.1, c.1, ec.mpr c.2.2⟩]
      exact ⟨rfl, rfl, hi64⟩
    · rw [if_neg c, if_neg (fun r => c ⟨r.2.1, r.1, ec.mp r.2.2⟩)]
      exact ⟨r1, r2, r3⟩
  rw [b.cut64 (fun s hs hc a => by unfold headF; rw [if_neg (fun r => hc r.1)]), hR.1, hR.2.1] at ht
  cases eo : itr (hdM τ kd n m L) none (2 ^ n) with
  | none => exact absurd eo hne
  | some s =>
    have hb := hR.2.2
    rw [eo] at ht hm hb
    have hs : s < 64 := hb
    rw [if_neg (oI_s (by omega))] at hm
    obtain ⟨rfl, e1⟩ := Prod.mk.inj ht
    obtain ⟨rfl, e2⟩ := Prod.mk.inj hm
    refine ⟨rfl, ?_⟩
    have e3 : τ = uI (wgd σ (gaN kd n) kd n L) 0 12 (nI s) := e1
    have e4 : ρ = uI τ 63 2 (nI s) := e2
    rw [e4, e3]
    exact (h.frT (wgS_fr n)).tell (nI s)
end
