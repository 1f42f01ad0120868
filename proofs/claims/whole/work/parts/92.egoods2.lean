-- sure, ask, sum: equal answers
theorem finF {σ τ ω ρ : St} {x y a : Int32} (h : Rel σ) (ht : (x, τ) = (a, σ)) (hf : fr τ ω) (hm : (y, ρ) = (a, ω)) : x = y ∧ Rel ρ := by
  obtain ⟨rfl, rfl⟩ := Prod.mk.inj ht
  obtain ⟨rfl, rfl⟩ := Prod.mk.inj hm
  exact ⟨rfl, h.fr hf⟩
theorem finFR {σ τ ω ρ : St} {x y a : Int32} (f : Nat) (h : Rel σ) (ht : (x, τ) = (a, tRef σ f)) (hf : fr τ ω) (hm : (y, ρ) = (a, mRef ω f)) : x = y ∧ Rel ρ := by
  obtain ⟨rfl, rfl⟩ := Prod.mk.inj ht
  obtain ⟨rfl, rfl⟩ := Prod.mk.inj hm
  exact ⟨rfl, (h.ref f).fr (fr_mRef hf f)⟩
theorem finFT {σ τ ω ρ : St} {x y a v : Int32} (h : Rel σ) (ht : (x, τ) = (a, uI σ 0 12 v)) (hf : fr τ ω) (hm : (y, ρ) = (a, uI ω 63 2 v)) : x = y ∧ Rel ρ := by
  obtain ⟨rfl, rfl⟩ := Prod.mk.inj ht
  obtain ⟨rfl, rfl⟩ := Prod.mk.inj hm
  exact ⟨rfl, (h.tell v).fr (fr_uI hf _ _ _)⟩
theorem gd1 : ∀ x, x < 100 → ∀ f, f < 10 → (gdF (nI f) (nI x) = -9 ∧ goM (nI f) (nI x) = -1) ∨ (gdF (nI f) (nI x) = nI (x / f) ∧ goM (nI f) (nI x) = nI (x / f)) := by decide +kernel
theorem gd2 : ∀ v, v < 100 → ∀ q, q < 73 → v < q → nI v - nI q < 0 ∧ ¬ nI v - nI q = 0 := by decide +kernel
theorem gd_go {v q f : Nat} (hv : v < 100) (hq : q < 73) (hf : f < 10) : (gdF (nI f) (nI v - nI q) = -9 ∧ goM (nI f) (nI v - nI q) = -1) ∨ ∃ g, g < 100 ∧ gdF (nI f) (nI v - nI q) = nI g ∧ goM (nI f) (nI v - nI q) = nI g := by
  by_cases c : q ≤ v
  · rw [pk_sub c]
    rcases gd1 (v - q) (by omega) f hf with h | h
    · exact Or.inl h
    · exact Or.inr ⟨(v - q) / f, Nat.lt_of_le_of_lt (Nat.div_le_self _ _) (by omega), h⟩
  · obtain ⟨h1, h2⟩ := gd2 v hv q hq (by omega)
    left
    unfold gdF goM
    rw [if_neg h2, if_pos (Or.inl h1), if_pos h1]
    exact ⟨rfl, rfl⟩
section
variable {σ τ : St} {n : Nat} {kd : Nat → Nat} {L D : Nat}
theorem e_sure {ρ ω : St} (h : Rel σ) (b : Br σ τ n kd L D) {v x y : Int32} (ht : (¬ (0 ≤ v ∧ v ≤ 99) ∧ -1 = x ∧ σ = τ) ∨ ((0 ≤ v ∧ v ≤ 99) ∧ σ.1 19 8 = 0 ∧ -4 = x ∧ σ = τ) ∨ ((0 ≤ v ∧ v ≤ 99) ∧ ¬ σ.1 19 8 = 0 ∧ exS (wgd σ (gaN kd n) kd n L) L v ∧ (x, τ) = tSure (wgd σ (gaN kd n) kd n L) L v) ∨ ((0 ≤ v ∧ v ≤ 99) ∧ ¬ σ.1 19 8 = 0 ∧ ¬ exS (wgd σ (gaN kd n) kd n L) L v ∧ -3 = x ∧ τ = tRef (wgd σ (gaN kd n) kd n L) 4)) (hf : fr τ ω) (hm : (y, ρ) = mSure τ ω kd n L v) : x = y ∧ Rel ρ := by
  unfold mSure at hm
  have hW : Rel (wgd σ (gaN kd n) kd n L) := h.frT (wgS_fr n)
  rcases ht with ⟨c, e, e1⟩ | ⟨c, q, e, e1⟩ | ⟨c, q, ex, e⟩ | ⟨c, q, ex, e, e1⟩
  · rw [if_pos c] at hm
    exact finF h (by rw [← e, e1]) hf hm
  · rw [if_neg (fun k => k c), if_pos (b.n0.mp q)] at hm
    exact finF h (by rw [← e, e1]) hf hm
  · rw [if_neg (fun k => k c), if_neg (fun k => q (b.n0.mpr k)), if_neg ((b.ex v).mp ex)] at hm
    unfold tSure at e
    rw [b.su] at e
    exact finFT hW e hf hm
  · rw [if_neg (fun k => k c), if_neg (fun k => q (b.n0.mpr k)), if_pos (Classical.not_not.mp (fun k => ex ((b.ex v).mpr k)))] at hm
    exact finFR 4 hW (by rw [← e, ← e1]) hf hm
theorem Br.gl (b : Br σ τ n kd L D) (v : Int32) (i : Nat) : ∀ m, m ≤ 2 ^ n → (itr (gpF (wgd σ (gaN kd n) kd n L) L v i) (0, 0) m).1 = lfC (fiB τ kd n L v) m i ∧ (itr (gpF (wgd σ (gaN kd n) kd n L) L v i) (0, 0) m).1 + (itr (gpF (wgd σ (gaN kd n) kd n L) L v i) (0, 0) m).2 = (lfS (fiB τ kd n L v) L m).1
  | 0, _ => ⟨rfl, rfl⟩
  | m + 1, hm => by
    obtain ⟨h1, h2⟩ := b.gl v i m (by omega)
    have e : itr (gpF (wgd σ (gaN kd n) kd n L) L v i) (0, 0) (m + 1) = gpF (wgd σ (gaN kd n) kd n L) L v i m (itr (gpF (wgd σ (gaN kd n) kd n L) L v i) (0, 0) m) := rfl
    rw [e]
    generalize itr (gpF (wgd σ (gaN kd n) kd n L) L v i) (0, 0) m = a at *
    unfold gpF
    by_cases c : fiB τ kd n L v m = true
    · rw [if_pos ((b.sc (by omega)).mpr c), lfC_t c, lfS_t c]
      by_cases t : m.testBit i = true
      · rw [if_pos t, if_pos t]
        refine ⟨?_, ?_⟩
        · show a.1 + 1 = _
          rw [h1]
        · show a.1 + 1 + a.2 = _ + 1
          omega
      · rw [if_neg t, if_neg t]
        refine ⟨h1, ?_⟩
        show a.1 + (a.2 + 1) = _ + 1
        omega
    · rw [if_neg (fun r => c ((b.sc (by omega)).mp r)), lfC_f c, lfS_f c]
      exact ⟨h1, h2⟩
theorem Br.gp (b : Br σ τ n kd L D) (v : Int32) (i : Nat) : gpN (wgd σ (gaN kd n) kd n L) L v i = ptM (lfR τ kd n L v).1 (lfC (fiB τ kd n L v) (2 ^ n) i) := by
  obtain ⟨h1, h2⟩ := b.gl v i (2 ^ n) (Nat.le_refl _)
  unfold gpN
  rw [b.cut64 (fun s hs hc a => by unfold gpF; rw [if_neg (fun r => hc r.1)])]
  generalize itr (gpF (wgd σ (gaN kd n) kd n L) L v i) (0, 0) (2 ^ n) = a at *
  unfold lfR ptM
  rw [← h1, ← h2, Nat.max_def]
  split <;> split <;> omega
theorem Br.ak (b : Br σ τ n kd L D) (v : Int32) : (itr (askF (wgd σ (gaN kd n) kd n L) L v) (none, 65) n).1 = (akS τ kd n L v n).1 ∧ (((itr (askF (wgd σ (gaN kd n) kd n L) L v) (none, 65) n).1 = none ∧ (itr (askF (wgd σ (gaN kd n) kd n L) L v) (none, 65) n).2 = 65 ∧ (akS τ kd n L v n).2 = 1000000) ∨ (itr (askF (wgd σ (gaN kd n) kd n L) L v) (none, 65) n).2 = (akS τ kd n L v n).2) := by
  refine itr_R (a := (none, 65)) (b := (none, 1000000)) (fun (a z : Option Nat × Nat) => a.1 = z.1 ∧ ((a.1 = none ∧ a.2 = 65 ∧ z.2 = 1000000) ∨ a.2 = z.2)) ⟨rfl, Or.inl ⟨rfl, rfl, rfl⟩⟩ n (fun i hi a z hr => ?_)
  obtain ⟨r1, r2⟩ := hr
  have hg := gpN_b (σ := wgd σ (gaN kd n) kd n L) (L := L) (v := v) (i := i)
  unfold askF akF
  rw [← b.gp]
  have ec : gpN (wgd σ (gaN kd n) kd n L) L v i < a.2 ↔ gpN (wgd σ (gaN kd n) kd n L) L v i < z.2 := by
    rcases r2 with ⟨-, r3, r4⟩ | r3 <;> omega
  by_cases c : L.testBit i = true ∧ gpN (wgd σ (gaN kd n) kd n L) L v i < a.2
  · rw [if_pos c, if_pos ⟨c.1, ec.mp c.2⟩]
    exact ⟨rfl, Or.inr rfl⟩
  · rw [if_neg c, if_neg (fun r => c ⟨r.1, ec.mpr r.2⟩)]
    exact ⟨r1, r2⟩
theorem e_ask {ρ ω : St} (h : Rel σ) (b : Br σ τ n kd L D) {v x y : Int32} (ht : (¬ (0 ≤ v ∧ v ≤ 99) ∧ -1 = x ∧ σ = τ) ∨ ((0 ≤ v ∧ v ≤ 99) ∧ σ.1 19 8 = 0 ∧ -4 = x ∧ σ = τ) ∨ ((0 ≤ v ∧ v ≤ 99) ∧ ¬ σ.1 19 8 = 0 ∧ exS (wgd σ (gaN kd n) kd n L) L v ∧ (x, τ) = tAsk (wgd σ (gaN kd n) kd n L) n L v) ∨ ((0 ≤ v ∧ v ≤ 99) ∧ ¬ σ.1 19 8 = 0 ∧ ¬ exS (wgd σ (gaN kd n) kd n L) L v ∧ -3 = x ∧ τ = tRef (wgd σ (gaN kd n) kd n L) 4)) (hf : fr τ ω) (hm : (y, ρ) = mAsk τ ω kd n L v) : x = y ∧ Rel ρ := by
  unfold mAsk at hm
  have hW : Rel (wgd σ (gaN kd n) kd n L) := h.frT (wgS_fr n)
  rcases ht with ⟨c, e, e1⟩ | ⟨c, q, e, e1⟩ | ⟨c, q, ex, e⟩ | ⟨c, q, ex, e, e1⟩
  · rw [if_pos c] at hm
    exact finF h (by rw [← e, e1]) hf hm
  · rw [if_neg (fun k => k c), if_pos (b.n0.mp q)] at hm
    exact finF h (by rw [← e, e1]) hf hm
  · rw [if_neg (fun k => k c), if_neg (fun k => q (b.n0.mpr k)), if_neg ((b.ex v).mp ex)] at hm
    unfold tAsk at e
    obtain ⟨a1, a2⟩ := b.ak v
    rw [a1] at e a2
    by_cases k : oI (akS τ kd n L v n).1 = -9
    · rw [if_pos k] at e hm
      exact finF hW e hf hm
    · rw [if_neg k] at e hm
      rw [a2.resolve_left (fun r => k (by rw [r.1]; rfl))] at e
      exact finFT hW e hf hm
  · rw [if_neg (fun k => k c), if_neg (fun k => q (b.n0.mpr k)), if_pos (Classical.not_not.mp (fun k => ex ((b.ex v).mpr k)))] at hm
    exact finFR 4 hW (by rw [← e, ← e1]) hf hm
theorem Br.sm (b : Br σ τ n kd L D) {v : Int32} (hv : 0 ≤ v ∧ v ≤ 99) : ((itr (sumF (wgd σ (gaN kd n) kd n L) L v) (-9, 0) 64).1 = -9 ∧ (smS τ kd n L v (2 ^ n)).1 = 1000000) ∨ (itr (sumF (wgd σ (gaN kd n) kd n L) L v) (-9, 0) 64 = smS τ kd n L v (2 ^ n) ∧ ∃ g, g < 200 ∧ (smS τ kd n L v (2 ^ n)).1 = nI g) := by
  obtain ⟨V, hV, -, rfl⟩ := nat_of (M := 99) hv.1 hv.2 rfl (by decide)
  obtain ⟨f, hf, ef⟩ := b.hr.2.1
  have hn := b.n6
  rw [b.cut64 (fun s hs hc a => by unfold sumF; rw [if_neg (fun r => hc r.1)])]
  have e := itr_R (f := sumF (wgd σ (gaN kd n) kd n L) L (nI V)) (g := smF τ kd n L (nI V)) (a := (-9, 0)) (b := (1000000, 0)) (fun (a z : Int32 × Int32) => (a.1 = -9 ∧ z.1 = 1000000) ∨ (a = z ∧ ∃ g, g < 200 ∧ z.1 = nI g)) (Or.inl ⟨rfl, rfl⟩) (2 ^ n) (fun i hi a z hr => by
    have hi64 : i < 64 := Nat.lt_of_lt_of_le hi (p2_64 b.n6)
    have hp := pc_le i hi64
    unfold sumF smF
    rw [b.wp hi, wgd_k _ _ _ _ _ (by decide) (by decide), b.h.2.1]
    by_cases c : i &&& (63 ^^^ L) = 0
    · have eg : gsM τ kd n L (nI V) i = goM (τ.1 70 1) (nI V - sumI (hsM τ kd i) n) := by
        unfold gsM
        rw [if_pos c]
      rw [eg]
      obtain ⟨q, hq, eq⟩ := b.hs i
      rw [eq, ← b.h.2.1, ef]
      rcases gd_go (v := V) (q := q) (f := f) (by omega) (by omega) hf with ⟨g1, g2⟩ | ⟨g, hg, g1, g2⟩
      · rw [g1, g2, if_neg (fun r => r.2.1 rfl), if_neg (fun r => absurd r.1 (by decide))]
        exact hr
      · rw [g1, g2, nI_add]
        have h9 : ¬ nI g = -9 := oI_s (s := g) (by omega)
        have hg0 : 0 ≤ nI g := nI_nn (by omega)
        rcases hr with ⟨r1, r2⟩ | ⟨r1, G, hG, r2⟩
        · have hlt : nI (g + pcN i) < z.1 := by
            rw [r2]
            exact (nI_ltI (b := 1000000) (by omega) (by omega)).mpr (by omega)
          rw [if_pos ⟨c, h9, Or.inl r1⟩, if_pos ⟨hg0, Or.inl hlt⟩]
          exact Or.inr ⟨rfl, g + pcN i, by omega, rfl⟩
        · subst r1
          have hG9 : ¬ a.1 = -9 := by
            rw [r2]
            exact oI_s (s := G) (by omega)
          by_cases k : nI (g + pcN i) < a.1 ∨ (nI (g + pcN i) = a.1 ∧ a.2 < nI (pcN i))
          · rw [if_pos ⟨c, h9, Or.inr k⟩, if_pos ⟨hg0, k⟩]
            exact Or.inr ⟨rfl, g + pcN i, by omega, rfl⟩
          · rw [if_neg (fun r => k (r.2.2.resolve_left hG9)), if_neg (fun r => k r.2)]
            exact Or.inr ⟨rfl, G, hG, r2⟩
    · have eg : gsM τ kd n L (nI V) i = -1 := by
        unfold gsM
        rw [if_neg c]
      rw [eg, if_neg (fun r => c r.1), if_neg (fun r => absurd r.1 (by decide))]
      exact hr)
  exact e
theorem e_sum {ρ : St} (h : Rel σ) (b : Br σ τ n kd L D) {v x y : Int32} (ht : (x, τ) = tSum σ (gaN kd n) kd n L v) (hm : (y, ρ) = mSum τ kd n L v) : x = y ∧ Rel ρ := by
  unfold tSum at ht
  unfold mSum at hm
  have hW : Rel (wgd σ (gaN kd n) kd n L) := h.frT (wgS_fr n)
  by_cases c : ¬ (0 ≤ v ∧ v ≤ 99)
  · rw [if_pos c] at ht hm
    exact fin0 h ht hm
  rw [if_neg c] at ht hm
  by_cases q : n = 0
  · rw [if_pos (b.n0.mpr q)] at ht
    rw [if_pos q] at hm
    exact fin0 h ht hm
  rw [if_neg (fun r => q (b.n0.mp r))] at ht
  rw [if_neg q] at hm
  rcases b.sm (Classical.not_not.mp c) with ⟨r1, r2⟩ | ⟨r1, g, hg, r2⟩
  · rw [r1, if_pos rfl] at ht
    rw [if_pos r2] at hm
    exact fin0 hW ht hm
  · have h9 : ¬ (smS τ kd n L v (2 ^ n)).1 = -9 := by
      rw [r2]
      exact oI_s (s := g) (by omega)
    have h10 : ¬ (smS τ kd n L v (2 ^ n)).1 = 1000000 := by
      rw [r2]
      exact fun k => absurd ((nI_eqI (b := 1000000) (by omega) (by omega)).mp k) (by omega)
    rw [r1, if_neg h9] at ht
    rw [if_neg h10] at hm
    exact finT hW ht hm
end
