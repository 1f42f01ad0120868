-- the model: plans
def pdg (N code j : Nat) : Nat := code / N ^ j % N
def pwE (N code j : Nat) : Int32 := if pdg N code j = 0 then -9 else nI (pdg N code j - 1)
def usN (N code : Nat) : Nat → Nat
  | 0 => 0
  | j + 1 => if pdg N code j = 0 then usN N code j else usN N code j ||| 2 ^ (pdg N code j - 1)
def gdB (N a code : Nat) : Nat → Bool
  | 0 => true
  | j + 1 => gdB N a code j && (decide (pdg N code j = 0) || (a.testBit (pdg N code j - 1) && !(usN N code j).testBit (pdg N code j - 1)))
def plN (N W code k : Nat) : Int32 := pwE N code (W - 1 - k)
theorem usN_64 {n code : Nat} (hn : n ≤ 6) : ∀ j, usN (n + 1) code j < 64
  | 0 => (by decide : (0 : Nat) < 64)
  | j + 1 => by
    have ih := usN_64 (n := n) (code := code) hn j
    simp only [usN]
    split
    · exact ih
    · rename_i h
      have h1 : pdg (n + 1) code j < n + 1 := Nat.mod_lt _ (by omega)
      have h2 : 2 ^ (pdg (n + 1) code j - 1) < 2 ^ 6 := Nat.pow_lt_pow_right (by decide) (by omega)
      exact Nat.or_lt_two_pow (n := 6) ih h2
theorem us_0 {N code j : Nat} (h : pdg N code j = 0) : usN N code (j + 1) = usN N code j := by simp [usN, h]
theorem us_w {N code j w : Nat} (h : pdg N code j = w + 1) : usN N code (j + 1) = usN N code j ||| 2 ^ w := by simp [usN, h]
theorem gd_0 {N a code j : Nat} (h : gdB N a code j = true) (e : pdg N code j = 0) : gdB N a code (j + 1) = true := by simp [gdB, h, e]
theorem gd_w {N a code j w : Nat} (h : gdB N a code j = true) (e : pdg N code j = w + 1) (h1 : a.testBit w = true) (h2 : ¬ (usN N code j).testBit w = true) : gdB N a code (j + 1) = true := by simp [gdB, h, e, h1, h2]
theorem gd_f {N a code j : Nat} (h : ¬ gdB N a code j = true) : ¬ gdB N a code (j + 1) = true := by simp [gdB, h]
theorem gd_f1 {N a code j w : Nat} (e : pdg N code j = w + 1) (h1 : ¬ a.testBit w = true) : ¬ gdB N a code (j + 1) = true := by simp [gdB, e, h1]
theorem gd_f2 {N a code j w : Nat} (e : pdg N code j = w + 1) (h2 : (usN N code j).testBit w = true) : ¬ gdB N a code (j + 1) = true := by simp [gdB, e, h2]
theorem pdg_lt {n code j : Nat} : pdg (n + 1) code j < n + 1 := Nat.mod_lt _ (by omega)
theorem pw_0 {N code j : Nat} (h : pdg N code j = 0) : pwE N code j = -9 := if_pos h
theorem pw_w {N code j w : Nat} (h : pdg N code j = w + 1) : pwE N code j = nI w := by simp [pwE, h]
theorem dgN_s {N code j : Nat} : code / N ^ j / N = code / N ^ (j + 1) := by rw [Nat.div_div_eq_div_mul, Nat.pow_succ]
def kI (m : Nat) : Int32 := nI m - 1
theorem idec (q : Nat) : nI q + (-1) = kI q := (Int32.sub_eq_add_neg (nI q) 1).symm
theorem kI_s (q : Nat) : kI (q + 1) = nI q := nI_pred q
theorem kneg {m : Nat} (h : m < 1000) : kI m < 0 ↔ m = 0 := by
  rcases m with _ | m
  · exact ⟨fun _ => rfl, fun _ => by decide⟩
  · rw [kI_s]
    exact ⟨fun q => absurd (nI_nn (n := m) (by omega)) (lt_le_i q), fun q => by cases q⟩
def pkOk (N W code j : Nat) (τ : St) : Prop := ∀ i, i < j → τ.1 83 (W - 1 - i) = pwE N code i
theorem pk_s {N W code j q : Nat} {τ : St} (h : pkOk N W code j τ) (hq : j + (q + 1) = W) {x : Int32} (hx : x = pwE N code j) : pkOk N W code (j + 1) (uI τ 83 q x) := fun i hi => by
  by_cases e : i = j
  · subst e
    have e2 : W - 1 - i = q := by omega
    rw [e2, uI_s, hx]
  · rw [uI_n _ _ _ _ (by omega)]
    exact h i (by omega)
theorem pk_pl {N W code : Nat} {τ : St} (h : pkOk N W code W τ) : ∀ k, k < W → τ.1 83 k = plN N W code k := fun k hk => by
  have := h (W - 1 - k) (by omega)
  have e : W - 1 - (W - 1 - k) = k := by omega
  rw [e] at this
  exact this
theorem plN_or {n W code k : Nat} : plN (n + 1) W code k = -9 ∨ ∃ w, w < n ∧ plN (n + 1) W code k = nI w := by
  unfold plN
  by_cases h : pdg (n + 1) code (W - 1 - k) = 0
  · exact Or.inl (pw_0 h)
  · have h1 : pdg (n + 1) code (W - 1 - k) < n + 1 := pdg_lt
    exact Or.inr ⟨pdg (n + 1) code (W - 1 - k) - 1, by omega, if_neg h⟩
def gN (pl : Nat → Int32) (k L : Nat) : Nat := if pl k = -9 then L else L &&& (63 ^^^ 2 ^ ix (pl k))
def gMn (σ : St) (kd : Nat → Nat) (pl : Nat → Int32) (k : Nat) (m : Int32) : Int32 := if pl k = -9 then m else m + priceM (kd (ix (pl k))) (σ.1 70 0) (σ.1 76 (5 + ix (pl k)))
def gvZ (σ : St) (kd : Nat → Nat) (pl : Nat → Int32) (k : Nat) (z : Fl) : Fl := (gN pl k z.L, z.s, gMn σ kd pl k z.m, z.t)
def paZ (σ : St) (kd : Nat → Nat) (n : Nat) (z : Fl) : Fl := (z.L, z.s + (if trX σ kd n (nwC σ) z.L then 0 else sumI (ltA kd (σ.1 72) (gaN kd n) z.L) n), z.m, z.t)
def gzF (σ : St) (kd : Nat → Nat) (n : Nat) (pl : Nat → Int32) (k : Nat) (z : Fl) : Fl := if z.t = none then (if trX σ kd n (nwC σ) (gN pl k z.L) then ((paZ σ kd n (gvZ σ kd pl k z)).L, (paZ σ kd n (gvZ σ kd pl k z)).s, (paZ σ kd n (gvZ σ kd pl k z)).m, some k) else ((paZ σ kd n (gvZ σ kd pl k z)).L, 0, (paZ σ kd n (gvZ σ kd pl k z)).m + (paZ σ kd n (gvZ σ kd pl k z)).s * σ.1 70 1, none)) else z
def gzS (σ : St) (kd : Nat → Nat) (n a : Nat) (pl : Nat → Int32) (k : Nat) : Fl := itr (gzF σ kd n pl) (a, σ.1 76 2, σ.1 76 1, none) k
theorem gz_n {σ : St} {kd : Nat → Nat} {n a : Nat} {pl : Nat → Int32} {k : Nat} (h : (gzS σ kd n a pl k).t = none) (h2 : trX σ kd n (nwC σ) (gN pl k (gzS σ kd n a pl k).L)) : gzS σ kd n a pl (k + 1) = ((paZ σ kd n (gvZ σ kd pl k (gzS σ kd n a pl k))).L, (paZ σ kd n (gvZ σ kd pl k (gzS σ kd n a pl k))).s, (paZ σ kd n (gvZ σ kd pl k (gzS σ kd n a pl k))).m, some k) := by
  show gzF σ kd n pl k (gzS σ kd n a pl k) = _
  unfold gzF
  rw [if_pos h, if_pos h2]
theorem gz_y {σ : St} {kd : Nat → Nat} {n a : Nat} {pl : Nat → Int32} {k : Nat} (h : (gzS σ kd n a pl k).t = none) (h2 : ¬ trX σ kd n (nwC σ) (gN pl k (gzS σ kd n a pl k).L)) : gzS σ kd n a pl (k + 1) = ((paZ σ kd n (gvZ σ kd pl k (gzS σ kd n a pl k))).L, 0, (paZ σ kd n (gvZ σ kd pl k (gzS σ kd n a pl k))).m + (paZ σ kd n (gvZ σ kd pl k (gzS σ kd n a pl k))).s * σ.1 70 1, none) := by
  show gzF σ kd n pl k (gzS σ kd n a pl k) = _
  unfold gzF
  rw [if_pos h, if_neg h2]
theorem gz_stop {σ : St} {kd : Nat → Nat} {n a : Nat} {pl : Nat → Int32} {k : Nat} (h : ¬ (gzS σ kd n a pl k).t = none) : ∀ d, gzS σ kd n a pl (k + d) = gzS σ kd n a pl k
  | 0 => rfl
  | d + 1 => by
    show gzF σ kd n pl (k + d) (gzS σ kd n a pl (k + d)) = _
    rw [gz_stop h d]
    unfold gzF
    rw [if_neg h]
theorem gN_64 {pl : Nat → Int32} {k L : Nat} (h : L < 64) : gN pl k L < 64 := by
  unfold gN
  split
  · exact h
  · exact and_lt h
theorem gz_64 {σ : St} {kd : Nat → Nat} {n a : Nat} {pl : Nat → Int32} (h : a < 64) (k : Nat) : (gzS σ kd n a pl k).L < 64 := by
  refine itr_b (fun z : Fl => z.L < 64) h (fun i z hz => ?_) k
  unfold gzF
  split
  · split <;> exact gN_64 hz
  · exact hz
theorem gz_t {σ : St} {kd : Nat → Nat} {n a : Nat} {pl : Nat → Int32} (N : Nat) : ∀ i, (gzS σ kd n a pl N).t = some i → i < N := by
  induction N with
  | zero => intro i h; cases h
  | succ N ih =>
    intro i
    show (gzF σ kd n pl N (gzS σ kd n a pl N)).t = some i → _
    unfold gzF
    split
    · split
      · intro h
        have := Option.some.inj h
        omega
      · intro h; cases h
    · intro h
      have := ih i h
      omega
theorem gz_9 {σ : St} {kd : Nat → Nat} {n a : Nat} {pl : Nat → Int32} {N : Nat} (hN : N ≤ 4) : oI (gzS σ kd n a pl N).t = -9 ↔ (gzS σ kd n a pl N).t = none := oI_9 (fun i hi => by have := gz_t N i hi; omega)
def gzOk (σ : St) (n W : Nat) (pl : Nat → Int32) (z : Fl) (τ : St) : Prop := τ.1 77 0 = nI z.L ∧ τ.1 77 1 = z.m ∧ τ.1 77 2 = z.s ∧ (∀ i, i < n → τ.1 77 (5 + i) = nwC σ i) ∧ τ.1 63 29 = oI z.t ∧ ∀ k, k < W → τ.1 83 k = pl k
theorem gz_0 {σ τ : St} (h : fr σ τ) {n a W : Nat} {pl : Nat → Int32} (hn : n ≤ 6) (h0 : σ.1 76 0 = nI a) (hp : ∀ k, k < W → τ.1 83 k = pl k) {kd : Nat → Nat} : gzOk σ n W pl (gzS σ kd n a pl 0) (uI (cpF τ 77 0 (τ.1 76) 11) 63 29 (-9)) := by
  have e : ∀ j, j < 11 → (cpF τ 77 0 (τ.1 76) 11).1 77 j = σ.1 76 j := fun j hj => by
    have e := cpF_at τ 77 0 (τ.1 76) (j := j) 11 hj
    rw [Nat.zero_add] at e
    rw [e]
    exact h.1 _ _ rfl
  refine ⟨?_, ?_, ?_, fun i hi => ?_, uI_s _ _ _ _, fun k hk => ?_⟩
  · rw [uI_o _ _ _ _ (by decide), e 0 (by decide)]; exact h0
  · rw [uI_o _ _ _ _ (by decide), e 1 (by decide)]; rfl
  · rw [uI_o _ _ _ _ (by decide), e 2 (by decide)]; rfl
  · rw [uI_o _ _ _ _ (by decide), e (5 + i) (by omega)]
  · rw [uI_o _ _ _ _ (by decide), cpF_other _ _ _ _ (by decide)]; exact hp k hk
theorem gv_0 {σ τ : St} {n W : Nat} {pl : Nat → Int32} {z : Fl} {kd : Nat → Nat} {k : Nat} (h : gzOk σ n W pl z τ) (e : pl k = -9) : gzOk σ n W pl (gvZ σ kd pl k z) τ := by
  have e1 : gvZ σ kd pl k z = z := by
    unfold gvZ gN gMn
    rw [if_pos e, if_pos e]
  rw [e1]
  exact h
theorem gv_w {σ τ : St} (f : fr σ τ) {n W : Nat} {pl : Nat → Int32} {z : Fl} {kd : Nat → Nat} {k w : Nat} (h : gzOk σ n W pl z τ) (e9 : ¬ pl k = -9) (e : pl k = nI w) (hw : w < n) (hn : n ≤ 6) : gzOk σ n W pl (gvZ σ kd pl k z) (guM τ 77 kd z.L w) := by
  obtain ⟨h1, h2, h3, h4, h5, h6⟩ := h
  have ew : ix (nI w) = w := ix_nI (by omega)
  unfold gvZ gN gMn guM
  rw [if_neg e9, if_neg e9, e, ew]
  refine ⟨uI_s _ _ _ _, ?_, ?_, fun i hi => ?_, ?_, fun k hk => ?_⟩
  · rw [uI_n _ _ _ _ (by decide), uI_s, h2, f.1 70 0 rfl, h4 w hw]
  · rw [uI_n _ _ _ _ (by decide), uI_n _ _ _ _ (by decide)]; exact h3
  · rw [uI_n _ _ _ _ (by omega), uI_n _ _ _ _ (by omega)]; exact h4 i hi
  · rw [uI_o _ _ _ _ (by decide), uI_o _ _ _ _ (by decide)]; exact h5
  · rw [uI_o _ _ _ _ (by decide), uI_o _ _ _ _ (by decide)]; exact h6 k hk
theorem pa_ok {σ τ : St} (f : fr σ τ) {n W : Nat} {pl : Nat → Int32} {z : Fl} {kd : Nat → Nat} (h : gzOk σ n W pl z τ) : gzOk σ n W pl (paZ σ kd n z) (paM τ 77 kd n z.L) ∧ (paM τ 77 kd n z.L).1 77 4 = bI (trX σ kd n (nwC σ) z.L) := by
  obtain ⟨h1, h2, h3, h4, h5, h6⟩ := h
  have es : mkN (tkM τ 77 kd n z.L) n = spX σ kd n (nwC σ) z.L := spX_eq f h4
  unfold paM
  rw [es, f.1 70 3 rfl, skX f]
  refine ⟨⟨?_, ?_, ?_, fun i hi => ?_, ?_, fun k hk => ?_⟩, ?_⟩
  · rw [uI_n _ _ _ _ (by decide), uI_n _ _ _ _ (by decide), uI_n _ _ _ _ (by decide)]; exact h1
  · rw [uI_n _ _ _ _ (by decide), uI_n _ _ _ _ (by decide), uI_n _ _ _ _ (by decide)]; exact h2
  · rw [uI_s, h3]; rfl
  · rw [uI_n _ _ _ _ (by omega), uI_n _ _ _ _ (by omega), uI_n _ _ _ _ (by omega)]; exact h4 i hi
  · rw [uI_o _ _ _ _ (by decide), uI_o _ _ _ _ (by decide), uI_o _ _ _ _ (by decide)]; exact h5
  · rw [uI_o _ _ _ _ (by decide), uI_o _ _ _ _ (by decide), uI_o _ _ _ _ (by decide)]; exact h6 k hk
  · rw [uI_n _ _ _ _ (by decide), uI_s]; rfl
theorem gz_k1 {σ τ : St} {n W : Nat} {pl : Nat → Int32} {L : Nat} {s m : Int32} {o : Option Nat} {k : Nat} (h : gzOk σ n W pl (L, s, m, o) τ) : gzOk σ n W pl (L, s, m, some k) (uI τ 63 29 (nI k)) := by
  obtain ⟨h1, h2, h3, h4, h5, h6⟩ := h
  refine ⟨?_, ?_, ?_, fun i hi => ?_, uI_s _ _ _ _, fun k hk => ?_⟩
  · rw [uI_o _ _ _ _ (by decide)]; exact h1
  · rw [uI_o _ _ _ _ (by decide)]; exact h2
  · rw [uI_o _ _ _ _ (by decide)]; exact h3
  · rw [uI_o _ _ _ _ (by decide)]; exact h4 i hi
  · rw [uI_o _ _ _ _ (by decide)]; exact h6 k hk
theorem gz_k2 {σ τ : St} {n W : Nat} {pl : Nat → Int32} {L : Nat} {s m : Int32} {o : Option Nat} (h : gzOk σ n W pl (L, s, m, o) τ) {x : Int32} : gzOk σ n W pl (L, 0, x, o) (uI (uI τ 77 1 x) 77 2 0) := by
  obtain ⟨h1, h2, h3, h4, h5, h6⟩ := h
  refine ⟨?_, ?_, uI_s _ _ _ _, fun i hi => ?_, ?_, fun k hk => ?_⟩
  · rw [uI_n _ _ _ _ (by decide), uI_n _ _ _ _ (by decide)]; exact h1
  · rw [uI_n _ _ _ _ (by decide), uI_s]
  · rw [uI_n _ _ _ _ (by omega), uI_n _ _ _ _ (by omega)]; exact h4 i hi
  · rw [uI_o _ _ _ _ (by decide), uI_o _ _ _ _ (by decide)]; exact h5
  · rw [uI_o _ _ _ _ (by decide), uI_o _ _ _ _ (by decide)]; exact h6 k hk
theorem pN_b {n W : Nat} (hn : n ≤ 6) (hW : W ≤ 4) : (n + 1) ^ W ≤ 2401 := Nat.le_trans (Nat.pow_le_pow_left (show n + 1 ≤ 7 by omega) W) (Nat.le_trans (Nat.pow_le_pow_right (by decide) hW) (by decide))
theorem pN_le {n W i : Nat} (hn : n ≤ 6) (hW : W ≤ 4) (hi : i ≤ W) : (n + 1) ^ i ≤ 2401 := pN_b hn (by omega)
