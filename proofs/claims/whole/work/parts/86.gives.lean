-- what the relation gives
def TM (σ τ : St) : Prop := (∀ k, 63 ≤ k → τ.1 k = σ.1 k) ∧ ∀ k, 63 ≤ k → τ.2 k = σ.2 k
theorem TM.rf {σ : St} : TM σ σ := ⟨fun _ _ => rfl, fun _ _ => rfl⟩
theorem TM.u {σ τ : St} (h : TM σ τ) {k j : Nat} {v : Int32} (hk : k < 63) : TM σ (uI τ k j v) := ⟨fun a ha => (uI_o τ k j v (by omega)).trans (h.1 a ha), h.2⟩
theorem TM.l {σ τ : St} (h : TM σ τ) {k j : Nat} {v : Int64} (hk : k < 63) : TM σ (uL τ k j v) := ⟨h.1, fun a ha => by
  show (if a = k then vp_updL (τ.2 k) j v else τ.2 a) = _
  rw [if_neg (by omega)]
  exact h.2 a ha⟩
theorem TM.a {σ τ : St} (h : TM σ τ) {k : Nat} {g : Nat → Int32} (hk : k < 63) : TM σ (uA τ k g) := ⟨fun a ha => by
  show (if a = k then g else τ.1 a) = _
  rw [if_neg (by omega)]
  exact h.1 a ha, h.2⟩
theorem TM.f {σ τ : St} (h : TM σ τ) {k off : Nat} {v : Int32} (hk : k < 63) : ∀ m, TM σ (fl τ k off v m)
  | 0 => h
  | m + 1 => (TM.f h hk m).u hk
theorem TM.c {σ τ : St} (h : TM σ τ) {k off : Nat} {f : Nat → Int32} (hk : k < 63) : ∀ m, TM σ (cpF τ k off f m)
  | 0 => h
  | m + 1 => (TM.c h hk m).u hk
theorem TM.r {σ τ : St} (h : TM σ τ) {f : Nat} : TM σ (tRef τ f) := (h.u (by decide)).u (by decide)
theorem scrT_le {k : Nat} (h : scrT k = true) : k ≤ 48 := by
  unfold scrT at h
  simp only [Bool.and_eq_true, Bool.or_eq_true, Nat.ble_eq] at h
  omega
theorem frT.tm {σ τ : St} (h : frT σ τ) : TM σ τ := ⟨fun k hk => funext fun j => h.1 k j (by
  cases e : scrT k
  · rfl
  · exact absurd (scrT_le e) (by omega)), fun k _ => by rw [h.2]⟩
/-- these cells stay -/
def kp (p : Nat → Nat → Bool) (σ τ : St) : Prop := ∀ k j, p k j = true → τ.1 k j = σ.1 k j
theorem kp.rf {p : Nat → Nat → Bool} {σ : St} : kp p σ σ := fun _ _ _ => rfl
theorem kp.tr {p : Nat → Nat → Bool} {σ τ ρ : St} (h : kp p σ τ) (h2 : kp p τ ρ) : kp p σ ρ := fun k j e => (h2 k j e).trans (h k j e)
theorem kp.u {p : Nat → Nat → Bool} {σ τ : St} (h : kp p σ τ) {k j : Nat} {v : Int32} (hs : p k j = false) : kp p σ (uI τ k j v) := fun k' j' e => by
  by_cases hk : k' = k
  · subst hk
    by_cases hj : j' = j
    · subst hj
      rw [hs] at e
      cases e
    · rw [uI_n _ _ _ _ hj]
      exact h _ _ e
  · rw [uI_o _ _ _ _ hk]
    exact h _ _ e
theorem kp.l {p : Nat → Nat → Bool} {σ τ : St} (h : kp p σ τ) {k j : Nat} {v : Int64} : kp p σ (uL τ k j v) := h
theorem kp.a {p : Nat → Nat → Bool} {σ τ : St} (h : kp p σ τ) {k : Nat} {g : Nat → Int32} (hs : ∀ j, p k j = false) : kp p σ (uA τ k g) := fun k' j' e => by
  show (if k' = k then g else τ.1 k') j' = _
  by_cases hk : k' = k
  · subst hk
    rw [hs] at e
    cases e
  · rw [if_neg hk]
    exact h _ _ e
theorem kp.f {p : Nat → Nat → Bool} {σ τ : St} (h : kp p σ τ) {k off : Nat} {v : Int32} (hs : ∀ j, p k j = false) : ∀ m, kp p σ (fl τ k off v m)
  | 0 => h
  | m + 1 => (kp.f h hs m).u (hs _)
theorem kp.c {p : Nat → Nat → Bool} {σ τ : St} (h : kp p σ τ) {k off : Nat} {f : Nat → Int32} (hs : ∀ j, p k j = false) : ∀ m, kp p σ (cpF τ k off f m)
  | 0 => h
  | m + 1 => (kp.c h hs m).u (hs _)
/-- rows and texts -/
def isX (k : Nat) : Bool := (Nat.ble 2 k && Nat.ble k 8) || (Nat.ble 10 k && Nat.ble k 14) || (k == 65 || k == 66 || k == 68 || k == 69)
abbrev isY (k _ : Nat) : Bool := isX k
/-- findings and what is told -/
def isZ (k j : Nat) : Bool := k == 62 || k == 64 || (k == 0 && (j == 11 || j == 12)) || (k == 63 && (j == 0 || j == 2))
theorem b_scr {k j : Nat} (h : isB k j = true ∨ isX k = true ∨ isZ k j = true) : scrB k j = false := by
  cases e : scrB k j
  · rfl
  · exfalso
    unfold isB isX isZ at h
    unfold scrB at e
    simp only [Bool.or_eq_true, Bool.and_eq_true, beq_iff_eq, Nat.ble_eq] at h e
    omega
theorem b_scrT {k j : Nat} (h : isB k j = true ∨ isX k = true ∨ isZ k j = true) : scrT k = false := by
  cases e : scrT k
  · rfl
  · exfalso
    unfold isB isX isZ at h
    unfold scrT at e
    simp only [Bool.or_eq_true, Bool.and_eq_true, beq_iff_eq, Nat.ble_eq] at h e
    omega
theorem RA_of {F F' : Nat → Nat → Int32} (h : RA F) (hk : ∀ k j, isX k = true → F' k j = F k j) (hf : ∀ f, f < 6 → F' 62 f = F' 64 f) (h1 : F' 0 11 = F' 63 0) (h2 : F' 0 12 = F' 63 2) : RA F' := by
  obtain ⟨r1, r2, -⟩ := h
  refine ⟨fun r hr => ?_, fun t ht => ?_, hf, h1, h2⟩
  · obtain ⟨a, b, c, d⟩ := r1 r hr
    rw [hk 8 r rfl, hk 65 r rfl]
    refine ⟨a, b, c, fun i hi => ?_⟩
    have e : isX (2 + r) = true := by
      unfold isX
      simp only [Bool.or_eq_true, Bool.and_eq_true, beq_iff_eq, Nat.ble_eq]
      omega
    rw [hk _ i e, hk 66 _ rfl]
    exact d i hi
  · obtain ⟨a, b, c, d⟩ := r2 t ht
    rw [hk 14 t rfl, hk 68 t rfl]
    refine ⟨a, b, c, fun i hi => ?_⟩
    have e : isX (10 + t) = true := by
      unfold isX
      simp only [Bool.or_eq_true, Bool.and_eq_true, beq_iff_eq, Nat.ble_eq]
      omega
    rw [hk _ i e, hk 69 _ rfl]
    exact d i hi
theorem Rel_of {σ τ : St} (h : Rel σ) (hk : ∀ k j, isX k = true → τ.1 k j = σ.1 k j) (hb : kp isB σ τ) (hf : ∀ f, f < 6 → τ.1 62 f = τ.1 64 f) (h1 : τ.1 0 11 = τ.1 63 0) (h2 : τ.1 0 12 = τ.1 63 2) (h3 : τ.2 0 13 = τ.2 63 3) (h4 : τ.2 0 14 = τ.2 63 4) : Rel τ := by
  obtain ⟨ha, -, n, kd, D, wN, aN, hB⟩ := h
  exact ⟨RA_of ha hk hf h1 h2, ⟨h3, h4⟩, n, kd, D, wN, aN, hB.keep hb⟩
theorem Rel.fd {σ : St} (h : Rel σ) : (∀ f, f < 6 → σ.1 62 f = σ.1 64 f) ∧ σ.1 0 11 = σ.1 63 0 ∧ σ.1 0 12 = σ.1 63 2 ∧ σ.2 0 13 = σ.2 63 3 ∧ σ.2 0 14 = σ.2 63 4 := ⟨h.1.2.2.1, h.1.2.2.2.1, h.1.2.2.2.2, h.2.1.1, h.2.1.2⟩
theorem Rel.fr {σ τ : St} (h : Rel σ) (f : fr σ τ) : Rel τ := by
  obtain ⟨q1, q2, q3, q4, q5⟩ := h.fd
  refine Rel_of h (fun k j e => f.1 k j (b_scr (Or.inr (Or.inl e)))) (fun k j e => f.1 k j (b_scr (Or.inl e))) (fun i hi => ?_) ?_ ?_ ?_ ?_
  · rw [f.1 62 i rfl, f.1 64 i rfl]; exact q1 i hi
  · rw [f.1 0 11 rfl, f.1 63 0 rfl]; exact q2
  · rw [f.1 0 12 rfl, f.1 63 2 rfl]; exact q3
  · rw [f.2 0 13 rfl, f.2 63 3 rfl]; exact q4
  · rw [f.2 0 14 rfl, f.2 63 4 rfl]; exact q5
theorem Rel.frT {σ τ : St} (h : Rel σ) (f : frT σ τ) : Rel τ := by
  obtain ⟨q1, q2, q3, q4, q5⟩ := h.fd
  refine Rel_of h (fun k j e => f.1 k j (b_scrT (j := j) (Or.inr (Or.inl e)))) (fun k j e => f.1 k j (b_scrT (Or.inl e))) (fun i hi => ?_) ?_ ?_ ?_ ?_
  · rw [f.1 62 i rfl, f.1 64 i rfl]; exact q1 i hi
  · rw [f.1 0 11 rfl, f.1 63 0 rfl]; exact q2
  · rw [f.1 0 12 rfl, f.1 63 2 rfl]; exact q3
  · rw [f.2]; exact q4
  · rw [f.2]; exact q5
theorem isX_ne {k : Nat} (h : isX k = true) : k ≠ 0 ∧ k ≠ 62 ∧ k ≠ 63 ∧ k ≠ 64 := by
  unfold isX at h
  simp only [Bool.or_eq_true, Bool.and_eq_true, beq_iff_eq, Nat.ble_eq] at h
  omega
theorem Rel.tell {σ : St} (h : Rel σ) (v : Int32) : Rel (uI (uI σ 0 12 v) 63 2 v) := by
  obtain ⟨q1, q2, q3, q4, q5⟩ := h.fd
  refine Rel_of h (fun k j e => ?_) ((kp.rf.u rfl).u rfl) q1 ?_ ?_ q4 q5
  · obtain ⟨e1, e2, e3, e4⟩ := isX_ne e
    rw [uI_o _ _ _ _ e3, uI_o _ _ _ _ e1]
  · rw [uI_o _ _ _ _ (by decide), uI_n _ _ _ _ (by decide), uI_n _ _ _ _ (by decide), uI_o _ _ _ _ (by decide)]; exact q2
  · rw [uI_o _ _ _ _ (by decide), uI_s, uI_s]
theorem Rel.ref {σ : St} (h : Rel σ) (f : Nat) : Rel (mRef (tRef σ f) f) := by
  obtain ⟨q1, q2, q3, q4, q5⟩ := h.fd
  refine Rel_of h (fun k j e => ?_) ((((kp.rf.u rfl).u rfl).u rfl).u rfl) (fun i hi => ?_) ?_ ?_ q4 q5
  · obtain ⟨e1, e2, e3, e4⟩ := isX_ne e
    unfold mRef tRef
    rw [uI_o _ _ _ _ e4, uI_o _ _ _ _ e3, uI_o _ _ _ _ e2, uI_o _ _ _ _ e1]
  · unfold mRef tRef
    by_cases e : i = f
    · subst e
      rw [uI_o _ _ _ _ (by decide), uI_o _ _ _ _ (by decide), uI_s, uI_s, uI_o _ _ _ _ (by decide), uI_o _ _ _ _ (by decide), q1 i hi]
    · rw [uI_o _ _ _ _ (by decide), uI_o _ _ _ _ (by decide), uI_n _ _ _ _ e, uI_o _ _ _ _ (by decide), uI_n _ _ _ _ e, uI_o _ _ _ _ (by decide), uI_o _ _ _ _ (by decide), uI_o _ _ _ _ (by decide)]
      exact q1 i hi
  · unfold mRef tRef
    rw [uI_o _ _ _ _ (by decide), uI_o _ _ _ _ (by decide), uI_o _ _ _ _ (by decide), uI_s, uI_o _ _ _ _ (by decide), uI_s]
  · unfold mRef tRef
    rw [uI_o _ _ _ _ (by decide), uI_o _ _ _ _ (by decide), uI_o _ _ _ _ (by decide), uI_n _ _ _ _ (by decide), uI_o _ _ _ _ (by decide), uI_n _ _ _ _ (by decide), uI_o _ _ _ _ (by decide), uI_o _ _ _ _ (by decide)]
    exact q3
theorem Rel.num {σ : St} (h : Rel σ) (a b : Int64) : Rel (uL (uL (uL (uL σ 0 13 a) 0 14 b) 63 3 a) 63 4 b) := by
  obtain ⟨q1, q2, q3, q4, q5⟩ := h.fd
  exact Rel_of h (fun k j e => rfl) (fun k j e => rfl) q1 q2 q3 (by simp [uL, vp_updL]) (by simp [uL, vp_updL])
theorem fr_uI {σ τ : St} (h : fr σ τ) (k j : Nat) (v : Int32) : fr (uI σ k j v) (uI τ k j v) := ⟨fun k' j' e => by
  by_cases hk : k' = k
  · subst hk
    by_cases hj : j' = j
    · subst hj
      rw [uI_s, uI_s]
    · rw [uI_n _ _ _ _ hj, uI_n _ _ _ _ hj]
      exact h.1 _ _ e
  · rw [uI_o _ _ _ _ hk, uI_o _ _ _ _ hk]
    exact h.1 _ _ e, h.2⟩
theorem fr_uL {σ τ : St} (h : fr σ τ) (k j : Nat) (v : Int64) : fr (uL σ k j v) (uL τ k j v) := ⟨h.1, fun k' j' e => by
  show (if k' = k then vp_updL (τ.2 k) j v else τ.2 k') j' = (if k' = k then vp_updL (σ.2 k) j v else σ.2 k') j'
  by_cases hk : k' = k
  · subst hk
    rw [if_pos rfl, if_pos rfl]
    by_cases hj : j' = j
    · subst hj
      simp [vp_updL]
    · rw [pk_uLn hj, pk_uLn hj]
      exact h.2 _ _ e
  · rw [if_neg hk, if_neg hk]
    exact h.2 _ _ e⟩
theorem fr_mRef {σ τ : St} (h : fr σ τ) (f : Nat) : fr (mRef σ f) (mRef τ f) := by
  unfold mRef
  rw [h.1 64 f rfl]
  exact fr_uI (fr_uI h _ _ _) _ _ _
