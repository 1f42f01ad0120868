-- loops over sets
def itr {α : Type} (f : Nat → α → α) (a : α) : Nat → α
  | 0 => a
  | i + 1 => f i (itr f a i)
def tdS (σ : St) (o : Option Nat) : St := match o with
  | none => σ
  | some s => uI σ 0 12 (nI s)
theorem tdS_k (σ : St) (o : Option Nat) {k : Nat} (h : k ≠ 0) : (tdS σ o).1 k = σ.1 k := by
  unfold tdS
  split
  · rfl
  · simp [uI, h]
theorem tdS_ok {σ : St} {o : Option Nat} {n G : Nat} {kd : Nat → Nat} (h : bkOk σ n G kd) : bkOk (tdS σ o) n G kd := bkOk_of h (by rw [tdS_k _ _ (by decide)]) (by rw [tdS_k _ _ (by decide)]) (by rw [tdS_k _ _ (by decide)])
theorem uI_uI (σ : St) (k j : Nat) (a b : Int32) : uI (uI σ k j a) k j b = uI σ k j b := by
  unfold uI
  congr 1
  funext z
  by_cases h : z = k
  · subst h
    simp only [if_true]
    funext y
    simp only [upd]
    split <;> rfl
  · simp [h]
theorem tdS_u (σ : St) (o : Option Nat) (s : Nat) : uI (tdS σ o) 0 12 (nI s) = uI σ 0 12 (nI s) := by
  cases o
  · rfl
  · exact uI_uI σ _ _ _ _
theorem tkS_td (σ : St) (o : Option Nat) (G : Nat) (kd : Nat → Nat) (a : Nat) : tkS (tdS σ o) G kd a = tkS σ G kd a := by simp [tkS, tdS_k]
abbrev trT (σ : St) (G : Nat) (kd : Nat → Nat) (n a : Nat) : Prop := σ.1 19 12 ≤ nI (pcN (mkN (tkS σ G kd a) n))
def safeF (σ : St) (G : Nat) (kd : Nat → Nat) (n L : Nat) (s : Nat) (a : Nat × Option Nat) : Nat × Option Nat := if s &&& (63 ^^^ L) = 0 ∧ pcN s < a.1 ∧ ¬ trT σ G kd n (L &&& (63 ^^^ s)) then (pcN s, some s) else a
def tSpeak (σ : St) (G : Nat) (kd : Nat → Nat) (n L : Nat) : Int32 × St := if σ.1 19 8 = 0 then (-4, σ) else (nI (mkN (tkS σ G kd L) n), uI σ 0 12 (if trT σ G kd n L then 1 else 0))
def tSafe (σ : St) (G : Nat) (kd : Nat → Nat) (n L : Nat) : Int32 × St := if σ.1 19 8 = 0 then (-4, σ) else (nI (itr (safeF σ G kd n L) (7, none) 64).1, tdS σ (itr (safeF σ G kd n L) (7, none) 64).2)
theorem itr_b {α : Type} {f : Nat → α → α} {a : α} (P : α → Prop) (h0 : P a) (h : ∀ i x, P x → P (f i x)) : ∀ i, P (itr f a i)
  | 0 => h0
  | i + 1 => h i _ (itr_b P h0 h i)
theorem safeF_b {σ : St} {G : Nat} {kd : Nat → Nat} {n L : Nat} (s : Nat) (hs : s ≤ 64) : (itr (safeF σ G kd n L) (7, none) s).1 ≤ 7 := by
  refine itr_b (fun a : Nat × Option Nat => a.1 ≤ 7) (by decide) (fun i x hx => ?_) s
  unfold safeF
  split
  · omega
  · exact hx
def totF (f : Nat → Int32) (s : Nat) : Nat → Int32
  | 0 => 0
  | i + 1 => if s.testBit i = true then totF f s i + f i else totF f s i
def nowOk (k : Nat) : Prop := k = 32 ∨ k = 33
theorem nowOk.gam {k : Nat} (h : nowOk k) : Gam[k]? = some (.inl (.int, 6)) := by rcases h with rfl | rfl <;> rfl
def headF (σ : St) (m L : Nat) (s : Nat) (a : Int32 × Option Nat) : Int32 × Option Nat := if s &&& (63 ^^^ L) = 0 ∧ pcN s = m ∧ a.1 < totF (σ.1 33) s 6 then (totF (σ.1 33) s 6, some s) else a
def wgd (σ : St) (G : Nat) (kd : Nat → Nat) (n L : Nat) : St := wgS σ (ltF kd (σ.1 28) G L) (fun i => priceS (kd i) (σ.1 19 9) (σ.1 31 i)) n
theorem wgd_k (σ : St) (G : Nat) (kd : Nat → Nat) (n L : Nat) {k : Nat} (h1 : k ≠ 32) (h2 : k ≠ 33) : (wgd σ G kd n L).1 k = σ.1 k := wgS_o σ _ _ h1 h2 n
theorem wgd_ok {σ : St} {G : Nat} {kd : Nat → Nat} {n L : Nat} (h : bkOk σ n G kd) : bkOk (wgd σ G kd n L) n G kd := wg_ok h n
def tHeads (σ : St) (G : Nat) (kd : Nat → Nat) (n L : Nat) (x : Int32) : Int32 × St := if x < 0 ∨ 6 < x then (-1, σ) else if σ.1 19 8 = 0 then (-4, σ) else if pcN L < ix x then (-9, σ) else
  ((itr (headF (wgd σ G kd n L) (ix x) L) (-1, none) 64).1, tdS (wgd σ G kd n L) (itr (headF (wgd σ G kd n L) (ix x) L) (-1, none) 64).2)
abbrev such (σ : St) (L : Nat) (v : Int32) (s : Nat) : Prop := s &&& (63 ^^^ L) = 0 ∧ totF (σ.1 32) s 6 = v
def fitF (σ : St) (L : Nat) (v : Int32) (s : Nat) (a : Nat × Int32) : Nat × Int32 := if such σ L v s then (a.1 + 1, if a.1 = 0 then nI s else a.2) else a
theorem fitF_b {σ : St} {L : Nat} {v : Int32} : ∀ s, (itr (fitF σ L v) (0, -9) s).1 ≤ s
  | 0 => Nat.le_refl _
  | s + 1 => by
    have ih := fitF_b (σ := σ) (L := L) (v := v) s
    simp only [itr, fitF]
    split
    · show _ + 1 ≤ _
      omega
    · omega
def tFits (σ : St) (G : Nat) (kd : Nat → Nat) (n L : Nat) (v : Int32) : Int32 × St := if ¬ (0 ≤ v ∧ v ≤ 99) then (-1, σ) else if σ.1 19 8 = 0 then (-4, σ) else
  (1, uI (uL (uL (wgd σ G kd n L) 0 13 (lN (itr (fitF (wgd σ G kd n L) L v) (0, -9) 64).1)) 0 14 (lN 1)) 0 12 (itr (fitF (wgd σ G kd n L) L v) (0, -9) 64).2)
def sureF (σ : St) (L : Nat) (v : Int32) (s : Nat) (a : Nat × Nat) : Nat × Nat := if such σ L v s then (a.1 &&& s, a.2 ||| s) else a
def exS (σ : St) (L : Nat) (v : Int32) : Prop := ∃ s, s < 64 ∧ such σ L v s
theorem sureF_b {σ : St} {L : Nat} {v : Int32} (hL : L < 64) (s : Nat) (hs : s ≤ 64) : (itr (sureF σ L v) (L, 0) s).1 < 64 ∧ (itr (sureF σ L v) (L, 0) s).2 < 64 := by
  induction s with
  | zero => exact ⟨hL, (by decide : (0 : Nat) < 64)⟩
  | succ s ih =>
    obtain ⟨h1, h2⟩ := ih (by omega)
    simp only [itr, sureF]
    split
    · exact ⟨and_lt h1, Nat.or_lt_two_pow (n := 6) h2 (by omega)⟩
    · exact ⟨h1, h2⟩
def gpF (σ : St) (L : Nat) (v : Int32) (i : Nat) (s : Nat) (a : Nat × Nat) : Nat × Nat := if such σ L v s then (if s.testBit i = true then (a.1 + 1, a.2) else (a.1, a.2 + 1)) else a
theorem gpF_b {σ : St} {L : Nat} {v : Int32} {i : Nat} : ∀ s, (itr (gpF σ L v i) (0, 0) s).1 ≤ s ∧ (itr (gpF σ L v i) (0, 0) s).2 ≤ s
  | 0 => ⟨Nat.le_refl _, Nat.le_refl _⟩
  | s + 1 => by
    have ih := gpF_b (σ := σ) (L := L) (v := v) (i := i) s
    simp only [itr, gpF]
    split
    · split
      · exact ⟨by show _ + 1 ≤ _; omega, by omega⟩
      · exact ⟨by omega, by show _ + 1 ≤ _; omega⟩
    · exact ⟨by omega, by omega⟩
def gpN (σ : St) (L : Nat) (v : Int32) (i : Nat) : Nat := max (itr (gpF σ L v i) (0, 0) 64).1 (itr (gpF σ L v i) (0, 0) 64).2
theorem gpN_b {σ : St} {L : Nat} {v : Int32} {i : Nat} : gpN σ L v i ≤ 64 := by
  have h := gpF_b (σ := σ) (L := L) (v := v) (i := i) 64
  unfold gpN
  omega
theorem max_nI {a b : Nat} (ha : a ≤ 64) (hb : b ≤ 64) : (if nI a < nI b then nI b else nI a) = nI (max a b) := by
  by_cases h : a < b
  · rw [if_pos ((nI_ltI (by omega) (by omega)).mpr h), Nat.max_eq_right (by omega)]
  · rw [if_neg (fun q => h ((nI_ltI (by omega) (by omega)).mp q)), Nat.max_eq_left (by omega)]
def oI (o : Option Nat) : Int32 := match o with
  | none => -9
  | some s => nI s
def askF (σ : St) (L : Nat) (v : Int32) (i : Nat) (a : Option Nat × Nat) : Option Nat × Nat := if L.testBit i = true ∧ gpN σ L v i < a.2 then (some i, gpN σ L v i) else a
theorem askF_b {σ : St} {L : Nat} {v : Int32} (s : Nat) : (itr (askF σ L v) (none, 65) s).2 ≤ 65 := by
  refine itr_b (fun a : Option Nat × Nat => a.2 ≤ 65) (Nat.le_refl _) (fun i x hx => ?_) s
  unfold askF
  split
  · exact Nat.le_trans gpN_b (by decide)
  · exact hx
def tSure (σ : St) (L : Nat) (v : Int32) : Int32 × St := (nI (itr (sureF σ L v) (L, 0) 64).1, uI σ 0 12 (nI (L &&& (63 ^^^ (itr (sureF σ L v) (L, 0) 64).2))))
def tAsk (σ : St) (n L : Nat) (v : Int32) : Int32 × St := (oI (itr (askF σ L v) (none, 65) n).1, if oI (itr (askF σ L v) (none, 65) n).1 = -9 then σ else uI σ 0 12 (nI (itr (askF σ L v) (none, 65) n).2))
def gdF (fee x : Int32) : Int32 := if x = 0 then 0 else if x < 0 ∨ fee = 0 ∨ ¬ x - x / fee * fee = 0 then -9 else x / fee
def betB (n w f wt : Int32) : Prop := f = -9 ∨ n < f ∨ (n = f ∧ wt < w)
def sumF (σ : St) (L : Nat) (v : Int32) (s : Nat) (a : Int32 × Int32) : Int32 × Int32 := if s &&& (63 ^^^ L) = 0 ∧ ¬ gdF (σ.1 19 10) (v - totF (σ.1 33) s 6) = -9 ∧ (a.1 = -9 ∨ gdF (σ.1 19 10) (v - totF (σ.1 33) s 6) + nI (pcN s) < a.1 ∨ (gdF (σ.1 19 10) (v - totF (σ.1 33) s 6) + nI (pcN s) = a.1 ∧ a.2 < nI (pcN s))) then (gdF (σ.1 19 10) (v - totF (σ.1 33) s 6) + nI (pcN s), nI (pcN s)) else a
def tSum (σ : St) (G : Nat) (kd : Nat → Nat) (n L : Nat) (v : Int32) : Int32 × St := if ¬ (0 ≤ v ∧ v ≤ 99) then (-1, σ) else if σ.1 19 8 = 0 then (-4, σ) else
  ((itr (sumF (wgd σ G kd n L) L v) (-9, 0) 64).1, if (itr (sumF (wgd σ G kd n L) L v) (-9, 0) 64).1 = -9 then wgd σ G kd n L else uI (wgd σ G kd n L) 0 12 (itr (sumF (wgd σ G kd n L) L v) (-9, 0) 64).2)
