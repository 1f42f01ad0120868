-- derived rows: places as Nat, truths as bI
def bI (p : Prop) [Decidable p] : Int32 := if p then 1 else 0
theorem bI_t {p : Prop} [Decidable p] (h : p) : bI p = 1 := if_pos h
theorem bI_f {p : Prop} [Decidable p] (h : ¬ p) : bI p = 0 := if_neg h
theorem bI_1 {p : Prop} [Decidable p] : bI p = 1 ↔ p := by
  unfold bI
  by_cases h : p
  · simp [h]
  · simp only [if_neg h]
    exact ⟨fun q => absurd q (by decide), fun q => absurd q h⟩
theorem bI_0 {p : Prop} [Decidable p] : bI p = 0 ↔ ¬ p := by
  unfold bI
  by_cases h : p
  · simp only [if_pos h]
    exact ⟨fun q => absurd q (by decide), fun q => absurd h q⟩
  · simp [h]
theorem bI_c {p q : Prop} [Decidable p] [Decidable q] (h : p ↔ q) : bI p = bI q := by
  unfold bI
  by_cases hp : p
  · rw [if_pos hp, if_pos (h.mp hp)]
  · rw [if_neg hp, if_neg (fun hq => hp (h.mpr hq))]
theorem bI_nar {p : Prop} [Decidable p] : narrow .boolean (.int (bI p)) = .int (bI p) := by
  unfold bI
  split <;> rfl
theorem bI_fit {p : Prop} [Decidable p] : fits .boolean (.int (bI p)) = true := by
  unfold bI
  split <;> rfl
theorem bI_vp {p : Prop} [Decidable p] : vp_nar .boolean (bI p) = bI p := by
  unfold bI
  split <;> rfl
theorem z1_nar : narrow .boolean (.int 1) = .int 1 := rfl
theorem z0_nar : narrow .boolean (.int 0) = .int 0 := rfl
theorem in_nI {i : Int32} {j n : Nat} (hi : i = nI j) (hj : j < n) (hn : n < 2147483648) : vp_in i n ∧ i.toNatClampNeg = j := by
  subst hi
  exact ⟨vp_in_nI hj hn, nI_clamp (by omega)⟩
theorem nI_inc (i : Nat) : nI i + Int32.ofInt 1 = nI (i + 1) := nI_1 i
theorem i_inc (x : Int32) : x + Int32.ofInt 1 = x + 1 := rfl
theorem i_dec (x : Int32) : x + Int32.ofInt (-1) = x + (-1) := rfl
theorem i_inc3 (x : Int32) : x + Int32.ofInt 3 = x + 3 := rfl
theorem nI_inc3 (i : Nat) : nI i + Int32.ofInt 3 = nI (i + 3) := nI_add i 3
theorem nI_dec (i : Nat) : nI (i + 1) + Int32.ofInt (-1) = nI i := pk_m1 i
section
variable {X : FX} {u : Un} {own : String} {cc : ByteArray} {d nL : Nat} {Q : State → Prop} {pc : Nat} {ls : List (Nat × Value)} {st : List Value} {σ : St}
/-- the number on the stack in another form -/
theorem v_te {x y : Int32} (h : x = y) (k : V X u d nL Q pc ls (.int y :: st) σ) : V X u d nL Q pc ls (.int x :: st) σ := h ▸ k
theorem v_tl {x y : Int64} (h : x = y) (k : V X u d nL Q pc ls (.long y :: st) σ) : V X u d nL Q pc ls (.long x :: st) σ := h ▸ k
/-- the state gets a name -/
theorem v_ns (k : ∀ σ' : St, σ' = σ → V X u d nL Q pc ls st σ') : V X u d nL Q pc ls st σ := k σ rfl
theorem v_bt {p : Prop} [Decidable p] (F : Fr X u own cc nL) {off : Int} (tgt : Nat) (hd : decode cc pc = .ok (.ifCond .eq off, 3)) (ht : (pc : Int) + off = (tgt : Int)) (kt : ¬ p → V X u d nL Q tgt ls st σ) (kf : p → V X u d nL Q (pc + 3) ls st σ) : V X u d nL Q pc ls (.int (bI p) :: st) σ :=
  v_if_eq F tgt hd ht (fun h => kt (bI_0.mp h)) (fun h => kf (Decidable.byContradiction fun q => h (bI_f q)))
theorem v_bf {p : Prop} [Decidable p] (F : Fr X u own cc nL) {off : Int} (tgt : Nat) (hd : decode cc pc = .ok (.ifCond .ne off, 3)) (ht : (pc : Int) + off = (tgt : Int)) (kt : p → V X u d nL Q tgt ls st σ) (kf : ¬ p → V X u d nL Q (pc + 3) ls st σ) : V X u d nL Q pc ls (.int (bI p) :: st) σ :=
  v_if_ne F tgt hd ht (fun h => kt (Decidable.byContradiction fun q => h (bI_f q))) (fun h => kf (bI_0.mp h))
theorem v_geti (F : Fr X u own cc nL) {k ci j idx : Nat} {fs : List (Nat ⊕ Bool)} (hl : fok own idx ci j) (hG : Gam[k]? = some (.inr (.inr (ci, fs)))) (hf : fs[j]? = some (.inr false)) (hd : decode cc pc = .ok (.getfield idx, 3)) (kk : V X u d nL Q (pc + 3) ls (.int (σ.1 k j) :: st) σ) : V X u d nL Q pc ls (.ref (u.2.1 k) :: st) σ := v_get F hl hG hf hd kk
theorem v_getl (F : Fr X u own cc nL) {k ci j idx : Nat} {fs : List (Nat ⊕ Bool)} (hl : fok own idx ci j) (hG : Gam[k]? = some (.inr (.inr (ci, fs)))) (hf : fs[j]? = some (.inr true)) (hd : decode cc pc = .ok (.getfield idx, 3)) (kk : V X u d nL Q (pc + 3) ls (.long (σ.2 k j) :: st) σ) : V X u d nL Q pc ls (.ref (u.2.1 k) :: st) σ := v_get F hl hG hf hd kk
theorem v_getr (F : Fr X u own cc nL) {k ci j idx r : Nat} {fs : List (Nat ⊕ Bool)} (hl : fok own idx ci j) (hG : Gam[k]? = some (.inr (.inr (ci, fs)))) (hf : fs[j]? = some (.inl r)) (hd : decode cc pc = .ok (.getfield idx, 3)) (kk : V X u d nL Q (pc + 3) ls (.ref (u.2.1 r) :: st) σ) : V X u d nL Q pc ls (.ref (u.2.1 k) :: st) σ := v_get F hl hG hf hd kk

theorem v_ial (F : Fr X u own cc nL) {k n : Nat} {i : Int32} (j : Nat) (hG : Gam[k]? = some (.inl (.int, n))) (hi : i = nI j) (hj : j < n) (hd : decode cc pc = .ok (.iaload, 1)) (kk : V X u d nL Q (pc + 1) ls (.int (σ.1 k j) :: st) σ) (hn : n < 2147483648 := by decide) : V X u d nL Q pc ls (.int i :: .ref (u.2.1 k) :: st) σ := by
  obtain ⟨h1, h2⟩ := in_nI hi hj hn
  refine v_iald F hG h1 hd ?_
  rw [h2]
  exact kk
theorem v_bal (F : Fr X u own cc nL) {k n : Nat} {i : Int32} (j : Nat) (hG : Gam[k]? = some (.inl (.byte, n))) (hi : i = nI j) (hj : j < n) (hd : decode cc pc = .ok (.baload, 1)) (kk : V X u d nL Q (pc + 1) ls (.int (σ.1 k j) :: st) σ) (hn : n < 2147483648 := by decide) : V X u d nL Q pc ls (.int i :: .ref (u.2.1 k) :: st) σ := by
  obtain ⟨h1, h2⟩ := in_nI hi hj hn
  refine v_bald F hG h1 hd ?_
  rw [h2]
  exact kk
theorem v_zal (F : Fr X u own cc nL) {k n : Nat} {i : Int32} (j : Nat) (hG : Gam[k]? = some (.inl (.boolean, n))) (hi : i = nI j) (hj : j < n) (hd : decode cc pc = .ok (.baload, 1)) (kk : V X u d nL Q (pc + 1) ls (.int (σ.1 k j) :: st) σ) (hn : n < 2147483648 := by decide) : V X u d nL Q pc ls (.int i :: .ref (u.2.1 k) :: st) σ := by
  obtain ⟨h1, h2⟩ := in_nI hi hj hn
  refine v_zald F hG h1 hd ?_
  rw [h2]
  exact kk
theorem v_ias (F : Fr X u own cc nL) {k n : Nat} {i x : Int32} (j : Nat) (hG : Gam[k]? = some (.inl (.int, n))) (hi : i = nI j) (hj : j < n) (hd : decode cc pc = .ok (.iastore, 1)) (kk : V X u d nL Q (pc + 1) ls st (uI σ k j x)) (hn : n < 2147483648 := by decide) : V X u d nL Q pc ls (.int x :: .int i :: .ref (u.2.1 k) :: st) σ := by
  obtain ⟨h1, h2⟩ := in_nI hi hj hn
  refine v_iast F hG h1 hd ?_
  rw [h2]
  exact kk
theorem v_bas (F : Fr X u own cc nL) {k n : Nat} {i x : Int32} (j : Nat) (hG : Gam[k]? = some (.inl (.byte, n))) (hi : i = nI j) (hj : j < n) (hd : decode cc pc = .ok (.bastore, 1)) (kk : V X u d nL Q (pc + 1) ls st (uI σ k j (vp_nar .byte x))) (hn : n < 2147483648 := by decide) : V X u d nL Q pc ls (.int x :: .int i :: .ref (u.2.1 k) :: st) σ := by
  obtain ⟨h1, h2⟩ := in_nI hi hj hn
  refine v_bast F hG h1 hd ?_
  rw [h2]
  exact kk
theorem v_zas (F : Fr X u own cc nL) {k n : Nat} {i x : Int32} (j : Nat) (hG : Gam[k]? = some (.inl (.boolean, n))) (hi : i = nI j) (hj : j < n) (hd : decode cc pc = .ok (.bastore, 1)) (kk : V X u d nL Q (pc + 1) ls st (uI σ k j (vp_nar .boolean x))) (hn : n < 2147483648 := by decide) : V X u d nL Q pc ls (.int x :: .int i :: .ref (u.2.1 k) :: st) σ := by
  obtain ⟨h1, h2⟩ := in_nI hi hj hn
  refine v_zast F hG h1 hd ?_
  rw [h2]
  exact kk
theorem v_aal (F : Fr X u own cc nL) {k n : Nat} {i : Int32} {ty : FieldType} {r : Nat → Nat} (j : Nat) (hG : Gam[k]? = some (.inr (.inl (ty, n, r)))) (hty : ty.isReference = true) (hi : i = nI j) (hj : j < n) (hd : decode cc pc = .ok (.aaload, 1)) (kk : V X u d nL Q (pc + 1) ls (.ref (u.2.1 (r j)) :: st) σ) (hn : n < 2147483648 := by decide) : V X u d nL Q pc ls (.int i :: .ref (u.2.1 k) :: st) σ := by
  obtain ⟨h1, h2⟩ := in_nI hi hj hn
  refine v_aald F hG hty h1 hd ?_
  rw [h2]
  exact kk
theorem v_tai (F : Fr X u own cc nL) {i : Nat} {q : String × String × FieldType × Nat × (Nat → Int32)} (j : Nat) (hq : stab[i]? = some q) (hty : q.2.2.1 = .int) {x : Int32} (hi : x = nI j) (hj : j < q.2.2.2.1) (hn : q.2.2.2.1 < 2147483648) (hd : decode cc pc = .ok (.iaload, 1)) (kk : V X u d nL Q (pc + 1) ls (.int (q.2.2.2.2 j) :: st) σ) : V X u d nL Q pc ls (.int x :: .ref (u.2.1 (1000 + i)) :: st) σ := by
  obtain ⟨h1, h2⟩ := in_nI hi hj hn
  refine v_tabi F hq hty h1 hd ?_
  rw [h2]
  exact kk
theorem v_tac (F : Fr X u own cc nL) {i : Nat} {q : String × String × FieldType × Nat × (Nat → Int32)} (j : Nat) (hq : stab[i]? = some q) (hty : q.2.2.1 = .char) {x : Int32} (hi : x = nI j) (hj : j < q.2.2.2.1) (hn : q.2.2.2.1 < 2147483648) (hd : decode cc pc = .ok (.caload, 1)) (kk : V X u d nL Q (pc + 1) ls (.int (q.2.2.2.2 j) :: st) σ) : V X u d nL Q pc ls (.int x :: .ref (u.2.1 (1000 + i)) :: st) σ := by
  obtain ⟨h1, h2⟩ := in_nI hi hj hn
  refine v_tabc F hq hty h1 hd ?_
  rw [h2]
  exact kk
end
theorem gam_row : ∀ j, j < 6 → Gam[2 + j]? = some (.inl (.int, 40)) := by
  intro j hj
  rcases j with _ | _ | _ | _ | _ | _ | j
  all_goals first | rfl | (exfalso; omega)
theorem gam_text : ∀ j, j < 4 → Gam[10 + j]? = some (.inl (.byte, 60)) := by
  intro j hj
  rcases j with _ | _ | _ | _ | j
  all_goals first | rfl | (exfalso; omega)
theorem gam_talk : ∀ j, j < 6 → Gam[42 + j]? = some (.inl (.int, 3)) := by
  intro j hj
  rcases j with _ | _ | _ | _ | _ | _ | j
  all_goals first | rfl | (exfalso; omega)
/-- where two states agree -/
def eqT (σ σ' : St) : Prop := (∀ k, k < 63 → σ'.1 k = σ.1 k) ∧ ∀ k, k < 63 → σ'.2 k = σ.2 k
def eqM (σ σ' : St) : Prop := (∀ k, 63 ≤ k → σ'.1 k = σ.1 k) ∧ ∀ k, 63 ≤ k → σ'.2 k = σ.2 k
