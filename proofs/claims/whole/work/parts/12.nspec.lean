-- counts of sets, quotients
def pcN (n : Nat) : Nat := n % 2 + n / 2 % 2 + n / 4 % 2 + n / 8 % 2 + n / 16 % 2 + n / 32 % 2
theorem pc_and : ∀ n, n < 64 → 0 < n → n &&& (n - 1) < n ∧ pcN (n &&& (n - 1)) + 1 = pcN n := by decide +kernel
theorem nI_and {a b : Nat} : nI a &&& nI b = nI (a &&& b) := by
  apply Int32.toBitVec_inj.mp
  show BitVec.ofNat 32 a &&& BitVec.ofNat 32 b = BitVec.ofNat 32 (a &&& b)
  rw [BitVec.ofNat_and]
theorem bits_step {n : Nat} (h : 0 < n) : nI n &&& (nI n - 1) = nI (n &&& (n - 1)) := by
  obtain ⟨m, rfl⟩ : ∃ m, n = m + 1 := ⟨n - 1, by omega⟩
  rw [nI_pred, nI_and]
  rfl
theorem lg0 {y : Nat} (hy : y < 9223372036854775808) : lg_cmp (lN y) 0 = 0 ↔ y = 0 := by
  have e0 : (0 : Int64) = lN 0 := rfl
  constructor
  · intro h
    unfold lg_cmp at h
    split at h
    · exact absurd h (by decide)
    · split at h
      · rename_i _ h2
        rw [e0] at h2
        exact (pk_lEQ (by omega) (by omega)).mp h2
      · exact absurd h (by decide)
  · rintro rfl
    rfl
theorem lg_pos {x y : Int64} : 0 < lg_cmp x y ↔ y < x := by
  unfold lg_cmp
  split
  · rename_i h
    exact ⟨fun _ => h, fun _ => by decide⟩
  · rename_i h
    split
    · exact ⟨fun q => absurd q (by decide), fun q => absurd q h⟩
    · exact ⟨fun q => absurd q (by decide), fun q => absurd q h⟩
theorem lc_nat {i n s : Int32} (hi : 0 ≤ i) (hn : 0 ≤ n) (h0 : 0 ≤ s) (h1 : s ≤ 40) (h : ¬ 0 < lg_cmp (i.toInt64 + n.toInt64) s.toInt64) : ∃ b N, b + N ≤ 40 ∧ ix i = b ∧ ix n = N ∧ i = nI b ∧ n = nI N := by
  obtain ⟨b, hb, rfl⟩ := nI_of (i_nlt.mpr hi)
  obtain ⟨N, hN, rfl⟩ := nI_of (i_nlt.mpr hn)
  obtain ⟨c, hc, -, rfl⟩ := nat_of (M := 40) h0 h1 rfl (by decide)
  rw [lg_pos, nI_l hb, nI_l hN, nI_l (by omega), lN_add, pk_lLT (by omega) (by omega)] at h
  exact ⟨b, N, by omega, nI_clamp hb, nI_clamp hN, rfl, rfl⟩
theorem cpF_other (σ : St) (k off : Nat) (f : Nat → Int32) {k' : Nat} (h : k' ≠ k) : ∀ i, (cpF σ k off f i).1 k' = σ.1 k'
  | 0 => rfl
  | i + 1 => by
    have ih := cpF_other σ k off f h i
    simp only [cpF, uI, if_neg h, ih]
def mCopy (σ : St) (r i to j n : Int32) : Int32 × St := if ¬ inR r 6 ∨ ¬ inR to 6 then (-1, σ) else if n < 0 then (-3, mRef σ 5) else if σ.1 65 (ix r) < 0 ∨ σ.1 65 (ix to) < 0 then (-3, mRef σ 1)
  else if i < 0 ∨ j < 0 ∨ 0 < lg_cmp (i.toInt64 + n.toInt64) (σ.1 65 (ix r)).toInt64 ∨ 0 < lg_cmp (j.toInt64 + n.toInt64) (σ.1 65 (ix to)).toInt64 then (-3, mRef σ 2)
  else (1, cpF (cpF σ 67 0 (fun k => σ.1 66 (40 * ix r + (ix i + k))) (ix n)) 66 (40 * ix to + ix j) (fun k => (cpF σ 67 0 (fun k => σ.1 66 (40 * ix r + (ix i + k))) (ix n)).1 67 k) (ix n))
theorem pc0 {s c t : Nat} (h0 : s = 0) (h : pcN s + c = t) : c = t := by
  subst h0
  simpa [pcN] using h
theorem v_mmax {X : FX} {u : Un} {own : String} {cc : ByteArray} {d nL : Nat} {Q : State → Prop} {pc : Nat} {ls : List (Nat × Value)} {st : List Value} {σ : St} (F : Fr X u own cc nL) {idx : Nat} {x y : Int32} (hl : Cond.methodLink own idx Lib.Math.max.name ∈ lw_tbl) (hw : (st.map fun v => v.category).sum ≤ 8) (hd : 1 ≤ d) (hdg : decode cc pc = .ok (.invokestatic idx, 3))
    (kk : V X u d nL Q (pc + 3) ls (.int (if x < y then y else x) :: st) σ) : V X u d nL Q pc ls (.int y :: .int x :: st) σ := by
  intro H locs la hP hS hla
  refine va_mmax F.1 F.2.1 (by rw [F.2.2.1, hla.1]) F.2.2.2.1 (F.2.2.2.2.1 _ (inG hl rfl)) (F.2.2.2.2.1 _ (inG (List.mem_of_getElem? (i := 632) (by decide +kernel)) rfl)) (F.2.2.2.2.1 _ (inG (List.mem_of_getElem? (i := 89) (by decide +kernel)) rfl)) (F.2.2.2.2.1 _ (inG (List.mem_of_getElem? (i := 633) (by decide +kernel)) rfl)) hd ?_ (Nat.zero_le _) (Nat.zero_le _) hdg (kk H locs la hP hS hla)
  show _ ≤ d * 40
  omega
theorem v_mmin {X : FX} {u : Un} {own : String} {cc : ByteArray} {d nL : Nat} {Q : State → Prop} {pc : Nat} {ls : List (Nat × Value)} {st : List Value} {σ : St} (F : Fr X u own cc nL) {idx : Nat} {x y : Int32} (hl : Cond.methodLink own idx Lib.Math.min.name ∈ lw_tbl) (hw : (st.map fun v => v.category).sum ≤ 8) (hd : 1 ≤ d) (hdg : decode cc pc = .ok (.invokestatic idx, 3))
    (kk : V X u d nL Q (pc + 3) ls (.int (if y < x then y else x) :: st) σ) : V X u d nL Q pc ls (.int y :: .int x :: st) σ := by
  intro H locs la hP hS hla
  refine va_mmin F.1 F.2.1 (by rw [F.2.2.1, hla.1]) F.2.2.2.1 (F.2.2.2.2.1 _ (inG hl rfl)) (F.2.2.2.2.1 _ (inG (List.mem_of_getElem? (i := 888) (by decide +kernel)) rfl)) (F.2.2.2.2.1 _ (inG (List.mem_of_getElem? (i := 89) (by decide +kernel)) rfl)) (F.2.2.2.2.1 _ (inG (List.mem_of_getElem? (i := 889) (by decide +kernel)) rfl)) hd ?_ (Nat.zero_le _) (Nat.zero_le _) hdg (kk H locs la hP hS hla)
  show _ ≤ d * 40
  omega
theorem gcd_step {a b x y : Nat} (h : Nat.gcd x y = Nat.gcd a b) (hy : 0 < y) : Nat.gcd y (x % y) = Nat.gcd a b := by
  rw [← h, Nat.gcd_comm x y, Nat.gcd_rec y x, Nat.gcd_comm]
theorem lrem_N {x y : Nat} (hx : x < 4611686018427387904) (hy : y < 4611686018427387904) (h0 : 0 < y) : lN x - lN x / lN y * lN y = lN (x % y) := pk_lRem (by omega) h0 (by omega)
theorem ldiv_N {x y : Nat} (hx : x < 4611686018427387904) (hy : y < 4611686018427387904) (h0 : 0 < y) : lN x / lN y = lN (x / y) := pk_lDiv (by omega) h0 (by omega)
theorem lne0 {y : Nat} (hy : y < 4611686018427387904) (h0 : 0 < y) : ¬ lN y = 0 := fun h => by
  have := (pk_lEQ (a := y) (b := 0) (by omega) (by omega)).mp h
  omega
theorem gcd_le0 {a b x : Nat} (h : Nat.gcd x 0 = Nat.gcd a b) : x = Nat.gcd a b := by rw [← h, Nat.gcd_zero_right]
theorem euc_pos {x y p : Nat} (hy : 0 < y) (hxy : y ≤ x) (h : x * y < 2 * p) : y * (x % y) < p := by
  have h1 := Nat.mod_lt x hy
  have h2 := Nat.div_add_mod x y
  have h3 : 1 ≤ x / y := (Nat.one_le_div_iff hy).mpr hxy
  have h4 : y * 1 ≤ y * (x / y) := Nat.mul_le_mul_left _ h3
  have h5 : 2 * (x % y) ≤ x := by omega
  have h6 : y * (2 * (x % y)) ≤ y * x := Nat.mul_le_mul_left _ h5
  rw [Nat.mul_comm y x, Nat.mul_left_comm] at h6
  omega
