-- brings: equal answers
theorem i_ac (a x m : Int32) : a + x - m = a - m + x := by
  rw [Int32.sub_eq_add_neg, Int32.sub_eq_add_neg, Int32.add_assoc, Int32.add_assoc, Int32.add_comm x]
theorem i_rc (a x m : Int32) : a + m + x = a + x + m := by rw [Int32.add_assoc, Int32.add_assoc, Int32.add_comm x]
theorem i_as (a m : Int32) : a + m - m = a := by
  first | exact Int32.add_sub_cancel _ _ | rw [Int32.sub_eq_add_neg, Int32.add_assoc, Int32.add_right_neg, Int32.add_zero]
theorem an_bit : ∀ a, a < 64 → ∀ v, v < 6 → ∀ x, x < 6 → (a &&& (63 ^^^ 2 ^ v)).testBit x = (a.testBit x && !decide (x = v)) := by decide +kernel
section
variable {σ τ : St} {n : Nat} {kd : Nat → Nat} {L D : Nat}
theorem Br.tx (b : Br σ τ n kd L D) (x : Nat) : trX τ kd n (nwC τ) x ↔ trT σ (gaN kd n) kd n x := by
  unfold trX trT
  rw [b.sp, ← b.h.2.2.2]
theorem gzF_t {pl : Nat → Int32} {k M : Nat} {s m : Int32} (h : trX τ kd n (nwC τ) (gN pl k M)) : gzF τ kd n pl k (M, s, m, none) = (gN pl k M, s, gMn τ kd pl k m, some k) := by
  show (if (none : Option Nat) = none then (if trX τ kd n (nwC τ) (gN pl k M) then (gN pl k M, s + (if trX τ kd n (nwC τ) (gN pl k M) then 0 else sumI (ltA kd (τ.1 72) (gaN kd n) (gN pl k M)) n), gMn τ kd pl k m, some k) else (gN pl k M, 0, gMn τ kd pl k m + (s + (if trX τ kd n (nwC τ) (gN pl k M) then 0 else sumI (ltA kd (τ.1 72) (gaN kd n) (gN pl k M)) n)) * τ.1 70 1, none)) else (M, s, m, none)) = _
  rw [if_pos rfl, if_pos h, if_pos h, Int32.add_zero]
theorem gzF_y {pl : Nat → Int32} {k M : Nat} {s m : Int32} (h : ¬ trX τ kd n (nwC τ) (gN pl k M)) : gzF τ kd n pl k (M, s, m, none) = (gN pl k M, 0, gMn τ kd pl k m + (s + sumI (ltA kd (τ.1 72) (gaN kd n) (gN pl k M)) n) * τ.1 70 1, none) := by
  show (if (none : Option Nat) = none then (if trX τ kd n (nwC τ) (gN pl k M) then (gN pl k M, s + (if trX τ kd n (nwC τ) (gN pl k M) then 0 else sumI (ltA kd (τ.1 72) (gaN kd n) (gN pl k M)) n), gMn τ kd pl k m, some k) else (gN pl k M, 0, gMn τ kd pl k m + (s + (if trX τ kd n (nwC τ) (gN pl k M) then 0 else sumI (ltA kd (τ.1 72) (gaN kd n) (gN pl k M)) n)) * τ.1 70 1, none)) else (M, s, m, none)) = _
  rw [if_pos rfl, if_neg h, if_neg h]
theorem gzF_s {pl : Nat → Int32} {k i : Nat} {z : Fl} (h : z.t = some i) : gzF τ kd n pl k z = z := by
  unfold gzF
  rw [if_neg (by rw [h]; exact fun q => by cases q)]
theorem flF_t {G a k M : Nat} {s m : Int32} (h : trT σ G kd n (pnN σ a k M)) : flF σ G kd n a k (M, s, m, none) = (pnN σ a k M, s, pnM σ kd a k m, some k) := by
  show (if (none : Option Nat) = none then (if trT σ G kd n (pnN σ a k M) then (pnN σ a k M, s, pnM σ kd a k m, some k) else (pnN σ a k M, 0, pnM σ kd a k m + σ.1 19 10 * (s + sumI (ltA kd (σ.1 28) G (pnN σ a k M)) n), none)) else (M, s, m, none)) = _
  rw [if_pos rfl, if_pos h]
theorem flF_y {G a k M : Nat} {s m : Int32} (h : ¬ trT σ G kd n (pnN σ a k M)) : flF σ G kd n a k (M, s, m, none) = (pnN σ a k M, 0, pnM σ kd a k m + σ.1 19 10 * (s + sumI (ltA kd (σ.1 28) G (pnN σ a k M)) n), none) := by
  show (if (none : Option Nat) = none then (if trT σ G kd n (pnN σ a k M) then (pnN σ a k M, s, pnM σ kd a k m, some k) else (pnN σ a k M, 0, pnM σ kd a k m + σ.1 19 10 * (s + sumI (ltA kd (σ.1 28) G (pnN σ a k M)) n), none)) else (M, s, m, none)) = _
  rw [if_pos rfl, if_neg h]
theorem flF_s {G a k i : Nat} {z : Fl} (h : z.t = some i) : flF σ G kd n a k z = z := by
  unfold flF
  rw [if_neg (by rw [h]; exact fun q => by cases q)]
theorem fl_gz (b : Br σ τ n kd L D) {a N : Nat} {pl : Nat → Int32} (hp : ∀ k, k < N → σ.1 a k = pl k) (hv : ∀ k, k < N → pl k = -9 ∨ ∃ v, v < n ∧ pl k = nI v) : gzS τ kd n L pl N = ((flS σ (gaN kd n) kd n L a N).1, (flS σ (gaN kd n) kd n L a N).2.1, (flS σ (gaN kd n) kd n L a N).2.2.1 + τ.1 76 1, (flS σ (gaN kd n) kd n L a N).2.2.2) := by
  refine itr_R (fun (z y : Fl) => y = (z.1, z.2.1, z.2.2.1 + τ.1 76 1, z.2.2.2)) (α := Fl) (β := Fl) (a := (⟨L, σ.1 19 17, 0, none⟩ : Fl)) (b := ((L, τ.1 76 2, τ.1 76 1, none) : Fl)) ?_ N (fun i hi x y h => ?_)
  · show ((L, τ.1 76 2, τ.1 76 1, none) : Fl) = (L, σ.1 19 17, 0 + τ.1 76 1, none)
    rw [b.z.2.1, Int32.zero_add]
  · obtain ⟨xL, xs, xm, xt⟩ := x
    rw [h]
    show gzF τ kd n pl i (xL, xs, xm + τ.1 76 1, xt) = _
    cases xt with
    | some j => rw [gzF_s (i := j) rfl, flF_s (i := j) rfl]
    | none =>
      have eN : pnN σ a i xL = gN pl i xL := by
        unfold pnN gN
        rw [hp i hi]
      have eM : gMn τ kd pl i (xm + τ.1 76 1) = pnM σ kd a i xm + τ.1 76 1 := by
        unfold gMn pnM
        rw [hp i hi]
        rcases hv i hi with e | ⟨v, hv, e⟩
        · rw [if_pos e, if_pos e]
        · have e9 : ¬ pl i = -9 := by
            rw [e]
            exact nI_n9 (by have := b.n6; omega)
          rw [if_neg e9, if_neg e9, e, ix_nI (by have := b.n6; omega), b.pr hv, i_rc]
      by_cases c2 : trX τ kd n (nwC τ) (gN pl i xL)
      · rw [gzF_t c2, flF_t (by rw [eN]; exact (b.tx _).mp c2), eN, eM]
      · rw [gzF_y c2, flF_y (by rw [eN]; exact fun q => c2 ((b.tx _).mpr q)), eN, eM, b.lt, ← b.h.2.1]
        show ((_ : Nat), (_ : Int32), _, _) = ((_ : Nat), (_ : Int32), _, _)
        rw [Int32.mul_comm, i_rc]
theorem ok_br (b : Br σ τ n kd L D) {r N : Nat} (hp : ∀ k, k < N → σ.1 (2 + r) k = rwM τ r k) : ∀ k, k ≤ N → (okS σ L (2 + r) k = none ∧ ¬ brG τ n L r k = true) ∨ ∃ z, okS σ L (2 + r) k = some z ∧ brG τ n L r k = true ∧ z < 64 ∧ ∀ x, x < 6 → z.testBit x = (L.testBit x && !(brU τ n r k).testBit x)
  | 0, _ => Or.inr ⟨L, rfl, rfl, b.L3, fun x _ => by
      show _ = (L.testBit x && !(0 : Nat).testBit x)
      rw [Nat.zero_testBit, Bool.not_false, Bool.and_true]⟩
  | k + 1, hk => by
    have hn := b.n6
    have e := hp k (by omega)
    rcases ok_br b hp k (by omega) with ⟨h1, h2⟩ | ⟨z, h1, h2, h3, h4⟩
    · exact Or.inl ⟨okS_none h1 1, bg_f h2⟩
    · by_cases c9 : rwM τ r k = -9
      · refine Or.inr ⟨z, okS_9 h1 (e.trans c9), bg_9 h2 c9, h3, fun x hx => ?_⟩
        rw [bu_n (th_9 c9)]
        exact h4 x hx
      · by_cases cr : 0 ≤ rwM τ r k ∧ rwM τ r k < nI n
        · obtain ⟨v, hv, ix1, ev⟩ := has_nat cr rfl hn
          have h4v := h4 v (by omega)
          by_cases cz : z.testBit v = true
          · rw [cz] at h4v
            have hb := h4v.symm
            rw [Bool.and_eq_true, Bool.not_eq_true'] at hb
            refine Or.inr ⟨z &&& (63 ^^^ 2 ^ v), okS_y h1 (fun q => c9 (e.symm.trans q)) (by rw [e]; exact ix1) (by rw [e, b.n8]; exact cr) cz, bg_w h2 ev hv hn hb.1 (by rw [hb.2]; exact Bool.false_ne_true), and_lt h3, fun x hx => ?_⟩
            rw [an_bit z h3 v (by omega) x hx, h4 x hx, bu_w ev hv hn, Nat.testBit_or, Nat.testBit_two_pow]
            by_cases q : x = v
            · rw [q, decide_eq_true rfl, Bool.not_true, Bool.and_false, Bool.or_true, Bool.not_true, Bool.and_false]
            · rw [decide_eq_false q, decide_eq_false (fun r => q r.symm), Bool.not_false, Bool.and_true, Bool.or_false]
          · refine Or.inl ⟨?_, ?_⟩
            · rw [okS_s, h1]
              show (if σ.1 (2 + r) k = -9 then _ else _) = none
              rw [if_neg (fun q => c9 (e.symm.trans q)), if_neg (fun q => cz (by
                have := q.2
                rw [e, ix1] at this
                exact this))]
            · by_cases cL : L.testBit v = true
              · refine bg_f2 ev hv hn ?_
                rw [cL, Bool.true_and] at h4v
                rw [h4v] at cz
                simpa using cz
              · exact bg_f1 ev hv hn cL
        · refine Or.inl ⟨?_, bg_f3 c9 cr⟩
          rw [okS_s, h1]
          show (if σ.1 (2 + r) k = -9 then _ else _) = none
          rw [if_neg (fun q => c9 (e.symm.trans q)), if_neg (fun q => cr (by
            have := q.1
            rw [e, b.n8] at this
            exact this))]
theorem q_brings {σ τ : St} {x v : Int32} {n G L : Nat} {kd : Nat → Nat} (ht : (x, τ) = tBrings σ G kd n L v) : TM σ τ := by
  rw [show τ = (tBrings σ G kd n L v).2 from congrArg Prod.snd ht]
  unfold tBrings
  split
  · exact TM.rf
  · split
    · exact TM.rf
    · split
      · exact TM.rf.r
      · split
        · exact TM.rf.r
        · split
          · exact TM.rf.r
          · exact (TM.rf.u (by decide)).u (by decide)
theorem e_brings {ω ρ : St} {x y v : Int32} (h : Rel σ) (t : TM σ τ) (b : Br σ τ n kd L D) (ht : (x, τ) = tBrings σ (gaN kd n) kd n L v) (hf : fr τ ω) (hm : (y, ρ) = mBrings τ ω kd n L v) : x = y ∧ Rel ρ := by
  unfold tBrings at ht
  unfold mBrings at hm
  by_cases c : ¬ inR v 6
  · rw [if_pos c] at ht hm
    exact finF h ht hf hm
  rw [if_neg c] at ht hm
  by_cases c1 : ovM τ n
  · rw [if_pos (fun q => b.op.mp q c1)] at ht
    rw [if_pos c1] at hm
    exact finF h ht hf hm
  rw [if_neg (fun q => q (b.op.mpr c1))] at ht
  rw [if_neg c1] at hm
  obtain ⟨j, hj, ej, -⟩ := inR_nat (N := 6) (Classical.not_not.mp c) rfl (by decide)
  obtain ⟨a1, a2, a3, a4⟩ := h.rw hj
  rw [ej] at ht hm
  rw [t.1 65 (by decide), ← a1] at hm
  by_cases c2 : σ.1 8 j < 0
  · rw [if_pos c2] at ht hm
    exact finFR 1 h ht hf hm
  rw [if_neg c2] at ht hm
  by_cases c3 : 4 < σ.1 8 j
  · rw [if_pos c3] at ht hm
    exact finFR 5 h ht hf hm
  rw [if_neg c3] at ht hm
  have hp : ∀ k, k < ix (σ.1 8 j) → σ.1 (2 + j) k = rwM τ j k := fun k hk => by
    rw [a4 k hk]
    show _ = τ.1 66 (40 * j + k)
    rw [t.1 66 (by decide)]
  rcases ok_br b hp (ix (σ.1 8 j)) (Nat.le_refl _) with ⟨h1, h2⟩ | ⟨z, h1, h2, -, -⟩
  · rw [if_pos (by rw [h1]; exact Bool.false_ne_true)] at ht
    rw [if_pos h2] at hm
    exact finFR 3 h ht hf hm
  · rw [if_neg (fun q => q (by rw [h1]; rfl))] at ht
    rw [if_neg (fun q => q h2)] at hm
    rw [fl_gz b hp (bg_in b.n6 _ h2)] at hm
    have hm' : (y, ρ) = ((flS σ (gaN kd n) kd n L (2 + j) (ix (σ.1 8 j))).2.2.1 + τ.1 76 1 - τ.1 76 1, uI ω 63 2 (oI (flS σ (gaN kd n) kd n L (2 + j) (ix (σ.1 8 j))).2.2.2)) := hm
    rw [i_as] at hm'
    have hR : Rel (trS σ (flS σ (gaN kd n) kd n L (2 + j) (ix (σ.1 8 j))).t) := h.frT (frT.rf.u rfl)
    exact finFT hR ht hf hm'
end
