-- plans: the tree against the numbers
theorem na_rc (a b c : Nat) : a &&& b &&& c = a &&& c &&& b := by rw [Nat.and_assoc, Nat.and_comm b, ← Nat.and_assoc]
section
variable {τ : St} {n : Nat} {kd : Nat → Nat} {L W : Nat}
theorem gz_sub (hL : L < 64) {pl : Nat → Int32} (k : Nat) : (gzS τ kd n L pl k).L < 64 ∧ (gzS τ kd n L pl k).L &&& (63 ^^^ L) = 0 := by
  refine itr_b (fun z : Fl => z.L < 64 ∧ z.L &&& (63 ^^^ L) = 0) ⟨hL, and_x63 L hL⟩ (fun i z hz => ?_) k
  have hg : gN pl i z.L < 64 ∧ gN pl i z.L &&& (63 ^^^ L) = 0 := by
    refine ⟨gN_64 hz.1, ?_⟩
    unfold gN
    split
    · exact hz.2
    · rw [na_rc, hz.2, Nat.zero_and]
  unfold gzF
  split
  · split <;> exact hg
  · exact hz
theorem pl_9 {pl : Nat → Int32} {k : Nat} (h : pl k = -9) (M : Nat) (m : Int32) : gN pl k M = M ∧ gMn τ kd pl k m = m := by
  unfold gN gMn
  rw [if_pos h, if_pos h]
  exact ⟨rfl, rfl⟩
theorem pl_w {pl : Nat → Int32} {k v : Nat} (h : pl k = nI v) (hv : v < 6) (M : Nat) (m : Int32) : gN pl k M = M &&& (63 ^^^ 2 ^ v) ∧ gMn τ kd pl k m = m + priceM (kd v) (τ.1 70 0) (τ.1 76 (5 + v)) := by
  have e9 : ¬ pl k = -9 := by
    rw [h]
    exact nI_n9 (by omega)
  unfold gN gMn
  rw [if_neg e9, if_neg e9, h, ix_nI (by omega)]
  exact ⟨rfl, rfl⟩
def chP (τ : St) (kd : Nat → Nat) (n L W k w P : Nat) (s2 : St) : Prop := RR τ kd n L W (gofS W k w (gzS τ kd n L (plN (n + 1) w P) w).L (gzS τ kd n L (plN (n + 1) w P) w).s ((gzS τ kd n L (plN (n + 1) w P) w).m - τ.1 76 1) s2) ((P + 1) * (n + 1) ^ k) ∧ ∀ i, i < w → (gofS W k w (gzS τ kd n L (plN (n + 1) w P) w).L (gzS τ kd n L (plN (n + 1) w P) w).s ((gzS τ kd n L (plN (n + 1) w P) w).m - τ.1 76 1) s2).1 38 i = plN (n + 1) w P i
theorem child (hL : L < 64) {k w P d : Nat} (hW : w + (k + 1) = W) (hd : d < n + 1) (hvd : Vd (n + 1) L (P * (n + 1) + d) (w + 1)) (ht : (gzS τ kd n L (plN (n + 1) w P) w).t = none) {s1 : St} (hS : S1 τ kd n L s1) (h38 : ∀ i, i < w → s1.1 38 i = plN (n + 1) w P i) (hR : RR τ kd n L W s1 ((P * (n + 1) + d) * (n + 1) ^ k))
    (IH : (gzS τ kd n L (plN (n + 1) (w + 1) (P * (n + 1) + d)) (w + 1)).t = none → ∀ s2, S1 τ kd n L s2 → (∀ i, i < w + 1 → s2.1 38 i = plN (n + 1) (w + 1) (P * (n + 1) + d) i) → RR τ kd n L W s2 ((P * (n + 1) + d) * (n + 1) ^ k) → chP τ kd n L W k (w + 1) (P * (n + 1) + d) s2)
    {gv money : Int32} {left : Nat} (egv : gv = if d = 0 then -9 else nI (d - 1)) (el : left = gN (plN (n + 1) (w + 1) (P * (n + 1) + d)) w (gzS τ kd n L (plN (n + 1) w P) w).L) (em : money = gMn τ kd (plN (n + 1) (w + 1) (P * (n + 1) + d)) w (gzS τ kd n L (plN (n + 1) w P) w).m - τ.1 76 1) :
    RR τ kd n L W (paS W (gofS W k (w + 1)) w gv left (gzS τ kd n L (plN (n + 1) w P) w).s money s1) ((P * (n + 1) + d + 1) * (n + 1) ^ k) ∧ ∀ i, i < w → (paS W (gofS W k (w + 1)) w gv left (gzS τ kd n L (plN (n + 1) w P) w).s money s1).1 38 i = plN (n + 1) w P i := by
  have hsub := gz_sub (τ := τ) (kd := kd) (n := n) hL (pl := plN (n + 1) w P) w
  have ep : gzS τ kd n L (plN (n + 1) (w + 1) (P * (n + 1) + d)) w = gzS τ kd n L (plN (n + 1) w P) w := gz_c w (fun i hi => pl_up hd hi)
  have es : gzS τ kd n L (plN (n + 1) (w + 1) (P * (n + 1) + d)) (w + 1) = gzF τ kd n (plN (n + 1) (w + 1) (P * (n + 1) + d)) w (gzS τ kd n L (plN (n + 1) w P) w) := by rw [gz_s, ep]
  have etop := pl_top (N := n + 1) (w := w) (P := P) hd
  have hpu : ∀ i, i < w → plN (n + 1) (w + 1) (P * (n + 1) + d) i = plN (n + 1) w P i := fun i hi => pl_up hd hi
  unfold chP at IH
  generalize gzS τ kd n L (plN (n + 1) w P) w = y at *
  obtain ⟨yL, ys, ym, yt⟩ := y
  have hyt : yt = none := ht
  subst hyt
  have hsub1 : yL < 64 := hsub.1
  have hsub2 : yL &&& (63 ^^^ L) = 0 := hsub.2
  have el' : left = gN (plN (n + 1) (w + 1) (P * (n + 1) + d)) w yL := el
  have em' : money = gMn τ kd (plN (n + 1) (w + 1) (P * (n + 1) + d)) w ym - τ.1 76 1 := em
  show RR τ kd n L W (paS W (gofS W k (w + 1)) w gv left ys money s1) ((P * (n + 1) + d + 1) * (n + 1) ^ k) ∧ ∀ i, i < w → (paS W (gofS W k (w + 1)) w gv left ys money s1).1 38 i = plN (n + 1) w P i
  have hl64 : left < 64 := by
    rw [el']
    exact gN_64 hsub1
  have hlz : left &&& (63 ^^^ L) = 0 := by
    rw [el']
    unfold gN
    split
    · exact hsub2
    · rw [na_rc, hsub2, Nat.zero_and]
  have hS2 : S1 τ kd n L (uI s1 38 w gv) := hS.k plK_plan
  have hR2 : RR τ kd n L W (uI s1 38 w gv) ((P * (n + 1) + d) * (n + 1) ^ k) := hR.c (uI_o _ _ _ _ (by decide)) (uI_o _ _ _ _ (by decide))
  have h382 : ∀ i, i < w + 1 → (uI s1 38 w gv).1 38 i = plN (n + 1) (w + 1) (P * (n + 1) + d) i := fun i hi => by
    by_cases c : i = w
    · subst c
      rw [uI_s, egv, etop]
    · rw [uI_n _ _ _ _ c, hpu i (by omega)]
      exact h38 i (by omega)
  obtain ⟨c35, c36⟩ := hS2.1 left hl64 hlz
  have c6 := hS2.2.2.1
  have epa : paS W (gofS W k (w + 1)) w gv left ys money s1 = if (uI s1 38 w gv).1 35 left = 0 then gofS W k (w + 1) left 0 (money + (uI s1 38 w gv).1 34 6 * (ys + (uI s1 38 w gv).1 36 left)) (uI s1 38 w gv) else endS W (w + 1) money (uI s1 38 w gv) := rfl
  generalize paS W (gofS W k (w + 1)) w gv left ys money s1 = s3 at *
  generalize uI s1 38 w gv = s2 at *
  rw [c35, c36, c6] at epa
  by_cases c : trX τ kd n (nwC τ) left
  · have ey := es.trans (gzF_t (s := ys) (m := ym) (by rw [← el']; exact c))
    rw [bI_t c, if_neg (by decide)] at epa
    have hb := blk_tr (τ := τ) (kd := kd) (n := n) (L := L) (W := W) (P := P * (n + 1) + d) (k := k) (w := w + 1) (by omega) hvd (by rw [ey]; exact fun q => by cases q) hR2 h382
    rw [ey] at hb
    have hb' : RR τ kd n L W (endS W (w + 1) (gMn τ kd (plN (n + 1) (w + 1) (P * (n + 1) + d)) w ym - τ.1 76 1) s2) ((P * (n + 1) + d + 1) * (n + 1) ^ k) := hb
    rw [← em'] at hb'
    rw [epa]
    refine ⟨hb', fun i hi => ?_⟩
    rw [end_38, h382 i (by omega), hpu i hi]
  · have ey := es.trans (gzF_y (s := ys) (m := ym) (by rw [← el']; exact c))
    rw [bI_f c, if_pos rfl] at epa
    have hb := IH (by rw [ey]) s2 hS2 h382 hR2
    rw [ey] at hb
    have hb' : RR τ kd n L W (gofS W k (w + 1) (gN (plN (n + 1) (w + 1) (P * (n + 1) + d)) w yL) 0 (gMn τ kd (plN (n + 1) (w + 1) (P * (n + 1) + d)) w ym + (ys + sumI (ltA kd (τ.1 72) (gaN kd n) (gN (plN (n + 1) (w + 1) (P * (n + 1) + d)) w yL)) n) * τ.1 70 1 - τ.1 76 1) s2) ((P * (n + 1) + d + 1) * (n + 1) ^ k) ∧ ∀ i, i < w + 1 → (gofS W k (w + 1) (gN (plN (n + 1) (w + 1) (P * (n + 1) + d)) w yL) 0 (gMn τ kd (plN (n + 1) (w + 1) (P * (n + 1) + d)) w ym + (ys + sumI (ltA kd (τ.1 72) (gaN kd n) (gN (plN (n + 1) (w + 1) (P * (n + 1) + d)) w yL)) n) * τ.1 70 1 - τ.1 76 1) s2).1 38 i = plN (n + 1) (w + 1) (P * (n + 1) + d) i := hb
    rw [i_ac, ← em', ← el', Int32.mul_comm, ← epa] at hb'
    exact ⟨hb'.1, fun i hi => by rw [hb'.2 i (by omega), hpu i hi]⟩
end
