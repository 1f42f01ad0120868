-- the relation through a deed
theorem p5_eq : ∀ b, b < 10 → ∀ c, c < 3 → (if 0 < nI b + nI c then nI b + nI c - 1 else 0) = (if 0 < nI b + nI c - 1 then nI b + nI c - 1 else 0) := by decide +kernel
theorem pr_eq {k b c : Nat} (hb : b < 10) (hc : c < 3) : priceM k (nI b) (nI c) = priceS k (nI b) (nI c) := by
  unfold priceM
  by_cases h2 : k = 2
  · subst h2
    rfl
  · by_cases h5 : k = 5
    · subst h5
      rw [if_neg h2, if_pos rfl]
      exact p5_eq b hb c hc
    · rw [if_neg h2, if_neg h5]
      unfold priceS
      split
      · exact absurd rfl h2
      · exact absurd rfl h5
      · rfl
theorem tk_c {kd : Nat → Nat} {bo cr bo' cr' : Nat → Int32} {fe : Int32} {G L n : Nat} (h : ∀ i, i < n → cr i = cr' i) (h2 : ∀ i, i < n → bo i = bo' i) : mkN (tkF kd bo cr fe G L) n = mkN (tkF kd bo' cr' fe G L) n := mkN_c n (fun i hi => by
  unfold tkF
  rw [h i hi, h2 i hi])
theorem lt_c {kd : Nat → Nat} {sk sk' : Nat → Int32} {G L n : Nat} (h : ∀ i, i < n → sk i = sk' i) : sumI (ltA kd sk G L) n = sumI (ltA kd sk' G L) n := sumI_c n (fun i hi => by
  unfold ltA ltF
  rw [h i hi])
theorem aStep_c {n : Nat} {kd : Nat → Nat} {sk bo hd sk' bo' hd' : Nat → Int32} (h1 : ∀ i, i < n → sk i = sk' i) (h2 : ∀ i, i < n → bo i = bo' i) (h3 : ∀ j, j < 4 → hd j = hd' j) {w a : Nat} {z : Ab} : aStep n kd sk bo hd w a z = aStep n kd sk' bo' hd' w a z := by
  unfold aStep aTr
  rw [tk_c (fun _ _ => rfl) h2, lt_c h1, h3 0 (by omega), h3 1 (by omega), h3 2 (by omega), h3 3 (by omega)]
theorem aRun_w {n : Nat} {kd : Nat → Nat} {sk bo hd fc : Nat → Int32} {wN aN wN' aN' : Nat → Nat} : ∀ d, (∀ i, i < d → wN i = wN' i ∧ aN i = aN' i) → aRun n kd sk bo hd fc wN aN d = aRun n kd sk bo hd fc wN' aN' d
  | 0, _ => rfl
  | d + 1, h => by
    show aStep _ _ _ _ _ _ _ _ = aStep _ _ _ _ _ _ _ _
    rw [aRun_w d (fun i hi => h i (by omega)), (h d (by omega)).1, (h d (by omega)).2]
theorem stS_ab {σ : St} {n : Nat} {kd : Nat → Nat} {z : Ab} {w a : Nat} (h : tOk n z (σ.1 19) (σ.1 31)) (hw : w < 4) (ha : 2 ≤ w → a < n) : tOk n (aStep n kd (σ.1 28) (σ.1 29) (hdF σ.1) w a z) ((stS kd (gaN kd n) n w a z.L σ).1 19) ((stS kd (gaN kd n) n w a z.L σ).1 31) := by
  obtain ⟨h1, h2, h3, h4, h5, h6⟩ := h
  have et : mkN (tkS σ (gaN kd n) kd z.L) n = mkN (tkF kd (σ.1 29) z.C (σ.1 19 11) (gaN kd n) z.L) n := tk_c h6 (fun _ _ => rfl)
  rcases w with _ | _ | _ | _ | w
  · show tOk n _ ((enW σ (gaN kd n) kd n z.L).1 19) ((enW σ (gaN kd n) kd n z.L).1 31)
    unfold enW
    rw [et]
    refine ⟨?_, ?_, ?_, ?_, ?_, fun i hi => ?_⟩
    · rw [uI_n _ _ _ _ (by decide), uI_n _ _ _ _ (by decide), uI_n _ _ _ _ (by decide)]; exact h1
    · rw [uI_n _ _ _ _ (by decide), uI_n _ _ _ _ (by decide), uI_n _ _ _ _ (by decide)]; exact h2
    · rw [uI_s, h3]; rfl
    · rw [uI_n _ _ _ _ (by decide), uI_n _ _ _ _ (by decide), uI_s, h4]; rfl
    · rw [uI_n _ _ _ _ (by decide), uI_s]; rfl
    · rw [uI_o _ _ _ _ (by decide), uI_o _ _ _ _ (by decide), uI_o _ _ _ _ (by decide)]; exact h6 i hi
  · show tOk n _ ((enG σ (nI a)).1 19) ((enG σ (nI a)).1 31)
    unfold enG
    refine ⟨?_, ?_, ?_, ?_, ?_, fun i hi => ?_⟩
    · rw [uI_n _ _ _ _ (by decide), uI_n _ _ _ _ (by decide)]; exact h1
    · rw [uI_s, h2]; rfl
    · rw [uI_n _ _ _ _ (by decide), uI_s, h3]; rfl
    · rw [uI_n _ _ _ _ (by decide), uI_n _ _ _ _ (by decide)]; exact h4
    · rw [uI_n _ _ _ _ (by decide), uI_n _ _ _ _ (by decide)]; exact h5
    · rw [uI_o _ _ _ _ (by decide), uI_o _ _ _ _ (by decide)]; exact h6 i hi
  · show tOk n _ ((enC σ a).1 19) ((enC σ a).1 31)
    unfold enC
    refine ⟨?_, ?_, ?_, ?_, ?_, fun i hi => ?_⟩
    · rw [uI_o _ _ _ _ (by decide)]; exact h1
    · rw [uI_o _ _ _ _ (by decide)]; exact h2
    · rw [uI_o _ _ _ _ (by decide)]; exact h3
    · rw [uI_o _ _ _ _ (by decide)]; exact h4
    · rw [uI_o _ _ _ _ (by decide)]; exact h5
    · show _ = upd z.C a (z.C a + 1) i
      by_cases e : i = a
      · subst e
        rw [uI_s, pk_us, h6 i hi]
      · rw [uI_n _ _ _ _ e, pk_un e]
        exact h6 i hi
  · show tOk n _ ((enH σ kd a z.L).1 19) ((enH σ kd a z.L).1 31)
    unfold enH
    refine ⟨uI_s _ _ _ _, ?_, ?_, ?_, ?_, fun i hi => ?_⟩
    · rw [uI_n _ _ _ _ (by decide), uI_s, h2, h6 a (ha (by omega))]; rfl
    · rw [uI_n _ _ _ _ (by decide), uI_n _ _ _ _ (by decide)]; exact h3
    · rw [uI_n _ _ _ _ (by decide), uI_n _ _ _ _ (by decide)]; exact h4
    · rw [uI_n _ _ _ _ (by decide), uI_n _ _ _ _ (by decide)]; exact h5
    · rw [uI_o _ _ _ _ (by decide), uI_o _ _ _ _ (by decide)]; exact h6 i hi
  · omega
theorem stL_ab {n : Nat} {kd : Nat → Nat} {sk bo hd : Nat → Int32} {w a : Nat} {z : Ab} (hw : w < 4) : stL w a z.L = (aStep n kd sk bo hd w a z).L := by
  rcases w with _ | _ | _ | _ | w
  · rfl
  · rfl
  · rfl
  · rfl
  · omega
theorem rpS_f (σ : St) (kd : Nat → Nat) (G n : Nat) (wN aN : Nat → Nat) {j : Nat} (h : j ≠ 14 ∧ j ≠ 15 ∧ j ≠ 16 ∧ j ≠ 17 ∧ j ≠ 18) : ∀ d, (rpS σ kd G n wN aN d).1.1 19 j = σ.1 19 j
  | 0 => rsS_f σ n h
  | d + 1 => by rw [rpS, stS_f _ _ _ _ _ _ _ h, rpS_f σ kd G n wN aN h d]
theorem rpS_2 (σ : St) (kd : Nat → Nat) (G n : Nat) (wN aN : Nat → Nat) : ∀ d, (rpS σ kd G n wN aN d).1.2 = σ.2
  | 0 => cpF_2 _ _ _ _ _
  | d + 1 => by
    have ih := rpS_2 σ kd G n wN aN d
    rw [rpS]
    unfold stS
    split <;> exact ih
theorem rp_ab {σ : St} {n : Nat} {kd : Nat → Nat} (hb : bkOk σ n (gaN kd n) kd) {wN aN : Nat → Nat} : ∀ d, (∀ i, i < d → wN i < 4 ∧ (2 ≤ wN i → aN i < n)) → (rpS σ kd (gaN kd n) n wN aN d).2 = (runF σ.1 n kd wN aN d).L ∧ tOk n (runF σ.1 n kd wN aN d) ((rpS σ kd (gaN kd n) n wN aN d).1.1 19) ((rpS σ kd (gaN kd n) n wN aN d).1.1 31)
  | 0, _ => by
    refine ⟨rfl, ?_⟩
    show tOk n _ ((rsS σ n).1 19) ((rsS σ n).1 31)
    unfold rsS
    refine ⟨?_, ?_, ?_, ?_, uI_s _ _ _ _, fun i hi => ?_⟩
    · rw [uI_n _ _ _ _ (by decide), uI_n _ _ _ _ (by decide), uI_n _ _ _ _ (by decide), uI_n _ _ _ _ (by decide), uI_s]; rfl
    · rw [uI_n _ _ _ _ (by decide), uI_n _ _ _ _ (by decide), uI_s]; rfl
    · rw [uI_n _ _ _ _ (by decide), uI_s]; rfl
    · rw [uI_n _ _ _ _ (by decide), uI_n _ _ _ _ (by decide), uI_n _ _ _ _ (by decide), uI_s]; rfl
    · rw [uI_o _ _ _ _ (by decide), uI_o _ _ _ _ (by decide), uI_o _ _ _ _ (by decide), uI_o _ _ _ _ (by decide), uI_o _ _ _ _ (by decide)]
      exact cpF_a0 _ _ _ hi
  | d + 1, h => by
    obtain ⟨h1, h2⟩ := rp_ab hb d (fun i hi => h i (by omega))
    obtain ⟨hw, ha⟩ := h d (by omega)
    have hk := (rpS_facts hb wN aN d).2.2.2
    have hs : ∀ i, i < n → (rpS σ kd (gaN kd n) n wN aN d).1.1 28 i = σ.1 28 i := fun i _ => by rw [hk _ (by decide) (by decide)]
    have hbo : ∀ i, i < n → (rpS σ kd (gaN kd n) n wN aN d).1.1 29 i = σ.1 29 i := fun i _ => by rw [hk _ (by decide) (by decide)]
    have hh : ∀ j, j < 4 → hdF (rpS σ kd (gaN kd n) n wN aN d).1.1 j = hdF σ.1 j := fun j hj => by
      unfold hdF
      rw [rpS_f _ _ _ _ _ _ (by decide) d, rpS_f _ _ _ _ _ _ (by decide) d, rpS_f _ _ _ _ _ _ (by decide) d, rpS_f _ _ _ _ _ _ (by decide) d]
    have e := stS_ab (kd := kd) h2 hw ha
    rw [aStep_c hs hbo hh] at e
    refine ⟨?_, ?_⟩
    · show stL _ _ _ = _
      rw [h1]
      exact stL_ab hw
    · show tOk n (aStep _ _ _ _ _ _ _ _) ((stS _ _ _ _ _ _ _).1 19) ((stS _ _ _ _ _ _ _).1 31)
      rw [h1]
      exact e
