-- the state of the start, and that both sides agree there
def sg0 : St := (fun k => if k = 8 ∨ k = 14 ∨ k = 65 ∨ k = 68 then (fun _ => -1) else if k = 53 ∨ k = 56 ∨ k = 59 then (fun j => if j = 2 then -1 else 0) else fun _ => 0, fun k j => if (k = 0 ∧ j = 14) ∨ (k = 63 ∧ j = 4) then 1 else 0)
def GE (u : Un) (k : Nat) : va_E := g_e u sg0 k (Gam.getD k (.inl (.int, 0)))
theorem wU_of {u : Un} {b : Nat} {H : Heap} (hu : ∀ k, k < 87 → u.2.1 k = b + k) (h : ∀ k, k < 87 → va_at u.1 cls (b + k, GE u k) H) : va_P u.1 cls (wU u sg0) H := fun k q hq => by
  have hk : k < 87 := (wU_mem u sg0 hq).1
  have e : Gam[k]? = some (Gam.getD k (.inl (.int, 0))) := by
    have hl : k < Gam.length := hk
    rw [List.getD_eq_getElem?_getD, List.getElem?_eq_getElem hl]
    rfl
  have e2 := (wU_get u sg0 e).symm.trans hq
  have e3 := Option.some.inj e2
  rw [← e3, hu k hk]
  exact h k hk
set_option maxHeartbeats 4000000 in
set_option maxRecDepth 100000 in
theorem w_start {D : va_G} {b : Nat} {sa : Nat → Nat} {cc : Nat → ClassId} {H : Heap} (hT : va_P D cls (wE b (ZT b cc) 0 63) H) (hM : va_P D cls (wE b (ZM b cc) 63 87) H) : va_P (mkU D b sa cc).1 cls (wU (mkU D b sa cc) sg0) H := by
  refine wU_of (fun k hk => uAd_lt (by omega)) (fun k hk => ?_)
  rcases (show k = 0 ∨ k = 1 ∨ k = 2 ∨ k = 3 ∨ k = 4 ∨ k = 5 ∨ k = 6 ∨ k = 7 ∨ k = 8 ∨ k = 9 ∨ k = 10 ∨ k = 11 ∨ k = 12 ∨ k = 13 ∨ k = 14 ∨ k = 15 ∨ k = 16 ∨ k = 17 ∨ k = 18 ∨ k = 19 ∨ k = 20 ∨ k = 21 ∨ k = 22 ∨ k = 23 ∨ k = 24 ∨ k = 25 ∨ k = 26 ∨ k = 27 ∨ k = 28 ∨ k = 29 ∨ k = 30 ∨ k = 31 ∨ k = 32 ∨ k = 33 ∨ k = 34 ∨ k = 35 ∨ k = 36 ∨ k = 37 ∨ k = 38 ∨ k = 39 ∨ k = 40 ∨ k = 41 ∨ k = 42 ∨ k = 43 ∨ k = 44 ∨ k = 45 ∨ k = 46 ∨ k = 47 ∨ k = 48 ∨ k = 49 ∨ k = 50 ∨ k = 51 ∨ k = 52 ∨ k = 53 ∨ k = 54 ∨ k = 55 ∨ k = 56 ∨ k = 57 ∨ k = 58 ∨ k = 59 ∨ k = 60 ∨ k = 61 ∨ k = 62 ∨ k = 63 ∨ k = 64 ∨ k = 65 ∨ k = 66 ∨ k = 67 ∨ k = 68 ∨ k = 69 ∨ k = 70 ∨ k = 71 ∨ k = 72 ∨ k = 73 ∨ k = 74 ∨ k = 75 ∨ k = 76 ∨ k = 77 ∨ k = 78 ∨ k = 79 ∨ k = 80 ∨ k = 81 ∨ k = 82 ∨ k = 83 ∨ k = 84 ∨ k = 85 ∨ k = 86 by omega) with rfl | rfl | rfl | rfl | rfl | rfl | rfl | rfl | rfl | rfl | rfl | rfl | rfl | rfl | rfl | rfl | rfl | rfl | rfl | rfl | rfl | rfl | rfl | rfl | rfl | rfl | rfl | rfl | rfl | rfl | rfl | rfl | rfl | rfl | rfl | rfl | rfl | rfl | rfl | rfl | rfl | rfl | rfl | rfl | rfl | rfl | rfl | rfl | rfl | rfl | rfl | rfl | rfl | rfl | rfl | rfl | rfl | rfl | rfl | rfl | rfl | rfl | rfl | rfl | rfl | rfl | rfl | rfl | rfl | rfl | rfl | rfl | rfl | rfl | rfl | rfl | rfl | rfl | rfl | rfl | rfl | rfl | rfl | rfl | rfl | rfl | rfl
  · exact hT.at (i := 0) (by decide) (by decide)
  · refine at_q (fun j hj => ?_) (hT.at (i := 1) (by decide) (by decide))
    rcases (show j = 0 ∨ j = 1 ∨ j = 2 ∨ j = 3 ∨ j = 4 ∨ j = 5 by omega) with rfl | rfl | rfl | rfl | rfl | rfl <;> rfl
  · exact hT.at (i := 2) (by decide) (by decide)
  · exact hT.at (i := 3) (by decide) (by decide)
  · exact hT.at (i := 4) (by decide) (by decide)
  · exact hT.at (i := 5) (by decide) (by decide)
  · exact hT.at (i := 6) (by decide) (by decide)
  · exact hT.at (i := 7) (by decide) (by decide)
  · exact hT.at (i := 8) (by decide) (by decide)
  · refine at_q (fun j hj => ?_) (hT.at (i := 9) (by decide) (by decide))
    rcases (show j = 0 ∨ j = 1 ∨ j = 2 ∨ j = 3 by omega) with rfl | rfl | rfl | rfl <;> rfl
  · exact hT.at (i := 10) (by decide) (by decide)
  · exact hT.at (i := 11) (by decide) (by decide)
  · exact hT.at (i := 12) (by decide) (by decide)
  · exact hT.at (i := 13) (by decide) (by decide)
  · exact hT.at (i := 14) (by decide) (by decide)
  · exact hT.at (i := 15) (by decide) (by decide)
  · exact hT.at (i := 16) (by decide) (by decide)
  · exact hT.at (i := 17) (by decide) (by decide)
  · exact hT.at (i := 18) (by decide) (by decide)
  · exact hT.at (i := 19) (by decide) (by decide)
  · refine at_q (fun j hj => ?_) (hT.at (i := 20) (by decide) (by decide))
    rcases (show j = 0 ∨ j = 1 ∨ j = 2 ∨ j = 3 ∨ j = 4 ∨ j = 5 by omega) with rfl | rfl | rfl | rfl | rfl | rfl <;> rfl
  · exact hT.at (i := 21) (by decide) (by decide)
  · exact hT.at (i := 22) (by decide) (by decide)
  · exact hT.at (i := 23) (by decide) (by decide)
  · exact hT.at (i := 24) (by decide) (by decide)
  · exact hT.at (i := 25) (by decide) (by decide)
  · exact hT.at (i := 26) (by decide) (by decide)
  · exact hT.at (i := 27) (by decide) (by decide)
  · exact hT.at (i := 28) (by decide) (by decide)
  · exact hT.at (i := 29) (by decide) (by decide)
  · exact hT.at (i := 30) (by decide) (by decide)
  · exact hT.at (i := 31) (by decide) (by decide)
  · exact hT.at (i := 32) (by decide) (by decide)
  · exact hT.at (i := 33) (by decide) (by decide)
  · exact hT.at (i := 34) (by decide) (by decide)
  · exact hT.at (i := 35) (by decide) (by decide)
  · exact hT.at (i := 36) (by decide) (by decide)
  · exact hT.at (i := 37) (by decide) (by decide)
  · exact hT.at (i := 38) (by decide) (by decide)
  · exact hT.at (i := 39) (by decide) (by decide)
  · exact hT.at (i := 40) (by decide) (by decide)
  · refine at_q (fun j hj => ?_) (hT.at (i := 41) (by decide) (by decide))
    rcases (show j = 0 ∨ j = 1 ∨ j = 2 ∨ j = 3 ∨ j = 4 ∨ j = 5 by omega) with rfl | rfl | rfl | rfl | rfl | rfl <;> rfl
  · exact hT.at (i := 42) (by decide) (by decide)
  · exact hT.at (i := 43) (by decide) (by decide)
  · exact hT.at (i := 44) (by decide) (by decide)
  · exact hT.at (i := 45) (by decide) (by decide)
  · exact hT.at (i := 46) (by decide) (by decide)
  · exact hT.at (i := 47) (by decide) (by decide)
  · exact hT.at (i := 48) (by decide) (by decide)
  · exact hT.at (i := 49) (by decide) (by decide)
  · exact hT.at (i := 50) (by decide) (by decide)
  · exact hT.at (i := 51) (by decide) (by decide)
  · refine at_q (fun j hj => ?_) (hT.at (i := 52) (by decide) (by decide))
    rcases (show j = 0 ∨ j = 1 ∨ j = 2 by omega) with rfl | rfl | rfl <;> rfl
  · exact hT.at (i := 53) (by decide) (by decide)
  · exact hT.at (i := 54) (by decide) (by decide)
  · exact hT.at (i := 55) (by decide) (by decide)
  · exact hT.at (i := 56) (by decide) (by decide)
  · exact hT.at (i := 57) (by decide) (by decide)
  · exact hT.at (i := 58) (by decide) (by decide)
  · exact hT.at (i := 59) (by decide) (by decide)
  · exact hT.at (i := 60) (by decide) (by decide)
  · exact hT.at (i := 61) (by decide) (by decide)
  · exact hT.at (i := 62) (by decide) (by decide)
  · exact hM.at (i := 63) (by decide) (by decide)
  · exact hM.at (i := 64) (by decide) (by decide)
  · exact hM.at (i := 65) (by decide) (by decide)
  · exact hM.at (i := 66) (by decide) (by decide)
  · exact hM.at (i := 67) (by decide) (by decide)
  · exact hM.at (i := 68) (by decide) (by decide)
  · exact hM.at (i := 69) (by decide) (by decide)
  · exact hM.at (i := 70) (by decide) (by decide)
  · exact hM.at (i := 71) (by decide) (by decide)
  · exact hM.at (i := 72) (by decide) (by decide)
  · exact hM.at (i := 73) (by decide) (by decide)
  · exact hM.at (i := 74) (by decide) (by decide)
  · exact hM.at (i := 75) (by decide) (by decide)
  · exact hM.at (i := 76) (by decide) (by decide)
  · exact hM.at (i := 77) (by decide) (by decide)
  · exact hM.at (i := 78) (by decide) (by decide)
  · exact hM.at (i := 79) (by decide) (by decide)
  · exact hM.at (i := 80) (by decide) (by decide)
  · exact hM.at (i := 81) (by decide) (by decide)
  · exact hM.at (i := 82) (by decide) (by decide)
  · exact hM.at (i := 83) (by decide) (by decide)
  · exact hM.at (i := 84) (by decide) (by decide)
  · exact hM.at (i := 85) (by decide) (by decide)
  · exact hM.at (i := 86) (by decide) (by decide)
theorem Rel_0 : Rel sg0 := by
  have e8 : ∀ r, sg0.1 8 r = -1 := fun r => rfl
  have e14 : ∀ r, sg0.1 14 r = -1 := fun r => rfl
  have ei : ix (-1) = 0 := rfl
  refine ⟨⟨fun r hr => ⟨rfl, ?_, ?_, fun i hi => ?_⟩, fun t ht => ⟨rfl, ?_, ?_, fun i hi => ?_⟩, fun f hf => rfl, rfl, rfl⟩, ⟨rfl, rfl⟩, 0, (fun _ => 0), 0, (fun _ => 0), (fun _ => 0), ?_⟩
  · rw [e8]
    exact Int32.le_refl _
  · rw [e8]
    decide
  · rw [e8, ei] at hi
    exact absurd hi (Nat.not_lt_zero _)
  · rw [e14]
    exact Int32.le_refl _
  · rw [e14]
    decide
  · rw [e14, ei] at hi
    exact absurd hi (Nat.not_lt_zero _)
  · have z : (0 : Int32) = nI 0 := nI_0.symm
    refine RB_new (by decide) z z z (fun i hi => absurd hi (Nat.not_lt_zero _)) ⟨rfl, rfl, rfl, rfl, ⟨0, by decide, z⟩, ⟨0, by decide, z⟩, ⟨0, by decide, z⟩, 0, by decide, z, fun h => absurd h (Nat.lt_irrefl _)⟩ rfl rfl ⟨z, rfl, rfl, rfl, rfl, fun i hi => absurd hi (Nat.not_lt_zero _)⟩ ⟨z, rfl, rfl, rfl, rfl, fun i hi => absurd hi (Nat.not_lt_zero _)⟩ (fun i hi => absurd hi (Nat.not_lt_zero _)) ⟨rfl, rfl, rfl⟩ (fun k hk => rfl)
