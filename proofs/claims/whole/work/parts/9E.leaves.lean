-- what the class leaves alone: the others
theorem tdS_tm {σ : St} (o : Option Nat) : TM σ (tdS σ o) := by
  cases o with
  | none => exact TM.rf
  | some s => exact TM.rf.u (by decide)
theorem TM.tr {σ τ ρ : St} (h : TM σ τ) (h2 : TM τ ρ) : TM σ ρ := ⟨fun k hk => (h2.1 k hk).trans (h.1 k hk), fun k hk => (h2.2 k hk).trans (h.2 k hk)⟩
theorem wgd_tm {σ : St} {G n L : Nat} {kd : Nat → Nat} : TM σ (wgd σ G kd n L) := frT.tm (wgS_fr n)
theorem q_thief {σ τ : St} {x : Int32} {G L : Nat} {kd : Nat → Nat} {i w : Int32} (ht : (x, τ) = tThief σ G kd L i w) : TM σ τ := by
  rw [show τ = (tThief σ G kd L i w).2 from congrArg Prod.snd ht]
  unfold tThief
  split
  · exact TM.rf
  · exact TM.rf.u (by decide)
theorem q_mark {σ τ : St} {x : Int32} {n G L : Nat} {kd : Nat → Nat} {i w : Int32} (ht : (x, τ) = tMark σ G kd n L i w) : TM σ τ := by
  rw [show τ = (tMark σ G kd n L i w).2 from congrArg Prod.snd ht]
  unfold tMark
  split
  · exact TM.rf
  · split
    · exact TM.rf
    · exact TM.rf.r
theorem q_speak {σ τ : St} {x : Int32} {n G L : Nat} {kd : Nat → Nat} (ht : (x, τ) = tSpeak σ G kd n L) : TM σ τ := by
  rw [show τ = (tSpeak σ G kd n L).2 from congrArg Prod.snd ht]
  unfold tSpeak
  split
  · exact TM.rf
  · exact TM.rf.u (by decide)
theorem q_safe {σ τ : St} {x : Int32} {n G L : Nat} {kd : Nat → Nat} (ht : (x, τ) = tSafe σ G kd n L) : TM σ τ := by
  rw [show τ = (tSafe σ G kd n L).2 from congrArg Prod.snd ht]
  unfold tSafe
  split
  · exact TM.rf
  · exact tdS_tm _
theorem q_heads {σ τ : St} {x : Int32} {n G L : Nat} {kd : Nat → Nat} {v : Int32} (ht : (x, τ) = tHeads σ G kd n L v) : TM σ τ := by
  rw [show τ = (tHeads σ G kd n L v).2 from congrArg Prod.snd ht]
  unfold tHeads
  split
  · exact TM.rf
  · split
    · exact TM.rf
    · split
      · exact TM.rf
      · exact wgd_tm.tr (tdS_tm _)
theorem q_fits {σ τ : St} {x : Int32} {n G L : Nat} {kd : Nat → Nat} {v : Int32} (ht : (x, τ) = tFits σ G kd n L v) : TM σ τ := by
  rw [show τ = (tFits σ G kd n L v).2 from congrArg Prod.snd ht]
  unfold tFits
  split
  · exact TM.rf
  · split
    · exact TM.rf
    · exact ((wgd_tm.l (by decide)).l (by decide)).u (by decide)
theorem q_sum {σ τ : St} {x : Int32} {n G L : Nat} {kd : Nat → Nat} {v : Int32} (ht : (x, τ) = tSum σ G kd n L v) : TM σ τ := by
  rw [show τ = (tSum σ G kd n L v).2 from congrArg Prod.snd ht]
  unfold tSum
  split
  · exact TM.rf
  · split
    · exact TM.rf
    · show TM σ (if _ then _ else _)
      split
      · exact wgd_tm
      · exact wgd_tm.u (by decide)
theorem q_odds {σ τ : St} {x : Int32} {n G L : Nat} {kd : Nat → Nat} {v : Int32} (ht : (x, τ) = tOdds σ G kd n L v) : TM σ τ := by
  rw [show τ = (tOdds σ G kd n L v).2 from congrArg Prod.snd ht]
  unfold tOdds
  split
  · exact TM.rf
  · split
    · exact TM.rf
    · exact (TM.rf.l (by decide)).l (by decide)
theorem q_mid {σ τ : St} {x : Int32} {n G L : Nat} {kd : Nat → Nat} {lo : Nat} {v : Int32} (ht : (x, τ) = tMid σ G kd n L lo v) : TM σ τ := by
  rw [show τ = (tMid σ G kd n L lo v).2 from congrArg Prod.snd ht]
  unfold tMid
  split
  · exact TM.rf
  · split
    · exact TM.rf
    · exact (TM.rf.l (by decide)).l (by decide)
theorem add_tm {σ : St} {D : Nat} {w a : Int32} : TM σ (addS σ D w a) := ((TM.rf.u (by decide)).u (by decide)).u (by decide)
theorem q_week {σ τ : St} {x : Int32} {n G L D : Nat} {kd : Nat → Nat} (ht : (x, τ) = tWeek σ G kd n L D) : TM σ τ := by
  rw [show τ = (tWeek σ G kd n L D).2 from congrArg Prod.snd ht]
  unfold tWeek
  split
  · exact TM.rf
  · split
    · exact TM.rf
    · exact (((add_tm.u (by decide)).u (by decide)).u (by decide)).u (by decide)
theorem q_back {σ τ : St} {x : Int32} {D : Nat} {m : Int32} (ht : (x, τ) = tBack σ D m) : TM σ τ := by
  rw [show τ = (tBack σ D m).2 from congrArg Prod.snd ht]
  unfold tBack
  split
  · exact TM.rf
  · split
    · exact TM.rf
    · split
      · exact TM.rf
      · split
        · exact TM.rf
        · exact (add_tm.u (by decide)).u (by decide)
theorem q_cross {σ τ : St} {x : Int32} {L D : Nat} {i : Int32} (ht : (x, τ) = tCross σ L D i) : TM σ τ := by
  rw [show τ = (tCross σ L D i).2 from congrArg Prod.snd ht]
  unfold tCross
  split
  · exact TM.rf
  · split
    · exact TM.rf
    · split
      · exact TM.rf
      · exact add_tm.u (by decide)
theorem q_give {σ τ : St} {x : Int32} {L D : Nat} {kd : Nat → Nat} {i : Int32} (ht : (x, τ) = tGive σ kd L D i) : TM σ τ := by
  rw [show τ = (tGive σ kd L D i).2 from congrArg Prod.snd ht]
  unfold tGive
  split
  · exact TM.rf
  · split
    · exact TM.rf
    · split
      · exact TM.rf
      · exact (add_tm.u (by decide)).u (by decide)
theorem q_tri {σ τ σz : St} {x z i r : Int32} (ht : trRes σ i r (fun _ => True) x τ z σz) (hz : TM σ σz) : TM σ τ := by
  unfold trRes at ht
  rcases ht with ⟨-, -, e⟩ | ⟨-, ⟨-, -, e⟩ | ⟨-, -, -, e⟩ | ⟨-, -, -, -, e⟩ | ⟨-, -, -, -, e⟩⟩
  · rw [← e]
    exact TM.rf
  · rw [e]
    exact TM.rf.r
  · rw [e]
    exact TM.rf.r
  · rw [← e]
    exact hz
  · rw [e]
    exact TM.rf.r
theorem q_sure {σ τ : St} {n G L : Nat} {kd : Nat → Nat} {v x : Int32} (ht : (¬ (0 ≤ v ∧ v ≤ 99) ∧ -1 = x ∧ σ = τ) ∨ ((0 ≤ v ∧ v ≤ 99) ∧ σ.1 19 8 = 0 ∧ -4 = x ∧ σ = τ) ∨ ((0 ≤ v ∧ v ≤ 99) ∧ ¬ σ.1 19 8 = 0 ∧ exS (wgd σ G kd n L) L v ∧ (x, τ) = tSure (wgd σ G kd n L) L v) ∨ ((0 ≤ v ∧ v ≤ 99) ∧ ¬ σ.1 19 8 = 0 ∧ ¬ exS (wgd σ G kd n L) L v ∧ -3 = x ∧ τ = tRef (wgd σ G kd n L) 4)) : TM σ τ := by
  rcases ht with ⟨-, -, e⟩ | ⟨-, -, -, e⟩ | ⟨-, -, -, e⟩ | ⟨-, -, -, -, e⟩
  · rw [← e]
    exact TM.rf
  · rw [← e]
    exact TM.rf
  · rw [show τ = _ from congrArg Prod.snd e]
    exact wgd_tm.u (by decide)
  · rw [e]
    exact wgd_tm.r
theorem q_ask {σ τ : St} {n G L : Nat} {kd : Nat → Nat} {v x : Int32} (ht : (¬ (0 ≤ v ∧ v ≤ 99) ∧ -1 = x ∧ σ = τ) ∨ ((0 ≤ v ∧ v ≤ 99) ∧ σ.1 19 8 = 0 ∧ -4 = x ∧ σ = τ) ∨ ((0 ≤ v ∧ v ≤ 99) ∧ ¬ σ.1 19 8 = 0 ∧ exS (wgd σ G kd n L) L v ∧ (x, τ) = tAsk (wgd σ G kd n L) n L v) ∨ ((0 ≤ v ∧ v ≤ 99) ∧ ¬ σ.1 19 8 = 0 ∧ ¬ exS (wgd σ G kd n L) L v ∧ -3 = x ∧ τ = tRef (wgd σ G kd n L) 4)) : TM σ τ := by
  rcases ht with ⟨-, -, e⟩ | ⟨-, -, -, e⟩ | ⟨-, -, -, e⟩ | ⟨-, -, -, -, e⟩
  · rw [← e]
    exact TM.rf
  · rw [← e]
    exact TM.rf
  · unfold tAsk at e
    have e1 := congrArg Prod.snd e
    have e2 : τ = if oI (itr (askF (wgd σ G kd n L) L v) (none, 65) n).1 = -9 then wgd σ G kd n L else uI (wgd σ G kd n L) 0 12 (nI (itr (askF (wgd σ G kd n L) L v) (none, 65) n).2) := e1
    rw [e2]
    split
    · exact wgd_tm
    · exact wgd_tm.u (by decide)
  · rw [e]
    exact wgd_tm.r
