-- each public op: both sides' contracts, equal answers
def OpI (l : Launch) (u : Un) (yT : MethodName) (bT : ByteArray) (nT dT : Nat) (yM : MethodName) (bM : ByteArray) (nM dM : Nat) (As : List Value) (σ : St) : Prop := ∃ P : Int32 → St → Prop, MTi l u yT bT nT .int dT (.ref (u.2.1 0) :: As) σ P ∧ ∀ x τ, P x τ → ∃ P2 : Int32 → St → Prop, MTi l u yM bM nM .int dM (.ref (u.2.1 63) :: As) τ P2 ∧ ∀ y ρ, P2 y ρ → x = y ∧ Rel ρ
def OpL (l : Launch) (u : Un) (yT : MethodName) (bT : ByteArray) (nT dT : Nat) (yM : MethodName) (bM : ByteArray) (nM dM : Nat) (As : List Value) (σ : St) : Prop := ∃ P : Int64 → St → Prop, MTl l u yT bT nT dT (.ref (u.2.1 0) :: As) σ P ∧ ∀ x τ, P x τ → ∃ P2 : Int64 → St → Prop, MTl l u yM bM nM dM (.ref (u.2.1 63) :: As) τ P2 ∧ ∀ y ρ, P2 y ρ → x = y ∧ Rel ρ
set_option maxHeartbeats 4000000 in
theorem c_M_safe0 (l : Launch) (u : Un) (hA : Ap u) (σ : St) {kd : Nat → Nat} {a : Nat} (hb : mkOk σ 0 kd) : MTi l u y_M_safe b_M_safe 4 .int 5 [.ref (u.2.1 63)] σ (fun ans σ' => ∃ τ, fr σ τ ∧ (ans, σ') = mSafe σ τ kd 0 a) := by
  refine MT_of hA rfl (by decide) (Nat.le_of_ble_eq_true rfl) (fun X hl F hr => ?_)
  subst hl
  refine v_to (ls' := [(0, .ref (u.2.1 63))]) rfl ?_
  obtain ⟨hn, -, -, -⟩ := id hb
  refine v_aload_n F d_M_safe_0 rfl 0 rfl ?_
  refine v_geti F fk_M_146 G63 rfl d_M_safe_1 ?_
  refine v_te (y := nI 0) hn ?_
  refine v_if_ne F 10 d_M_safe_4 rfl (fun h4 => absurd nI_0 h4) (fun h4 => ?_)
  refine v_bipush (v := (-4)) F d_M_safe_7 kb_m4 ?_
  refine v_iret F hr rfl d_M_safe_9 ?_
  exact ⟨σ, fr.rf, by unfold mSafe; rw [if_pos rfl]⟩
set_option maxHeartbeats 4000000 in
theorem o_row (l : Launch) {u : Un} (hA : Ap u) {σ : St} (h : Rel σ) (a1 a2 : Int32) : OpI l u y_T_row b_T_row 4 1 y_M_row b_M_row 4 2 [.int a1, .int a2] σ := by
  refine ⟨_, c_T_row l u hA σ a1 a2, fun x τ p => ?_⟩
  have t : TM σ τ := q_row p
  refine ⟨_, c_M_row l u hA τ a1 a2, fun y ρ q => ?_⟩
  exact e_row h p q
set_option maxHeartbeats 4000000 in
theorem o_lay (l : Launch) {u : Un} (hA : Ap u) {σ : St} (h : Rel σ) (a1 a2 a3 : Int32) : OpI l u y_T_lay b_T_lay 5 3 y_M_lay b_M_lay 5 2 [.int a1, .int a2, .int a3] σ := by
  refine ⟨_, c_T_lay l u hA σ a1 a2 a3 h.tR, fun x τ p => ?_⟩
  have t : TM σ τ := q_lay p
  refine ⟨_, c_M_lay l u hA τ a1 a2 a3 (h.mR t), fun y ρ q => ?_⟩
  exact e_lay h p q
set_option maxHeartbeats 4000000 in
theorem o_at (l : Launch) {u : Un} (hA : Ap u) {σ : St} (h : Rel σ) (a1 a2 : Int32) : OpI l u y_T_at b_T_at 4 3 y_M_at b_M_at 3 2 [.int a1, .int a2] σ := by
  refine ⟨_, c_T_at l u hA σ a1 a2 h.tR, fun x τ p => ?_⟩
  have t : TM σ τ := q_at p
  refine ⟨_, c_M_at l u hA τ a1 a2 (h.mR t), fun y ρ q => ?_⟩
  exact e_at h p q
set_option maxHeartbeats 4000000 in
theorem o_tear (l : Launch) {u : Un} (hA : Ap u) {σ : St} (h : Rel σ) (a1 : Int32) : OpI l u y_T_tear b_T_tear 3 2 y_M_tear b_M_tear 2 2 [.int a1] σ := by
  refine ⟨_, c_T_tear l u hA σ a1, fun x τ p => ?_⟩
  have t : TM σ τ := q_tear p
  refine ⟨_, c_M_tear l u hA τ a1, fun y ρ q => ?_⟩
  exact e_tear h p q
set_option maxHeartbeats 4000000 in
theorem o_copy (l : Launch) {u : Un} (hA : Ap u) {σ : St} (h : Rel σ) (a1 a2 a3 a4 a5 : Int32) : OpI l u y_T_copy b_T_copy 6 2 y_M_copy b_M_copy 7 2 [.int a1, .int a2, .int a3, .int a4, .int a5] σ := by
  refine ⟨_, c_T_copy l u hA σ a1 a2 a3 a4 a5 h.tR, fun x τ p => ?_⟩
  have t : TM σ τ := q_copy p
  refine ⟨_, c_M_copy l u hA τ a1 a2 a3 a4 a5 (h.mR t), fun y ρ q => ?_⟩
  exact e_copy h p q
set_option maxHeartbeats 4000000 in
theorem o_mean (l : Launch) {u : Un} (hA : Ap u) {σ : St} (h : Rel σ) (a1 : Int32) : OpI l u y_T_mean b_T_mean 7 2 y_M_mean b_M_mean 5 2 [.int a1] σ := by
  refine ⟨_, c_T_mean l u hA σ a1 h.tR, fun x τ p => ?_⟩
  have t : TM σ τ := q_mean p
  refine ⟨_, c_M_mean l u hA τ a1 (h.mR t), fun y ρ q => ?_⟩
  exact e_mean h p q
set_option maxHeartbeats 4000000 in
theorem o_text (l : Launch) {u : Un} (hA : Ap u) {σ : St} (h : Rel σ) (a1 a2 : Int32) : OpI l u y_T_text b_T_text 4 1 y_M_text b_M_text 4 2 [.int a1, .int a2] σ := by
  refine ⟨_, c_T_text l u hA σ a1 a2, fun x τ p => ?_⟩
  have t : TM σ τ := q_text p
  refine ⟨_, c_M_text l u hA τ a1 a2, fun y ρ q => ?_⟩
  exact e_text h p q
set_option maxHeartbeats 4000000 in
theorem o_put (l : Launch) {u : Un} (hA : Ap u) {σ : St} (h : Rel σ) (a1 a2 a3 : Int32) : OpI l u y_T_put b_T_put 6 2 y_M_put b_M_put 5 2 [.int a1, .int a2, .int a3] σ := by
  refine ⟨_, c_T_put l u hA σ a1 a2 a3 h.tT, fun x τ p => ?_⟩
  have t : TM σ τ := q_put p
  refine ⟨_, c_M_put l u hA τ a1 a2 a3 (h.mT t), fun y ρ q => ?_⟩
  exact e_put h p q
set_option maxHeartbeats 4000000 in
theorem o_fault (l : Launch) {u : Un} (hA : Ap u) {σ : St} (h : Rel σ) (a1 : Int32) : OpI l u y_T_fault b_T_fault 3 3 y_M_fault b_M_fault 2 4 [.int a1] σ := by
  refine ⟨_, c_T_fault l u hA σ a1 h.tT, fun x τ p => ?_⟩
  obtain ⟨κ, hk, ht⟩ := p
  refine ⟨_, c_M_fault l u hA τ a1 (h.mT (q_fault hk ht)), fun y ρ q => ?_⟩
  obtain ⟨ω, hf, hm⟩ := q
  exact e_fault h hk ht hf hm
set_option maxHeartbeats 4000000 in
theorem o_book (l : Launch) {u : Un} (hA : Ap u) {σ : St} (h : Rel σ) (a1 : Int32) : OpI l u y_T_book b_T_book 4 7 y_M_book b_M_book 3 4 [.int a1] σ := by
  refine ⟨_, c_T_book l u hA σ a1 h.tT, fun x τ p => ?_⟩
  have ht : tBook σ τ a1 x (bTf σ (ix a1) (ix (σ.1 14 (ix a1)))) (ix (σ.1 14 (ix a1))) := p
  refine ⟨_, c_M_book l u hA τ a1 (h.mT (q_book ht)), fun y ρ q => ?_⟩
  obtain ⟨ω, hf, hm, hb⟩ := q
  exact e_book h ht hf hm hb
set_option maxHeartbeats 4000000 in
theorem o_thief (l : Launch) {u : Un} (hA : Ap u) {σ : St} (h : Rel σ) (a1 a2 : Int32) : OpI l u y_T_thief b_T_thief 3 7 y_M_thief b_M_thief 3 4 [.int a1, .int a2] σ := by
  obtain ⟨-, -, n, kd, D, wN, aN, hB⟩ := id h
  have b := hB.br (TM.rf (σ := σ))
  refine ⟨_, c_T_thief l u hA σ b.bk b.L1 b.L3 b.D1 b.D2 a1 a2, fun x τ p => ?_⟩
  have t : TM σ τ := q_thief p
  have b2 := hB.br t
  refine ⟨_, c_M_thief l u hA τ b2.mk b2.L3 b2.mL a1 a2, fun y ρ q => ?_⟩
  exact e_thief h b2 p q
set_option maxHeartbeats 4000000 in
theorem o_mark (l : Launch) {u : Un} (hA : Ap u) {σ : St} (h : Rel σ) (a1 a2 : Int32) : OpI l u y_T_mark b_T_mark 3 7 y_M_mark b_M_mark 5 5 [.int a1, .int a2] σ := by
  obtain ⟨-, -, n, kd, D, wN, aN, hB⟩ := id h
  have b := hB.br (TM.rf (σ := σ))
  refine ⟨_, c_T_mark l u hA σ b.bk b.L1 b.L3 b.D1 b.D2 a1 a2, fun x τ p => ?_⟩
  have t : TM σ τ := q_mark p
  have b2 := hB.br t
  refine ⟨_, c_M_mark l u hA τ b2.mk b2.L3 b2.mL a1 a2, fun y ρ q => ?_⟩
  exact e_mark h b2 p q
set_option maxHeartbeats 4000000 in
theorem o_week (l : Launch) {u : Un} (hA : Ap u) {σ : St} (h : Rel σ) : OpI l u y_T_week b_T_week 1 9 y_M_week b_M_week 1 6 [] σ := by
  obtain ⟨-, -, n, kd, D, wN, aN, hB⟩ := id h
  have b := hB.br (TM.rf (σ := σ))
  refine ⟨_, c_T_week l u hA σ b.bk b.L1 b.L3 b.D1 b.D2 , fun x τ p => ?_⟩
  have t : TM σ τ := q_week p
  have b2 := hB.br t
  refine ⟨_, c_M_week l u hA τ b2.mk b2.L3 b2.mL b2.mD b2.D2 , fun y ρ q => ?_⟩
  exact e_week h hB t p q
set_option maxHeartbeats 4000000 in
theorem o_back (l : Launch) {u : Un} (hA : Ap u) {σ : St} (h : Rel σ) (a1 : Int32) : OpI l u y_T_back b_T_back 2 9 y_M_back b_M_back 2 4 [.int a1] σ := by
  obtain ⟨-, -, n, kd, D, wN, aN, hB⟩ := id h
  have b := hB.br (TM.rf (σ := σ))
  refine ⟨_, c_T_back l u hA σ b.bk b.L1 b.L3 b.D1 b.D2 a1, fun x τ p => ?_⟩
  have t : TM σ τ := q_back p
  have b2 := hB.br t
  refine ⟨_, c_M_back l u hA τ b2.mk b2.L3 b2.mL b2.mD b2.D2 a1, fun y ρ q => ?_⟩
  exact e_back h hB t p q
set_option maxHeartbeats 4000000 in
theorem o_cross (l : Launch) {u : Un} (hA : Ap u) {σ : St} (h : Rel σ) (a1 : Int32) : OpI l u y_T_cross b_T_cross 2 9 y_M_cross b_M_cross 2 3 [.int a1] σ := by
  obtain ⟨-, -, n, kd, D, wN, aN, hB⟩ := id h
  have b := hB.br (TM.rf (σ := σ))
  refine ⟨_, c_T_cross l u hA σ b.bk b.L1 b.L3 b.D1 b.D2 a1, fun x τ p => ?_⟩
  have t : TM σ τ := q_cross p
  have b2 := hB.br t
  refine ⟨_, c_M_cross l u hA τ b2.mk b2.L3 b2.mL b2.mD b2.D2 a1, fun y ρ q => ?_⟩
  exact e_cross h hB t p q
set_option maxHeartbeats 4000000 in
theorem o_give (l : Launch) {u : Un} (hA : Ap u) {σ : St} (h : Rel σ) (a1 : Int32) : OpI l u y_T_give b_T_give 2 9 y_M_give b_M_give 2 3 [.int a1] σ := by
  obtain ⟨-, -, n, kd, D, wN, aN, hB⟩ := id h
  have b := hB.br (TM.rf (σ := σ))
  refine ⟨_, c_T_give l u hA σ b.bk b.L1 b.L3 b.D1 b.D2 a1, fun x τ p => ?_⟩
  have t : TM σ τ := q_give p
  have b2 := hB.br t
  refine ⟨_, c_M_give l u hA τ b2.mk b2.L3 b2.mL b2.mD b2.D2 a1, fun y ρ q => ?_⟩
  exact e_give h hB t p q
set_option maxHeartbeats 4000000 in
theorem o_undo (l : Launch) {u : Un} (hA : Ap u) {σ : St} (h : Rel σ) (a1 : Int32) : OpI l u y_T_undo b_T_undo 3 9 y_M_undo b_M_undo 4 2 [.int a1] σ := by
  obtain ⟨-, -, n, kd, D, wN, aN, hB⟩ := id h
  have b := hB.br (TM.rf (σ := σ))
  refine ⟨_, c_T_undo l u hA σ b.bk b.D1 hB.dw b.D2 a1, fun x τ p => ?_⟩
  have t : TM σ τ := q_undo b.bk p
  have b2 := hB.br t
  refine ⟨_, c_M_undo l u hA τ b2.mD b2.D2 a1, fun y ρ q => ?_⟩
  exact e_undo h hB p q
set_option maxHeartbeats 4000000 in
theorem o_keep (l : Launch) {u : Un} (hA : Ap u) {σ : St} (h : Rel σ) (a1 : Int32) : OpI l u y_T_keep b_T_keep 2 3 y_M_keep b_M_keep 3 2 [.int a1] σ := by
  obtain ⟨-, -, n, kd, D, wN, aN, hB⟩ := id h
  have b := hB.br (TM.rf (σ := σ))
  refine ⟨_, c_T_keep l u hA σ a1, fun x τ p => ?_⟩
  have t : TM σ τ := q_keep p
  have b2 := hB.br t
  refine ⟨_, c_M_keep l u hA τ b2.mk b2.mD b2.D2 a1, fun y ρ q => ?_⟩
  exact e_keep h hB p q
set_option maxHeartbeats 4000000 in
theorem o_on (l : Launch) {u : Un} (hA : Ap u) {σ : St} (h : Rel σ) (a1 : Int32) : OpI l u y_T_on b_T_on 2 9 y_M_on b_M_on 3 2 [.int a1] σ := by
  obtain ⟨-, -, n, kd, D, wN, aN, hB⟩ := id h
  have b := hB.br (TM.rf (σ := σ))
  obtain ⟨DK, wK, aK, hK⟩ := hB.ks
  refine ⟨_, c_T_on l u hA σ b.bk (KQ.t hK) a1, fun x τ p => ?_⟩
  have t : TM σ τ := q_on b.bk p
  have b2 := hB.br t
  refine ⟨_, c_M_on l u hA τ (KQ.m hK t) a1, fun y ρ q => ?_⟩
  exact e_on h hB hK p q
set_option maxHeartbeats 4000000 in
theorem o_speak (l : Launch) {u : Un} (hA : Ap u) {σ : St} (h : Rel σ) : OpI l u y_T_speak b_T_speak 1 7 y_M_speak b_M_speak 1 5 [] σ := by
  obtain ⟨-, -, n, kd, D, wN, aN, hB⟩ := id h
  have b := hB.br (TM.rf (σ := σ))
  refine ⟨_, c_T_speak l u hA σ b.bk b.L1 b.L3 , fun x τ p => ?_⟩
  have t : TM σ τ := q_speak p
  have b2 := hB.br t
  refine ⟨_, c_M_speak l u hA τ b2.mk b2.L3 b2.mL , fun y ρ q => ?_⟩
  exact e_speak h b2 p q
set_option maxHeartbeats 4000000 in
theorem o_safe (l : Launch) {u : Un} (hA : Ap u) {σ : St} (h : Rel σ) : OpI l u y_T_safe b_T_safe 3 7 y_M_safe b_M_safe 4 5 [] σ := by
  obtain ⟨-, -, n, kd, D, wN, aN, hB⟩ := id h
  have b := hB.br (TM.rf (σ := σ))
  refine ⟨_, c_T_safe l u hA σ b.bk b.L1 b.L3, fun x τ p => ?_⟩
  have t : TM σ τ := q_safe p
  have b2 := hB.br t
  by_cases c : n = 0
  · subst c
    refine ⟨_, c_M_safe0 l u hA τ (a := (runF σ.1 0 kd wN aN D).L) b2.mk, fun y ρ q => ?_⟩
    obtain ⟨ω, hf, hm⟩ := q
    exact e_safe h b2 p hf hm
  · have hben : 0 < τ.1 70 3 := by
      obtain ⟨v, v1, v2, v3⟩ := b2.hr.2.2.2
      rw [← b2.h.2.2.2, v2, ← nI_0]
      exact (nI_ltI (by omega) (by omega)).mpr (v3 (by omega))
    refine ⟨_, c_M_safe l u hA τ b2.mk b2.L3 b2.mL b2.L2 hben, fun y ρ q => ?_⟩
    obtain ⟨ω, hf, hm⟩ := q
    exact e_safe h b2 p hf hm
set_option maxHeartbeats 4000000 in
theorem o_silent (l : Launch) {u : Un} (hA : Ap u) {σ : St} (h : Rel σ) : OpI l u y_T_silent b_T_silent 1 9 y_M_silent b_M_silent 5 5 [] σ := by
  obtain ⟨-, -, n, kd, D, wN, aN, hB⟩ := id h
  have b := hB.br (TM.rf (σ := σ))
  have hcr : ∀ i, i < n → σ.1 31 i = nI (ix (σ.1 31 i)) ∧ ix (σ.1 31 i) ≤ 2 := fun i hi => by
    obtain ⟨c, h1, h2⟩ := (b.r hi).2.2
    rw [h2, ix_nI (by omega)]
    exact ⟨rfl, by omega⟩
  have hLn : ∀ i, (runF σ.1 n kd wN aN D).L.testBit i = true → i < n := fun i hi => by
    rcases Nat.lt_or_ge i n with q | q
    · exact q
    · rw [Nat.testBit_lt_two_pow (Nat.lt_of_lt_of_le b.L2 (Nat.pow_le_pow_right (by decide) q))] at hi
      exact absurd hi (by decide)
  have hcM : ∀ {τ : St}, TM σ τ → crOk τ (fun i => ix (σ.1 31 i)) n := fun t i hi => ⟨((hB.br t).c hi).2.2.symm.trans (hcr i hi).1, by have := (hcr i hi).2; show ix (σ.1 31 i) < 3; omega⟩
  refine ⟨_, c_T_silent l u hA σ b.bk b.L1 b.L3 (cr := fun i => ix (σ.1 31 i)) hcr hLn, fun x τ p => ?_⟩
  have t : TM σ τ := q_silent b.n6 p
  have b2 := hB.br t
  refine ⟨_, c_M_silent l u hA τ b2.mk b2.L3 b2.mL (hcM t), fun y ρ q => ?_⟩
  obtain ⟨ω, hf, hm⟩ := q
  exact e_silent h b2 (fun i hi => (hcr i hi).2) p hf hm
set_option maxHeartbeats 4000000 in
theorem o_heads (l : Launch) {u : Un} (hA : Ap u) {σ : St} (h : Rel σ) (a1 : Int32) : OpI l u y_T_heads b_T_heads 4 7 y_M_heads b_M_heads 6 5 [.int a1] σ := by
  obtain ⟨-, -, n, kd, D, wN, aN, hB⟩ := id h
  have b := hB.br (TM.rf (σ := σ))
  refine ⟨_, c_T_heads l u hA σ b.bk b.L1 b.L3 a1, fun x τ p => ?_⟩
  have t : TM σ τ := q_heads p
  have b2 := hB.br t
  refine ⟨_, c_M_heads l u hA τ b2.mk b2.L3 b2.mL a1, fun y ρ q => ?_⟩
  exact e_heads h b2 p q
set_option maxHeartbeats 4000000 in
theorem o_best (l : Launch) {u : Un} (hA : Ap u) {σ : St} (h : Rel σ) (a1 a2 : Int32) : OpI l u y_T_best b_T_best 3 15 y_M_best b_M_best 8 7 [.int a1, .int a2] σ := by
  obtain ⟨-, -, n, kd, D, wN, aN, hB⟩ := id h
  have b := hB.br (TM.rf (σ := σ))
  refine ⟨_, c_T_best l u hA σ b.bk b.L1 b.L3 a1 a2, fun x τ p => ?_⟩
  have t : TM σ τ := q_best p
  have b2 := hB.br t
  refine ⟨_, c_M_best l u hA τ b2.mk b2.L3 b2.mL a1 a2, fun y ρ q => ?_⟩
  obtain ⟨ω, hf, hm⟩ := q
  exact e_best h b2 hB.stk p hf hm
set_option maxHeartbeats 4000000 in
theorem o_ways (l : Launch) {u : Un} (hA : Ap u) {σ : St} (h : Rel σ) (a1 : Int32) : OpI l u y_T_ways b_T_ways 2 15 y_M_ways b_M_ways 6 7 [.int a1] σ := by
  obtain ⟨-, -, n, kd, D, wN, aN, hB⟩ := id h
  have b := hB.br (TM.rf (σ := σ))
  refine ⟨_, c_T_ways l u hA σ b.bk b.L1 b.L3 a1, fun x τ p => ?_⟩
  have t : TM σ τ := q_ways p
  have b2 := hB.br t
  refine ⟨_, c_M_ways l u hA τ b2.mk b2.L3 b2.mL a1, fun y ρ q => ?_⟩
  obtain ⟨ω, hf, hm⟩ := q
  exact e_ways h b2 p hf hm
set_option maxHeartbeats 4000000 in
theorem o_brings (l : Launch) {u : Un} (hA : Ap u) {σ : St} (h : Rel σ) (a1 : Int32) : OpI l u y_T_brings b_T_brings 3 9 y_M_brings b_M_brings 7 7 [.int a1] σ := by
  obtain ⟨-, -, n, kd, D, wN, aN, hB⟩ := id h
  have b := hB.br (TM.rf (σ := σ))
  refine ⟨_, c_T_brings l u hA σ b.bk b.L1 b.L3 a1, fun x τ p => ?_⟩
  have t : TM σ τ := q_brings p
  have b2 := hB.br t
  refine ⟨_, c_M_brings l u hA τ b2.mk b2.L3 b2.mL a1, fun y ρ q => ?_⟩
  obtain ⟨ω, hf, hm⟩ := q
  exact e_brings h t b2 p hf hm
set_option maxHeartbeats 4000000 in
theorem o_fits (l : Launch) {u : Un} (hA : Ap u) {σ : St} (h : Rel σ) (a1 : Int32) : OpI l u y_T_fits b_T_fits 5 7 y_M_fits b_M_fits 3 5 [.int a1] σ := by
  obtain ⟨-, -, n, kd, D, wN, aN, hB⟩ := id h
  have b := hB.br (TM.rf (σ := σ))
  refine ⟨_, c_T_fits l u hA σ b.bk b.L1 b.L3 a1, fun x τ p => ?_⟩
  have t : TM σ τ := q_fits p
  have b2 := hB.br t
  refine ⟨_, c_M_fits l u hA τ b2.mk b2.L3 b2.mL a1, fun y ρ q => ?_⟩
  obtain ⟨ω, hf, hm⟩ := q
  exact e_fits h b2 p hf hm
set_option maxHeartbeats 4000000 in
theorem o_sure (l : Launch) {u : Un} (hA : Ap u) {σ : St} (h : Rel σ) (a1 : Int32) : OpI l u y_T_sure b_T_sure 6 8 y_M_sure b_M_sure 3 5 [.int a1] σ := by
  obtain ⟨-, -, n, kd, D, wN, aN, hB⟩ := id h
  have b := hB.br (TM.rf (σ := σ))
  refine ⟨_, c_T_sure l u hA σ b.bk b.L1 b.L3 a1, fun x τ p => ?_⟩
  have t : TM σ τ := q_sure p
  have b2 := hB.br t
  refine ⟨_, c_M_sure l u hA τ b2.mk b2.L3 b2.mL a1, fun y ρ q => ?_⟩
  obtain ⟨ω, hf, hm⟩ := q
  exact e_sure h b2 p hf hm
set_option maxHeartbeats 4000000 in
theorem o_ask (l : Launch) {u : Un} (hA : Ap u) {σ : St} (h : Rel σ) (a1 : Int32) : OpI l u y_T_ask b_T_ask 6 8 y_M_ask b_M_ask 9 5 [.int a1] σ := by
  obtain ⟨-, -, n, kd, D, wN, aN, hB⟩ := id h
  have b := hB.br (TM.rf (σ := σ))
  refine ⟨_, c_T_ask l u hA σ b.bk b.L1 b.L3 a1, fun x τ p => ?_⟩
  have t : TM σ τ := q_ask p
  have b2 := hB.br t
  refine ⟨_, c_M_ask l u hA τ b2.mk b2.L3 b2.mL a1, fun y ρ q => ?_⟩
  obtain ⟨ω, hf, hm⟩ := q
  exact e_ask h b2 p hf hm
set_option maxHeartbeats 4000000 in
theorem o_bold (l : Launch) {u : Un} (hA : Ap u) {σ : St} (h : Rel σ) (a1 a2 : Int32) : OpI l u y_T_bold b_T_bold 6 6 y_M_bold b_M_bold 6 3 [.int a1, .int a2] σ := by
  obtain ⟨-, -, n, kd, D, wN, aN, hB⟩ := id h
  have b := hB.br (TM.rf (σ := σ))
  refine ⟨_, c_T_bold l u hA σ b.bk b.L1 b.L3 h.tR a1 a2, fun x τ p => ?_⟩
  have t : TM σ τ := q_tri p TM.rf
  have b2 := hB.br t
  refine ⟨_, c_M_bold l u hA τ b2.mk b2.L3 b2.mL (h.mR t) a1 a2, fun y ρ q => ?_⟩
  exact e_bold h b2 t p q
set_option maxHeartbeats 4000000 in
theorem o_kinds (l : Launch) {u : Un} (hA : Ap u) {σ : St} (h : Rel σ) (a1 a2 : Int32) : OpI l u y_T_kinds b_T_kinds 4 7 y_M_kinds b_M_kinds 4 4 [.int a1, .int a2] σ := by
  obtain ⟨-, -, n, kd, D, wN, aN, hB⟩ := id h
  have b := hB.br (TM.rf (σ := σ))
  refine ⟨_, c_T_kinds l u hA σ b.bk b.L1 b.L3 h.tR a1 a2, fun x τ p => ?_⟩
  have t : TM σ τ := q_tri p TM.rf
  have b2 := hB.br t
  refine ⟨_, c_M_kinds l u hA τ b2.mk b2.L3 b2.mL (h.mR t) a1 a2, fun y ρ q => ?_⟩
  exact e_kinds h b2 t p q
set_option maxHeartbeats 4000000 in
theorem o_test (l : Launch) {u : Un} (hA : Ap u) {σ : St} (h : Rel σ) (a1 a2 : Int32) : OpI l u y_T_test b_T_test 10 7 y_M_test b_M_test 10 4 [.int a1, .int a2] σ := by
  obtain ⟨-, -, n, kd, D, wN, aN, hB⟩ := id h
  have b := hB.br (TM.rf (σ := σ))
  refine ⟨_, c_T_test l u hA σ b.bk b.L1 b.L3 h.tR a1 a2, fun x τ p => ?_⟩
  have t : TM σ τ := by
    refine q_tri p ?_
    split
    · exact TM.rf
    · exact TM.rf.u (by decide)
  have b2 := hB.br t
  refine ⟨_, c_M_test l u hA τ b2.mk b2.L3 b2.mL (h.mR t) a1 a2, fun y ρ q => ?_⟩
  exact e_test h b2 t p q
set_option maxHeartbeats 4000000 in
theorem o_duel (l : Launch) {u : Un} (hA : Ap u) {σ : St} (h : Rel σ) (a1 : Int32) : OpI l u y_T_duel b_T_duel 2 8 y_M_duel b_M_duel 7 4 [.int a1] σ := by
  obtain ⟨-, -, n, kd, D, wN, aN, hB⟩ := id h
  have b := hB.br (TM.rf (σ := σ))
  have hcr : ∀ i, i < n → σ.1 31 i = nI (ix (σ.1 31 i)) ∧ ix (σ.1 31 i) ≤ 2 := fun i hi => by
    obtain ⟨c, h1, h2⟩ := (b.r hi).2.2
    rw [h2, ix_nI (by omega)]
    exact ⟨rfl, by omega⟩
  have hLn : ∀ i, (runF σ.1 n kd wN aN D).L.testBit i = true → i < n := fun i hi => by
    rcases Nat.lt_or_ge i n with q | q
    · exact q
    · rw [Nat.testBit_lt_two_pow (Nat.lt_of_lt_of_le b.L2 (Nat.pow_le_pow_right (by decide) q))] at hi
      exact absurd hi (by decide)
  have hcM : ∀ {τ : St}, TM σ τ → crOk τ (fun i => ix (σ.1 31 i)) n := fun t i hi => ⟨((hB.br t).c hi).2.2.symm.trans (hcr i hi).1, by have := (hcr i hi).2; show ix (σ.1 31 i) < 3; omega⟩
  have hcf : ∀ i, i < n → 0 ≤ σ.1 31 i ∧ σ.1 31 i ≤ 2 := fun i hi => by
    obtain ⟨c, h1, h2⟩ := (b.r hi).2.2
    rw [h2]
    exact (show ∀ c, c < 3 → (0 : Int32) ≤ nI c ∧ nI c ≤ 2 by decide) c h1
  refine ⟨_, c_T_duel l u hA σ b.bk b.L1 b.L3 hcf hLn a1, fun x τ p => ?_⟩
  have t : TM σ τ := q_duel b.n6 p
  have b2 := hB.br t
  refine ⟨_, c_M_duel l u hA τ b2.mk b2.L3 b2.mL (hcM t) a1, fun y ρ q => ?_⟩
  obtain ⟨ω, hf, hm⟩ := q
  exact e_duel h b2 hcr p hf hm
set_option maxHeartbeats 4000000 in
theorem o_sum (l : Launch) {u : Un} (hA : Ap u) {σ : St} (h : Rel σ) (a1 : Int32) : OpI l u y_T_sum b_T_sum 7 7 y_M_sum b_M_sum 8 5 [.int a1] σ := by
  obtain ⟨-, -, n, kd, D, wN, aN, hB⟩ := id h
  have b := hB.br (TM.rf (σ := σ))
  refine ⟨_, c_T_sum l u hA σ b.bk b.L1 b.L3 a1, fun x τ p => ?_⟩
  have t : TM σ τ := q_sum p
  have b2 := hB.br t
  refine ⟨_, c_M_sum l u hA τ b2.mk b2.L3 b2.mL a1, fun y ρ q => ?_⟩
  exact e_sum h b2 p q
set_option maxHeartbeats 4000000 in
theorem o_odds (l : Launch) {u : Un} (hA : Ap u) {σ : St} (h : Rel σ) (a1 : Int32) : OpI l u y_T_odds b_T_odds 2 8 y_M_odds b_M_odds 3 5 [.int a1] σ := by
  obtain ⟨-, -, n, kd, D, wN, aN, hB⟩ := id h
  have b := hB.br (TM.rf (σ := σ))
  refine ⟨_, c_T_odds l u hA σ b.bk b.L1 b.L3 a1, fun x τ p => ?_⟩
  have t : TM σ τ := q_odds p
  have b2 := hB.br t
  refine ⟨_, c_M_odds l u hA τ b2.mk b2.L3 b2.mL a1, fun y ρ q => ?_⟩
  obtain ⟨ω, hf, hm⟩ := q
  exact e_odds h b2 p hf hm
set_option maxHeartbeats 4000000 in
theorem o_mid (l : Launch) {u : Un} (hA : Ap u) {σ : St} (h : Rel σ) (a1 : Int32) : OpI l u y_T_mid b_T_mid 2 8 y_M_mid b_M_mid 3 5 [.int a1] σ := by
  obtain ⟨-, -, n, kd, D, wN, aN, hB⟩ := id h
  have b := hB.br (TM.rf (σ := σ))
  obtain ⟨lo, hl1, hlo⟩ := sumI_b (f := ltA kd (σ.1 28) (gaN kd n) (runF σ.1 n kd wN aN D).L) (B := 16) n (fun i hi => ltA_b (b.bk.2.2.2.2.2 i hi) (b.r hi).1)
  have hlo2 : lo ≤ 1000 := by
    have := b.n6
    omega
  refine ⟨_, c_T_mid l u hA σ b.bk b.L1 b.L3 hlo hlo2 a1, fun x τ p => ?_⟩
  have t : TM σ τ := q_mid p
  have b2 := hB.br t
  refine ⟨_, c_M_mid l u hA τ b2.mk b2.L3 b2.mL ((b2.lt _).trans hlo) hlo2 a1, fun y ρ q => ?_⟩
  obtain ⟨ω, hf, hm⟩ := q
  exact e_mid h b2 p hf hm
set_option maxHeartbeats 4000000 in
theorem o_lots (l : Launch) {u : Un} (hA : Ap u) {σ : St} (h : Rel σ) (a1 a2 : Int32) : OpI l u y_T_lots b_T_lots 8 9 y_M_lots b_M_lots 10 6 [.int a1, .int a2] σ := by
  obtain ⟨-, -, n, kd, D, wN, aN, hB⟩ := id h
  have b := hB.br (TM.rf (σ := σ))
  refine ⟨_, c_T_lots l u hA σ b.bk b.L1 b.L3 b.D1 b.D2 a1 a2, fun x τ p => ?_⟩
  have t : TM σ τ := q_lots2 p
  have b2 := hB.br t
  refine ⟨_, c_M_lots l u hA τ b2.mk b2.L3 b2.mL b2.mD b2.D2 a1 a2, fun y ρ q => ?_⟩
  exact e_lots h hB p q
set_option maxHeartbeats 4000000 in
theorem o_asked (l : Launch) {u : Un} (hA : Ap u) {σ : St} (h : Rel σ) : OpI l u y_T_asked b_T_asked 1 0 y_M_asked b_M_asked 1 0 [] σ := by
  refine ⟨_, c_T_asked l u hA σ, fun x τ p => ?_⟩
  refine ⟨_, c_M_asked l u hA τ, fun y ρ q => ?_⟩
  obtain ⟨rfl, rfl⟩ := p
  obtain ⟨rfl, rfl⟩ := q
  exact ⟨h.fd.2.2.1, h⟩
set_option maxHeartbeats 4000000 in
theorem o_upper (l : Launch) {u : Un} (hA : Ap u) {σ : St} (h : Rel σ) : OpL l u y_T_upper b_T_upper 1 0 y_M_upper b_M_upper 1 0 [] σ := by
  refine ⟨_, c_T_upper l u hA σ, fun x τ p => ?_⟩
  refine ⟨_, c_M_upper l u hA τ, fun y ρ q => ?_⟩
  obtain ⟨rfl, rfl⟩ := p
  obtain ⟨rfl, rfl⟩ := q
  exact ⟨h.fd.2.2.2.1, h⟩
set_option maxHeartbeats 4000000 in
theorem o_lower (l : Launch) {u : Un} (hA : Ap u) {σ : St} (h : Rel σ) : OpL l u y_T_lower b_T_lower 1 0 y_M_lower b_M_lower 1 0 [] σ := by
  refine ⟨_, c_T_lower l u hA σ, fun x τ p => ?_⟩
  refine ⟨_, c_M_lower l u hA τ, fun y ρ q => ?_⟩
  obtain ⟨rfl, rfl⟩ := p
  obtain ⟨rfl, rfl⟩ := q
  exact ⟨h.fd.2.2.2.2, h⟩
set_option maxHeartbeats 4000000 in
theorem o_count (l : Launch) {u : Un} (hA : Ap u) {σ : St} (h : Rel σ) (a1 : Int32) : OpI l u y_T_count b_T_count 2 2 y_M_count b_M_count 2 2 [.int a1] σ := by
  obtain ⟨-, -, n, kd, D, wN, aN, hB⟩ := id h
  have b := hB.br (TM.rf (σ := σ))
  obtain ⟨-, -, hG, hG64, -⟩ := b.bk
  refine ⟨_, c_T_count l u hA σ hG hG64 a1, fun x τ p => ?_⟩
  have t : TM σ τ := (by rw [← p.2]; exact TM.rf)
  have b2 := hB.br t
  refine ⟨_, c_M_count l u hA τ b2.mk b2.L3 b2.mL b2.mD b2.D2 a1, fun y ρ q => ?_⟩
  exact e_count h hB p q
set_option maxHeartbeats 4000000 in
theorem o_finding (l : Launch) {u : Un} (hA : Ap u) {σ : St} (h : Rel σ) : OpI l u y_T_finding b_T_finding 1 0 y_M_finding b_M_finding 1 0 [] σ := by
  refine ⟨_, c_T_finding l u hA σ, fun x τ p => ?_⟩
  refine ⟨_, c_M_finding l u hA τ, fun y ρ q => ?_⟩
  obtain ⟨rfl, rfl⟩ := p
  obtain ⟨rfl, rfl⟩ := q
  exact ⟨h.fd.2.1, h⟩
set_option maxHeartbeats 4000000 in
theorem o_findings (l : Launch) {u : Un} (hA : Ap u) {σ : St} (h : Rel σ) (a1 : Int32) : OpI l u y_T_findings b_T_findings 2 1 y_M_findings b_M_findings 2 1 [.int a1] σ := by
  refine ⟨_, c_T_findings l u hA σ a1, fun x τ p => ?_⟩
  refine ⟨_, c_M_findings l u hA τ a1, fun y ρ q => ?_⟩
  obtain ⟨rfl, rfl⟩ := p
  obtain ⟨rfl, rfl⟩ := q
  refine ⟨?_, h⟩
  split
  · obtain ⟨f, h1, h2, -⟩ := nat_of (M := 5) (Int32.le_trans (by decide) (by assumption : 1 ≤ a1 ∧ a1 ≤ 5).1) (by assumption : 1 ≤ a1 ∧ a1 ≤ 5).2 rfl (by decide)
    rw [h2]
    exact h.fd.1 f (by omega)
  · rfl
set_option maxHeartbeats 4000000 in
theorem o_digest (l : Launch) {u : Un} (hA : Ap u) {σ : St} (h : Rel σ) : OpL l u y_T_digest b_T_digest 5 7 y_M_digest b_M_digest 3 5 [] σ := by
  obtain ⟨-, -, n, kd, D, wN, aN, hB⟩ := id h
  have b := hB.br (TM.rf (σ := σ))
  refine ⟨_, c_T_digest l u hA σ b.bk b.L1 b.L3 h.tR h.tT, fun x τ p => ?_⟩
  have t : TM σ τ := (by rw [← p.2]; exact TM.rf)
  have b2 := hB.br t
  refine ⟨_, c_M_digest l u hA τ b2.mk b2.L3 b2.mL b2.mD b2.D2 (h.mR t) (h.mT t), fun y ρ q => ?_⟩
  exact e_digest h hB p q
