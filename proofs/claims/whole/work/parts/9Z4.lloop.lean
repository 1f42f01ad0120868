def R_law : String := "TakerBookLaw"
def lw_P (b : Addr) (xs : List Int32) (args : Array Value) (s : State) : Prop := args = #[.ref b] ∧ s.IntsAt b xs ∧ xs.length ≤ 3072 ∧ (Jvm.Cond.and given_1 narrow_1).before args s = true
def lw_Q (_ : Array Value) (s : State) (o : Outcome) (t : State) : Prop := o = .returned (some (.int 1)) ∧ Framed s o t [] 600000 7302250
def lw_Z (below : List Frame) (a : Array Value) (s : State) : State → Prop := fun t => ∃ o, t.status = .running ∧ Ended t below o ∧ lw_Q a s o t
/-- the law's own end, with 1 on the stack, nothing written that was there before, its room as the claim has it -/
theorem lw_ret {p : Program} {l : Launch} {e : Env} {s : State} {m : MethodId} {below : List Frame} {meth : Method} {c : Code} {b : Nat} (hx : p.tables.exec = Jvm.exec) (hb : c.code = code) (hr : meth.sig.returnType = ret) (hlocks : meth.locks = false) {pc : Nat} {H : Heap} {ls : Array Slot} (hdg : decode code pc = .ok (.ireturn, 1)) : W p l e room_1 s m #[Value.ref b] below meth c H [] 600000 7302250 (lw_Z below #[Value.ref b] s) (F0 m pc ls [.int 1]) := by
  intro T hT X
  obtain ⟨fs, hret, hrun, hended, hW, hframe⟩ := X.leave (v := some (.int 1)) (hlocks := hlocks) (fun h => by rw [hr] at h; cases h)
  have hmeth' : T.vm.method? m = some meth := X.method'
  refine ⟨T.setFrames fs, ?_, .returned (some (.int 1)), hrun, hended, rfl, ⟨_, rfl⟩, hW, hframe⟩
  jvm_step X.here [X.here.top, hx, hb, hdg, hmeth', hr, ret, narrow_b1]
  (try refine ⟨rfl, ?_⟩); (try refine ⟨rfl, ?_⟩)
  first | (intro acts; rw [hret _ acts rfl rfl rfl]) | rw [hret _ _ rfl rfl rfl]
  exact Steps.refl _
/-- what holds at the law's entry: the machine, the code, the tables' words (any of lw_tbl by 'hts w (by decide +kernel)'), the script of L ints xs at the cell b, what the Statement gives of the start (any of its parts by flat_of_before) -/
def lw_At (p : Program) (s : State) (m : MethodId) (meth : Method) (c : Code) (b L : Nat) (xs : Nat → Int32) : Prop :=
  p.tables.exec = Jvm.exec ∧ c.code = code ∧ meth.sig.returnType = ret ∧ c.maxLocals = 4 ∧ s.vm.findClass R_law = some m.cls ∧ (∀ w ∈ lw_tbl, w.before #[Value.ref b] s = true) ∧ va_X b L xs s s.heap ∧ b < s.heap.size ∧ meth.locks = false ∧ (Jvm.Cond.and given_1 narrow_1).before #[Value.ref b] s = true
-- the law's loop
theorem nI_bv (x : Int32) : x = nI x.toBitVec.toNat := by
  apply Int32.toBitVec_inj.mp
  show x.toBitVec = BitVec.ofNat 32 x.toBitVec.toNat
  simp
theorem and63 (x : Int32) : ∃ j, j < 64 ∧ x &&& 63 = nI j := ⟨x.toBitVec.toNat &&& 63, Nat.lt_of_le_of_lt Nat.and_le_right (by decide), (congrArg (· &&& 63) (nI_bv x)).trans nI_and⟩
theorem law_le {i L : Nat} (hL : L ≤ 3072) (hi : i ≤ L) (h : ¬ Int32.ofNat L - 6 < nI i) : i + 6 ≤ L := by
  by_cases c : L < 6
  · exact absurd ((show ∀ L, L < 6 → ∀ i, i < 6 → i ≤ L → nI L - 6 < nI i by decide) L c i (by omega) hi) h
  · obtain ⟨k, rfl⟩ : ∃ k, L = k + 6 := ⟨L - 6, by omega⟩
    have e : Int32.ofNat (k + 6) - 6 = nI k := by
      rw [show Int32.ofNat (k + 6) = nI k + 6 from (nI_add k 6).symm]
      exact Int32.add_sub_cancel _ _
    rw [e, nI_ltI (by omega) (by omega)] at h
    omega
set_option maxHeartbeats 4000000 in
set_option maxRecDepth 100000 in
theorem law_loop {p : Program} {l : Launch} {e : Env} {s : State} {m : MethodId} {below : List Frame} {meth : Method} {c : Code} {u : Un} {b L : Nat} {xs : Nat → Int32} (F : LF (p, l, e, s, m, #[Value.ref b], below, meth, c) u b L xs) (hr : meth.sig.returnType = ret) : ∀ (n i : Nat) (σ : St), i ≤ L → L + 1 ≤ i + n → Rel σ → VL (p, l, e, s, m, #[Value.ref b], below, meth, c) u (lw_Z below #[Value.ref b] s) 18 (LQ u b (nI i)) [] σ := by
  intro n
  induction n with
  | zero =>
    intro i σ h1 h2
    exact absurd h2 (by omega)
  | succ n ih =>
    intro i σ h1 h2 h
    have kk : ∀ (ρ : St), i + 6 ≤ L → Rel ρ → VL (p, l, e, s, m, #[Value.ref b], below, meth, c) u (lw_Z below #[Value.ref b] s) 1329 (LQ u b (nI i)) [] ρ := fun ρ hi hR H locs la hP hS hl => by
      refine lv_iinc (v := nI (i + 6)) (lv' := [(3, .int (nI (i + 6))), (0, .ref b), (1, .ref (u.2.1 0)), (2, .ref (u.2.1 63))]) F.1.1 F.1.2.1 d_L_1329 hl (k := 3) rfl (nI_add i 6) (by decide) rfl (fun la hl => ?_)
      refine lv_goto (tgt := 18) F.1.1 F.1.2.1 d_L_1332 (by decide) ?_
      exact ih (i + 6) ρ hi (by omega) hR H locs la hP hS (lv_sub hl [1, 2, 3, 0] rfl)
    intro H locs la hP hS hl
    refine lv_iload_n F.1.1 F.1.2.1 d_L_18 rfl (lv_at hl 3 rfl) ?_
    refine lv_aload_n F.1.1 F.1.2.1 d_L_19 rfl (lv_at hl 0 rfl) ?_
    refine va_slen F.1.1 F.1.2.1 F.2.1 F.2.2.1 F.bA hS d_L_20 ?_
    refine lv_bipush (v := 6) F.1.1 F.1.2.1 d_L_21 (by decide) ?_
    refine lv_isub F.1.1 F.1.2.1 d_L_23 ?_
    refine lv_icmp_gt (tgt := 1335) F.1.1 F.1.2.1 d_L_24 (by decide) (fun c1 => ?_) (fun c1 => ?_)
    · refine lv_iconst (v := 1) F.1.1 F.1.2.1 d_L_1335 (by decide) ?_
      refine va_forget (fun q hq => F.2.2.2.1 _ (hS.2.2 q hq)) ?_
      refine W.widen (k := 600000) (n := 7302250) (by decide) (by decide) ?_
      exact lw_ret (b := b) F.1.1 F.1.2.1 hr F.1.2.2.2.2.2.2.2.2 d_L_1336
    · have hi : i + 6 ≤ L := law_le F.2.2.2.2 h1 c1
      refine lv_aload_n F.1.1 F.1.2.1 d_L_27 rfl (lv_at hl 0 rfl) ?_
      refine lv_iload_n F.1.1 F.1.2.1 d_L_28 rfl (lv_at hl 3 rfl) ?_
      refine va_sld F.1.1 F.1.2.1 F.2.1 F.2.2.1 F.bA hS (vp_in_nI (show i < L by omega) (by have := F.2.2.2.2; omega)) d_L_29 ?_
      refine lv_bipush (v := 63) F.1.1 F.1.2.1 d_L_30 (by decide) ?_
      refine lv_iand F.1.1 F.1.2.1 d_L_32 ?_
      obtain ⟨j, hj, ej⟩ := and63 (xs (nI i).toNatClampNeg)
      rw [ej]
      by_cases cj : j < 44
      · rcases (show j = 0 ∨ j = 1 ∨ j = 2 ∨ j = 3 ∨ j = 4 ∨ j = 5 ∨ j = 6 ∨ j = 7 ∨ j = 8 ∨ j = 9 ∨ j = 10 ∨ j = 11 ∨ j = 12 ∨ j = 13 ∨ j = 14 ∨ j = 15 ∨ j = 16 ∨ j = 17 ∨ j = 18 ∨ j = 19 ∨ j = 20 ∨ j = 21 ∨ j = 22 ∨ j = 23 ∨ j = 24 ∨ j = 25 ∨ j = 26 ∨ j = 27 ∨ j = 28 ∨ j = 29 ∨ j = 30 ∨ j = 31 ∨ j = 32 ∨ j = 33 ∨ j = 34 ∨ j = 35 ∨ j = 36 ∨ j = 37 ∨ j = 38 ∨ j = 39 ∨ j = 40 ∨ j = 41 ∨ j = 42 ∨ j = 43 by omega) with rfl | rfl | rfl | rfl | rfl | rfl | rfl | rfl | rfl | rfl | rfl | rfl | rfl | rfl | rfl | rfl | rfl | rfl | rfl | rfl | rfl | rfl | rfl | rfl | rfl | rfl | rfl | rfl | rfl | rfl | rfl | rfl | rfl | rfl | rfl | rfl | rfl | rfl | rfl | rfl | rfl | rfl | rfl | rfl
        · refine lv_tableIn (off := 191) (tgt := 224) F.1.1 F.1.2.1 d_L_33 (by decide) (by decide) (by decide) rfl ?_
          exact lc_0 F hi h (fun ρ hR => kk ρ hi hR) H locs la hP hS hl
        · refine lv_tableIn (off := 224) (tgt := 257) F.1.1 F.1.2.1 d_L_33 (by decide) (by decide) (by decide) rfl ?_
          exact lc_1 F hi h (fun ρ hR => kk ρ hi hR) H locs la hP hS hl
        · refine lv_tableIn (off := 267) (tgt := 300) F.1.1 F.1.2.1 d_L_33 (by decide) (by decide) (by decide) rfl ?_
          exact lc_2 F hi h (fun ρ hR => kk ρ hi hR) H locs la hP hS hl
        · refine lv_tableIn (off := 300) (tgt := 333) F.1.1 F.1.2.1 d_L_33 (by decide) (by decide) (by decide) rfl ?_
          exact lc_3 F hi h (fun ρ hR => kk ρ hi hR) H locs la hP hS hl
        · refine lv_tableIn (off := 323) (tgt := 356) F.1.1 F.1.2.1 d_L_33 (by decide) (by decide) (by decide) rfl ?_
          exact lc_4 F hi h (fun ρ hR => kk ρ hi hR) H locs la hP hS hl
        · refine lv_tableIn (off := 386) (tgt := 419) F.1.1 F.1.2.1 d_L_33 (by decide) (by decide) (by decide) rfl ?_
          exact lc_5 F hi h (fun ρ hR => kk ρ hi hR) H locs la hP hS hl
        · refine lv_tableIn (off := 409) (tgt := 442) F.1.1 F.1.2.1 d_L_33 (by decide) (by decide) (by decide) rfl ?_
          exact lc_6 F hi h (fun ρ hR => kk ρ hi hR) H locs la hP hS hl
        · refine lv_tableIn (off := 442) (tgt := 475) F.1.1 F.1.2.1 d_L_33 (by decide) (by decide) (by decide) rfl ?_
          exact lc_7 F hi h (fun ρ hR => kk ρ hi hR) H locs la hP hS hl
        · refine lv_tableIn (off := 485) (tgt := 518) F.1.1 F.1.2.1 d_L_33 (by decide) (by decide) (by decide) rfl ?_
          exact lc_8 F hi h (fun ρ hR => kk ρ hi hR) H locs la hP hS hl
        · refine lv_tableIn (off := 508) (tgt := 541) F.1.1 F.1.2.1 d_L_33 (by decide) (by decide) (by decide) rfl ?_
          exact lc_9 F hi h (fun ρ hR => kk ρ hi hR) H locs la hP hS hl
        · refine lv_tableIn (off := 531) (tgt := 564) F.1.1 F.1.2.1 d_L_33 (by decide) (by decide) (by decide) rfl ?_
          exact lc_10 F hi h (fun ρ hR => kk ρ hi hR) H locs la hP hS hl
        · refine lv_tableIn (off := 564) (tgt := 597) F.1.1 F.1.2.1 d_L_33 (by decide) (by decide) (by decide) rfl ?_
          exact lc_11 F hi h (fun ρ hR => kk ρ hi hR) H locs la hP hS hl
        · refine lv_tableIn (off := 597) (tgt := 630) F.1.1 F.1.2.1 d_L_33 (by decide) (by decide) (by decide) rfl ?_
          exact lc_12 F hi h (fun ρ hR => kk ρ hi hR) H locs la hP hS hl
        · refine lv_tableIn (off := 610) (tgt := 643) F.1.1 F.1.2.1 d_L_33 (by decide) (by decide) (by decide) rfl ?_
          exact lc_13 F hi h (fun ρ hR => kk ρ hi hR) H locs la hP hS hl
        · refine lv_tableIn (off := 633) (tgt := 666) F.1.1 F.1.2.1 d_L_33 (by decide) (by decide) (by decide) rfl ?_
          exact lc_14 F hi h (fun ρ hR => kk ρ hi hR) H locs la hP hS hl
        · refine lv_tableIn (off := 656) (tgt := 689) F.1.1 F.1.2.1 d_L_33 (by decide) (by decide) (by decide) rfl ?_
          exact lc_15 F hi h (fun ρ hR => kk ρ hi hR) H locs la hP hS hl
        · refine lv_tableIn (off := 679) (tgt := 712) F.1.1 F.1.2.1 d_L_33 (by decide) (by decide) (by decide) rfl ?_
          exact lc_16 F hi h (fun ρ hR => kk ρ hi hR) H locs la hP hS hl
        · refine lv_tableIn (off := 702) (tgt := 735) F.1.1 F.1.2.1 d_L_33 (by decide) (by decide) (by decide) rfl ?_
          exact lc_17 F hi h (fun ρ hR => kk ρ hi hR) H locs la hP hS hl
        · refine lv_tableIn (off := 725) (tgt := 758) F.1.1 F.1.2.1 d_L_33 (by decide) (by decide) (by decide) rfl ?_
          exact lc_18 F hi h (fun ρ hR => kk ρ hi hR) H locs la hP hS hl
        · refine lv_tableIn (off := 748) (tgt := 781) F.1.1 F.1.2.1 d_L_33 (by decide) (by decide) (by decide) rfl ?_
          exact lc_19 F hi h (fun ρ hR => kk ρ hi hR) H locs la hP hS hl
        · refine lv_tableIn (off := 761) (tgt := 794) F.1.1 F.1.2.1 d_L_33 (by decide) (by decide) (by decide) rfl ?_
          exact lc_20 F hi h (fun ρ hR => kk ρ hi hR) H locs la hP hS hl
        · refine lv_tableIn (off := 774) (tgt := 807) F.1.1 F.1.2.1 d_L_33 (by decide) (by decide) (by decide) rfl ?_
          exact lc_21 F hi h (fun ρ hR => kk ρ hi hR) H locs la hP hS hl
        · refine lv_tableIn (off := 787) (tgt := 820) F.1.1 F.1.2.1 d_L_33 (by decide) (by decide) (by decide) rfl ?_
          exact lc_22 F hi h (fun ρ hR => kk ρ hi hR) H locs la hP hS hl
        · refine lv_tableIn (off := 810) (tgt := 843) F.1.1 F.1.2.1 d_L_33 (by decide) (by decide) (by decide) rfl ?_
          exact lc_23 F hi h (fun ρ hR => kk ρ hi hR) H locs la hP hS hl
        · refine lv_tableIn (off := 843) (tgt := 876) F.1.1 F.1.2.1 d_L_33 (by decide) (by decide) (by decide) rfl ?_
          exact lc_24 F hi h (fun ρ hR => kk ρ hi hR) H locs la hP hS hl
        · refine lv_tableIn (off := 866) (tgt := 899) F.1.1 F.1.2.1 d_L_33 (by decide) (by decide) (by decide) rfl ?_
          exact lc_25 F hi h (fun ρ hR => kk ρ hi hR) H locs la hP hS hl
        · refine lv_tableIn (off := 889) (tgt := 922) F.1.1 F.1.2.1 d_L_33 (by decide) (by decide) (by decide) rfl ?_
          exact lc_26 F hi h (fun ρ hR => kk ρ hi hR) H locs la hP hS hl
        · refine lv_tableIn (off := 912) (tgt := 945) F.1.1 F.1.2.1 d_L_33 (by decide) (by decide) (by decide) rfl ?_
          exact lc_27 F hi h (fun ρ hR => kk ρ hi hR) H locs la hP hS hl
        · refine lv_tableIn (off := 935) (tgt := 968) F.1.1 F.1.2.1 d_L_33 (by decide) (by decide) (by decide) rfl ?_
          exact lc_28 F hi h (fun ρ hR => kk ρ hi hR) H locs la hP hS hl
        · refine lv_tableIn (off := 958) (tgt := 991) F.1.1 F.1.2.1 d_L_33 (by decide) (by decide) (by decide) rfl ?_
          exact lc_29 F hi h (fun ρ hR => kk ρ hi hR) H locs la hP hS hl
        · refine lv_tableIn (off := 991) (tgt := 1024) F.1.1 F.1.2.1 d_L_33 (by decide) (by decide) (by decide) rfl ?_
          exact lc_30 F hi h (fun ρ hR => kk ρ hi hR) H locs la hP hS hl
        · refine lv_tableIn (off := 1024) (tgt := 1057) F.1.1 F.1.2.1 d_L_33 (by decide) (by decide) (by decide) rfl ?_
          exact lc_31 F hi h (fun ρ hR => kk ρ hi hR) H locs la hP hS hl
        · refine lv_tableIn (off := 1057) (tgt := 1090) F.1.1 F.1.2.1 d_L_33 (by decide) (by decide) (by decide) rfl ?_
          exact lc_32 F hi h (fun ρ hR => kk ρ hi hR) H locs la hP hS hl
        · refine lv_tableIn (off := 1080) (tgt := 1113) F.1.1 F.1.2.1 d_L_33 (by decide) (by decide) (by decide) rfl ?_
          exact lc_33 F hi h (fun ρ hR => kk ρ hi hR) H locs la hP hS hl
        · refine lv_tableIn (off := 1103) (tgt := 1136) F.1.1 F.1.2.1 d_L_33 (by decide) (by decide) (by decide) rfl ?_
          exact lc_34 F hi h (fun ρ hR => kk ρ hi hR) H locs la hP hS hl
        · refine lv_tableIn (off := 1126) (tgt := 1159) F.1.1 F.1.2.1 d_L_33 (by decide) (by decide) (by decide) rfl ?_
          exact lc_35 F hi h (fun ρ hR => kk ρ hi hR) H locs la hP hS hl
        · refine lv_tableIn (off := 1149) (tgt := 1182) F.1.1 F.1.2.1 d_L_33 (by decide) (by decide) (by decide) rfl ?_
          exact lc_36 F hi h (fun ρ hR => kk ρ hi hR) H locs la hP hS hl
        · refine lv_tableIn (off := 1182) (tgt := 1215) F.1.1 F.1.2.1 d_L_33 (by decide) (by decide) (by decide) rfl ?_
          exact lc_37 F hi h (fun ρ hR => kk ρ hi hR) H locs la hP hS hl
        · refine lv_tableIn (off := 1195) (tgt := 1228) F.1.1 F.1.2.1 d_L_33 (by decide) (by decide) (by decide) rfl ?_
          exact lc_38 F hi h (fun ρ hR => kk ρ hi hR) H locs la hP hS hl
        · refine lv_tableIn (off := 1209) (tgt := 1242) F.1.1 F.1.2.1 d_L_33 (by decide) (by decide) (by decide) rfl ?_
          exact lc_39 F hi h (fun ρ hR => kk ρ hi hR) H locs la hP hS hl
        · refine lv_tableIn (off := 1223) (tgt := 1256) F.1.1 F.1.2.1 d_L_33 (by decide) (by decide) (by decide) rfl ?_
          exact lc_40 F hi h (fun ρ hR => kk ρ hi hR) H locs la hP hS hl
        · refine lv_tableIn (off := 1246) (tgt := 1279) F.1.1 F.1.2.1 d_L_33 (by decide) (by decide) (by decide) rfl ?_
          exact lc_41 F hi h (fun ρ hR => kk ρ hi hR) H locs la hP hS hl
        · refine lv_tableIn (off := 1259) (tgt := 1292) F.1.1 F.1.2.1 d_L_33 (by decide) (by decide) (by decide) rfl ?_
          exact lc_42 F hi h (fun ρ hR => kk ρ hi hR) H locs la hP hS hl
        · refine lv_tableIn (off := 1282) (tgt := 1315) F.1.1 F.1.2.1 d_L_33 (by decide) (by decide) (by decide) rfl ?_
          exact lc_43 F hi h (fun ρ hR => kk ρ hi hR) H locs la hP hS hl
      · refine lv_tableOut (tgt := 1329) F.1.1 F.1.2.1 d_L_33 (Or.inr ?_) (by decide) ?_
        · rw [show (nI j).toInt = (j : Int) from nI_toInt (by omega)]
          omega
        · exact kk σ hi h H locs la hP hS hl
