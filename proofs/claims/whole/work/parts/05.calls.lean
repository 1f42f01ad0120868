-- calls
def mok (y : MethodName) (cc : ByteArray) (nL : Nat) (ret : Option FieldType) (n : Nat) : Prop := Cond.code y cc nL ret ∈ lw_tbl ∧ (y.cls ≠ "java/lang/invoke/MethodHandle" ∧ y.cls ≠ "java/lang/invoke/VarHandle" ∧ (parseMethodDescriptor y.desc).map (fun d => d.parameters.length) = some n) ∧ Cond.initialized y.cls ∈ lw_tbl ∧ nL ≤ 21
def siteV (own : String) (idx : Nat) (y : MethodName) : Prop := Cond.methodLink own idx y ∈ lw_tbl ∧ Cond.instanceMethod y ∈ lw_tbl ∧ Cond.selects y.cls y y ∈ lw_tbl
def siteS (own : String) (idx : Nat) (y : MethodName) : Prop := Cond.methodLink own idx y ∈ lw_tbl ∧ Cond.static y ∈ lw_tbl
def siteN (own : String) (idx : Nat) (y : MethodName) (host : String) : Prop := (own, idx, y, host) ∈ nestL ∧ Cond.static y ∈ lw_tbl
def siteU (own : String) (idx : Nat) (x y : MethodName) (C : String) : Prop := Cond.methodLink own idx x ∈ lw_tbl ∧ Cond.sameMethod x.cls x.cls x.name x.desc ∈ lw_tbl ∧ Cond.instanceMethod x ∈ lw_tbl ∧ (∃ b0 m0 r0, Cond.code x b0 m0 r0 ∈ lw_tbl) ∧ Cond.selects C x y ∈ lw_tbl ∧ Cond.instanceMethod y ∈ lw_tbl ∧ y.desc = x.desc
def siteSU (own : String) (idx : Nat) (y : MethodName) : Prop := Cond.methodLink own idx y ∈ lw_tbl ∧ Cond.sameMethod y.cls y.cls y.name y.desc ∈ lw_tbl ∧ Cond.superclass own y.cls ∈ lw_tbl ∧ Cond.instanceMethod y ∈ lw_tbl ∧ y.name ≠ "<init>"
def recv (k : Nat) (C : String) : Prop := ∃ (ci : Nat) (fs : List (Nat ⊕ Bool)) (q : vw_C), Gam[k]? = some (.inr (.inr (ci, fs))) ∧ cls[ci]? = some q ∧ q.1 = C
theorem wsY_good {y : MethodName} {cc : ByteArray} {nL : Nat} {ret : Option FieldType} (h : Cond.code y cc nL ret ∈ lw_tbl) : GoodIn tbG (wsY y cc nL ret) := by
  intro w hw
  rcases List.mem_cons.mp hw with rfl | hw
  · exact ⟨inG h rfl, Or.inl rfl⟩
  · exact ⟨hw, tbG_good hw⟩
section
variable {X : FX} {u : Un} {own : String} {cc : ByteArray} {d nL : Nat} {Q : State → Prop} {pc : Nat} {ls : List (Nat × Value)} {stk st : List Value} {σ : St}
theorem room_le {d' d nL' : Nat} (hd : d' + 1 ≤ d) (hn : nL' ≤ 21) : (rmD d').frames + 1 ≤ (rmD d).frames ∧ 8 + (nL' + 11) + (rmD d').locals ≤ (rmD d).locals := by
  constructor
  · exact hd
  · show 8 + (nL' + 11) + d' * 40 ≤ d * 40
    omega
theorem v_fix (F : Fr X u own cc nL) : CallFix X.1 X.m X.c cc nL X.s X.args tbG own := ⟨F.1, F.2.1, F.2.2.1, F.2.2.2.1, F.2.2.2.2.1⟩
theorem v_preS (F : Fr X u own cc nL) (As : List Value) {H : Heap} {locs : List Loc} (hP : va_P u.1 cls (wU u σ) H) (hS : va_S (AU u) X.s.heap H locs) : PreS X.s H (PcU u As σ) As :=
  ⟨PcU_blind u As σ, fun U hU hW => ⟨rfl, by rw [hU]; exact hP, Uk.moved hW.alike F.2.2.2.2.2.1, F.2.2.2.2.2.2.1.moved hS hU hW⟩⟩
theorem v_preV (F : Fr X u own cc nL) (As : List Value) {k : Nat} {C : String} (hr : recv k C) {H : Heap} {locs : List Loc} (hP : va_P u.1 cls (wU u σ) H) (hS : va_S (AU u) X.s.heap H locs) : PreV X.s H C (u.2.1 k) (PcU u (.ref (u.2.1 k) :: As) σ) As := by
  obtain ⟨ci, fs, q, hG, hq, rfl⟩ := hr
  exact ⟨PcU_blind u _ σ, va_recv F.2.2.2.2.2.1.K0 hP hq (wU_get u σ hG), fun U hU hW => ⟨rfl, by rw [hU]; exact hP, Uk.moved hW.alike F.2.2.2.2.2.1, F.2.2.2.2.2.2.1.moved hS hU hW⟩⟩
theorem v_runi {P : Int32 → St → Prop} {av : Array Value} (hrun : ∀ (H : Heap) (locs : List Loc) (la : Array Slot), va_P u.1 cls (wU u σ) H → va_S (AU u) X.s.heap H locs → la.size = nL → va_Run X.1 X.2.1 X.2.2.1 (rmD d) X.s X.m X.args X.below X.meth X.c H locs 0 0 0 0 (F0 X.m pc la stk) st (va_Qi P (BU u) (AU u) av) (AU u))
    (kk : ∀ (r : Int32) (σ' : St), P r σ' → V X u d nL Q (pc + 3) ls (.int r :: st) σ') : V X u d nL Q pc ls stk σ :=
  fun H locs la hP hS hl => va_calli (hrun H locs la hP hS hl.1) hS (fun q _ h => h) (fun q h => h) (fun r u' t H1 locs1 ht hvm hp hB hz hk hS1 => kk r u' hp H1 locs1 la (by rw [← ht]; exact hB) hS1 hl)
theorem v_runl {P : Int64 → St → Prop} {av : Array Value} (hrun : ∀ (H : Heap) (locs : List Loc) (la : Array Slot), va_P u.1 cls (wU u σ) H → va_S (AU u) X.s.heap H locs → la.size = nL → va_Run X.1 X.2.1 X.2.2.1 (rmD d) X.s X.m X.args X.below X.meth X.c H locs 0 0 0 0 (F0 X.m pc la stk) st (va_Ql P (BU u) (AU u) av) (AU u))
    (kk : ∀ (r : Int64) (σ' : St), P r σ' → V X u d nL Q (pc + 3) ls (.long r :: st) σ') : V X u d nL Q pc ls stk σ :=
  fun H locs la hP hS hl => va_calll (hrun H locs la hP hS hl.1) hS (fun q _ h => h) (fun q h => h) (fun r u' t H1 locs1 ht hvm hp hB hz hk hS1 => kk r u' hp H1 locs1 la (by rw [← ht]; exact hB) hS1 hl)
theorem v_runv {P : St → Prop} {av : Array Value} (hrun : ∀ (H : Heap) (locs : List Loc) (la : Array Slot), va_P u.1 cls (wU u σ) H → va_S (AU u) X.s.heap H locs → la.size = nL → va_Run X.1 X.2.1 X.2.2.1 (rmD d) X.s X.m X.args X.below X.meth X.c H locs 0 0 0 0 (F0 X.m pc la stk) st (va_Qv P (BU u) (AU u) av) (AU u))
    (kk : ∀ (σ' : St), P σ' → V X u d nL Q (pc + 3) ls st σ') : V X u d nL Q pc ls stk σ :=
  fun H locs la hP hS hl => va_callv (hrun H locs la hP hS hl.1) hS (fun q _ h => h) (fun q h => h) (fun u' t H1 locs1 ht hvm hp hB hz hk hS1 => kk u' hp H1 locs1 la (by rw [← ht]; exact hB) hS1 hl)
theorem v_runr {k : Nat} {av : Array Value} (hrun : ∀ (H : Heap) (locs : List Loc) (la : Array Slot), va_P u.1 cls (wU u σ) H → va_S (AU u) X.s.heap H locs → la.size = nL → va_Run X.1 X.2.1 X.2.2.1 (rmD d) X.s X.m X.args X.below X.meth X.c H locs 0 0 0 0 (F0 X.m pc la stk) st (va_Qr (fun _ : St => True) (fun _ a t => a = u.2.1 k ∧ BU u σ t) (AU u) av) (AU u))
    (kk : V X u d nL Q (pc + 3) ls (.ref (u.2.1 k) :: st) σ) : V X u d nL Q pc ls stk σ :=
  fun H locs la hP hS hl => va_callr (hrun H locs la hP hS hl.1) hS (fun q _ h => h) (fun q h => h) (fun u' ra t H1 locs1 ht hvm hp hB hz hk hS1 => by
    obtain ⟨rfl, hB⟩ := hB
    exact kk H1 locs1 la (by rw [← ht]; exact hB) hS1 hl)
variable {y x : MethodName} {cc' : ByteArray} {nL' d' idx k : Nat} {ret : Option FieldType} {As : List Value} {Qc : Array Value → State → Outcome → State → Prop} {host C : String}
theorem r_V (F : Fr X u own cc nL) (hM : Met X.2.1 y (wsY y cc' nL' ret) (rmD d') (PcU u (.ref (u.2.1 k) :: As) σ) Qc 0 0 (AU u)) (hm : mok y cc' nL' ret As.length) (hs : siteV own idx y) (hr : recv k y.cls) (hd : d' + 1 ≤ d) (hst : stk = As.reverse ++ .ref (u.2.1 k) :: st) (hw : (st.map fun v => v.category).sum ≤ 8) (hdg : decode cc pc = .ok (.invokevirtual idx, 3)) :
    ∀ (H : Heap) (locs : List Loc) (la : Array Slot), va_P u.1 cls (wU u σ) H → va_S (AU u) X.s.heap H locs → la.size = nL → va_Run X.1 X.2.1 X.2.2.1 (rmD d) X.s X.m X.args X.below X.meth X.c H locs 0 0 0 0 (F0 X.m pc la stk) st (Qc (Value.ref (u.2.1 k) :: As).toArray) (AU u) :=
  fun H locs la hP hS hl => va_runV (v_fix F) hM ⟨callB_of As.length F.2.2.2.2.1 (wsY_good hm.1) rfl rfl rfl (F.2.2.2.2.1 _ (inG hm.2.2.1 rfl)) (F.2.2.2.2.1 _ (inG hs.1 rfl)) hm.2.1 (room_le hd hm.2.2.2), F.2.2.2.2.1 _ (inG hs.2.1 rfl), F.2.2.2.2.1 _ (inG hs.2.2 rfl)⟩ (v_preV F As hr hP hS) rfl rfl hl hst (lv_room hw) hdg ⟨Nat.zero_le _, Nat.zero_le _⟩
theorem r_S (F : Fr X u own cc nL) (hM : Met X.2.1 y (wsY y cc' nL' ret) (rmD d') (PcU u As σ) Qc 0 0 (AU u)) (hm : mok y cc' nL' ret As.length) (hs : siteS own idx y) (hd : d' + 1 ≤ d) (hst : stk = As.reverse ++ st) (hw : (st.map fun v => v.category).sum ≤ 8) (hdg : decode cc pc = .ok (.invokestatic idx, 3)) :
    ∀ (H : Heap) (locs : List Loc) (la : Array Slot), va_P u.1 cls (wU u σ) H → va_S (AU u) X.s.heap H locs → la.size = nL → va_Run X.1 X.2.1 X.2.2.1 (rmD d) X.s X.m X.args X.below X.meth X.c H locs 0 0 0 0 (F0 X.m pc la stk) st (Qc As.toArray) (AU u) :=
  fun H locs la hP hS hl => va_runS (v_fix F) hM ⟨callB_of As.length F.2.2.2.2.1 (wsY_good hm.1) rfl rfl rfl (F.2.2.2.2.1 _ (inG hm.2.2.1 rfl)) (F.2.2.2.2.1 _ (inG hs.1 rfl)) hm.2.1 (room_le hd hm.2.2.2), F.2.2.2.2.1 _ (inG hs.2 rfl)⟩ (v_preS F As hP hS) rfl rfl hl hst (lv_room hw) hdg ⟨Nat.zero_le _, Nat.zero_le _⟩
theorem r_N (F : Fr X u own cc nL) (hM : Met X.2.1 y (wsY y cc' nL' ret) (rmD d') (PcU u As σ) Qc 0 0 (AU u)) (hm : mok y cc' nL' ret As.length) (hs : siteN own idx y host) (hd : d' + 1 ≤ d) (hst : stk = As.reverse ++ st) (hw : (st.map fun v => v.category).sum ≤ 8) (hdg : decode cc pc = .ok (.invokestatic idx, 3)) :
    ∀ (H : Heap) (locs : List Loc) (la : Array Slot), va_P u.1 cls (wU u σ) H → va_S (AU u) X.s.heap H locs → la.size = nL → va_Run X.1 X.2.1 X.2.2.1 (rmD d) X.s X.m X.args X.below X.meth X.c H locs 0 0 0 0 (F0 X.m pc la stk) st (Qc As.toArray) (AU u) :=
  fun H locs la hP hS hl => va_runSN (v_fix F) hM ⟨va_cnB (host := host) As.length F.2.2.2.2.1 (wsY_good hm.1) rfl rfl rfl (F.2.2.2.2.2.2.1.2 _ hs.1) (F.2.2.2.2.1 _ (inG hm.2.2.1 rfl)) hm.2.1 (room_le hd hm.2.2.2), F.2.2.2.2.1 _ (inG hs.2 rfl), trivial⟩ (v_preS F As hP hS) rfl rfl hl hst (lv_room hw) hdg ⟨Nat.zero_le _, Nat.zero_le _⟩
theorem r_U (F : Fr X u own cc nL) (hM : Met X.2.1 y (wsY y cc' nL' ret) (rmD d') (PcU u (.ref (u.2.1 k) :: As) σ) Qc 0 0 (AU u)) (hm : mok y cc' nL' ret As.length) (hs : siteU own idx x y C) (hx : x.cls ≠ "java/lang/invoke/MethodHandle" ∧ x.cls ≠ "java/lang/invoke/VarHandle") (hr : recv k C) (hd : d' + 1 ≤ d) (hst : stk = As.reverse ++ .ref (u.2.1 k) :: st) (hw : (st.map fun v => v.category).sum ≤ 8) (hdg : decode cc pc = .ok (.invokevirtual idx, 3)) :
    ∀ (H : Heap) (locs : List Loc) (la : Array Slot), va_P u.1 cls (wU u σ) H → va_S (AU u) X.s.heap H locs → la.size = nL → va_Run X.1 X.2.1 X.2.2.1 (rmD d) X.s X.m X.args X.below X.meth X.c H locs 0 0 0 0 (F0 X.m pc la stk) st (Qc (Value.ref (u.2.1 k) :: As).toArray) (AU u) := by
  intro H locs la hP hS hl
  obtain ⟨h1, h2, h3, ⟨b0, m0, r0, h4⟩, h5, h6, h7⟩ := hs
  have hG := wsY_good hm.1
  refine va_runU (v_fix F) hM (va_cwO (C := C) (owner := x.cls) (b0 := b0) (m0 := m0) (r0 := r0) As.length F.2.2.2.2.1 ?_ rfl rfl rfl ?_ ⟨hx.1, hx.2, by rw [← h7]; exact hm.2.1.2.2⟩ (room_le hd hm.2.2.2)) (v_preV F As hr hP hS) rfl rfl hl hst (lv_room hw) hdg ⟨Nat.zero_le _, Nat.zero_le _⟩
  · intro w hw
    rcases List.mem_append.mp hw with hw | hw
    · simp only [List.mem_cons, List.not_mem_nil, or_false] at hw
      rcases hw with rfl | rfl | rfl | rfl | rfl | rfl
      · exact ⟨inG h1 rfl, Or.inl rfl⟩
      · exact ⟨inG h2 rfl, Or.inl rfl⟩
      · exact ⟨inG h3 rfl, Or.inl rfl⟩
      · exact ⟨inG h5 rfl, Or.inl rfl⟩
      · exact ⟨inG h6 rfl, Or.inl rfl⟩
      · exact ⟨inG hm.2.2.1 rfl, Or.inl rfl⟩
    · exact hG w hw
  · exact inG h4 rfl
theorem r_SU (F : Fr X u own cc nL) (hM : Met X.2.1 y (wsY y cc' nL' ret) (rmD d') (PcU u (.ref (u.2.1 k) :: As) σ) Qc 0 0 (AU u)) (hm : mok y cc' nL' ret As.length) (hs : siteSU own idx y) (hr : recv k C) (hd : d' + 1 ≤ d) (hst : stk = As.reverse ++ .ref (u.2.1 k) :: st) (hw : (st.map fun v => v.category).sum ≤ 8) (hdg : decode cc pc = .ok (.invokespecial idx, 3)) :
    ∀ (H : Heap) (locs : List Loc) (la : Array Slot), va_P u.1 cls (wU u σ) H → va_S (AU u) X.s.heap H locs → la.size = nL → va_Run X.1 X.2.1 X.2.2.1 (rmD d) X.s X.m X.args X.below X.meth X.c H locs 0 0 0 0 (F0 X.m pc la stk) st (Qc (Value.ref (u.2.1 k) :: As).toArray) (AU u) := by
  intro H locs la hP hS hl
  obtain ⟨h1, h2, h3, h4, h5⟩ := hs
  have hG := wsY_good hm.1
  obtain ⟨ci, fs, q, hGk, hq, hC⟩ := id hr
  have hat := (F.2.2.2.2.2.1.1 ci q hq).2
  rw [hC] at hat
  refine va_runSU (C := C) hat (v_fix F) hM (va_cwSU As.length F.2.2.2.2.1 ?_ rfl rfl rfl ⟨h5, hm.2.1.2.2⟩ (room_le hd hm.2.2.2)) (v_preV F As hr hP hS) rfl rfl hl hst (lv_room hw) hdg ⟨Nat.zero_le _, Nat.zero_le _⟩
  intro w hw
  rcases List.mem_append.mp hw with hw | hw
  · simp only [List.mem_cons, List.not_mem_nil, or_false] at hw
    rcases hw with rfl | rfl | rfl | rfl | rfl
    · exact ⟨inG h1 rfl, Or.inl rfl⟩
    · exact ⟨inG h2 rfl, Or.inl rfl⟩
    · exact ⟨inG h3 rfl, Or.inl rfl⟩
    · exact ⟨inG h4 rfl, Or.inl rfl⟩
    · exact ⟨inG hm.2.2.1 rfl, Or.inl rfl⟩
  · exact hG w hw
/-- System.arraycopy between int rows -/
theorem v_copy (F : Fr X u own cc nL) {k0 k1 n0 n1 : Nat} {sp dp n : Int32} (h0 : Gam[k0]? = some (.inl (.int, n0))) (h1 : Gam[k1]? = some (.inl (.int, n1))) (hlk : Cond.methodLink own idx arraycopyName ∈ lw_tbl) (hnat : Cond.native arraycopyName ∈ lw_tbl) (hstt : Cond.static arraycopyName ∈ lw_tbl) (hini : Cond.initialized "java/lang/System" ∈ lw_tbl)
    (g1 : ¬ sp < 0) (g2 : ¬ dp < 0) (g3 : ¬ n < 0) (g4 : sp.toNatClampNeg + n.toNatClampNeg ≤ n0) (g5 : dp.toNatClampNeg + n.toNatClampNeg ≤ n1) (hd : 2 ≤ d) (hw : (st.map fun v => v.category).sum ≤ 8) (hdg : decode cc pc = .ok (.invokestatic idx, 3))
    (kk : V X u d nL Q (pc + 3) ls st (uA σ k1 (va_cpy (σ.1 k0) (σ.1 k1) sp.toNatClampNeg dp.toNatClampNeg n.toNatClampNeg))) : V X u d nL Q pc ls (.int n :: .int dp :: .ref (u.2.1 k1) :: .int sp :: .ref (u.2.1 k0) :: st) σ := by
  intro H locs la hP hS hl
  refine va_copyi (D := u.1) (cl := cls) (A := AU u) F.1 F.2.1 (by rw [F.2.2.1, hl.1]) F.2.2.2.1 (F.2.2.2.2.1 _ (inG hlk rfl)) (F.2.2.2.2.1 _ (inG hnat rfl)) (F.2.2.2.2.1 _ (inG hstt rfl)) (F.2.2.2.2.1 _ (inG hini rfl)) (F.2.2.2.2.2.1.K2 (aTy_a h0) (aTy_a h1)) hP (F.2.2.2.2.2.2.2.1.D σ) hS k0 k1 0 1 (wU_get u σ h0) (wU_get u σ h1) rfl rfl rfl g1 g2 g3 g4 g5 (fun _ _ => rfl) ?_ ?_ hdg (fun H1 locs1 hP1 hD1 hS1 => ?_)
  · show 1 ≤ d
    omega
  · have h9 : nativeFrameWords "java/lang/System" "arraycopy" 5 + 11 ≤ 40 := by decide +kernel
    show _ ≤ d * 40
    omega
  · refine kk H1 locs1 la ?_ hS1 hl
    rw [← wU_set u (σ' := uA σ k1 (va_cpy (σ.1 k0) (σ.1 k1) sp.toNatClampNeg dp.toNatClampNeg n.toNatClampNeg)) h1 ?_ ?_ ?_]
    · exact hP1
    · simp [g_e, uA]
    · intro a h
      simp [uA, h]
    · intro a h
      rfl
end
