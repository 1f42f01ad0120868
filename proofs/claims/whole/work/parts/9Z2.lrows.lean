-- the law's own rows: over the world of both objects, with the law's room
def VL (X : FX) (u : Un) (Q : State → Prop) (pc : Nat) (ls : List (Nat × Value)) (st : List Value) (σ : St) : Prop :=
  ∀ (H : Heap) (locs : List Loc) (la : Array Slot), va_P u.1 cls (wU u σ) H → va_S (AU u) X.s.heap H locs → lv_has la 4 ls → W X.1 X.2.1 X.2.2.1 room_1 X.s X.m X.args X.below X.meth X.c H locs 87 5061 Q (F0 X.m pc la st)
/-- what the law's frame knows -/
def LF (X : FX) (u : Un) (b L : Nat) (xs : Nat → Int32) : Prop := Fr X u "TakerBookLaw" code 4 ∧ va_X b L xs X.s X.s.heap ∧ b < X.s.heap.size ∧ (∀ q, AU u q → X.s.heap.size ≤ q) ∧ L ≤ 3072
def LQ (u : Un) (b : Nat) (i : Int32) : List (Nat × Value) := [(0, .ref b), (1, .ref (u.2.1 0)), (2, .ref (u.2.1 63)), (3, .int i)]
theorem lg_self (x : Int64) : lg_cmp x x = 0 := by
  unfold lg_cmp
  rw [if_neg (Int64.lt_irrefl), if_pos rfl]
section
variable {X : FX} {u : Un} {Q : State → Prop} {pc : Nat} {ls : List (Nat × Value)} {st stk : List Value} {σ : St} {b L : Nat} {xs : Nat → Int32} {ii : Int32}
theorem LF.bA (F : LF X u b L xs) : ¬ AU u b := fun h => Nat.not_le.mpr F.2.2.1 (F.2.2.2.1 b h)
theorem w_aload (F : LF X u b L xs) {n : Fin 4} {i x : Nat} (hd : decode code pc = .ok (.aload_n n, 1)) (hi : (n : Nat) = i) (j : Nat) (hj : ls[j]? = some (i, .ref x)) (k : VL X u Q (pc + 1) ls (.ref x :: st) σ) : VL X u Q pc ls st σ :=
  fun H locs la hP hS hl => lv_aload_n F.1.1 F.1.2.1 hd hi (lv_at hl j hj) (k H locs la hP hS hl)
theorem w_iload (F : LF X u b L xs) {n : Fin 4} {i : Nat} {x : Int32} (hd : decode code pc = .ok (.iload_n n, 1)) (hi : (n : Nat) = i) (j : Nat) (hj : ls[j]? = some (i, .int x)) (k : VL X u Q (pc + 1) ls (.int x :: st) σ) : VL X u Q pc ls st σ :=
  fun H locs la hP hS hl => lv_iload_n F.1.1 F.1.2.1 hd hi (lv_at hl j hj) (k H locs la hP hS hl)
theorem w_arg (F : LF X u b L xs) {k : Int} (kv : Int32) (d0 : decode code pc = .ok (.aload_n 0, 1)) (d1 : decode code (pc + 1) = .ok (.iload_n 3, 1)) (d2 : decode code (pc + 1 + 1) = .ok (.iconst k, 1)) (d3 : decode code (pc + 1 + 1 + 1) = .ok (.iadd, 1)) (d4 : decode code (pc + 1 + 1 + 1 + 1) = .ok (.iaload, 1)) (hk : Int32.ofInt k = kv) (hin : vp_in (ii + kv) L) (kk : VL X u Q (pc + 1 + 1 + 1 + 1 + 1) (LQ u b ii) (.int (xs (ii + kv).toNatClampNeg) :: st) σ) : VL X u Q pc (LQ u b ii) st σ :=
  fun H locs la hP hS hl => lv_aload_n F.1.1 F.1.2.1 d0 rfl (lv_at hl 0 rfl) (lv_iload_n F.1.1 F.1.2.1 d1 rfl (lv_at hl 3 rfl) (lv_iconst F.1.1 F.1.2.1 d2 hk (lv_iadd F.1.1 F.1.2.1 d3 (va_sld F.1.1 F.1.2.1 F.2.1 F.2.2.1 F.bA hS hin d4 (kk H locs la hP hS hl)))))
theorem w_eq (F : LF X u b L xs) {x y : Int32} {off : Int} (tgt : Nat) (hd : decode code pc = .ok (.if_icmp .eq off, 3)) (ht : (pc : Int) + off = (tgt : Int)) (e : x = y) (k : VL X u Q tgt ls st σ) : VL X u Q pc ls (.int y :: .int x :: st) σ :=
  fun H locs la hP hS hl => lv_icmp_eq F.1.1 F.1.2.1 hd ht (fun _ => k H locs la hP hS hl) (fun c => absurd e c)
theorem w_leq (F : LF X u b L xs) {x y : Int64} {off : Int} (tgt : Nat) (hd : decode code pc = .ok (.lcmp, 1)) (hd2 : decode code (pc + 1) = .ok (.ifCond .eq off, 3)) (ht : ((pc + 1 : Nat) : Int) + off = (tgt : Int)) (e : x = y) (k : VL X u Q tgt ls st σ) : VL X u Q pc ls (.long y :: .long x :: st) σ :=
  fun H locs la hP hS hl => W.lcmp F.1.1 F.1.2.1 hd (lv_if_eq F.1.1 F.1.2.1 hd2 ht (fun _ => k H locs la hP hS hl) (fun c => absurd (by rw [e]; exact lg_self y) c))
theorem w_room {d nL' : Nat} (hd : d ≤ 30) (hn : nL' ≤ 21) : (rmD d).frames + 1 ≤ room_1.frames ∧ 8 + (nL' + 11) + (rmD d).locals ≤ room_1.locals := by
  constructor
  · show d + 1 ≤ 2048
    omega
  · show 8 + (nL' + 11) + d * 40 ≤ 84000
    omega
variable {y : MethodName} {cc' : ByteArray} {nL' d' idx k : Nat} {ret : Option FieldType} {As : List Value} {Qc : Array Value → State → Outcome → State → Prop}
theorem w_V (F : LF X u b L xs) (hM : Met X.2.1 y (wsY y cc' nL' ret) (rmD d') (PcU u (.ref (u.2.1 k) :: As) σ) Qc 0 0 (AU u)) (hm : mok y cc' nL' ret As.length) (hs : siteV "TakerBookLaw" idx y) (hr : recv k y.cls) (hd : d' ≤ 30) (hst : stk = As.reverse ++ .ref (u.2.1 k) :: st) (hw : (st.map fun v => v.category).sum ≤ 8) (hdg : decode code pc = .ok (.invokevirtual idx, 3)) :
    ∀ (H : Heap) (locs : List Loc) (la : Array Slot), va_P u.1 cls (wU u σ) H → va_S (AU u) X.s.heap H locs → la.size = 4 → va_Run X.1 X.2.1 X.2.2.1 room_1 X.s X.m X.args X.below X.meth X.c H locs 87 5061 0 0 (F0 X.m pc la stk) st (Qc (Value.ref (u.2.1 k) :: As).toArray) (AU u) :=
  fun H locs la hP hS hl => va_runV (v_fix F.1) hM ⟨callB_of As.length F.1.2.2.2.2.1 (wsY_good hm.1) rfl rfl rfl (F.1.2.2.2.2.1 _ (inG hm.2.2.1 rfl)) (F.1.2.2.2.2.1 _ (inG hs.1 rfl)) hm.2.1 (w_room hd hm.2.2.2), F.1.2.2.2.2.1 _ (inG hs.2.1 rfl), F.1.2.2.2.2.1 _ (inG hs.2.2 rfl)⟩ (v_preV F.1 As hr hP hS) rfl rfl hl hst (lv_room hw) hdg ⟨(show 87 + 0 ≤ 600000 by omega), (show 5061 + 0 ≤ 7302250 by omega)⟩
theorem w_Vi (F : LF X u b L xs) {P : Int32 → St → Prop} (hM : MTi X.2.1 u y cc' nL' .int d' (.ref (u.2.1 k) :: As) σ P) (hm : mok y cc' nL' (some .int) As.length) (hs : siteV "TakerBookLaw" idx y) (hr : recv k y.cls) (hd : d' ≤ 30) (hst : stk = As.reverse ++ .ref (u.2.1 k) :: st) (hw : (st.map fun v => v.category).sum ≤ 8) (hdg : decode code pc = .ok (.invokevirtual idx, 3)) (kk : ∀ (r : Int32) (σ' : St), P r σ' → VL X u Q (pc + 3) ls (.int r :: st) σ') : VL X u Q pc ls stk σ :=
  fun H locs la hP hS hl => va_calli (w_V F hM hm hs hr hd hst hw hdg H locs la hP hS hl.1) hS (fun q _ h => h) (fun q h => h) (fun r u' t H1 locs1 ht hvm hp hB hz hk hS1 => kk r u' hp H1 locs1 la (by rw [← ht]; exact hB) hS1 hl)
theorem w_Vl (F : LF X u b L xs) {P : Int64 → St → Prop} (hM : MTl X.2.1 u y cc' nL' d' (.ref (u.2.1 k) :: As) σ P) (hm : mok y cc' nL' (some .long) As.length) (hs : siteV "TakerBookLaw" idx y) (hr : recv k y.cls) (hd : d' ≤ 30) (hst : stk = As.reverse ++ .ref (u.2.1 k) :: st) (hw : (st.map fun v => v.category).sum ≤ 8) (hdg : decode code pc = .ok (.invokevirtual idx, 3)) (kk : ∀ (r : Int64) (σ' : St), P r σ' → VL X u Q (pc + 3) ls (.long r :: st) σ') : VL X u Q pc ls stk σ :=
  fun H locs la hP hS hl => va_calll (w_V F hM hm hs hr hd hst hw hdg H locs la hP hS hl.1) hS (fun q _ h => h) (fun q h => h) (fun r u' t H1 locs1 ht hvm hp hB hz hk hS1 => kk r u' hp H1 locs1 la (by rw [← ht]; exact hB) hS1 hl)
theorem w_in {i k : Nat} (kv : Int32) (hk : kv = nI k) (hL : L ≤ 3072) (h : i + k < L) : vp_in (nI i + kv) L := by
  subst hk
  rw [nI_add]
  exact vp_in_nI h (by omega)
end
