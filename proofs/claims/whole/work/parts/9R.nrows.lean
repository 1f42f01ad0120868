-- rows over cells that are being made: cell k lies at b + k, the cells k0 .. k - 1 are there
def wE (b : Nat) (E : Nat → va_E) (a k : Nat) : va_W := (List.range' a (k - a)).map (fun i => (b + i, E i))
def updE (E : Nat → va_E) (i : Nat) (e : va_E) : Nat → va_E := fun j => if j = i then e else E j
theorem updE_s (E : Nat → va_E) (i : Nat) (e : va_E) : updE E i e i = e := if_pos rfl
theorem updE_n {E : Nat → va_E} {i j : Nat} {e : va_E} (h : ¬ j = i) : updE E i e j = E j := if_neg h
theorem wE_len (b : Nat) (E : Nat → va_E) (a k : Nat) : (wE b E a k).length = k - a := by simp [wE]
theorem wE_i {b : Nat} {E : Nat → va_E} {a k i : Nat} (h : i < k - a) : (wE b E a k)[i]? = some (b + (a + i), E (a + i)) := by
  simp [wE, List.getElem?_range', h]
theorem wE_get {b : Nat} {E : Nat → va_E} {a k i : Nat} (h1 : a ≤ i) (h2 : i < k) : (wE b E a k)[i - a]? = some (b + i, E i) := by
  rw [wE_i (by omega), show a + (i - a) = i by omega]
theorem wE_of {b : Nat} {E : Nat → va_E} {a k i : Nat} {q : Nat × va_E} (h : (wE b E a k)[i]? = some q) : i < k - a ∧ q = (b + (a + i), E (a + i)) := by
  have hl : i < k - a := by
    have := (List.getElem?_eq_some_iff.mp h).1
    rwa [wE_len] at this
  rw [wE_i hl] at h
  exact ⟨hl, (Option.some.inj h).symm⟩
theorem wE_set {b : Nat} {E : Nat → va_E} {a k i : Nat} {e : va_E} (h1 : a ≤ i) (h2 : i < k) : (wE b E a k).set (i - a) (b + i, e) = wE b (updE E i e) a k := by
  apply List.ext_getElem?
  intro j
  by_cases c : j = i - a
  · subst c
    rw [List.getElem?_set_self (by rw [wE_len]; omega), wE_get h1 h2, updE_s]
  · rw [List.getElem?_set_ne (Ne.symm c)]
    by_cases c2 : j < k - a
    · rw [wE_i c2, wE_i c2, updE_n (by omega)]
    · rw [List.getElem?_eq_none (by rw [wE_len]; omega), List.getElem?_eq_none (by rw [wE_len]; omega)]
theorem va_P.of {D : va_G} {b : Nat} {E : Nat → va_E} {a k : Nat} {H : Heap} (h : ∀ i, a ≤ i → i < k → va_at D cls (b + i, E i) H) : va_P D cls (wE b E a k) H := fun i q hq => by
  obtain ⟨h1, rfl⟩ := wE_of hq
  exact h (a + i) (by omega) (by omega)
theorem va_P.at {D : va_G} {b : Nat} {E : Nat → va_E} {a k : Nat} {H : Heap} (h : va_P D cls (wE b E a k) H) {i : Nat} (h1 : a ≤ i) (h2 : i < k) : va_at D cls (b + i, E i) H := h _ _ (wE_get h1 h2)
theorem wE_D {b : Nat} {E : Nat → va_E} {a k : Nat} : va_D (fun q => b + a ≤ q) (wE b E a k) := by
  refine ⟨fun i j p q hi hj e => ?_, fun i q hq => ?_⟩
  · obtain ⟨h1, rfl⟩ := wE_of hi
    obtain ⟨h2, rfl⟩ := wE_of hj
    have e' : b + (a + i) = b + (a + j) := e
    omega
  · obtain ⟨h1, rfl⟩ := wE_of hq
    show b + a ≤ b + (a + i)
    omega
/-- the array types -/
def tyU (cc : Nat → ClassId) : List (ClassId × FieldType) := [(cc 0, .int), (cc 1, .byte), (cc 2, .boolean), (cc 3, .object "TakerBook$Thief"), (cc 4, .object "TakerBook$Deeds"), (cc 5, .array .int), (cc 6, .array .byte)]
def AK (cc : Nat → ClassId) (U : State) : Prop := (∃ k, U.vm.classes[cc 5]? = some k ∧ k.kind = .array (cc 0) (.array .int)) ∧ ∃ k, U.vm.classes[cc 6]? = some k ∧ k.kind = .array (cc 1) (.array .byte)
theorem AK.moved {cc : Nat → ClassId} {s U : State} (hal : s.vm.Alike U.vm) (h : AK cc s) : AK cc U := by
  obtain ⟨⟨k, h1, h2⟩, k2, h3, h4⟩ := h
  obtain ⟨k', h1', e1⟩ := hal.2.2 _ _ h1
  obtain ⟨k2', h3', e3⟩ := hal.2.2 _ _ h3
  exact ⟨⟨k', h1', by rw [e1]; exact h2⟩, k2', h3', by rw [e3]; exact h4⟩
def castL : List String := ["TakerBook$Returned", "TakerBook$Clerk", "TakerBook$Gang", "TakerBook$Lace", "TakerBook$Young"]
def KU (cc : Nat → ClassId) (D : va_G) (U : State) : Prop := va_K D cls (tyU cc) U ∧ AK cc U ∧ va_AO "TakerBook$Thief" U ∧ va_AO "TakerBook$Deeds" U ∧ (∀ q ∈ nestL, va_Nw (nestW q) U) ∧ ∀ C ∈ castL, va_Nw (.castable C "TakerBook$Thief") U
theorem KU.moved {cc : Nat → ClassId} {D : va_G} {s U : State} (hW : s.WarmedH U.vm) (h : KU cc D s) : KU cc D U := ⟨va_K.moved hW.alike h.1, h.2.1.moved hW.alike, va_AO.moved hW.alike h.2.2.1, va_AO.moved hW.alike h.2.2.2.1, fun q hq => va_Nw.warmM hW (h.2.2.2.2.1 q hq), fun C hC => va_Nw.warmC hW (h.2.2.2.2.2 C hC)⟩
theorem KU.call {cc : Nat → ClassId} {D : va_G} {U : State} (g : JFrame) (mk : Bool) (h : KU cc D U) : KU cc D U := h
def FN (X : FX) (D : va_G) (cc : Nat → ClassId) (own : String) (bc : ByteArray) (nL : Nat) : Prop :=
  X.1.tables.exec = Jvm.exec ∧ X.c.code = bc ∧ X.c.maxLocals = nL ∧ X.s.vm.findClass own = some X.m.cls ∧ (∀ w ∈ tbG, w.before X.args X.s = true) ∧ KU cc D X.s ∧ X.meth.locks = false ∧ X.meth.name = "<init>" ∧ X.meth.sig.returnType = none
def NV (X : FX) (D : va_G) (b k0 : Nat) (rm : Room) (nL : Nat) (Q : State → Prop) (pc : Nat) (ls : List (Nat × Value)) (st : List Value) (E : Nat → va_E) (k c sl : Nat) : Prop :=
  ∀ (H : Heap) (locs : List Loc) (la : Array Slot), H.size = b + k → va_P D cls (wE b E k0 k) H → va_S (fun q => b + k0 ≤ q) X.s.heap H locs → lv_has la nL ls → W X.1 X.2.1 X.2.2.1 rm X.s X.m X.args X.below X.meth X.c H locs c sl Q (F0 X.m pc la st)
theorem n_to {X : FX} {D : va_G} {b k0 : Nat} {rm : Room} {nL : Nat} {Q : State → Prop} {pc : Nat} {ls : List (Nat × Value)} {st : List Value} {E E' : Nat → va_E} {k c sl : Nat} (h : ∀ i, k0 ≤ i → i < k → E i = E' i) (kk : NV X D b k0 rm nL Q pc ls st E' k c sl) : NV X D b k0 rm nL Q pc ls st E k c sl := fun H locs la hz hP hS hl => kk H locs la hz (va_P.of fun i h1 h2 => by rw [← h i h1 h2]; exact hP.at h1 h2) hS hl
section
variable {X : FX} {D : va_G} {cc : Nat → ClassId} {own : String} {bc : ByteArray} {b k0 : Nat} {rm : Room} {nL : Nat} {Q : State → Prop} {pc : Nat} {ls ls' : List (Nat × Value)} {st : List Value} {E : Nat → va_E} {k c sl : Nat}
theorem n_iconst (F : FN X D cc own bc nL) {n : Int} {v : Int32} (hd : decode bc pc = .ok (.iconst n, 1)) (hv : Int32.ofInt n = v) (kk : NV X D b k0 rm nL Q (pc + 1) ls (.int v :: st) E k c sl) : NV X D b k0 rm nL Q pc ls st E k c sl := fun H locs la hz hP hS hl => lv_iconst F.1 F.2.1 hd hv (kk H locs la hz hP hS hl)
theorem n_bipush (F : FN X D cc own bc nL) {n : Int} {v : Int32} (hd : decode bc pc = .ok (.bipush n, 2)) (hv : (Int8.ofInt n).toInt32 = v) (kk : NV X D b k0 rm nL Q (pc + 2) ls (.int v :: st) E k c sl) : NV X D b k0 rm nL Q pc ls st E k c sl := fun H locs la hz hP hS hl => lv_bipush F.1 F.2.1 hd hv (kk H locs la hz hP hS hl)
theorem n_sipush (F : FN X D cc own bc nL) {n : Int} {v : Int32} (hd : decode bc pc = .ok (.sipush n, 3)) (hv : (Int16.ofInt n).toInt32 = v) (kk : NV X D b k0 rm nL Q (pc + 3) ls (.int v :: st) E k c sl) : NV X D b k0 rm nL Q pc ls st E k c sl := fun H locs la hz hP hS hl => lv_sipush F.1 F.2.1 hd hv (kk H locs la hz hP hS hl)
theorem n_lconst (F : FN X D cc own bc nL) {n : Fin 2} {v : Int64} (hd : decode bc pc = .ok (.lconst n, 1)) (hv : Int64.ofNat (n : Nat) = v) (kk : NV X D b k0 rm nL Q (pc + 1) ls (.long v :: st) E k c sl) : NV X D b k0 rm nL Q pc ls st E k c sl := fun H locs la hz hP hS hl => lv_lconst F.1 F.2.1 hd hv (kk H locs la hz hP hS hl)
theorem n_iload_n (F : FN X D cc own bc nL) {n : Fin 4} {i : Nat} {x : Int32} (hd : decode bc pc = .ok (.iload_n n, 1)) (hi : (n : Nat) = i) (j : Nat) (hj : ls[j]? = some (i, .int x)) (kk : NV X D b k0 rm nL Q (pc + 1) ls (.int x :: st) E k c sl) : NV X D b k0 rm nL Q pc ls st E k c sl := fun H locs la hz hP hS hl => lv_iload_n F.1 F.2.1 hd hi (lv_at hl j hj) (kk H locs la hz hP hS hl)
theorem n_aload_n (F : FN X D cc own bc nL) {n : Fin 4} {i x : Nat} (hd : decode bc pc = .ok (.aload_n n, 1)) (hi : (n : Nat) = i) (j : Nat) (hj : ls[j]? = some (i, .ref x)) (kk : NV X D b k0 rm nL Q (pc + 1) ls (.ref x :: st) E k c sl) : NV X D b k0 rm nL Q pc ls st E k c sl := fun H locs la hz hP hS hl => lv_aload_n F.1 F.2.1 hd hi (lv_at hl j hj) (kk H locs la hz hP hS hl)
theorem n_istore_n (F : FN X D cc own bc nL) {i : Nat} {n : Fin 4} {x : Int32} (hd : decode bc pc = .ok (.istore_n n, 1)) (hi : (n : Nat) = i) (hn : i < nL) (hL : (i, Value.int x) :: ls.filter (fun q => !(q.1 == i) && !(q.1 + 1 == i && q.2.category == 2)) = ls') (kk : NV X D b k0 rm nL Q (pc + 1) ls' st E k c sl) : NV X D b k0 rm nL Q pc ls (.int x :: st) E k c sl := fun H locs la hz hP hS hl => lv_istore_n F.1 F.2.1 hd hi hl hn hL (fun la hl => kk H locs la hz hP hS hl)
theorem n_iinc (F : FN X D cc own bc nL) {i j : Nat} {n : Int} {x v : Int32} (hd : decode bc pc = .ok (.iinc i n, 3)) (hj : ls[j]? = some (i, .int x)) (hv : x + Int32.ofInt n = v) (hn : i < nL) (hL : (i, Value.int v) :: ls.filter (fun q => !(q.1 == i) && !(q.1 + 1 == i && q.2.category == 2)) = ls') (kk : NV X D b k0 rm nL Q (pc + 3) ls' st E k c sl) : NV X D b k0 rm nL Q pc ls st E k c sl := fun H locs la hz hP hS hl => lv_iinc F.1 F.2.1 hd hl hj hv hn hL (fun la hl => kk H locs la hz hP hS hl)
theorem n_dup (F : FN X D cc own bc nL) {v : Value} (hd : decode bc pc = .ok (.dup, 1)) (h1 : v.category = 1) (kk : NV X D b k0 rm nL Q (pc + 1) ls (v :: v :: st) E k c sl) : NV X D b k0 rm nL Q pc ls (v :: st) E k c sl := fun H locs la hz hP hS hl => lv_dup F.1 F.2.1 hd h1 (kk H locs la hz hP hS hl)
theorem n_goto (F : FN X D cc own bc nL) {off : Int} (tgt : Nat) (hd : decode bc pc = .ok (.goto off, 3)) (ht : (pc : Int) + off = (tgt : Int)) (kk : NV X D b k0 rm nL Q tgt ls st E k c sl) : NV X D b k0 rm nL Q pc ls st E k c sl := fun H locs la hz hP hS hl => lv_goto F.1 F.2.1 hd ht (kk H locs la hz hP hS hl)
theorem n_icmp_ge (F : FN X D cc own bc nL) {x y : Int32} {off : Int} (tgt : Nat) (hd : decode bc pc = .ok (.if_icmp .ge off, 3)) (ht : (pc : Int) + off = (tgt : Int)) (kt : y ≤ x → NV X D b k0 rm nL Q tgt ls st E k c sl) (kf : ¬ y ≤ x → NV X D b k0 rm nL Q (pc + 3) ls st E k c sl) : NV X D b k0 rm nL Q pc ls (.int y :: .int x :: st) E k c sl := fun H locs la hz hP hS hl => lv_icmp_ge F.1 F.2.1 hd ht (fun h => kt h H locs la hz hP hS hl) (fun h => kf h H locs la hz hP hS hl)
theorem n_obj (F : FN X D cc own bc nL) {idx x : Nat} (hlk : Cond.methodLink own idx Lib.objectInit ∈ lw_tbl) (hfr : 1 ≤ rm.frames) (hlo : (st.map fun v => v.category).sum + 12 ≤ rm.locals) (hd : decode bc pc = .ok (.invokespecial idx, 3)) (kk : NV X D b k0 rm nL Q (pc + 3) ls st E k c sl) : NV X D b k0 rm nL Q pc ls (.ref x :: st) E k c sl := fun H locs la hz hP hS hl => by
  have hi : Cond.instanceMethod Lib.objectInit ∈ lw_tbl := by decide +kernel
  have hc : Cond.code Lib.objectInit ⟨#[0xb1]⟩ 1 none ∈ lw_tbl := by decide +kernel
  refine W.objInit F.1 F.2.1 F.2.2.2.1 (F.2.2.2.2.1 _ (inG hlk rfl)) (F.2.2.2.2.1 _ (inG hi rfl)) (F.2.2.2.2.1 _ (inG hc rfl)) rfl (by rw [F.2.2.1]; exact hl.1) rfl hd hfr ?_ ?_
  · show 2 * 0 + _ + 12 ≤ rm.locals
    omega
  · exact W.eq (g2 := F0 X.m (pc + 3) la st) rfl (kk H locs la hz hP hS hl)
theorem x_sz {p : Program} {l : Launch} {e : Env} {R : Room} {s : State} {m : MethodId} {args : Array Value} {below : List Frame} {meth : Method} {c : Code} {H : Heap} {locs : List Loc} {cells slots : Nat} {Q : State → Prop} {g : JFrame} (kk : H.size ≤ s.heap.size + cells → W p l e R s m args below meth c H locs cells slots Q g) : W p l e R s m args below meth c H locs cells slots Q g := fun T hT X => kk (by rw [← hT]; exact X.heapSize) T hT X
theorem n_go (hsz : X.s.heap.size = b + k0 + 1) (hc : k0 + 1 + c = k) (kk : NV X D b k0 rm nL Q pc ls st E k c sl) {H : Heap} {locs : List Loc} {la : Array Slot} (hP : va_P D cls (wE b E k0 k) H) (hS : va_S (fun q => b + k0 ≤ q) X.s.heap H locs) (hl : lv_has la nL ls) : W X.1 X.2.1 X.2.2.1 rm X.s X.m X.args X.below X.meth X.c H locs c sl Q (F0 X.m pc la st) := x_sz fun h => kk H locs la (by
  have h1 := (hP.at (i := k - 1) (by omega) (by omega)).lt
  have h2 : b + (k - 1) < H.size := h1
  omega) hP hS hl
theorem n_putF (F : FN X D cc own bc nL) (hsz : X.s.heap.size = b + k0 + 1) (hc : k0 + 1 + c = k) {i ci j idx : Nat} {fs : List Value} {v : Value} {ty : FieldType} (h1 : k0 ≤ i) (h2 : i < k) (hE : E i = .inr (ci, fs)) (hf : fok own idx ci j) (hfin : ∃ q, cls[ci]? = some q ∧ (q.2.1 j).2.2.2 = true ∧ q.1 = own ∧ parseFieldDescriptor (q.2.1 j).2.2.1 = some ty) (hn : narrow ty v = v) (hfit : fits ty v = true) (hl : j < fs.length) (hd : decode bc pc = .ok (.putfield idx, 3)) (kk : NV X D b k0 rm nL Q (pc + 3) ls st (updE E i (.inr (ci, fs.set j v))) k c sl) : NV X D b k0 rm nL Q pc ls (v :: .ref (b + i) :: st) E k c sl := fun H locs la hz hP hS hla => by
  obtain ⟨q, hq, hj, hlk, hsm⟩ := hf
  obtain ⟨q', hq', e1, e2, e3⟩ := hfin
  obtain rfl : q = q' := Option.some.inj (hq.symm.trans hq')
  refine va_putF (D := D) (cl := cls) (ws := wE b E k0 k) (C := q.1) (T := q.2.1) (N := q.2.2) (ref := q.1) F.1 F.2.1 F.2.2.2.2.1 (cls_in ci q hq) (tyD q) (cls_ty ci q hq).1 (cls_ty ci q hq).2 F.2.2.2.1 F.2.2.2.2.2.1.1 hP wE_D hS (i - k0) (by rw [wE_get h1 h2, hE]) hq j hj (F.2.2.2.2.1 _ (inG hlk rfl)) (fun x h => by rw [hsm] at h; exact h) e1 F.2.2.2.2.2.2.2.1 (by rw [hsm]; exact e2) e3 hn hfit hl hd (fun H1 locs1 hP1 hD1 hS1 => ?_)
  rw [wE_set h1 h2] at hP1
  exact n_go hsz hc kk hP1 hS1 hla
theorem n_put (F : FN X D cc own bc nL) (hsz : X.s.heap.size = b + k0 + 1) (hc : k0 + 1 + c = k) {i ci j idx : Nat} {fs : List Value} {v : Value} {ty : FieldType} (h1 : k0 ≤ i) (h2 : i < k) (hE : E i = .inr (ci, fs)) (hf : fok own idx ci j) (hfin : ∃ q, cls[ci]? = some q ∧ (q.2.1 j).2.2.2 = false ∧ parseFieldDescriptor (q.2.1 j).2.2.1 = some ty) (hn : narrow ty v = v) (hfit : fits ty v = true) (hl : j < fs.length) (hd : decode bc pc = .ok (.putfield idx, 3)) (kk : NV X D b k0 rm nL Q (pc + 3) ls st (updE E i (.inr (ci, fs.set j v))) k c sl) : NV X D b k0 rm nL Q pc ls (v :: .ref (b + i) :: st) E k c sl := fun H locs la hz hP hS hla => by
  obtain ⟨q, hq, hj, hlk, hsm⟩ := hf
  obtain ⟨q', hq', e1, e3⟩ := hfin
  obtain rfl : q = q' := Option.some.inj (hq.symm.trans hq')
  refine va_put (D := D) (cl := cls) (ws := wE b E k0 k) (C := q.1) (T := q.2.1) (N := q.2.2) (ref := q.1) F.1 F.2.1 F.2.2.2.2.1 (cls_in ci q hq) (tyD q) (cls_ty ci q hq).1 (cls_ty ci q hq).2 F.2.2.2.1 F.2.2.2.2.2.1.1 hP wE_D hS (i - k0) (by rw [wE_get h1 h2, hE]) hq j hj (F.2.2.2.2.1 _ (inG hlk rfl)) (fun x h => by rw [hsm] at h; exact h) e1 e3 hn hfit hl hd (fun H1 locs1 hP1 hD1 hS1 => ?_)
  rw [wE_set h1 h2] at hP1
  exact n_go hsz hc kk hP1 hS1 hla
theorem n_get (F : FN X D cc own bc nL) {i ci j idx : Nat} {fs : List Value} {v : Value} (h1 : k0 ≤ i) (h2 : i < k) (hE : E i = .inr (ci, fs)) (hf : fok own idx ci j) (hv : fs[j]? = some v) (hd : decode bc pc = .ok (.getfield idx, 3)) (kk : NV X D b k0 rm nL Q (pc + 3) ls (v :: st) E k c sl) : NV X D b k0 rm nL Q pc ls (.ref (b + i) :: st) E k c sl := fun H locs la hz hP hS hla => by
  obtain ⟨q, hq, hj, hlk, hsm⟩ := hf
  exact va_get (D := D) (cl := cls) (ws := wE b E k0 k) (C := q.1) (T := q.2.1) (N := q.2.2) (ref := q.1) F.1 F.2.1 F.2.2.2.2.1 (cls_in ci q hq) F.2.2.2.1 F.2.2.2.2.2.1.1 hP (i - k0) (by rw [wE_get h1 h2, hE]) hq j hj (F.2.2.2.2.1 _ (inG hlk rfl)) (fun x h => by rw [hsm] at h; exact h) hv hd (kk H locs la hz hP hS hla)
theorem n_iast (F : FN X D cc own bc nL) (hsz : X.s.heap.size = b + k0 + 1) (hc : k0 + 1 + c = k) {i n : Nat} {f : Nat → Int32} {j x : Int32} (h1 : k0 ≤ i) (h2 : i < k) (hE : E i = .inl (cc 0, n, .inl f)) (hin : vp_in j n) (hd : decode bc pc = .ok (.iastore, 1)) (kk : NV X D b k0 rm nL Q (pc + 1) ls st (updE E i (.inl (cc 0, n, .inl (upd f j.toNatClampNeg x)))) k c sl) : NV X D b k0 rm nL Q pc ls (.int x :: .int j :: .ref (b + i) :: st) E k c sl := fun H locs la hz hP hS hla => by
  refine va_iast (D := D) (cl := cls) (ws := wE b E k0 k) F.1 F.2.1 F.2.2.2.2.2.1.1 hP wE_D hS (i - k0) 0 (by rw [wE_get h1 h2, hE]) rfl hin hd (fun H1 locs1 hP1 hD1 hS1 => ?_)
  rw [wE_set h1 h2] at hP1
  exact n_go hsz hc kk hP1 hS1 hla
theorem n_aldq (F : FN X D cc own bc nL) {i t0 n : Nat} {cA : ClassId} {C : String} {f : Nat → Option Nat} {j : Int32} (h1 : k0 ≤ i) (h2 : i < k) (hE : E i = .inl (cA, n, .inr (.inr (.inr (.inr f))))) (ht : (tyU cc)[t0]? = some (cA, .object C)) (hin : vp_in j n) (hd : decode bc pc = .ok (.aaload, 1)) (kk : NV X D b k0 rm nL Q (pc + 1) ls (va_rf (f j.toNatClampNeg) :: st) E k c sl) : NV X D b k0 rm nL Q pc ls (.int j :: .ref (b + i) :: st) E k c sl := fun H locs la hz hP hS hla => va_aldq (D := D) (cl := cls) (ws := wE b E k0 k) F.1 F.2.1 F.2.2.2.2.2.1.1 hP (i - k0) t0 (by rw [wE_get h1 h2, hE]) ht hin hd (kk H locs la hz hP hS hla)
theorem n_astq (F : FN X D cc own bc nL) (hsz : X.s.heap.size = b + k0 + 1) (hc : k0 + 1 + c = k) {i t0 n z ci : Nat} {Eo : String} {cA : ClassId} {r : vw_C} {f : Nat → Option Nat} {vs : List Value} {j : Int32} (h1 : k0 ≤ i) (h2 : i < k) (hE : E i = .inl (cA, n, .inr (.inr (.inr (.inr f))))) (ht : (tyU cc)[t0]? = some (cA, .object Eo)) (hasg : ∀ comp c0 : ClassId, X.s.vm.findClass Eo = some comp → X.s.vm.findClass r.1 = some c0 → X.s.vm.assignable c0 comp = true) (h3 : k0 ≤ z) (h4 : z < k) (hE2 : E z = .inr (ci, vs)) (hr : cls[ci]? = some r) (hin : vp_in j n) (hd : decode bc pc = .ok (.aastore, 1)) (kk : NV X D b k0 rm nL Q (pc + 1) ls st (updE E i (.inl (cA, n, .inr (.inr (.inr (.inr (va_up f j.toNatClampNeg (some (b + z)))))))))  k c sl) : NV X D b k0 rm nL Q pc ls (.ref (b + z) :: .int j :: .ref (b + i) :: st) E k c sl := fun H locs la hz hP hS hla => by
  refine vb_astq (D := D) (cl := cls) (ws := wE b E k0 k) (E := Eo) (C := r.1) F.1 F.2.1 F.2.2.2.2.2.1.1 hP wE_D hS (i - k0) t0 (by rw [wE_get h1 h2, hE]) ht (va_recv F.2.2.2.2.2.1.1 hP hr (q0 := z - k0) (fs := vs) (by rw [wE_get h3 h4, hE2])) hasg hin hd (fun H1 locs1 hP1 hD1 hS1 => ?_)
  rw [wE_set h1 h2] at hP1
  exact n_go hsz hc kk hP1 hS1 hla
theorem arrV_c {cA : ClassId} {N : Nat} {f g : Nat → Value} (h : ∀ j, j < N → f j = g j) : arrV cA N f = arrV cA N g := by
  unfold arrV
  have e : (fun j : Fin N => f j.val) = fun j : Fin N => g j.val := funext fun j => h j.val j.isLt
  rw [e]
/-- one more cell -/
theorem n_grow {H H1 : Heap} {e : va_E} (hz : H.size = b + k) (hk : k0 ≤ k) (hP : va_P D cls (wE b E k0 k) H) (he : E k = e) (hat : va_at D cls (b + k, e) H1) (ho : ∀ q, q < H.size → H1[q]? = H[q]?) : va_P D cls (wE b E k0 (k + 1)) H1 := va_P.of fun i h1 h2 => by
  by_cases c : i = k
  · rw [c, he]
    exact hat
  · have h := hP.at (i := i) h1 (by omega)
    exact h.kept (ho _ h.lt)
theorem n_newa (F : FN X D cc own bc nL) (hk : k0 ≤ k) {atype : ArrayType} {ty : FieldType} {t0 N : Nat} {n : Int32} {cA : ClassId} {a0 : vp_A} (hty : newarray.typeOf atype = ty) (hnr : ∀ C, ty ≠ .object C) (harr : Cond.arrayClass ty ∈ lw_tbl) (ht : (tyU cc)[t0]? = some (cA, ty)) (hE : E k = .inl (cA, a0)) (ha : vp_cell cA a0 = arrV cA N (fun _ => defaultValue ty)) (hn : ¬ n < 0) (hN : n.toNatClampNeg = N) (hb : N * componentBytes ty ≤ 536870912) (h1 : c + 1 ≤ rm.cells) (h2 : sl + N ≤ rm.slots) (hd : decode bc pc = .ok (.newarray atype, 2)) (kk : NV X D b k0 rm nL Q (pc + 2) ls (.ref (b + k) :: st) E (k + 1) (c + 1) (sl + N)) : NV X D b k0 rm nL Q pc ls (.int n :: st) E k c sl := fun H locs la hz hP hS hla => by
  subst hty hN
  refine W.newa F.1 F.2.1 (F.2.2.2.2.1 _ (inG harr rfl)) rfl hd rfl hn hb h1 h2 (fun cB kB comp e1 e2 e3 => ?_)
  have hra := (F.2.2.2.2.2.1.1.2 t0 _ ht).2
  have hcB : cB = cA := by
    have h3 : X.s.vm.findClass ("[" ++ (newarray.typeOf atype).toString) = some cA := by
      cases atype <;> exact hra
    exact Option.some.inj (e1.symm.trans h3)
  subst hcB
  rw [arrV_new, ← ha, hz]
  refine kk _ _ _ (by rw [Array.size_push, hz]; omega) (n_grow hz hk hP hE ?_ (fun q hq => ?_)) ⟨?_, fun q h3 h4 => ?_, hS.2.2⟩ hla
  · show (H.push _)[b + k]? = some (vp_cell cB a0)
    rw [← hz, Array.getElem?_push_size]
  · rw [Array.getElem?_push, if_neg (Nat.ne_of_lt hq)]
  · rw [Array.size_push]
    exact Nat.le_succ_of_le hS.1
  · rw [Array.getElem?_push, if_neg (Nat.ne_of_lt (Nat.lt_of_lt_of_le h3 hS.1))]
    exact hS.2.1 q h3 h4
theorem n_newq (F : FN X D cc own bc nL) (hk : k0 ≤ k) {C : String} {idx t0 N : Nat} {n : Int32} {cA : ClassId} (hlk : Cond.classLink own idx C ∈ lw_tbl) (hov : va_AO C X.s) (ht : (tyU cc)[t0]? = some (cA, .object C)) (hE : E k = .inl (cA, N, .inr (.inr (.inr (.inr (fun _ => none)))))) (hn : ¬ n < 0) (hN : n.toNatClampNeg = N) (hb : N * 4 ≤ 536870912) (h1 : c + 1 ≤ rm.cells) (h2 : sl + N ≤ rm.slots) (hd : decode bc pc = .ok (.anewarray idx, 3)) (kk : NV X D b k0 rm nL Q (pc + 3) ls (.ref (b + k) :: st) E (k + 1) (c + 1) (sl + N)) : NV X D b k0 rm nL Q pc ls (.int n :: st) E k c sl := fun H locs la hz hP hS hla => by
  subst hN
  refine W.anew F.1 F.2.1 F.2.2.2.1 (F.2.2.2.2.1 _ (inG hlk rfl)) (va_AO.use hov) rfl hd rfl hn hb h1 h2 (fun cB kB comp e1 e2 e3 e4 => ?_)
  obtain ⟨kA, comp', g1, g2, g3, g4⟩ := (F.2.2.2.2.2.1.1.2 t0 _ ht).2
  have hcB : cB = cA := Option.some.inj (e1.symm.trans g4)
  subst hcB
  have ea : arrV cB n.toNatClampNeg (fun _ => Value.null) = vp_cell cB (n.toNatClampNeg, .inr (.inr (.inr (.inr (fun _ => none))))) := by rw [vp_cell_q]; rfl
  rw [arrV_new, ea, hz]
  refine kk _ _ _ (by rw [Array.size_push, hz]; omega) (n_grow hz hk hP hE ?_ (fun q hq => ?_)) ⟨?_, fun q h3 h4 => ?_, hS.2.2⟩ hla
  · show (H.push _)[b + k]? = some (vp_cell cB _)
    rw [← hz, Array.getElem?_push_size]
  · rw [Array.getElem?_push, if_neg (Nat.ne_of_lt hq)]
  · rw [Array.size_push]
    exact Nat.le_succ_of_le hS.1
  · rw [Array.getElem?_push, if_neg (Nat.ne_of_lt (Nat.lt_of_lt_of_le h3 hS.1))]
    exact hS.2.1 q h3 h4
theorem n_mnew (F : FN X D cc own bc nL) (hk : k0 ≤ k) {idx N M : Nat} {n m : Int32} {cA co : ClassId} {ty : FieldType} {a0 : vp_A} {f : Nat → Option Nat} (hlk : Cond.classLink own idx ("[" ++ (FieldType.array ty).toString) ∈ lw_tbl) (harr : Cond.arrayClass ty ∈ lw_tbl) (hnA : X.s.vm.findClass ("[" ++ (FieldType.array ty).toString) = some cA) (hkA : ∃ kA, X.s.vm.classes[cA]? = some kA ∧ kA.kind = .array co (.array ty)) (hco : X.s.vm.findClass (FieldType.array ty).toString = some co) (hE : E k = .inl (cA, N, .inr (.inr (.inr (.inr f))))) (hfs : ∀ j, j < N → f j = some (b + (k + 1 + j))) (hE2 : ∀ j, j < N → E (k + 1 + j) = .inl (co, a0)) (ha : vp_cell co a0 = arrV co M (fun _ => defaultValue ty)) (hn : ¬ n < 0) (hm : ¬ m < 0) (eN : n.toNatClampNeg = N) (eM : m.toNatClampNeg = M) (hb1 : N * 4 ≤ 536870912) (hb2 : M * componentBytes ty ≤ 536870912) (hb3 : M ≤ 536870912) (hf : fits ty (defaultValue ty) = true) (hdf : (defaultValue ty).isDefault = true) (h1 : c + (1 + N) ≤ rm.cells) (h2 : sl + (N + N * M) ≤ rm.slots) (hd : decode bc pc = .ok (.multianewarray idx 2, 4)) (kk : NV X D b k0 rm nL Q (pc + 4) ls (.ref (b + k) :: st) E (k + 1 + N) (c + 1 + N) (sl + N + N * M)) : NV X D b k0 rm nL Q pc ls (.int m :: .int n :: st) E k c sl := fun H locs la hz hP hS hla => by
  obtain ⟨kA, hkA, hkind⟩ := hkA
  refine x_mnew F.1 F.2.1 F.2.2.2.1 (F.2.2.2.2.1 _ (inG hlk rfl)) hnA hkA hkind hco (F.2.2.2.2.1 _ (inG harr rfl)) hd hn hm eN eM hb1 hb2 hb3 hf hdf h1 h2 (fun H1 locs1 z1 t1 r1 o1 l1 => ?_)
  rw [hz] at z1 t1 r1 ⊢
  refine kk H1 locs1 la (by omega) (va_P.of fun i h3 h4 => ?_) ⟨by have := hS.1; omega, fun q h3 h4 => ?_, fun z hzl => ?_⟩ hla
  · by_cases c1 : i < k
    · have h := hP.at (i := i) h3 c1
      exact h.kept (o1 _ h.lt)
    · by_cases c2 : i = k
      · subst c2
        rw [hE]
        show H1[b + i]? = some (vp_cell cA (N, .inr (.inr (.inr (.inr f)))))
        rw [t1, vp_cell_q]
        congr 1
        refine arrV_c fun j hj => ?_
        unfold zRow
        rw [if_pos hj, hfs j hj]
        show Value.ref (b + i + 1 + j) = Value.ref (b + (i + 1 + j))
        rw [show b + i + 1 + j = b + (i + 1 + j) by omega]
      · obtain ⟨j, rfl⟩ : ∃ j, i = k + 1 + j := ⟨i - (k + 1), by omega⟩
        rw [hE2 j (by omega)]
        show H1[b + (k + 1 + j)]? = some (vp_cell co a0)
        rw [show b + (k + 1 + j) = b + k + 1 + j by omega, r1 j (by omega), ha]
  · rw [o1 q (by have := hS.1; omega)]
    exact hS.2.1 q h3 h4
  · rcases l1 z hzl with h | h
    · exact hS.2.2 z h
    · show b + k0 ≤ z.base
      rw [h, hz]
      omega
end
