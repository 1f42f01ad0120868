-- an array of arrays is made: the machine's own making, walked
def zRow (h i : Nat) (j : Nat) : Value := if j < i then .ref (h + 1 + j) else .null
theorem zRow_s (h i : Nat) : updV (zRow h i) i (.ref (h + 1 + i)) = zRow h (i + 1) := by
  funext j
  unfold updV zRow
  by_cases c : j = i
  · rw [if_pos c, if_pos (by omega), c]
  · rw [if_neg c]
    by_cases c2 : j < i
    · rw [if_pos c2, if_pos (by omega)]
    · rw [if_neg c2, if_neg (by omega)]
def gridS (T : State) (cA co : ClassId) (N M : Nat) (v : Value) : Nat → State
  | 0 => T.pushCell (arrV cA N (zRow T.heap.size 0))
  | i + 1 => ((gridS T cA co N M v i).pushCell (arrV co M (fun _ => v))).setCell T.heap.size (arrV cA N (zRow T.heap.size (i + 1)))
theorem zRow_0 (h : Nat) : zRow h 0 = fun _ => .null := by
  funext j
  exact if_neg (Nat.not_lt_zero _)
section
variable {T : State} {cA co : ClassId} {N M : Nat} {v : Value}
theorem grid_sz : ∀ i, (gridS T cA co N M v i).heap.size = T.heap.size + 1 + i
  | 0 => by simp [gridS]
  | i + 1 => by
    have ih := grid_sz i
    simp [gridS, State.setCell, ih]
    omega
theorem grid_vm : ∀ i, (gridS T cA co N M v i).vm = T.vm
  | 0 => rfl
  | i + 1 => by
    have ih := grid_vm i
    simp [gridS, ih]
theorem grid_us : ∀ i, (gridS T cA co N M v i).slotsUsed = T.slotsUsed + N + i * M
  | 0 => by simp [gridS, arrV]
  | i + 1 => by
    have ih := grid_us i
    simp [gridS, ih, arrV, Nat.succ_mul]
    omega
theorem grid_top : ∀ i, (gridS T cA co N M v i).heap[T.heap.size]? = some (arrV cA N (zRow T.heap.size i))
  | 0 => by simp [gridS]
  | i + 1 => by
    have ih := grid_top i
    have hz := grid_sz (T := T) (cA := cA) (co := co) (N := N) (M := M) (v := v) i
    have hlt : T.heap.size < (gridS T cA co N M v i).heap.size := by omega
    refine State.heap_setCell_self (c := arrV cA N (zRow T.heap.size i)) ?_
    rw [State.heap_pushCell_of_lt (h := hlt)]
    exact ih
theorem grid_row : ∀ i j, j < i → (gridS T cA co N M v i).heap[T.heap.size + 1 + j]? = some (arrV co M (fun _ => v))
  | 0, j, h => absurd h (Nat.not_lt_zero _)
  | i + 1, j, h => by
    have hz := grid_sz (T := T) (cA := cA) (co := co) (N := N) (M := M) (v := v) i
    show (((gridS T cA co N M v i).pushCell (arrV co M (fun _ => v))).setCell T.heap.size _).heap[T.heap.size + 1 + j]? = _
    rw [State.heap_setCell_other (show T.heap.size ≠ T.heap.size + 1 + j by omega)]
    by_cases e : j = i
    · subst e
      rw [← hz]
      exact State.heap_pushCell_size _ _
    · have hlt : T.heap.size + 1 + j < (gridS T cA co N M v i).heap.size := by omega
      rw [State.heap_pushCell_of_lt (h := hlt)]
      exact grid_row i j (by omega)
theorem grid_old {a : Nat} (ha : a < T.heap.size) : ∀ i, (gridS T cA co N M v i).heap[a]? = T.heap[a]?
  | 0 => State.heap_pushCell_of_lt _ _ ha
  | i + 1 => by
    have hz := grid_sz (T := T) (cA := cA) (co := co) (N := N) (M := M) (v := v) i
    show (((gridS T cA co N M v i).pushCell (arrV co M (fun _ => v))).setCell T.heap.size _).heap[a]? = _
    have hlt : a < (gridS T cA co N M v i).heap.size := by omega
    rw [State.heap_setCell_other (Nat.ne_of_gt ha), State.heap_pushCell_of_lt (h := hlt)]
    exact grid_old ha i
theorem grid_setTop (f : JFrame) : ∀ i, gridS (T.setTop f) cA co N M v i = (gridS T cA co N M v i).setTop f
  | 0 => rfl
  | i + 1 => by
    have ih := grid_setTop f i
    simp only [gridS, ih, State.heap_setTop, State.pushCell_setTop, State.setCell_setTop]
end
theorem Stand.grid {p : Program} {l : Launch} {e : Env} {R : Room} {s : State} {m : MethodId} {args : Array Value} {below : List Frame} {meth : Method} {c : Code} {T : State} {locs : List Loc} {cells slots : Nat} (X : Stand p l e R s m args below meth c T locs cells slots) (cA co : ClassId) (N M : Nat) (v : Value) :
    ∀ i, Stand p l e R s m args below meth c (gridS T cA co N M v i) (locs ++ (List.range i).map fun j => ⟨T.heap.size, j⟩) (cells + 1 + i) (slots + N + i * M)
  | 0 => by
    have h := X.pushed (arrV cA N (zRow T.heap.size 0))
    rw [arrV_size] at h
    simpa [gridS] using h
  | i + 1 => by
    have ih := Stand.grid X cA co N M v i
    have hz := grid_sz (T := T) (cA := cA) (co := co) (N := N) (M := M) (v := v) i
    have hc : ((gridS T cA co N M v i).pushCell (arrV co M (fun _ => v))).heap[T.heap.size]? = some (arrV cA N (zRow T.heap.size i)) := by
      have hlt : T.heap.size < (gridS T cA co N M v i).heap.size := by omega
      rw [State.heap_pushCell_of_lt (h := hlt)]
      exact grid_top i
    have h := (ih.pushed (arrV co M (fun _ => v))).stored hc i (.ref (T.heap.size + 1 + i))
    rw [arrV_store, zRow_s, arrV_size] at h
    have e1 : (locs ++ (List.range (i + 1)).map fun j => (⟨T.heap.size, j⟩ : Loc)) = (locs ++ (List.range i).map fun j => (⟨T.heap.size, j⟩ : Loc)) ++ [⟨T.heap.size, i⟩] := by
      rw [List.range_succ, List.map_append, List.append_assoc]
      rfl
    have e2 : slots + N + (i + 1) * M = slots + N + i * M + M := by
      rw [Nat.succ_mul]
      omega
    rw [e1, e2]
    exact h
section
variable {E : CtlPost} {e : Env} {d : Bool} {acts : List Action} {s : State}
theorem mk_arr {c0 co : ClassId} {k : Class} {ty : FieldType} {len : Nat} {v : Value} (hk : s.vm.classes[c0]? = some k) (hkind : k.kind = .array co ty) (h1 : ¬ len > e.platform.arrayLengthLimit) (h2 : ¬ len * componentBytes ty > e.platform.maxHeapBytes) (hf : fits ty v = true) (hd : v.isDefault = true) (h3 : s.heap.size < e.platform.maxCells) (h4 : s.slotsUsed + len ≤ e.platform.maxSlots) {Q : Addr → Pre} (hq : Q s.heap.size d acts (s.pushCell (arrV c0 len (fun _ => v)))) : wp (Jvm.newArray c0 len v) Q E e d acts s := by
  have hfit : ∀ i x, (Array.replicate len v)[i]? = some x → s.fitsSlot c0 .none i x = true := fun i x hx => by
    rw [Array.getElem?_replicate] at hx
    split at hx
    · cases hx
      simp [State.fitsSlot, State.slotType?, hk, hkind, hf]
    · cases hx
  have ha : allocActs (Array.replicate len v) s.heap.size acts = acts := by
    unfold allocActs
    rw [if_pos (by rw [Array.all_replicate]; split <;> simp [hd])]
  rw [← arrV_new] at hq
  simp only [Jvm.newArray, Jvm.arrayFits, wp_bind', W.ask, W.ite, h1, if_false, wp_pure', W.theClass, hk, hkind, h2, W.alloc, W.stop, Option.some.injEq, exists_eq_left', Array.size_replicate, ha]
  rw [if_neg (by omega)]
  exact ⟨h3, h4, hfit, hq⟩
theorem ref_fits {t : FieldType} (h : t.isReference = true) {v : Value} (hv : v = .null ∨ ∃ a, v = .ref a) : fits t v = true := by
  rcases hv with rfl | ⟨a, rfl⟩ <;> cases t <;> simp [FieldType.isReference] at h <;> rfl
theorem mk_row {co cc : ClassId} {kc : Class} {ty : FieldType} {m : Int32} (hk : s.vm.classes[co]? = some kc) (hkind : kc.kind = .array cc ty) (hm : ¬ m < 0) (h1 : ¬ m.toNatClampNeg > e.platform.arrayLengthLimit) (h2 : ¬ m.toNatClampNeg * componentBytes ty > e.platform.maxHeapBytes) (hf : fits ty (defaultValue ty) = true) (hd : (defaultValue ty).isDefault = true) (h3 : s.heap.size < e.platform.maxCells) (h4 : s.slotsUsed + m.toNatClampNeg ≤ e.platform.maxSlots) {Q : Addr → Pre} (hq : Q s.heap.size d acts (s.pushCell (arrV co m.toNatClampNeg (fun _ => defaultValue ty)))) : wp (Jvm.Op.multianewarray.make co [m]) Q E e d acts s := by
  rw [Jvm.Op.multianewarray.make]
  simp only [wp_bind', W.ite, hm, if_false, wp_pure', W.theClass, hk, hkind, Option.some.injEq, exists_eq_left']
  exact mk_arr hk hkind h1 h2 hf hd h3 h4 hq
theorem mk_grid {cA co cc : ClassId} {k kc : Class} {t0 ty : FieldType} {n m : Int32} {N M : Nat} (eN : n.toNatClampNeg = N) (eM : m.toNatClampNeg = M) (hk : s.vm.classes[cA]? = some k) (hkind : k.kind = .array co t0) (hr : t0.isReference = true) (hkc : s.vm.classes[co]? = some kc) (hkindc : kc.kind = .array cc ty) (hn : ¬ n < 0) (hm : ¬ m < 0)
    (h1 : ¬ N > e.platform.arrayLengthLimit) (h2 : ¬ N * componentBytes t0 > e.platform.maxHeapBytes) (h3 : ¬ M > e.platform.arrayLengthLimit) (h4 : ¬ M * componentBytes ty > e.platform.maxHeapBytes) (hf : fits ty (defaultValue ty) = true) (hd : (defaultValue ty).isDefault = true)
    (h5 : s.heap.size + 1 + N ≤ e.platform.maxCells) (h6 : s.slotsUsed + N + N * M ≤ e.platform.maxSlots) {Q : Addr → Pre} (hq : ∀ d' acts', Q s.heap.size d' acts' (gridS s cA co N M (defaultValue ty) N)) : wp (Jvm.Op.multianewarray.make cA [n, m]) Q E e d acts s := by
  subst eN eM
  have hfind : ([m].find? (· < 0)) = none := by simp [hm]
  rw [Jvm.Op.multianewarray.make]
  simp only [wp_bind', W.ite, hn, if_false, wp_pure', W.theClass, hk, hkind, Option.some.injEq, exists_eq_left']
  refine mk_arr hk hkind h1 h2 (ref_fits hr (Or.inl rfl)) rfl (by omega) (by have := Nat.zero_le (n.toNatClampNeg * m.toNatClampNeg); omega) ?_
  simp only [hfind]
  rw [ite_self, wp_bind', Std.Legacy.Range.forIn_eq_forIn_range']
  rw [show ([:n.toNatClampNeg] : Std.Legacy.Range).size = n.toNatClampNeg by simp [Std.Legacy.Range.size]]
  have e0 : s.pushCell (arrV cA n.toNatClampNeg (fun _ => .null)) = gridS s cA co n.toNatClampNeg m.toNatClampNeg (defaultValue ty) 0 := by
    show _ = s.pushCell (arrV cA n.toNatClampNeg (zRow s.heap.size 0))
    rw [zRow_0]
  rw [e0]
  refine wp_forIn_inv (fun rest s' => ∃ i, i ≤ n.toNatClampNeg ∧ rest = List.range' i (n.toNatClampNeg - i) ∧ s' = gridS s cA co n.toNatClampNeg m.toNatClampNeg (defaultValue ty) i) _ _ ⟨0, Nat.zero_le _, rfl, rfl⟩ ?_ ?_
  · rintro x rest s' d' acts' Q' ⟨i, hi, hl, rfl⟩ hnext
    by_cases hlt : i < n.toNatClampNeg
    · obtain ⟨w, hw⟩ : ∃ w, n.toNatClampNeg - i = w + 1 := ⟨n.toNatClampNeg - i - 1, by omega⟩
      rw [hw, List.range'_succ] at hl
      obtain ⟨rfl, hrest⟩ := List.cons.inj hl
      have hz := grid_sz (T := s) (cA := cA) (co := co) (N := n.toNatClampNeg) (M := m.toNatClampNeg) (v := defaultValue ty) x
      have hv := grid_vm (T := s) (cA := cA) (co := co) (N := n.toNatClampNeg) (M := m.toNatClampNeg) (v := defaultValue ty) x
      have hu := grid_us (T := s) (cA := cA) (co := co) (N := n.toNatClampNeg) (M := m.toNatClampNeg) (v := defaultValue ty) x
      have ht := grid_top (T := s) (cA := cA) (co := co) (N := n.toNatClampNeg) (M := m.toNatClampNeg) (v := defaultValue ty) x
      have hmul : (x + 1) * m.toNatClampNeg ≤ n.toNatClampNeg * m.toNatClampNeg := Nat.mul_le_mul_right _ hlt
      rw [Nat.succ_mul] at hmul
      simp only [wp_bind']
      refine mk_row (by rw [hv]; exact hkc) hkindc hm h3 h4 hf hd (by omega) (by omega) ?_
      simp only [wp_bind', W.writeLoc, wp_pure']
      have hlt0 : s.heap.size < (gridS s cA co n.toNatClampNeg m.toNatClampNeg (defaultValue ty) x).heap.size := by omega
      refine ⟨arrV cA n.toNatClampNeg (zRow s.heap.size x), by rw [State.heap_pushCell_of_lt (h := hlt0)]; exact ht, (fun q => by cases q), by rw [arrV_size]; exact hlt, ?_, hnext _ _ _ ⟨x + 1, hlt, ?_, ?_⟩⟩
      · simp [State.fitsSlot, State.slotType?, arrV, hv, hk, hkind, ref_fits hr (Or.inr ⟨_, rfl⟩)]
      · rw [hrest, show n.toNatClampNeg - (x + 1) = w by omega]
      · rw [arrV_store, hz, zRow_s]
        rfl
    · rw [show n.toNatClampNeg - i = 0 by omega] at hl
      cases hl
  · rintro s' d' acts' ⟨i, hi, hl, rfl⟩
    have e9 : i = n.toNatClampNeg := by
      by_cases hlt : i < n.toNatClampNeg
      · obtain ⟨w, hw⟩ : ∃ w, n.toNatClampNeg - i = w + 1 := ⟨n.toNatClampNeg - i - 1, by omega⟩
        rw [hw, List.range'_succ] at hl
        cases hl
      · omega
    subst e9
    simp only [wp_pure']
    exact hq _ _
end
theorem x_mnew {p : Program} {l : Launch} {e : Env} {R : Room} {s : State} {m : MethodId} {args : Array Value} {below : List Frame} {meth : Method} {c : Code} {H : Heap} {locs : List Loc} {cells slots : Nat} {Q : State → Prop} {cc : ByteArray} {pc : Nat} {ls : Array Slot} {rest : List Value} (hexec : p.tables.exec = Jvm.exec) (hb : c.code = cc) {own : String} {index : Nat} {ty : FieldType} (hown : s.vm.findClass own = some m.cls) (hlink : (Cond.classLink own index ("[" ++ (FieldType.array ty).toString)).before args s = true) {cA co : ClassId} {kA : Class} (hnA : s.vm.findClass ("[" ++ (FieldType.array ty).toString) = some cA) (hkA : s.vm.classes[cA]? = some kA) (hkindA : kA.kind = .array co (.array ty)) (hco : s.vm.findClass (FieldType.array ty).toString = some co) (harr : (Cond.arrayClass ty).before args s = true)
    (hdg : decode cc pc = .ok (.multianewarray index 2, 4)) {n k : Int32} {N M : Nat} (hn : ¬ n < 0) (hk : ¬ k < 0) (eN : n.toNatClampNeg = N) (eM : k.toNatClampNeg = M) (hb1 : N * 4 ≤ 536870912) (hb2 : M * componentBytes ty ≤ 536870912) (hb3 : M ≤ 536870912) (hf : fits ty (defaultValue ty) = true) (hd : (defaultValue ty).isDefault = true) (hcells : cells + (1 + N) ≤ R.cells) (hslots : slots + (N + N * M) ≤ R.slots)
    (kk : ∀ (H1 : Heap) (locs1 : List Loc), H1.size = H.size + 1 + N → H1[H.size]? = some (arrV cA N (zRow H.size N)) → (∀ j, j < N → H1[H.size + 1 + j]? = some (arrV co M (fun _ => defaultValue ty))) → (∀ q, q < H.size → H1[q]? = H[q]?) → (∀ z ∈ locs1, z ∈ locs ∨ z.base = H.size) → W p l e R s m args below meth c H1 locs1 (cells + 1 + N) (slots + N + N * M) Q (F0 m (pc + 4) ls (.ref H.size :: rest))) :
    W p l e R s m args below meth c H locs cells slots Q (F0 m pc ls (.int k :: .int n :: rest)) := by
  intro T hT X
  subst hT hb
  have hpl : e.platform.magicAccessors = ({} : Platform).magicAccessors := by rw [X.admits.platform]
  obtain ⟨co', kC, cc', hco', hkC, hkindC⟩ := Cond.arrayClass_spec harr
  have eco : co = co' := Option.some.inj (hco.symm.trans hco')
  subst eco
  obtain ⟨c0, hfc, hcl⟩ := Cond.classLink_spec hown hlink e.platform hpl
  cases hnA.symm.trans hfc
  obtain ⟨hg1, hw1, hr1⟩ := State.classEntry (e := e) X.warmed hcl
  generalize T.vm.noted m.cls index (.cls cA) = vm1 at hg1 hw1 hr1
  have hal : s.vm.Alike vm1 := hw1.alike
  obtain ⟨kA1, hkA1, heA⟩ := hal.2.2 _ _ hkA
  obtain ⟨kC1, hkC1, heC⟩ := hal.2.2 _ _ hkC
  have hkindA1 : kA1.kind = .array co (.array ty) := by rw [heA]; exact hkindA
  have hkindC1 : kC1.kind = .array cc' ty := by rw [heC]; exact hkindC
  have X1 := X.noted hw1
  obtain ⟨ha1, ha2⟩ := X.roomAbove hcells hslots
  have XG := Stand.grid X1 cA co N M (defaultValue ty) N
  obtain ⟨t, a1, b1⟩ := kk (gridS (T.setVm vm1) cA co N M (defaultValue ty) N).heap (locs ++ (List.range N).map fun j => ⟨T.heap.size, j⟩) (grid_sz (T := T.setVm vm1) N) (grid_top (T := T.setVm vm1) N) (fun j hj => grid_row (T := T.setVm vm1) N j hj) (fun q hq => grid_old (T := T.setVm vm1) hq N) (fun z hz => by
    rcases List.mem_append.mp hz with hz | hz
    · exact Or.inl hz
    · obtain ⟨j, -, rfl⟩ := List.mem_map.mp hz
      exact Or.inr rfl) _ rfl XG
  refine ⟨t, ?_, b1⟩
  have hl1 : ¬ N > e.platform.arrayLengthLimit := by rw [Launch.admits_arrayLengthLimit X.admits]; omega
  have hl2 : ¬ N * componentBytes (.array ty) > e.platform.maxHeapBytes := by
    rw [Launch.admits_maxHeapBytes X.admits]
    show ¬ N * 4 > 536870912
    omega
  have hl3 : ¬ M > e.platform.arrayLengthLimit := by rw [Launch.admits_arrayLengthLimit X.admits]; omega
  have hl4 : ¬ M * componentBytes ty > e.platform.maxHeapBytes := by rw [Launch.admits_maxHeapBytes X.admits]; omega
  jvm_step X.here [hexec, hdg]
  simp only [Jvm.Op.multianewarray.sem, wp_bind', W.resolveClassAt_links (State.method?_setTop (F0 m pc ls (.int k :: .int n :: rest)) X.here.top) hg1]
  rw [W.popN, if_neg (by decide)]
  refine ⟨F0 m pc ls (.int k :: .int n :: rest), State.topJava?_setTop' (s := T.setVm vm1) (F0 m pc ls (.int k :: .int n :: rest)) X.here.top, [.int n, .int k], rest, rfl, rfl, ?_⟩
  simp only [List.mapM_cons, List.mapM_nil, wp_bind', wp_pure']
  refine mk_grid (co := co) eN eM (k := kA1) (kc := kC1) (t0 := .array ty) (ty := ty) hkA1 hkindA1 rfl hkC1 hkindC1 hn hk hl1 hl2 hl3 hl4 hf hd (by show T.heap.size + 1 + N ≤ _; omega) (by show T.slotsUsed + N + N * M ≤ _; omega) (fun d' acts' => ?_)
  have eS : ((T.setTop (F0 m pc ls (.int k :: .int n :: rest))).setVm vm1).setTop { (F0 m pc ls (.int k :: .int n :: rest)) with stack := rest } = (T.setVm vm1).setTop { (F0 m pc ls (.int k :: .int n :: rest)) with stack := rest } := by
    show ((T.setVm vm1).setTop _).setTop _ = _
    rw [State.setTop_setTop]
  rw [eS, grid_setTop]
  simp only [wp_bind', W.mark, W.pushRef, State.topJava?_setTop' _ XG.here.top, Option.some.injEq, exists_eq_left', State.setTop_setTop, State.heap_setTop]
  intro acts
  simp [jvm, XG.here.top]
  exact a1
