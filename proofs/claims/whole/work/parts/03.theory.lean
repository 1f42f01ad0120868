-- one world for both objects: every cell has a number; a state gives the numbers that the cells hold
abbrev St : Type := (Nat → Nat → Int32) × (Nat → Nat → Int64)
abbrev Un : Type := va_G × ((Nat → Nat) × (Nat → ClassId))
def g_f (A : Nat → Nat) (σ : St) (k j : Nat) : Nat ⊕ Bool → Value
  | .inl r => .ref (A r)
  | .inr false => .int (σ.1 k j)
  | .inr true => .long (σ.2 k j)
def g_fs (A : Nat → Nat) (σ : St) (k : Nat) : Nat → List (Nat ⊕ Bool) → List Value
  | _, [] => []
  | j, f :: fs => g_f A σ k j f :: g_fs A σ k (j + 1) fs
theorem g_fs_get (A : Nat → Nat) (σ : St) (k : Nat) : ∀ (fs : List (Nat ⊕ Bool)) (j i : Nat), (g_fs A σ k j fs)[i]? = (fs[i]?).map (g_f A σ k (j + i))
  | [], j, i => by simp [g_fs]
  | f :: fs, j, 0 => by simp [g_fs]
  | f :: fs, j, i + 1 => by
    rw [g_fs, List.getElem?_cons_succ, List.getElem?_cons_succ, g_fs_get A σ k fs (j + 1) i, Nat.add_right_comm, Nat.add_assoc]
theorem g_fs_len (A : Nat → Nat) (σ : St) (k : Nat) : ∀ (fs : List (Nat ⊕ Bool)) (j : Nat), (g_fs A σ k j fs).length = fs.length
  | [], j => rfl
  | f :: fs, j => by simp [g_fs, g_fs_len A σ k fs (j + 1)]
def g_e (u : Un) (σ : St) (k : Nat) : Sh → va_E
  | .inl (_, n) => .inl (u.2.2 k, n, .inl (σ.1 k))
  | .inr (.inl (_, n, r)) => .inl (u.2.2 k, n, .inr (.inr (.inr (.inr (fun j => some (u.2.1 (r j)))))))
  | .inr (.inr (ci, fs)) => .inr (ci, g_fs u.2.1 σ k 0 fs)
def w_from (u : Un) (σ : St) : Nat → List Sh → va_W
  | _, [] => []
  | k, x :: xs => (u.2.1 k, g_e u σ k x) :: w_from u σ (k + 1) xs
theorem w_from_get (u : Un) (σ : St) : ∀ (xs : List Sh) (k i : Nat), (w_from u σ k xs)[i]? = (xs[i]?).map (fun x => (u.2.1 (k + i), g_e u σ (k + i) x))
  | [], k, i => by simp [w_from]
  | x :: xs, k, 0 => by simp [w_from]
  | x :: xs, k, i + 1 => by
    rw [w_from, List.getElem?_cons_succ, List.getElem?_cons_succ, w_from_get u σ xs (k + 1) i, Nat.add_right_comm, Nat.add_assoc]
def wU (u : Un) (σ : St) : va_W := w_from u σ 0 Gam
theorem wU_get (u : Un) (σ : St) {k : Nat} {x : Sh} (h : Gam[k]? = some x) : (wU u σ)[k]? = some (u.2.1 k, g_e u σ k x) := by
  rw [wU, w_from_get, h]
  simp
theorem g_e_eq (u : Un) {σ σ' : St} {k : Nat} (x : Sh) (h1 : σ'.1 k = σ.1 k) (h2 : σ'.2 k = σ.2 k) : g_e u σ' k x = g_e u σ k x := by
  rcases x with ⟨t, n⟩ | ⟨t, n, r⟩ | ⟨ci, fs⟩
  · simp only [g_e, h1]
  · rfl
  · simp only [g_e]
    congr 2
    apply List.ext_getElem?
    intro i
    rw [g_fs_get, g_fs_get]
    congr 1
    funext f
    rcases f with r | b
    · rfl
    · cases b
      · simp only [g_f, h1]
      · simp only [g_f, h2]
/-- a cell's new contents are the world of the new state -/
theorem wU_set (u : Un) {σ σ' : St} {k : Nat} {x : Sh} {e : va_E} (h : Gam[k]? = some x) (he : g_e u σ' k x = e) (h1 : ∀ a, a ≠ k → σ'.1 a = σ.1 a) (h2 : ∀ a, a ≠ k → σ'.2 a = σ.2 a) :
    (wU u σ).set k (u.2.1 k, e) = wU u σ' := by
  have hl : k < (wU u σ).length := (List.getElem?_eq_some_iff.mp (wU_get u σ h)).1
  apply List.ext_getElem?
  intro i
  by_cases hi : i = k
  · subst hi
    rw [List.getElem?_set_self hl, wU_get u σ' h, he]
  · rw [List.getElem?_set_ne (Ne.symm hi), wU, wU, w_from_get, w_from_get]
    congr 1
    funext y
    rw [Nat.zero_add, g_e_eq u y (h1 i hi) (h2 i hi)]
/-- the addresses of the world -/
def AU (u : Un) : Nat → Prop := fun q => ∃ k, k < Gam.length ∧ u.2.1 k = q
def Ap (u : Un) : Prop := ∀ i j, i < Gam.length → j < Gam.length → u.2.1 i = u.2.1 j → i = j
theorem wU_mem (u : Un) (σ : St) {k : Nat} {q : Nat × va_E} (h : (wU u σ)[k]? = some q) : k < Gam.length ∧ q.1 = u.2.1 k := by
  rw [wU, w_from_get] at h
  cases hx : Gam[k]? with
  | none => rw [hx] at h; cases h
  | some x =>
    rw [hx] at h
    simp only [Option.map_some, Option.some.injEq] at h
    exact ⟨(List.getElem?_eq_some_iff.mp hx).1, by rw [← h, Nat.zero_add]⟩
theorem Ap.D {u : Un} (h : Ap u) (σ : St) : va_D (AU u) (wU u σ) := by
  refine ⟨fun i j p q hi hj e => ?_, fun k q hk => ?_⟩
  · obtain ⟨a1, a2⟩ := wU_mem u σ hi
    obtain ⟨b1, b2⟩ := wU_mem u σ hj
    exact h i j a1 b1 (by rw [← a2, ← b2]; exact e)
  · obtain ⟨a1, a2⟩ := wU_mem u σ hk
    exact ⟨k, a1, a2.symm⟩
def aTy (k : Nat) : Option FieldType := match Gam[k]? with
  | some (.inl (t, _)) => some t
  | some (.inr (.inl (t, _, _))) => some t
  | _ => none
/-- what is known of the classes -/
def Uk (u : Un) (U : State) : Prop := (∀ (c : Nat) (q : vw_C), cls[c]? = some q → u_Kn U q.1 q.2.1 q.2.2 (u.1.1 c) (u.1.2 c)) ∧ ∀ (k : Nat) (ty : FieldType), aTy k = some ty → ArrOfT U (u.2.2 k) ty ∧ va_RA U (u.2.2 k) ty
theorem Uk.moved {u : Un} {s U : State} (hvm : s.vm.Alike U.vm) (h : Uk u s) : Uk u U := ⟨fun c q hq => u_Kn_moved hvm (h.1 c q hq), fun k ty hk => ⟨arrOfT_moved hvm (h.2 k ty hk).1, (h.2 k ty hk).2.moved hvm⟩⟩
theorem Uk.K0 {u : Un} {s : State} (h : Uk u s) : va_K u.1 cls [] s := ⟨h.1, fun k q hk => by simp at hk⟩
theorem Uk.K1 {u : Un} {s : State} (h : Uk u s) {k : Nat} {ty : FieldType} (hk : aTy k = some ty) : va_K u.1 cls [(u.2.2 k, ty)] s := ⟨h.1, fun i q hi => by
  have : q = (u.2.2 k, ty) := by
    have := List.mem_of_getElem? hi
    simpa using this
  subst this
  exact h.2 k ty hk⟩
theorem Uk.K2 {u : Un} {s : State} (h : Uk u s) {k k2 : Nat} {ty ty2 : FieldType} (hk : aTy k = some ty) (hk2 : aTy k2 = some ty2) : va_K u.1 cls [(u.2.2 k, ty), (u.2.2 k2, ty2)] s := ⟨h.1, fun i q hi => by
  have : q = (u.2.2 k, ty) ∨ q = (u.2.2 k2, ty2) := by
    have := List.mem_of_getElem? hi
    simpa using this
  rcases this with rfl | rfl
  · exact h.2 k ty hk
  · exact h.2 k2 ty2 hk2⟩
/-- the statics and the nest links -/
def Us (u : Un) (U : State) : Prop := (∀ (i : Nat) (q : String × String × FieldType × Nat × (Nat → Int32)), stab[i]? = some q → va_Z "TakerBook$Reader" q.1 q.2.1 (.ref (u.2.1 (1000 + i))) (AU u) U U.heap ∧ va_T q.2.2.1 (u.2.1 (1000 + i)) q.2.2.2.1 (fun j => .int (q.2.2.2.2 j)) (AU u) U U.heap) ∧ ∀ q ∈ nestL, va_Nw (nestW q) U
theorem Us.moved {u : Un} {s U : State} {H : Heap} {locs : List Loc} (h : Us u s) (hS : va_S (AU u) s.heap H locs) (hU : U.heap = H) (hW : s.WarmedH U.vm) : Us u U := by
  have hk : ∀ a : Nat, a < s.heap.size → ¬ AU u a → U.heap[a]? = s.heap[a]? := fun a h1 h2 => by rw [hU]; exact hS.2.1 a h1 h2
  refine ⟨fun i q hq => ⟨va_Z.moved hW.alike (va_Z.kept (h.1 i q hq).1 hk), va_T.moved hW.alike (va_T.kept (h.1 i q hq).2 hk)⟩, fun q hq => ?_⟩
  exact va_Nw.warmM hW (h.2 q hq)
/-- a method's start, and its end -/
def rmD (d : Nat) : Room := { frames := d, cells := 0, slots := 0, locals := d * 40 }
def wsY (y : MethodName) (cc : ByteArray) (nL : Nat) (ret : Option FieldType) : List Cond := .code y cc nL ret :: tbG
def PcU (u : Un) (as : List Value) (σ : St) : Array Value → State → Prop := va_Pc as (fun U => va_P u.1 cls (wU u σ) U.heap ∧ Uk u U ∧ Us u U)
def BU (u : Un) : St → State → Prop := fun σ t => va_P u.1 cls (wU u σ) t.heap
theorem PcU_blind (u : Un) (as : List Value) (σ : St) : FrameBlind (PcU u as σ) := by
  intro a U g mk h
  obtain ⟨h0, h1, h2, h3⟩ := h
  refine ⟨h0, h1, Uk.moved (Vm.Alike.refl U.vm) h2, ?_, ?_⟩
  · intro i q hq
    exact ⟨va_Z.moved (Vm.Alike.refl U.vm) (h3.1 i q hq).1, va_T.moved (Vm.Alike.refl U.vm) (h3.1 i q hq).2⟩
  · intro q hq
    exact va_Nw.same rfl rfl (h3.2 q hq)
/-- a frame's constants -/
abbrev FX : Type := Program × Launch × Env × State × MethodId × Array Value × List Frame × Method × Code
abbrev FX.s (X : FX) : State := X.2.2.2.1
abbrev FX.m (X : FX) : MethodId := X.2.2.2.2.1
abbrev FX.args (X : FX) : Array Value := X.2.2.2.2.2.1
abbrev FX.below (X : FX) : List Frame := X.2.2.2.2.2.2.1
abbrev FX.meth (X : FX) : Method := X.2.2.2.2.2.2.2.1
abbrev FX.c (X : FX) : Code := X.2.2.2.2.2.2.2.2
def Fr (X : FX) (u : Un) (own : String) (cc : ByteArray) (nL : Nat) : Prop :=
  X.1.tables.exec = Jvm.exec ∧ X.c.code = cc ∧ X.c.maxLocals = nL ∧ X.s.vm.findClass own = some X.m.cls ∧ (∀ w ∈ tbG, w.before X.args X.s = true) ∧ Uk u X.s ∧ Us u X.s ∧ Ap u ∧ X.meth.locks = false
/-- from here the method comes to its end Q -/
def V (X : FX) (u : Un) (d nL : Nat) (Q : State → Prop) (pc : Nat) (ls : List (Nat × Value)) (st : List Value) (σ : St) : Prop :=
  ∀ (H : Heap) (locs : List Loc) (la : Array Slot), va_P u.1 cls (wU u σ) H → va_S (AU u) X.s.heap H locs → lv_has la nL ls → W X.1 X.2.1 X.2.2.1 (rmD d) X.s X.m X.args X.below X.meth X.c H locs 0 0 Q (F0 X.m pc la st)
def MTi (l : Launch) (u : Un) (y : MethodName) (cc : ByteArray) (nL : Nat) (ret : FieldType) (d : Nat) (as : List Value) (σ : St) (P : Int32 → St → Prop) : Prop := Met l y (wsY y cc nL (some ret)) (rmD d) (PcU u as σ) (va_Qi P (BU u) (AU u)) 0 0 (AU u)
def MTl (l : Launch) (u : Un) (y : MethodName) (cc : ByteArray) (nL : Nat) (d : Nat) (as : List Value) (σ : St) (P : Int64 → St → Prop) : Prop := Met l y (wsY y cc nL (some .long)) (rmD d) (PcU u as σ) (va_Ql P (BU u) (AU u)) 0 0 (AU u)
def MTv (l : Launch) (u : Un) (y : MethodName) (cc : ByteArray) (nL : Nat) (d : Nat) (as : List Value) (σ : St) (P : St → Prop) : Prop := Met l y (wsY y cc nL none) (rmD d) (PcU u as σ) (va_Qv P (BU u) (AU u)) 0 0 (AU u)
/-- an answer that is the cell of number k -/
def MTr (l : Launch) (u : Un) (y : MethodName) (cc : ByteArray) (nL : Nat) (ret : FieldType) (d : Nat) (as : List Value) (σ : St) (k : Nat) : Prop := Met l y (wsY y cc nL (some ret)) (rmD d) (PcU u as σ) (va_Qr (fun _ : St => True) (fun _ a t => a = u.2.1 k ∧ BU u σ t) (AU u)) 0 0 (AU u)
def Qe (X : FX) (u : Un) (Qc : Array Value → State → Outcome → State → Prop) : State → Prop := MQ X.below Qc X.args X.s 0 0 (AU u)
theorem MT_of {l : Launch} {u : Un} {own : String} {y : MethodName} {cc : ByteArray} {nL : Nat} {ret : Option FieldType} {d : Nat} {as : List Value} {σ : St} {Qc : Array Value → State → Outcome → State → Prop} (hA : Ap u) (hown : y.cls = own) (hy : plainName y.cls = true) (hn : (lg_sl as).length ≤ nL)
    (k : ∀ X : FX, X.2.1 = l → Fr X u own cc nL → X.meth.sig.returnType = ret → V X u d nL (Qe X u Qc) 0 (lv_args 0 as) [] σ) : Met l y (wsY y cc nL ret) (rmD d) (PcU u as σ) Qc 0 0 (AU u) := by
  subst hown
  refine Met.ofW (cc := cc) (maxL := nL) (ret := ret) hy rfl ?_
  intro p e s m args below meth c s₁ B hml hv
  obtain ⟨rfl, hP, hK, hU⟩ := hv
  have hts := atoms_spec (ws := wsY y cc nL ret) B.pre
  have hl := lv_entry as (n := nL) hn
  rw [lg_entry_eq]
  exact k (p, l, e, s, m, as.toArray, below, meth, c) rfl ⟨B.exec, B.bytes, hml, findClass_of_methodNamed B.named, fun w hw => hts w (List.mem_cons_of_mem _ hw), hK, hU, hA, B.notSynchronized⟩ B.returns s.heap [] _ hP va_S.rf hl
