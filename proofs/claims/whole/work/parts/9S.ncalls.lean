-- constructors: their contracts, the calls of them
def rmN (d C S : Nat) : Room := { frames := d, cells := C, slots := S, locals := d * 40 }
def QN (D : va_G) (b : Nat) (G : Nat → va_E) (k k1 : Nat) : Array Value → State → Outcome → State → Prop := va_Qv (fun _ : Unit => True) (fun _ t => va_P D cls (wE b G k k1) t.heap) (fun q => b + k ≤ q)
def PN (D : va_G) (cc : Nat → ClassId) (b ci : Nat) (fs0 : List Value) (k : Nat) : Array Value → State → Prop := va_Pc [.ref (b + k)] (fun U => U.heap.size = b + k + 1 ∧ va_P D cls [(b + k, .inr (ci, fs0))] U.heap ∧ KU cc D U)
def CT (l : Launch) (D : va_G) (cc : Nat → ClassId) (b : Nat) (y : MethodName) (bc : ByteArray) (nL : Nat) (rm : Room) (ci : Nat) (fs0 : List Value) (G : Nat → va_E) (k k1 mc ms : Nat) : Prop := Met l y (wsY y bc nL none) rm (PN D cc b ci fs0 k) (QN D b G k k1) mc ms (fun q => b + k ≤ q)
theorem KU.blind {cc : Nat → ClassId} {D : va_G} {U : State} (h : KU cc D U) (g : JFrame) (mk : MethodId) (a : Array Value) : KU cc D (U.calling g mk a) := ⟨va_K.moved (u := U) (U := U.calling g mk a) (Vm.Alike.refl U.vm) h.1, AK.moved (s := U) (U := U.calling g mk a) (Vm.Alike.refl U.vm) h.2.1, va_AO.moved (u := U) (U := U.calling g mk a) (Vm.Alike.refl U.vm) h.2.2.1, va_AO.moved (u := U) (U := U.calling g mk a) (Vm.Alike.refl U.vm) h.2.2.2.1, fun q hq => va_Nw.same rfl rfl (h.2.2.2.2.1 q hq), fun C hC => va_Nw.same rfl rfl (h.2.2.2.2.2 C hC)⟩
theorem PN_blind (D : va_G) (cc : Nat → ClassId) (b ci : Nat) (fs0 : List Value) (k : Nat) : FrameBlind (PN D cc b ci fs0 k) := by
  intro a U g mk h
  obtain ⟨h0, h1, h2, h3⟩ := h
  exact ⟨h0, h1, h2, h3.blind g mk a⟩
theorem CT_of {l : Launch} {D : va_G} {cc : Nat → ClassId} {b : Nat} {own : String} {y : MethodName} {bc : ByteArray} {nL : Nat} {rm : Room} {ci : Nat} {fs0 : List Value} {G : Nat → va_E} {k0 k1 mc ms : Nat} (hown : y.cls = own) (hy : plainName y.cls = true) (hnm : y.name = "<init>") (hn : 1 ≤ nL) (k : ∀ X : FX, X.2.1 = l → FN X D cc own bc nL → X.s.heap.size = b + k0 + 1 → NV X D b k0 rm nL (MQ X.below (QN D b G k0 k1) X.args X.s mc ms (fun q => b + k0 ≤ q)) 0 (lv_args 0 [.ref (b + k0)]) [] (updE G k0 (.inr (ci, fs0))) (k0 + 1) 0 0) : CT l D cc b y bc nL rm ci fs0 G k0 k1 mc ms := by
  subst hown
  refine Met.ofW (cc := bc) (maxL := nL) (ret := none) hy rfl ?_
  intro p e s m args below meth c s₁ B hml hv
  obtain ⟨rfl, hsz, hP, hK⟩ := hv
  have hts := atoms_spec (ws := wsY y bc nL none) B.pre
  have hl := lv_entry [.ref (b + k0)] (n := nL) (show (lg_sl [.ref (b + k0)]).length ≤ nL from hn)
  rw [lg_entry_eq]
  have hin : meth.name = "<init>" := (name_of_methodNamed B.named B.method).1.trans hnm
  refine k (p, l, e, s, m, [Value.ref (b + k0)].toArray, below, meth, c) rfl ⟨B.exec, B.bytes, hml, findClass_of_methodNamed B.named, fun w hw => hts w (List.mem_cons_of_mem _ hw), hK, B.notSynchronized, hin, B.returns⟩ hsz s.heap [] _ hsz ?_ va_S.rf hl
  refine va_P.of fun i h1 h2 => ?_
  obtain rfl : i = k0 := by omega
  rw [updE_s]
  exact hP 0 _ rfl
section
variable {X : FX} {D : va_G} {cc : Nat → ClassId} {own : String} {bc : ByteArray} {b k0 : Nat} {rm : Room} {nL : Nat} {Q : State → Prop} {pc : Nat} {ls ls' : List (Nat × Value)} {st : List Value} {E G : Nat → va_E} {k c sl : Nat}
theorem n_ret (F : FN X D cc own bc nL) {k1 mc ms : Nat} (hk : k = k1) (hc : c = mc) (hs : sl = ms) (hG : ∀ i, k0 ≤ i → i < k1 → E i = G i) (hd : decode bc pc = .ok (.return_, 1)) : NV X D b k0 rm nL (MQ X.below (QN D b G k0 k1) X.args X.s mc ms (fun q => b + k0 ≤ q)) pc ls [] E k c sl := fun H locs la hz hP hS hl => by
  subst hk hc hs
  exact W.vret F.1 F.2.1 F.2.2.2.2.2.2.2.2 (fun t ht hW => ⟨⟨(), rfl, trivial, by show va_P _ _ _ t.heap; rw [ht]; exact va_P.of fun i h1 h2 => by rw [← hG i h1 h2]; exact hP.at h1 h2⟩, hS.F ht⟩) hS.2.2 hd F.2.2.2.2.2.2.1
theorem n_fix (F : FN X D cc own bc nL) : CallFix X.1 X.m X.c bc nL X.s X.args tbG own := ⟨F.1, F.2.1, F.2.2.1, F.2.2.2.1, F.2.2.2.2.1⟩
variable {y : MethodName} {bc' : ByteArray} {nL' ci mc ms k1 idx idx2 : Nat} {rm' : Room} {fs0 : List Value} {host : String}
theorem n_sup (F : FN X D cc own bc nL) (hsz : X.s.heap.size = b + k0 + 1) (hk : k = k0 + 1) (hE : E k0 = .inr (ci, fs0)) (hG : ∀ i, k0 ≤ i → i < k0 + 1 → E i = G i) (hM : CT X.2.1 D cc b y bc' nL' rm' ci fs0 G k0 (k0 + 1) 0 0) (hm : mok y bc' nL' none 0) (hnest : (own, idx, y, host) ∈ nestL) (hyi : Cond.instanceMethod y ∈ lw_tbl) (hyn : y.name = "<init>") (hr : rm'.frames + 1 ≤ rm.frames ∧ 8 + (nL' + 11) + rm'.locals ≤ rm.locals) (hrc : rm'.cells = 0) (hrs : rm'.slots = 0) (hc : c = 0) (hs : sl = 0) (hw : (st.map fun v => v.category).sum ≤ 8) (hd : decode bc pc = .ok (.invokespecial idx, 3)) (kk : NV X D b k0 rm nL Q (pc + 3) ls st E k 0 0) : NV X D b k0 rm nL Q pc ls (.ref (b + k0) :: st) E k c sl := fun H locs la hz hP hS hl => by
  subst hk hc hs
  refine va_callv (A1 := fun q => b + k0 ≤ q) (va_runIN (As := []) (rest := st) (host := host) (n_fix F) hM ⟨va_cnB (host := host) 0 F.2.2.2.2.1 (wsY_good hm.1) rfl hrc hrs (F.2.2.2.2.2.1.2.2.2.2.1 _ hnest) (F.2.2.2.2.1 _ (inG hm.2.2.1 rfl)) hm.2.1 hr, hyn, F.2.2.2.2.1 _ (inG hyi rfl)⟩ ⟨PN_blind D cc b ci fs0 k0, fun U hU hW => ⟨rfl, by rw [hU]; omega, ?_, KU.moved hW F.2.2.2.2.2.1⟩⟩ rfl rfl hl.1 rfl (lv_room hw) hd ⟨Nat.zero_le _, Nat.zero_le _⟩) hS (fun q _ h => h) (fun q h => h) (fun u t H1 locs1 ht hvm hp hB hz1 hk1 hS1 => ?_)
  · intro j q hq
    have hj : j = 0 := by
      have := (List.getElem?_eq_some_iff.mp hq).1
      simpa using this
    subst hj
    cases hq
    rw [hU]
    have h := hP.at (i := k0) (Nat.le_refl _) (Nat.lt_succ_self _)
    rw [hE] at h
    exact h
  · rw [ht] at hB
    exact n_go hsz rfl kk (va_P.of fun i h1 h2 => by rw [hG i h1 h2]; exact hB.at h1 h2) hS1 hl
theorem n_mk (F : FN X D cc own bc nL) (hsz : X.s.heap.size = b + k0 + 1) (hc : k0 + 1 + c = k) {q : vw_C} (hq : cls[ci]? = some q) (hlk : Cond.classLink own idx q.1 ∈ lw_tbl) (hins : Cond.instantiable q.1 q.2.2 ∈ lw_tbl) (hini : Cond.initialized q.1 ∈ lw_tbl) (hfs : ∀ j, j < q.2.2 → defaultValue (tyD q j) = vp_V fs0 j) (hG : ∀ i, k ≤ i → i < k1 → E i = G i) (hM : CT X.2.1 D cc b y bc' nL' rm' ci fs0 G k k1 mc ms) (hm : mok y bc' nL' none 0) (hnest : (own, idx2, y, host) ∈ nestL) (hyi : Cond.instanceMethod y ∈ lw_tbl) (hyn : y.name = "<init>") (hr : rm'.frames + 1 ≤ rm.frames ∧ 8 + (nL' + 11) + rm'.locals ≤ rm.locals) (hrc : rm'.cells = mc) (hrs : rm'.slots = ms) (h1 : c + 1 + mc ≤ rm.cells) (h2 : sl + q.2.2 + ms ≤ rm.slots) (hk1 : k1 = k + 1 + mc) (hw : (st.map fun v => v.category).sum + 1 ≤ 8) (hd1 : decode bc pc = .ok (.new idx, 3)) (hd2 : decode bc (pc + 3) = .ok (.dup, 1)) (hd3 : decode bc (pc + 3 + 1) = .ok (.invokespecial idx2, 3)) (kk : NV X D b k0 rm nL Q (pc + 3 + 1 + 3) ls (.ref (b + k) :: st) E k1 (c + 1 + mc) (sl + q.2.2 + ms)) : NV X D b k0 rm nL Q pc ls st E k c sl := fun H locs la hz hP hS hl => by
  have hKn := F.2.2.2.2.2.1.1.1 ci q hq
  refine W.newcK F.1 F.2.1 F.2.2.2.1 (F.2.2.2.2.1 _ (inG hlk rfl)) (F.2.2.2.2.1 _ (inG hins rfl)) (F.2.2.2.2.1 _ (inG hini rfl)) rfl hd1 (by omega) (by omega) hKn.2.1 hz (fun H1 kC hkC e1 z1 o1 => ?_)
  have hat : va_at D cls (b + k, .inr (ci, fs0)) H1 := ⟨q, hq, (u_born (tyD q) F.2.2.2.2.1 (cls_in ci q hq) hKn hkC e1 (cls_ty ci q hq).1).to hfs⟩
  have hS1 : va_S (fun q => b + k0 ≤ q) X.s.heap H1 locs := ⟨by have := hS.1; omega, fun x h3 h4 => (o1 x (by have := hS.1; omega)).trans (hS.2.1 x h3 h4), hS.2.2⟩
  refine lv_dup F.1 F.2.1 hd2 rfl ?_
  refine va_callv (A1 := fun q => b + k ≤ q) (va_runIN (As := []) (rest := .ref (b + k) :: st) (host := host) (n_fix F) hM ⟨va_cnB (host := host) 0 F.2.2.2.2.1 (wsY_good hm.1) rfl hrc hrs (F.2.2.2.2.2.1.2.2.2.2.1 _ hnest) (F.2.2.2.2.1 _ (inG hm.2.2.1 rfl)) hm.2.1 hr, hyn, F.2.2.2.2.1 _ (inG hyi rfl)⟩ ⟨PN_blind D cc b ci fs0 k, fun U hU hW => ⟨rfl, by rw [hU]; exact z1, ?_, KU.moved hW F.2.2.2.2.2.1⟩⟩ rfl rfl hl.1 rfl (lv_room ?_) hd3 ⟨h1, h2⟩) hS1 (fun x _ h => ?_) (fun x h => ?_) (fun u t H2 locs2 ht hvm hp hB hz2 hk2 hS2 => ?_)
  · intro j x hx
    have hj : j = 0 := by
      have := (List.getElem?_eq_some_iff.mp hx).1
      simpa using this
    subst hj
    cases hx
    rw [hU]
    exact hat
  · rw [List.map_cons, List.sum_cons, show (Value.ref (b + k)).category = 1 from rfl]
    omega
  · exact Nat.le_trans (by omega) h
  · exact Nat.le_trans (by omega) h
  · rw [ht] at hB
    refine n_go hsz (by omega) kk (va_P.of fun i h3 h4 => ?_) hS2 hl
    by_cases c1 : i < k
    · have h := hP.at (i := i) h3 c1
      have hlt : b + i < H.size := h.lt
      have h' : va_at D cls (b + i, E i) H1 := h.kept (o1 _ (by omega))
      exact h'.kept (hk2 (b + i) (by omega) (by omega))
    · rw [hG i (by omega) h4]
      exact hB.at (by omega) h4
end
