-- an inherited method called by super; what a kind does
theorem r_SU2 {X : FX} {u : Un} {own : String} {cc : ByteArray} {d nL : Nat} {pc : Nat} {stk st : List Value} {σ : St} {y x : MethodName} {cc' : ByteArray} {nL' d' idx k : Nat} {ret : Option FieldType} {As : List Value} {Qc : Array Value → State → Outcome → State → Prop} {C : String}
    (F : Fr X u own cc nL) (hM : Met X.2.1 y (wsY y cc' nL' ret) (rmD d') (PcU u (.ref (u.2.1 k) :: As) σ) Qc 0 0 (AU u)) (hm : mok y cc' nL' ret As.length) (h1 : Cond.methodLink own idx x ∈ lw_tbl) (h2 : Cond.sameMethod x.cls y.cls x.name x.desc ∈ lw_tbl) (h3 : Cond.superclass own x.cls ∈ lw_tbl) (h4 : Cond.superclass x.cls y.cls ∈ lw_tbl) (h5 : Cond.instanceMethod y ∈ lw_tbl) (hxy : (⟨y.cls, x.name, x.desc⟩ : MethodName) = y) (hno : x.name ≠ "<init>") (hr : recv k C) (hd : d' + 1 ≤ d) (hst : stk = As.reverse ++ .ref (u.2.1 k) :: st) (hw : (st.map fun v => v.category).sum ≤ 8) (hdg : decode cc pc = .ok (.invokespecial idx, 3)) :
    ∀ (H : Heap) (locs : List Loc) (la : Array Slot), va_P u.1 cls (wU u σ) H → va_S (AU u) X.s.heap H locs → la.size = nL → va_Run X.1 X.2.1 X.2.2.1 (rmD d) X.s X.m X.args X.below X.meth X.c H locs 0 0 0 0 (F0 X.m pc la stk) st (Qc (Value.ref (u.2.1 k) :: As).toArray) (AU u) := by
  intro H locs la hP hS hl
  obtain ⟨ci, fs, q, hGk, hq, hC⟩ := id hr
  have hat := (F.2.2.2.2.2.1.1 ci q hq).2
  rw [hC] at hat
  have hp := v_preV F As hr hP hS
  have hts := F.2.2.2.2.1
  have hws := pay_in hts (wsY_good hm.1)
  have hini := hts _ (inG hm.2.2.1 rfl)
  have hK : Back X.2.1 (rmD d) X.1 X.2.2.1 X.below X.s X.args y 3 8 (PreOf (rmD d) 0 0 (PcU u (.ref (u.2.1 k) :: As) σ)) (PostOf Qc 0 0 (AU u)) := back_of (bytes := cc') (maxL := nL') (ret := ret) hM hp.1 rfl rfl (room_le hd hm.2.2.2).1 (room_le hd hm.2.2.2).2 hws List.mem_cons_self (fun a' U hW => word_at hW (Or.inl rfl) hini)
  obtain ⟨-, ⟨cellB, hcB, hoB, hclB⟩, hPc⟩ := hp
  obtain ⟨hfc, kB, hkB, -⟩ := hat
  have ecl := Option.some.inj (hfc.symm.trans hclB)
  rw [ecl] at hkB
  intro T hT XX
  obtain ⟨mk, methM, hnamed, hmethM, hstM, habM⟩ := Cond.instanceMethod_spec (hts _ (inG h5 rfl))
  obtain ⟨methM', cM, hmethM', -, -, -, -, -, -, hsigM⟩ := Cond.code_spec hnamed (hts _ (inG hm.1 rfl))
  cases hmethM.symm.trans hmethM'
  obtain ⟨ps, dk, kp, hps, hdk, hkp, hsuper, -, -, hnid⟩ := Cond.superclass_spec F.2.2.2.1 (hts _ (inG h3 rfl))
  obtain ⟨ps2, dk2, kp2, hps2, hdk2, hkp2, hsuper2, -⟩ := Cond.superclass_spec hps (hts _ (inG h4 rfl))
  have hpm : ps2 = mk.cls := Option.some.inj (hps2.symm.trans (findClass_of_methodNamed hnamed))
  have hsub : X.s.vm.isSubclass ps mk.cls = true := by
    rw [← hpm]
    have hlt : ps < X.s.vm.classes.size := (Array.getElem?_eq_some_iff.mp hdk2).1
    obtain ⟨z, hz⟩ : ∃ z, X.s.vm.classes.size = z + 1 := ⟨X.s.vm.classes.size - 1, (Nat.succ_pred_eq_of_pos (Nat.lt_of_le_of_lt (Nat.zero_le _) hlt)).symm⟩
    unfold Vm.isSubclass
    rw [hz]
    simp [Vm.isSubclassAux, hdk2, hsuper2]
  have hn : X.s.methodNamed? ⟨y.cls, x.name, x.desc⟩ = some mk := by rw [hxy]; exact hnamed
  have hyd : y.desc = x.desc := by rw [← hxy]
  have hlen : As.length = methM.sig.parameters.length := by
    have h9 := hm.2.1.2.2
    rw [hsigM] at h9
    exact (Option.some.inj h9).symm
  obtain ⟨vm₁, X₁, hstep₁⟩ := XX.invokespecialUp F.1 F.2.2.2.1 (hts _ (inG h1 rfl)) (hts _ (inG h2 rfl)) hn hmethM hstM habM hno hdk hnid hps hsuper hsub (a := u.2.1 k) (cell := cellB) (by rw [hT]; exact hcB)
    (fun z h => by rw [h] at hoB; cases hoB) hkB (g := F0 X.m pc la stk) rfl (argsL := As) (rest := st) hlen hst (by rw [F.2.1]; exact hdg)
  obtain ⟨v, ⟨U', l2, c2, s2⟩, X', ⟨g', mk', t, L, e1, e2, hq, hh1, hL, hh2, hh3⟩, hsteps⟩ := hK X.m X.meth X.c ⟨T.setVm vm₁, locs, 0, 0⟩ { F0 X.m pc la stk with stack := st } (.invokespecial idx) mk (Value.ref (u.2.1 k) :: As).toArray X₁ rfl (hl.trans F.2.2.1.symm) (by rw [F.2.1]; exact hdg) (lv_room hw) (X₁.named hnamed) ⟨Nat.zero_le _, Nat.zero_le _, hPc (T.setVm vm₁) hT X₁.warmed⟩
  dsimp only [Pt.U, Pt.locs, Pt.cells, Pt.slots] at X' e1 e2 hh1 hh2 hh3 hsteps
  subst hh1; subst hh2; subst hh3
  exact ⟨v, (T.setVm vm₁).calling g' mk' (Value.ref (u.2.1 k) :: As).toArray, t, U', L, hT, X', hL, e1, e2, hq, fun target h => hstep₁ _ (by rw [doInvoke_state]; exact hsteps.trans h)⟩
def ofB (k : Nat) (kind : Int32) : Bool := match k with
  | 0 => kind == 0
  | 1 => kind == 1 || kind == 0
  | 2 => kind == 2 || kind == 0
  | 3 => kind == 3 || kind == 0
  | 4 => kind == 4 || (kind == 1 || kind == 0)
  | _ => kind == 5 || (kind == 3 || kind == 0)
def lootS (k : Nat) (skill others : Int32) : Int32 := match k with
  | 0 => skill
  | 1 => skill + 1
  | 2 => skill / 2
  | 3 => skill + others
  | 4 => skill + 1
  | _ => (skill + others) / 2
def talkB (k : Nat) (bold fear crosses others : Int32) : Bool := match k with
  | 0 => decide (fear + 2 * crosses < bold)
  | 1 => false
  | 2 => decide (crosses = 0) && decide (fear + 2 * crosses < bold)
  | 3 => decide (others ≤ 1) && decide (fear + 2 * crosses < bold)
  | 4 => decide (crosses = 2)
  | _ => decide (others ≤ 1) && decide (fear + 2 * crosses < bold + 2)
def priceS (k : Nat) (bounty crosses : Int32) : Int32 := match k with
  | 2 => (bounty + crosses) / 2
  | 5 => if 0 < bounty + crosses - 1 then bounty + crosses - 1 else 0
  | _ => bounty + crosses
