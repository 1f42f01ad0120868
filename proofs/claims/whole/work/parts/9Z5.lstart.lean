-- the law, from its entry
def FK (X : FX) (D : va_G) (cc : Nat → ClassId) : Prop := X.1.tables.exec = Jvm.exec ∧ X.c.code = code ∧ X.c.maxLocals = 4 ∧ X.s.vm.findClass "TakerBookLaw" = some X.m.cls ∧ (∀ w ∈ tbG, w.before X.args X.s = true) ∧ KU cc D X.s
theorem ff_T : ∀ j, j < 15 → defaultValue (tyD (R_T, F_T, 15) j) = vp_V [.null, .null, .null, .null, .null, .null, .null, .null, .null, .null, .null, .int 0, .int 0, .long 0, .long 0] j := by
  intro j hj
  rcases (show j = 0 ∨ j = 1 ∨ j = 2 ∨ j = 3 ∨ j = 4 ∨ j = 5 ∨ j = 6 ∨ j = 7 ∨ j = 8 ∨ j = 9 ∨ j = 10 ∨ j = 11 ∨ j = 12 ∨ j = 13 ∨ j = 14 by omega) with rfl | rfl | rfl | rfl | rfl | rfl | rfl | rfl | rfl | rfl | rfl | rfl | rfl | rfl | rfl
  all_goals (first | rfl | decide +kernel)
theorem ff_M : ∀ j, j < 40 → defaultValue (tyD (R_M, F_M, 40) j) = vp_V [.int 0, .null, .int 0, .long 0, .long 0, .null, .null, .null, .null, .null, .int 0, .null, .null, .null, .null, .int 0, .int 0, .int 0, .null, .null, .null, .null, .int 0, .null, .null, .null, .null, .null, .null, .int 0, .int 0, .int 0, .int 0, .int 0, .null, .null, .null, .long 0, .long 0, .long 0] j := by
  intro j hj
  rcases (show j = 0 ∨ j = 1 ∨ j = 2 ∨ j = 3 ∨ j = 4 ∨ j = 5 ∨ j = 6 ∨ j = 7 ∨ j = 8 ∨ j = 9 ∨ j = 10 ∨ j = 11 ∨ j = 12 ∨ j = 13 ∨ j = 14 ∨ j = 15 ∨ j = 16 ∨ j = 17 ∨ j = 18 ∨ j = 19 ∨ j = 20 ∨ j = 21 ∨ j = 22 ∨ j = 23 ∨ j = 24 ∨ j = 25 ∨ j = 26 ∨ j = 27 ∨ j = 28 ∨ j = 29 ∨ j = 30 ∨ j = 31 ∨ j = 32 ∨ j = 33 ∨ j = 34 ∨ j = 35 ∨ j = 36 ∨ j = 37 ∨ j = 38 ∨ j = 39 by omega) with rfl | rfl | rfl | rfl | rfl | rfl | rfl | rfl | rfl | rfl | rfl | rfl | rfl | rfl | rfl | rfl | rfl | rfl | rfl | rfl | rfl | rfl | rfl | rfl | rfl | rfl | rfl | rfl | rfl | rfl | rfl | rfl | rfl | rfl | rfl | rfl | rfl | rfl | rfl | rfl
  all_goals (first | rfl | decide +kernel)
section
variable {X : FX} {D : va_G} {cc : Nat → ClassId} {b : Nat} {Q : State → Prop} {pc : Nat} {ls : List (Nat × Value)} {k k1 c sl ci mc ms idx idx2 nL' : Nat} {y : MethodName} {bc' : ByteArray} {rm' : Room} {fs0 : List Value} {G : Nat → va_E}
theorem l_mk (F : FK X D cc) {q : vw_C} (hq : cls[ci]? = some q) (hlk : Cond.classLink "TakerBookLaw" idx q.1 ∈ lw_tbl) (hins : Cond.instantiable q.1 q.2.2 ∈ lw_tbl) (hini : Cond.initialized q.1 ∈ lw_tbl) (hfs : ∀ j, j < q.2.2 → defaultValue (tyD q j) = vp_V fs0 j) (hM : CT X.2.1 D cc b y bc' nL' rm' ci fs0 G k k1 mc ms) (hm : mok y bc' nL' none 0) (hml : Cond.methodLink "TakerBookLaw" idx2 y ∈ lw_tbl) (hyi : Cond.instanceMethod y ∈ lw_tbl) (hyn : y.name = "<init>") (hr : rm'.frames + 1 ≤ room_1.frames ∧ 8 + (nL' + 11) + rm'.locals ≤ room_1.locals) (hrc : rm'.cells = mc) (hrs : rm'.slots = ms) (h1 : c + 1 + mc ≤ room_1.cells) (h2 : sl + q.2.2 + ms ≤ room_1.slots) (hk1 : k1 = k + 1 + mc) (hck : c = k) (hbs : X.s.heap.size = b) (hd1 : decode code pc = .ok (.new idx, 3)) (hd2 : decode code (pc + 3) = .ok (.dup, 1)) (hd3 : decode code (pc + 3 + 1) = .ok (.invokespecial idx2, 3)) {H : Heap} {locs : List Loc} {la : Array Slot} (hl : lv_has la 4 ls) (hz : H.size = b + k) (hS : va_S (fun q => b ≤ q) X.s.heap H locs)
    (kk : ∀ (H2 : Heap) (locs2 : List Loc), H2.size = b + k1 → va_P D cls (wE b G k k1) H2 → (∀ x, x < b + k → H2[x]? = H[x]?) → va_S (fun q => b ≤ q) X.s.heap H2 locs2 → W X.1 X.2.1 X.2.2.1 room_1 X.s X.m X.args X.below X.meth X.c H2 locs2 (c + 1 + mc) (sl + q.2.2 + ms) Q (F0 X.m (pc + 3 + 1 + 3) la [.ref (b + k)])) : W X.1 X.2.1 X.2.2.1 room_1 X.s X.m X.args X.below X.meth X.c H locs c sl Q (F0 X.m pc la []) := by
  have hKn := F.2.2.2.2.2.1.1 ci q hq
  refine W.newcK F.1 F.2.1 F.2.2.2.1 (F.2.2.2.2.1 _ (inG hlk rfl)) (F.2.2.2.2.1 _ (inG hins rfl)) (F.2.2.2.2.1 _ (inG hini rfl)) rfl hd1 (by omega) (by omega) hKn.2.1 hz (fun H1 kC hkC e1 z1 o1 => ?_)
  have hat : va_at D cls (b + k, .inr (ci, fs0)) H1 := ⟨q, hq, (u_born (tyD q) F.2.2.2.2.1 (cls_in ci q hq) hKn hkC e1 (cls_ty ci q hq).1).to hfs⟩
  have hS1 : va_S (fun q => b ≤ q) X.s.heap H1 locs := ⟨by have := hS.1; omega, fun x h3 h4 => (o1 x (by have := hS.1; omega)).trans (hS.2.1 x h3 h4), hS.2.2⟩
  refine lv_dup F.1 F.2.1 hd2 rfl ?_
  refine va_callv (A1 := fun q => b + k ≤ q) (va_runI (As := []) (b := b + k) (rest := [.ref (b + k)]) (own := "TakerBookLaw") (Ts := tbG) ⟨F.1, F.2.1, F.2.2.1, F.2.2.2.1, F.2.2.2.2.1⟩ hM ⟨callB_of 0 F.2.2.2.2.1 (wsY_good hm.1) rfl hrc hrs (F.2.2.2.2.1 _ (inG hm.2.2.1 rfl)) (F.2.2.2.2.1 _ (inG hml rfl)) hm.2.1 hr, hyn, F.2.2.2.2.1 _ (inG hyi rfl)⟩ ⟨PN_blind D cc b ci fs0 k, fun U hU hW => ⟨rfl, by rw [hU]; exact z1, ?_, KU.moved hW F.2.2.2.2.2⟩⟩ rfl rfl hl.1 rfl (lv_room (Nat.le_of_ble_eq_true rfl)) hd3 ⟨h1, h2⟩) hS1 (fun x _ h => ?_) (fun x h => ?_) (fun u t H2 locs2 ht hvm hp hB hz2 hk2 hS2 => ?_)
  · intro j x hx
    have hj : j = 0 := by
      have := (List.getElem?_eq_some_iff.mp hx).1
      simpa using this
    subst hj
    cases hx
    rw [hU]
    exact hat
  · exact Nat.le_trans (Nat.le_add_right b k) h
  · exact Nat.le_trans (Nat.le_add_right b k) h
  · rw [ht] at hB
    refine x_sz fun hsz => kk H2 locs2 ?_ hB (fun x hx => ?_) hS2
    · have h3 : b + (k1 - 1) < H2.size := (va_P.at hB (i := k1 - 1) (by omega) (by omega)).lt
      omega
    · exact (hk2 x (by omega) (by omega)).trans (o1 x hx)
end
set_option maxHeartbeats 4000000 in
set_option maxRecDepth 100000 in
theorem whole_start {p : Program} {e : Env} {s : State} {m : MethodId} {below : List Frame} {meth : Method} {c : Code} (l : Launch) (hflags : l.flags = flags0) {b L : Nat} {xs : Nat → Int32} (hL : L ≤ 3072) (C0 : lw_At p s m meth c b L xs) : W p l e room_1 s m #[Value.ref b] below meth c s.heap [] 0 0 (lw_Z below #[Value.ref b] s) (entryFrame m ([Value.ref b] : List Value).toArray 4) := by
  obtain ⟨hx, hb, hr, hml, hown, hts, hX, hbl, hlocks, hgv⟩ := id C0
  obtain ⟨D, cc, hK⟩ := law_K hts
  obtain ⟨sa, hsa⟩ := law_S (A := fun q => s.heap.size ≤ q) hts hgv (fun a h => Nat.not_le.mpr h)
  have hA : ∀ q, AU (mkU D s.heap.size sa cc) q → s.heap.size ≤ q := fun q h => AU_ge h
  have hUs : Us (mkU D s.heap.size sa cc) s := law_Us hts (fun i q hq => ⟨(hsa i q hq).1.narrow hA, (hsa i q hq).2.narrow hA⟩)
  have htG : ∀ w ∈ tbG, w.before #[Value.ref b] s = true := fun w hw => hts w (tbG_sub hw)
  have F : LF (p, l, e, s, m, #[Value.ref b], below, meth, c) (mkU D s.heap.size sa cc) b L xs := ⟨⟨hx, hb, hml, hown, htG, hK.Uk _ _, hUs, mkU_Ap, hlocks⟩, hX, hbl, hA, hL⟩
  have FK0 : FK (p, l, e, s, m, #[Value.ref b], below, meth, c) D cc := ⟨hx, hb, hml, hown, htG, hK⟩
  have hl := lv_entry ([.ref b]) (n := 4) (Nat.le_of_ble_eq_true rfl)
  rw [lg_entry_eq]
  generalize (lg_sl ([.ref b]) ++ List.replicate (4 - (lg_sl ([.ref b])).length) Slot.unset).toArray = la at hl ⊢
  have hl : lv_has la 4 [(0, .ref b)] := hl
  refine l_mk (X := (p, l, e, s, m, #[Value.ref b], below, meth, c)) (b := s.heap.size) (k := 0) (k1 := 63) (c := 0) (sl := 0) (ci := 0) (mc := 62) (ms := 1131) (idx := 7) (idx2 := 9) (q := (R_T, F_T, 15)) FK0 rfl (List.mem_of_getElem? (i := 90) (by decide +kernel)) (List.mem_of_getElem? (i := 91) (by decide +kernel)) (List.mem_of_getElem? (i := 74) (by decide +kernel)) ff_T (c_T_init l D cc s.heap.size) mo_T_init (List.mem_of_getElem? (i := 92) (by decide +kernel)) (List.mem_of_getElem? (i := 93) (by decide +kernel)) rfl ⟨by decide, by decide⟩ rfl rfl (Nat.le_of_ble_eq_true rfl) (Nat.le_of_ble_eq_true rfl) rfl rfl rfl d_L_0 d_L_3 d_L_4 hl rfl va_S.rf (fun H1 locs1 z1 hP1 _ hS1 => ?_)
  refine lv_astore_n (lv' := [(1, .ref (s.heap.size + 0)), (0, .ref b)]) hx hb d_L_7 rfl hl (by decide) rfl (fun la hl => ?_)
  refine l_mk (X := (p, l, e, s, m, #[Value.ref b], below, meth, c)) (b := s.heap.size) (k := 63) (k1 := 87) (c := 63) (sl := 1146) (ci := 12) (mc := 23) (ms := 3875) (idx := 10) (idx2 := 12) (q := (R_M, F_M, 40)) FK0 rfl (List.mem_of_getElem? (i := 973) (by decide +kernel)) (List.mem_of_getElem? (i := 974) (by decide +kernel)) (List.mem_of_getElem? (i := 86) (by decide +kernel)) ff_M (c_M_init l D cc s.heap.size) mo_M_init (List.mem_of_getElem? (i := 975) (by decide +kernel)) (List.mem_of_getElem? (i := 976) (by decide +kernel)) rfl ⟨by decide, by decide⟩ rfl rfl (Nat.le_of_ble_eq_true rfl) (Nat.le_of_ble_eq_true rfl) rfl rfl rfl d_L_8 d_L_11 d_L_12 hl z1 hS1 (fun H2 locs2 z2 hP2 o2 hS2 => ?_)
  have hP1' : va_P D cls (wE s.heap.size (ZT s.heap.size cc) 0 63) H2 := va_P.of fun i h1 h2 => (hP1.at h1 h2).kept (o2 _ (by show s.heap.size + i < s.heap.size + 63; omega))
  have hW := w_start (sa := sa) hP1' hP2
  refine lv_astore_n (lv' := [(2, .ref (s.heap.size + 63)), (1, .ref (s.heap.size + 0)), (0, .ref b)]) hx hb d_L_15 rfl hl (by decide) rfl (fun la hl => ?_)
  refine lv_iconst (v := nI 0) hx hb d_L_16 rfl ?_
  refine lv_istore_n (lv' := [(3, .int (nI 0)), (2, .ref (s.heap.size + 63)), (1, .ref (s.heap.size + 0)), (0, .ref b)]) hx hb d_L_17 rfl hl (by decide) rfl (fun la hl => ?_)
  refine va_forget (fun q hq => hS2.2.2 q hq) ?_
  refine law_loop F hr (L + 1) 0 sg0 (Nat.zero_le L) (by omega) Rel_0 H2 [] la hW ⟨hS2.1, fun q h1 _ => hS2.2.1 q h1 (Nat.not_le.mpr h1), fun _ h => absurd h List.not_mem_nil⟩ ?_
  exact lv_sub hl [3, 2, 1, 0] rfl
