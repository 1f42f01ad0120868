-- the start: the classes' numbers, the static arrays, the world of both objects
def ixU (k : Nat) : Nat := if k = 1 ∨ k = 41 then 5 else if k = 9 then 6 else if k = 20 then 3 else if k = 52 then 4 else if (10 ≤ k ∧ k ≤ 13) ∨ k = 69 then 1 else if k = 35 ∨ k = 79 then 2 else 0
def uAd (b : Nat) (sa : Nat → Nat) (k : Nat) : Nat := if k < 1000 then b + k else sa (k - 1000)
def mkU (D : va_G) (b : Nat) (sa : Nat → Nat) (cc : Nat → ClassId) : Un := (D, (uAd b sa, fun k => cc (ixU k)))
theorem uAd_lt {b k : Nat} {sa : Nat → Nat} (h : k < 1000) : uAd b sa k = b + k := if_pos h
theorem Gam_len : Gam.length = 87 := rfl
theorem AU_ge {D : va_G} {b q : Nat} {sa : Nat → Nat} {cc : Nat → ClassId} (h : AU (mkU D b sa cc) q) : b ≤ q := by
  obtain ⟨k, hk, rfl⟩ := h
  rw [Gam_len] at hk
  show b ≤ uAd b sa k
  rw [uAd_lt (by omega)]
  omega
theorem mkU_Ap {D : va_G} {b : Nat} {sa : Nat → Nat} {cc : Nat → ClassId} : Ap (mkU D b sa cc) := by
  intro i j hi hj e
  rw [Gam_len] at hi hj
  have e' : uAd b sa i = uAd b sa j := e
  rw [uAd_lt (by omega), uAd_lt (by omega)] at e'
  omega
def tyL : List FieldType := [.int, .byte, .boolean, .object "TakerBook$Thief", .object "TakerBook$Deeds", .array .int, .array .byte]
theorem tyU_at {cc : Nat → ClassId} : ∀ j, j < 7 → (tyU cc)[j]? = some (cc j, tyL.getD j .int) := fun j hj => by
  rcases (show j = 0 ∨ j = 1 ∨ j = 2 ∨ j = 3 ∨ j = 4 ∨ j = 5 ∨ j = 6 by omega) with rfl | rfl | rfl | rfl | rfl | rfl | rfl <;> rfl
theorem aTy_ix : ∀ k, k < 87 → (aTy k = none ∨ aTy k = some (tyL.getD (ixU k) .int)) ∧ ixU k < 7 := by decide +kernel
theorem aTy_ge {k : Nat} (h : ¬ k < 87) : aTy k = none := by
  unfold aTy
  rw [List.getElem?_eq_none (by rw [Gam_len]; omega)]
theorem KU.Uk {cc : Nat → ClassId} {D : va_G} {s : State} (h : KU cc D s) (b : Nat) (sa : Nat → Nat) : Uk (mkU D b sa cc) s := by
  refine ⟨h.1.1, fun k ty hk => ?_⟩
  by_cases c : k < 87
  · obtain ⟨e, hi⟩ := aTy_ix k c
    have e2 : ty = tyL.getD (ixU k) .int := by
      rcases e with e | e
      · rw [e] at hk
        cases hk
      · exact Option.some.inj (hk.symm.trans e)
    subst e2
    exact h.1.2 (ixU k) _ (tyU_at _ hi)
  · rw [aTy_ge c] at hk
    cases hk
theorem cls_u {s : State} {args : Array Value} (hts : ∀ w ∈ lw_tbl, w.before args s = true) : ∃ D : va_G, ∀ (c : Nat) (q : vw_C), cls[c]? = some q → u_Kn s q.1 q.2.1 q.2.2 (D.1 c) (D.2 c) := by
  have h : ∀ c : Nat, ∃ z : ClassId × (Nat → Nat), ∀ q : vw_C, cls[c]? = some q → u_Kn s q.1 q.2.1 q.2.2 z.1 z.2 := fun c => by
    rcases c with _ | _ | _ | _ | _ | _ | _ | _ | _ | _ | _ | _ | _ | c
    · obtain ⟨cC, iS, hk⟩ := u_known hts i_T (hts (.instantiable "TakerBook" 15) (List.mem_of_getElem? (i := 91) (by decide +kernel)))
      exact ⟨(cC, iS), fun q hq => by cases hq; exact hk⟩
    · obtain ⟨cC, iS, hk⟩ := u_known hts i_B (hts (.instantiable "TakerBook$Band" 19) (List.mem_of_getElem? (i := 131) (by decide +kernel)))
      exact ⟨(cC, iS), fun q hq => by cases hq; exact hk⟩
    · obtain ⟨cC, iS, hk⟩ := u_known hts i_P (hts (.instantiable "TakerBook$Plans" 12) (List.mem_of_getElem? (i := 259) (by decide +kernel)))
      exact ⟨(cC, iS), fun q hq => by cases hq; exact hk⟩
    · obtain ⟨cC, iS, hk⟩ := u_known hts i_K (hts (.instantiable "TakerBook$Marks" 6) (List.mem_of_getElem? (i := 308) (by decide +kernel)))
      exact ⟨(cC, iS), fun q hq => by cases hq; exact hk⟩
    · obtain ⟨cC, iS, hk⟩ := u_known hts i_D (hts (.instantiable "TakerBook$Deeds" 3) (List.mem_of_getElem? (i := 336) (by decide +kernel)))
      exact ⟨(cC, iS), fun q hq => by cases hq; exact hk⟩
    · obtain ⟨cC, iS, hk⟩ := u_known hts i_R (hts (.instantiable "TakerBook$Reader" 5) (List.mem_of_getElem? (i := 103) (by decide +kernel)))
      exact ⟨(cC, iS), fun q hq => by cases hq; exact hk⟩
    · obtain ⟨cC, iS, hk⟩ := u_known hts i_Th (hts (.instantiable "TakerBook$Thief" 0) (List.mem_of_getElem? (i := 138) (by decide +kernel)))
      exact ⟨(cC, iS), fun q hq => by cases hq; exact hk⟩
    · obtain ⟨cC, iS, hk⟩ := u_known hts i_Re (hts (.instantiable "TakerBook$Returned" 0) (List.mem_of_getElem? (i := 145) (by decide +kernel)))
      exact ⟨(cC, iS), fun q hq => by cases hq; exact hk⟩
    · obtain ⟨cC, iS, hk⟩ := u_known hts i_Cl (hts (.instantiable "TakerBook$Clerk" 0) (List.mem_of_getElem? (i := 152) (by decide +kernel)))
      exact ⟨(cC, iS), fun q hq => by cases hq; exact hk⟩
    · obtain ⟨cC, iS, hk⟩ := u_known hts i_Ga (hts (.instantiable "TakerBook$Gang" 0) (List.mem_of_getElem? (i := 159) (by decide +kernel)))
      exact ⟨(cC, iS), fun q hq => by cases hq; exact hk⟩
    · obtain ⟨cC, iS, hk⟩ := u_known hts i_La (hts (.instantiable "TakerBook$Lace" 0) (List.mem_of_getElem? (i := 166) (by decide +kernel)))
      exact ⟨(cC, iS), fun q hq => by cases hq; exact hk⟩
    · obtain ⟨cC, iS, hk⟩ := u_known hts i_Yo (hts (.instantiable "TakerBook$Young" 0) (List.mem_of_getElem? (i := 173) (by decide +kernel)))
      exact ⟨(cC, iS), fun q hq => by cases hq; exact hk⟩
    · obtain ⟨cC, iS, hk⟩ := u_known hts i_M (hts (.instantiable "TakerBookModel" 40) (List.mem_of_getElem? (i := 974) (by decide +kernel)))
      exact ⟨(cC, iS), fun q hq => by cases hq; exact hk⟩
    · obtain ⟨cC, iS, -⟩ := u_known hts i_T (hts (.instantiable "TakerBook" 15) (List.mem_of_getElem? (i := 91) (by decide +kernel)))
      refine ⟨(cC, iS), fun q hq => ?_⟩
      have hl := (List.getElem?_eq_some_iff.mp hq).1
      have hl2 : cls.length = 13 := rfl
      omega
  obtain ⟨f, hf⟩ := Classical.axiomOfChoice h
  exact ⟨(fun c => (f c).1, fun c => (f c).2), fun c q hq => hf c q hq⟩
theorem arr_c {s : State} {args : Array Value} {ty : FieldType} (h : (Cond.arrayClass ty).before args s = true) : ∃ c, s.vm.findClass ("[" ++ ty.toString) = some c ∧ ArrOfT s c ty := by
  obtain ⟨c, k, co, h1, h2, h3⟩ := Cond.arrayClass_spec h
  exact ⟨c, h1, fun n z => ⟨fun k h => (by cases h), k, h2, co, h3⟩⟩
theorem law_K {s : State} {args : Array Value} (hts : ∀ w ∈ lw_tbl, w.before args s = true) : ∃ (D : va_G) (cc : Nat → ClassId), KU cc D s := by
  obtain ⟨D, hD⟩ := cls_u hts
  obtain ⟨c0, i1, i2⟩ := arr_c (hts (.arrayClass .int) (List.mem_of_getElem? (i := 128) (by decide +kernel)))
  obtain ⟨c1, b1, b2⟩ := arr_c (hts (.arrayClass .byte) (List.mem_of_getElem? (i := 129) (by decide +kernel)))
  obtain ⟨c2, z1, z2⟩ := arr_c (hts (.arrayClass .boolean) (List.mem_of_getElem? (i := 306) (by decide +kernel)))
  obtain ⟨o3, c3, k3, t1, t2, t3, t4, t5⟩ := Cond.arrayOver_spec (hts (.arrayOver (.object "TakerBook$Thief")) (List.mem_of_getElem? (i := 137) (by decide +kernel)))
  obtain ⟨o4, c4, k4, d1, d2, d3, d4, d5⟩ := Cond.arrayOver_spec (hts (.arrayOver (.object "TakerBook$Deeds")) (List.mem_of_getElem? (i := 354) (by decide +kernel)))
  obtain ⟨o5, c5, k5, e1, -, e3, e4, e5⟩ := arrayOverA_spec (hts (.arrayOver (.array .int)) (List.mem_of_getElem? (i := 99) (by decide +kernel)))
  obtain ⟨o6, c6, k6, g1, -, g3, g4, g5⟩ := arrayOverA_spec (hts (.arrayOver (.array .byte)) (List.mem_of_getElem? (i := 101) (by decide +kernel)))
  have eo5 : o5 = c0 := Option.some.inj (e1.symm.trans i1)
  have eo6 : o6 = c1 := Option.some.inj (g1.symm.trans b1)
  subst eo5 eo6
  refine ⟨D, fun k => [o5, o6, c2, c3, c4, c5, c6].getD k o5, ⟨hD, fun k q hq => ?_⟩, ⟨⟨k5, e3, e4⟩, k6, g3, g4⟩, va_AO.of (hts (.arrayOver (.object "TakerBook$Thief")) (List.mem_of_getElem? (i := 137) (by decide +kernel))), va_AO.of (hts (.arrayOver (.object "TakerBook$Deeds")) (List.mem_of_getElem? (i := 354) (by decide +kernel))), fun q hq => hts _ (nest_in q hq), fun C hC => ?_⟩
  · rcases k with _ | _ | _ | _ | _ | _ | _ | k
    · cases hq
      exact ⟨i2, i1⟩
    · cases hq
      exact ⟨b2, b1⟩
    · cases hq
      exact ⟨z2, z1⟩
    · cases hq
      exact ⟨fun n z => ⟨fun k h => (by cases h), k3, t3, o3, t4⟩, k3, o3, t3, t4, t1, t5⟩
    · cases hq
      exact ⟨fun n z => ⟨fun k h => (by cases h), k4, d3, o4, d4⟩, k4, o4, d3, d4, d1, d5⟩
    · cases hq
      exact ⟨fun n z => ⟨fun k h => (by cases h), k5, e3, o5, e4⟩, e5⟩
    · cases hq
      exact ⟨fun n z => ⟨fun k h => (by cases h), k6, g3, o6, g4⟩, g5⟩
    · cases hq
  · unfold castL at hC
    rcases List.mem_cons.mp hC with rfl | hC
    · exact hts (.castable "TakerBook$Returned" "TakerBook$Thief") (List.mem_of_getElem? (i := 1491) (by decide +kernel))
    rcases List.mem_cons.mp hC with rfl | hC
    · exact hts (.castable "TakerBook$Clerk" "TakerBook$Thief") (List.mem_of_getElem? (i := 1492) (by decide +kernel))
    rcases List.mem_cons.mp hC with rfl | hC
    · exact hts (.castable "TakerBook$Gang" "TakerBook$Thief") (List.mem_of_getElem? (i := 1493) (by decide +kernel))
    rcases List.mem_cons.mp hC with rfl | hC
    · exact hts (.castable "TakerBook$Lace" "TakerBook$Thief") (List.mem_of_getElem? (i := 1494) (by decide +kernel))
    rcases List.mem_cons.mp hC with rfl | hC
    · exact hts (.castable "TakerBook$Young" "TakerBook$Thief") (List.mem_of_getElem? (i := 1495) (by decide +kernel))
    exact absurd hC List.not_mem_nil
theorem st_of {args : Array Value} {s : State} {n d : String} {ty : FieldType} {N : Nat} {f : Nat → Int32} {A : Nat → Prop} (hN : N < 2 ^ 31) (hl : (Cond.laysStatic "TakerBook$Reader" n d).before args s = true) (hini : (Cond.initialized "TakerBook$Reader").before args s = true) (harr : (Cond.arrayOf (.static "TakerBook$Reader" n d) ty).before args s = true) (hlen : (Cond.eq (.length (.static "TakerBook$Reader" n d)) (.int (Int32.ofNat N))).before args s = true) (hel : ∀ j : Nat, j < N → (Cond.eq (.elem (.static "TakerBook$Reader" n d) (.int (Int32.ofNat j))) (.int (f j))).before args s = true) (hA : ∀ a : Nat, a < s.heap.size → ¬ A a) : ∃ t : Nat, va_Z "TakerBook$Reader" n d (.ref t) A s s.heap ∧ va_T ty t N (fun j => .int (f j)) A s s.heap := by
  obtain ⟨t, h1, h2⟩ := va_Tof (f := fun j => .int (f j)) (A := A) hN harr (va_eqt hlen) (fun j hj => va_eqt (hel j hj)) hA
  exact ⟨t, va_Zref hl hini h1 hA, h2⟩
theorem law_S {s : State} {args : Array Value} {A : Nat → Prop} (hts : ∀ w ∈ lw_tbl, w.before args s = true) (hg : (Jvm.Cond.and given_1 narrow_1).before args s = true) (hA : ∀ a : Nat, a < s.heap.size → ¬ A a) : ∃ sa : Nat → Nat, ∀ (i : Nat) (q : String × String × FieldType × Nat × (Nat → Int32)), stab[i]? = some q → va_Z "TakerBook$Reader" q.1 q.2.1 (.ref (sa i)) A s s.heap ∧ va_T q.2.2.1 (sa i) q.2.2.2.1 (fun j => .int (q.2.2.2.2 j)) A s s.heap := by
  have hs := flat_of_before _ hg
  have hini := hts (.initialized "TakerBook$Reader") (List.mem_of_getElem? (i := 75) (by decide +kernel))
  obtain ⟨a0, x0, y0⟩ := st_of (n := "LETTERS") (d := "[C") (ty := .char) (N := 6) (f := fun j => [116, 114, 99, 103, 108, 121].getD j 0) (A := A) (by decide) (hts (.laysStatic "TakerBook$Reader" "LETTERS" "[C") (List.mem_of_getElem? (i := 489) (by decide +kernel))) hini (hs _ (by decide +kernel)) (hs _ (by decide +kernel)) (fun j hj => by
    rcases (show j = 0 ∨ j = 1 ∨ j = 2 ∨ j = 3 ∨ j = 4 ∨ j = 5 by omega) with rfl | rfl | rfl | rfl | rfl | rfl
    all_goals exact hs _ (by decide +kernel)) hA
  obtain ⟨a1, x1, y1⟩ := st_of (n := "LEAST_OF_BOOK") (d := "[I") (ty := .int) (N := 4) (f := fun j => [0, 0, 0, 1].getD j 0) (A := A) (by decide) (hts (.laysStatic "TakerBook$Reader" "LEAST_OF_BOOK" "[I") (List.mem_of_getElem? (i := 474) (by decide +kernel))) hini (hs _ (by decide +kernel)) (hs _ (by decide +kernel)) (fun j hj => by
    rcases (show j = 0 ∨ j = 1 ∨ j = 2 ∨ j = 3 by omega) with rfl | rfl | rfl | rfl
    all_goals exact hs _ (by decide +kernel)) hA
  obtain ⟨a2, x2, y2⟩ := st_of (n := "MOST_OF_BOOK") (d := "[I") (ty := .int) (N := 4) (f := fun j => [9, 9, 9, 6].getD j 0) (A := A) (by decide) (hts (.laysStatic "TakerBook$Reader" "MOST_OF_BOOK" "[I") (List.mem_of_getElem? (i := 476) (by decide +kernel))) hini (hs _ (by decide +kernel)) (hs _ (by decide +kernel)) (fun j hj => by
    rcases (show j = 0 ∨ j = 1 ∨ j = 2 ∨ j = 3 by omega) with rfl | rfl | rfl | rfl
    all_goals exact hs _ (by decide +kernel)) hA
  obtain ⟨a3, x3, y3⟩ := st_of (n := "LEAST_OF_THIEF") (d := "[I") (ty := .int) (N := 3) (f := fun j => [0, 0, 0].getD j 0) (A := A) (by decide) (hts (.laysStatic "TakerBook$Reader" "LEAST_OF_THIEF" "[I") (List.mem_of_getElem? (i := 491) (by decide +kernel))) hini (hs _ (by decide +kernel)) (hs _ (by decide +kernel)) (fun j hj => by
    rcases (show j = 0 ∨ j = 1 ∨ j = 2 by omega) with rfl | rfl | rfl
    all_goals exact hs _ (by decide +kernel)) hA
  obtain ⟨a4, x4, y4⟩ := st_of (n := "MOST_OF_THIEF") (d := "[I") (ty := .int) (N := 3) (f := fun j => [9, 9, 2].getD j 0) (A := A) (by decide) (hts (.laysStatic "TakerBook$Reader" "MOST_OF_THIEF" "[I") (List.mem_of_getElem? (i := 493) (by decide +kernel))) hini (hs _ (by decide +kernel)) (hs _ (by decide +kernel)) (fun j hj => by
    rcases (show j = 0 ∨ j = 1 ∨ j = 2 by omega) with rfl | rfl | rfl
    all_goals exact hs _ (by decide +kernel)) hA
  refine ⟨fun i => [a0, a1, a2, a3, a4].getD i 0, fun i q hq => ?_⟩
  rcases i with _ | _ | _ | _ | _ | i
  · cases hq
    exact ⟨x0, y0⟩
  · cases hq
    exact ⟨x1, y1⟩
  · cases hq
    exact ⟨x2, y2⟩
  · cases hq
    exact ⟨x3, y3⟩
  · cases hq
    exact ⟨x4, y4⟩
  · cases hq
theorem law_Us {D : va_G} {s : State} {args : Array Value} {cc : Nat → ClassId} {b : Nat} {sa : Nat → Nat} (hts : ∀ w ∈ lw_tbl, w.before args s = true) (h : ∀ (i : Nat) (q : String × String × FieldType × Nat × (Nat → Int32)), stab[i]? = some q → va_Z "TakerBook$Reader" q.1 q.2.1 (.ref (sa i)) (AU (mkU D b sa cc)) s s.heap ∧ va_T q.2.2.1 (sa i) q.2.2.2.1 (fun j => .int (q.2.2.2.2 j)) (AU (mkU D b sa cc)) s s.heap) : Us (mkU D b sa cc) s := by
  refine ⟨fun i q hq => ?_, fun q hq => hts _ (nest_in q hq)⟩
  have e : (mkU D b sa cc).2.1 (1000 + i) = sa i := by
    show (if 1000 + i < 1000 then b + (1000 + i) else sa (1000 + i - 1000)) = sa i
    rw [if_neg (by omega), Nat.add_sub_cancel_left]
  rw [e]
  exact h i q hq
