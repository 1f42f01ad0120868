-- one row an instruction, over the one world
theorem v_to {X : FX} {u : Un} {d nL : Nat} {Q : State → Prop} {pc : Nat} {ls ls' : List (Nat × Value)} {st : List Value} {σ : St} (h : ls = ls') (k : V X u d nL Q pc ls' st σ) : V X u d nL Q pc ls st σ := h ▸ k
theorem v_st {X : FX} {u : Un} {d nL : Nat} {Q : State → Prop} {pc : Nat} {ls : List (Nat × Value)} {st : List Value} {σ σ' : St} (h : σ = σ') (k : V X u d nL Q pc ls st σ') : V X u d nL Q pc ls st σ := h ▸ k
/-- fewer locals, in another order -/
theorem v_sub {X : FX} {u : Un} {d nL : Nat} {Q : State → Prop} {pc : Nat} {ls : List (Nat × Value)} {st : List Value} {σ : St} (ks : List Nat) {ls' : List (Nat × Value)} (h : lv_pick ls ks = ls') (k : V X u d nL Q pc ls' st σ) : V X u d nL Q pc ls st σ :=
  fun H locs la hP hS hl => k H locs la hP hS (lv_sub hl ks h)
/-- a number on the stack gets a name -/
theorem v_ni {X : FX} {u : Un} {d nL : Nat} {Q : State → Prop} {pc : Nat} {ls : List (Nat × Value)} {st : List Value} {σ : St} {x : Int32} (k : ∀ y : Int32, y = x → V X u d nL Q pc ls (.int y :: st) σ) : V X u d nL Q pc ls (.int x :: st) σ := k x rfl
theorem v_nl {X : FX} {u : Un} {d nL : Nat} {Q : State → Prop} {pc : Nat} {ls : List (Nat × Value)} {st : List Value} {σ : St} {x : Int64} (k : ∀ y : Int64, y = x → V X u d nL Q pc ls (.long y :: st) σ) : V X u d nL Q pc ls (.long x :: st) σ := k x rfl
section
variable {X : FX} {u : Un} {own : String} {cc : ByteArray} {d nL : Nat} {Q : State → Prop} {pc : Nat} {ls : List (Nat × Value)} {st : List Value} {σ : St}
variable (F : Fr X u own cc nL)

theorem v_iconst (F : Fr X u own cc nL) {n : Int} {v : Int32} (hd : decode cc pc = .ok (.iconst n, 1)) (hv : Int32.ofInt n = v) (k : V X u d nL Q (pc + 1) ls (.int v :: st) σ) : V X u d nL Q pc ls (st) σ :=
  fun H locs la hP hS hl => lv_iconst F.1 F.2.1 hd hv (k H locs la hP hS hl)
theorem v_bipush (F : Fr X u own cc nL) {n : Int} {v : Int32} (hd : decode cc pc = .ok (.bipush n, 2)) (hv : (Int8.ofInt n).toInt32 = v) (k : V X u d nL Q (pc + 2) ls (.int v :: st) σ) : V X u d nL Q pc ls (st) σ :=
  fun H locs la hP hS hl => lv_bipush F.1 F.2.1 hd hv (k H locs la hP hS hl)
theorem v_sipush (F : Fr X u own cc nL) {n : Int} {v : Int32} (hd : decode cc pc = .ok (.sipush n, 3)) (hv : (Int16.ofInt n).toInt32 = v) (k : V X u d nL Q (pc + 3) ls (.int v :: st) σ) : V X u d nL Q pc ls (st) σ :=
  fun H locs la hP hS hl => lv_sipush F.1 F.2.1 hd hv (k H locs la hP hS hl)
theorem v_lconst (F : Fr X u own cc nL) {n : Fin 2} {v : Int64} (hd : decode cc pc = .ok (.lconst n, 1)) (hv : Int64.ofNat (n : Nat) = v) (k : V X u d nL Q (pc + 1) ls (.long v :: st) σ) : V X u d nL Q pc ls (st) σ :=
  fun H locs la hP hS hl => lv_lconst F.1 F.2.1 hd hv (k H locs la hP hS hl)
theorem v_iload_n (F : Fr X u own cc nL) {n : Fin 4} {i : Nat} {x : Int32} (hd : decode cc pc = .ok (.iload_n n, 1)) (hi : (n : Nat) = i) (j : Nat) (hj : ls[j]? = some (i, .int x)) (k : V X u d nL Q (pc + 1) ls (.int x :: st) σ) : V X u d nL Q pc ls (st) σ :=
  fun H locs la hP hS hl => lv_iload_n F.1 F.2.1 hd hi (lv_at hl j hj) (k H locs la hP hS hl)
theorem v_iload (F : Fr X u own cc nL) {i : Nat} {x : Int32} (hd : decode cc pc = .ok (.iload i, 2)) (j : Nat) (hj : ls[j]? = some (i, .int x)) (k : V X u d nL Q (pc + 2) ls (.int x :: st) σ) : V X u d nL Q pc ls (st) σ :=
  fun H locs la hP hS hl => lv_iload F.1 F.2.1 hd (lv_at hl j hj) (k H locs la hP hS hl)
theorem v_lload_n (F : Fr X u own cc nL) {n : Fin 4} {i : Nat} {x : Int64} (hd : decode cc pc = .ok (.lload_n n, 1)) (hi : (n : Nat) = i) (j : Nat) (hj : ls[j]? = some (i, .long x)) (k : V X u d nL Q (pc + 1) ls (.long x :: st) σ) : V X u d nL Q pc ls (st) σ :=
  fun H locs la hP hS hl => lv_lload_n F.1 F.2.1 hd hi (lv_at hl j hj) (k H locs la hP hS hl)
theorem v_lload (F : Fr X u own cc nL) {i : Nat} {x : Int64} (hd : decode cc pc = .ok (.lload i, 2)) (j : Nat) (hj : ls[j]? = some (i, .long x)) (k : V X u d nL Q (pc + 2) ls (.long x :: st) σ) : V X u d nL Q pc ls (st) σ :=
  fun H locs la hP hS hl => lv_lload F.1 F.2.1 hd (lv_at hl j hj) (k H locs la hP hS hl)
theorem v_aload_n (F : Fr X u own cc nL) {n : Fin 4} {i x : Nat} (hd : decode cc pc = .ok (.aload_n n, 1)) (hi : (n : Nat) = i) (j : Nat) (hj : ls[j]? = some (i, .ref x)) (k : V X u d nL Q (pc + 1) ls (.ref x :: st) σ) : V X u d nL Q pc ls (st) σ :=
  fun H locs la hP hS hl => lv_aload_n F.1 F.2.1 hd hi (lv_at hl j hj) (k H locs la hP hS hl)
theorem v_aload (F : Fr X u own cc nL) {i x : Nat} (hd : decode cc pc = .ok (.aload i, 2)) (j : Nat) (hj : ls[j]? = some (i, .ref x)) (k : V X u d nL Q (pc + 2) ls (.ref x :: st) σ) : V X u d nL Q pc ls (st) σ :=
  fun H locs la hP hS hl => lv_aload F.1 F.2.1 hd (lv_at hl j hj) (k H locs la hP hS hl)
theorem v_istore_n (F : Fr X u own cc nL) {i : Nat} {n : Fin 4} {x : Int32} {ls' : List (Nat × Value)} (hd : decode cc pc = .ok (.istore_n n, 1)) (hi : (n : Nat) = i) (hn : i < nL) (hL : (i, Value.int x) :: ls.filter (fun q => !(q.1 == i) && !(q.1 + 1 == i && q.2.category == 2)) = ls') (k : V X u d nL Q (pc + 1) ls' st σ) : V X u d nL Q pc ls (.int x :: st) σ :=
  fun H locs la hP hS hl => lv_istore_n F.1 F.2.1 hd hi hl hn hL (fun la hl => k H locs la hP hS hl)
theorem v_istore (F : Fr X u own cc nL) {i : Nat} {x : Int32} {ls' : List (Nat × Value)} (hd : decode cc pc = .ok (.istore i, 2)) (hn : i < nL) (hL : (i, Value.int x) :: ls.filter (fun q => !(q.1 == i) && !(q.1 + 1 == i && q.2.category == 2)) = ls') (k : V X u d nL Q (pc + 2) ls' st σ) : V X u d nL Q pc ls (.int x :: st) σ :=
  fun H locs la hP hS hl => lv_istore F.1 F.2.1 hd hl hn hL (fun la hl => k H locs la hP hS hl)
theorem v_lstore_n (F : Fr X u own cc nL) {i : Nat} {n : Fin 4} {x : Int64} {ls' : List (Nat × Value)} (hd : decode cc pc = .ok (.lstore_n n, 1)) (hi : (n : Nat) = i) (hn : i + 1 < nL) (hL : (i, Value.long x) :: ls.filter (fun q => !(q.1 == i) && (!(q.1 == i + 1) && !(q.1 + 1 == i && q.2.category == 2))) = ls') (k : V X u d nL Q (pc + 1) ls' st σ) : V X u d nL Q pc ls (.long x :: st) σ :=
  fun H locs la hP hS hl => lv_lstore_n F.1 F.2.1 hd hi hl hn hL (fun la hl => k H locs la hP hS hl)
theorem v_lstore (F : Fr X u own cc nL) {i : Nat} {x : Int64} {ls' : List (Nat × Value)} (hd : decode cc pc = .ok (.lstore i, 2)) (hn : i + 1 < nL) (hL : (i, Value.long x) :: ls.filter (fun q => !(q.1 == i) && (!(q.1 == i + 1) && !(q.1 + 1 == i && q.2.category == 2))) = ls') (k : V X u d nL Q (pc + 2) ls' st σ) : V X u d nL Q pc ls (.long x :: st) σ :=
  fun H locs la hP hS hl => lv_lstore F.1 F.2.1 hd hl hn hL (fun la hl => k H locs la hP hS hl)
theorem v_astore_n (F : Fr X u own cc nL) {i : Nat} {n : Fin 4} {x : Nat} {ls' : List (Nat × Value)} (hd : decode cc pc = .ok (.astore_n n, 1)) (hi : (n : Nat) = i) (hn : i < nL) (hL : (i, Value.ref x) :: ls.filter (fun q => !(q.1 == i) && !(q.1 + 1 == i && q.2.category == 2)) = ls') (k : V X u d nL Q (pc + 1) ls' st σ) : V X u d nL Q pc ls (.ref x :: st) σ :=
  fun H locs la hP hS hl => lv_astore_n F.1 F.2.1 hd hi hl hn hL (fun la hl => k H locs la hP hS hl)
theorem v_iinc (F : Fr X u own cc nL) {i j : Nat} {n : Int} {x v : Int32} {ls' : List (Nat × Value)} (hd : decode cc pc = .ok (.iinc i n, 3)) (hj : ls[j]? = some (i, .int x)) (hv : x + Int32.ofInt n = v) (hn : i < nL) (hL : (i, Value.int v) :: ls.filter (fun q => !(q.1 == i) && !(q.1 + 1 == i && q.2.category == 2)) = ls') (k : V X u d nL Q (pc + 3) ls' st σ) : V X u d nL Q pc ls st σ :=
  fun H locs la hP hS hl => lv_iinc F.1 F.2.1 hd hl hj hv hn hL (fun la hl => k H locs la hP hS hl)
theorem v_iadd (F : Fr X u own cc nL) {x y : Int32} (hd : decode cc pc = .ok (.iadd, 1)) (k : V X u d nL Q (pc + 1) ls (.int (x + y) :: st) σ) : V X u d nL Q pc ls (.int y :: .int x :: st) σ :=
  fun H locs la hP hS hl => lv_iadd F.1 F.2.1 hd (k H locs la hP hS hl)
theorem v_isub (F : Fr X u own cc nL) {x y : Int32} (hd : decode cc pc = .ok (.isub, 1)) (k : V X u d nL Q (pc + 1) ls (.int (x - y) :: st) σ) : V X u d nL Q pc ls (.int y :: .int x :: st) σ :=
  fun H locs la hP hS hl => lv_isub F.1 F.2.1 hd (k H locs la hP hS hl)
theorem v_imul (F : Fr X u own cc nL) {x y : Int32} (hd : decode cc pc = .ok (.imul, 1)) (k : V X u d nL Q (pc + 1) ls (.int (x * y) :: st) σ) : V X u d nL Q pc ls (.int y :: .int x :: st) σ :=
  fun H locs la hP hS hl => lv_imul F.1 F.2.1 hd (k H locs la hP hS hl)
theorem v_iand (F : Fr X u own cc nL) {x y : Int32} (hd : decode cc pc = .ok (.iand, 1)) (k : V X u d nL Q (pc + 1) ls (.int (x &&& y) :: st) σ) : V X u d nL Q pc ls (.int y :: .int x :: st) σ :=
  fun H locs la hP hS hl => lv_iand F.1 F.2.1 hd (k H locs la hP hS hl)
theorem v_ior (F : Fr X u own cc nL) {x y : Int32} (hd : decode cc pc = .ok (.ior, 1)) (k : V X u d nL Q (pc + 1) ls (.int (x ||| y) :: st) σ) : V X u d nL Q pc ls (.int y :: .int x :: st) σ :=
  fun H locs la hP hS hl => lv_ior F.1 F.2.1 hd (k H locs la hP hS hl)
theorem v_ixor (F : Fr X u own cc nL) {x y : Int32} (hd : decode cc pc = .ok (.ixor, 1)) (k : V X u d nL Q (pc + 1) ls (.int (x ^^^ y) :: st) σ) : V X u d nL Q pc ls (.int y :: .int x :: st) σ :=
  fun H locs la hP hS hl => lv_ixor F.1 F.2.1 hd (k H locs la hP hS hl)
theorem v_ishl (F : Fr X u own cc nL) {x y : Int32} (hd : decode cc pc = .ok (.ishl, 1)) (k : V X u d nL Q (pc + 1) ls (.int (x <<< (y &&& 31)) :: st) σ) : V X u d nL Q pc ls (.int y :: .int x :: st) σ :=
  fun H locs la hP hS hl => lv_ishl F.1 F.2.1 hd (k H locs la hP hS hl)
theorem v_ishr (F : Fr X u own cc nL) {x y : Int32} (hd : decode cc pc = .ok (.ishr, 1)) (k : V X u d nL Q (pc + 1) ls (.int (x >>> (y &&& 31)) :: st) σ) : V X u d nL Q pc ls (.int y :: .int x :: st) σ :=
  fun H locs la hP hS hl => lv_ishr F.1 F.2.1 hd (k H locs la hP hS hl)
theorem v_idiv (F : Fr X u own cc nL) {x y : Int32} (hd : decode cc pc = .ok (.idiv, 1)) (h0 : ¬ y = 0) (k : V X u d nL Q (pc + 1) ls (.int (x / y) :: st) σ) : V X u d nL Q pc ls (.int y :: .int x :: st) σ :=
  fun H locs la hP hS hl => lv_idiv F.1 F.2.1 hd h0 (k H locs la hP hS hl)
theorem v_irem (F : Fr X u own cc nL) {x y : Int32} (hd : decode cc pc = .ok (.irem, 1)) (h0 : ¬ y = 0) (k : V X u d nL Q (pc + 1) ls (.int (x - x / y * y) :: st) σ) : V X u d nL Q pc ls (.int y :: .int x :: st) σ :=
  fun H locs la hP hS hl => lv_irem F.1 F.2.1 hd h0 (k H locs la hP hS hl)
theorem v_ineg (F : Fr X u own cc nL) {x : Int32} (hd : decode cc pc = .ok (.ineg, 1)) (k : V X u d nL Q (pc + 1) ls (.int (-x) :: st) σ) : V X u d nL Q pc ls (.int x :: st) σ :=
  fun H locs la hP hS hl => lv_ineg F.1 F.2.1 hd (k H locs la hP hS hl)
theorem v_iushr (F : Fr X u own cc nL) {x y : Int32} (hd : decode cc pc = .ok (.iushr, 1)) (k : V X u d nL Q (pc + 1) ls (.int ((x.toUInt32 >>> (y.toUInt32 &&& Int32.toUInt32 31)).toInt32) :: st) σ) : V X u d nL Q pc ls (.int y :: .int x :: st) σ :=
  fun H locs la hP hS hl => lv_iushr F.1 F.2.1 hd rfl (k H locs la hP hS hl)
theorem v_ladd (F : Fr X u own cc nL) {x y : Int64} (hd : decode cc pc = .ok (.ladd, 1)) (k : V X u d nL Q (pc + 1) ls (.long (x + y) :: st) σ) : V X u d nL Q pc ls (.long y :: .long x :: st) σ :=
  fun H locs la hP hS hl => lv_ladd F.1 F.2.1 hd (k H locs la hP hS hl)
theorem v_lsub (F : Fr X u own cc nL) {x y : Int64} (hd : decode cc pc = .ok (.lsub, 1)) (k : V X u d nL Q (pc + 1) ls (.long (x - y) :: st) σ) : V X u d nL Q pc ls (.long y :: .long x :: st) σ :=
  fun H locs la hP hS hl => lv_lsub F.1 F.2.1 hd (k H locs la hP hS hl)
theorem v_lmul (F : Fr X u own cc nL) {x y : Int64} (hd : decode cc pc = .ok (.lmul, 1)) (k : V X u d nL Q (pc + 1) ls (.long (x * y) :: st) σ) : V X u d nL Q pc ls (.long y :: .long x :: st) σ :=
  fun H locs la hP hS hl => lv_lmul F.1 F.2.1 hd (k H locs la hP hS hl)
theorem v_ldiv (F : Fr X u own cc nL) {x y : Int64} (hd : decode cc pc = .ok (.ldiv, 1)) (h0 : ¬ y = 0) (k : V X u d nL Q (pc + 1) ls (.long (x / y) :: st) σ) : V X u d nL Q pc ls (.long y :: .long x :: st) σ :=
  fun H locs la hP hS hl => lv_ldiv F.1 F.2.1 hd h0 (k H locs la hP hS hl)
theorem v_lrem (F : Fr X u own cc nL) {x y : Int64} (hd : decode cc pc = .ok (.lrem, 1)) (h0 : ¬ y = 0) (k : V X u d nL Q (pc + 1) ls (.long (x - x / y * y) :: st) σ) : V X u d nL Q pc ls (.long y :: .long x :: st) σ :=
  fun H locs la hP hS hl => lv_lrem F.1 F.2.1 hd h0 (k H locs la hP hS hl)
theorem v_lcmp (F : Fr X u own cc nL) {x y : Int64} (hd : decode cc pc = .ok (.lcmp, 1)) (k : V X u d nL Q (pc + 1) ls (.int (lg_cmp x y) :: st) σ) : V X u d nL Q pc ls (.long y :: .long x :: st) σ :=
  fun H locs la hP hS hl => W.lcmp F.1 F.2.1 hd (k H locs la hP hS hl)
theorem v_i2l (F : Fr X u own cc nL) {x : Int32} (hd : decode cc pc = .ok (.i2l, 1)) (k : V X u d nL Q (pc + 1) ls (.long x.toInt64 :: st) σ) : V X u d nL Q pc ls (.int x :: st) σ :=
  fun H locs la hP hS hl => lv_i2l F.1 F.2.1 hd rfl (k H locs la hP hS hl)
theorem v_l2i (F : Fr X u own cc nL) {x : Int64} (hd : decode cc pc = .ok (.l2i, 1)) (k : V X u d nL Q (pc + 1) ls (.int x.toInt32 :: st) σ) : V X u d nL Q pc ls (.long x :: st) σ :=
  fun H locs la hP hS hl => lv_l2i F.1 F.2.1 hd rfl (k H locs la hP hS hl)
theorem v_i2b (F : Fr X u own cc nL) {x : Int32} (hd : decode cc pc = .ok (.i2b, 1)) (k : V X u d nL Q (pc + 1) ls (.int x.toInt8.toInt32 :: st) σ) : V X u d nL Q pc ls (.int x :: st) σ :=
  fun H locs la hP hS hl => lv_i2b F.1 F.2.1 hd rfl (k H locs la hP hS hl)
theorem v_dup (F : Fr X u own cc nL) {v : Value} (hd : decode cc pc = .ok (.dup, 1)) (h1 : v.category = 1) (k : V X u d nL Q (pc + 1) ls (v :: v :: st) σ) : V X u d nL Q pc ls (v :: st) σ :=
  fun H locs la hP hS hl => lv_dup F.1 F.2.1 hd h1 (k H locs la hP hS hl)
theorem v_dup2_11 (F : Fr X u own cc nL) {v w : Value} (hd : decode cc pc = .ok (.dup2, 1)) (h1 : v.category = 1) (h2 : w.category = 1) (k : V X u d nL Q (pc + 1) ls (v :: w :: v :: w :: st) σ) : V X u d nL Q pc ls (v :: w :: st) σ :=
  fun H locs la hP hS hl => lv_dup2_11 F.1 F.2.1 hd h1 h2 (k H locs la hP hS hl)
theorem v_pop (F : Fr X u own cc nL) {v : Value} (hd : decode cc pc = .ok (.pop, 1)) (h1 : v.category = 1) (k : V X u d nL Q (pc + 1) ls (st) σ) : V X u d nL Q pc ls (v :: st) σ :=
  fun H locs la hP hS hl => lv_pop F.1 F.2.1 hd h1 (k H locs la hP hS hl)
theorem v_if_eq (F : Fr X u own cc nL) {x : Int32} {off : Int} (tgt : Nat) (hd : decode cc pc = .ok (.ifCond .eq off, 3)) (ht : (pc : Int) + off = (tgt : Int)) (kt : x = 0 → V X u d nL Q tgt ls st σ) (kf : ¬ x = 0 → V X u d nL Q (pc + 3) ls st σ) : V X u d nL Q pc ls (.int x :: st) σ :=
  fun H locs la hP hS hl => lv_if_eq F.1 F.2.1 hd ht (fun h => kt h H locs la hP hS hl) (fun h => kf h H locs la hP hS hl)
theorem v_if_ne (F : Fr X u own cc nL) {x : Int32} {off : Int} (tgt : Nat) (hd : decode cc pc = .ok (.ifCond .ne off, 3)) (ht : (pc : Int) + off = (tgt : Int)) (kt : ¬ x = 0 → V X u d nL Q tgt ls st σ) (kf : x = 0 → V X u d nL Q (pc + 3) ls st σ) : V X u d nL Q pc ls (.int x :: st) σ :=
  fun H locs la hP hS hl => lv_if_ne F.1 F.2.1 hd ht (fun h => kt h H locs la hP hS hl) (fun h => kf h H locs la hP hS hl)
theorem v_if_lt (F : Fr X u own cc nL) {x : Int32} {off : Int} (tgt : Nat) (hd : decode cc pc = .ok (.ifCond .lt off, 3)) (ht : (pc : Int) + off = (tgt : Int)) (kt : x < 0 → V X u d nL Q tgt ls st σ) (kf : ¬ x < 0 → V X u d nL Q (pc + 3) ls st σ) : V X u d nL Q pc ls (.int x :: st) σ :=
  fun H locs la hP hS hl => lv_if_lt F.1 F.2.1 hd ht (fun h => kt h H locs la hP hS hl) (fun h => kf h H locs la hP hS hl)
theorem v_if_ge (F : Fr X u own cc nL) {x : Int32} {off : Int} (tgt : Nat) (hd : decode cc pc = .ok (.ifCond .ge off, 3)) (ht : (pc : Int) + off = (tgt : Int)) (kt : 0 ≤ x → V X u d nL Q tgt ls st σ) (kf : ¬ 0 ≤ x → V X u d nL Q (pc + 3) ls st σ) : V X u d nL Q pc ls (.int x :: st) σ :=
  fun H locs la hP hS hl => lv_if_ge F.1 F.2.1 hd ht (fun h => kt h H locs la hP hS hl) (fun h => kf h H locs la hP hS hl)
theorem v_if_gt (F : Fr X u own cc nL) {x : Int32} {off : Int} (tgt : Nat) (hd : decode cc pc = .ok (.ifCond .gt off, 3)) (ht : (pc : Int) + off = (tgt : Int)) (kt : 0 < x → V X u d nL Q tgt ls st σ) (kf : ¬ 0 < x → V X u d nL Q (pc + 3) ls st σ) : V X u d nL Q pc ls (.int x :: st) σ :=
  fun H locs la hP hS hl => lv_if_gt F.1 F.2.1 hd ht (fun h => kt h H locs la hP hS hl) (fun h => kf h H locs la hP hS hl)
theorem v_if_le (F : Fr X u own cc nL) {x : Int32} {off : Int} (tgt : Nat) (hd : decode cc pc = .ok (.ifCond .le off, 3)) (ht : (pc : Int) + off = (tgt : Int)) (kt : x ≤ 0 → V X u d nL Q tgt ls st σ) (kf : ¬ x ≤ 0 → V X u d nL Q (pc + 3) ls st σ) : V X u d nL Q pc ls (.int x :: st) σ :=
  fun H locs la hP hS hl => lv_if_le F.1 F.2.1 hd ht (fun h => kt h H locs la hP hS hl) (fun h => kf h H locs la hP hS hl)
theorem v_icmp_eq (F : Fr X u own cc nL) {x y : Int32} {off : Int} (tgt : Nat) (hd : decode cc pc = .ok (.if_icmp .eq off, 3)) (ht : (pc : Int) + off = (tgt : Int)) (kt : x = y → V X u d nL Q tgt ls st σ) (kf : ¬ x = y → V X u d nL Q (pc + 3) ls st σ) : V X u d nL Q pc ls (.int y :: .int x :: st) σ :=
  fun H locs la hP hS hl => lv_icmp_eq F.1 F.2.1 hd ht (fun h => kt h H locs la hP hS hl) (fun h => kf h H locs la hP hS hl)
theorem v_icmp_ne (F : Fr X u own cc nL) {x y : Int32} {off : Int} (tgt : Nat) (hd : decode cc pc = .ok (.if_icmp .ne off, 3)) (ht : (pc : Int) + off = (tgt : Int)) (kt : ¬ x = y → V X u d nL Q tgt ls st σ) (kf : x = y → V X u d nL Q (pc + 3) ls st σ) : V X u d nL Q pc ls (.int y :: .int x :: st) σ :=
  fun H locs la hP hS hl => lv_icmp_ne F.1 F.2.1 hd ht (fun h => kt h H locs la hP hS hl) (fun h => kf h H locs la hP hS hl)
theorem v_icmp_lt (F : Fr X u own cc nL) {x y : Int32} {off : Int} (tgt : Nat) (hd : decode cc pc = .ok (.if_icmp .lt off, 3)) (ht : (pc : Int) + off = (tgt : Int)) (kt : x < y → V X u d nL Q tgt ls st σ) (kf : ¬ x < y → V X u d nL Q (pc + 3) ls st σ) : V X u d nL Q pc ls (.int y :: .int x :: st) σ :=
  fun H locs la hP hS hl => lv_icmp_lt F.1 F.2.1 hd ht (fun h => kt h H locs la hP hS hl) (fun h => kf h H locs la hP hS hl)
theorem v_icmp_ge (F : Fr X u own cc nL) {x y : Int32} {off : Int} (tgt : Nat) (hd : decode cc pc = .ok (.if_icmp .ge off, 3)) (ht : (pc : Int) + off = (tgt : Int)) (kt : y ≤ x → V X u d nL Q tgt ls st σ) (kf : ¬ y ≤ x → V X u d nL Q (pc + 3) ls st σ) : V X u d nL Q pc ls (.int y :: .int x :: st) σ :=
  fun H locs la hP hS hl => lv_icmp_ge F.1 F.2.1 hd ht (fun h => kt h H locs la hP hS hl) (fun h => kf h H locs la hP hS hl)
theorem v_icmp_gt (F : Fr X u own cc nL) {x y : Int32} {off : Int} (tgt : Nat) (hd : decode cc pc = .ok (.if_icmp .gt off, 3)) (ht : (pc : Int) + off = (tgt : Int)) (kt : y < x → V X u d nL Q tgt ls st σ) (kf : ¬ y < x → V X u d nL Q (pc + 3) ls st σ) : V X u d nL Q pc ls (.int y :: .int x :: st) σ :=
  fun H locs la hP hS hl => lv_icmp_gt F.1 F.2.1 hd ht (fun h => kt h H locs la hP hS hl) (fun h => kf h H locs la hP hS hl)
theorem v_icmp_le (F : Fr X u own cc nL) {x y : Int32} {off : Int} (tgt : Nat) (hd : decode cc pc = .ok (.if_icmp .le off, 3)) (ht : (pc : Int) + off = (tgt : Int)) (kt : x ≤ y → V X u d nL Q tgt ls st σ) (kf : ¬ x ≤ y → V X u d nL Q (pc + 3) ls st σ) : V X u d nL Q pc ls (.int y :: .int x :: st) σ :=
  fun H locs la hP hS hl => lv_icmp_le F.1 F.2.1 hd ht (fun h => kt h H locs la hP hS hl) (fun h => kf h H locs la hP hS hl)
theorem v_goto (F : Fr X u own cc nL) {off : Int} (tgt : Nat) (hd : decode cc pc = .ok (.goto off, 3)) (ht : (pc : Int) + off = (tgt : Int)) (k : V X u d nL Q tgt ls st σ) : V X u d nL Q pc ls st σ :=
  fun H locs la hP hS hl => lv_goto F.1 F.2.1 hd ht (k H locs la hP hS hl)
theorem v_ldc (F : Fr X u own cc nL) {idx : Nat} {v : Int32} (hc : Cond.constant own idx v ∈ lw_tbl) (hd : decode cc pc = .ok (.ldc idx, 2)) (k : V X u d nL Q (pc + 2) ls (.int v :: st) σ) : V X u d nL Q pc ls st σ :=
  fun H locs la hP hS hl => lv_ldc F.1 F.2.1 F.2.2.2.1 (F.2.2.2.2.1 _ (inG hc rfl)) hd (k H locs la hP hS hl)
theorem v_ldcw (F : Fr X u own cc nL) {idx : Nat} {v : Int32} (hc : Cond.constant own idx v ∈ lw_tbl) (hd : decode cc pc = .ok (.ldc_w idx, 3)) (k : V X u d nL Q (pc + 3) ls (.int v :: st) σ) : V X u d nL Q pc ls st σ :=
  fun H locs la hP hS hl => lv_ldcw F.1 F.2.1 F.2.2.2.1 (F.2.2.2.2.1 _ (inG hc rfl)) hd (k H locs la hP hS hl)
theorem v_ldc2 (F : Fr X u own cc nL) {idx : Nat} {v : Int64} (hc : Cond.constantLong own idx v ∈ lw_tbl) (hd : decode cc pc = .ok (.ldc2_w idx, 3)) (k : V X u d nL Q (pc + 3) ls (.long v :: st) σ) : V X u d nL Q pc ls st σ :=
  fun H locs la hP hS hl => lv_ldc2 F.1 F.2.1 F.2.2.2.1 (F.2.2.2.2.1 _ (inG hc rfl)) hd (k H locs la hP hS hl)
theorem v_tableIn (F : Fr X u own cc nL) {dflt lo hi : Int} {offs : Array Int} {len : Nat} {x : Int32} {off : Int} (tgt : Nat) (hd : decode cc pc = .ok (.tableswitch dflt lo hi offs, len)) (h1 : ¬ x.toInt < lo) (h2 : ¬ hi < x.toInt) (ho : offs[(x.toInt - lo).toNat]? = some off) (ht : (pc : Int) + off = (tgt : Int)) (k : V X u d nL Q tgt ls st σ) : V X u d nL Q pc ls (.int x :: st) σ :=
  fun H locs la hP hS hl => lv_tableIn F.1 F.2.1 hd h1 h2 ho ht (k H locs la hP hS hl)
theorem v_tableOut (F : Fr X u own cc nL) {dflt lo hi : Int} {offs : Array Int} {len : Nat} {x : Int32} (tgt : Nat) (hd : decode cc pc = .ok (.tableswitch dflt lo hi offs, len)) (h : x.toInt < lo ∨ hi < x.toInt) (ht : (pc : Int) + dflt = (tgt : Int)) (k : V X u d nL Q tgt ls st σ) : V X u d nL Q pc ls (.int x :: st) σ :=
  fun H locs la hP hS hl => lv_tableOut F.1 F.2.1 hd h ht (k H locs la hP hS hl)
theorem v_lookup (F : Fr X u own cc nL) {dflt : Int} {ps : Array (Int × Int)} {len : Nat} {x : Int32} {off : Int} (tgt : Nat) (hd : decode cc pc = .ok (.lookupswitch dflt ps, len)) (hp : (ps.toList.zip (ps.toList.drop 1)).all (fun (a, next) => a.1 < next.1) = true) (ho : Op.lookupswitch.offset ps.toList dflt x.toInt = off) (ht : (pc : Int) + off = (tgt : Int)) (k : V X u d nL Q tgt ls st σ) : V X u d nL Q pc ls (.int x :: st) σ :=
  fun H locs la hP hS hl => lv_lookup F.1 F.2.1 hd hp ho ht (k H locs la hP hS hl)
/-- an own field's entry: class ci, place j -/
def fok (own : String) (idx ci j : Nat) : Prop := ∃ q : vw_C, cls[ci]? = some q ∧ j < q.2.2 ∧ Cond.fieldLink own idx q.1 (q.2.1 j).2.1 (q.2.1 j).2.2.1 ∈ lw_tbl ∧ (q.2.1 j).1 = q.1
def pok (ci j : Nat) (ty : FieldType) : Prop := ∃ q : vw_C, cls[ci]? = some q ∧ (q.2.1 j).2.2.2 = false ∧ parseFieldDescriptor (q.2.1 j).2.2.1 = some ty
theorem cls_in : ∀ (ci : Nat) (q : vw_C), cls[ci]? = some q → ∀ w ∈ u_ws q.1 q.2.1 q.2.2, w ∈ tbG := by
  intro ci q h w hw
  have hw2 := hw
  obtain ⟨k, -, hk⟩ := List.mem_map.mp hw2
  refine inG ?_ (by rw [← hk]; unfold u_lay; split <;> rfl)
  have hlt : ci < 13 := (List.getElem?_eq_some_iff.mp h).1
  rcases ci with _ | _ | _ | _ | _ | _ | _ | _ | _ | _ | _ | _ | _ | ci
  all_goals first | (exfalso; omega) | (cases h; first | exact i_T w hw | exact i_B w hw | exact i_P w hw | exact i_K w hw | exact i_D w hw | exact i_R w hw | exact i_Th w hw | exact i_Re w hw | exact i_Cl w hw | exact i_Ga w hw | exact i_La w hw | exact i_Yo w hw | exact i_M w hw)
def tyD (q : vw_C) (k : Nat) : FieldType := (parseFieldDescriptor (q.2.1 k).2.2.1).getD .int
theorem cls_ty : ∀ (ci : Nat) (q : vw_C), cls[ci]? = some q → (∀ k, k < q.2.2 → parseFieldDescriptor (q.2.1 k).2.2.1 = some (tyD q k)) ∧ ∀ a, a < q.2.2 → ∀ b, b < q.2.2 → a ≠ b → (q.2.1 a).2.1 ≠ (q.2.1 b).2.1 := by
  intro ci q h
  have hlt : ci < 13 := (List.getElem?_eq_some_iff.mp h).1
  rcases ci with _ | _ | _ | _ | _ | _ | _ | _ | _ | _ | _ | _ | _ | ci
  all_goals first | (exfalso; omega) | (cases h; exact ⟨by decide +kernel, by decide +kernel⟩)
theorem v_get (F : Fr X u own cc nL) {k ci j idx : Nat} {fs : List (Nat ⊕ Bool)} {f : Nat ⊕ Bool} (hl : fok own idx ci j) (hG : Gam[k]? = some (.inr (.inr (ci, fs)))) (hf : fs[j]? = some f) (hd : decode cc pc = .ok (.getfield idx, 3)) (kk : V X u d nL Q (pc + 3) ls (g_f u.2.1 σ k j f :: st) σ) : V X u d nL Q pc ls (.ref (u.2.1 k) :: st) σ := by
  obtain ⟨q, hq, hj, hlk, hsm⟩ := hl
  intro H locs la hP hS hla
  refine va_get (D := u.1) (cl := cls) (ws := wU u σ) (C := q.1) (T := q.2.1) (N := q.2.2) (ref := q.1) F.1 F.2.1 F.2.2.2.2.1 (cls_in ci q hq) F.2.2.2.1 F.2.2.2.2.2.1.K0 hP k (wU_get u σ hG) hq j hj (F.2.2.2.2.1 _ (inG hlk rfl)) (fun x h => by rw [hsm] at h; exact h) ?_ hd (kk H locs la hP hS hla)
  show (g_fs u.2.1 σ k 0 fs)[j]? = _
  rw [g_fs_get, hf, Nat.zero_add]
  first | done | rfl
/-- a number of a state changes -/
def uI (σ : St) (k j : Nat) (v : Int32) : St := (fun a => if a = k then upd (σ.1 k) j v else σ.1 a, σ.2)
def uL (σ : St) (k j : Nat) (v : Int64) : St := (σ.1, fun a => if a = k then vp_updL (σ.2 k) j v else σ.2 a)
def uA (σ : St) (k : Nat) (g : Nat → Int32) : St := (fun a => if a = k then g else σ.1 a, σ.2)
theorem g_fs_set (A : Nat → Nat) {σ σ' : St} (k : Nat) (v : Value) (f : Nat ⊕ Bool) : ∀ (fs : List (Nat ⊕ Bool)) (j i : Nat), fs[i]? = some f → g_f A σ' k (j + i) f = v → (∀ a g, a ≠ j + i → g_f A σ' k a g = g_f A σ k a g) → g_fs A σ' k j fs = (g_fs A σ k j fs).set i v := by
  intro fs j i hi hv ho
  apply List.ext_getElem?
  intro b
  by_cases hb : b = i
  · subst hb
    have hl : b < (g_fs A σ k j fs).length := by rw [g_fs_len]; exact (List.getElem?_eq_some_iff.mp hi).1
    rw [List.getElem?_set_self hl, g_fs_get, hi]
    exact congrArg some hv
  · rw [List.getElem?_set_ne (Ne.symm hb), g_fs_get, g_fs_get]
    congr 1
    funext g
    exact ho _ g (by omega)
theorem v_put0 (F : Fr X u own cc nL) {k ci j idx : Nat} {fs : List (Nat ⊕ Bool)} {f : Nat ⊕ Bool} {ty : FieldType} {v : Value} {σ' : St} (hl : fok own idx ci j) (hp : pok ci j ty) (hG : Gam[k]? = some (.inr (.inr (ci, fs)))) (hf : fs[j]? = some f) (hn : narrow ty v = v) (hft : fits ty v = true)
    (hv : g_f u.2.1 σ' k j f = v) (ho : ∀ a g, a ≠ j → g_f u.2.1 σ' k a g = g_f u.2.1 σ k a g) (h1 : ∀ a, a ≠ k → σ'.1 a = σ.1 a) (h2 : ∀ a, a ≠ k → σ'.2 a = σ.2 a)
    (hd : decode cc pc = .ok (.putfield idx, 3)) (kk : V X u d nL Q (pc + 3) ls st σ') : V X u d nL Q pc ls (v :: .ref (u.2.1 k) :: st) σ := by
  obtain ⟨q, hq, hj, hlk, hsm⟩ := hl
  obtain ⟨q', hq', hfin, hty⟩ := hp
  cases hq.symm.trans hq'
  intro H locs la hP hS hla
  have hlen : j < (g_fs u.2.1 σ k 0 fs).length := by rw [g_fs_len]; exact (List.getElem?_eq_some_iff.mp hf).1
  refine va_put (D := u.1) (cl := cls) (ws := wU u σ) (C := q.1) (T := q.2.1) (N := q.2.2) (ref := q.1) (A := AU u) F.1 F.2.1 F.2.2.2.2.1 (cls_in ci q hq) (tyD q) (cls_ty ci q hq).1 (cls_ty ci q hq).2 F.2.2.2.1 F.2.2.2.2.2.1.K0 hP (F.2.2.2.2.2.2.2.1.D σ) hS k (wU_get u σ hG) hq j hj (F.2.2.2.2.1 _ (inG hlk rfl)) (fun x h => by rw [hsm] at h; exact h) hfin hty hn hft hlen hd (fun H1 locs1 hP1 hD1 hS1 => ?_)
  refine kk H1 locs1 la ?_ hS1 hla
  rw [← wU_set u (σ' := σ') hG ?_ h1 h2]
  · exact hP1
  · show (Sum.inr (ci, g_fs u.2.1 σ' k 0 fs) : va_E) = _
    rw [g_fs_set u.2.1 k v f fs 0 j hf (by rw [Nat.zero_add]; exact hv) (fun a g h => ho a g (by omega))]

theorem v_puti (F : Fr X u own cc nL) {k ci j idx : Nat} {fs : List (Nat ⊕ Bool)} {v : Int32} (hl : fok own idx ci j) (hp : pok ci j .int) (hG : Gam[k]? = some (.inr (.inr (ci, fs)))) (hf : fs[j]? = some (.inr false)) (hd : decode cc pc = .ok (.putfield idx, 3)) (kk : V X u d nL Q (pc + 3) ls st (uI σ k j v)) : V X u d nL Q pc ls (.int v :: .ref (u.2.1 k) :: st) σ := by
  refine v_put0 F hl hp hG hf (v := .int v) rfl rfl ?_ ?_ ?_ ?_ hd kk
  · simp [g_f, uI, upd, vp_updL]
  · intro a g h
    rcases g with r | b
    · rfl
    · cases b <;> simp [g_f, uI, upd, vp_updL, h]
  · intro a h
    simp [uI, h]
  · intro a h
    simp [uI, h]
theorem v_putl (F : Fr X u own cc nL) {k ci j idx : Nat} {fs : List (Nat ⊕ Bool)} {v : Int64} (hl : fok own idx ci j) (hp : pok ci j .long) (hG : Gam[k]? = some (.inr (.inr (ci, fs)))) (hf : fs[j]? = some (.inr true)) (hd : decode cc pc = .ok (.putfield idx, 3)) (kk : V X u d nL Q (pc + 3) ls st (uL σ k j v)) : V X u d nL Q pc ls (.long v :: .ref (u.2.1 k) :: st) σ := by
  refine v_put0 F hl hp hG hf (v := .long v) rfl rfl ?_ ?_ ?_ ?_ hd kk
  · simp [g_f, uL, upd, vp_updL]
  · intro a g h
    rcases g with r | b
    · rfl
    · cases b <;> simp [g_f, uL, upd, vp_updL, h]
  · intro a h
    simp [uL, h]
  · intro a h
    simp [uL, h]
theorem v_putz (F : Fr X u own cc nL) {k ci j idx : Nat} {fs : List (Nat ⊕ Bool)} {v : Int32} (hl : fok own idx ci j) (hp : pok ci j .boolean) (hG : Gam[k]? = some (.inr (.inr (ci, fs)))) (hf : fs[j]? = some (.inr false)) (hn : narrow .boolean (.int v) = .int v) (hz : fits .boolean (.int v) = true) (hd : decode cc pc = .ok (.putfield idx, 3)) (kk : V X u d nL Q (pc + 3) ls st (uI σ k j v)) : V X u d nL Q pc ls (.int v :: .ref (u.2.1 k) :: st) σ := by
  refine v_put0 F hl hp hG hf (v := .int v) hn hz ?_ ?_ ?_ ?_ hd kk
  · simp [g_f, uI, upd, vp_updL]
  · intro a g h
    rcases g with r | b
    · rfl
    · cases b <;> simp [g_f, uI, upd, vp_updL, h]
  · intro a h
    simp [uI, h]
  · intro a h
    simp [uI, h]
theorem aTy_a {k n : Nat} {t : FieldType} (h : Gam[k]? = some (.inl (t, n))) : aTy k = some t := by unfold aTy; rw [h]
theorem aTy_r {k n : Nat} {t : FieldType} {r : Nat → Nat} (h : Gam[k]? = some (.inr (.inl (t, n, r)))) : aTy k = some t := by unfold aTy; rw [h]
theorem v_iald (F : Fr X u own cc nL) {k n : Nat} {i : Int32} (hG : Gam[k]? = some (.inl (.int, n))) (hin : vp_in i n) (hd : decode cc pc = .ok (.iaload, 1)) (kk : V X u d nL Q (pc + 1) ls (.int (σ.1 k i.toNatClampNeg) :: st) σ) : V X u d nL Q pc ls (.int i :: .ref (u.2.1 k) :: st) σ :=
  fun H locs la hP hS hl => va_iald (D := u.1) (cl := cls) F.1 F.2.1 (F.2.2.2.2.2.1.K1 (aTy_a hG)) hP k 0 (wU_get u σ hG) rfl hin hd (kk H locs la hP hS hl)
theorem v_bald (F : Fr X u own cc nL) {k n : Nat} {i : Int32} (hG : Gam[k]? = some (.inl (.byte, n))) (hin : vp_in i n) (hd : decode cc pc = .ok (.baload, 1)) (kk : V X u d nL Q (pc + 1) ls (.int (σ.1 k i.toNatClampNeg) :: st) σ) : V X u d nL Q pc ls (.int i :: .ref (u.2.1 k) :: st) σ :=
  fun H locs la hP hS hl => va_bald (D := u.1) (cl := cls) F.1 F.2.1 (F.2.2.2.2.2.1.K1 (aTy_a hG)) hP k 0 (wU_get u σ hG) rfl hin hd (kk H locs la hP hS hl)
theorem v_zald (F : Fr X u own cc nL) {k n : Nat} {i : Int32} (hG : Gam[k]? = some (.inl (.boolean, n))) (hin : vp_in i n) (hd : decode cc pc = .ok (.baload, 1)) (kk : V X u d nL Q (pc + 1) ls (.int (σ.1 k i.toNatClampNeg) :: st) σ) : V X u d nL Q pc ls (.int i :: .ref (u.2.1 k) :: st) σ :=
  fun H locs la hP hS hl => va_zald (D := u.1) (cl := cls) F.1 F.2.1 (F.2.2.2.2.2.1.K1 (aTy_a hG)) hP k 0 (wU_get u σ hG) rfl hin hd (kk H locs la hP hS hl)
theorem v_iast (F : Fr X u own cc nL) {k n : Nat} {i x : Int32} (hG : Gam[k]? = some (.inl (.int, n))) (hin : vp_in i n) (hd : decode cc pc = .ok (.iastore, 1)) (kk : V X u d nL Q (pc + 1) ls st (uI σ k i.toNatClampNeg x)) : V X u d nL Q pc ls (.int x :: .int i :: .ref (u.2.1 k) :: st) σ := by
  intro H locs la hP hS hl
  refine va_iast (D := u.1) (cl := cls) (A := AU u) F.1 F.2.1 (F.2.2.2.2.2.1.K1 (aTy_a hG)) hP (F.2.2.2.2.2.2.2.1.D σ) hS k 0 (wU_get u σ hG) rfl hin hd (fun H1 locs1 hP1 hD1 hS1 => ?_)
  refine kk H1 locs1 la ?_ hS1 hl
  rw [← wU_set u (σ' := uI σ k i.toNatClampNeg x) hG ?_ ?_ ?_]
  · exact hP1
  · simp [g_e, uI]
  · intro a h
    simp [uI, h]
  · intro a h
    rfl
theorem v_bast (F : Fr X u own cc nL) {k n : Nat} {i x : Int32} (hG : Gam[k]? = some (.inl (.byte, n))) (hin : vp_in i n) (hd : decode cc pc = .ok (.bastore, 1)) (kk : V X u d nL Q (pc + 1) ls st (uI σ k i.toNatClampNeg (vp_nar .byte x))) : V X u d nL Q pc ls (.int x :: .int i :: .ref (u.2.1 k) :: st) σ := by
  intro H locs la hP hS hl
  refine va_bast (D := u.1) (cl := cls) (A := AU u) F.1 F.2.1 (F.2.2.2.2.2.1.K1 (aTy_a hG)) hP (F.2.2.2.2.2.2.2.1.D σ) hS k 0 (wU_get u σ hG) rfl hin hd (fun H1 locs1 hP1 hD1 hS1 => ?_)
  refine kk H1 locs1 la ?_ hS1 hl
  rw [← wU_set u (σ' := uI σ k i.toNatClampNeg (vp_nar .byte x)) hG ?_ ?_ ?_]
  · exact hP1
  · simp [g_e, uI]
  · intro a h
    simp [uI, h]
  · intro a h
    rfl
theorem v_zast (F : Fr X u own cc nL) {k n : Nat} {i x : Int32} (hG : Gam[k]? = some (.inl (.boolean, n))) (hin : vp_in i n) (hd : decode cc pc = .ok (.bastore, 1)) (kk : V X u d nL Q (pc + 1) ls st (uI σ k i.toNatClampNeg (vp_nar .boolean x))) : V X u d nL Q pc ls (.int x :: .int i :: .ref (u.2.1 k) :: st) σ := by
  intro H locs la hP hS hl
  refine va_zast (D := u.1) (cl := cls) (A := AU u) F.1 F.2.1 (F.2.2.2.2.2.1.K1 (aTy_a hG)) hP (F.2.2.2.2.2.2.2.1.D σ) hS k 0 (wU_get u σ hG) rfl hin hd (fun H1 locs1 hP1 hD1 hS1 => ?_)
  refine kk H1 locs1 la ?_ hS1 hl
  rw [← wU_set u (σ' := uI σ k i.toNatClampNeg (vp_nar .boolean x)) hG ?_ ?_ ?_]
  · exact hP1
  · simp [g_e, uI]
  · intro a h
    simp [uI, h]
  · intro a h
    rfl
theorem v_aald (F : Fr X u own cc nL) {k n : Nat} {i : Int32} {ty : FieldType} {r : Nat → Nat} (hG : Gam[k]? = some (.inr (.inl (ty, n, r)))) (hty : ty.isReference = true) (hin : vp_in i n) (hd : decode cc pc = .ok (.aaload, 1)) (kk : V X u d nL Q (pc + 1) ls (.ref (u.2.1 (r i.toNatClampNeg)) :: st) σ) : V X u d nL Q pc ls (.int i :: .ref (u.2.1 k) :: st) σ := by
  intro H locs la hP hS hl
  have hlt : i.toNatClampNeg < n := Nat.not_le.mp fun q => hin (Or.inr q)
  have hc := hP k _ (wU_get u σ hG)
  exact W.aald (v := .ref (u.2.1 (r i.toNatClampNeg))) (ty := ty) F.1 F.2.1 hc ((F.2.2.2.2.2.1.2 k ty (aTy_r hG)).1 n (fun j => .ref (u.2.1 (r j)))) hty (fun q => by cases q) (by show ¬ (i < 0 ∨ (arrV _ _ _).slots.size ≤ _); rw [arrV_size]; exact hin) (by show (arrV _ _ _).slots[_]? = _; rw [arrV_read _ _ hlt]; rfl) rfl rfl hd (kk H locs la hP hS hl)
theorem v_alen (F : Fr X u own cc nL) {k n : Nat} {ty : FieldType} {v : Int32} (hG : Gam[k]? = some (.inl (ty, n))) (hv : Int32.ofNat n = v) (hd : decode cc pc = .ok (.arraylength, 1)) (kk : V X u d nL Q (pc + 1) ls (.int v :: st) σ) : V X u d nL Q pc ls (.ref (u.2.1 k) :: st) σ :=
  fun H locs la hP hS hl => va_alen (D := u.1) (cl := cls) F.1 F.2.1 (F.2.2.2.2.2.1.K1 (aTy_a hG)) hP k 0 (wU_get u σ hG) rfl hv hd (kk H locs la hP hS hl)
theorem v_gets (F : Fr X u own cc nL) {i idx : Nat} {q : String × String × FieldType × Nat × (Nat → Int32)} (hq : stab[i]? = some q) (hlk : Cond.fieldLink own idx "TakerBook$Reader" q.1 q.2.1 ∈ lw_tbl) (hd : decode cc pc = .ok (.getstatic idx, 3)) (kk : V X u d nL Q (pc + 3) ls (.ref (u.2.1 (1000 + i)) :: st) σ) : V X u d nL Q pc ls st σ :=
  fun H locs la hP hS hl => va_gets (ref := "TakerBook$Reader") F.1 F.2.1 (F.2.2.2.2.2.2.1.1 i q hq).1 hS F.2.2.2.1 (F.2.2.2.2.1 _ (inG hlk rfl)) (fun _ h => h) hd (kk H locs la hP hS hl)
theorem v_tabi (F : Fr X u own cc nL) {i : Nat} {q : String × String × FieldType × Nat × (Nat → Int32)} (hq : stab[i]? = some q) (hty : q.2.2.1 = .int) {x : Int32} (hin : vp_in x q.2.2.2.1) (hd : decode cc pc = .ok (.iaload, 1)) (kk : V X u d nL Q (pc + 1) ls (.int (q.2.2.2.2 x.toNatClampNeg) :: st) σ) : V X u d nL Q pc ls (.int x :: .ref (u.2.1 (1000 + i)) :: st) σ :=
  fun H locs la hP hS hl => va_ti F.1 F.2.1 (by have h := (F.2.2.2.2.2.2.1.1 i q hq).2; rw [hty] at h; exact h) hS hin rfl hd (kk H locs la hP hS hl)
theorem v_tabc (F : Fr X u own cc nL) {i : Nat} {q : String × String × FieldType × Nat × (Nat → Int32)} (hq : stab[i]? = some q) (hty : q.2.2.1 = .char) {x : Int32} (hin : vp_in x q.2.2.2.1) (hd : decode cc pc = .ok (.caload, 1)) (kk : V X u d nL Q (pc + 1) ls (.int (q.2.2.2.2 x.toNatClampNeg) :: st) σ) : V X u d nL Q pc ls (.int x :: .ref (u.2.1 (1000 + i)) :: st) σ :=
  fun H locs la hP hS hl => va_tc F.1 F.2.1 (by have h := (F.2.2.2.2.2.2.1.1 i q hq).2; rw [hty] at h; exact h) hS hin rfl hd (kk H locs la hP hS hl)
theorem v_tablen (F : Fr X u own cc nL) {i : Nat} {q : String × String × FieldType × Nat × (Nat → Int32)} (hq : stab[i]? = some q) {v : Int32} (hv : Int32.ofNat q.2.2.2.1 = v) (hd : decode cc pc = .ok (.arraylength, 1)) (kk : V X u d nL Q (pc + 1) ls (.int v :: st) σ) : V X u d nL Q pc ls (.ref (u.2.1 (1000 + i)) :: st) σ :=
  fun H locs la hP hS hl => va_tlen F.1 F.2.1 (F.2.2.2.2.2.2.1.1 i q hq).2 hS hv hd (kk H locs la hP hS hl)
/-- the ends -/
theorem v_iret (F : Fr X u own cc nL) {P : Int32 → St → Prop} {x : Int32} {ret : FieldType} (hr : X.meth.sig.returnType = some ret) (hn : narrow ret (.int x) = .int x) (hd : decode cc pc = .ok (.ireturn, 1)) (h : P x σ) : V X u d nL (Qe X u (va_Qi P (BU u) (AU u))) pc ls [.int x] σ :=
  fun H locs la hP hS hl => W.zret F.1 F.2.1 hr hn (fun t ht hW => ⟨⟨x, σ, rfl, h, by show va_P _ _ _ t.heap; rw [ht]; exact hP⟩, hS.F ht⟩) hS.2.2 hd F.2.2.2.2.2.2.2.2
theorem v_lret (F : Fr X u own cc nL) {P : Int64 → St → Prop} {x : Int64} (hr : X.meth.sig.returnType = some .long) (hd : decode cc pc = .ok (.lreturn, 1)) (h : P x σ) : V X u d nL (Qe X u (va_Ql P (BU u) (AU u))) pc ls [.long x] σ :=
  fun H locs la hP hS hl => W.lret F.1 F.2.1 hr (fun t ht hW => ⟨⟨x, σ, rfl, h, by show va_P _ _ _ t.heap; rw [ht]; exact hP⟩, hS.F ht⟩) hS.2.2 hd F.2.2.2.2.2.2.2.2
theorem v_vret (F : Fr X u own cc nL) {P : St → Prop} (hr : X.meth.sig.returnType = none) (hd : decode cc pc = .ok (.return_, 1)) (h : P σ) : V X u d nL (Qe X u (va_Qv P (BU u) (AU u))) pc ls [] σ :=
  fun H locs la hP hS hl => W.vret F.1 F.2.1 hr (fun t ht hW => ⟨⟨σ, rfl, h, by show va_P _ _ _ t.heap; rw [ht]; exact hP⟩, hS.F ht⟩) hS.2.2 hd F.2.2.2.2.2.2.2.2
theorem v_aret (F : Fr X u own cc nL) {k : Nat} {n : String} (hr : X.meth.sig.returnType = some (.object n)) (hd : decode cc pc = .ok (.areturn, 1)) : V X u d nL (Qe X u (va_Qr (fun _ : St => True) (fun _ a t => a = u.2.1 k ∧ BU u σ t) (AU u))) pc ls [.ref (u.2.1 k)] σ :=
  fun H locs la hP hS hl => W.aret F.1 F.2.1 hr (Or.inl ⟨n, rfl⟩) (Or.inr ⟨_, rfl⟩) (fun t ht hW => ⟨⟨σ, u.2.1 k, rfl, trivial, rfl, by show va_P _ _ _ t.heap; rw [ht]; exact hP⟩, hS.F ht⟩) hS.2.2 hd F.2.2.2.2.2.2.2.2
end
