theorem st_M_311 : siteV "TakerBookModel" 311 ⟨"TakerBookModel", "counted", "(I)I"⟩ := ⟨List.mem_of_getElem? (i := 1468) (by decide +kernel), List.mem_of_getElem? (i := 1470) (by decide +kernel), List.mem_of_getElem? (i := 70) (by decide +kernel)⟩
theorem kc_M_314 : Cond.constantLong "TakerBookModel" 314 (31) ∈ lw_tbl := List.mem_of_getElem? (i := 1481) (by decide +kernel)
theorem fk_M_316 : fok "TakerBookModel" 316 12 39 := ⟨(R_M, F_M, 40), rfl, by decide, List.mem_of_getElem? (i := 1018) (by decide +kernel), rfl⟩
theorem pk_M_hash : pok 12 39 .long := ⟨(R_M, F_M, 40), rfl, rfl, by decide +kernel⟩
theorem st_M_319 : siteV "TakerBookModel" 319 ⟨"TakerBookModel", "mix", "(J)V"⟩ := ⟨List.mem_of_getElem? (i := 1477) (by decide +kernel), List.mem_of_getElem? (i := 1479) (by decide +kernel), List.mem_of_getElem? (i := 71) (by decide +kernel)⟩
theorem kc_M_323 : Cond.constantLong "TakerBookModel" 323 (-1) ∈ lw_tbl := List.mem_of_getElem? (i := 1486) (by decide +kernel)
theorem st_M_120 : siteV "TakerBookModel" 120 ⟨"TakerBookModel", "byteAt", "(II)I"⟩ := ⟨List.mem_of_getElem? (i := 1181) (by decide +kernel), List.mem_of_getElem? (i := 1183) (by decide +kernel), List.mem_of_getElem? (i := 32) (by decide +kernel)⟩
theorem kc_M_325 : Cond.constantLong "TakerBookModel" 325 (17) ∈ lw_tbl := List.mem_of_getElem? (i := 1476) (by decide +kernel)
theorem st_M_327 : siteV "TakerBookModel" 327 ⟨"TakerBookModel", "mixBook", "()V"⟩ := ⟨List.mem_of_getElem? (i := 1482) (by decide +kernel), List.mem_of_getElem? (i := 1484) (by decide +kernel), List.mem_of_getElem? (i := 72) (by decide +kernel)⟩
abbrev b_M_byteAt : ByteArray := prog_14_method_24_code
abbrev y_M_byteAt : MethodName := ⟨"TakerBookModel", "byteAt", "(II)I"⟩
theorem d_M_byteAt_0 : decode b_M_byteAt 0 = .ok (.iload_n 2, 1) := by decide +kernel
theorem d_M_byteAt_1 : decode b_M_byteAt 1 = .ok (.aload_n 0, 1) := by decide +kernel
theorem d_M_byteAt_2 : decode b_M_byteAt 2 = .ok (.getfield 26, 3) := by decide +kernel
theorem d_M_byteAt_5 : decode b_M_byteAt 5 = .ok (.iload_n 1, 1) := by decide +kernel
theorem d_M_byteAt_6 : decode b_M_byteAt 6 = .ok (.iaload, 1) := by decide +kernel
theorem d_M_byteAt_7 : decode b_M_byteAt 7 = .ok (.if_icmp .ge 17, 3) := by decide +kernel
theorem d_M_byteAt_10 : decode b_M_byteAt 10 = .ok (.aload_n 0, 1) := by decide +kernel
theorem d_M_byteAt_11 : decode b_M_byteAt 11 = .ok (.getfield 29, 3) := by decide +kernel
theorem d_M_byteAt_14 : decode b_M_byteAt 14 = .ok (.bipush 60, 2) := by decide +kernel
theorem d_M_byteAt_16 : decode b_M_byteAt 16 = .ok (.iload_n 1, 1) := by decide +kernel
theorem d_M_byteAt_17 : decode b_M_byteAt 17 = .ok (.imul, 1) := by decide +kernel
theorem d_M_byteAt_18 : decode b_M_byteAt 18 = .ok (.iload_n 2, 1) := by decide +kernel
theorem d_M_byteAt_19 : decode b_M_byteAt 19 = .ok (.iadd, 1) := by decide +kernel
theorem d_M_byteAt_20 : decode b_M_byteAt 20 = .ok (.baload, 1) := by decide +kernel
theorem d_M_byteAt_21 : decode b_M_byteAt 21 = .ok (.goto 4, 3) := by decide +kernel
theorem d_M_byteAt_24 : decode b_M_byteAt 24 = .ok (.iconst 0, 1) := by decide +kernel
theorem d_M_byteAt_25 : decode b_M_byteAt 25 = .ok (.ireturn, 1) := by decide +kernel
theorem mo_M_byteAt : mok y_M_byteAt b_M_byteAt 3 (some .int) 2 := ⟨List.mem_of_getElem? (i := 1184) (by decide +kernel), ⟨by decide +kernel, by decide +kernel, by decide +kernel⟩, List.mem_of_getElem? (i := 86) (by decide +kernel), by decide⟩
set_option maxHeartbeats 4000000 in
theorem c_M_byteAt (l : Launch) (u : Un) (hA : Ap u) {σ τ : St} (fτ : fr σ τ) {t N : Nat} (ht : t < 4) (hN : N ≤ 60) (eN : σ.1 68 t = nI N) (p : Nat) (hp : p ≤ 100) : MTi l u y_M_byteAt b_M_byteAt 3 .int 0 [.ref (u.2.1 63), .int (nI t), .int (nI p)] τ (fun ans σ' => bMf σ t N p = ans ∧ τ = σ') := by
  refine MT_of hA rfl (by decide) (Nat.le_of_ble_eq_true rfl) (fun X hl F hr => ?_)
  subst hl
  refine v_to (ls' := [(0, .ref (u.2.1 63)), (1, .int (nI t)), (2, .int (nI p))]) rfl ?_
  refine v_iload_n F d_M_byteAt_0 rfl 2 rfl ?_
  refine v_aload_n F d_M_byteAt_1 rfl 0 rfl ?_
  refine v_getr (r := 68) F fk_M_26 G63 rfl d_M_byteAt_2 ?_
  refine v_iload_n F d_M_byteAt_5 rfl 1 rfl ?_
  refine v_ial F t G68 rfl (by omega) d_M_byteAt_6 ?_
  refine v_te (y := nI N) (fτ.v rfl eN) ?_
  refine v_icmp_ge F 24 d_M_byteAt_7 rfl (fun h7 => ?_) (fun h7 => ?_)
  · skip
    have h7 : N ≤ p := (nI_leI (a := N) (b := p) (by omega) (by omega)).mp h7
    refine v_iconst (v := 0) F d_M_byteAt_24 ki_0 ?_
    refine v_iret F hr rfl d_M_byteAt_25 ?_
    refine ⟨?_, rfl⟩
    unfold bMf
    first | (rw [if_pos (by omega)]; done) | (rw [if_neg (by omega)]; done)
  · skip
    have h7 : ¬ N ≤ p := fun q => h7 ((nI_leI (a := N) (b := p) (by omega) (by omega)).mpr q)
    refine v_aload_n F d_M_byteAt_10 rfl 0 rfl ?_
    refine v_getr (r := 69) F fk_M_29 G63 rfl d_M_byteAt_11 ?_
    refine v_bipush (v := 60) F d_M_byteAt_14 kb_60 ?_
    refine v_iload_n F d_M_byteAt_16 rfl 1 rfl ?_
    refine v_imul F d_M_byteAt_17 ?_
    refine v_te (y := nI (60 * t)) (pk_mul _ _) ?_
    refine v_iload_n F d_M_byteAt_18 rfl 2 rfl ?_
    refine v_iadd F d_M_byteAt_19 ?_
    refine v_te (y := nI (60 * t + p)) (nI_add _ _) ?_
    refine v_bal F (60 * t + p) G69 rfl (by omega) d_M_byteAt_20 ?_
    refine v_te (y := σ.1 69 (60 * t + p)) (fτ.1 69 (60 * t + p) rfl) ?_
    refine v_goto F 25 d_M_byteAt_21 rfl ?_
    refine v_iret F hr rfl d_M_byteAt_25 ?_
    refine ⟨?_, rfl⟩
    unfold bMf
    first | (rw [if_pos (by omega)]; done) | (rw [if_neg (by omega)]; done)
abbrev b_M_counted : ByteArray := prog_14_method_93_code
abbrev y_M_counted : MethodName := ⟨"TakerBookModel", "counted", "(I)I"⟩
theorem d_M_counted_0 : decode b_M_counted 0 = .ok (.iconst 0, 1) := by decide +kernel
theorem d_M_counted_1 : decode b_M_counted 1 = .ok (.istore_n 2, 1) := by decide +kernel
theorem d_M_counted_2 : decode b_M_counted 2 = .ok (.iconst 0, 1) := by decide +kernel
theorem d_M_counted_3 : decode b_M_counted 3 = .ok (.istore_n 3, 1) := by decide +kernel
theorem d_M_counted_4 : decode b_M_counted 4 = .ok (.iload_n 3, 1) := by decide +kernel
theorem d_M_counted_5 : decode b_M_counted 5 = .ok (.aload_n 0, 1) := by decide +kernel
theorem d_M_counted_6 : decode b_M_counted 6 = .ok (.getfield 146, 3) := by decide +kernel
theorem d_M_counted_9 : decode b_M_counted 9 = .ok (.if_icmp .ge 31, 3) := by decide +kernel
theorem d_M_counted_12 : decode b_M_counted 12 = .ok (.iload_n 2, 1) := by decide +kernel
theorem d_M_counted_13 : decode b_M_counted 13 = .ok (.iload_n 1, 1) := by decide +kernel
theorem d_M_counted_14 : decode b_M_counted 14 = .ok (.bipush 7, 2) := by decide +kernel
theorem d_M_counted_16 : decode b_M_counted 16 = .ok (.if_icmp .ne 15, 3) := by decide +kernel
theorem d_M_counted_19 : decode b_M_counted 19 = .ok (.aload_n 0, 1) := by decide +kernel
theorem d_M_counted_20 : decode b_M_counted 20 = .ok (.iload_n 3, 1) := by decide +kernel
theorem d_M_counted_21 : decode b_M_counted 21 = .ok (.invokevirtual 152, 3) := by decide +kernel
theorem d_M_counted_24 : decode b_M_counted 24 = .ok (.ifCond .eq 7, 3) := by decide +kernel
theorem d_M_counted_27 : decode b_M_counted 27 = .ok (.iconst 1, 1) := by decide +kernel
theorem d_M_counted_28 : decode b_M_counted 28 = .ok (.goto 4, 3) := by decide +kernel
theorem d_M_counted_31 : decode b_M_counted 31 = .ok (.iconst 0, 1) := by decide +kernel
theorem d_M_counted_32 : decode b_M_counted 32 = .ok (.iadd, 1) := by decide +kernel
theorem d_M_counted_33 : decode b_M_counted 33 = .ok (.istore_n 2, 1) := by decide +kernel
theorem d_M_counted_34 : decode b_M_counted 34 = .ok (.iinc 3 1, 3) := by decide +kernel
theorem d_M_counted_37 : decode b_M_counted 37 = .ok (.goto (-33), 3) := by decide +kernel
theorem d_M_counted_40 : decode b_M_counted 40 = .ok (.iconst 0, 1) := by decide +kernel
theorem d_M_counted_41 : decode b_M_counted 41 = .ok (.istore_n 3, 1) := by decide +kernel
theorem d_M_counted_42 : decode b_M_counted 42 = .ok (.iload_n 3, 1) := by decide +kernel
theorem d_M_counted_43 : decode b_M_counted 43 = .ok (.bipush 6, 2) := by decide +kernel
theorem d_M_counted_45 : decode b_M_counted 45 = .ok (.if_icmp .ge 32, 3) := by decide +kernel
theorem d_M_counted_48 : decode b_M_counted 48 = .ok (.iload_n 2, 1) := by decide +kernel
theorem d_M_counted_49 : decode b_M_counted 49 = .ok (.iload_n 1, 1) := by decide +kernel
theorem d_M_counted_50 : decode b_M_counted 50 = .ok (.bipush 8, 2) := by decide +kernel
theorem d_M_counted_52 : decode b_M_counted 52 = .ok (.if_icmp .ne 16, 3) := by decide +kernel
theorem d_M_counted_55 : decode b_M_counted 55 = .ok (.aload_n 0, 1) := by decide +kernel
theorem d_M_counted_56 : decode b_M_counted 56 = .ok (.getfield 17, 3) := by decide +kernel
theorem d_M_counted_59 : decode b_M_counted 59 = .ok (.iload_n 3, 1) := by decide +kernel
theorem d_M_counted_60 : decode b_M_counted 60 = .ok (.iaload, 1) := by decide +kernel
theorem d_M_counted_61 : decode b_M_counted 61 = .ok (.ifCond .lt 7, 3) := by decide +kernel
theorem d_M_counted_64 : decode b_M_counted 64 = .ok (.iconst 1, 1) := by decide +kernel
theorem d_M_counted_65 : decode b_M_counted 65 = .ok (.goto 4, 3) := by decide +kernel
theorem d_M_counted_68 : decode b_M_counted 68 = .ok (.iconst 0, 1) := by decide +kernel
theorem d_M_counted_69 : decode b_M_counted 69 = .ok (.iadd, 1) := by decide +kernel
theorem d_M_counted_70 : decode b_M_counted 70 = .ok (.istore_n 2, 1) := by decide +kernel
theorem d_M_counted_71 : decode b_M_counted 71 = .ok (.iinc 3 1, 3) := by decide +kernel
theorem d_M_counted_74 : decode b_M_counted 74 = .ok (.goto (-32), 3) := by decide +kernel
theorem d_M_counted_77 : decode b_M_counted 77 = .ok (.iconst 0, 1) := by decide +kernel
theorem d_M_counted_78 : decode b_M_counted 78 = .ok (.istore_n 3, 1) := by decide +kernel
theorem d_M_counted_79 : decode b_M_counted 79 = .ok (.iload_n 3, 1) := by decide +kernel
theorem d_M_counted_80 : decode b_M_counted 80 = .ok (.iconst 4, 1) := by decide +kernel
theorem d_M_counted_81 : decode b_M_counted 81 = .ok (.if_icmp .ge 32, 3) := by decide +kernel
theorem d_M_counted_84 : decode b_M_counted 84 = .ok (.iload_n 2, 1) := by decide +kernel
theorem d_M_counted_85 : decode b_M_counted 85 = .ok (.iload_n 1, 1) := by decide +kernel
theorem d_M_counted_86 : decode b_M_counted 86 = .ok (.bipush 9, 2) := by decide +kernel
theorem d_M_counted_88 : decode b_M_counted 88 = .ok (.if_icmp .ne 16, 3) := by decide +kernel
theorem d_M_counted_91 : decode b_M_counted 91 = .ok (.aload_n 0, 1) := by decide +kernel
theorem d_M_counted_92 : decode b_M_counted 92 = .ok (.getfield 26, 3) := by decide +kernel
theorem d_M_counted_95 : decode b_M_counted 95 = .ok (.iload_n 3, 1) := by decide +kernel
theorem d_M_counted_96 : decode b_M_counted 96 = .ok (.iaload, 1) := by decide +kernel
theorem d_M_counted_97 : decode b_M_counted 97 = .ok (.ifCond .lt 7, 3) := by decide +kernel
theorem d_M_counted_100 : decode b_M_counted 100 = .ok (.iconst 1, 1) := by decide +kernel
theorem d_M_counted_101 : decode b_M_counted 101 = .ok (.goto 4, 3) := by decide +kernel
theorem d_M_counted_104 : decode b_M_counted 104 = .ok (.iconst 0, 1) := by decide +kernel
theorem d_M_counted_105 : decode b_M_counted 105 = .ok (.iadd, 1) := by decide +kernel
theorem d_M_counted_106 : decode b_M_counted 106 = .ok (.istore_n 2, 1) := by decide +kernel
theorem d_M_counted_107 : decode b_M_counted 107 = .ok (.iinc 3 1, 3) := by decide +kernel
theorem d_M_counted_110 : decode b_M_counted 110 = .ok (.goto (-31), 3) := by decide +kernel
theorem d_M_counted_113 : decode b_M_counted 113 = .ok (.iconst 0, 1) := by decide +kernel
theorem d_M_counted_114 : decode b_M_counted 114 = .ok (.istore_n 3, 1) := by decide +kernel
theorem d_M_counted_115 : decode b_M_counted 115 = .ok (.iload_n 3, 1) := by decide +kernel
theorem d_M_counted_116 : decode b_M_counted 116 = .ok (.iconst 3, 1) := by decide +kernel
theorem d_M_counted_117 : decode b_M_counted 117 = .ok (.if_icmp .ge 32, 3) := by decide +kernel
theorem d_M_counted_120 : decode b_M_counted 120 = .ok (.iload_n 2, 1) := by decide +kernel
theorem d_M_counted_121 : decode b_M_counted 121 = .ok (.iload_n 1, 1) := by decide +kernel
theorem d_M_counted_122 : decode b_M_counted 122 = .ok (.bipush 10, 2) := by decide +kernel
theorem d_M_counted_124 : decode b_M_counted 124 = .ok (.if_icmp .ne 16, 3) := by decide +kernel
theorem d_M_counted_127 : decode b_M_counted 127 = .ok (.aload_n 0, 1) := by decide +kernel
theorem d_M_counted_128 : decode b_M_counted 128 = .ok (.getfield 60, 3) := by decide +kernel
theorem d_M_counted_131 : decode b_M_counted 131 = .ok (.iload_n 3, 1) := by decide +kernel
theorem d_M_counted_132 : decode b_M_counted 132 = .ok (.baload, 1) := by decide +kernel
theorem d_M_counted_133 : decode b_M_counted 133 = .ok (.ifCond .eq 7, 3) := by decide +kernel
theorem d_M_counted_136 : decode b_M_counted 136 = .ok (.iconst 1, 1) := by decide +kernel
theorem d_M_counted_137 : decode b_M_counted 137 = .ok (.goto 4, 3) := by decide +kernel
theorem d_M_counted_140 : decode b_M_counted 140 = .ok (.iconst 0, 1) := by decide +kernel
theorem d_M_counted_141 : decode b_M_counted 141 = .ok (.iadd, 1) := by decide +kernel
theorem d_M_counted_142 : decode b_M_counted 142 = .ok (.istore_n 2, 1) := by decide +kernel
theorem d_M_counted_143 : decode b_M_counted 143 = .ok (.iinc 3 1, 3) := by decide +kernel
theorem d_M_counted_146 : decode b_M_counted 146 = .ok (.goto (-31), 3) := by decide +kernel
theorem d_M_counted_149 : decode b_M_counted 149 = .ok (.iload_n 1, 1) := by decide +kernel
theorem d_M_counted_150 : decode b_M_counted 150 = .ok (.tableswitch 87 0 6 #[42, 47, 54, 59, 66, 73, 80], 42) := by decide +kernel
theorem d_M_counted_192 : decode b_M_counted 192 = .ok (.aload_n 0, 1) := by decide +kernel
theorem d_M_counted_193 : decode b_M_counted 193 = .ok (.getfield 146, 3) := by decide +kernel
theorem d_M_counted_196 : decode b_M_counted 196 = .ok (.ireturn, 1) := by decide +kernel
theorem d_M_counted_197 : decode b_M_counted 197 = .ok (.aload_n 0, 1) := by decide +kernel
theorem d_M_counted_198 : decode b_M_counted 198 = .ok (.getfield 51, 3) := by decide +kernel
theorem d_M_counted_201 : decode b_M_counted 201 = .ok (.iconst 3, 1) := by decide +kernel
theorem d_M_counted_202 : decode b_M_counted 202 = .ok (.iaload, 1) := by decide +kernel
theorem d_M_counted_203 : decode b_M_counted 203 = .ok (.ireturn, 1) := by decide +kernel
theorem d_M_counted_204 : decode b_M_counted 204 = .ok (.aload_n 0, 1) := by decide +kernel
theorem d_M_counted_205 : decode b_M_counted 205 = .ok (.getfield 149, 3) := by decide +kernel
theorem d_M_counted_208 : decode b_M_counted 208 = .ok (.ireturn, 1) := by decide +kernel
theorem d_M_counted_209 : decode b_M_counted 209 = .ok (.aload_n 0, 1) := by decide +kernel
theorem d_M_counted_210 : decode b_M_counted 210 = .ok (.getfield 51, 3) := by decide +kernel
theorem d_M_counted_213 : decode b_M_counted 213 = .ok (.iconst 1, 1) := by decide +kernel
theorem d_M_counted_214 : decode b_M_counted 214 = .ok (.iaload, 1) := by decide +kernel
theorem d_M_counted_215 : decode b_M_counted 215 = .ok (.ireturn, 1) := by decide +kernel
theorem d_M_counted_216 : decode b_M_counted 216 = .ok (.aload_n 0, 1) := by decide +kernel
theorem d_M_counted_217 : decode b_M_counted 217 = .ok (.getfield 51, 3) := by decide +kernel
theorem d_M_counted_220 : decode b_M_counted 220 = .ok (.iconst 2, 1) := by decide +kernel
theorem d_M_counted_221 : decode b_M_counted 221 = .ok (.iaload, 1) := by decide +kernel
theorem d_M_counted_222 : decode b_M_counted 222 = .ok (.ireturn, 1) := by decide +kernel
theorem d_M_counted_223 : decode b_M_counted 223 = .ok (.aload_n 0, 1) := by decide +kernel
theorem d_M_counted_224 : decode b_M_counted 224 = .ok (.getfield 51, 3) := by decide +kernel
theorem d_M_counted_227 : decode b_M_counted 227 = .ok (.iconst 0, 1) := by decide +kernel
theorem d_M_counted_228 : decode b_M_counted 228 = .ok (.iaload, 1) := by decide +kernel
theorem d_M_counted_229 : decode b_M_counted 229 = .ok (.ireturn, 1) := by decide +kernel
theorem d_M_counted_230 : decode b_M_counted 230 = .ok (.aload_n 0, 1) := by decide +kernel
theorem d_M_counted_231 : decode b_M_counted 231 = .ok (.getfield 51, 3) := by decide +kernel
theorem d_M_counted_234 : decode b_M_counted 234 = .ok (.iconst 4, 1) := by decide +kernel
theorem d_M_counted_235 : decode b_M_counted 235 = .ok (.iaload, 1) := by decide +kernel
theorem d_M_counted_236 : decode b_M_counted 236 = .ok (.ireturn, 1) := by decide +kernel
theorem d_M_counted_237 : decode b_M_counted 237 = .ok (.iload_n 2, 1) := by decide +kernel
theorem d_M_counted_238 : decode b_M_counted 238 = .ok (.ireturn, 1) := by decide +kernel
theorem mo_M_counted : mok y_M_counted b_M_counted 4 (some .int) 1 := ⟨List.mem_of_getElem? (i := 1471) (by decide +kernel), ⟨by decide +kernel, by decide +kernel, by decide +kernel⟩, List.mem_of_getElem? (i := 86) (by decide +kernel), by decide⟩
set_option maxHeartbeats 4000000 in
theorem L_M_counted_4 {X : FX} {u : Un} (hA : Ap u) {Q : State → Prop} (F : Fr X u "TakerBookModel" b_M_counted 4) {σ : St} {n : Nat} {kd : Nat → Nat} (hb : mkOk σ n kd) {a : Nat} (ha : a < 64) (h0 : σ.1 76 0 = nI a) {τ : St} (fτ : fr σ τ) {w v0 : Nat} (hw : w < 11) (k : V X u 1 4 Q 40 [(0, .ref (u.2.1 63)), (1, .int (nI w)), (2, .int (nI (v0 + cIf w 7 (cntN (fun k => isG (kd k)) n)))), (3, .int (nI n))] [] (τ)) : ∀ (nn k : Nat), k ≤ n → n - k < nn → V X u 1 4 Q 4 [(0, .ref (u.2.1 63)), (1, .int (nI w)), (2, .int (nI (v0 + cIf w 7 (cntN (fun k => isG (kd k)) k)))), (3, .int (nI k))] [] (τ) := by
  intro nn
  induction nn with
  | zero =>
    intro k h1 h2
    exact absurd h2 (Nat.not_lt_zero _)
  | succ nn ih =>
    intro k hii hnn
    obtain ⟨hn, hn6, hkd, hk6⟩ := id hb
    refine v_iload_n F d_M_counted_4 rfl 3 rfl ?_
    refine v_aload_n F d_M_counted_5 rfl 0 rfl ?_
    refine v_geti F fk_M_146 G63 rfl d_M_counted_6 ?_
    refine v_te (y := nI n) (fτ.v rfl hn) ?_
    refine v_icmp_ge F 40 d_M_counted_9 rfl (fun h9 => ?_) (fun h9 => ?_)
    · skip
      have h9 : n ≤ k := (nI_leI (a := n) (b := k) (by omega) (by omega)).mp h9
      have he : k = n := by omega
      subst he
      exact k
    · skip
      have h9 : ¬ n ≤ k := fun q => h9 ((nI_leI (a := n) (b := k) (by omega) (by omega)).mpr q)
      refine v_iload_n F d_M_counted_12 rfl 2 rfl ?_
      refine v_iload_n F d_M_counted_13 rfl 1 rfl ?_
      refine v_bipush (v := 7) F d_M_counted_14 kb_7 ?_
      refine v_icmp_ne F 31 d_M_counted_16 rfl (fun h16 => ?_) (fun h16 => ?_)
      · skip
        have h16 : ¬ w = 7 := fun q => h16 ((nI_eq (a := w) (b := 7) (by omega) (by omega)).mpr q)
        refine v_iconst (v := 0) F d_M_counted_31 ki_0 ?_
        refine v_iadd F d_M_counted_32 ?_
        refine v_te (y := nI (v0 + cIf w 7 (cntN (fun k => isG (kd k)) k) + 0)) (nI_add _ _) ?_
        refine v_istore_n (ls' := [(2, .int (nI (v0 + cIf w 7 (cntN (fun k => isG (kd k)) k) + 0))), (0, .ref (u.2.1 63)), (1, .int (nI w)), (3, .int (nI k))]) F d_M_counted_33 rfl (by decide) rfl ?_
        refine v_iinc (v := nI (k + 1)) (ls' := [(3, .int (nI (k + 1))), (2, .int (nI (v0 + cIf w 7 (cntN (fun k => isG (kd k)) k) + 0))), (0, .ref (u.2.1 63)), (1, .int (nI w))]) F d_M_counted_34 (j := 3) rfl (nI_inc _) (by decide) rfl ?_
        refine v_goto F 4 d_M_counted_37 rfl ?_
        refine v_sub [2, 3, 1, 0] (ls' := [(0, .ref (u.2.1 63)), (1, .int (nI w)), (2, .int (nI (v0 + cIf w 7 (cntN (fun k => isG (kd k)) k) + 0))), (3, .int (nI (k + 1)))]) rfl ?_
        have g1 : (nI (v0 + cIf w 7 (cntN (fun k => isG (kd k)) k) + 0)) = (nI (v0 + cIf w 7 (cntN (fun k => isG (kd k)) (k + 1)))) := (by first | rfl | (rw [cI_s (by assumption) (by assumption), ← Nat.add_assoc]; done) | (rw [cI_f (by assumption)]; first | done | rfl) | (rw [cI_n (d := cntN (fun k => isG (kd k)) (k + 1)) (by assumption)]; first | done | rfl))
        refine v_to (ls' := [(0, .ref (u.2.1 63)), (1, .int (nI w)), (2, .int (nI (v0 + cIf w 7 (cntN (fun k => isG (kd k)) (k + 1))))), (3, .int (nI (k + 1)))]) (by first | rfl | rw [g1] | simp_all) ?_
        exact ih (k + 1) (by omega) (by omega)
      · skip
        have h16 : w = 7 := (nI_eq (a := w) (b := 7) (by omega) (by omega)).mp h16
        refine v_aload_n F d_M_counted_19 rfl 0 rfl ?_
        refine v_iload_n F d_M_counted_20 rfl 3 rfl ?_
        refine v_runi (r_V F (c_M_isGang X.2.1 u hA τ (fτ.mk hb) k (by omega)) mo_M_isGang st_M_152 rc_63 (by decide) rfl (Nat.le_of_ble_eq_true rfl) d_M_counted_21) (fun r2 σ3 q4 => ?_)
        obtain ⟨rfl, rfl⟩ := q4
        refine v_bt F 31 d_M_counted_24 rfl (fun h24 => ?_) (fun h24 => ?_)
        · skip
          refine v_iconst (v := 0) F d_M_counted_31 ki_0 ?_
          refine v_iadd F d_M_counted_32 ?_
          refine v_te (y := nI (v0 + cIf w 7 (cntN (fun k => isG (kd k)) k) + 0)) (nI_add _ _) ?_
          refine v_istore_n (ls' := [(2, .int (nI (v0 + cIf w 7 (cntN (fun k => isG (kd k)) k) + 0))), (0, .ref (u.2.1 63)), (1, .int (nI w)), (3, .int (nI k))]) F d_M_counted_33 rfl (by decide) rfl ?_
          refine v_iinc (v := nI (k + 1)) (ls' := [(3, .int (nI (k + 1))), (2, .int (nI (v0 + cIf w 7 (cntN (fun k => isG (kd k)) k) + 0))), (0, .ref (u.2.1 63)), (1, .int (nI w))]) F d_M_counted_34 (j := 3) rfl (nI_inc _) (by decide) rfl ?_
          refine v_goto F 4 d_M_counted_37 rfl ?_
          refine v_sub [2, 3, 1, 0] (ls' := [(0, .ref (u.2.1 63)), (1, .int (nI w)), (2, .int (nI (v0 + cIf w 7 (cntN (fun k => isG (kd k)) k) + 0))), (3, .int (nI (k + 1)))]) rfl ?_
          have g5 : (nI (v0 + cIf w 7 (cntN (fun k => isG (kd k)) k) + 0)) = (nI (v0 + cIf w 7 (cntN (fun k => isG (kd k)) (k + 1)))) := (by first | rfl | (rw [cI_s (by assumption) (by assumption), ← Nat.add_assoc]; done) | (rw [cI_f (by assumption)]; first | done | rfl) | (rw [cI_n (d := cntN (fun k => isG (kd k)) (k + 1)) (by assumption)]; first | done | rfl))
          refine v_to (ls' := [(0, .ref (u.2.1 63)), (1, .int (nI w)), (2, .int (nI (v0 + cIf w 7 (cntN (fun k => isG (kd k)) (k + 1))))), (3, .int (nI (k + 1)))]) (by first | rfl | rw [g5] | simp_all) ?_
          exact ih (k + 1) (by omega) (by omega)
        · skip
          refine v_iconst (v := 1) F d_M_counted_27 ki_1 ?_
          refine v_goto F 32 d_M_counted_28 rfl ?_
          refine v_iadd F d_M_counted_32 ?_
          refine v_te (y := nI (v0 + cIf w 7 (cntN (fun k => isG (kd k)) k) + 1)) (nI_add _ _) ?_
          refine v_istore_n (ls' := [(2, .int (nI (v0 + cIf w 7 (cntN (fun k => isG (kd k)) k) + 1))), (0, .ref (u.2.1 63)), (1, .int (nI w)), (3, .int (nI k))]) F d_M_counted_33 rfl (by decide) rfl ?_
          refine v_iinc (v := nI (k + 1)) (ls' := [(3, .int (nI (k + 1))), (2, .int (nI (v0 + cIf w 7 (cntN (fun k => isG (kd k)) k) + 1))), (0, .ref (u.2.1 63)), (1, .int (nI w))]) F d_M_counted_34 (j := 3) rfl (nI_inc _) (by decide) rfl ?_
          refine v_goto F 4 d_M_counted_37 rfl ?_
          refine v_sub [2, 3, 1, 0] (ls' := [(0, .ref (u.2.1 63)), (1, .int (nI w)), (2, .int (nI (v0 + cIf w 7 (cntN (fun k => isG (kd k)) k) + 1))), (3, .int (nI (k + 1)))]) rfl ?_
          have g6 : (nI (v0 + cIf w 7 (cntN (fun k => isG (kd k)) k) + 1)) = (nI (v0 + cIf w 7 (cntN (fun k => isG (kd k)) (k + 1)))) := (by first | rfl | (rw [cI_s (by assumption) (by assumption), ← Nat.add_assoc]; done) | (rw [cI_f (by assumption)]; first | done | rfl) | (rw [cI_n (d := cntN (fun k => isG (kd k)) (k + 1)) (by assumption)]; first | done | rfl))
          refine v_to (ls' := [(0, .ref (u.2.1 63)), (1, .int (nI w)), (2, .int (nI (v0 + cIf w 7 (cntN (fun k => isG (kd k)) (k + 1))))), (3, .int (nI (k + 1)))]) (by first | rfl | rw [g6] | simp_all) ?_
          exact ih (k + 1) (by omega) (by omega)
set_option maxHeartbeats 4000000 in
theorem L_M_counted_42 {X : FX} {u : Un} (hA : Ap u) {Q : State → Prop} (F : Fr X u "TakerBookModel" b_M_counted 4) {σ : St} {n : Nat} {kd : Nat → Nat} (hb : mkOk σ n kd) {a : Nat} (ha : a < 64) (h0 : σ.1 76 0 = nI a) {τ : St} (fτ : fr σ τ) {w v0 : Nat} (hw : w < 11) (k : V X u 1 4 Q 77 [(0, .ref (u.2.1 63)), (1, .int (nI w)), (2, .int (nI (v0 + cIf w 8 (cntN (prB σ 65) 6)))), (3, .int (nI 6))] [] (τ)) : ∀ (nn k : Nat), k ≤ 6 → 6 - k < nn → V X u 1 4 Q 42 [(0, .ref (u.2.1 63)), (1, .int (nI w)), (2, .int (nI (v0 + cIf w 8 (cntN (prB σ 65) k)))), (3, .int (nI k))] [] (τ) := by
  intro nn
  induction nn with
  | zero =>
    intro k h1 h2
    exact absurd h2 (Nat.not_lt_zero _)
  | succ nn ih =>
    intro k hii hnn
    obtain ⟨hn, hn6, hkd, hk6⟩ := id hb
    refine v_iload_n F d_M_counted_42 rfl 3 rfl ?_
    refine v_bipush (v := 6) F d_M_counted_43 kb_6 ?_
    refine v_icmp_ge F 77 d_M_counted_45 rfl (fun h45 => ?_) (fun h45 => ?_)
    · skip
      have h45 : 6 ≤ k := (nI_leI (a := 6) (b := k) (by omega) (by omega)).mp h45
      have he : k = 6 := by omega
      subst he
      exact k
    · skip
      have h45 : ¬ 6 ≤ k := fun q => h45 ((nI_leI (a := 6) (b := k) (by omega) (by omega)).mpr q)
      refine v_iload_n F d_M_counted_48 rfl 2 rfl ?_
      refine v_iload_n F d_M_counted_49 rfl 1 rfl ?_
      refine v_bipush (v := 8) F d_M_counted_50 kb_8 ?_
      refine v_icmp_ne F 68 d_M_counted_52 rfl (fun h52 => ?_) (fun h52 => ?_)
      · skip
        have h52 : ¬ w = 8 := fun q => h52 ((nI_eq (a := w) (b := 8) (by omega) (by omega)).mpr q)
        refine v_iconst (v := 0) F d_M_counted_68 ki_0 ?_
        refine v_iadd F d_M_counted_69 ?_
        refine v_te (y := nI (v0 + cIf w 8 (cntN (prB σ 65) k) + 0)) (nI_add _ _) ?_
        refine v_istore_n (ls' := [(2, .int (nI (v0 + cIf w 8 (cntN (prB σ 65) k) + 0))), (0, .ref (u.2.1 63)), (1, .int (nI w)), (3, .int (nI k))]) F d_M_counted_70 rfl (by decide) rfl ?_
        refine v_iinc (v := nI (k + 1)) (ls' := [(3, .int (nI (k + 1))), (2, .int (nI (v0 + cIf w 8 (cntN (prB σ 65) k) + 0))), (0, .ref (u.2.1 63)), (1, .int (nI w))]) F d_M_counted_71 (j := 3) rfl (nI_inc _) (by decide) rfl ?_
        refine v_goto F 42 d_M_counted_74 rfl ?_
        refine v_sub [2, 3, 1, 0] (ls' := [(0, .ref (u.2.1 63)), (1, .int (nI w)), (2, .int (nI (v0 + cIf w 8 (cntN (prB σ 65) k) + 0))), (3, .int (nI (k + 1)))]) rfl ?_
        have g1 : (nI (v0 + cIf w 8 (cntN (prB σ 65) k) + 0)) = (nI (v0 + cIf w 8 (cntN (prB σ 65) (k + 1)))) := (by first | rfl | (rw [cI_s (by assumption) (by assumption), ← Nat.add_assoc]; done) | (rw [cI_f (by assumption)]; first | done | rfl) | (rw [cI_n (d := cntN (prB σ 65) (k + 1)) (by assumption)]; first | done | rfl))
        refine v_to (ls' := [(0, .ref (u.2.1 63)), (1, .int (nI w)), (2, .int (nI (v0 + cIf w 8 (cntN (prB σ 65) (k + 1))))), (3, .int (nI (k + 1)))]) (by first | rfl | rw [g1] | simp_all) ?_
        exact ih (k + 1) (by omega) (by omega)
      · skip
        have h52 : w = 8 := (nI_eq (a := w) (b := 8) (by omega) (by omega)).mp h52
        refine v_aload_n F d_M_counted_55 rfl 0 rfl ?_
        refine v_getr (r := 65) F fk_M_17 G63 rfl d_M_counted_56 ?_
        refine v_iload_n F d_M_counted_59 rfl 3 rfl ?_
        refine v_ial F k G65 rfl (by omega) d_M_counted_60 ?_
        refine v_te (y := σ.1 65 k) (fτ.1 65 k rfl) ?_
        refine v_if_lt F 68 d_M_counted_61 rfl (fun h61 => ?_) (fun h61 => ?_)
        · skip
          have hq : ¬ prB σ 65 k = true := fun q => absurd (of_decide_eq_true q) (lt_le_i h61)
          refine v_iconst (v := 0) F d_M_counted_68 ki_0 ?_
          refine v_iadd F d_M_counted_69 ?_
          refine v_te (y := nI (v0 + cIf w 8 (cntN (prB σ 65) k) + 0)) (nI_add _ _) ?_
          refine v_istore_n (ls' := [(2, .int (nI (v0 + cIf w 8 (cntN (prB σ 65) k) + 0))), (0, .ref (u.2.1 63)), (1, .int (nI w)), (3, .int (nI k))]) F d_M_counted_70 rfl (by decide) rfl ?_
          refine v_iinc (v := nI (k + 1)) (ls' := [(3, .int (nI (k + 1))), (2, .int (nI (v0 + cIf w 8 (cntN (prB σ 65) k) + 0))), (0, .ref (u.2.1 63)), (1, .int (nI w))]) F d_M_counted_71 (j := 3) rfl (nI_inc _) (by decide) rfl ?_
          refine v_goto F 42 d_M_counted_74 rfl ?_
          refine v_sub [2, 3, 1, 0] (ls' := [(0, .ref (u.2.1 63)), (1, .int (nI w)), (2, .int (nI (v0 + cIf w 8 (cntN (prB σ 65) k) + 0))), (3, .int (nI (k + 1)))]) rfl ?_
          have g2 : (nI (v0 + cIf w 8 (cntN (prB σ 65) k) + 0)) = (nI (v0 + cIf w 8 (cntN (prB σ 65) (k + 1)))) := (by first | rfl | (rw [cI_s (by assumption) (by assumption), ← Nat.add_assoc]; done) | (rw [cI_f (by assumption)]; first | done | rfl) | (rw [cI_n (d := cntN (prB σ 65) (k + 1)) (by assumption)]; first | done | rfl))
          refine v_to (ls' := [(0, .ref (u.2.1 63)), (1, .int (nI w)), (2, .int (nI (v0 + cIf w 8 (cntN (prB σ 65) (k + 1))))), (3, .int (nI (k + 1)))]) (by first | rfl | rw [g2] | simp_all) ?_
          exact ih (k + 1) (by omega) (by omega)
        · skip
          have hq : prB σ 65 k = true := decide_eq_true (i_nlt.mp h61)
          refine v_iconst (v := 1) F d_M_counted_64 ki_1 ?_
          refine v_goto F 69 d_M_counted_65 rfl ?_
          refine v_iadd F d_M_counted_69 ?_
          refine v_te (y := nI (v0 + cIf w 8 (cntN (prB σ 65) k) + 1)) (nI_add _ _) ?_
          refine v_istore_n (ls' := [(2, .int (nI (v0 + cIf w 8 (cntN (prB σ 65) k) + 1))), (0, .ref (u.2.1 63)), (1, .int (nI w)), (3, .int (nI k))]) F d_M_counted_70 rfl (by decide) rfl ?_
          refine v_iinc (v := nI (k + 1)) (ls' := [(3, .int (nI (k + 1))), (2, .int (nI (v0 + cIf w 8 (cntN (prB σ 65) k) + 1))), (0, .ref (u.2.1 63)), (1, .int (nI w))]) F d_M_counted_71 (j := 3) rfl (nI_inc _) (by decide) rfl ?_
          refine v_goto F 42 d_M_counted_74 rfl ?_
          refine v_sub [2, 3, 1, 0] (ls' := [(0, .ref (u.2.1 63)), (1, .int (nI w)), (2, .int (nI (v0 + cIf w 8 (cntN (prB σ 65) k) + 1))), (3, .int (nI (k + 1)))]) rfl ?_
          have g3 : (nI (v0 + cIf w 8 (cntN (prB σ 65) k) + 1)) = (nI (v0 + cIf w 8 (cntN (prB σ 65) (k + 1)))) := (by first | rfl | (rw [cI_s (by assumption) (by assumption), ← Nat.add_assoc]; done) | (rw [cI_f (by assumption)]; first | done | rfl) | (rw [cI_n (d := cntN (prB σ 65) (k + 1)) (by assumption)]; first | done | rfl))
          refine v_to (ls' := [(0, .ref (u.2.1 63)), (1, .int (nI w)), (2, .int (nI (v0 + cIf w 8 (cntN (prB σ 65) (k + 1))))), (3, .int (nI (k + 1)))]) (by first | rfl | rw [g3] | simp_all) ?_
          exact ih (k + 1) (by omega) (by omega)
set_option maxHeartbeats 4000000 in
theorem L_M_counted_79 {X : FX} {u : Un} (hA : Ap u) {Q : State → Prop} (F : Fr X u "TakerBookModel" b_M_counted 4) {σ : St} {n : Nat} {kd : Nat → Nat} (hb : mkOk σ n kd) {a : Nat} (ha : a < 64) (h0 : σ.1 76 0 = nI a) {τ : St} (fτ : fr σ τ) {w v0 : Nat} (hw : w < 11) (k : V X u 1 4 Q 113 [(0, .ref (u.2.1 63)), (1, .int (nI w)), (2, .int (nI (v0 + cIf w 9 (cntN (prB σ 68) 4)))), (3, .int (nI 4))] [] (τ)) : ∀ (nn k : Nat), k ≤ 4 → 4 - k < nn → V X u 1 4 Q 79 [(0, .ref (u.2.1 63)), (1, .int (nI w)), (2, .int (nI (v0 + cIf w 9 (cntN (prB σ 68) k)))), (3, .int (nI k))] [] (τ) := by
  intro nn
  induction nn with
  | zero =>
    intro k h1 h2
    exact absurd h2 (Nat.not_lt_zero _)
  | succ nn ih =>
    intro k hii hnn
    obtain ⟨hn, hn6, hkd, hk6⟩ := id hb
    refine v_iload_n F d_M_counted_79 rfl 3 rfl ?_
    refine v_iconst (v := 4) F d_M_counted_80 ki_4 ?_
    refine v_icmp_ge F 113 d_M_counted_81 rfl (fun h81 => ?_) (fun h81 => ?_)
    · skip
      have h81 : 4 ≤ k := (nI_leI (a := 4) (b := k) (by omega) (by omega)).mp h81
      have he : k = 4 := by omega
      subst he
      exact k
    · skip
      have h81 : ¬ 4 ≤ k := fun q => h81 ((nI_leI (a := 4) (b := k) (by omega) (by omega)).mpr q)
      refine v_iload_n F d_M_counted_84 rfl 2 rfl ?_
      refine v_iload_n F d_M_counted_85 rfl 1 rfl ?_
      refine v_bipush (v := 9) F d_M_counted_86 kb_9 ?_
      refine v_icmp_ne F 104 d_M_counted_88 rfl (fun h88 => ?_) (fun h88 => ?_)
      · skip
        have h88 : ¬ w = 9 := fun q => h88 ((nI_eq (a := w) (b := 9) (by omega) (by omega)).mpr q)
        refine v_iconst (v := 0) F d_M_counted_104 ki_0 ?_
        refine v_iadd F d_M_counted_105 ?_
        refine v_te (y := nI (v0 + cIf w 9 (cntN (prB σ 68) k) + 0)) (nI_add _ _) ?_
        refine v_istore_n (ls' := [(2, .int (nI (v0 + cIf w 9 (cntN (prB σ 68) k) + 0))), (0, .ref (u.2.1 63)), (1, .int (nI w)), (3, .int (nI k))]) F d_M_counted_106 rfl (by decide) rfl ?_
        refine v_iinc (v := nI (k + 1)) (ls' := [(3, .int (nI (k + 1))), (2, .int (nI (v0 + cIf w 9 (cntN (prB σ 68) k) + 0))), (0, .ref (u.2.1 63)), (1, .int (nI w))]) F d_M_counted_107 (j := 3) rfl (nI_inc _) (by decide) rfl ?_
        refine v_goto F 79 d_M_counted_110 rfl ?_
        refine v_sub [2, 3, 1, 0] (ls' := [(0, .ref (u.2.1 63)), (1, .int (nI w)), (2, .int (nI (v0 + cIf w 9 (cntN (prB σ 68) k) + 0))), (3, .int (nI (k + 1)))]) rfl ?_
        have g1 : (nI (v0 + cIf w 9 (cntN (prB σ 68) k) + 0)) = (nI (v0 + cIf w 9 (cntN (prB σ 68) (k + 1)))) := (by first | rfl | (rw [cI_s (by assumption) (by assumption), ← Nat.add_assoc]; done) | (rw [cI_f (by assumption)]; first | done | rfl) | (rw [cI_n (d := cntN (prB σ 68) (k + 1)) (by assumption)]; first | done | rfl))
        refine v_to (ls' := [(0, .ref (u.2.1 63)), (1, .int (nI w)), (2, .int (nI (v0 + cIf w 9 (cntN (prB σ 68) (k + 1))))), (3, .int (nI (k + 1)))]) (by first | rfl | rw [g1] | simp_all) ?_
        exact ih (k + 1) (by omega) (by omega)
      · skip
        have h88 : w = 9 := (nI_eq (a := w) (b := 9) (by omega) (by omega)).mp h88
        refine v_aload_n F d_M_counted_91 rfl 0 rfl ?_
        refine v_getr (r := 68) F fk_M_26 G63 rfl d_M_counted_92 ?_
        refine v_iload_n F d_M_counted_95 rfl 3 rfl ?_
        refine v_ial F k G68 rfl (by omega) d_M_counted_96 ?_
        refine v_te (y := σ.1 68 k) (fτ.1 68 k rfl) ?_
        refine v_if_lt F 104 d_M_counted_97 rfl (fun h97 => ?_) (fun h97 => ?_)
        · skip
          have hq : ¬ prB σ 68 k = true := fun q => absurd (of_decide_eq_true q) (lt_le_i h97)
          refine v_iconst (v := 0) F d_M_counted_104 ki_0 ?_
          refine v_iadd F d_M_counted_105 ?_
          refine v_te (y := nI (v0 + cIf w 9 (cntN (prB σ 68) k) + 0)) (nI_add _ _) ?_
          refine v_istore_n (ls' := [(2, .int (nI (v0 + cIf w 9 (cntN (prB σ 68) k) + 0))), (0, .ref (u.2.1 63)), (1, .int (nI w)), (3, .int (nI k))]) F d_M_counted_106 rfl (by decide) rfl ?_
          refine v_iinc (v := nI (k + 1)) (ls' := [(3, .int (nI (k + 1))), (2, .int (nI (v0 + cIf w 9 (cntN (prB σ 68) k) + 0))), (0, .ref (u.2.1 63)), (1, .int (nI w))]) F d_M_counted_107 (j := 3) rfl (nI_inc _) (by decide) rfl ?_
          refine v_goto F 79 d_M_counted_110 rfl ?_
          refine v_sub [2, 3, 1, 0] (ls' := [(0, .ref (u.2.1 63)), (1, .int (nI w)), (2, .int (nI (v0 + cIf w 9 (cntN (prB σ 68) k) + 0))), (3, .int (nI (k + 1)))]) rfl ?_
          have g2 : (nI (v0 + cIf w 9 (cntN (prB σ 68) k) + 0)) = (nI (v0 + cIf w 9 (cntN (prB σ 68) (k + 1)))) := (by first | rfl | (rw [cI_s (by assumption) (by assumption), ← Nat.add_assoc]; done) | (rw [cI_f (by assumption)]; first | done | rfl) | (rw [cI_n (d := cntN (prB σ 68) (k + 1)) (by assumption)]; first | done | rfl))
          refine v_to (ls' := [(0, .ref (u.2.1 63)), (1, .int (nI w)), (2, .int (nI (v0 + cIf w 9 (cntN (prB σ 68) (k + 1))))), (3, .int (nI (k + 1)))]) (by first | rfl | rw [g2] | simp_all) ?_
          exact ih (k + 1) (by omega) (by omega)
        · skip
          have hq : prB σ 68 k = true := decide_eq_true (i_nlt.mp h97)
          refine v_iconst (v := 1) F d_M_counted_100 ki_1 ?_
          refine v_goto F 105 d_M_counted_101 rfl ?_
          refine v_iadd F d_M_counted_105 ?_
          refine v_te (y := nI (v0 + cIf w 9 (cntN (prB σ 68) k) + 1)) (nI_add _ _) ?_
          refine v_istore_n (ls' := [(2, .int (nI (v0 + cIf w 9 (cntN (prB σ 68) k) + 1))), (0, .ref (u.2.1 63)), (1, .int (nI w)), (3, .int (nI k))]) F d_M_counted_106 rfl (by decide) rfl ?_
          refine v_iinc (v := nI (k + 1)) (ls' := [(3, .int (nI (k + 1))), (2, .int (nI (v0 + cIf w 9 (cntN (prB σ 68) k) + 1))), (0, .ref (u.2.1 63)), (1, .int (nI w))]) F d_M_counted_107 (j := 3) rfl (nI_inc _) (by decide) rfl ?_
          refine v_goto F 79 d_M_counted_110 rfl ?_
          refine v_sub [2, 3, 1, 0] (ls' := [(0, .ref (u.2.1 63)), (1, .int (nI w)), (2, .int (nI (v0 + cIf w 9 (cntN (prB σ 68) k) + 1))), (3, .int (nI (k + 1)))]) rfl ?_
          have g3 : (nI (v0 + cIf w 9 (cntN (prB σ 68) k) + 1)) = (nI (v0 + cIf w 9 (cntN (prB σ 68) (k + 1)))) := (by first | rfl | (rw [cI_s (by assumption) (by assumption), ← Nat.add_assoc]; done) | (rw [cI_f (by assumption)]; first | done | rfl) | (rw [cI_n (d := cntN (prB σ 68) (k + 1)) (by assumption)]; first | done | rfl))
          refine v_to (ls' := [(0, .ref (u.2.1 63)), (1, .int (nI w)), (2, .int (nI (v0 + cIf w 9 (cntN (prB σ 68) (k + 1))))), (3, .int (nI (k + 1)))]) (by first | rfl | rw [g3] | simp_all) ?_
          exact ih (k + 1) (by omega) (by omega)
set_option maxHeartbeats 4000000 in
theorem L_M_counted_115 {X : FX} {u : Un} (hA : Ap u) {Q : State → Prop} (F : Fr X u "TakerBookModel" b_M_counted 4) {σ : St} {n : Nat} {kd : Nat → Nat} (hb : mkOk σ n kd) {a : Nat} (ha : a < 64) (h0 : σ.1 76 0 = nI a) {τ : St} (fτ : fr σ τ) {w v0 : Nat} (hw : w < 11) (k : V X u 1 4 Q 149 [(0, .ref (u.2.1 63)), (1, .int (nI w)), (2, .int (nI (v0 + cIf w 10 (cntN (kpB2 σ) 3)))), (3, .int (nI 3))] [] (τ)) : ∀ (nn k : Nat), k ≤ 3 → 3 - k < nn → V X u 1 4 Q 115 [(0, .ref (u.2.1 63)), (1, .int (nI w)), (2, .int (nI (v0 + cIf w 10 (cntN (kpB2 σ) k)))), (3, .int (nI k))] [] (τ) := by
  intro nn
  induction nn with
  | zero =>
    intro k h1 h2
    exact absurd h2 (Nat.not_lt_zero _)
  | succ nn ih =>
    intro k hii hnn
    obtain ⟨hn, hn6, hkd, hk6⟩ := id hb
    refine v_iload_n F d_M_counted_115 rfl 3 rfl ?_
    refine v_iconst (v := 3) F d_M_counted_116 ki_3 ?_
    refine v_icmp_ge F 149 d_M_counted_117 rfl (fun h117 => ?_) (fun h117 => ?_)
    · skip
      have h117 : 3 ≤ k := (nI_leI (a := 3) (b := k) (by omega) (by omega)).mp h117
      have he : k = 3 := by omega
      subst he
      exact k
    · skip
      have h117 : ¬ 3 ≤ k := fun q => h117 ((nI_leI (a := 3) (b := k) (by omega) (by omega)).mpr q)
      refine v_iload_n F d_M_counted_120 rfl 2 rfl ?_
      refine v_iload_n F d_M_counted_121 rfl 1 rfl ?_
      refine v_bipush (v := 10) F d_M_counted_122 kb_10 ?_
      refine v_icmp_ne F 140 d_M_counted_124 rfl (fun h124 => ?_) (fun h124 => ?_)
      · skip
        have h124 : ¬ w = 10 := fun q => h124 ((nI_eq (a := w) (b := 10) (by omega) (by omega)).mpr q)
        refine v_iconst (v := 0) F d_M_counted_140 ki_0 ?_
        refine v_iadd F d_M_counted_141 ?_
        refine v_te (y := nI (v0 + cIf w 10 (cntN (kpB2 σ) k) + 0)) (nI_add _ _) ?_
        refine v_istore_n (ls' := [(2, .int (nI (v0 + cIf w 10 (cntN (kpB2 σ) k) + 0))), (0, .ref (u.2.1 63)), (1, .int (nI w)), (3, .int (nI k))]) F d_M_counted_142 rfl (by decide) rfl ?_
        refine v_iinc (v := nI (k + 1)) (ls' := [(3, .int (nI (k + 1))), (2, .int (nI (v0 + cIf w 10 (cntN (kpB2 σ) k) + 0))), (0, .ref (u.2.1 63)), (1, .int (nI w))]) F d_M_counted_143 (j := 3) rfl (nI_inc _) (by decide) rfl ?_
        refine v_goto F 115 d_M_counted_146 rfl ?_
        refine v_sub [2, 3, 1, 0] (ls' := [(0, .ref (u.2.1 63)), (1, .int (nI w)), (2, .int (nI (v0 + cIf w 10 (cntN (kpB2 σ) k) + 0))), (3, .int (nI (k + 1)))]) rfl ?_
        have g1 : (nI (v0 + cIf w 10 (cntN (kpB2 σ) k) + 0)) = (nI (v0 + cIf w 10 (cntN (kpB2 σ) (k + 1)))) := (by first | rfl | (rw [cI_s (by assumption) (by assumption), ← Nat.add_assoc]; done) | (rw [cI_f (by assumption)]; first | done | rfl) | (rw [cI_n (d := cntN (kpB2 σ) (k + 1)) (by assumption)]; first | done | rfl))
        refine v_to (ls' := [(0, .ref (u.2.1 63)), (1, .int (nI w)), (2, .int (nI (v0 + cIf w 10 (cntN (kpB2 σ) (k + 1))))), (3, .int (nI (k + 1)))]) (by first | rfl | rw [g1] | simp_all) ?_
        exact ih (k + 1) (by omega) (by omega)
      · skip
        have h124 : w = 10 := (nI_eq (a := w) (b := 10) (by omega) (by omega)).mp h124
        refine v_aload_n F d_M_counted_127 rfl 0 rfl ?_
        refine v_getr (r := 79) F fk_M_60 G63 rfl d_M_counted_128 ?_
        refine v_iload_n F d_M_counted_131 rfl 3 rfl ?_
        refine v_zal F k G79 rfl (by omega) d_M_counted_132 ?_
        refine v_te (y := σ.1 79 k) (fτ.1 79 k rfl) ?_
        refine v_if_eq F 140 d_M_counted_133 rfl (fun h133 => ?_) (fun h133 => ?_)
        · skip
          have hq : ¬ kpB2 σ k = true := fun q => absurd h133 (of_decide_eq_true q)
          refine v_iconst (v := 0) F d_M_counted_140 ki_0 ?_
          refine v_iadd F d_M_counted_141 ?_
          refine v_te (y := nI (v0 + cIf w 10 (cntN (kpB2 σ) k) + 0)) (nI_add _ _) ?_
          refine v_istore_n (ls' := [(2, .int (nI (v0 + cIf w 10 (cntN (kpB2 σ) k) + 0))), (0, .ref (u.2.1 63)), (1, .int (nI w)), (3, .int (nI k))]) F d_M_counted_142 rfl (by decide) rfl ?_
          refine v_iinc (v := nI (k + 1)) (ls' := [(3, .int (nI (k + 1))), (2, .int (nI (v0 + cIf w 10 (cntN (kpB2 σ) k) + 0))), (0, .ref (u.2.1 63)), (1, .int (nI w))]) F d_M_counted_143 (j := 3) rfl (nI_inc _) (by decide) rfl ?_
          refine v_goto F 115 d_M_counted_146 rfl ?_
          refine v_sub [2, 3, 1, 0] (ls' := [(0, .ref (u.2.1 63)), (1, .int (nI w)), (2, .int (nI (v0 + cIf w 10 (cntN (kpB2 σ) k) + 0))), (3, .int (nI (k + 1)))]) rfl ?_
          have g2 : (nI (v0 + cIf w 10 (cntN (kpB2 σ) k) + 0)) = (nI (v0 + cIf w 10 (cntN (kpB2 σ) (k + 1)))) := (by first | rfl | (rw [cI_s (by assumption) (by assumption), ← Nat.add_assoc]; done) | (rw [cI_f (by assumption)]; first | done | rfl) | (rw [cI_n (d := cntN (kpB2 σ) (k + 1)) (by assumption)]; first | done | rfl))
          refine v_to (ls' := [(0, .ref (u.2.1 63)), (1, .int (nI w)), (2, .int (nI (v0 + cIf w 10 (cntN (kpB2 σ) (k + 1))))), (3, .int (nI (k + 1)))]) (by first | rfl | rw [g2] | simp_all) ?_
          exact ih (k + 1) (by omega) (by omega)
        · skip
          have hq : kpB2 σ k = true := decide_eq_true h133
          refine v_iconst (v := 1) F d_M_counted_136 ki_1 ?_
          refine v_goto F 141 d_M_counted_137 rfl ?_
          refine v_iadd F d_M_counted_141 ?_
          refine v_te (y := nI (v0 + cIf w 10 (cntN (kpB2 σ) k) + 1)) (nI_add _ _) ?_
          refine v_istore_n (ls' := [(2, .int (nI (v0 + cIf w 10 (cntN (kpB2 σ) k) + 1))), (0, .ref (u.2.1 63)), (1, .int (nI w)), (3, .int (nI k))]) F d_M_counted_142 rfl (by decide) rfl ?_
          refine v_iinc (v := nI (k + 1)) (ls' := [(3, .int (nI (k + 1))), (2, .int (nI (v0 + cIf w 10 (cntN (kpB2 σ) k) + 1))), (0, .ref (u.2.1 63)), (1, .int (nI w))]) F d_M_counted_143 (j := 3) rfl (nI_inc _) (by decide) rfl ?_
          refine v_goto F 115 d_M_counted_146 rfl ?_
          refine v_sub [2, 3, 1, 0] (ls' := [(0, .ref (u.2.1 63)), (1, .int (nI w)), (2, .int (nI (v0 + cIf w 10 (cntN (kpB2 σ) k) + 1))), (3, .int (nI (k + 1)))]) rfl ?_
          have g3 : (nI (v0 + cIf w 10 (cntN (kpB2 σ) k) + 1)) = (nI (v0 + cIf w 10 (cntN (kpB2 σ) (k + 1)))) := (by first | rfl | (rw [cI_s (by assumption) (by assumption), ← Nat.add_assoc]; done) | (rw [cI_f (by assumption)]; first | done | rfl) | (rw [cI_n (d := cntN (kpB2 σ) (k + 1)) (by assumption)]; first | done | rfl))
          refine v_to (ls' := [(0, .ref (u.2.1 63)), (1, .int (nI w)), (2, .int (nI (v0 + cIf w 10 (cntN (kpB2 σ) (k + 1))))), (3, .int (nI (k + 1)))]) (by first | rfl | rw [g3] | simp_all) ?_
          exact ih (k + 1) (by omega) (by omega)
set_option maxHeartbeats 4000000 in
theorem c_M_counted (l : Launch) (u : Un) (hA : Ap u) {σ τ : St} (fτ : fr σ τ) {n : Nat} {kd : Nat → Nat} (hb : mkOk σ n kd) {a : Nat} (ha : a < 64) (h0 : σ.1 76 0 = nI a) {D : Nat} (hD : σ.1 63 22 = nI D) (hD40 : D ≤ 40) (w : Nat) (hw : w < 11) : MTi l u y_M_counted b_M_counted 4 .int 1 [.ref (u.2.1 63), .int (nI w)] τ (fun ans σ' => ctM σ kd n a D w = ans ∧ τ = σ') := by
  refine MT_of hA rfl (by decide) (Nat.le_of_ble_eq_true rfl) (fun X hl F hr => ?_)
  subst hl
  refine v_to (ls' := [(0, .ref (u.2.1 63)), (1, .int (nI w))]) rfl ?_
  obtain ⟨hn, hn6, hkd, hk6⟩ := id hb
  refine v_iconst (v := 0) F d_M_counted_0 ki_0 ?_
  refine v_istore_n (ls' := [(2, .int 0), (0, .ref (u.2.1 63)), (1, .int (nI w))]) F d_M_counted_1 rfl (by decide) rfl ?_
  refine v_iconst (v := 0) F d_M_counted_2 ki_0 ?_
  refine v_istore_n (ls' := [(3, .int 0), (2, .int 0), (0, .ref (u.2.1 63)), (1, .int (nI w))]) F d_M_counted_3 rfl (by decide) rfl ?_
  refine v_sub [2, 3, 1, 0] (ls' := [(0, .ref (u.2.1 63)), (1, .int (nI w)), (2, .int 0), (3, .int 0)]) rfl ?_
  have g1 : 0 = (nI (0 + cIf w 7 (cntN (fun k => isG (kd k)) 0))) := (by first | rfl | (show nI _ = nI (_ + cIf w 7 0); rw [cI_0]; first | done | rfl))
  have g2 : 0 = (nI 0) := (by first | rfl | (show nI _ = nI (_ + cIf w 7 0); rw [cI_0]; first | done | rfl))
  refine v_to (ls' := [(0, .ref (u.2.1 63)), (1, .int (nI w)), (2, .int (nI (0 + cIf w 7 (cntN (fun k => isG (kd k)) 0)))), (3, .int (nI 0))]) (by first | rfl | rw [g1, g2] | simp_all) ?_
  refine L_M_counted_4 hA F hb ha h0 fτ hw ?_ _ 0 (Nat.zero_le _) (Nat.lt_succ_self _)
  refine v_iconst (v := 0) F d_M_counted_40 ki_0 ?_
  refine v_istore_n (ls' := [(3, .int 0), (0, .ref (u.2.1 63)), (1, .int (nI w)), (2, .int (nI (0 + cIf w 7 (cntN (fun k => isG (kd k)) n))))]) F d_M_counted_41 rfl (by decide) rfl ?_
  refine v_sub [1, 2, 3, 0] (ls' := [(0, .ref (u.2.1 63)), (1, .int (nI w)), (2, .int (nI (0 + cIf w 7 (cntN (fun k => isG (kd k)) n)))), (3, .int 0)]) rfl ?_
  have g3 : (nI (0 + cIf w 7 (cntN (fun k => isG (kd k)) n))) = (nI (0 + cIf w 7 (cntN (fun k => isG (kd k)) n) + cIf w 8 (cntN (prB σ 65) 0))) := (by first | rfl | (show nI _ = nI (_ + cIf w 8 0); rw [cI_0]; first | done | rfl))
  have g4 : 0 = (nI 0) := (by first | rfl | (show nI _ = nI (_ + cIf w 8 0); rw [cI_0]; first | done | rfl))
  refine v_to (ls' := [(0, .ref (u.2.1 63)), (1, .int (nI w)), (2, .int (nI (0 + cIf w 7 (cntN (fun k => isG (kd k)) n) + cIf w 8 (cntN (prB σ 65) 0)))), (3, .int (nI 0))]) (by first | rfl | rw [g3, g4] | simp_all) ?_
  refine L_M_counted_42 hA F hb ha h0 fτ hw ?_ _ 0 (Nat.zero_le _) (Nat.lt_succ_self _)
  refine v_iconst (v := 0) F d_M_counted_77 ki_0 ?_
  refine v_istore_n (ls' := [(3, .int 0), (0, .ref (u.2.1 63)), (1, .int (nI w)), (2, .int (nI (0 + cIf w 7 (cntN (fun k => isG (kd k)) n) + cIf w 8 (cntN (prB σ 65) 6))))]) F d_M_counted_78 rfl (by decide) rfl ?_
  refine v_sub [1, 2, 3, 0] (ls' := [(0, .ref (u.2.1 63)), (1, .int (nI w)), (2, .int (nI (0 + cIf w 7 (cntN (fun k => isG (kd k)) n) + cIf w 8 (cntN (prB σ 65) 6)))), (3, .int 0)]) rfl ?_
  have g5 : (nI (0 + cIf w 7 (cntN (fun k => isG (kd k)) n) + cIf w 8 (cntN (prB σ 65) 6))) = (nI (0 + cIf w 7 (cntN (fun k => isG (kd k)) n) + cIf w 8 (cntN (prB σ 65) 6) + cIf w 9 (cntN (prB σ 68) 0))) := (by first | rfl | (show nI _ = nI (_ + cIf w 9 0); rw [cI_0]; first | done | rfl))
  have g6 : 0 = (nI 0) := (by first | rfl | (show nI _ = nI (_ + cIf w 9 0); rw [cI_0]; first | done | rfl))
  refine v_to (ls' := [(0, .ref (u.2.1 63)), (1, .int (nI w)), (2, .int (nI (0 + cIf w 7 (cntN (fun k => isG (kd k)) n) + cIf w 8 (cntN (prB σ 65) 6) + cIf w 9 (cntN (prB σ 68) 0)))), (3, .int (nI 0))]) (by first | rfl | rw [g5, g6] | simp_all) ?_
  refine L_M_counted_79 hA F hb ha h0 fτ hw ?_ _ 0 (Nat.zero_le _) (Nat.lt_succ_self _)
  refine v_iconst (v := 0) F d_M_counted_113 ki_0 ?_
  refine v_istore_n (ls' := [(3, .int 0), (0, .ref (u.2.1 63)), (1, .int (nI w)), (2, .int (nI (0 + cIf w 7 (cntN (fun k => isG (kd k)) n) + cIf w 8 (cntN (prB σ 65) 6) + cIf w 9 (cntN (prB σ 68) 4))))]) F d_M_counted_114 rfl (by decide) rfl ?_
  refine v_sub [1, 2, 3, 0] (ls' := [(0, .ref (u.2.1 63)), (1, .int (nI w)), (2, .int (nI (0 + cIf w 7 (cntN (fun k => isG (kd k)) n) + cIf w 8 (cntN (prB σ 65) 6) + cIf w 9 (cntN (prB σ 68) 4)))), (3, .int 0)]) rfl ?_
  have g7 : (nI (0 + cIf w 7 (cntN (fun k => isG (kd k)) n) + cIf w 8 (cntN (prB σ 65) 6) + cIf w 9 (cntN (prB σ 68) 4))) = (nI (0 + cIf w 7 (cntN (fun k => isG (kd k)) n) + cIf w 8 (cntN (prB σ 65) 6) + cIf w 9 (cntN (prB σ 68) 4) + cIf w 10 (cntN (kpB2 σ) 0))) := (by first | rfl | (show nI _ = nI (_ + cIf w 10 0); rw [cI_0]; first | done | rfl))
  have g8 : 0 = (nI 0) := (by first | rfl | (show nI _ = nI (_ + cIf w 10 0); rw [cI_0]; first | done | rfl))
  refine v_to (ls' := [(0, .ref (u.2.1 63)), (1, .int (nI w)), (2, .int (nI (0 + cIf w 7 (cntN (fun k => isG (kd k)) n) + cIf w 8 (cntN (prB σ 65) 6) + cIf w 9 (cntN (prB σ 68) 4) + cIf w 10 (cntN (kpB2 σ) 0)))), (3, .int (nI 0))]) (by first | rfl | rw [g7, g8] | simp_all) ?_
  refine L_M_counted_115 hA F hb ha h0 fτ hw ?_ _ 0 (Nat.zero_le _) (Nat.lt_succ_self _)
  refine v_iload_n F d_M_counted_149 rfl 1 rfl ?_
  rcases (show w = 0 ∨ w = 1 ∨ w = 2 ∨ w = 3 ∨ w = 4 ∨ w = 5 ∨ w = 6 ∨ w = 7 ∨ w = 8 ∨ w = 9 ∨ w = 10 from by omega) with hs | hs | hs | hs | hs | hs | hs | hs | hs | hs | hs
  · refine v_te (y := 0) (show nI w = 0 from by rw [hs]; rfl) ?_
    refine v_tableIn (off := 42) F 192 d_M_counted_150 (by decide) (by decide) (by decide) rfl ?_
    refine v_aload_n F d_M_counted_192 rfl 0 rfl ?_
    refine v_geti F fk_M_146 G63 rfl d_M_counted_193 ?_
    refine v_te (y := nI n) (fτ.v rfl hn) ?_
    refine v_iret F hr rfl d_M_counted_196 ?_
    subst hs; exact ⟨by first | rfl | (simp [ctM, cIf]; done), rfl⟩
  · refine v_te (y := 1) (show nI w = 1 from by rw [hs]; rfl) ?_
    refine v_tableIn (off := 47) F 197 d_M_counted_150 (by decide) (by decide) (by decide) rfl ?_
    refine v_aload_n F d_M_counted_197 rfl 0 rfl ?_
    refine v_getr (r := 76) F fk_M_51 G63 rfl d_M_counted_198 ?_
    refine v_iconst (v := 3) F d_M_counted_201 ki_3 ?_
    refine v_ial F 3 G76 rfl (by omega) d_M_counted_202 ?_
    refine v_te (y := σ.1 76 3) (fτ.1 76 3 rfl) ?_
    refine v_iret F hr rfl d_M_counted_203 ?_
    subst hs; exact ⟨by first | rfl | (simp [ctM, cIf]; done), rfl⟩
  · refine v_te (y := 2) (show nI w = 2 from by rw [hs]; rfl) ?_
    refine v_tableIn (off := 54) F 204 d_M_counted_150 (by decide) (by decide) (by decide) rfl ?_
    refine v_aload_n F d_M_counted_204 rfl 0 rfl ?_
    refine v_geti F fk_M_149 G63 rfl d_M_counted_205 ?_
    refine v_te (y := nI D) (fτ.v rfl hD) ?_
    refine v_iret F hr rfl d_M_counted_208 ?_
    subst hs; exact ⟨by first | rfl | (simp [ctM, cIf]; done), rfl⟩
  · refine v_te (y := 3) (show nI w = 3 from by rw [hs]; rfl) ?_
    refine v_tableIn (off := 59) F 209 d_M_counted_150 (by decide) (by decide) (by decide) rfl ?_
    refine v_aload_n F d_M_counted_209 rfl 0 rfl ?_
    refine v_getr (r := 76) F fk_M_51 G63 rfl d_M_counted_210 ?_
    refine v_iconst (v := 1) F d_M_counted_213 ki_1 ?_
    refine v_ial F 1 G76 rfl (by omega) d_M_counted_214 ?_
    refine v_te (y := σ.1 76 1) (fτ.1 76 1 rfl) ?_
    refine v_iret F hr rfl d_M_counted_215 ?_
    subst hs; exact ⟨by first | rfl | (simp [ctM, cIf]; done), rfl⟩
  · refine v_te (y := 4) (show nI w = 4 from by rw [hs]; rfl) ?_
    refine v_tableIn (off := 66) F 216 d_M_counted_150 (by decide) (by decide) (by decide) rfl ?_
    refine v_aload_n F d_M_counted_216 rfl 0 rfl ?_
    refine v_getr (r := 76) F fk_M_51 G63 rfl d_M_counted_217 ?_
    refine v_iconst (v := 2) F d_M_counted_220 ki_2 ?_
    refine v_ial F 2 G76 rfl (by omega) d_M_counted_221 ?_
    refine v_te (y := σ.1 76 2) (fτ.1 76 2 rfl) ?_
    refine v_iret F hr rfl d_M_counted_222 ?_
    subst hs; exact ⟨by first | rfl | (simp [ctM, cIf]; done), rfl⟩
  · refine v_te (y := 5) (show nI w = 5 from by rw [hs]; rfl) ?_
    refine v_tableIn (off := 73) F 223 d_M_counted_150 (by decide) (by decide) (by decide) rfl ?_
    refine v_aload_n F d_M_counted_223 rfl 0 rfl ?_
    refine v_getr (r := 76) F fk_M_51 G63 rfl d_M_counted_224 ?_
    refine v_iconst (v := 0) F d_M_counted_227 ki_0 ?_
    refine v_ial F 0 G76 rfl (by omega) d_M_counted_228 ?_
    refine v_te (y := nI a) (fτ.v rfl h0) ?_
    refine v_iret F hr rfl d_M_counted_229 ?_
    subst hs; exact ⟨by first | rfl | (simp [ctM, cIf]; done), rfl⟩
  · refine v_te (y := 6) (show nI w = 6 from by rw [hs]; rfl) ?_
    refine v_tableIn (off := 80) F 230 d_M_counted_150 (by decide) (by decide) (by decide) rfl ?_
    refine v_aload_n F d_M_counted_230 rfl 0 rfl ?_
    refine v_getr (r := 76) F fk_M_51 G63 rfl d_M_counted_231 ?_
    refine v_iconst (v := 4) F d_M_counted_234 ki_4 ?_
    refine v_ial F 4 G76 rfl (by omega) d_M_counted_235 ?_
    refine v_te (y := σ.1 76 4) (fτ.1 76 4 rfl) ?_
    refine v_iret F hr rfl d_M_counted_236 ?_
    subst hs; exact ⟨by first | rfl | (simp [ctM, cIf]; done), rfl⟩
  · refine v_te (y := 7) (show nI w = 7 from by rw [hs]; rfl) ?_
    refine v_tableOut F 237 d_M_counted_150 (by decide) rfl ?_
    refine v_iload_n F d_M_counted_237 rfl 2 rfl ?_
    refine v_iret F hr rfl d_M_counted_238 ?_
    subst hs; exact ⟨by first | rfl | (simp [ctM, cIf]; done), rfl⟩
  · refine v_te (y := 8) (show nI w = 8 from by rw [hs]; rfl) ?_
    refine v_tableOut F 237 d_M_counted_150 (by decide) rfl ?_
    refine v_iload_n F d_M_counted_237 rfl 2 rfl ?_
    refine v_iret F hr rfl d_M_counted_238 ?_
    subst hs; exact ⟨by first | rfl | (simp [ctM, cIf]; done), rfl⟩
  · refine v_te (y := 9) (show nI w = 9 from by rw [hs]; rfl) ?_
    refine v_tableOut F 237 d_M_counted_150 (by decide) rfl ?_
    refine v_iload_n F d_M_counted_237 rfl 2 rfl ?_
    refine v_iret F hr rfl d_M_counted_238 ?_
    subst hs; exact ⟨by first | rfl | (simp [ctM, cIf]; done), rfl⟩
  · refine v_te (y := 10) (show nI w = 10 from by rw [hs]; rfl) ?_
    refine v_tableOut F 237 d_M_counted_150 (by decide) rfl ?_
    refine v_iload_n F d_M_counted_237 rfl 2 rfl ?_
    refine v_iret F hr rfl d_M_counted_238 ?_
    subst hs; exact ⟨by first | rfl | (simp [ctM, cIf]; done), rfl⟩
abbrev b_M_count : ByteArray := prog_14_method_94_code
abbrev y_M_count : MethodName := ⟨"TakerBookModel", "count", "(I)I"⟩
theorem d_M_count_0 : decode b_M_count 0 = .ok (.iload_n 1, 1) := by decide +kernel
theorem d_M_count_1 : decode b_M_count 1 = .ok (.iconst 0, 1) := by decide +kernel
theorem d_M_count_2 : decode b_M_count 2 = .ok (.bipush 10, 2) := by decide +kernel
theorem d_M_count_4 : decode b_M_count 4 = .ok (.invokestatic 89, 3) := by decide +kernel
theorem d_M_count_7 : decode b_M_count 7 = .ok (.ifCond .eq 11, 3) := by decide +kernel
theorem d_M_count_10 : decode b_M_count 10 = .ok (.aload_n 0, 1) := by decide +kernel
theorem d_M_count_11 : decode b_M_count 11 = .ok (.iload_n 1, 1) := by decide +kernel
theorem d_M_count_12 : decode b_M_count 12 = .ok (.invokevirtual 311, 3) := by decide +kernel
theorem d_M_count_15 : decode b_M_count 15 = .ok (.goto 4, 3) := by decide +kernel
theorem d_M_count_18 : decode b_M_count 18 = .ok (.iconst (-1), 1) := by decide +kernel
theorem d_M_count_19 : decode b_M_count 19 = .ok (.ireturn, 1) := by decide +kernel
theorem mo_M_count : mok y_M_count b_M_count 2 (some .int) 1 := ⟨List.mem_of_getElem? (i := 1467) (by decide +kernel), ⟨by decide +kernel, by decide +kernel, by decide +kernel⟩, List.mem_of_getElem? (i := 86) (by decide +kernel), by decide⟩
set_option maxHeartbeats 4000000 in
theorem c_M_count (l : Launch) (u : Un) (hA : Ap u) (σ : St) {n : Nat} {kd : Nat → Nat} (hb : mkOk σ n kd) {a : Nat} (ha : a < 64) (h0 : σ.1 76 0 = nI a) {D : Nat} (hD : σ.1 63 22 = nI D) (hD40 : D ≤ 40) (x : Int32) : MTi l u y_M_count b_M_count 2 .int 2 [.ref (u.2.1 63), .int x] σ (fun ans σ' => (if 0 ≤ x ∧ x ≤ 10 then ctM σ kd n a D (ix x) else -1) = ans ∧ σ = σ') := by
  refine MT_of hA rfl (by decide) (Nat.le_of_ble_eq_true rfl) (fun X hl F hr => ?_)
  subst hl
  refine v_to (ls' := [(0, .ref (u.2.1 63)), (1, .int x)]) rfl ?_
  obtain ⟨hn, hn6, hkd, hk6⟩ := id hb
  refine v_iload_n F d_M_count_0 rfl 1 rfl ?_
  refine v_iconst (v := 0) F d_M_count_1 ki_0 ?_
  refine v_bipush (v := 10) F d_M_count_2 kb_10 ?_
  refine v_runi (r_S F (c_M_in X.2.1 u hA σ x 0 10 ) mo_M_in st_M_89 (by decide) rfl (Nat.le_of_ble_eq_true rfl) d_M_count_4) (fun r1 σ2 q3 => ?_)
  obtain ⟨rfl, rfl⟩ := q3
  refine v_bt F 18 d_M_count_7 rfl (fun h7 => ?_) (fun h7 => ?_)
  · skip
    refine v_iconst (v := (-1)) F d_M_count_18 ki_m1 ?_
    refine v_iret F hr rfl d_M_count_19 ?_
    refine ⟨?_, rfl⟩
    first | (rw [if_neg (by assumption)]; done) | (rw [if_pos (by assumption), xw]; done)
  · skip
    obtain ⟨w, hw, xw, rfl⟩ := nat_of (M := 10) h7.1 h7.2 rfl (by decide)
    refine v_aload_n F d_M_count_10 rfl 0 rfl ?_
    refine v_iload_n F d_M_count_11 rfl 1 rfl ?_
    refine v_runi (r_V F (c_M_counted X.2.1 u hA fr.rf hb ha h0 hD hD40 w (by omega)) mo_M_counted st_M_311 rc_63 (by decide) rfl (Nat.le_of_ble_eq_true rfl) d_M_count_12) (fun r4 σ5 q6 => ?_)
    obtain ⟨rfl, rfl⟩ := q6
    refine v_goto F 19 d_M_count_15 rfl ?_
    refine v_iret F hr rfl d_M_count_19 ?_
    refine ⟨?_, rfl⟩
    first | (rw [if_neg (by assumption)]; done) | (rw [if_pos (by assumption), xw]; done)
abbrev b_M_mix : ByteArray := prog_14_method_95_code
abbrev y_M_mix : MethodName := ⟨"TakerBookModel", "mix", "(J)V"⟩
theorem d_M_mix_0 : decode b_M_mix 0 = .ok (.aload_n 0, 1) := by decide +kernel
theorem d_M_mix_1 : decode b_M_mix 1 = .ok (.ldc2_w 314, 3) := by decide +kernel
theorem d_M_mix_4 : decode b_M_mix 4 = .ok (.aload_n 0, 1) := by decide +kernel
theorem d_M_mix_5 : decode b_M_mix 5 = .ok (.getfield 316, 3) := by decide +kernel
theorem d_M_mix_8 : decode b_M_mix 8 = .ok (.lmul, 1) := by decide +kernel
theorem d_M_mix_9 : decode b_M_mix 9 = .ok (.lload_n 1, 1) := by decide +kernel
theorem d_M_mix_10 : decode b_M_mix 10 = .ok (.ladd, 1) := by decide +kernel
theorem d_M_mix_11 : decode b_M_mix 11 = .ok (.putfield 316, 3) := by decide +kernel
theorem d_M_mix_14 : decode b_M_mix 14 = .ok (.return_, 1) := by decide +kernel
theorem mo_M_mix : mok y_M_mix b_M_mix 3 none 1 := ⟨List.mem_of_getElem? (i := 1480) (by decide +kernel), ⟨by decide +kernel, by decide +kernel, by decide +kernel⟩, List.mem_of_getElem? (i := 86) (by decide +kernel), by decide⟩
set_option maxHeartbeats 4000000 in
theorem c_M_mix (l : Launch) (u : Un) (hA : Ap u) (σ : St) (v : Int64) : MTv l u y_M_mix b_M_mix 3 0 [.ref (u.2.1 63), .long v] σ (fun σ' => σ' = uL σ 63 39 (31 * σ.2 63 39 + v)) := by
  refine MT_of hA rfl (by decide) (Nat.le_of_ble_eq_true rfl) (fun X hl F hr => ?_)
  subst hl
  refine v_to (ls' := [(0, .ref (u.2.1 63)), (1, .long v)]) rfl ?_
  refine v_aload_n F d_M_mix_0 rfl 0 rfl ?_
  refine v_ldc2 (v := 31) F kc_M_314 d_M_mix_1 ?_
  refine v_aload_n F d_M_mix_4 rfl 0 rfl ?_
  refine v_getl F fk_M_316 G63 rfl d_M_mix_5 ?_
  refine v_lmul F d_M_mix_8 ?_
  refine v_lload_n F d_M_mix_9 rfl 1 rfl ?_
  refine v_ladd F d_M_mix_10 ?_
  refine v_putl F fk_M_316 pk_M_hash G63 rfl d_M_mix_11 ?_
  refine v_ns (fun σ1 eσ1 => ?_)
  refine v_vret F hr d_M_mix_14 ?_
  assumption
abbrev b_M_mixBook : ByteArray := prog_14_method_96_code
abbrev y_M_mixBook : MethodName := ⟨"TakerBookModel", "mixBook", "()V"⟩
theorem d_M_mixBook_0 : decode b_M_mixBook 0 = .ok (.iconst 0, 1) := by decide +kernel
theorem d_M_mixBook_1 : decode b_M_mixBook 1 = .ok (.istore_n 1, 1) := by decide +kernel
theorem d_M_mixBook_2 : decode b_M_mixBook 2 = .ok (.iload_n 1, 1) := by decide +kernel
theorem d_M_mixBook_3 : decode b_M_mixBook 3 = .ok (.aload_n 0, 1) := by decide +kernel
theorem d_M_mixBook_4 : decode b_M_mixBook 4 = .ok (.getfield 146, 3) := by decide +kernel
theorem d_M_mixBook_7 : decode b_M_mixBook 7 = .ok (.if_icmp .ge 34, 3) := by decide +kernel
theorem d_M_mixBook_10 : decode b_M_mixBook 10 = .ok (.iconst 0, 1) := by decide +kernel
theorem d_M_mixBook_11 : decode b_M_mixBook 11 = .ok (.istore_n 2, 1) := by decide +kernel
theorem d_M_mixBook_12 : decode b_M_mixBook 12 = .ok (.iload_n 2, 1) := by decide +kernel
theorem d_M_mixBook_13 : decode b_M_mixBook 13 = .ok (.bipush 8, 2) := by decide +kernel
theorem d_M_mixBook_15 : decode b_M_mixBook 15 = .ok (.if_icmp .ge 20, 3) := by decide +kernel
theorem d_M_mixBook_18 : decode b_M_mixBook 18 = .ok (.aload_n 0, 1) := by decide +kernel
theorem d_M_mixBook_19 : decode b_M_mixBook 19 = .ok (.aload_n 0, 1) := by decide +kernel
theorem d_M_mixBook_20 : decode b_M_mixBook 20 = .ok (.iload_n 1, 1) := by decide +kernel
theorem d_M_mixBook_21 : decode b_M_mixBook 21 = .ok (.iload_n 2, 1) := by decide +kernel
theorem d_M_mixBook_22 : decode b_M_mixBook 22 = .ok (.invokevirtual 194, 3) := by decide +kernel
theorem d_M_mixBook_25 : decode b_M_mixBook 25 = .ok (.i2l, 1) := by decide +kernel
theorem d_M_mixBook_26 : decode b_M_mixBook 26 = .ok (.invokevirtual 319, 3) := by decide +kernel
theorem d_M_mixBook_29 : decode b_M_mixBook 29 = .ok (.iinc 2 1, 3) := by decide +kernel
theorem d_M_mixBook_32 : decode b_M_mixBook 32 = .ok (.goto (-20), 3) := by decide +kernel
theorem d_M_mixBook_35 : decode b_M_mixBook 35 = .ok (.iinc 1 1, 3) := by decide +kernel
theorem d_M_mixBook_38 : decode b_M_mixBook 38 = .ok (.goto (-36), 3) := by decide +kernel
theorem d_M_mixBook_41 : decode b_M_mixBook 41 = .ok (.iconst 0, 1) := by decide +kernel
theorem d_M_mixBook_42 : decode b_M_mixBook 42 = .ok (.istore_n 1, 1) := by decide +kernel
theorem d_M_mixBook_43 : decode b_M_mixBook 43 = .ok (.iload_n 1, 1) := by decide +kernel
theorem d_M_mixBook_44 : decode b_M_mixBook 44 = .ok (.iconst 3, 1) := by decide +kernel
theorem d_M_mixBook_45 : decode b_M_mixBook 45 = .ok (.if_icmp .ge 35, 3) := by decide +kernel
theorem d_M_mixBook_48 : decode b_M_mixBook 48 = .ok (.aload_n 0, 1) := by decide +kernel
theorem d_M_mixBook_49 : decode b_M_mixBook 49 = .ok (.aload_n 0, 1) := by decide +kernel
theorem d_M_mixBook_50 : decode b_M_mixBook 50 = .ok (.getfield 60, 3) := by decide +kernel
theorem d_M_mixBook_53 : decode b_M_mixBook 53 = .ok (.iload_n 1, 1) := by decide +kernel
theorem d_M_mixBook_54 : decode b_M_mixBook 54 = .ok (.baload, 1) := by decide +kernel
theorem d_M_mixBook_55 : decode b_M_mixBook 55 = .ok (.ifCond .eq 13, 3) := by decide +kernel
theorem d_M_mixBook_58 : decode b_M_mixBook 58 = .ok (.aload_n 0, 1) := by decide +kernel
theorem d_M_mixBook_59 : decode b_M_mixBook 59 = .ok (.getfield 64, 3) := by decide +kernel
theorem d_M_mixBook_62 : decode b_M_mixBook 62 = .ok (.iload_n 1, 1) := by decide +kernel
theorem d_M_mixBook_63 : decode b_M_mixBook 63 = .ok (.iaload, 1) := by decide +kernel
theorem d_M_mixBook_64 : decode b_M_mixBook 64 = .ok (.i2l, 1) := by decide +kernel
theorem d_M_mixBook_65 : decode b_M_mixBook 65 = .ok (.goto 6, 3) := by decide +kernel
theorem d_M_mixBook_68 : decode b_M_mixBook 68 = .ok (.ldc2_w 323, 3) := by decide +kernel
theorem d_M_mixBook_71 : decode b_M_mixBook 71 = .ok (.invokevirtual 319, 3) := by decide +kernel
theorem d_M_mixBook_74 : decode b_M_mixBook 74 = .ok (.iinc 1 1, 3) := by decide +kernel
theorem d_M_mixBook_77 : decode b_M_mixBook 77 = .ok (.goto (-34), 3) := by decide +kernel
theorem d_M_mixBook_80 : decode b_M_mixBook 80 = .ok (.return_, 1) := by decide +kernel
theorem mo_M_mixBook : mok y_M_mixBook b_M_mixBook 3 none 0 := ⟨List.mem_of_getElem? (i := 1485) (by decide +kernel), ⟨by decide +kernel, by decide +kernel, by decide +kernel⟩, List.mem_of_getElem? (i := 86) (by decide +kernel), by decide⟩
set_option maxHeartbeats 4000000 in
theorem L_M_mixBook_12 {X : FX} {u : Un} (hA : Ap u) {Q : State → Prop} (F : Fr X u "TakerBookModel" b_M_mixBook 3) {σ : St} {n : Nat} {kd : Nat → Nat} (hb : mkOk σ n kd) {a : Nat} (ha : a < 64) (h0 : σ.1 76 0 = nI a) {h : Int64} {i : Nat} (hi : i < n) (k0 : ∀ (w : Nat) (τ : St), fr σ τ → τ.2 63 39 = hsT (tlM σ kd n a) h ((i + 1)) → V X u 4 3 Q 35 [(0, .ref (u.2.1 63)), (1, .int (nI i))] [] (τ)) : ∀ (nn : Nat) (w : Nat) (τ : St), w ≤ 8 → fr σ τ → τ.2 63 39 = hsF (tlM σ kd n a i) (hsT (tlM σ kd n a) h i) w → 8 - w < nn → V X u 4 3 Q 12 [(0, .ref (u.2.1 63)), (1, .int (nI i)), (2, .int (nI w))] [] (τ) := by
  intro nn
  induction nn with
  | zero =>
    intro w τ hw fτ hh h2
    exact absurd h2 (Nat.not_lt_zero _)
  | succ nn ih =>
    intro w τ hw fτ hh hm
    obtain ⟨hn, hn6, hkd, hk6⟩ := id hb
    refine v_iload_n F d_M_mixBook_12 rfl 2 rfl ?_
    refine v_bipush (v := 8) F d_M_mixBook_13 kb_8 ?_
    refine v_icmp_ge F 35 d_M_mixBook_15 rfl (fun h15 => ?_) (fun h15 => ?_)
    · skip
      have h15 : 8 ≤ w := (nI_leI (a := 8) (b := w) (by omega) (by omega)).mp h15
      refine v_sub [0, 1] (ls' := [(0, .ref (u.2.1 63)), (1, .int (nI i))]) rfl ?_
      exact k0 w τ fτ (by have e : w = 8 := (by omega); subst e; exact hh)
    · skip
      have h15 : ¬ 8 ≤ w := fun q => h15 ((nI_leI (a := 8) (b := w) (by omega) (by omega)).mpr q)
      refine v_aload_n F d_M_mixBook_18 rfl 0 rfl ?_
      refine v_aload_n F d_M_mixBook_19 rfl 0 rfl ?_
      refine v_iload_n F d_M_mixBook_20 rfl 1 rfl ?_
      refine v_iload_n F d_M_mixBook_21 rfl 2 rfl ?_
      refine v_runi (r_V F (c_M_thiefTells X.2.1 u hA τ (fτ.mk hb) ha (fτ.v rfl h0) i w (by omega) (by omega)) mo_M_thiefTells st_M_194 rc_63 (by decide) rfl (Nat.le_of_ble_eq_true rfl) d_M_mixBook_22) (fun r1 σ2 q3 => ?_)
      obtain ⟨rfl, rfl⟩ := q3
      refine v_te (y := tlM σ kd n a i w) (tlM_f fτ kd n a i w) ?_
      refine v_i2l F d_M_mixBook_25 ?_
      refine v_runv (r_V F (c_M_mix X.2.1 u hA τ ((tlM σ kd n a i w).toInt64)) mo_M_mix st_M_319 rc_63 (by decide) rfl (Nat.le_of_ble_eq_true rfl) d_M_mixBook_26) (fun σ5 q6 => ?_)
      have eσ5 := q6
      have fσ5 : fr σ σ5 := by rw [eσ5]; exact fτ.l rfl
      refine v_iinc (v := nI (w + 1)) (ls' := [(2, .int (nI (w + 1))), (0, .ref (u.2.1 63)), (1, .int (nI i))]) F d_M_mixBook_29 (j := 2) rfl (nI_inc _) (by decide) rfl ?_
      refine v_goto F 12 d_M_mixBook_32 rfl ?_
      refine v_sub [1, 2, 0] (ls' := [(0, .ref (u.2.1 63)), (1, .int (nI i)), (2, .int (nI (w + 1)))]) rfl ?_
      exact ih (w + 1) (σ5) (by omega) fσ5 (by rw [eσ5, uL_s, hh]; rfl) (by omega)
set_option maxHeartbeats 4000000 in
theorem L_M_mixBook_2 {X : FX} {u : Un} (hA : Ap u) {Q : State → Prop} (F : Fr X u "TakerBookModel" b_M_mixBook 3) {σ : St} {n : Nat} {kd : Nat → Nat} (hb : mkOk σ n kd) {a : Nat} (ha : a < 64) (h0 : σ.1 76 0 = nI a) {h : Int64} (k0 : ∀ (i : Nat) (τ : St), fr σ τ → τ.2 63 39 = hsT (tlM σ kd n a) h n → V X u 4 3 Q 41 [(0, .ref (u.2.1 63))] [] (τ)) : ∀ (nn : Nat) (i : Nat) (τ : St), i ≤ n → fr σ τ → τ.2 63 39 = hsT (tlM σ kd n a) h i → n - i < nn → V X u 4 3 Q 2 [(0, .ref (u.2.1 63)), (1, .int (nI i))] [] (τ) := by
  intro nn
  induction nn with
  | zero =>
    intro i τ hi fτ hh h2
    exact absurd h2 (Nat.not_lt_zero _)
  | succ nn ih =>
    intro i τ hi fτ hh hm
    obtain ⟨hn, hn6, hkd, hk6⟩ := id hb
    refine v_iload_n F d_M_mixBook_2 rfl 1 rfl ?_
    refine v_aload_n F d_M_mixBook_3 rfl 0 rfl ?_
    refine v_geti F fk_M_146 G63 rfl d_M_mixBook_4 ?_
    refine v_te (y := nI n) (fτ.v rfl hn) ?_
    refine v_icmp_ge F 41 d_M_mixBook_7 rfl (fun h7 => ?_) (fun h7 => ?_)
    · skip
      have h7 : n ≤ i := (nI_leI (a := n) (b := i) (by omega) (by omega)).mp h7
      refine v_sub [0] (ls' := [(0, .ref (u.2.1 63))]) rfl ?_
      exact k0 i τ fτ (by have e : i = n := (by omega); subst e; exact hh)
    · skip
      have h7 : ¬ n ≤ i := fun q => h7 ((nI_leI (a := n) (b := i) (by omega) (by omega)).mpr q)
      refine v_iconst (v := 0) F d_M_mixBook_10 ki_0 ?_
      refine v_istore_n (ls' := [(2, .int 0), (0, .ref (u.2.1 63)), (1, .int (nI i))]) F d_M_mixBook_11 rfl (by decide) rfl ?_
      refine v_sub [1, 2, 0] (ls' := [(0, .ref (u.2.1 63)), (1, .int (nI i)), (2, .int 0)]) rfl ?_
      have g1 : 0 = (nI 0) := (by first | rfl | (simp_all; done) | grind)
      refine v_to (ls' := [(0, .ref (u.2.1 63)), (1, .int (nI i)), (2, .int (nI 0))]) (by first | rfl | rw [g1] | simp_all) ?_
      refine L_M_mixBook_12 hA F hb ha h0 (by omega) (fun w τ2 fτ2 hh2 => ?_) _ 0 τ (Nat.zero_le _) fτ hh (Nat.lt_succ_self _)
      refine v_iinc (v := nI (i + 1)) (ls' := [(1, .int (nI (i + 1))), (0, .ref (u.2.1 63))]) F d_M_mixBook_35 (j := 1) rfl (nI_inc _) (by decide) rfl ?_
      refine v_goto F 2 d_M_mixBook_38 rfl ?_
      refine v_sub [1, 0] (ls' := [(0, .ref (u.2.1 63)), (1, .int (nI (i + 1)))]) rfl ?_
      exact ih (i + 1) (τ2) (by omega) fτ2 hh2 (by omega)
set_option maxHeartbeats 4000000 in
theorem L_M_mixBook_43 {X : FX} {u : Un} (hA : Ap u) {Q : State → Prop} (F : Fr X u "TakerBookModel" b_M_mixBook 3) {σ : St} {n : Nat} {kd : Nat → Nat} (hb : mkOk σ n kd) {a : Nat} (ha : a < 64) (h0 : σ.1 76 0 = nI a) {h : Int64} (k0 : ∀ (k : Nat) (τ : St), fr σ τ → τ.2 63 39 = hsF (kpV σ) h 3 → V X u 4 3 Q 80 [(0, .ref (u.2.1 63))] [] (τ)) : ∀ (nn : Nat) (k : Nat) (τ : St), k ≤ 3 → fr σ τ → τ.2 63 39 = hsF (kpV σ) h k → 3 - k < nn → V X u 4 3 Q 43 [(0, .ref (u.2.1 63)), (1, .int (nI k))] [] (τ) := by
  intro nn
  induction nn with
  | zero =>
    intro k τ hk fτ hh h2
    exact absurd h2 (Nat.not_lt_zero _)
  | succ nn ih =>
    intro k τ hk fτ hh hm
    obtain ⟨hn, hn6, hkd, hk6⟩ := id hb
    refine v_iload_n F d_M_mixBook_43 rfl 1 rfl ?_
    refine v_iconst (v := 3) F d_M_mixBook_44 ki_3 ?_
    refine v_icmp_ge F 80 d_M_mixBook_45 rfl (fun h45 => ?_) (fun h45 => ?_)
    · skip
      have h45 : 3 ≤ k := (nI_leI (a := 3) (b := k) (by omega) (by omega)).mp h45
      refine v_sub [0] (ls' := [(0, .ref (u.2.1 63))]) rfl ?_
      exact k0 k τ fτ (by have e : k = 3 := (by omega); subst e; exact hh)
    · skip
      have h45 : ¬ 3 ≤ k := fun q => h45 ((nI_leI (a := 3) (b := k) (by omega) (by omega)).mpr q)
      refine v_aload_n F d_M_mixBook_48 rfl 0 rfl ?_
      refine v_aload_n F d_M_mixBook_49 rfl 0 rfl ?_
      refine v_getr (r := 79) F fk_M_60 G63 rfl d_M_mixBook_50 ?_
      refine v_iload_n F d_M_mixBook_53 rfl 1 rfl ?_
      refine v_zal F k G79 rfl (by omega) d_M_mixBook_54 ?_
      refine v_te (y := σ.1 79 k) (fτ.1 79 k rfl) ?_
      refine v_if_eq F 68 d_M_mixBook_55 rfl (fun h55 => ?_) (fun h55 => ?_)
      · skip
        refine v_ldc2 (v := (-1)) F kc_M_323 d_M_mixBook_68 ?_
        refine v_runv (r_V F (c_M_mix X.2.1 u hA τ (-1)) mo_M_mix st_M_319 rc_63 (by decide) rfl (Nat.le_of_ble_eq_true rfl) d_M_mixBook_71) (fun σ2 q3 => ?_)
        have eσ2 := q3
        have fσ2 : fr σ σ2 := by rw [eσ2]; exact fτ.l rfl
        refine v_iinc (v := nI (k + 1)) (ls' := [(1, .int (nI (k + 1))), (0, .ref (u.2.1 63))]) F d_M_mixBook_74 (j := 1) rfl (nI_inc _) (by decide) rfl ?_
        refine v_goto F 43 d_M_mixBook_77 rfl ?_
        refine v_sub [1, 0] (ls' := [(0, .ref (u.2.1 63)), (1, .int (nI (k + 1)))]) rfl ?_
        exact ih (k + 1) (σ2) (by omega) fσ2 (by rw [eσ2, uL_s, hh]; show _ = 31 * _ + (kpV σ k).toInt64; unfold kpV; first | (rw [if_pos (by assumption), m1L]; done) | (rw [if_neg (by assumption)]; done)) (by omega)
      · skip
        refine v_aload_n F d_M_mixBook_58 rfl 0 rfl ?_
        refine v_getr (r := 80) F fk_M_64 G63 rfl d_M_mixBook_59 ?_
        refine v_iload_n F d_M_mixBook_62 rfl 1 rfl ?_
        refine v_ial F k G80 rfl (by omega) d_M_mixBook_63 ?_
        refine v_te (y := σ.1 80 k) (fτ.1 80 k rfl) ?_
        refine v_i2l F d_M_mixBook_64 ?_
        refine v_goto F 71 d_M_mixBook_65 rfl ?_
        refine v_runv (r_V F (c_M_mix X.2.1 u hA τ ((σ.1 80 k).toInt64)) mo_M_mix st_M_319 rc_63 (by decide) rfl (Nat.le_of_ble_eq_true rfl) d_M_mixBook_71) (fun σ5 q6 => ?_)
        have eσ5 := q6
        have fσ5 : fr σ σ5 := by rw [eσ5]; exact fτ.l rfl
        refine v_iinc (v := nI (k + 1)) (ls' := [(1, .int (nI (k + 1))), (0, .ref (u.2.1 63))]) F d_M_mixBook_74 (j := 1) rfl (nI_inc _) (by decide) rfl ?_
        refine v_goto F 43 d_M_mixBook_77 rfl ?_
        refine v_sub [1, 0] (ls' := [(0, .ref (u.2.1 63)), (1, .int (nI (k + 1)))]) rfl ?_
        exact ih (k + 1) (σ5) (by omega) fσ5 (by rw [eσ5, uL_s, hh]; show _ = 31 * _ + (kpV σ k).toInt64; unfold kpV; first | (rw [if_pos (by assumption), m1L]; done) | (rw [if_neg (by assumption)]; done)) (by omega)
set_option maxHeartbeats 4000000 in
theorem c_M_mixBook (l : Launch) (u : Un) (hA : Ap u) {σ τ : St} (fτ : fr σ τ) {n : Nat} {kd : Nat → Nat} (hb : mkOk σ n kd) {a : Nat} (ha : a < 64) (h0 : σ.1 76 0 = nI a) {h : Int64} (hh : τ.2 63 39 = h) : MTv l u y_M_mixBook b_M_mixBook 3 4 [.ref (u.2.1 63)] τ (fun σ' => fr σ σ' ∧ σ'.2 63 39 = hsF (kpV σ) (hsT (tlM σ kd n a) h n) 3) := by
  refine MT_of hA rfl (by decide) (Nat.le_of_ble_eq_true rfl) (fun X hl F hr => ?_)
  subst hl
  refine v_to (ls' := [(0, .ref (u.2.1 63))]) rfl ?_
  obtain ⟨hn, hn6, hkd, hk6⟩ := id hb
  refine v_iconst (v := 0) F d_M_mixBook_0 ki_0 ?_
  refine v_istore_n (ls' := [(1, .int 0), (0, .ref (u.2.1 63))]) F d_M_mixBook_1 rfl (by decide) rfl ?_
  refine v_sub [1, 0] (ls' := [(0, .ref (u.2.1 63)), (1, .int 0)]) rfl ?_
  have g1 : 0 = (nI 0) := (by first | rfl | (simp_all; done) | grind)
  refine v_to (ls' := [(0, .ref (u.2.1 63)), (1, .int (nI 0))]) (by first | rfl | rw [g1] | simp_all) ?_
  refine L_M_mixBook_2 hA F hb ha h0 (h := h) (fun i τ3 fτ3 hh3 => ?_) _ 0 τ (Nat.zero_le _) fτ hh (Nat.lt_succ_self _)
  refine v_iconst (v := 0) F d_M_mixBook_41 ki_0 ?_
  refine v_istore_n (ls' := [(1, .int 0), (0, .ref (u.2.1 63))]) F d_M_mixBook_42 rfl (by decide) rfl ?_
  refine v_sub [1, 0] (ls' := [(0, .ref (u.2.1 63)), (1, .int 0)]) rfl ?_
  have g2 : 0 = (nI 0) := (by first | rfl | (simp_all; done) | grind)
  refine v_to (ls' := [(0, .ref (u.2.1 63)), (1, .int (nI 0))]) (by first | rfl | rw [g2] | simp_all) ?_
  refine L_M_mixBook_43 hA F hb ha h0 (fun k τ4 fτ4 hh4 => ?_) _ 0 τ3 (Nat.zero_le _) fτ3 hh3 (Nat.lt_succ_self _)
  refine v_vret F hr d_M_mixBook_80 ?_
  exact ⟨fτ4, hh4⟩
abbrev b_M_digest : ByteArray := prog_14_method_97_code
abbrev y_M_digest : MethodName := ⟨"TakerBookModel", "digest", "()J"⟩
theorem d_M_digest_0 : decode b_M_digest 0 = .ok (.aload_n 0, 1) := by decide +kernel
theorem d_M_digest_1 : decode b_M_digest 1 = .ok (.ldc2_w 325, 3) := by decide +kernel
theorem d_M_digest_4 : decode b_M_digest 4 = .ok (.putfield 316, 3) := by decide +kernel
theorem d_M_digest_7 : decode b_M_digest 7 = .ok (.iconst 0, 1) := by decide +kernel
theorem d_M_digest_8 : decode b_M_digest 8 = .ok (.istore_n 1, 1) := by decide +kernel
theorem d_M_digest_9 : decode b_M_digest 9 = .ok (.iload_n 1, 1) := by decide +kernel
theorem d_M_digest_10 : decode b_M_digest 10 = .ok (.bipush 11, 2) := by decide +kernel
theorem d_M_digest_12 : decode b_M_digest 12 = .ok (.if_icmp .ge 19, 3) := by decide +kernel
theorem d_M_digest_15 : decode b_M_digest 15 = .ok (.aload_n 0, 1) := by decide +kernel
theorem d_M_digest_16 : decode b_M_digest 16 = .ok (.aload_n 0, 1) := by decide +kernel
theorem d_M_digest_17 : decode b_M_digest 17 = .ok (.iload_n 1, 1) := by decide +kernel
theorem d_M_digest_18 : decode b_M_digest 18 = .ok (.invokevirtual 311, 3) := by decide +kernel
theorem d_M_digest_21 : decode b_M_digest 21 = .ok (.i2l, 1) := by decide +kernel
theorem d_M_digest_22 : decode b_M_digest 22 = .ok (.invokevirtual 319, 3) := by decide +kernel
theorem d_M_digest_25 : decode b_M_digest 25 = .ok (.iinc 1 1, 3) := by decide +kernel
theorem d_M_digest_28 : decode b_M_digest 28 = .ok (.goto (-19), 3) := by decide +kernel
theorem d_M_digest_31 : decode b_M_digest 31 = .ok (.aload_n 0, 1) := by decide +kernel
theorem d_M_digest_32 : decode b_M_digest 32 = .ok (.invokevirtual 327, 3) := by decide +kernel
theorem d_M_digest_35 : decode b_M_digest 35 = .ok (.iconst 0, 1) := by decide +kernel
theorem d_M_digest_36 : decode b_M_digest 36 = .ok (.istore_n 1, 1) := by decide +kernel
theorem d_M_digest_37 : decode b_M_digest 37 = .ok (.iload_n 1, 1) := by decide +kernel
theorem d_M_digest_38 : decode b_M_digest 38 = .ok (.bipush 6, 2) := by decide +kernel
theorem d_M_digest_40 : decode b_M_digest 40 = .ok (.if_icmp .ge 49, 3) := by decide +kernel
theorem d_M_digest_43 : decode b_M_digest 43 = .ok (.aload_n 0, 1) := by decide +kernel
theorem d_M_digest_44 : decode b_M_digest 44 = .ok (.aload_n 0, 1) := by decide +kernel
theorem d_M_digest_45 : decode b_M_digest 45 = .ok (.getfield 17, 3) := by decide +kernel
theorem d_M_digest_48 : decode b_M_digest 48 = .ok (.iload_n 1, 1) := by decide +kernel
theorem d_M_digest_49 : decode b_M_digest 49 = .ok (.iaload, 1) := by decide +kernel
theorem d_M_digest_50 : decode b_M_digest 50 = .ok (.i2l, 1) := by decide +kernel
theorem d_M_digest_51 : decode b_M_digest 51 = .ok (.invokevirtual 319, 3) := by decide +kernel
theorem d_M_digest_54 : decode b_M_digest 54 = .ok (.iconst 0, 1) := by decide +kernel
theorem d_M_digest_55 : decode b_M_digest 55 = .ok (.istore_n 2, 1) := by decide +kernel
theorem d_M_digest_56 : decode b_M_digest 56 = .ok (.iload_n 2, 1) := by decide +kernel
theorem d_M_digest_57 : decode b_M_digest 57 = .ok (.aload_n 0, 1) := by decide +kernel
theorem d_M_digest_58 : decode b_M_digest 58 = .ok (.getfield 17, 3) := by decide +kernel
theorem d_M_digest_61 : decode b_M_digest 61 = .ok (.iload_n 1, 1) := by decide +kernel
theorem d_M_digest_62 : decode b_M_digest 62 = .ok (.iaload, 1) := by decide +kernel
theorem d_M_digest_63 : decode b_M_digest 63 = .ok (.if_icmp .ge 20, 3) := by decide +kernel
theorem d_M_digest_66 : decode b_M_digest 66 = .ok (.aload_n 0, 1) := by decide +kernel
theorem d_M_digest_67 : decode b_M_digest 67 = .ok (.aload_n 0, 1) := by decide +kernel
theorem d_M_digest_68 : decode b_M_digest 68 = .ok (.iload_n 1, 1) := by decide +kernel
theorem d_M_digest_69 : decode b_M_digest 69 = .ok (.iload_n 2, 1) := by decide +kernel
theorem d_M_digest_70 : decode b_M_digest 70 = .ok (.invokevirtual 107, 3) := by decide +kernel
theorem d_M_digest_73 : decode b_M_digest 73 = .ok (.i2l, 1) := by decide +kernel
theorem d_M_digest_74 : decode b_M_digest 74 = .ok (.invokevirtual 319, 3) := by decide +kernel
theorem d_M_digest_77 : decode b_M_digest 77 = .ok (.iinc 2 1, 3) := by decide +kernel
theorem d_M_digest_80 : decode b_M_digest 80 = .ok (.goto (-24), 3) := by decide +kernel
theorem d_M_digest_83 : decode b_M_digest 83 = .ok (.iinc 1 1, 3) := by decide +kernel
theorem d_M_digest_86 : decode b_M_digest 86 = .ok (.goto (-49), 3) := by decide +kernel
theorem d_M_digest_89 : decode b_M_digest 89 = .ok (.iconst 0, 1) := by decide +kernel
theorem d_M_digest_90 : decode b_M_digest 90 = .ok (.istore_n 1, 1) := by decide +kernel
theorem d_M_digest_91 : decode b_M_digest 91 = .ok (.iload_n 1, 1) := by decide +kernel
theorem d_M_digest_92 : decode b_M_digest 92 = .ok (.iconst 4, 1) := by decide +kernel
theorem d_M_digest_93 : decode b_M_digest 93 = .ok (.if_icmp .ge 49, 3) := by decide +kernel
theorem d_M_digest_96 : decode b_M_digest 96 = .ok (.aload_n 0, 1) := by decide +kernel
theorem d_M_digest_97 : decode b_M_digest 97 = .ok (.aload_n 0, 1) := by decide +kernel
theorem d_M_digest_98 : decode b_M_digest 98 = .ok (.getfield 26, 3) := by decide +kernel
theorem d_M_digest_101 : decode b_M_digest 101 = .ok (.iload_n 1, 1) := by decide +kernel
theorem d_M_digest_102 : decode b_M_digest 102 = .ok (.iaload, 1) := by decide +kernel
theorem d_M_digest_103 : decode b_M_digest 103 = .ok (.i2l, 1) := by decide +kernel
theorem d_M_digest_104 : decode b_M_digest 104 = .ok (.invokevirtual 319, 3) := by decide +kernel
theorem d_M_digest_107 : decode b_M_digest 107 = .ok (.iconst 0, 1) := by decide +kernel
theorem d_M_digest_108 : decode b_M_digest 108 = .ok (.istore_n 2, 1) := by decide +kernel
theorem d_M_digest_109 : decode b_M_digest 109 = .ok (.iload_n 2, 1) := by decide +kernel
theorem d_M_digest_110 : decode b_M_digest 110 = .ok (.aload_n 0, 1) := by decide +kernel
theorem d_M_digest_111 : decode b_M_digest 111 = .ok (.getfield 26, 3) := by decide +kernel
theorem d_M_digest_114 : decode b_M_digest 114 = .ok (.iload_n 1, 1) := by decide +kernel
theorem d_M_digest_115 : decode b_M_digest 115 = .ok (.iaload, 1) := by decide +kernel
theorem d_M_digest_116 : decode b_M_digest 116 = .ok (.if_icmp .ge 20, 3) := by decide +kernel
theorem d_M_digest_119 : decode b_M_digest 119 = .ok (.aload_n 0, 1) := by decide +kernel
theorem d_M_digest_120 : decode b_M_digest 120 = .ok (.aload_n 0, 1) := by decide +kernel
theorem d_M_digest_121 : decode b_M_digest 121 = .ok (.iload_n 1, 1) := by decide +kernel
theorem d_M_digest_122 : decode b_M_digest 122 = .ok (.iload_n 2, 1) := by decide +kernel
theorem d_M_digest_123 : decode b_M_digest 123 = .ok (.invokevirtual 120, 3) := by decide +kernel
theorem d_M_digest_126 : decode b_M_digest 126 = .ok (.i2l, 1) := by decide +kernel
theorem d_M_digest_127 : decode b_M_digest 127 = .ok (.invokevirtual 319, 3) := by decide +kernel
theorem d_M_digest_130 : decode b_M_digest 130 = .ok (.iinc 2 1, 3) := by decide +kernel
theorem d_M_digest_133 : decode b_M_digest 133 = .ok (.goto (-24), 3) := by decide +kernel
theorem d_M_digest_136 : decode b_M_digest 136 = .ok (.iinc 1 1, 3) := by decide +kernel
theorem d_M_digest_139 : decode b_M_digest 139 = .ok (.goto (-48), 3) := by decide +kernel
theorem d_M_digest_142 : decode b_M_digest 142 = .ok (.aload_n 0, 1) := by decide +kernel
theorem d_M_digest_143 : decode b_M_digest 143 = .ok (.getfield 316, 3) := by decide +kernel
theorem d_M_digest_146 : decode b_M_digest 146 = .ok (.lreturn, 1) := by decide +kernel
theorem mo_M_digest : mok y_M_digest b_M_digest 3 (some .long) 0 := ⟨List.mem_of_getElem? (i := 1475) (by decide +kernel), ⟨by decide +kernel, by decide +kernel, by decide +kernel⟩, List.mem_of_getElem? (i := 86) (by decide +kernel), by decide⟩
set_option maxHeartbeats 4000000 in
theorem L_M_digest_9 {X : FX} {u : Un} (hA : Ap u) {Q : State → Prop} (F : Fr X u "TakerBookModel" b_M_digest 3) {σ : St} {n : Nat} {kd : Nat → Nat} (hb : mkOk σ n kd) {a : Nat} (ha : a < 64) (h0 : σ.1 76 0 = nI a) {D : Nat} (hD : σ.1 63 22 = nI D) (hD40 : D ≤ 40) {h : Int64} (k0 : ∀ (i : Nat) (τ : St), fr σ τ → τ.2 63 39 = hsF (ctM σ kd n a D) h 11 → V X u 5 3 Q 31 [(0, .ref (u.2.1 63))] [] (τ)) : ∀ (nn : Nat) (i : Nat) (τ : St), i ≤ 11 → fr σ τ → τ.2 63 39 = hsF (ctM σ kd n a D) h i → 11 - i < nn → V X u 5 3 Q 9 [(0, .ref (u.2.1 63)), (1, .int (nI i))] [] (τ) := by
  intro nn
  induction nn with
  | zero =>
    intro i τ hi fτ hh h2
    exact absurd h2 (Nat.not_lt_zero _)
  | succ nn ih =>
    intro i τ hi fτ hh hm
    obtain ⟨hn, hn6, hkd, hk6⟩ := id hb
    refine v_iload_n F d_M_digest_9 rfl 1 rfl ?_
    refine v_bipush (v := 11) F d_M_digest_10 kb_11 ?_
    refine v_icmp_ge F 31 d_M_digest_12 rfl (fun h12 => ?_) (fun h12 => ?_)
    · skip
      have h12 : 11 ≤ i := (nI_leI (a := 11) (b := i) (by omega) (by omega)).mp h12
      refine v_sub [0] (ls' := [(0, .ref (u.2.1 63))]) rfl ?_
      exact k0 i τ fτ (by have e : i = 11 := (by omega); subst e; exact hh)
    · skip
      have h12 : ¬ 11 ≤ i := fun q => h12 ((nI_leI (a := 11) (b := i) (by omega) (by omega)).mpr q)
      refine v_aload_n F d_M_digest_15 rfl 0 rfl ?_
      refine v_aload_n F d_M_digest_16 rfl 0 rfl ?_
      refine v_iload_n F d_M_digest_17 rfl 1 rfl ?_
      refine v_runi (r_V F (c_M_counted X.2.1 u hA fτ hb ha h0 hD hD40 i (by omega)) mo_M_counted st_M_311 rc_63 (by decide) rfl (Nat.le_of_ble_eq_true rfl) d_M_digest_18) (fun r1 σ2 q3 => ?_)
      obtain ⟨rfl, rfl⟩ := q3
      refine v_i2l F d_M_digest_21 ?_
      refine v_runv (r_V F (c_M_mix X.2.1 u hA τ ((ctM σ kd n a D i).toInt64)) mo_M_mix st_M_319 rc_63 (by decide) rfl (Nat.le_of_ble_eq_true rfl) d_M_digest_22) (fun σ5 q6 => ?_)
      have eσ5 := q6
      have fσ5 : fr σ σ5 := by rw [eσ5]; exact fτ.l rfl
      refine v_iinc (v := nI (i + 1)) (ls' := [(1, .int (nI (i + 1))), (0, .ref (u.2.1 63))]) F d_M_digest_25 (j := 1) rfl (nI_inc _) (by decide) rfl ?_
      refine v_goto F 9 d_M_digest_28 rfl ?_
      refine v_sub [1, 0] (ls' := [(0, .ref (u.2.1 63)), (1, .int (nI (i + 1)))]) rfl ?_
      exact ih (i + 1) (σ5) (by omega) fσ5 (by rw [eσ5, uL_s, hh]; rfl) (by omega)
set_option maxHeartbeats 4000000 in
theorem L_M_digest_56 {X : FX} {u : Un} (hA : Ap u) {Q : State → Prop} (F : Fr X u "TakerBookModel" b_M_digest 3) {σ : St} {n : Nat} {kd : Nat → Nat} (hb : mkOk σ n kd) {a : Nat} (ha : a < 64) (h0 : σ.1 76 0 = nI a) {D : Nat} (hD : σ.1 63 22 = nI D) (hD40 : D ≤ 40) {h : Int64} (hI : mRowsOk σ) {r : Nat} (hr : r < 6) (k0 : ∀ (i : Nat) (τ : St), fr σ τ → τ.2 63 39 = hsR (fun r i => σ.1 66 (40 * r + i)) (σ.1 65) h ((r + 1)) → V X u 5 3 Q 83 [(0, .ref (u.2.1 63)), (1, .int (nI r))] [] (τ)) : ∀ (nn : Nat) (i : Nat) (τ : St), i ≤ (ix (σ.1 65 r)) → fr σ τ → τ.2 63 39 = hsF ((fun r i => σ.1 66 (40 * r + i)) r) (31 * hsR (fun r i => σ.1 66 (40 * r + i)) (σ.1 65) h r + (σ.1 65 r).toInt64) i → (ix (σ.1 65 r)) - i < nn → V X u 5 3 Q 56 [(0, .ref (u.2.1 63)), (1, .int (nI r)), (2, .int (nI i))] [] (τ) := by
  intro nn
  induction nn with
  | zero =>
    intro i τ hi fτ hh h2
    exact absurd h2 (Nat.not_lt_zero _)
  | succ nn ih =>
    intro i τ hi fτ hh hm
    obtain ⟨hn, hn6, hkd, hk6⟩ := id hb
    have hsz : (ix (σ.1 65 r)) ≤ 40 := ix_le (hI r hr) (by decide)
    refine v_iload_n F d_M_digest_56 rfl 2 rfl ?_
    refine v_aload_n F d_M_digest_57 rfl 0 rfl ?_
    refine v_getr (r := 65) F fk_M_17 G63 rfl d_M_digest_58 ?_
    refine v_iload_n F d_M_digest_61 rfl 1 rfl ?_
    refine v_ial F r G65 rfl (by omega) d_M_digest_62 ?_
    refine v_te (y := σ.1 65 r) (fτ.1 65 r rfl) ?_
    refine v_icmp_ge F 83 d_M_digest_63 rfl (fun h63 => ?_) (fun h63 => ?_)
    · skip
      have h63 := (le_ix (by omega)).mp h63
      refine v_sub [0, 1] (ls' := [(0, .ref (u.2.1 63)), (1, .int (nI r))]) rfl ?_
      exact k0 i τ fτ (by have e : i = (ix (σ.1 65 r)) := (by omega); subst e; exact hh)
    · skip
      have h63 : ¬ (ix (σ.1 65 r)) ≤ i := fun q => h63 ((le_ix (by omega)).mpr q)
      refine v_aload_n F d_M_digest_66 rfl 0 rfl ?_
      refine v_aload_n F d_M_digest_67 rfl 0 rfl ?_
      refine v_iload_n F d_M_digest_68 rfl 1 rfl ?_
      refine v_iload_n F d_M_digest_69 rfl 2 rfl ?_
      refine v_runi (r_V F (c_M_rowAt X.2.1 u hA τ r i (by omega)) mo_M_rowAt st_M_107 rc_63 (by decide) rfl (Nat.le_of_ble_eq_true rfl) d_M_digest_70) (fun r1 σ2 q3 => ?_)
      obtain ⟨rfl, rfl⟩ := q3
      refine v_te (y := σ.1 66 (40 * r + i)) (fτ.1 66 _ rfl) ?_
      refine v_i2l F d_M_digest_73 ?_
      refine v_runv (r_V F (c_M_mix X.2.1 u hA τ ((σ.1 66 (40 * r + i)).toInt64)) mo_M_mix st_M_319 rc_63 (by decide) rfl (Nat.le_of_ble_eq_true rfl) d_M_digest_74) (fun σ5 q6 => ?_)
      have eσ5 := q6
      have fσ5 : fr σ σ5 := by rw [eσ5]; exact fτ.l rfl
      refine v_iinc (v := nI (i + 1)) (ls' := [(2, .int (nI (i + 1))), (0, .ref (u.2.1 63)), (1, .int (nI r))]) F d_M_digest_77 (j := 2) rfl (nI_inc _) (by decide) rfl ?_
      refine v_goto F 56 d_M_digest_80 rfl ?_
      refine v_sub [1, 2, 0] (ls' := [(0, .ref (u.2.1 63)), (1, .int (nI r)), (2, .int (nI (i + 1)))]) rfl ?_
      exact ih (i + 1) (σ5) (by omega) fσ5 (by rw [eσ5, uL_s, hh]; rfl) (by omega)
set_option maxHeartbeats 4000000 in
theorem L_M_digest_37 {X : FX} {u : Un} (hA : Ap u) {Q : State → Prop} (F : Fr X u "TakerBookModel" b_M_digest 3) {σ : St} {n : Nat} {kd : Nat → Nat} (hb : mkOk σ n kd) {a : Nat} (ha : a < 64) (h0 : σ.1 76 0 = nI a) {D : Nat} (hD : σ.1 63 22 = nI D) (hD40 : D ≤ 40) {h : Int64} (hI : mRowsOk σ) (k0 : ∀ (r : Nat) (τ : St), fr σ τ → τ.2 63 39 = hsR (fun r i => σ.1 66 (40 * r + i)) (σ.1 65) h 6 → V X u 5 3 Q 89 [(0, .ref (u.2.1 63))] [] (τ)) : ∀ (nn : Nat) (r : Nat) (τ : St), r ≤ 6 → fr σ τ → τ.2 63 39 = hsR (fun r i => σ.1 66 (40 * r + i)) (σ.1 65) h r → 6 - r < nn → V X u 5 3 Q 37 [(0, .ref (u.2.1 63)), (1, .int (nI r))] [] (τ) := by
  intro nn
  induction nn with
  | zero =>
    intro r τ hr_ fτ hh h2
    exact absurd h2 (Nat.not_lt_zero _)
  | succ nn ih =>
    intro r τ hr_ fτ hh hm
    obtain ⟨hn, hn6, hkd, hk6⟩ := id hb
    refine v_iload_n F d_M_digest_37 rfl 1 rfl ?_
    refine v_bipush (v := 6) F d_M_digest_38 kb_6 ?_
    refine v_icmp_ge F 89 d_M_digest_40 rfl (fun h40 => ?_) (fun h40 => ?_)
    · skip
      have h40 : 6 ≤ r := (nI_leI (a := 6) (b := r) (by omega) (by omega)).mp h40
      refine v_sub [0] (ls' := [(0, .ref (u.2.1 63))]) rfl ?_
      exact k0 r τ fτ (by have e : r = 6 := (by omega); subst e; exact hh)
    · skip
      have h40 : ¬ 6 ≤ r := fun q => h40 ((nI_leI (a := 6) (b := r) (by omega) (by omega)).mpr q)
      have hr : r < 6 := by omega
      refine v_aload_n F d_M_digest_43 rfl 0 rfl ?_
      refine v_aload_n F d_M_digest_44 rfl 0 rfl ?_
      refine v_getr (r := 65) F fk_M_17 G63 rfl d_M_digest_45 ?_
      refine v_iload_n F d_M_digest_48 rfl 1 rfl ?_
      refine v_ial F r G65 rfl (by omega) d_M_digest_49 ?_
      refine v_te (y := σ.1 65 r) (fτ.1 65 r rfl) ?_
      refine v_i2l F d_M_digest_50 ?_
      refine v_runv (r_V F (c_M_mix X.2.1 u hA τ ((σ.1 65 r).toInt64)) mo_M_mix st_M_319 rc_63 (by decide) rfl (Nat.le_of_ble_eq_true rfl) d_M_digest_51) (fun σ2 q3 => ?_)
      have eσ2 := q3
      have fσ2 : fr σ σ2 := by rw [eσ2]; exact fτ.l rfl
      refine v_iconst (v := 0) F d_M_digest_54 ki_0 ?_
      refine v_istore_n (ls' := [(2, .int 0), (0, .ref (u.2.1 63)), (1, .int (nI r))]) F d_M_digest_55 rfl (by decide) rfl ?_
      refine v_sub [1, 2, 0] (ls' := [(0, .ref (u.2.1 63)), (1, .int (nI r)), (2, .int 0)]) rfl ?_
      have g4 : 0 = (nI 0) := (by first | rfl | (simp_all; done) | grind)
      refine v_to (ls' := [(0, .ref (u.2.1 63)), (1, .int (nI r)), (2, .int (nI 0))]) (by first | rfl | rw [g4] | simp_all) ?_
      refine L_M_digest_56 hA F hb ha h0 hD hD40 hI hr (fun i τ2 fτ2 hh2 => ?_) _ 0 σ2 (Nat.zero_le _) fσ2 (by rw [eσ2, uL_s, hh]; rfl) (Nat.lt_succ_self _)
      refine v_iinc (v := nI (r + 1)) (ls' := [(1, .int (nI (r + 1))), (0, .ref (u.2.1 63))]) F d_M_digest_83 (j := 1) rfl (nI_inc _) (by decide) rfl ?_
      refine v_goto F 37 d_M_digest_86 rfl ?_
      refine v_sub [1, 0] (ls' := [(0, .ref (u.2.1 63)), (1, .int (nI (r + 1)))]) rfl ?_
      exact ih (r + 1) (τ2) (by omega) fτ2 hh2 (by omega)
set_option maxHeartbeats 4000000 in
theorem L_M_digest_109 {X : FX} {u : Un} (hA : Ap u) {Q : State → Prop} (F : Fr X u "TakerBookModel" b_M_digest 3) {σ : St} {n : Nat} {kd : Nat → Nat} (hb : mkOk σ n kd) {a : Nat} (ha : a < 64) (h0 : σ.1 76 0 = nI a) {D : Nat} (hD : σ.1 63 22 = nI D) (hD40 : D ≤ 40) {h : Int64} (hI : mTextsOk σ) {r : Nat} (hr : r < 4) (k0 : ∀ (i : Nat) (τ : St), fr σ τ → τ.2 63 39 = hsR (fun t i => σ.1 69 (60 * t + i)) (σ.1 68) h ((r + 1)) → V X u 5 3 Q 136 [(0, .ref (u.2.1 63)), (1, .int (nI r))] [] (τ)) : ∀ (nn : Nat) (i : Nat) (τ : St), i ≤ (ix (σ.1 68 r)) → fr σ τ → τ.2 63 39 = hsF ((fun t i => σ.1 69 (60 * t + i)) r) (31 * hsR (fun t i => σ.1 69 (60 * t + i)) (σ.1 68) h r + (σ.1 68 r).toInt64) i → (ix (σ.1 68 r)) - i < nn → V X u 5 3 Q 109 [(0, .ref (u.2.1 63)), (1, .int (nI r)), (2, .int (nI i))] [] (τ) := by
  intro nn
  induction nn with
  | zero =>
    intro i τ hi fτ hh h2
    exact absurd h2 (Nat.not_lt_zero _)
  | succ nn ih =>
    intro i τ hi fτ hh hm
    obtain ⟨hn, hn6, hkd, hk6⟩ := id hb
    have hsz : (ix (σ.1 68 r)) ≤ 60 := ix_le (hI r hr) (by decide)
    refine v_iload_n F d_M_digest_109 rfl 2 rfl ?_
    refine v_aload_n F d_M_digest_110 rfl 0 rfl ?_
    refine v_getr (r := 68) F fk_M_26 G63 rfl d_M_digest_111 ?_
    refine v_iload_n F d_M_digest_114 rfl 1 rfl ?_
    refine v_ial F r G68 rfl (by omega) d_M_digest_115 ?_
    refine v_te (y := σ.1 68 r) (fτ.1 68 r rfl) ?_
    refine v_icmp_ge F 136 d_M_digest_116 rfl (fun h116 => ?_) (fun h116 => ?_)
    · skip
      have h116 := (le_ix (by omega)).mp h116
      refine v_sub [0, 1] (ls' := [(0, .ref (u.2.1 63)), (1, .int (nI r))]) rfl ?_
      exact k0 i τ fτ (by have e : i = (ix (σ.1 68 r)) := (by omega); subst e; exact hh)
    · skip
      have h116 : ¬ (ix (σ.1 68 r)) ≤ i := fun q => h116 ((le_ix (by omega)).mpr q)
      have hnn : 0 ≤ σ.1 68 r := (Decidable.byContradiction fun q => by have := ix_neg q; omega)
      refine v_aload_n F d_M_digest_119 rfl 0 rfl ?_
      refine v_aload_n F d_M_digest_120 rfl 0 rfl ?_
      refine v_iload_n F d_M_digest_121 rfl 1 rfl ?_
      refine v_iload_n F d_M_digest_122 rfl 2 rfl ?_
      refine v_runi (r_V F (c_M_byteAt X.2.1 u hA fτ (t := r) (N := (ix (σ.1 68 r))) hr hsz (ix_eq hnn) i (by omega)) mo_M_byteAt st_M_120 rc_63 (by decide) rfl (Nat.le_of_ble_eq_true rfl) d_M_digest_123) (fun r1 σ2 q3 => ?_)
      obtain ⟨rfl, rfl⟩ := q3
      refine v_te (y := σ.1 69 (60 * r + i)) (if_pos (by omega)) ?_
      refine v_i2l F d_M_digest_126 ?_
      refine v_runv (r_V F (c_M_mix X.2.1 u hA τ ((σ.1 69 (60 * r + i)).toInt64)) mo_M_mix st_M_319 rc_63 (by decide) rfl (Nat.le_of_ble_eq_true rfl) d_M_digest_127) (fun σ5 q6 => ?_)
      have eσ5 := q6
      have fσ5 : fr σ σ5 := by rw [eσ5]; exact fτ.l rfl
      refine v_iinc (v := nI (i + 1)) (ls' := [(2, .int (nI (i + 1))), (0, .ref (u.2.1 63)), (1, .int (nI r))]) F d_M_digest_130 (j := 2) rfl (nI_inc _) (by decide) rfl ?_
      refine v_goto F 109 d_M_digest_133 rfl ?_
      refine v_sub [1, 2, 0] (ls' := [(0, .ref (u.2.1 63)), (1, .int (nI r)), (2, .int (nI (i + 1)))]) rfl ?_
      exact ih (i + 1) (σ5) (by omega) fσ5 (by rw [eσ5, uL_s, hh]; rfl) (by omega)
set_option maxHeartbeats 4000000 in
theorem L_M_digest_91 {X : FX} {u : Un} (hA : Ap u) {Q : State → Prop} (F : Fr X u "TakerBookModel" b_M_digest 3) {σ : St} {n : Nat} {kd : Nat → Nat} (hb : mkOk σ n kd) {a : Nat} (ha : a < 64) (h0 : σ.1 76 0 = nI a) {D : Nat} (hD : σ.1 63 22 = nI D) (hD40 : D ≤ 40) {h : Int64} (hI : mTextsOk σ) (k0 : ∀ (r : Nat) (τ : St), fr σ τ → τ.2 63 39 = hsR (fun t i => σ.1 69 (60 * t + i)) (σ.1 68) h 4 → V X u 5 3 Q 142 [(0, .ref (u.2.1 63))] [] (τ)) : ∀ (nn : Nat) (r : Nat) (τ : St), r ≤ 4 → fr σ τ → τ.2 63 39 = hsR (fun t i => σ.1 69 (60 * t + i)) (σ.1 68) h r → 4 - r < nn → V X u 5 3 Q 91 [(0, .ref (u.2.1 63)), (1, .int (nI r))] [] (τ) := by
  intro nn
  induction nn with
  | zero =>
    intro r τ hr_ fτ hh h2
    exact absurd h2 (Nat.not_lt_zero _)
  | succ nn ih =>
    intro r τ hr_ fτ hh hm
    obtain ⟨hn, hn6, hkd, hk6⟩ := id hb
    refine v_iload_n F d_M_digest_91 rfl 1 rfl ?_
    refine v_iconst (v := 4) F d_M_digest_92 ki_4 ?_
    refine v_icmp_ge F 142 d_M_digest_93 rfl (fun h93 => ?_) (fun h93 => ?_)
    · skip
      have h93 : 4 ≤ r := (nI_leI (a := 4) (b := r) (by omega) (by omega)).mp h93
      refine v_sub [0] (ls' := [(0, .ref (u.2.1 63))]) rfl ?_
      exact k0 r τ fτ (by have e : r = 4 := (by omega); subst e; exact hh)
    · skip
      have h93 : ¬ 4 ≤ r := fun q => h93 ((nI_leI (a := 4) (b := r) (by omega) (by omega)).mpr q)
      have hr : r < 4 := by omega
      refine v_aload_n F d_M_digest_96 rfl 0 rfl ?_
      refine v_aload_n F d_M_digest_97 rfl 0 rfl ?_
      refine v_getr (r := 68) F fk_M_26 G63 rfl d_M_digest_98 ?_
      refine v_iload_n F d_M_digest_101 rfl 1 rfl ?_
      refine v_ial F r G68 rfl (by omega) d_M_digest_102 ?_
      refine v_te (y := σ.1 68 r) (fτ.1 68 r rfl) ?_
      refine v_i2l F d_M_digest_103 ?_
      refine v_runv (r_V F (c_M_mix X.2.1 u hA τ ((σ.1 68 r).toInt64)) mo_M_mix st_M_319 rc_63 (by decide) rfl (Nat.le_of_ble_eq_true rfl) d_M_digest_104) (fun σ2 q3 => ?_)
      have eσ2 := q3
      have fσ2 : fr σ σ2 := by rw [eσ2]; exact fτ.l rfl
      refine v_iconst (v := 0) F d_M_digest_107 ki_0 ?_
      refine v_istore_n (ls' := [(2, .int 0), (0, .ref (u.2.1 63)), (1, .int (nI r))]) F d_M_digest_108 rfl (by decide) rfl ?_
      refine v_sub [1, 2, 0] (ls' := [(0, .ref (u.2.1 63)), (1, .int (nI r)), (2, .int 0)]) rfl ?_
      have g4 : 0 = (nI 0) := (by first | rfl | (simp_all; done) | grind)
      refine v_to (ls' := [(0, .ref (u.2.1 63)), (1, .int (nI r)), (2, .int (nI 0))]) (by first | rfl | rw [g4] | simp_all) ?_
      refine L_M_digest_109 hA F hb ha h0 hD hD40 hI hr (fun i τ2 fτ2 hh2 => ?_) _ 0 σ2 (Nat.zero_le _) fσ2 (by rw [eσ2, uL_s, hh]; rfl) (Nat.lt_succ_self _)
      refine v_iinc (v := nI (r + 1)) (ls' := [(1, .int (nI (r + 1))), (0, .ref (u.2.1 63))]) F d_M_digest_136 (j := 1) rfl (nI_inc _) (by decide) rfl ?_
      refine v_goto F 91 d_M_digest_139 rfl ?_
      refine v_sub [1, 0] (ls' := [(0, .ref (u.2.1 63)), (1, .int (nI (r + 1)))]) rfl ?_
      exact ih (r + 1) (τ2) (by omega) fτ2 hh2 (by omega)
set_option maxHeartbeats 4000000 in
theorem c_M_digest (l : Launch) (u : Un) (hA : Ap u) (σ : St) {n : Nat} {kd : Nat → Nat} (hb : mkOk σ n kd) {a : Nat} (ha : a < 64) (h0 : σ.1 76 0 = nI a) {D : Nat} (hD : σ.1 63 22 = nI D) (hD40 : D ≤ 40) (hI : mRowsOk σ) (hJ : mTextsOk σ) : MTl l u y_M_digest b_M_digest 3 5 [.ref (u.2.1 63)] σ (fun ans σ' => mDigest σ kd n a D = ans ∧ fr σ σ') := by
  refine MT_of hA rfl (by decide) (Nat.le_of_ble_eq_true rfl) (fun X hl F hr => ?_)
  subst hl
  refine v_to (ls' := [(0, .ref (u.2.1 63))]) rfl ?_
  obtain ⟨hn, hn6, hkd, hk6⟩ := id hb
  refine v_aload_n F d_M_digest_0 rfl 0 rfl ?_
  refine v_ldc2 (v := 17) F kc_M_325 d_M_digest_1 ?_
  refine v_putl F fk_M_316 pk_M_hash G63 rfl d_M_digest_4 ?_
  refine v_ns (fun σ1 eσ1 => ?_)
  have fσ1 : fr σ σ1 := by rw [eσ1]; exact fr.rf.l rfl
  refine v_iconst (v := 0) F d_M_digest_7 ki_0 ?_
  refine v_istore_n (ls' := [(1, .int 0), (0, .ref (u.2.1 63))]) F d_M_digest_8 rfl (by decide) rfl ?_
  refine v_sub [1, 0] (ls' := [(0, .ref (u.2.1 63)), (1, .int 0)]) rfl ?_
  have g2 : 0 = (nI 0) := (by first | rfl | (simp_all; done) | grind)
  refine v_to (ls' := [(0, .ref (u.2.1 63)), (1, .int (nI 0))]) (by first | rfl | rw [g2] | simp_all) ?_
  refine L_M_digest_9 hA F hb ha h0 hD hD40 (h := 17) (fun i τ2 fτ2 hh2 => ?_) _ 0 σ1 (Nat.zero_le _) fσ1 (by rw [eσ1, uL_s]; rfl) (Nat.lt_succ_self _)
  refine v_aload_n F d_M_digest_31 rfl 0 rfl ?_
  refine v_runv (r_V F (c_M_mixBook X.2.1 u hA fτ2 hb ha h0 hh2) mo_M_mixBook st_M_327 rc_63 (by decide) rfl (Nat.le_of_ble_eq_true rfl) d_M_digest_32) (fun σ4 q5 => ?_)
  obtain ⟨fσ4, hh3⟩ := q5
  refine v_iconst (v := 0) F d_M_digest_35 ki_0 ?_
  refine v_istore_n (ls' := [(1, .int 0), (0, .ref (u.2.1 63))]) F d_M_digest_36 rfl (by decide) rfl ?_
  refine v_sub [1, 0] (ls' := [(0, .ref (u.2.1 63)), (1, .int 0)]) rfl ?_
  have g6 : 0 = (nI 0) := (by first | rfl | (simp_all; done) | grind)
  refine v_to (ls' := [(0, .ref (u.2.1 63)), (1, .int (nI 0))]) (by first | rfl | rw [g6] | simp_all) ?_
  refine L_M_digest_37 hA F hb ha h0 hD hD40 hI (fun r τ4 fτ4 hh4 => ?_) _ 0 σ4 (Nat.zero_le _) fσ4 hh3 (Nat.lt_succ_self _)
  refine v_iconst (v := 0) F d_M_digest_89 ki_0 ?_
  refine v_istore_n (ls' := [(1, .int 0), (0, .ref (u.2.1 63))]) F d_M_digest_90 rfl (by decide) rfl ?_
  refine v_sub [1, 0] (ls' := [(0, .ref (u.2.1 63)), (1, .int 0)]) rfl ?_
  have g7 : 0 = (nI 0) := (by first | rfl | (simp_all; done) | grind)
  refine v_to (ls' := [(0, .ref (u.2.1 63)), (1, .int (nI 0))]) (by first | rfl | rw [g7] | simp_all) ?_
  refine L_M_digest_91 hA F hb ha h0 hD hD40 hJ (fun r τ5 fτ5 hh5 => ?_) _ 0 τ4 (Nat.zero_le _) fτ4 hh4 (Nat.lt_succ_self _)
  refine v_aload_n F d_M_digest_142 rfl 0 rfl ?_
  refine v_getl F fk_M_316 G63 rfl d_M_digest_143 ?_
  refine v_tl (y := (mDigest σ kd n a D)) hh5 ?_
  refine v_lret F hr d_M_digest_146 ?_
  exact ⟨rfl, fτ5⟩
