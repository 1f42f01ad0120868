theorem kc_T_334 : Cond.constantLong "TakerBook" 334 (31) ∈ lw_tbl := List.mem_of_getElem? (i := 971) (by decide +kernel)
theorem st_T_336 : siteV "TakerBook" 336 ⟨"TakerBook", "count", "(I)I"⟩ := ⟨List.mem_of_getElem? (i := 972) (by decide +kernel), List.mem_of_getElem? (i := 948) (by decide +kernel), List.mem_of_getElem? (i := 949) (by decide +kernel)⟩
theorem kc_T_332 : Cond.constantLong "TakerBook" 332 (17) ∈ lw_tbl := List.mem_of_getElem? (i := 970) (by decide +kernel)
abbrev b_T_digest : ByteArray := prog_1_method_45_code
abbrev y_T_digest : MethodName := ⟨"TakerBook", "digest", "()J"⟩
theorem d_T_digest_0 : decode b_T_digest 0 = .ok (.ldc2_w 332, 3) := by decide +kernel
theorem d_T_digest_3 : decode b_T_digest 3 = .ok (.lstore_n 1, 1) := by decide +kernel
theorem d_T_digest_4 : decode b_T_digest 4 = .ok (.iconst 0, 1) := by decide +kernel
theorem d_T_digest_5 : decode b_T_digest 5 = .ok (.istore_n 3, 1) := by decide +kernel
theorem d_T_digest_6 : decode b_T_digest 6 = .ok (.iload_n 3, 1) := by decide +kernel
theorem d_T_digest_7 : decode b_T_digest 7 = .ok (.bipush 10, 2) := by decide +kernel
theorem d_T_digest_9 : decode b_T_digest 9 = .ok (.if_icmp .gt 22, 3) := by decide +kernel
theorem d_T_digest_12 : decode b_T_digest 12 = .ok (.ldc2_w 334, 3) := by decide +kernel
theorem d_T_digest_15 : decode b_T_digest 15 = .ok (.lload_n 1, 1) := by decide +kernel
theorem d_T_digest_16 : decode b_T_digest 16 = .ok (.lmul, 1) := by decide +kernel
theorem d_T_digest_17 : decode b_T_digest 17 = .ok (.aload_n 0, 1) := by decide +kernel
theorem d_T_digest_18 : decode b_T_digest 18 = .ok (.iload_n 3, 1) := by decide +kernel
theorem d_T_digest_19 : decode b_T_digest 19 = .ok (.invokevirtual 336, 3) := by decide +kernel
theorem d_T_digest_22 : decode b_T_digest 22 = .ok (.i2l, 1) := by decide +kernel
theorem d_T_digest_23 : decode b_T_digest 23 = .ok (.ladd, 1) := by decide +kernel
theorem d_T_digest_24 : decode b_T_digest 24 = .ok (.lstore_n 1, 1) := by decide +kernel
theorem d_T_digest_25 : decode b_T_digest 25 = .ok (.iinc 3 1, 3) := by decide +kernel
theorem d_T_digest_28 : decode b_T_digest 28 = .ok (.goto (-22), 3) := by decide +kernel
theorem d_T_digest_31 : decode b_T_digest 31 = .ok (.iconst 0, 1) := by decide +kernel
theorem d_T_digest_32 : decode b_T_digest 32 = .ok (.istore_n 3, 1) := by decide +kernel
theorem d_T_digest_33 : decode b_T_digest 33 = .ok (.iload_n 3, 1) := by decide +kernel
theorem d_T_digest_34 : decode b_T_digest 34 = .ok (.aload_n 0, 1) := by decide +kernel
theorem d_T_digest_35 : decode b_T_digest 35 = .ok (.getfield 36, 3) := by decide +kernel
theorem d_T_digest_38 : decode b_T_digest 38 = .ok (.getfield 118, 3) := by decide +kernel
theorem d_T_digest_41 : decode b_T_digest 41 = .ok (.if_icmp .ge 43, 3) := by decide +kernel
theorem d_T_digest_44 : decode b_T_digest 44 = .ok (.iconst 0, 1) := by decide +kernel
theorem d_T_digest_45 : decode b_T_digest 45 = .ok (.istore 4, 2) := by decide +kernel
theorem d_T_digest_47 : decode b_T_digest 47 = .ok (.iload 4, 2) := by decide +kernel
theorem d_T_digest_49 : decode b_T_digest 49 = .ok (.bipush 7, 2) := by decide +kernel
theorem d_T_digest_51 : decode b_T_digest 51 = .ok (.if_icmp .gt 27, 3) := by decide +kernel
theorem d_T_digest_54 : decode b_T_digest 54 = .ok (.ldc2_w 334, 3) := by decide +kernel
theorem d_T_digest_57 : decode b_T_digest 57 = .ok (.lload_n 1, 1) := by decide +kernel
theorem d_T_digest_58 : decode b_T_digest 58 = .ok (.lmul, 1) := by decide +kernel
theorem d_T_digest_59 : decode b_T_digest 59 = .ok (.aload_n 0, 1) := by decide +kernel
theorem d_T_digest_60 : decode b_T_digest 60 = .ok (.getfield 36, 3) := by decide +kernel
theorem d_T_digest_63 : decode b_T_digest 63 = .ok (.iload_n 3, 1) := by decide +kernel
theorem d_T_digest_64 : decode b_T_digest 64 = .ok (.iload 4, 2) := by decide +kernel
theorem d_T_digest_66 : decode b_T_digest 66 = .ok (.invokevirtual 124, 3) := by decide +kernel
theorem d_T_digest_69 : decode b_T_digest 69 = .ok (.i2l, 1) := by decide +kernel
theorem d_T_digest_70 : decode b_T_digest 70 = .ok (.ladd, 1) := by decide +kernel
theorem d_T_digest_71 : decode b_T_digest 71 = .ok (.lstore_n 1, 1) := by decide +kernel
theorem d_T_digest_72 : decode b_T_digest 72 = .ok (.iinc 4 1, 3) := by decide +kernel
theorem d_T_digest_75 : decode b_T_digest 75 = .ok (.goto (-28), 3) := by decide +kernel
theorem d_T_digest_78 : decode b_T_digest 78 = .ok (.iinc 3 1, 3) := by decide +kernel
theorem d_T_digest_81 : decode b_T_digest 81 = .ok (.goto (-48), 3) := by decide +kernel
theorem d_T_digest_84 : decode b_T_digest 84 = .ok (.iconst 0, 1) := by decide +kernel
theorem d_T_digest_85 : decode b_T_digest 85 = .ok (.istore_n 3, 1) := by decide +kernel
theorem d_T_digest_86 : decode b_T_digest 86 = .ok (.iload_n 3, 1) := by decide +kernel
theorem d_T_digest_87 : decode b_T_digest 87 = .ok (.iconst 3, 1) := by decide +kernel
theorem d_T_digest_88 : decode b_T_digest 88 = .ok (.if_icmp .ge 26, 3) := by decide +kernel
theorem d_T_digest_91 : decode b_T_digest 91 = .ok (.ldc2_w 334, 3) := by decide +kernel
theorem d_T_digest_94 : decode b_T_digest 94 = .ok (.lload_n 1, 1) := by decide +kernel
theorem d_T_digest_95 : decode b_T_digest 95 = .ok (.lmul, 1) := by decide +kernel
theorem d_T_digest_96 : decode b_T_digest 96 = .ok (.aload_n 0, 1) := by decide +kernel
theorem d_T_digest_97 : decode b_T_digest 97 = .ok (.getfield 61, 3) := by decide +kernel
theorem d_T_digest_100 : decode b_T_digest 100 = .ok (.iload_n 3, 1) := by decide +kernel
theorem d_T_digest_101 : decode b_T_digest 101 = .ok (.aaload, 1) := by decide +kernel
theorem d_T_digest_102 : decode b_T_digest 102 = .ok (.getfield 72, 3) := by decide +kernel
theorem d_T_digest_105 : decode b_T_digest 105 = .ok (.i2l, 1) := by decide +kernel
theorem d_T_digest_106 : decode b_T_digest 106 = .ok (.ladd, 1) := by decide +kernel
theorem d_T_digest_107 : decode b_T_digest 107 = .ok (.lstore_n 1, 1) := by decide +kernel
theorem d_T_digest_108 : decode b_T_digest 108 = .ok (.iinc 3 1, 3) := by decide +kernel
theorem d_T_digest_111 : decode b_T_digest 111 = .ok (.goto (-25), 3) := by decide +kernel
theorem d_T_digest_114 : decode b_T_digest 114 = .ok (.iconst 0, 1) := by decide +kernel
theorem d_T_digest_115 : decode b_T_digest 115 = .ok (.istore_n 3, 1) := by decide +kernel
theorem d_T_digest_116 : decode b_T_digest 116 = .ok (.iload_n 3, 1) := by decide +kernel
theorem d_T_digest_117 : decode b_T_digest 117 = .ok (.bipush 6, 2) := by decide +kernel
theorem d_T_digest_119 : decode b_T_digest 119 = .ok (.if_icmp .ge 60, 3) := by decide +kernel
theorem d_T_digest_122 : decode b_T_digest 122 = .ok (.ldc2_w 334, 3) := by decide +kernel
theorem d_T_digest_125 : decode b_T_digest 125 = .ok (.lload_n 1, 1) := by decide +kernel
theorem d_T_digest_126 : decode b_T_digest 126 = .ok (.lmul, 1) := by decide +kernel
theorem d_T_digest_127 : decode b_T_digest 127 = .ok (.aload_n 0, 1) := by decide +kernel
theorem d_T_digest_128 : decode b_T_digest 128 = .ok (.getfield 14, 3) := by decide +kernel
theorem d_T_digest_131 : decode b_T_digest 131 = .ok (.iload_n 3, 1) := by decide +kernel
theorem d_T_digest_132 : decode b_T_digest 132 = .ok (.iaload, 1) := by decide +kernel
theorem d_T_digest_133 : decode b_T_digest 133 = .ok (.i2l, 1) := by decide +kernel
theorem d_T_digest_134 : decode b_T_digest 134 = .ok (.ladd, 1) := by decide +kernel
theorem d_T_digest_135 : decode b_T_digest 135 = .ok (.lstore_n 1, 1) := by decide +kernel
theorem d_T_digest_136 : decode b_T_digest 136 = .ok (.iconst 0, 1) := by decide +kernel
theorem d_T_digest_137 : decode b_T_digest 137 = .ok (.istore 4, 2) := by decide +kernel
theorem d_T_digest_139 : decode b_T_digest 139 = .ok (.iload 4, 2) := by decide +kernel
theorem d_T_digest_141 : decode b_T_digest 141 = .ok (.aload_n 0, 1) := by decide +kernel
theorem d_T_digest_142 : decode b_T_digest 142 = .ok (.getfield 14, 3) := by decide +kernel
theorem d_T_digest_145 : decode b_T_digest 145 = .ok (.iload_n 3, 1) := by decide +kernel
theorem d_T_digest_146 : decode b_T_digest 146 = .ok (.iaload, 1) := by decide +kernel
theorem d_T_digest_147 : decode b_T_digest 147 = .ok (.if_icmp .ge 26, 3) := by decide +kernel
theorem d_T_digest_150 : decode b_T_digest 150 = .ok (.ldc2_w 334, 3) := by decide +kernel
theorem d_T_digest_153 : decode b_T_digest 153 = .ok (.lload_n 1, 1) := by decide +kernel
theorem d_T_digest_154 : decode b_T_digest 154 = .ok (.lmul, 1) := by decide +kernel
theorem d_T_digest_155 : decode b_T_digest 155 = .ok (.aload_n 0, 1) := by decide +kernel
theorem d_T_digest_156 : decode b_T_digest 156 = .ok (.getfield 11, 3) := by decide +kernel
theorem d_T_digest_159 : decode b_T_digest 159 = .ok (.iload_n 3, 1) := by decide +kernel
theorem d_T_digest_160 : decode b_T_digest 160 = .ok (.aaload, 1) := by decide +kernel
theorem d_T_digest_161 : decode b_T_digest 161 = .ok (.iload 4, 2) := by decide +kernel
theorem d_T_digest_163 : decode b_T_digest 163 = .ok (.iaload, 1) := by decide +kernel
theorem d_T_digest_164 : decode b_T_digest 164 = .ok (.i2l, 1) := by decide +kernel
theorem d_T_digest_165 : decode b_T_digest 165 = .ok (.ladd, 1) := by decide +kernel
theorem d_T_digest_166 : decode b_T_digest 166 = .ok (.lstore_n 1, 1) := by decide +kernel
theorem d_T_digest_167 : decode b_T_digest 167 = .ok (.iinc 4 1, 3) := by decide +kernel
theorem d_T_digest_170 : decode b_T_digest 170 = .ok (.goto (-31), 3) := by decide +kernel
theorem d_T_digest_173 : decode b_T_digest 173 = .ok (.iinc 3 1, 3) := by decide +kernel
theorem d_T_digest_176 : decode b_T_digest 176 = .ok (.goto (-60), 3) := by decide +kernel
theorem d_T_digest_179 : decode b_T_digest 179 = .ok (.iconst 0, 1) := by decide +kernel
theorem d_T_digest_180 : decode b_T_digest 180 = .ok (.istore_n 3, 1) := by decide +kernel
theorem d_T_digest_181 : decode b_T_digest 181 = .ok (.iload_n 3, 1) := by decide +kernel
theorem d_T_digest_182 : decode b_T_digest 182 = .ok (.iconst 4, 1) := by decide +kernel
theorem d_T_digest_183 : decode b_T_digest 183 = .ok (.if_icmp .ge 60, 3) := by decide +kernel
theorem d_T_digest_186 : decode b_T_digest 186 = .ok (.ldc2_w 334, 3) := by decide +kernel
theorem d_T_digest_189 : decode b_T_digest 189 = .ok (.lload_n 1, 1) := by decide +kernel
theorem d_T_digest_190 : decode b_T_digest 190 = .ok (.lmul, 1) := by decide +kernel
theorem d_T_digest_191 : decode b_T_digest 191 = .ok (.aload_n 0, 1) := by decide +kernel
theorem d_T_digest_192 : decode b_T_digest 192 = .ok (.getfield 23, 3) := by decide +kernel
theorem d_T_digest_195 : decode b_T_digest 195 = .ok (.iload_n 3, 1) := by decide +kernel
theorem d_T_digest_196 : decode b_T_digest 196 = .ok (.iaload, 1) := by decide +kernel
theorem d_T_digest_197 : decode b_T_digest 197 = .ok (.i2l, 1) := by decide +kernel
theorem d_T_digest_198 : decode b_T_digest 198 = .ok (.ladd, 1) := by decide +kernel
theorem d_T_digest_199 : decode b_T_digest 199 = .ok (.lstore_n 1, 1) := by decide +kernel
theorem d_T_digest_200 : decode b_T_digest 200 = .ok (.iconst 0, 1) := by decide +kernel
theorem d_T_digest_201 : decode b_T_digest 201 = .ok (.istore 4, 2) := by decide +kernel
theorem d_T_digest_203 : decode b_T_digest 203 = .ok (.iload 4, 2) := by decide +kernel
theorem d_T_digest_205 : decode b_T_digest 205 = .ok (.aload_n 0, 1) := by decide +kernel
theorem d_T_digest_206 : decode b_T_digest 206 = .ok (.getfield 23, 3) := by decide +kernel
theorem d_T_digest_209 : decode b_T_digest 209 = .ok (.iload_n 3, 1) := by decide +kernel
theorem d_T_digest_210 : decode b_T_digest 210 = .ok (.iaload, 1) := by decide +kernel
theorem d_T_digest_211 : decode b_T_digest 211 = .ok (.if_icmp .ge 26, 3) := by decide +kernel
theorem d_T_digest_214 : decode b_T_digest 214 = .ok (.ldc2_w 334, 3) := by decide +kernel
theorem d_T_digest_217 : decode b_T_digest 217 = .ok (.lload_n 1, 1) := by decide +kernel
theorem d_T_digest_218 : decode b_T_digest 218 = .ok (.lmul, 1) := by decide +kernel
theorem d_T_digest_219 : decode b_T_digest 219 = .ok (.aload_n 0, 1) := by decide +kernel
theorem d_T_digest_220 : decode b_T_digest 220 = .ok (.getfield 20, 3) := by decide +kernel
theorem d_T_digest_223 : decode b_T_digest 223 = .ok (.iload_n 3, 1) := by decide +kernel
theorem d_T_digest_224 : decode b_T_digest 224 = .ok (.aaload, 1) := by decide +kernel
theorem d_T_digest_225 : decode b_T_digest 225 = .ok (.iload 4, 2) := by decide +kernel
theorem d_T_digest_227 : decode b_T_digest 227 = .ok (.baload, 1) := by decide +kernel
theorem d_T_digest_228 : decode b_T_digest 228 = .ok (.i2l, 1) := by decide +kernel
theorem d_T_digest_229 : decode b_T_digest 229 = .ok (.ladd, 1) := by decide +kernel
theorem d_T_digest_230 : decode b_T_digest 230 = .ok (.lstore_n 1, 1) := by decide +kernel
theorem d_T_digest_231 : decode b_T_digest 231 = .ok (.iinc 4 1, 3) := by decide +kernel
theorem d_T_digest_234 : decode b_T_digest 234 = .ok (.goto (-31), 3) := by decide +kernel
theorem d_T_digest_237 : decode b_T_digest 237 = .ok (.iinc 3 1, 3) := by decide +kernel
theorem d_T_digest_240 : decode b_T_digest 240 = .ok (.goto (-59), 3) := by decide +kernel
theorem d_T_digest_243 : decode b_T_digest 243 = .ok (.lload_n 1, 1) := by decide +kernel
theorem d_T_digest_244 : decode b_T_digest 244 = .ok (.lreturn, 1) := by decide +kernel
theorem mo_T_digest : mok y_T_digest b_T_digest 5 (some .long) 0 := ⟨List.mem_of_getElem? (i := 969) (by decide +kernel), ⟨by decide +kernel, by decide +kernel, by decide +kernel⟩, List.mem_of_getElem? (i := 74) (by decide +kernel), by decide⟩
set_option maxHeartbeats 4000000 in
theorem L_T_digest_6 {X : FX} {u : Un} (hA : Ap u) {Q : State → Prop} (F : Fr X u "TakerBook" b_T_digest 5) {σ : St} {G : Nat} (hG : σ.1 19 13 = nI G) (hG64 : G < 64) {h : Int64} (k : V X u 7 5 Q 31 [(0, .ref (u.2.1 0)), (1, .long (hsF (ctT σ G) h 11)), (3, .int (nI 11))] [] (σ)) : ∀ (nn i : Nat), i ≤ 11 → 11 - i < nn → V X u 7 5 Q 6 [(0, .ref (u.2.1 0)), (1, .long (hsF (ctT σ G) h i)), (3, .int (nI i))] [] (σ) := by
  intro nn
  induction nn with
  | zero =>
    intro i h1 h2
    exact absurd h2 (Nat.not_lt_zero _)
  | succ nn ih =>
    intro i hii hnn
    refine v_iload_n F d_T_digest_6 rfl 2 rfl ?_
    refine v_bipush (v := 10) F d_T_digest_7 kb_10 ?_
    refine v_icmp_gt F 31 d_T_digest_9 rfl (fun h9 => ?_) (fun h9 => ?_)
    · skip
      have h9 : 10 < i := (nI_ltI (a := 10) (b := i) (by omega) (by omega)).mp h9
      have he : i = 11 := by omega
      subst he
      exact k
    · skip
      have h9 : ¬ 10 < i := fun q => h9 ((nI_ltI (a := 10) (b := i) (by omega) (by omega)).mpr q)
      refine v_ldc2 (v := 31) F kc_T_334 d_T_digest_12 ?_
      refine v_lload_n F d_T_digest_15 rfl 1 rfl ?_
      refine v_lmul F d_T_digest_16 ?_
      refine v_aload_n F d_T_digest_17 rfl 0 rfl ?_
      refine v_iload_n F d_T_digest_18 rfl 2 rfl ?_
      refine v_runi (r_V F (c_T_count X.2.1 u hA σ hG hG64 (nI i)) mo_T_count st_T_336 rc_0 (by decide) rfl (Nat.le_of_ble_eq_true rfl) d_T_digest_19) (fun r1 σ2 q3 => ?_)
      obtain ⟨rfl, rfl⟩ := q3
      refine v_te (y := ctT σ G i) (by rw [if_pos (show inR (nI i) 11 from ⟨nI_nn (by omega), (nI_ltI (a := i) (b := 11) (by omega) (by omega)).mpr (by omega)⟩), ix_nI (by omega)]) ?_
      refine v_i2l F d_T_digest_22 ?_
      refine v_ladd F d_T_digest_23 ?_
      refine v_nl (fun x4 ex4 => ?_)
      refine v_lstore_n (ls' := [(1, .long x4), (0, .ref (u.2.1 0)), (3, .int (nI i))]) F d_T_digest_24 rfl (by decide) rfl ?_
      refine v_iinc (v := nI (i + 1)) (ls' := [(3, .int (nI (i + 1))), (1, .long x4), (0, .ref (u.2.1 0))]) F d_T_digest_25 (j := 2) rfl (nI_inc _) (by decide) rfl ?_
      refine v_goto F 6 d_T_digest_28 rfl ?_
      refine v_sub [2, 1, 0] (ls' := [(0, .ref (u.2.1 0)), (1, .long x4), (3, .int (nI (i + 1)))]) rfl ?_
      have g5 : x4 = (hsF (ctT σ G) h (i + 1)) := (by first | rfl | (subst_vars; rfl))
      refine v_to (ls' := [(0, .ref (u.2.1 0)), (1, .long (hsF (ctT σ G) h (i + 1))), (3, .int (nI (i + 1)))]) (by first | rfl | rw [g5] | simp_all) ?_
      exact ih (i + 1) (by omega) (by omega)
set_option maxHeartbeats 4000000 in
theorem L_T_digest_47 {X : FX} {u : Un} (hA : Ap u) {Q : State → Prop} (F : Fr X u "TakerBook" b_T_digest 5) {σ : St} {n G : Nat} {kd : Nat → Nat} (hb : bkOk σ n G kd) {L : Nat} (hL : σ.1 19 14 = nI L) (hL64 : L < 64) {i : Nat} (hi : i < n) {h : Int64} (k : V X u 7 5 Q 78 [(0, .ref (u.2.1 0)), (1, .long (hsF (tlS σ G kd L i) (hsT (tlS σ G kd L) h i) 8)), (3, .int (nI i)), (4, .int (nI 8))] [] (σ)) : ∀ (nn w : Nat), w ≤ 8 → 8 - w < nn → V X u 7 5 Q 47 [(0, .ref (u.2.1 0)), (1, .long (hsF (tlS σ G kd L i) (hsT (tlS σ G kd L) h i) w)), (3, .int (nI i)), (4, .int (nI w))] [] (σ) := by
  intro nn
  induction nn with
  | zero =>
    intro w h1 h2
    exact absurd h2 (Nat.not_lt_zero _)
  | succ nn ih =>
    intro w hii hnn
    refine v_iload F d_T_digest_47 3 rfl ?_
    refine v_bipush (v := 7) F d_T_digest_49 kb_7 ?_
    refine v_icmp_gt F 78 d_T_digest_51 rfl (fun h51 => ?_) (fun h51 => ?_)
    · skip
      have h51 : 7 < w := (nI_ltI (a := 7) (b := w) (by omega) (by omega)).mp h51
      have he : w = 8 := by omega
      subst he
      exact k
    · skip
      have h51 : ¬ 7 < w := fun q => h51 ((nI_ltI (a := 7) (b := w) (by omega) (by omega)).mpr q)
      refine v_ldc2 (v := 31) F kc_T_334 d_T_digest_54 ?_
      refine v_lload_n F d_T_digest_57 rfl 1 rfl ?_
      refine v_lmul F d_T_digest_58 ?_
      refine v_aload_n F d_T_digest_59 rfl 0 rfl ?_
      refine v_getr (r := 19) F fk_T_36 G0 rfl d_T_digest_60 ?_
      refine v_iload_n F d_T_digest_63 rfl 2 rfl ?_
      refine v_iload F d_T_digest_64 3 rfl ?_
      refine v_runi (r_V F (c_B_tell X.2.1 u hA σ hb hL hL64 i w (by omega) (by omega)) mo_B_tell st_T_124 rc_19 (by decide) rfl (Nat.le_of_ble_eq_true rfl) d_T_digest_66) (fun r1 σ2 q3 => ?_)
      obtain ⟨rfl, rfl⟩ := q3
      refine v_i2l F d_T_digest_69 ?_
      refine v_ladd F d_T_digest_70 ?_
      refine v_nl (fun x4 ex4 => ?_)
      refine v_lstore_n (ls' := [(1, .long x4), (0, .ref (u.2.1 0)), (3, .int (nI i)), (4, .int (nI w))]) F d_T_digest_71 rfl (by decide) rfl ?_
      refine v_iinc (v := nI (w + 1)) (ls' := [(4, .int (nI (w + 1))), (1, .long x4), (0, .ref (u.2.1 0)), (3, .int (nI i))]) F d_T_digest_72 (j := 3) rfl (nI_inc _) (by decide) rfl ?_
      refine v_goto F 47 d_T_digest_75 rfl ?_
      refine v_sub [2, 1, 3, 0] (ls' := [(0, .ref (u.2.1 0)), (1, .long x4), (3, .int (nI i)), (4, .int (nI (w + 1)))]) rfl ?_
      have g5 : x4 = (hsF (tlS σ G kd L i) (hsT (tlS σ G kd L) h i) (w + 1)) := (by first | rfl | (subst_vars; rfl))
      refine v_to (ls' := [(0, .ref (u.2.1 0)), (1, .long (hsF (tlS σ G kd L i) (hsT (tlS σ G kd L) h i) (w + 1))), (3, .int (nI i)), (4, .int (nI (w + 1)))]) (by first | rfl | rw [g5] | simp_all) ?_
      exact ih (w + 1) (by omega) (by omega)
set_option maxHeartbeats 4000000 in
theorem L_T_digest_33 {X : FX} {u : Un} (hA : Ap u) {Q : State → Prop} (F : Fr X u "TakerBook" b_T_digest 5) {σ : St} {n G : Nat} {kd : Nat → Nat} (hb : bkOk σ n G kd) {L : Nat} (hL : σ.1 19 14 = nI L) (hL64 : L < 64) {h : Int64} (k : V X u 7 5 Q 84 [(0, .ref (u.2.1 0)), (1, .long (hsT (tlS σ G kd L) h n)), (3, .int (nI n))] [] (σ)) : ∀ (nn i : Nat), i ≤ n → n - i < nn → V X u 7 5 Q 33 [(0, .ref (u.2.1 0)), (1, .long (hsT (tlS σ G kd L) h i)), (3, .int (nI i))] [] (σ) := by
  intro nn
  induction nn with
  | zero =>
    intro i h1 h2
    exact absurd h2 (Nat.not_lt_zero _)
  | succ nn ih =>
    intro i hii hnn
    obtain ⟨hn, hn6, hG, hG64, hkd, hk6⟩ := id hb
    refine v_iload_n F d_T_digest_33 rfl 2 rfl ?_
    refine v_aload_n F d_T_digest_34 rfl 0 rfl ?_
    refine v_getr (r := 19) F fk_T_36 G0 rfl d_T_digest_35 ?_
    refine v_geti F fk_T_118 G19 rfl d_T_digest_38 ?_
    refine v_te (y := nI n) hn ?_
    refine v_icmp_ge F 84 d_T_digest_41 rfl (fun h41 => ?_) (fun h41 => ?_)
    · skip
      have h41 : n ≤ i := (nI_leI (a := n) (b := i) (by omega) (by omega)).mp h41
      have he : i = n := by omega
      subst he
      exact k
    · skip
      have h41 : ¬ n ≤ i := fun q => h41 ((nI_leI (a := n) (b := i) (by omega) (by omega)).mpr q)
      refine v_iconst (v := 0) F d_T_digest_44 ki_0 ?_
      refine v_istore (ls' := [(4, .int 0), (0, .ref (u.2.1 0)), (1, .long (hsT (tlS σ G kd L) h i)), (3, .int (nI i))]) F d_T_digest_45 (by decide) rfl ?_
      refine v_sub [1, 2, 3, 0] (ls' := [(0, .ref (u.2.1 0)), (1, .long (hsT (tlS σ G kd L) h i)), (3, .int (nI i)), (4, .int 0)]) rfl ?_
      have g1 : (hsT (tlS σ G kd L) h i) = (hsF (tlS σ G kd L i) (hsT (tlS σ G kd L) h i) 0) := (by first | rfl | (subst_vars; rfl))
      have g2 : 0 = (nI 0) := (by first | rfl | (subst_vars; rfl))
      refine v_to (ls' := [(0, .ref (u.2.1 0)), (1, .long (hsF (tlS σ G kd L i) (hsT (tlS σ G kd L) h i) 0)), (3, .int (nI i)), (4, .int (nI 0))]) (by first | rfl | rw [g1, g2] | simp_all) ?_
      refine L_T_digest_47 hA F hb hL hL64 (by omega) ?_ _ 0 (Nat.zero_le _) (Nat.lt_succ_self _)
      refine v_iinc (v := nI (i + 1)) (ls' := [(3, .int (nI (i + 1))), (0, .ref (u.2.1 0)), (1, .long (hsF (tlS σ G kd L i) (hsT (tlS σ G kd L) h i) 8)), (4, .int (nI 8))]) F d_T_digest_78 (j := 2) rfl (nI_inc _) (by decide) rfl ?_
      refine v_goto F 33 d_T_digest_81 rfl ?_
      refine v_sub [1, 2, 0] (ls' := [(0, .ref (u.2.1 0)), (1, .long (hsF (tlS σ G kd L i) (hsT (tlS σ G kd L) h i) 8)), (3, .int (nI (i + 1)))]) rfl ?_
      have g3 : (hsF (tlS σ G kd L i) (hsT (tlS σ G kd L) h i) 8) = (hsT (tlS σ G kd L) h (i + 1)) := (by first | rfl | (subst_vars; rfl))
      refine v_to (ls' := [(0, .ref (u.2.1 0)), (1, .long (hsT (tlS σ G kd L) h (i + 1))), (3, .int (nI (i + 1)))]) (by first | rfl | rw [g3] | simp_all) ?_
      exact ih (i + 1) (by omega) (by omega)
set_option maxHeartbeats 4000000 in
theorem L_T_digest_86 {X : FX} {u : Un} (hA : Ap u) {Q : State → Prop} (F : Fr X u "TakerBook" b_T_digest 5) {σ : St} {h : Int64} (k : V X u 7 5 Q 114 [(0, .ref (u.2.1 0)), (1, .long (hsF (fun k => σ.1 (53 + 3 * k) 2) h 3)), (3, .int (nI 3))] [] (σ)) : ∀ (nn i : Nat), i ≤ 3 → 3 - i < nn → V X u 7 5 Q 86 [(0, .ref (u.2.1 0)), (1, .long (hsF (fun k => σ.1 (53 + 3 * k) 2) h i)), (3, .int (nI i))] [] (σ) := by
  intro nn
  induction nn with
  | zero =>
    intro i h1 h2
    exact absurd h2 (Nat.not_lt_zero _)
  | succ nn ih =>
    intro i hii hnn
    refine v_iload_n F d_T_digest_86 rfl 2 rfl ?_
    refine v_iconst (v := 3) F d_T_digest_87 ki_3 ?_
    refine v_icmp_ge F 114 d_T_digest_88 rfl (fun h88 => ?_) (fun h88 => ?_)
    · skip
      have h88 : 3 ≤ i := (nI_leI (a := 3) (b := i) (by omega) (by omega)).mp h88
      have he : i = 3 := by omega
      subst he
      exact k
    · skip
      have h88 : ¬ 3 ≤ i := fun q => h88 ((nI_leI (a := 3) (b := i) (by omega) (by omega)).mpr q)
      refine v_ldc2 (v := 31) F kc_T_334 d_T_digest_91 ?_
      refine v_lload_n F d_T_digest_94 rfl 1 rfl ?_
      refine v_lmul F d_T_digest_95 ?_
      refine v_aload_n F d_T_digest_96 rfl 0 rfl ?_
      refine v_getr (r := 52) F fk_T_61 G0 rfl d_T_digest_97 ?_
      refine v_iload_n F d_T_digest_100 rfl 2 rfl ?_
      refine v_aal F i G52 rfl rfl (by omega) d_T_digest_101 ?_
      refine v_geti F fk_T_72 (gam_d (dOk_k (by omega))) rfl d_T_digest_102 ?_
      refine v_i2l F d_T_digest_105 ?_
      refine v_ladd F d_T_digest_106 ?_
      refine v_nl (fun x1 ex1 => ?_)
      refine v_lstore_n (ls' := [(1, .long x1), (0, .ref (u.2.1 0)), (3, .int (nI i))]) F d_T_digest_107 rfl (by decide) rfl ?_
      refine v_iinc (v := nI (i + 1)) (ls' := [(3, .int (nI (i + 1))), (1, .long x1), (0, .ref (u.2.1 0))]) F d_T_digest_108 (j := 2) rfl (nI_inc _) (by decide) rfl ?_
      refine v_goto F 86 d_T_digest_111 rfl ?_
      refine v_sub [2, 1, 0] (ls' := [(0, .ref (u.2.1 0)), (1, .long x1), (3, .int (nI (i + 1)))]) rfl ?_
      have g2 : x1 = (hsF (fun k => σ.1 (53 + 3 * k) 2) h (i + 1)) := (by first | rfl | (subst_vars; rfl))
      refine v_to (ls' := [(0, .ref (u.2.1 0)), (1, .long (hsF (fun k => σ.1 (53 + 3 * k) 2) h (i + 1))), (3, .int (nI (i + 1)))]) (by first | rfl | rw [g2] | simp_all) ?_
      exact ih (i + 1) (by omega) (by omega)
set_option maxHeartbeats 4000000 in
theorem L_T_digest_139 {X : FX} {u : Un} (hA : Ap u) {Q : State → Prop} (F : Fr X u "TakerBook" b_T_digest 5) {σ : St} (hI : rowsOk σ) {r : Nat} (hr : r < 6) {h : Int64} (k : V X u 7 5 Q 173 [(0, .ref (u.2.1 0)), (1, .long (hsF (σ.1 (2 + r)) (31 * hsR (fun r => σ.1 (2 + r)) (σ.1 8) h r + (σ.1 8 r).toInt64) ((ix (σ.1 8 r))))), (3, .int (nI r)), (4, .int (nI ((ix (σ.1 8 r)))))] [] (σ)) : ∀ (nn i : Nat), i ≤ (ix (σ.1 8 r)) → (ix (σ.1 8 r)) - i < nn → V X u 7 5 Q 139 [(0, .ref (u.2.1 0)), (1, .long (hsF (σ.1 (2 + r)) (31 * hsR (fun r => σ.1 (2 + r)) (σ.1 8) h r + (σ.1 8 r).toInt64) i)), (3, .int (nI r)), (4, .int (nI i))] [] (σ) := by
  intro nn
  induction nn with
  | zero =>
    intro i h1 h2
    exact absurd h2 (Nat.not_lt_zero _)
  | succ nn ih =>
    intro i hii hnn
    have hsz : (ix (σ.1 8 r)) ≤ 40 := ix_le (hI r hr) (by decide)
    refine v_iload F d_T_digest_139 3 rfl ?_
    refine v_aload_n F d_T_digest_141 rfl 0 rfl ?_
    refine v_getr (r := 8) F fk_T_14 G0 rfl d_T_digest_142 ?_
    refine v_iload_n F d_T_digest_145 rfl 2 rfl ?_
    refine v_ial F r G8 rfl (by omega) d_T_digest_146 ?_
    refine v_icmp_ge F 173 d_T_digest_147 rfl (fun h147 => ?_) (fun h147 => ?_)
    · skip
      have h147 := (le_ix (by omega)).mp h147
      have he : i = (ix (σ.1 8 r)) := by omega
      subst he
      exact k
    · skip
      have h147 : ¬ (ix (σ.1 8 r)) ≤ i := fun q => h147 ((le_ix (by omega)).mpr q)
      refine v_ldc2 (v := 31) F kc_T_334 d_T_digest_150 ?_
      refine v_lload_n F d_T_digest_153 rfl 1 rfl ?_
      refine v_lmul F d_T_digest_154 ?_
      refine v_aload_n F d_T_digest_155 rfl 0 rfl ?_
      refine v_getr (r := 1) F fk_T_11 G0 rfl d_T_digest_156 ?_
      refine v_iload_n F d_T_digest_159 rfl 2 rfl ?_
      refine v_aal F r G1 rfl rfl (by omega) d_T_digest_160 ?_
      refine v_iload F d_T_digest_161 3 rfl ?_
      refine v_ial F i (gam_row _ (by omega)) rfl (by omega) d_T_digest_163 ?_
      refine v_i2l F d_T_digest_164 ?_
      refine v_ladd F d_T_digest_165 ?_
      refine v_nl (fun x1 ex1 => ?_)
      refine v_lstore_n (ls' := [(1, .long x1), (0, .ref (u.2.1 0)), (3, .int (nI r)), (4, .int (nI i))]) F d_T_digest_166 rfl (by decide) rfl ?_
      refine v_iinc (v := nI (i + 1)) (ls' := [(4, .int (nI (i + 1))), (1, .long x1), (0, .ref (u.2.1 0)), (3, .int (nI r))]) F d_T_digest_167 (j := 3) rfl (nI_inc _) (by decide) rfl ?_
      refine v_goto F 139 d_T_digest_170 rfl ?_
      refine v_sub [2, 1, 3, 0] (ls' := [(0, .ref (u.2.1 0)), (1, .long x1), (3, .int (nI r)), (4, .int (nI (i + 1)))]) rfl ?_
      have g2 : x1 = (hsF (σ.1 (2 + r)) (31 * hsR (fun r => σ.1 (2 + r)) (σ.1 8) h r + (σ.1 8 r).toInt64) (i + 1)) := (by first | rfl | (subst_vars; rfl))
      refine v_to (ls' := [(0, .ref (u.2.1 0)), (1, .long (hsF (σ.1 (2 + r)) (31 * hsR (fun r => σ.1 (2 + r)) (σ.1 8) h r + (σ.1 8 r).toInt64) (i + 1))), (3, .int (nI r)), (4, .int (nI (i + 1)))]) (by first | rfl | rw [g2] | simp_all) ?_
      exact ih (i + 1) (by omega) (by omega)
set_option maxHeartbeats 4000000 in
theorem L_T_digest_116 {X : FX} {u : Un} (hA : Ap u) {Q : State → Prop} (F : Fr X u "TakerBook" b_T_digest 5) {σ : St} (hI : rowsOk σ) {h : Int64} (k : V X u 7 5 Q 179 [(0, .ref (u.2.1 0)), (1, .long (hsR (fun r => σ.1 (2 + r)) (σ.1 8) h 6)), (3, .int (nI 6))] [] (σ)) : ∀ (nn r : Nat), r ≤ 6 → 6 - r < nn → V X u 7 5 Q 116 [(0, .ref (u.2.1 0)), (1, .long (hsR (fun r => σ.1 (2 + r)) (σ.1 8) h r)), (3, .int (nI r))] [] (σ) := by
  intro nn
  induction nn with
  | zero =>
    intro r h1 h2
    exact absurd h2 (Nat.not_lt_zero _)
  | succ nn ih =>
    intro r hii hnn
    refine v_iload_n F d_T_digest_116 rfl 2 rfl ?_
    refine v_bipush (v := 6) F d_T_digest_117 kb_6 ?_
    refine v_icmp_ge F 179 d_T_digest_119 rfl (fun h119 => ?_) (fun h119 => ?_)
    · skip
      have h119 : 6 ≤ r := (nI_leI (a := 6) (b := r) (by omega) (by omega)).mp h119
      have he : r = 6 := by omega
      subst he
      exact k
    · skip
      have h119 : ¬ 6 ≤ r := fun q => h119 ((nI_leI (a := 6) (b := r) (by omega) (by omega)).mpr q)
      refine v_ldc2 (v := 31) F kc_T_334 d_T_digest_122 ?_
      refine v_lload_n F d_T_digest_125 rfl 1 rfl ?_
      refine v_lmul F d_T_digest_126 ?_
      refine v_aload_n F d_T_digest_127 rfl 0 rfl ?_
      refine v_getr (r := 8) F fk_T_14 G0 rfl d_T_digest_128 ?_
      refine v_iload_n F d_T_digest_131 rfl 2 rfl ?_
      refine v_ial F r G8 rfl (by omega) d_T_digest_132 ?_
      refine v_i2l F d_T_digest_133 ?_
      refine v_ladd F d_T_digest_134 ?_
      refine v_nl (fun x1 ex1 => ?_)
      refine v_lstore_n (ls' := [(1, .long x1), (0, .ref (u.2.1 0)), (3, .int (nI r))]) F d_T_digest_135 rfl (by decide) rfl ?_
      refine v_iconst (v := 0) F d_T_digest_136 ki_0 ?_
      refine v_istore (ls' := [(4, .int 0), (1, .long x1), (0, .ref (u.2.1 0)), (3, .int (nI r))]) F d_T_digest_137 (by decide) rfl ?_
      refine v_sub [2, 1, 3, 0] (ls' := [(0, .ref (u.2.1 0)), (1, .long x1), (3, .int (nI r)), (4, .int 0)]) rfl ?_
      have g2 : x1 = (hsF (σ.1 (2 + r)) (31 * hsR (fun r => σ.1 (2 + r)) (σ.1 8) h r + (σ.1 8 r).toInt64) 0) := (by first | rfl | (subst_vars; rfl))
      have g3 : 0 = (nI 0) := (by first | rfl | (subst_vars; rfl))
      refine v_to (ls' := [(0, .ref (u.2.1 0)), (1, .long (hsF (σ.1 (2 + r)) (31 * hsR (fun r => σ.1 (2 + r)) (σ.1 8) h r + (σ.1 8 r).toInt64) 0)), (3, .int (nI r)), (4, .int (nI 0))]) (by first | rfl | rw [g2, g3] | simp_all) ?_
      refine L_T_digest_139 hA F hI (by omega) ?_ _ 0 (Nat.zero_le _) (Nat.lt_succ_self _)
      refine v_iinc (v := nI (r + 1)) (ls' := [(3, .int (nI (r + 1))), (0, .ref (u.2.1 0)), (1, .long (hsF (σ.1 (2 + r)) (31 * hsR (fun r => σ.1 (2 + r)) (σ.1 8) h r + (σ.1 8 r).toInt64) ((ix (σ.1 8 r))))), (4, .int (nI ((ix (σ.1 8 r)))))]) F d_T_digest_173 (j := 2) rfl (nI_inc _) (by decide) rfl ?_
      refine v_goto F 116 d_T_digest_176 rfl ?_
      refine v_sub [1, 2, 0] (ls' := [(0, .ref (u.2.1 0)), (1, .long (hsF (σ.1 (2 + r)) (31 * hsR (fun r => σ.1 (2 + r)) (σ.1 8) h r + (σ.1 8 r).toInt64) ((ix (σ.1 8 r))))), (3, .int (nI (r + 1)))]) rfl ?_
      have g4 : (hsF (σ.1 (2 + r)) (31 * hsR (fun r => σ.1 (2 + r)) (σ.1 8) h r + (σ.1 8 r).toInt64) ((ix (σ.1 8 r)))) = (hsR (fun r => σ.1 (2 + r)) (σ.1 8) h (r + 1)) := (by first | rfl | (subst_vars; rfl))
      refine v_to (ls' := [(0, .ref (u.2.1 0)), (1, .long (hsR (fun r => σ.1 (2 + r)) (σ.1 8) h (r + 1))), (3, .int (nI (r + 1)))]) (by first | rfl | rw [g4] | simp_all) ?_
      exact ih (r + 1) (by omega) (by omega)
set_option maxHeartbeats 4000000 in
theorem L_T_digest_203 {X : FX} {u : Un} (hA : Ap u) {Q : State → Prop} (F : Fr X u "TakerBook" b_T_digest 5) {σ : St} (hI : textsOk σ) {r : Nat} (hr : r < 4) {h : Int64} (k : V X u 7 5 Q 237 [(0, .ref (u.2.1 0)), (1, .long (hsF (σ.1 (10 + r)) (31 * hsR (fun r => σ.1 (10 + r)) (σ.1 14) h r + (σ.1 14 r).toInt64) ((ix (σ.1 14 r))))), (3, .int (nI r)), (4, .int (nI ((ix (σ.1 14 r)))))] [] (σ)) : ∀ (nn i : Nat), i ≤ (ix (σ.1 14 r)) → (ix (σ.1 14 r)) - i < nn → V X u 7 5 Q 203 [(0, .ref (u.2.1 0)), (1, .long (hsF (σ.1 (10 + r)) (31 * hsR (fun r => σ.1 (10 + r)) (σ.1 14) h r + (σ.1 14 r).toInt64) i)), (3, .int (nI r)), (4, .int (nI i))] [] (σ) := by
  intro nn
  induction nn with
  | zero =>
    intro i h1 h2
    exact absurd h2 (Nat.not_lt_zero _)
  | succ nn ih =>
    intro i hii hnn
    have hsz : (ix (σ.1 14 r)) ≤ 60 := ix_le (hI r hr) (by decide)
    refine v_iload F d_T_digest_203 3 rfl ?_
    refine v_aload_n F d_T_digest_205 rfl 0 rfl ?_
    refine v_getr (r := 14) F fk_T_23 G0 rfl d_T_digest_206 ?_
    refine v_iload_n F d_T_digest_209 rfl 2 rfl ?_
    refine v_ial F r G14 rfl (by omega) d_T_digest_210 ?_
    refine v_icmp_ge F 237 d_T_digest_211 rfl (fun h211 => ?_) (fun h211 => ?_)
    · skip
      have h211 := (le_ix (by omega)).mp h211
      have he : i = (ix (σ.1 14 r)) := by omega
      subst he
      exact k
    · skip
      have h211 : ¬ (ix (σ.1 14 r)) ≤ i := fun q => h211 ((le_ix (by omega)).mpr q)
      refine v_ldc2 (v := 31) F kc_T_334 d_T_digest_214 ?_
      refine v_lload_n F d_T_digest_217 rfl 1 rfl ?_
      refine v_lmul F d_T_digest_218 ?_
      refine v_aload_n F d_T_digest_219 rfl 0 rfl ?_
      refine v_getr (r := 9) F fk_T_20 G0 rfl d_T_digest_220 ?_
      refine v_iload_n F d_T_digest_223 rfl 2 rfl ?_
      refine v_aal F r G9 rfl rfl (by omega) d_T_digest_224 ?_
      refine v_iload F d_T_digest_225 3 rfl ?_
      refine v_bal F i (gam_text _ (by omega)) rfl (by omega) d_T_digest_227 ?_
      refine v_i2l F d_T_digest_228 ?_
      refine v_ladd F d_T_digest_229 ?_
      refine v_nl (fun x1 ex1 => ?_)
      refine v_lstore_n (ls' := [(1, .long x1), (0, .ref (u.2.1 0)), (3, .int (nI r)), (4, .int (nI i))]) F d_T_digest_230 rfl (by decide) rfl ?_
      refine v_iinc (v := nI (i + 1)) (ls' := [(4, .int (nI (i + 1))), (1, .long x1), (0, .ref (u.2.1 0)), (3, .int (nI r))]) F d_T_digest_231 (j := 3) rfl (nI_inc _) (by decide) rfl ?_
      refine v_goto F 203 d_T_digest_234 rfl ?_
      refine v_sub [2, 1, 3, 0] (ls' := [(0, .ref (u.2.1 0)), (1, .long x1), (3, .int (nI r)), (4, .int (nI (i + 1)))]) rfl ?_
      have g2 : x1 = (hsF (σ.1 (10 + r)) (31 * hsR (fun r => σ.1 (10 + r)) (σ.1 14) h r + (σ.1 14 r).toInt64) (i + 1)) := (by first | rfl | (subst_vars; rfl))
      refine v_to (ls' := [(0, .ref (u.2.1 0)), (1, .long (hsF (σ.1 (10 + r)) (31 * hsR (fun r => σ.1 (10 + r)) (σ.1 14) h r + (σ.1 14 r).toInt64) (i + 1))), (3, .int (nI r)), (4, .int (nI (i + 1)))]) (by first | rfl | rw [g2] | simp_all) ?_
      exact ih (i + 1) (by omega) (by omega)
set_option maxHeartbeats 4000000 in
theorem L_T_digest_181 {X : FX} {u : Un} (hA : Ap u) {Q : State → Prop} (F : Fr X u "TakerBook" b_T_digest 5) {σ : St} (hI : textsOk σ) {h : Int64} (k : V X u 7 5 Q 243 [(0, .ref (u.2.1 0)), (1, .long (hsR (fun r => σ.1 (10 + r)) (σ.1 14) h 4)), (3, .int (nI 4))] [] (σ)) : ∀ (nn r : Nat), r ≤ 4 → 4 - r < nn → V X u 7 5 Q 181 [(0, .ref (u.2.1 0)), (1, .long (hsR (fun r => σ.1 (10 + r)) (σ.1 14) h r)), (3, .int (nI r))] [] (σ) := by
  intro nn
  induction nn with
  | zero =>
    intro r h1 h2
    exact absurd h2 (Nat.not_lt_zero _)
  | succ nn ih =>
    intro r hii hnn
    refine v_iload_n F d_T_digest_181 rfl 2 rfl ?_
    refine v_iconst (v := 4) F d_T_digest_182 ki_4 ?_
    refine v_icmp_ge F 243 d_T_digest_183 rfl (fun h183 => ?_) (fun h183 => ?_)
    · skip
      have h183 : 4 ≤ r := (nI_leI (a := 4) (b := r) (by omega) (by omega)).mp h183
      have he : r = 4 := by omega
      subst he
      exact k
    · skip
      have h183 : ¬ 4 ≤ r := fun q => h183 ((nI_leI (a := 4) (b := r) (by omega) (by omega)).mpr q)
      refine v_ldc2 (v := 31) F kc_T_334 d_T_digest_186 ?_
      refine v_lload_n F d_T_digest_189 rfl 1 rfl ?_
      refine v_lmul F d_T_digest_190 ?_
      refine v_aload_n F d_T_digest_191 rfl 0 rfl ?_
      refine v_getr (r := 14) F fk_T_23 G0 rfl d_T_digest_192 ?_
      refine v_iload_n F d_T_digest_195 rfl 2 rfl ?_
      refine v_ial F r G14 rfl (by omega) d_T_digest_196 ?_
      refine v_i2l F d_T_digest_197 ?_
      refine v_ladd F d_T_digest_198 ?_
      refine v_nl (fun x1 ex1 => ?_)
      refine v_lstore_n (ls' := [(1, .long x1), (0, .ref (u.2.1 0)), (3, .int (nI r))]) F d_T_digest_199 rfl (by decide) rfl ?_
      refine v_iconst (v := 0) F d_T_digest_200 ki_0 ?_
      refine v_istore (ls' := [(4, .int 0), (1, .long x1), (0, .ref (u.2.1 0)), (3, .int (nI r))]) F d_T_digest_201 (by decide) rfl ?_
      refine v_sub [2, 1, 3, 0] (ls' := [(0, .ref (u.2.1 0)), (1, .long x1), (3, .int (nI r)), (4, .int 0)]) rfl ?_
      have g2 : x1 = (hsF (σ.1 (10 + r)) (31 * hsR (fun r => σ.1 (10 + r)) (σ.1 14) h r + (σ.1 14 r).toInt64) 0) := (by first | rfl | (subst_vars; rfl))
      have g3 : 0 = (nI 0) := (by first | rfl | (subst_vars; rfl))
      refine v_to (ls' := [(0, .ref (u.2.1 0)), (1, .long (hsF (σ.1 (10 + r)) (31 * hsR (fun r => σ.1 (10 + r)) (σ.1 14) h r + (σ.1 14 r).toInt64) 0)), (3, .int (nI r)), (4, .int (nI 0))]) (by first | rfl | rw [g2, g3] | simp_all) ?_
      refine L_T_digest_203 hA F hI (by omega) ?_ _ 0 (Nat.zero_le _) (Nat.lt_succ_self _)
      refine v_iinc (v := nI (r + 1)) (ls' := [(3, .int (nI (r + 1))), (0, .ref (u.2.1 0)), (1, .long (hsF (σ.1 (10 + r)) (31 * hsR (fun r => σ.1 (10 + r)) (σ.1 14) h r + (σ.1 14 r).toInt64) ((ix (σ.1 14 r))))), (4, .int (nI ((ix (σ.1 14 r)))))]) F d_T_digest_237 (j := 2) rfl (nI_inc _) (by decide) rfl ?_
      refine v_goto F 181 d_T_digest_240 rfl ?_
      refine v_sub [1, 2, 0] (ls' := [(0, .ref (u.2.1 0)), (1, .long (hsF (σ.1 (10 + r)) (31 * hsR (fun r => σ.1 (10 + r)) (σ.1 14) h r + (σ.1 14 r).toInt64) ((ix (σ.1 14 r))))), (3, .int (nI (r + 1)))]) rfl ?_
      have g4 : (hsF (σ.1 (10 + r)) (31 * hsR (fun r => σ.1 (10 + r)) (σ.1 14) h r + (σ.1 14 r).toInt64) ((ix (σ.1 14 r)))) = (hsR (fun r => σ.1 (10 + r)) (σ.1 14) h (r + 1)) := (by first | rfl | (subst_vars; rfl))
      refine v_to (ls' := [(0, .ref (u.2.1 0)), (1, .long (hsR (fun r => σ.1 (10 + r)) (σ.1 14) h (r + 1))), (3, .int (nI (r + 1)))]) (by first | rfl | rw [g4] | simp_all) ?_
      exact ih (r + 1) (by omega) (by omega)
set_option maxHeartbeats 4000000 in
theorem c_T_digest (l : Launch) (u : Un) (hA : Ap u) (σ : St) {n G : Nat} {kd : Nat → Nat} (hb : bkOk σ n G kd) {L : Nat} (hL : σ.1 19 14 = nI L) (hL64 : L < 64) (hI : rowsOk σ) (hJ : textsOk σ) : MTl l u y_T_digest b_T_digest 5 7 [.ref (u.2.1 0)] σ (fun ans σ' => tDigest σ G kd n L = ans ∧ σ = σ') := by
  refine MT_of hA rfl (by decide) (Nat.le_of_ble_eq_true rfl) (fun X hl F hr => ?_)
  subst hl
  refine v_to (ls' := [(0, .ref (u.2.1 0))]) rfl ?_
  obtain ⟨hn, hn6, hG, hG64, hkd, hk6⟩ := id hb
  refine v_ldc2 (v := 17) F kc_T_332 d_T_digest_0 ?_
  refine v_lstore_n (ls' := [(1, .long 17), (0, .ref (u.2.1 0))]) F d_T_digest_3 rfl (by decide) rfl ?_
  refine v_iconst (v := 0) F d_T_digest_4 ki_0 ?_
  refine v_istore_n (ls' := [(3, .int 0), (1, .long 17), (0, .ref (u.2.1 0))]) F d_T_digest_5 rfl (by decide) rfl ?_
  refine v_sub [2, 1, 0] (ls' := [(0, .ref (u.2.1 0)), (1, .long 17), (3, .int 0)]) rfl ?_
  have g1 : 17 = (hsF (ctT σ G) 17 0) := (by first | rfl | (subst_vars; rfl))
  have g2 : 0 = (nI 0) := (by first | rfl | (subst_vars; rfl))
  refine v_to (ls' := [(0, .ref (u.2.1 0)), (1, .long (hsF (ctT σ G) 17 0)), (3, .int (nI 0))]) (by first | rfl | rw [g1, g2] | simp_all) ?_
  refine L_T_digest_6 hA F hG hG64 ?_ _ 0 (Nat.zero_le _) (Nat.lt_succ_self _)
  refine v_iconst (v := 0) F d_T_digest_31 ki_0 ?_
  refine v_istore_n (ls' := [(3, .int 0), (0, .ref (u.2.1 0)), (1, .long (hsF (ctT σ G) 17 11))]) F d_T_digest_32 rfl (by decide) rfl ?_
  refine v_sub [1, 2, 0] (ls' := [(0, .ref (u.2.1 0)), (1, .long (hsF (ctT σ G) 17 11)), (3, .int 0)]) rfl ?_
  have g3 : (hsF (ctT σ G) 17 11) = (hsT (tlS σ G kd L) (hsF (ctT σ G) 17 11) 0) := (by first | rfl | (subst_vars; rfl))
  have g4 : 0 = (nI 0) := (by first | rfl | (subst_vars; rfl))
  refine v_to (ls' := [(0, .ref (u.2.1 0)), (1, .long (hsT (tlS σ G kd L) (hsF (ctT σ G) 17 11) 0)), (3, .int (nI 0))]) (by first | rfl | rw [g3, g4] | simp_all) ?_
  refine L_T_digest_33 hA F hb hL hL64 ?_ _ 0 (Nat.zero_le _) (Nat.lt_succ_self _)
  refine v_iconst (v := 0) F d_T_digest_84 ki_0 ?_
  refine v_istore_n (ls' := [(3, .int 0), (0, .ref (u.2.1 0)), (1, .long (hsT (tlS σ G kd L) (hsF (ctT σ G) 17 11) n))]) F d_T_digest_85 rfl (by decide) rfl ?_
  refine v_sub [1, 2, 0] (ls' := [(0, .ref (u.2.1 0)), (1, .long (hsT (tlS σ G kd L) (hsF (ctT σ G) 17 11) n)), (3, .int 0)]) rfl ?_
  have g5 : (hsT (tlS σ G kd L) (hsF (ctT σ G) 17 11) n) = (hsF (fun k => σ.1 (53 + 3 * k) 2) (hsT (tlS σ G kd L) (hsF (ctT σ G) 17 11) n) 0) := (by first | rfl | (subst_vars; rfl))
  have g6 : 0 = (nI 0) := (by first | rfl | (subst_vars; rfl))
  refine v_to (ls' := [(0, .ref (u.2.1 0)), (1, .long (hsF (fun k => σ.1 (53 + 3 * k) 2) (hsT (tlS σ G kd L) (hsF (ctT σ G) 17 11) n) 0)), (3, .int (nI 0))]) (by first | rfl | rw [g5, g6] | simp_all) ?_
  refine L_T_digest_86 hA F  ?_ _ 0 (Nat.zero_le _) (Nat.lt_succ_self _)
  refine v_iconst (v := 0) F d_T_digest_114 ki_0 ?_
  refine v_istore_n (ls' := [(3, .int 0), (0, .ref (u.2.1 0)), (1, .long (hsF (fun k => σ.1 (53 + 3 * k) 2) (hsT (tlS σ G kd L) (hsF (ctT σ G) 17 11) n) 3))]) F d_T_digest_115 rfl (by decide) rfl ?_
  refine v_sub [1, 2, 0] (ls' := [(0, .ref (u.2.1 0)), (1, .long (hsF (fun k => σ.1 (53 + 3 * k) 2) (hsT (tlS σ G kd L) (hsF (ctT σ G) 17 11) n) 3)), (3, .int 0)]) rfl ?_
  have g7 : (hsF (fun k => σ.1 (53 + 3 * k) 2) (hsT (tlS σ G kd L) (hsF (ctT σ G) 17 11) n) 3) = (hsR (fun r => σ.1 (2 + r)) (σ.1 8) (hsF (fun k => σ.1 (53 + 3 * k) 2) (hsT (tlS σ G kd L) (hsF (ctT σ G) 17 11) n) 3) 0) := (by first | rfl | (subst_vars; rfl))
  have g8 : 0 = (nI 0) := (by first | rfl | (subst_vars; rfl))
  refine v_to (ls' := [(0, .ref (u.2.1 0)), (1, .long (hsR (fun r => σ.1 (2 + r)) (σ.1 8) (hsF (fun k => σ.1 (53 + 3 * k) 2) (hsT (tlS σ G kd L) (hsF (ctT σ G) 17 11) n) 3) 0)), (3, .int (nI 0))]) (by first | rfl | rw [g7, g8] | simp_all) ?_
  refine L_T_digest_116 hA F hI ?_ _ 0 (Nat.zero_le _) (Nat.lt_succ_self _)
  refine v_iconst (v := 0) F d_T_digest_179 ki_0 ?_
  refine v_istore_n (ls' := [(3, .int 0), (0, .ref (u.2.1 0)), (1, .long (hsR (fun r => σ.1 (2 + r)) (σ.1 8) (hsF (fun k => σ.1 (53 + 3 * k) 2) (hsT (tlS σ G kd L) (hsF (ctT σ G) 17 11) n) 3) 6))]) F d_T_digest_180 rfl (by decide) rfl ?_
  refine v_sub [1, 2, 0] (ls' := [(0, .ref (u.2.1 0)), (1, .long (hsR (fun r => σ.1 (2 + r)) (σ.1 8) (hsF (fun k => σ.1 (53 + 3 * k) 2) (hsT (tlS σ G kd L) (hsF (ctT σ G) 17 11) n) 3) 6)), (3, .int 0)]) rfl ?_
  have g9 : (hsR (fun r => σ.1 (2 + r)) (σ.1 8) (hsF (fun k => σ.1 (53 + 3 * k) 2) (hsT (tlS σ G kd L) (hsF (ctT σ G) 17 11) n) 3) 6) = (hsR (fun r => σ.1 (10 + r)) (σ.1 14) (hsR (fun r => σ.1 (2 + r)) (σ.1 8) (hsF (fun k => σ.1 (53 + 3 * k) 2) (hsT (tlS σ G kd L) (hsF (ctT σ G) 17 11) n) 3) 6) 0) := (by first | rfl | (subst_vars; rfl))
  have g10 : 0 = (nI 0) := (by first | rfl | (subst_vars; rfl))
  refine v_to (ls' := [(0, .ref (u.2.1 0)), (1, .long (hsR (fun r => σ.1 (10 + r)) (σ.1 14) (hsR (fun r => σ.1 (2 + r)) (σ.1 8) (hsF (fun k => σ.1 (53 + 3 * k) 2) (hsT (tlS σ G kd L) (hsF (ctT σ G) 17 11) n) 3) 6) 0)), (3, .int (nI 0))]) (by first | rfl | rw [g9, g10] | simp_all) ?_
  refine L_T_digest_181 hA F hJ ?_ _ 0 (Nat.zero_le _) (Nat.lt_succ_self _)
  refine v_lload_n F d_T_digest_243 rfl 1 rfl ?_
  refine v_lret F hr d_T_digest_244 ?_
  exact ⟨rfl, rfl⟩
