-- the constructor of the class
def ZT (b : Nat) (cc : Nat → ClassId) : Nat → va_E := (updE (updE (updE (updE (updE (updE (Z b cc) 0 (.inr (0, [.ref (b + 1), .ref (b + 8), .ref (b + 9), .ref (b + 14), .ref (b + 15), .ref (b + 19), .ref (b + 34), .ref (b + 40), .ref (b + 49), .ref (b + 52), .ref (b + 62), .int 0, .int 0, .long 0, .long 1]))) 8 (.inl (cc 0, 6, .inl (fun _ => -1)))) 14 (.inl (cc 0, 4, .inl (fun _ => -1)))) 53 (.inr (4, [.ref (b + 54), .ref (b + 55), .int (-1)]))) 56 (.inr (4, [.ref (b + 57), .ref (b + 58), .int (-1)]))) 59 (.inr (4, [.ref (b + 60), .ref (b + 61), .int (-1)])))
theorem pf_T_0 : parseFieldDescriptor (F_T 0).2.2.1 = some (.array (.array .int)) := by decide +kernel
theorem pf_T_1 : parseFieldDescriptor (F_T 1).2.2.1 = some (.array .int) := by decide +kernel
theorem pf_T_2 : parseFieldDescriptor (F_T 2).2.2.1 = some (.array (.array .byte)) := by decide +kernel
theorem pf_T_3 : parseFieldDescriptor (F_T 3).2.2.1 = some (.array .int) := by decide +kernel
theorem pf_T_4 : parseFieldDescriptor (F_T 4).2.2.1 = some (.object "TakerBook$Reader") := by decide +kernel
theorem pf_T_5 : parseFieldDescriptor (F_T 5).2.2.1 = some (.object "TakerBook$Band") := by decide +kernel
theorem pf_T_6 : parseFieldDescriptor (F_T 6).2.2.1 = some (.object "TakerBook$Plans") := by decide +kernel
theorem pf_T_7 : parseFieldDescriptor (F_T 7).2.2.1 = some (.object "TakerBook$Marks") := by decide +kernel
theorem pf_T_8 : parseFieldDescriptor (F_T 8).2.2.1 = some (.object "TakerBook$Deeds") := by decide +kernel
theorem pf_T_9 : parseFieldDescriptor (F_T 9).2.2.1 = some (.array (.object "TakerBook$Deeds")) := by decide +kernel
theorem pf_T_10 : parseFieldDescriptor (F_T 10).2.2.1 = some (.array .int) := by decide +kernel
theorem pf_T_14 : parseFieldDescriptor (F_T 14).2.2.1 = some .long := by decide +kernel
theorem pf_D_2 : parseFieldDescriptor (F_D 2).2.2.1 = some .int := by decide +kernel
abbrev b_T_init : ByteArray := prog_1_method_1_code
abbrev y_T_init : MethodName := ⟨"TakerBook", "<init>", "()V"⟩
theorem d_T_init_0 : decode b_T_init 0 = .ok (.aload_n 0, 1) := by decide +kernel
theorem d_T_init_1 : decode b_T_init 1 = .ok (.invokespecial 1, 3) := by decide +kernel
theorem d_T_init_4 : decode b_T_init 4 = .ok (.aload_n 0, 1) := by decide +kernel
theorem d_T_init_5 : decode b_T_init 5 = .ok (.bipush 6, 2) := by decide +kernel
theorem d_T_init_7 : decode b_T_init 7 = .ok (.bipush 40, 2) := by decide +kernel
theorem d_T_init_9 : decode b_T_init 9 = .ok (.multianewarray 9 2, 4) := by decide +kernel
theorem d_T_init_13 : decode b_T_init 13 = .ok (.putfield 11, 3) := by decide +kernel
theorem d_T_init_16 : decode b_T_init 16 = .ok (.aload_n 0, 1) := by decide +kernel
theorem d_T_init_17 : decode b_T_init 17 = .ok (.bipush 6, 2) := by decide +kernel
theorem d_T_init_19 : decode b_T_init 19 = .ok (.newarray .int, 2) := by decide +kernel
theorem d_T_init_21 : decode b_T_init 21 = .ok (.putfield 14, 3) := by decide +kernel
theorem d_T_init_24 : decode b_T_init 24 = .ok (.aload_n 0, 1) := by decide +kernel
theorem d_T_init_25 : decode b_T_init 25 = .ok (.iconst 4, 1) := by decide +kernel
theorem d_T_init_26 : decode b_T_init 26 = .ok (.bipush 60, 2) := by decide +kernel
theorem d_T_init_28 : decode b_T_init 28 = .ok (.multianewarray 18 2, 4) := by decide +kernel
theorem d_T_init_32 : decode b_T_init 32 = .ok (.putfield 20, 3) := by decide +kernel
theorem d_T_init_35 : decode b_T_init 35 = .ok (.aload_n 0, 1) := by decide +kernel
theorem d_T_init_36 : decode b_T_init 36 = .ok (.iconst 4, 1) := by decide +kernel
theorem d_T_init_37 : decode b_T_init 37 = .ok (.newarray .int, 2) := by decide +kernel
theorem d_T_init_39 : decode b_T_init 39 = .ok (.putfield 23, 3) := by decide +kernel
theorem d_T_init_42 : decode b_T_init 42 = .ok (.aload_n 0, 1) := by decide +kernel
theorem d_T_init_43 : decode b_T_init 43 = .ok (.new 26, 3) := by decide +kernel
theorem d_T_init_46 : decode b_T_init 46 = .ok (.dup, 1) := by decide +kernel
theorem d_T_init_47 : decode b_T_init 47 = .ok (.invokespecial 28, 3) := by decide +kernel
theorem d_T_init_50 : decode b_T_init 50 = .ok (.putfield 29, 3) := by decide +kernel
theorem d_T_init_53 : decode b_T_init 53 = .ok (.aload_n 0, 1) := by decide +kernel
theorem d_T_init_54 : decode b_T_init 54 = .ok (.new 33, 3) := by decide +kernel
theorem d_T_init_57 : decode b_T_init 57 = .ok (.dup, 1) := by decide +kernel
theorem d_T_init_58 : decode b_T_init 58 = .ok (.invokespecial 35, 3) := by decide +kernel
theorem d_T_init_61 : decode b_T_init 61 = .ok (.putfield 36, 3) := by decide +kernel
theorem d_T_init_64 : decode b_T_init 64 = .ok (.aload_n 0, 1) := by decide +kernel
theorem d_T_init_65 : decode b_T_init 65 = .ok (.new 40, 3) := by decide +kernel
theorem d_T_init_68 : decode b_T_init 68 = .ok (.dup, 1) := by decide +kernel
theorem d_T_init_69 : decode b_T_init 69 = .ok (.invokespecial 42, 3) := by decide +kernel
theorem d_T_init_72 : decode b_T_init 72 = .ok (.putfield 43, 3) := by decide +kernel
theorem d_T_init_75 : decode b_T_init 75 = .ok (.aload_n 0, 1) := by decide +kernel
theorem d_T_init_76 : decode b_T_init 76 = .ok (.new 47, 3) := by decide +kernel
theorem d_T_init_79 : decode b_T_init 79 = .ok (.dup, 1) := by decide +kernel
theorem d_T_init_80 : decode b_T_init 80 = .ok (.invokespecial 49, 3) := by decide +kernel
theorem d_T_init_83 : decode b_T_init 83 = .ok (.putfield 50, 3) := by decide +kernel
theorem d_T_init_86 : decode b_T_init 86 = .ok (.aload_n 0, 1) := by decide +kernel
theorem d_T_init_87 : decode b_T_init 87 = .ok (.new 54, 3) := by decide +kernel
theorem d_T_init_90 : decode b_T_init 90 = .ok (.dup, 1) := by decide +kernel
theorem d_T_init_91 : decode b_T_init 91 = .ok (.invokespecial 56, 3) := by decide +kernel
theorem d_T_init_94 : decode b_T_init 94 = .ok (.putfield 57, 3) := by decide +kernel
theorem d_T_init_97 : decode b_T_init 97 = .ok (.aload_n 0, 1) := by decide +kernel
theorem d_T_init_98 : decode b_T_init 98 = .ok (.iconst 3, 1) := by decide +kernel
theorem d_T_init_99 : decode b_T_init 99 = .ok (.anewarray 54, 3) := by decide +kernel
theorem d_T_init_102 : decode b_T_init 102 = .ok (.dup, 1) := by decide +kernel
theorem d_T_init_103 : decode b_T_init 103 = .ok (.iconst 0, 1) := by decide +kernel
theorem d_T_init_104 : decode b_T_init 104 = .ok (.new 54, 3) := by decide +kernel
theorem d_T_init_107 : decode b_T_init 107 = .ok (.dup, 1) := by decide +kernel
theorem d_T_init_108 : decode b_T_init 108 = .ok (.invokespecial 56, 3) := by decide +kernel
theorem d_T_init_111 : decode b_T_init 111 = .ok (.aastore, 1) := by decide +kernel
theorem d_T_init_112 : decode b_T_init 112 = .ok (.dup, 1) := by decide +kernel
theorem d_T_init_113 : decode b_T_init 113 = .ok (.iconst 1, 1) := by decide +kernel
theorem d_T_init_114 : decode b_T_init 114 = .ok (.new 54, 3) := by decide +kernel
theorem d_T_init_117 : decode b_T_init 117 = .ok (.dup, 1) := by decide +kernel
theorem d_T_init_118 : decode b_T_init 118 = .ok (.invokespecial 56, 3) := by decide +kernel
theorem d_T_init_121 : decode b_T_init 121 = .ok (.aastore, 1) := by decide +kernel
theorem d_T_init_122 : decode b_T_init 122 = .ok (.dup, 1) := by decide +kernel
theorem d_T_init_123 : decode b_T_init 123 = .ok (.iconst 2, 1) := by decide +kernel
theorem d_T_init_124 : decode b_T_init 124 = .ok (.new 54, 3) := by decide +kernel
theorem d_T_init_127 : decode b_T_init 127 = .ok (.dup, 1) := by decide +kernel
theorem d_T_init_128 : decode b_T_init 128 = .ok (.invokespecial 56, 3) := by decide +kernel
theorem d_T_init_131 : decode b_T_init 131 = .ok (.aastore, 1) := by decide +kernel
theorem d_T_init_132 : decode b_T_init 132 = .ok (.putfield 61, 3) := by decide +kernel
theorem d_T_init_135 : decode b_T_init 135 = .ok (.aload_n 0, 1) := by decide +kernel
theorem d_T_init_136 : decode b_T_init 136 = .ok (.bipush 6, 2) := by decide +kernel
theorem d_T_init_138 : decode b_T_init 138 = .ok (.newarray .int, 2) := by decide +kernel
theorem d_T_init_140 : decode b_T_init 140 = .ok (.putfield 65, 3) := by decide +kernel
theorem d_T_init_143 : decode b_T_init 143 = .ok (.aload_n 0, 1) := by decide +kernel
theorem d_T_init_144 : decode b_T_init 144 = .ok (.lconst 1, 1) := by decide +kernel
theorem d_T_init_145 : decode b_T_init 145 = .ok (.putfield 68, 3) := by decide +kernel
theorem d_T_init_148 : decode b_T_init 148 = .ok (.iconst 0, 1) := by decide +kernel
theorem d_T_init_149 : decode b_T_init 149 = .ok (.istore_n 1, 1) := by decide +kernel
theorem d_T_init_150 : decode b_T_init 150 = .ok (.iload_n 1, 1) := by decide +kernel
theorem d_T_init_151 : decode b_T_init 151 = .ok (.bipush 6, 2) := by decide +kernel
theorem d_T_init_153 : decode b_T_init 153 = .ok (.if_icmp .ge 16, 3) := by decide +kernel
theorem d_T_init_156 : decode b_T_init 156 = .ok (.aload_n 0, 1) := by decide +kernel
theorem d_T_init_157 : decode b_T_init 157 = .ok (.getfield 14, 3) := by decide +kernel
theorem d_T_init_160 : decode b_T_init 160 = .ok (.iload_n 1, 1) := by decide +kernel
theorem d_T_init_161 : decode b_T_init 161 = .ok (.iconst (-1), 1) := by decide +kernel
theorem d_T_init_162 : decode b_T_init 162 = .ok (.iastore, 1) := by decide +kernel
theorem d_T_init_163 : decode b_T_init 163 = .ok (.iinc 1 1, 3) := by decide +kernel
theorem d_T_init_166 : decode b_T_init 166 = .ok (.goto (-16), 3) := by decide +kernel
theorem d_T_init_169 : decode b_T_init 169 = .ok (.iconst 0, 1) := by decide +kernel
theorem d_T_init_170 : decode b_T_init 170 = .ok (.istore_n 1, 1) := by decide +kernel
theorem d_T_init_171 : decode b_T_init 171 = .ok (.iload_n 1, 1) := by decide +kernel
theorem d_T_init_172 : decode b_T_init 172 = .ok (.iconst 4, 1) := by decide +kernel
theorem d_T_init_173 : decode b_T_init 173 = .ok (.if_icmp .ge 16, 3) := by decide +kernel
theorem d_T_init_176 : decode b_T_init 176 = .ok (.aload_n 0, 1) := by decide +kernel
theorem d_T_init_177 : decode b_T_init 177 = .ok (.getfield 23, 3) := by decide +kernel
theorem d_T_init_180 : decode b_T_init 180 = .ok (.iload_n 1, 1) := by decide +kernel
theorem d_T_init_181 : decode b_T_init 181 = .ok (.iconst (-1), 1) := by decide +kernel
theorem d_T_init_182 : decode b_T_init 182 = .ok (.iastore, 1) := by decide +kernel
theorem d_T_init_183 : decode b_T_init 183 = .ok (.iinc 1 1, 3) := by decide +kernel
theorem d_T_init_186 : decode b_T_init 186 = .ok (.goto (-15), 3) := by decide +kernel
theorem d_T_init_189 : decode b_T_init 189 = .ok (.iconst 0, 1) := by decide +kernel
theorem d_T_init_190 : decode b_T_init 190 = .ok (.istore_n 1, 1) := by decide +kernel
theorem d_T_init_191 : decode b_T_init 191 = .ok (.iload_n 1, 1) := by decide +kernel
theorem d_T_init_192 : decode b_T_init 192 = .ok (.iconst 3, 1) := by decide +kernel
theorem d_T_init_193 : decode b_T_init 193 = .ok (.if_icmp .ge 19, 3) := by decide +kernel
theorem d_T_init_196 : decode b_T_init 196 = .ok (.aload_n 0, 1) := by decide +kernel
theorem d_T_init_197 : decode b_T_init 197 = .ok (.getfield 61, 3) := by decide +kernel
theorem d_T_init_200 : decode b_T_init 200 = .ok (.iload_n 1, 1) := by decide +kernel
theorem d_T_init_201 : decode b_T_init 201 = .ok (.aaload, 1) := by decide +kernel
theorem d_T_init_202 : decode b_T_init 202 = .ok (.iconst (-1), 1) := by decide +kernel
theorem d_T_init_203 : decode b_T_init 203 = .ok (.putfield 72, 3) := by decide +kernel
theorem d_T_init_206 : decode b_T_init 206 = .ok (.iinc 1 1, 3) := by decide +kernel
theorem d_T_init_209 : decode b_T_init 209 = .ok (.goto (-18), 3) := by decide +kernel
theorem d_T_init_212 : decode b_T_init 212 = .ok (.return_, 1) := by decide +kernel
theorem mo_T_init : mok y_T_init b_T_init 2 none 0 := ⟨List.mem_of_getElem? (i := 94) (by decide +kernel), ⟨by decide +kernel, by decide +kernel, by decide +kernel⟩, List.mem_of_getElem? (i := 74) (by decide +kernel), by decide⟩
set_option maxHeartbeats 4000000 in
set_option maxRecDepth 100000 in
theorem c_T_init (l : Launch) (D : va_G) (cc : Nat → ClassId) (b : Nat) : CT l D cc b y_T_init b_T_init 2 (rmN 5 62 1131) 0 [.null, .null, .null, .null, .null, .null, .null, .null, .null, .null, .null, .int 0, .int 0, .long 0, .long 0] (ZT b cc) 0 63 62 1131 := by
  refine CT_of rfl (by decide) rfl (by decide) (fun X hX F hsz => ?_)
  subst hX
  refine n_to (E' := updE (Z b cc) 0 (.inr (0, [.null, .null, .null, .null, .null, .null, .null, .null, .null, .null, .null, .int 0, .int 0, .long 0, .long 0]))) (fun i h1 h2 => ?_) ?_
  · rw [show i = 0 by omega]
    rfl
  refine n_ls (ls' := [(0, .ref (b + 0))]) rfl ?_
  refine n_aload_n F d_T_init_0 rfl 0 rfl ?_
  refine n_obj F (List.mem_of_getElem? (i := 95) (by decide +kernel)) (by decide) (Nat.le_of_ble_eq_true rfl) d_T_init_1 ?_
  refine n_aload_n F d_T_init_4 rfl 0 rfl ?_
  refine n_bipush (v := 6) F d_T_init_5 (by decide) ?_
  refine n_bipush (v := 40) F d_T_init_7 (by decide) ?_
  refine n_mnew (idx := 9) (N := 6) (M := 40) (cA := cc 5) (co := cc 0) (ty := .int) (a0 := (40, .inl (fun _ => 0))) (f := fun j => some (b + (2 + j))) F (by decide) (List.mem_of_getElem? (i := 98) (by decide +kernel)) (List.mem_of_getElem? (i := 128) (by decide +kernel)) (F.2.2.2.2.2.1.1.2 5 _ rfl).2 F.2.2.2.2.2.1.2.1.1 (F.2.2.2.2.2.1.1.2 0 _ rfl).2 rfl (fun j hj => rfl) (fun j hj => by rcases (show j = 0 ∨ j = 1 ∨ j = 2 ∨ j = 3 ∨ j = 4 ∨ j = 5 by omega) with rfl | rfl | rfl | rfl | rfl | rfl <;> rfl) rfl (by decide) (by decide) (by decide) (by decide) (Nat.le_of_ble_eq_true rfl) (Nat.le_of_ble_eq_true rfl) (Nat.le_of_ble_eq_true rfl) rfl rfl (Nat.le_of_ble_eq_true rfl) (Nat.le_of_ble_eq_true rfl) d_T_init_9 ?_
  refine n_num (k' := 8) (c' := 7) (sl' := 246) rfl rfl rfl ?_
  refine n_putF (b := b) (k0 := 0) (k := 8) (c := 7) (ci := 0) (fs := [.null, .null, .null, .null, .null, .null, .null, .null, .null, .null, .null, .int 0, .int 0, .long 0, .long 0]) (i := 0) F hsz rfl (by decide) (by decide) rfl fk_T_11 ⟨(R_T, F_T, 15), rfl, rfl, rfl, pf_T_0⟩ rfl rfl (Nat.le_of_ble_eq_true rfl) d_T_init_13 ?_
  refine n_aload_n F d_T_init_16 rfl 0 rfl ?_
  refine n_bipush (v := 6) F d_T_init_17 (by decide) ?_
  refine n_newa (atype := .int) (ty := .int) (t0 := 0) (N := 6) (cA := cc 0) (a0 := (6, .inl (fun _ => 0))) F (by decide) rfl (fun C h => by cases h) (List.mem_of_getElem? (i := 128) (by decide +kernel)) rfl rfl rfl (by decide) (by decide) (Nat.le_of_ble_eq_true rfl) (Nat.le_of_ble_eq_true rfl) (Nat.le_of_ble_eq_true rfl) d_T_init_19 ?_
  refine n_num (k' := 9) (c' := 8) (sl' := 252) rfl rfl rfl ?_
  refine n_putF (b := b) (k0 := 0) (k := 9) (c := 8) (ci := 0) (fs := [.ref (b + 1), .null, .null, .null, .null, .null, .null, .null, .null, .null, .null, .int 0, .int 0, .long 0, .long 0]) (i := 0) F hsz rfl (by decide) (by decide) rfl fk_T_14 ⟨(R_T, F_T, 15), rfl, rfl, rfl, pf_T_1⟩ rfl rfl (Nat.le_of_ble_eq_true rfl) d_T_init_21 ?_
  refine n_aload_n F d_T_init_24 rfl 0 rfl ?_
  refine n_iconst (v := 4) F d_T_init_25 (by decide) ?_
  refine n_bipush (v := 60) F d_T_init_26 (by decide) ?_
  refine n_mnew (idx := 18) (N := 4) (M := 60) (cA := cc 6) (co := cc 1) (ty := .byte) (a0 := (60, .inl (fun _ => 0))) (f := fun j => some (b + (10 + j))) F (by decide) (List.mem_of_getElem? (i := 100) (by decide +kernel)) (List.mem_of_getElem? (i := 129) (by decide +kernel)) (F.2.2.2.2.2.1.1.2 6 _ rfl).2 F.2.2.2.2.2.1.2.1.2 (F.2.2.2.2.2.1.1.2 1 _ rfl).2 rfl (fun j hj => rfl) (fun j hj => by rcases (show j = 0 ∨ j = 1 ∨ j = 2 ∨ j = 3 by omega) with rfl | rfl | rfl | rfl <;> rfl) rfl (by decide) (by decide) (by decide) (by decide) (Nat.le_of_ble_eq_true rfl) (Nat.le_of_ble_eq_true rfl) (Nat.le_of_ble_eq_true rfl) rfl rfl (Nat.le_of_ble_eq_true rfl) (Nat.le_of_ble_eq_true rfl) d_T_init_28 ?_
  refine n_num (k' := 14) (c' := 13) (sl' := 496) rfl rfl rfl ?_
  refine n_putF (b := b) (k0 := 0) (k := 14) (c := 13) (ci := 0) (fs := [.ref (b + 1), .ref (b + 8), .null, .null, .null, .null, .null, .null, .null, .null, .null, .int 0, .int 0, .long 0, .long 0]) (i := 0) F hsz rfl (by decide) (by decide) rfl fk_T_20 ⟨(R_T, F_T, 15), rfl, rfl, rfl, pf_T_2⟩ rfl rfl (Nat.le_of_ble_eq_true rfl) d_T_init_32 ?_
  refine n_aload_n F d_T_init_35 rfl 0 rfl ?_
  refine n_iconst (v := 4) F d_T_init_36 (by decide) ?_
  refine n_newa (atype := .int) (ty := .int) (t0 := 0) (N := 4) (cA := cc 0) (a0 := (4, .inl (fun _ => 0))) F (by decide) rfl (fun C h => by cases h) (List.mem_of_getElem? (i := 128) (by decide +kernel)) rfl rfl rfl (by decide) (by decide) (Nat.le_of_ble_eq_true rfl) (Nat.le_of_ble_eq_true rfl) (Nat.le_of_ble_eq_true rfl) d_T_init_37 ?_
  refine n_num (k' := 15) (c' := 14) (sl' := 500) rfl rfl rfl ?_
  refine n_putF (b := b) (k0 := 0) (k := 15) (c := 14) (ci := 0) (fs := [.ref (b + 1), .ref (b + 8), .ref (b + 9), .null, .null, .null, .null, .null, .null, .null, .null, .int 0, .int 0, .long 0, .long 0]) (i := 0) F hsz rfl (by decide) (by decide) rfl fk_T_23 ⟨(R_T, F_T, 15), rfl, rfl, rfl, pf_T_3⟩ rfl rfl (Nat.le_of_ble_eq_true rfl) d_T_init_39 ?_
  refine n_aload_n F d_T_init_42 rfl 0 rfl ?_
  refine n_mk (b := b) (k0 := 0) (k := 15) (c := 14) (idx := 26) (idx2 := 28) (ci := 5) (fs0 := [.null, .null, .null, .int 0, .int 0]) (G := Z b cc) (k1 := 19) (mc := 3) (ms := 28) (host := "TakerBook") (q := (R_R, F_R, 5)) F hsz rfl rfl (List.mem_of_getElem? (i := 102) (by decide +kernel)) (List.mem_of_getElem? (i := 103) (by decide +kernel)) (List.mem_of_getElem? (i := 75) (by decide +kernel)) ff_R (fun i h1 h2 => by rcases (show i = 15 ∨ i = 16 ∨ i = 17 ∨ i = 18 by omega) with rfl | rfl | rfl | rfl <;> rfl) (c_R_init X.2.1 D cc b) mo_R_init (by decide +kernel) (List.mem_of_getElem? (i := 105) (by decide +kernel)) rfl ⟨by decide, by decide⟩ rfl rfl (Nat.le_of_ble_eq_true rfl) (Nat.le_of_ble_eq_true rfl) rfl (Nat.le_of_ble_eq_true rfl) d_T_init_43 d_T_init_46 d_T_init_47 ?_
  refine n_num (k' := 19) (c' := 18) (sl' := 533) rfl rfl rfl ?_
  refine n_putF (b := b) (k0 := 0) (k := 19) (c := 18) (ci := 0) (fs := [.ref (b + 1), .ref (b + 8), .ref (b + 9), .ref (b + 14), .null, .null, .null, .null, .null, .null, .null, .int 0, .int 0, .long 0, .long 0]) (i := 0) F hsz rfl (by decide) (by decide) rfl fk_T_29 ⟨(R_T, F_T, 15), rfl, rfl, rfl, pf_T_4⟩ rfl rfl (Nat.le_of_ble_eq_true rfl) d_T_init_50 ?_
  refine n_aload_n F d_T_init_53 rfl 0 rfl ?_
  refine n_mk (b := b) (k0 := 0) (k := 19) (c := 18) (idx := 33) (idx2 := 35) (ci := 1) (fs0 := [.null, .null, .null, .null, .null, .null, .null, .null, .int 0, .int 0, .int 0, .int 0, .int 0, .int 0, .int 0, .int 0, .int 0, .int 0, .int 0]) (G := Z b cc) (k1 := 34) (mc := 14) (ms := 48) (host := "TakerBook") (q := (R_B, F_B, 19)) F hsz rfl rfl (List.mem_of_getElem? (i := 130) (by decide +kernel)) (List.mem_of_getElem? (i := 131) (by decide +kernel)) (List.mem_of_getElem? (i := 76) (by decide +kernel)) ff_B (fun i h1 h2 => by rcases (show i = 19 ∨ i = 20 ∨ i = 21 ∨ i = 22 ∨ i = 23 ∨ i = 24 ∨ i = 25 ∨ i = 26 ∨ i = 27 ∨ i = 28 ∨ i = 29 ∨ i = 30 ∨ i = 31 ∨ i = 32 ∨ i = 33 by omega) with rfl | rfl | rfl | rfl | rfl | rfl | rfl | rfl | rfl | rfl | rfl | rfl | rfl | rfl | rfl <;> rfl) (c_B_init X.2.1 D cc b) mo_B_init (by decide +kernel) (List.mem_of_getElem? (i := 133) (by decide +kernel)) rfl ⟨by decide, by decide⟩ rfl rfl (Nat.le_of_ble_eq_true rfl) (Nat.le_of_ble_eq_true rfl) rfl (Nat.le_of_ble_eq_true rfl) d_T_init_54 d_T_init_57 d_T_init_58 ?_
  refine n_num (k' := 34) (c' := 33) (sl' := 600) rfl rfl rfl ?_
  refine n_putF (b := b) (k0 := 0) (k := 34) (c := 33) (ci := 0) (fs := [.ref (b + 1), .ref (b + 8), .ref (b + 9), .ref (b + 14), .ref (b + 15), .null, .null, .null, .null, .null, .null, .int 0, .int 0, .long 0, .long 0]) (i := 0) F hsz rfl (by decide) (by decide) rfl fk_T_36 ⟨(R_T, F_T, 15), rfl, rfl, rfl, pf_T_5⟩ rfl rfl (Nat.le_of_ble_eq_true rfl) d_T_init_61 ?_
  refine n_aload_n F d_T_init_64 rfl 0 rfl ?_
  refine n_mk (b := b) (k0 := 0) (k := 34) (c := 33) (idx := 40) (idx2 := 42) (ci := 2) (fs0 := [.null, .null, .null, .null, .null, .int 0, .int 0, .int 0, .int 0, .int 0, .int 0, .int 0]) (G := Z b cc) (k1 := 40) (mc := 5) (ms := 142) (host := "TakerBook") (q := (R_P, F_P, 12)) F hsz rfl rfl (List.mem_of_getElem? (i := 258) (by decide +kernel)) (List.mem_of_getElem? (i := 259) (by decide +kernel)) (List.mem_of_getElem? (i := 83) (by decide +kernel)) ff_P (fun i h1 h2 => by rcases (show i = 34 ∨ i = 35 ∨ i = 36 ∨ i = 37 ∨ i = 38 ∨ i = 39 by omega) with rfl | rfl | rfl | rfl | rfl | rfl <;> rfl) (c_P_init X.2.1 D cc b) mo_P_init (by decide +kernel) (List.mem_of_getElem? (i := 261) (by decide +kernel)) rfl ⟨by decide, by decide⟩ rfl rfl (Nat.le_of_ble_eq_true rfl) (Nat.le_of_ble_eq_true rfl) rfl (Nat.le_of_ble_eq_true rfl) d_T_init_65 d_T_init_68 d_T_init_69 ?_
  refine n_num (k' := 40) (c' := 39) (sl' := 754) rfl rfl rfl ?_
  refine n_putF (b := b) (k0 := 0) (k := 40) (c := 39) (ci := 0) (fs := [.ref (b + 1), .ref (b + 8), .ref (b + 9), .ref (b + 14), .ref (b + 15), .ref (b + 19), .null, .null, .null, .null, .null, .int 0, .int 0, .long 0, .long 0]) (i := 0) F hsz rfl (by decide) (by decide) rfl fk_T_43 ⟨(R_T, F_T, 15), rfl, rfl, rfl, pf_T_6⟩ rfl rfl (Nat.le_of_ble_eq_true rfl) d_T_init_72 ?_
  refine n_aload_n F d_T_init_75 rfl 0 rfl ?_
  refine n_mk (b := b) (k0 := 0) (k := 40) (c := 39) (idx := 47) (idx2 := 49) (ci := 3) (fs0 := [.null, .null, .int 0, .int 0, .int 0, .int 0]) (G := Z b cc) (k1 := 49) (mc := 8) (ms := 30) (host := "TakerBook") (q := (R_K, F_K, 6)) F hsz rfl rfl (List.mem_of_getElem? (i := 307) (by decide +kernel)) (List.mem_of_getElem? (i := 308) (by decide +kernel)) (List.mem_of_getElem? (i := 84) (by decide +kernel)) ff_K (fun i h1 h2 => by rcases (show i = 40 ∨ i = 41 ∨ i = 42 ∨ i = 43 ∨ i = 44 ∨ i = 45 ∨ i = 46 ∨ i = 47 ∨ i = 48 by omega) with rfl | rfl | rfl | rfl | rfl | rfl | rfl | rfl | rfl <;> rfl) (c_K_init X.2.1 D cc b) mo_K_init (by decide +kernel) (List.mem_of_getElem? (i := 310) (by decide +kernel)) rfl ⟨by decide, by decide⟩ rfl rfl (Nat.le_of_ble_eq_true rfl) (Nat.le_of_ble_eq_true rfl) rfl (Nat.le_of_ble_eq_true rfl) d_T_init_76 d_T_init_79 d_T_init_80 ?_
  refine n_num (k' := 49) (c' := 48) (sl' := 790) rfl rfl rfl ?_
  refine n_putF (b := b) (k0 := 0) (k := 49) (c := 48) (ci := 0) (fs := [.ref (b + 1), .ref (b + 8), .ref (b + 9), .ref (b + 14), .ref (b + 15), .ref (b + 19), .ref (b + 34), .null, .null, .null, .null, .int 0, .int 0, .long 0, .long 0]) (i := 0) F hsz rfl (by decide) (by decide) rfl fk_T_50 ⟨(R_T, F_T, 15), rfl, rfl, rfl, pf_T_7⟩ rfl rfl (Nat.le_of_ble_eq_true rfl) d_T_init_83 ?_
  refine n_aload_n F d_T_init_86 rfl 0 rfl ?_
  refine n_mk (b := b) (k0 := 0) (k := 49) (c := 48) (idx := 54) (idx2 := 56) (ci := 4) (fs0 := [.null, .null, .int 0]) (G := Z b cc) (k1 := 52) (mc := 2) (ms := 80) (host := "TakerBook") (q := (R_D, F_D, 3)) F hsz rfl rfl (List.mem_of_getElem? (i := 335) (by decide +kernel)) (List.mem_of_getElem? (i := 336) (by decide +kernel)) (List.mem_of_getElem? (i := 85) (by decide +kernel)) ff_D (fun i h1 h2 => by rcases (show i = 49 ∨ i = 50 ∨ i = 51 by omega) with rfl | rfl | rfl <;> rfl) (c_D_init X.2.1 D cc b 49 (Z b cc) rfl rfl rfl) mo_D_init (by decide +kernel) (List.mem_of_getElem? (i := 338) (by decide +kernel)) rfl ⟨by decide, by decide⟩ rfl rfl (Nat.le_of_ble_eq_true rfl) (Nat.le_of_ble_eq_true rfl) rfl (Nat.le_of_ble_eq_true rfl) d_T_init_87 d_T_init_90 d_T_init_91 ?_
  refine n_num (k' := 52) (c' := 51) (sl' := 873) rfl rfl rfl ?_
  refine n_putF (b := b) (k0 := 0) (k := 52) (c := 51) (ci := 0) (fs := [.ref (b + 1), .ref (b + 8), .ref (b + 9), .ref (b + 14), .ref (b + 15), .ref (b + 19), .ref (b + 34), .ref (b + 40), .null, .null, .null, .int 0, .int 0, .long 0, .long 0]) (i := 0) F hsz rfl (by decide) (by decide) rfl fk_T_57 ⟨(R_T, F_T, 15), rfl, rfl, rfl, pf_T_8⟩ rfl rfl (Nat.le_of_ble_eq_true rfl) d_T_init_94 ?_
  refine n_aload_n F d_T_init_97 rfl 0 rfl ?_
  refine n_iconst (v := 3) F d_T_init_98 (by decide) ?_
  refine n_new1 (z := 52) (e := .inl (cc 4, 3, .inr (.inr (.inr (.inr (fun _ => none)))))) (by decide) ?_
  refine n_newq (C := "TakerBook$Deeds") (idx := 54) (t0 := 4) (N := 3) (cA := cc 4) F (by decide) (List.mem_of_getElem? (i := 335) (by decide +kernel)) F.2.2.2.2.2.1.2.2.2.1 rfl (updE_s _ _ _) (by decide) (by decide) (Nat.le_of_ble_eq_true rfl) (Nat.le_of_ble_eq_true rfl) (Nat.le_of_ble_eq_true rfl) d_T_init_99 ?_
  refine n_num (k' := 53) (c' := 52) (sl' := 876) rfl rfl rfl ?_
  refine n_dup F d_T_init_102 rfl ?_
  refine n_iconst (v := 0) F d_T_init_103 (by decide) ?_
  refine n_mk (b := b) (k0 := 0) (k := 53) (c := 52) (idx := 54) (idx2 := 56) (ci := 4) (fs0 := [.null, .null, .int 0]) (G := Z b cc) (k1 := 56) (mc := 2) (ms := 80) (host := "TakerBook") (q := (R_D, F_D, 3)) F hsz rfl rfl (List.mem_of_getElem? (i := 335) (by decide +kernel)) (List.mem_of_getElem? (i := 336) (by decide +kernel)) (List.mem_of_getElem? (i := 85) (by decide +kernel)) ff_D (fun i h1 h2 => by rcases (show i = 53 ∨ i = 54 ∨ i = 55 by omega) with rfl | rfl | rfl <;> rfl) (c_D_init X.2.1 D cc b 53 (Z b cc) rfl rfl rfl) mo_D_init (by decide +kernel) (List.mem_of_getElem? (i := 338) (by decide +kernel)) rfl ⟨by decide, by decide⟩ rfl rfl (Nat.le_of_ble_eq_true rfl) (Nat.le_of_ble_eq_true rfl) rfl (Nat.le_of_ble_eq_true rfl) d_T_init_104 d_T_init_107 d_T_init_108 ?_
  refine n_num (k' := 56) (c' := 55) (sl' := 959) rfl rfl rfl ?_
  refine n_astq (b := b) (k0 := 0) (k := 56) (c := 55) (t0 := 4) (z := 53) (ci := 4) (r := (R_D, F_D, 3)) F hsz rfl (i := 52) (by decide) (by decide) rfl rfl (vb_asgS) (by decide) (by decide) rfl rfl (vin_of (by decide)) d_T_init_111 ?_
  refine n_dup F d_T_init_112 rfl ?_
  refine n_iconst (v := 1) F d_T_init_113 (by decide) ?_
  refine n_mk (b := b) (k0 := 0) (k := 56) (c := 55) (idx := 54) (idx2 := 56) (ci := 4) (fs0 := [.null, .null, .int 0]) (G := Z b cc) (k1 := 59) (mc := 2) (ms := 80) (host := "TakerBook") (q := (R_D, F_D, 3)) F hsz rfl rfl (List.mem_of_getElem? (i := 335) (by decide +kernel)) (List.mem_of_getElem? (i := 336) (by decide +kernel)) (List.mem_of_getElem? (i := 85) (by decide +kernel)) ff_D (fun i h1 h2 => by rcases (show i = 56 ∨ i = 57 ∨ i = 58 by omega) with rfl | rfl | rfl <;> rfl) (c_D_init X.2.1 D cc b 56 (Z b cc) rfl rfl rfl) mo_D_init (by decide +kernel) (List.mem_of_getElem? (i := 338) (by decide +kernel)) rfl ⟨by decide, by decide⟩ rfl rfl (Nat.le_of_ble_eq_true rfl) (Nat.le_of_ble_eq_true rfl) rfl (Nat.le_of_ble_eq_true rfl) d_T_init_114 d_T_init_117 d_T_init_118 ?_
  refine n_num (k' := 59) (c' := 58) (sl' := 1042) rfl rfl rfl ?_
  refine n_astq (b := b) (k0 := 0) (k := 59) (c := 58) (t0 := 4) (z := 56) (ci := 4) (r := (R_D, F_D, 3)) F hsz rfl (i := 52) (by decide) (by decide) rfl rfl (vb_asgS) (by decide) (by decide) rfl rfl (vin_of (by decide)) d_T_init_121 ?_
  refine n_dup F d_T_init_122 rfl ?_
  refine n_iconst (v := 2) F d_T_init_123 (by decide) ?_
  refine n_mk (b := b) (k0 := 0) (k := 59) (c := 58) (idx := 54) (idx2 := 56) (ci := 4) (fs0 := [.null, .null, .int 0]) (G := Z b cc) (k1 := 62) (mc := 2) (ms := 80) (host := "TakerBook") (q := (R_D, F_D, 3)) F hsz rfl rfl (List.mem_of_getElem? (i := 335) (by decide +kernel)) (List.mem_of_getElem? (i := 336) (by decide +kernel)) (List.mem_of_getElem? (i := 85) (by decide +kernel)) ff_D (fun i h1 h2 => by rcases (show i = 59 ∨ i = 60 ∨ i = 61 by omega) with rfl | rfl | rfl <;> rfl) (c_D_init X.2.1 D cc b 59 (Z b cc) rfl rfl rfl) mo_D_init (by decide +kernel) (List.mem_of_getElem? (i := 338) (by decide +kernel)) rfl ⟨by decide, by decide⟩ rfl rfl (Nat.le_of_ble_eq_true rfl) (Nat.le_of_ble_eq_true rfl) rfl (Nat.le_of_ble_eq_true rfl) d_T_init_124 d_T_init_127 d_T_init_128 ?_
  refine n_num (k' := 62) (c' := 61) (sl' := 1125) rfl rfl rfl ?_
  refine n_astq (b := b) (k0 := 0) (k := 62) (c := 61) (t0 := 4) (z := 59) (ci := 4) (r := (R_D, F_D, 3)) F hsz rfl (i := 52) (by decide) (by decide) rfl rfl (vb_asgS) (by decide) (by decide) rfl rfl (vin_of (by decide)) d_T_init_131 ?_
  refine n_cv (k := 62) (z := 52) (e := Z b cc 52) (by decide) (by decide) (fun H h => at_q (fun j hj => by rcases (show j = 0 ∨ j = 1 ∨ j = 2 by omega) with rfl | rfl | rfl <;> rfl) h) ?_
  refine n_putF (b := b) (k0 := 0) (k := 62) (c := 61) (ci := 0) (fs := [.ref (b + 1), .ref (b + 8), .ref (b + 9), .ref (b + 14), .ref (b + 15), .ref (b + 19), .ref (b + 34), .ref (b + 40), .ref (b + 49), .null, .null, .int 0, .int 0, .long 0, .long 0]) (i := 0) F hsz rfl (by decide) (by decide) rfl fk_T_61 ⟨(R_T, F_T, 15), rfl, rfl, rfl, pf_T_9⟩ rfl rfl (Nat.le_of_ble_eq_true rfl) d_T_init_132 ?_
  refine n_aload_n F d_T_init_135 rfl 0 rfl ?_
  refine n_bipush (v := 6) F d_T_init_136 (by decide) ?_
  refine n_newa (atype := .int) (ty := .int) (t0 := 0) (N := 6) (cA := cc 0) (a0 := (6, .inl (fun _ => 0))) F (by decide) rfl (fun C h => by cases h) (List.mem_of_getElem? (i := 128) (by decide +kernel)) rfl rfl rfl (by decide) (by decide) (Nat.le_of_ble_eq_true rfl) (Nat.le_of_ble_eq_true rfl) (Nat.le_of_ble_eq_true rfl) d_T_init_138 ?_
  refine n_num (k' := 63) (c' := 62) (sl' := 1131) rfl rfl rfl ?_
  refine n_putF (b := b) (k0 := 0) (k := 63) (c := 62) (ci := 0) (fs := [.ref (b + 1), .ref (b + 8), .ref (b + 9), .ref (b + 14), .ref (b + 15), .ref (b + 19), .ref (b + 34), .ref (b + 40), .ref (b + 49), .ref (b + 52), .null, .int 0, .int 0, .long 0, .long 0]) (i := 0) F hsz rfl (by decide) (by decide) rfl fk_T_65 ⟨(R_T, F_T, 15), rfl, rfl, rfl, pf_T_10⟩ rfl rfl (Nat.le_of_ble_eq_true rfl) d_T_init_140 ?_
  refine n_aload_n F d_T_init_143 rfl 0 rfl ?_
  refine n_lconst (v := 1) F d_T_init_144 (by decide) ?_
  refine n_put (b := b) (k0 := 0) (k := 63) (c := 62) (ci := 0) (fs := [.ref (b + 1), .ref (b + 8), .ref (b + 9), .ref (b + 14), .ref (b + 15), .ref (b + 19), .ref (b + 34), .ref (b + 40), .ref (b + 49), .ref (b + 52), .ref (b + 62), .int 0, .int 0, .long 0, .long 0]) (i := 0) F hsz rfl (by decide) (by decide) rfl fk_T_68 ⟨(R_T, F_T, 15), rfl, rfl, pf_T_14⟩ rfl rfl (Nat.le_of_ble_eq_true rfl) d_T_init_145 ?_
  refine n_iconst (v := 0) F d_T_init_148 (by decide) ?_
  refine n_istore_n (ls' := [(1, .int 0), (0, .ref (b + 0))]) F d_T_init_149 rfl (by decide) rfl ?_
  refine n_iload_n F d_T_init_150 rfl 0 rfl ?_
  refine n_bipush (v := 6) F d_T_init_151 (by decide) ?_
  refine n_icmp_ge F 169 d_T_init_153 rfl (fun h => absurd h (by decide)) (fun _ => ?_)
  refine n_aload_n F d_T_init_156 rfl 1 rfl ?_
  refine n_get (k := 63) (ci := 0) (fs := [.ref (b + 1), .ref (b + 8), .ref (b + 9), .ref (b + 14), .ref (b + 15), .ref (b + 19), .ref (b + 34), .ref (b + 40), .ref (b + 49), .ref (b + 52), .ref (b + 62), .int 0, .int 0, .long 0, .long 1]) (i := 0) (v := .ref (b + 8)) F (by decide) (by decide) rfl fk_T_14 rfl d_T_init_157 ?_
  refine n_iload_n F d_T_init_160 rfl 0 rfl ?_
  refine n_iconst (v := (-1)) F d_T_init_161 (by decide) ?_
  refine n_iast (b := b) (k0 := 0) (k := 63) (c := 62) F hsz rfl (i := 8) (n := 6) (by decide) (by decide) rfl (vin_of (by decide)) d_T_init_162 ?_
  refine n_iinc (j := 0) (v := 1) (ls' := [(1, .int 1), (0, .ref (b + 0))]) F d_T_init_163 rfl (by decide) (by decide) rfl ?_
  refine n_goto F 150 d_T_init_166 rfl ?_
  refine n_iload_n F d_T_init_150 rfl 0 rfl ?_
  refine n_bipush (v := 6) F d_T_init_151 (by decide) ?_
  refine n_icmp_ge F 169 d_T_init_153 rfl (fun h => absurd h (by decide)) (fun _ => ?_)
  refine n_aload_n F d_T_init_156 rfl 1 rfl ?_
  refine n_get (k := 63) (ci := 0) (fs := [.ref (b + 1), .ref (b + 8), .ref (b + 9), .ref (b + 14), .ref (b + 15), .ref (b + 19), .ref (b + 34), .ref (b + 40), .ref (b + 49), .ref (b + 52), .ref (b + 62), .int 0, .int 0, .long 0, .long 1]) (i := 0) (v := .ref (b + 8)) F (by decide) (by decide) rfl fk_T_14 rfl d_T_init_157 ?_
  refine n_iload_n F d_T_init_160 rfl 0 rfl ?_
  refine n_iconst (v := (-1)) F d_T_init_161 (by decide) ?_
  refine n_iast (b := b) (k0 := 0) (k := 63) (c := 62) F hsz rfl (i := 8) (n := 6) (by decide) (by decide) rfl (vin_of (by decide)) d_T_init_162 ?_
  refine n_iinc (j := 0) (v := 2) (ls' := [(1, .int 2), (0, .ref (b + 0))]) F d_T_init_163 rfl (by decide) (by decide) rfl ?_
  refine n_goto F 150 d_T_init_166 rfl ?_
  refine n_iload_n F d_T_init_150 rfl 0 rfl ?_
  refine n_bipush (v := 6) F d_T_init_151 (by decide) ?_
  refine n_icmp_ge F 169 d_T_init_153 rfl (fun h => absurd h (by decide)) (fun _ => ?_)
  refine n_aload_n F d_T_init_156 rfl 1 rfl ?_
  refine n_get (k := 63) (ci := 0) (fs := [.ref (b + 1), .ref (b + 8), .ref (b + 9), .ref (b + 14), .ref (b + 15), .ref (b + 19), .ref (b + 34), .ref (b + 40), .ref (b + 49), .ref (b + 52), .ref (b + 62), .int 0, .int 0, .long 0, .long 1]) (i := 0) (v := .ref (b + 8)) F (by decide) (by decide) rfl fk_T_14 rfl d_T_init_157 ?_
  refine n_iload_n F d_T_init_160 rfl 0 rfl ?_
  refine n_iconst (v := (-1)) F d_T_init_161 (by decide) ?_
  refine n_iast (b := b) (k0 := 0) (k := 63) (c := 62) F hsz rfl (i := 8) (n := 6) (by decide) (by decide) rfl (vin_of (by decide)) d_T_init_162 ?_
  refine n_iinc (j := 0) (v := 3) (ls' := [(1, .int 3), (0, .ref (b + 0))]) F d_T_init_163 rfl (by decide) (by decide) rfl ?_
  refine n_goto F 150 d_T_init_166 rfl ?_
  refine n_iload_n F d_T_init_150 rfl 0 rfl ?_
  refine n_bipush (v := 6) F d_T_init_151 (by decide) ?_
  refine n_icmp_ge F 169 d_T_init_153 rfl (fun h => absurd h (by decide)) (fun _ => ?_)
  refine n_aload_n F d_T_init_156 rfl 1 rfl ?_
  refine n_get (k := 63) (ci := 0) (fs := [.ref (b + 1), .ref (b + 8), .ref (b + 9), .ref (b + 14), .ref (b + 15), .ref (b + 19), .ref (b + 34), .ref (b + 40), .ref (b + 49), .ref (b + 52), .ref (b + 62), .int 0, .int 0, .long 0, .long 1]) (i := 0) (v := .ref (b + 8)) F (by decide) (by decide) rfl fk_T_14 rfl d_T_init_157 ?_
  refine n_iload_n F d_T_init_160 rfl 0 rfl ?_
  refine n_iconst (v := (-1)) F d_T_init_161 (by decide) ?_
  refine n_iast (b := b) (k0 := 0) (k := 63) (c := 62) F hsz rfl (i := 8) (n := 6) (by decide) (by decide) rfl (vin_of (by decide)) d_T_init_162 ?_
  refine n_iinc (j := 0) (v := 4) (ls' := [(1, .int 4), (0, .ref (b + 0))]) F d_T_init_163 rfl (by decide) (by decide) rfl ?_
  refine n_goto F 150 d_T_init_166 rfl ?_
  refine n_iload_n F d_T_init_150 rfl 0 rfl ?_
  refine n_bipush (v := 6) F d_T_init_151 (by decide) ?_
  refine n_icmp_ge F 169 d_T_init_153 rfl (fun h => absurd h (by decide)) (fun _ => ?_)
  refine n_aload_n F d_T_init_156 rfl 1 rfl ?_
  refine n_get (k := 63) (ci := 0) (fs := [.ref (b + 1), .ref (b + 8), .ref (b + 9), .ref (b + 14), .ref (b + 15), .ref (b + 19), .ref (b + 34), .ref (b + 40), .ref (b + 49), .ref (b + 52), .ref (b + 62), .int 0, .int 0, .long 0, .long 1]) (i := 0) (v := .ref (b + 8)) F (by decide) (by decide) rfl fk_T_14 rfl d_T_init_157 ?_
  refine n_iload_n F d_T_init_160 rfl 0 rfl ?_
  refine n_iconst (v := (-1)) F d_T_init_161 (by decide) ?_
  refine n_iast (b := b) (k0 := 0) (k := 63) (c := 62) F hsz rfl (i := 8) (n := 6) (by decide) (by decide) rfl (vin_of (by decide)) d_T_init_162 ?_
  refine n_iinc (j := 0) (v := 5) (ls' := [(1, .int 5), (0, .ref (b + 0))]) F d_T_init_163 rfl (by decide) (by decide) rfl ?_
  refine n_goto F 150 d_T_init_166 rfl ?_
  refine n_iload_n F d_T_init_150 rfl 0 rfl ?_
  refine n_bipush (v := 6) F d_T_init_151 (by decide) ?_
  refine n_icmp_ge F 169 d_T_init_153 rfl (fun h => absurd h (by decide)) (fun _ => ?_)
  refine n_aload_n F d_T_init_156 rfl 1 rfl ?_
  refine n_get (k := 63) (ci := 0) (fs := [.ref (b + 1), .ref (b + 8), .ref (b + 9), .ref (b + 14), .ref (b + 15), .ref (b + 19), .ref (b + 34), .ref (b + 40), .ref (b + 49), .ref (b + 52), .ref (b + 62), .int 0, .int 0, .long 0, .long 1]) (i := 0) (v := .ref (b + 8)) F (by decide) (by decide) rfl fk_T_14 rfl d_T_init_157 ?_
  refine n_iload_n F d_T_init_160 rfl 0 rfl ?_
  refine n_iconst (v := (-1)) F d_T_init_161 (by decide) ?_
  refine n_iast (b := b) (k0 := 0) (k := 63) (c := 62) F hsz rfl (i := 8) (n := 6) (by decide) (by decide) rfl (vin_of (by decide)) d_T_init_162 ?_
  refine n_iinc (j := 0) (v := 6) (ls' := [(1, .int 6), (0, .ref (b + 0))]) F d_T_init_163 rfl (by decide) (by decide) rfl ?_
  refine n_goto F 150 d_T_init_166 rfl ?_
  refine n_iload_n F d_T_init_150 rfl 0 rfl ?_
  refine n_bipush (v := 6) F d_T_init_151 (by decide) ?_
  refine n_icmp_ge F 169 d_T_init_153 rfl (fun _ => ?_) (fun h => absurd (by decide) h)
  refine n_cv (k := 63) (z := 8) (e := .inl (cc 0, 6, .inl (fun _ => -1))) (by decide) (by decide) (fun H h => at_i (fun j hj => by rcases (show j = 0 ∨ j = 1 ∨ j = 2 ∨ j = 3 ∨ j = 4 ∨ j = 5 by omega) with rfl | rfl | rfl | rfl | rfl | rfl <;> rfl) h) ?_
  refine n_iconst (v := 0) F d_T_init_169 (by decide) ?_
  refine n_istore_n (ls' := [(1, .int 0), (0, .ref (b + 0))]) F d_T_init_170 rfl (by decide) rfl ?_
  refine n_iload_n F d_T_init_171 rfl 0 rfl ?_
  refine n_iconst (v := 4) F d_T_init_172 (by decide) ?_
  refine n_icmp_ge F 189 d_T_init_173 rfl (fun h => absurd h (by decide)) (fun _ => ?_)
  refine n_aload_n F d_T_init_176 rfl 1 rfl ?_
  refine n_get (k := 63) (ci := 0) (fs := [.ref (b + 1), .ref (b + 8), .ref (b + 9), .ref (b + 14), .ref (b + 15), .ref (b + 19), .ref (b + 34), .ref (b + 40), .ref (b + 49), .ref (b + 52), .ref (b + 62), .int 0, .int 0, .long 0, .long 1]) (i := 0) (v := .ref (b + 14)) F (by decide) (by decide) rfl fk_T_23 rfl d_T_init_177 ?_
  refine n_iload_n F d_T_init_180 rfl 0 rfl ?_
  refine n_iconst (v := (-1)) F d_T_init_181 (by decide) ?_
  refine n_iast (b := b) (k0 := 0) (k := 63) (c := 62) F hsz rfl (i := 14) (n := 4) (by decide) (by decide) rfl (vin_of (by decide)) d_T_init_182 ?_
  refine n_iinc (j := 0) (v := 1) (ls' := [(1, .int 1), (0, .ref (b + 0))]) F d_T_init_183 rfl (by decide) (by decide) rfl ?_
  refine n_goto F 171 d_T_init_186 rfl ?_
  refine n_iload_n F d_T_init_171 rfl 0 rfl ?_
  refine n_iconst (v := 4) F d_T_init_172 (by decide) ?_
  refine n_icmp_ge F 189 d_T_init_173 rfl (fun h => absurd h (by decide)) (fun _ => ?_)
  refine n_aload_n F d_T_init_176 rfl 1 rfl ?_
  refine n_get (k := 63) (ci := 0) (fs := [.ref (b + 1), .ref (b + 8), .ref (b + 9), .ref (b + 14), .ref (b + 15), .ref (b + 19), .ref (b + 34), .ref (b + 40), .ref (b + 49), .ref (b + 52), .ref (b + 62), .int 0, .int 0, .long 0, .long 1]) (i := 0) (v := .ref (b + 14)) F (by decide) (by decide) rfl fk_T_23 rfl d_T_init_177 ?_
  refine n_iload_n F d_T_init_180 rfl 0 rfl ?_
  refine n_iconst (v := (-1)) F d_T_init_181 (by decide) ?_
  refine n_iast (b := b) (k0 := 0) (k := 63) (c := 62) F hsz rfl (i := 14) (n := 4) (by decide) (by decide) rfl (vin_of (by decide)) d_T_init_182 ?_
  refine n_iinc (j := 0) (v := 2) (ls' := [(1, .int 2), (0, .ref (b + 0))]) F d_T_init_183 rfl (by decide) (by decide) rfl ?_
  refine n_goto F 171 d_T_init_186 rfl ?_
  refine n_iload_n F d_T_init_171 rfl 0 rfl ?_
  refine n_iconst (v := 4) F d_T_init_172 (by decide) ?_
  refine n_icmp_ge F 189 d_T_init_173 rfl (fun h => absurd h (by decide)) (fun _ => ?_)
  refine n_aload_n F d_T_init_176 rfl 1 rfl ?_
  refine n_get (k := 63) (ci := 0) (fs := [.ref (b + 1), .ref (b + 8), .ref (b + 9), .ref (b + 14), .ref (b + 15), .ref (b + 19), .ref (b + 34), .ref (b + 40), .ref (b + 49), .ref (b + 52), .ref (b + 62), .int 0, .int 0, .long 0, .long 1]) (i := 0) (v := .ref (b + 14)) F (by decide) (by decide) rfl fk_T_23 rfl d_T_init_177 ?_
  refine n_iload_n F d_T_init_180 rfl 0 rfl ?_
  refine n_iconst (v := (-1)) F d_T_init_181 (by decide) ?_
  refine n_iast (b := b) (k0 := 0) (k := 63) (c := 62) F hsz rfl (i := 14) (n := 4) (by decide) (by decide) rfl (vin_of (by decide)) d_T_init_182 ?_
  refine n_iinc (j := 0) (v := 3) (ls' := [(1, .int 3), (0, .ref (b + 0))]) F d_T_init_183 rfl (by decide) (by decide) rfl ?_
  refine n_goto F 171 d_T_init_186 rfl ?_
  refine n_iload_n F d_T_init_171 rfl 0 rfl ?_
  refine n_iconst (v := 4) F d_T_init_172 (by decide) ?_
  refine n_icmp_ge F 189 d_T_init_173 rfl (fun h => absurd h (by decide)) (fun _ => ?_)
  refine n_aload_n F d_T_init_176 rfl 1 rfl ?_
  refine n_get (k := 63) (ci := 0) (fs := [.ref (b + 1), .ref (b + 8), .ref (b + 9), .ref (b + 14), .ref (b + 15), .ref (b + 19), .ref (b + 34), .ref (b + 40), .ref (b + 49), .ref (b + 52), .ref (b + 62), .int 0, .int 0, .long 0, .long 1]) (i := 0) (v := .ref (b + 14)) F (by decide) (by decide) rfl fk_T_23 rfl d_T_init_177 ?_
  refine n_iload_n F d_T_init_180 rfl 0 rfl ?_
  refine n_iconst (v := (-1)) F d_T_init_181 (by decide) ?_
  refine n_iast (b := b) (k0 := 0) (k := 63) (c := 62) F hsz rfl (i := 14) (n := 4) (by decide) (by decide) rfl (vin_of (by decide)) d_T_init_182 ?_
  refine n_iinc (j := 0) (v := 4) (ls' := [(1, .int 4), (0, .ref (b + 0))]) F d_T_init_183 rfl (by decide) (by decide) rfl ?_
  refine n_goto F 171 d_T_init_186 rfl ?_
  refine n_iload_n F d_T_init_171 rfl 0 rfl ?_
  refine n_iconst (v := 4) F d_T_init_172 (by decide) ?_
  refine n_icmp_ge F 189 d_T_init_173 rfl (fun _ => ?_) (fun h => absurd (by decide) h)
  refine n_cv (k := 63) (z := 14) (e := .inl (cc 0, 4, .inl (fun _ => -1))) (by decide) (by decide) (fun H h => at_i (fun j hj => by rcases (show j = 0 ∨ j = 1 ∨ j = 2 ∨ j = 3 by omega) with rfl | rfl | rfl | rfl <;> rfl) h) ?_
  refine n_iconst (v := 0) F d_T_init_189 (by decide) ?_
  refine n_istore_n (ls' := [(1, .int 0), (0, .ref (b + 0))]) F d_T_init_190 rfl (by decide) rfl ?_
  refine n_iload_n F d_T_init_191 rfl 0 rfl ?_
  refine n_iconst (v := 3) F d_T_init_192 (by decide) ?_
  refine n_icmp_ge F 212 d_T_init_193 rfl (fun h => absurd h (by decide)) (fun _ => ?_)
  refine n_aload_n F d_T_init_196 rfl 1 rfl ?_
  refine n_get (k := 63) (ci := 0) (fs := [.ref (b + 1), .ref (b + 8), .ref (b + 9), .ref (b + 14), .ref (b + 15), .ref (b + 19), .ref (b + 34), .ref (b + 40), .ref (b + 49), .ref (b + 52), .ref (b + 62), .int 0, .int 0, .long 0, .long 1]) (i := 0) (v := .ref (b + 52)) F (by decide) (by decide) rfl fk_T_61 rfl d_T_init_197 ?_
  refine n_iload_n F d_T_init_200 rfl 0 rfl ?_
  refine n_aldq (k := 63) (i := 52) (t0 := 4) (n := 3) (cA := cc 4) (C := "TakerBook$Deeds") (f := fun j => some (b + (53 + 3 * j))) F (by decide) (by decide) rfl rfl (vin_of (by decide)) d_T_init_201 ?_
  refine n_top (v' := .ref (b + 53)) rfl ?_
  refine n_iconst (v := (-1)) F d_T_init_202 (by decide) ?_
  refine n_put (b := b) (k0 := 0) (k := 63) (c := 62) (ci := 4) (fs := [.ref (b + 54), .ref (b + 55), .int 0]) (i := 53) F hsz rfl (by decide) (by decide) rfl fk_T_72 ⟨(R_D, F_D, 3), rfl, rfl, pf_D_2⟩ rfl rfl (Nat.le_of_ble_eq_true rfl) d_T_init_203 ?_
  refine n_iinc (j := 0) (v := 1) (ls' := [(1, .int 1), (0, .ref (b + 0))]) F d_T_init_206 rfl (by decide) (by decide) rfl ?_
  refine n_goto F 191 d_T_init_209 rfl ?_
  refine n_iload_n F d_T_init_191 rfl 0 rfl ?_
  refine n_iconst (v := 3) F d_T_init_192 (by decide) ?_
  refine n_icmp_ge F 212 d_T_init_193 rfl (fun h => absurd h (by decide)) (fun _ => ?_)
  refine n_aload_n F d_T_init_196 rfl 1 rfl ?_
  refine n_get (k := 63) (ci := 0) (fs := [.ref (b + 1), .ref (b + 8), .ref (b + 9), .ref (b + 14), .ref (b + 15), .ref (b + 19), .ref (b + 34), .ref (b + 40), .ref (b + 49), .ref (b + 52), .ref (b + 62), .int 0, .int 0, .long 0, .long 1]) (i := 0) (v := .ref (b + 52)) F (by decide) (by decide) rfl fk_T_61 rfl d_T_init_197 ?_
  refine n_iload_n F d_T_init_200 rfl 0 rfl ?_
  refine n_aldq (k := 63) (i := 52) (t0 := 4) (n := 3) (cA := cc 4) (C := "TakerBook$Deeds") (f := fun j => some (b + (53 + 3 * j))) F (by decide) (by decide) rfl rfl (vin_of (by decide)) d_T_init_201 ?_
  refine n_top (v' := .ref (b + 56)) rfl ?_
  refine n_iconst (v := (-1)) F d_T_init_202 (by decide) ?_
  refine n_put (b := b) (k0 := 0) (k := 63) (c := 62) (ci := 4) (fs := [.ref (b + 57), .ref (b + 58), .int 0]) (i := 56) F hsz rfl (by decide) (by decide) rfl fk_T_72 ⟨(R_D, F_D, 3), rfl, rfl, pf_D_2⟩ rfl rfl (Nat.le_of_ble_eq_true rfl) d_T_init_203 ?_
  refine n_iinc (j := 0) (v := 2) (ls' := [(1, .int 2), (0, .ref (b + 0))]) F d_T_init_206 rfl (by decide) (by decide) rfl ?_
  refine n_goto F 191 d_T_init_209 rfl ?_
  refine n_iload_n F d_T_init_191 rfl 0 rfl ?_
  refine n_iconst (v := 3) F d_T_init_192 (by decide) ?_
  refine n_icmp_ge F 212 d_T_init_193 rfl (fun h => absurd h (by decide)) (fun _ => ?_)
  refine n_aload_n F d_T_init_196 rfl 1 rfl ?_
  refine n_get (k := 63) (ci := 0) (fs := [.ref (b + 1), .ref (b + 8), .ref (b + 9), .ref (b + 14), .ref (b + 15), .ref (b + 19), .ref (b + 34), .ref (b + 40), .ref (b + 49), .ref (b + 52), .ref (b + 62), .int 0, .int 0, .long 0, .long 1]) (i := 0) (v := .ref (b + 52)) F (by decide) (by decide) rfl fk_T_61 rfl d_T_init_197 ?_
  refine n_iload_n F d_T_init_200 rfl 0 rfl ?_
  refine n_aldq (k := 63) (i := 52) (t0 := 4) (n := 3) (cA := cc 4) (C := "TakerBook$Deeds") (f := fun j => some (b + (53 + 3 * j))) F (by decide) (by decide) rfl rfl (vin_of (by decide)) d_T_init_201 ?_
  refine n_top (v' := .ref (b + 59)) rfl ?_
  refine n_iconst (v := (-1)) F d_T_init_202 (by decide) ?_
  refine n_put (b := b) (k0 := 0) (k := 63) (c := 62) (ci := 4) (fs := [.ref (b + 60), .ref (b + 61), .int 0]) (i := 59) F hsz rfl (by decide) (by decide) rfl fk_T_72 ⟨(R_D, F_D, 3), rfl, rfl, pf_D_2⟩ rfl rfl (Nat.le_of_ble_eq_true rfl) d_T_init_203 ?_
  refine n_iinc (j := 0) (v := 3) (ls' := [(1, .int 3), (0, .ref (b + 0))]) F d_T_init_206 rfl (by decide) (by decide) rfl ?_
  refine n_goto F 191 d_T_init_209 rfl ?_
  refine n_iload_n F d_T_init_191 rfl 0 rfl ?_
  refine n_iconst (v := 3) F d_T_init_192 (by decide) ?_
  refine n_icmp_ge F 212 d_T_init_193 rfl (fun _ => ?_) (fun h => absurd (by decide) h)
  refine n_ret F rfl rfl rfl (fun i h1 h2 => ?_) d_T_init_212
  rcases (show i = 0 ∨ i = 1 ∨ i = 2 ∨ i = 3 ∨ i = 4 ∨ i = 5 ∨ i = 6 ∨ i = 7 ∨ i = 8 ∨ i = 9 ∨ i = 10 ∨ i = 11 ∨ i = 12 ∨ i = 13 ∨ i = 14 ∨ i = 15 ∨ i = 16 ∨ i = 17 ∨ i = 18 ∨ i = 19 ∨ i = 20 ∨ i = 21 ∨ i = 22 ∨ i = 23 ∨ i = 24 ∨ i = 25 ∨ i = 26 ∨ i = 27 ∨ i = 28 ∨ i = 29 ∨ i = 30 ∨ i = 31 ∨ i = 32 ∨ i = 33 ∨ i = 34 ∨ i = 35 ∨ i = 36 ∨ i = 37 ∨ i = 38 ∨ i = 39 ∨ i = 40 ∨ i = 41 ∨ i = 42 ∨ i = 43 ∨ i = 44 ∨ i = 45 ∨ i = 46 ∨ i = 47 ∨ i = 48 ∨ i = 49 ∨ i = 50 ∨ i = 51 ∨ i = 52 ∨ i = 53 ∨ i = 54 ∨ i = 55 ∨ i = 56 ∨ i = 57 ∨ i = 58 ∨ i = 59 ∨ i = 60 ∨ i = 61 ∨ i = 62 by omega) with rfl | rfl | rfl | rfl | rfl | rfl | rfl | rfl | rfl | rfl | rfl | rfl | rfl | rfl | rfl | rfl | rfl | rfl | rfl | rfl | rfl | rfl | rfl | rfl | rfl | rfl | rfl | rfl | rfl | rfl | rfl | rfl | rfl | rfl | rfl | rfl | rfl | rfl | rfl | rfl | rfl | rfl | rfl | rfl | rfl | rfl | rfl | rfl | rfl | rfl | rfl | rfl | rfl | rfl | rfl | rfl | rfl | rfl | rfl | rfl | rfl | rfl | rfl <;> rfl
