-- the constructor of the model
def ZM (b : Nat) (cc : Nat → ClassId) : Nat → va_E := (updE (updE (updE (Z b cc) 63 (.inr (12, [.int 0, .ref (b + 64), .int 0, .long 0, .long 1, .ref (b + 65), .ref (b + 66), .ref (b + 67), .ref (b + 68), .ref (b + 69), .int 0, .ref (b + 70), .ref (b + 71), .ref (b + 72), .ref (b + 73), .int 0, .int 0, .int 0, .ref (b + 74), .ref (b + 75), .ref (b + 76), .ref (b + 77), .int 0, .ref (b + 78), .ref (b + 79), .ref (b + 80), .ref (b + 81), .ref (b + 82), .ref (b + 83), .int 0, .int 0, .int 0, .int 0, .int 0, .ref (b + 84), .ref (b + 85), .ref (b + 86), .long 0, .long 0, .long 0]))) 65 (.inl (cc 0, 6, .inl (fun _ => -1)))) 68 (.inl (cc 0, 4, .inl (fun _ => -1))))
theorem pf_M_1 : parseFieldDescriptor (F_M 1).2.2.1 = some (.array .int) := by decide +kernel
theorem pf_M_4 : parseFieldDescriptor (F_M 4).2.2.1 = some .long := by decide +kernel
theorem pf_M_5 : parseFieldDescriptor (F_M 5).2.2.1 = some (.array .int) := by decide +kernel
theorem pf_M_6 : parseFieldDescriptor (F_M 6).2.2.1 = some (.array .int) := by decide +kernel
theorem pf_M_7 : parseFieldDescriptor (F_M 7).2.2.1 = some (.array .int) := by decide +kernel
theorem pf_M_8 : parseFieldDescriptor (F_M 8).2.2.1 = some (.array .int) := by decide +kernel
theorem pf_M_9 : parseFieldDescriptor (F_M 9).2.2.1 = some (.array .byte) := by decide +kernel
theorem pf_M_11 : parseFieldDescriptor (F_M 11).2.2.1 = some (.array .int) := by decide +kernel
theorem pf_M_12 : parseFieldDescriptor (F_M 12).2.2.1 = some (.array .int) := by decide +kernel
theorem pf_M_13 : parseFieldDescriptor (F_M 13).2.2.1 = some (.array .int) := by decide +kernel
theorem pf_M_14 : parseFieldDescriptor (F_M 14).2.2.1 = some (.array .int) := by decide +kernel
theorem pf_M_18 : parseFieldDescriptor (F_M 18).2.2.1 = some (.array .int) := by decide +kernel
theorem pf_M_19 : parseFieldDescriptor (F_M 19).2.2.1 = some (.array .int) := by decide +kernel
theorem pf_M_20 : parseFieldDescriptor (F_M 20).2.2.1 = some (.array .int) := by decide +kernel
theorem pf_M_21 : parseFieldDescriptor (F_M 21).2.2.1 = some (.array .int) := by decide +kernel
theorem pf_M_23 : parseFieldDescriptor (F_M 23).2.2.1 = some (.array .int) := by decide +kernel
theorem pf_M_24 : parseFieldDescriptor (F_M 24).2.2.1 = some (.array .boolean) := by decide +kernel
theorem pf_M_25 : parseFieldDescriptor (F_M 25).2.2.1 = some (.array .int) := by decide +kernel
theorem pf_M_26 : parseFieldDescriptor (F_M 26).2.2.1 = some (.array .int) := by decide +kernel
theorem pf_M_27 : parseFieldDescriptor (F_M 27).2.2.1 = some (.array .int) := by decide +kernel
theorem pf_M_28 : parseFieldDescriptor (F_M 28).2.2.1 = some (.array .int) := by decide +kernel
theorem pf_M_34 : parseFieldDescriptor (F_M 34).2.2.1 = some (.array .int) := by decide +kernel
theorem pf_M_35 : parseFieldDescriptor (F_M 35).2.2.1 = some (.array .int) := by decide +kernel
theorem pf_M_36 : parseFieldDescriptor (F_M 36).2.2.1 = some (.array .int) := by decide +kernel
abbrev b_M_init : ByteArray := prog_14_method_1_code
abbrev y_M_init : MethodName := ⟨"TakerBookModel", "<init>", "()V"⟩
theorem d_M_init_0 : decode b_M_init 0 = .ok (.aload_n 0, 1) := by decide +kernel
theorem d_M_init_1 : decode b_M_init 1 = .ok (.invokespecial 1, 3) := by decide +kernel
theorem d_M_init_4 : decode b_M_init 4 = .ok (.aload_n 0, 1) := by decide +kernel
theorem d_M_init_5 : decode b_M_init 5 = .ok (.bipush 6, 2) := by decide +kernel
theorem d_M_init_7 : decode b_M_init 7 = .ok (.newarray .int, 2) := by decide +kernel
theorem d_M_init_9 : decode b_M_init 9 = .ok (.putfield 7, 3) := by decide +kernel
theorem d_M_init_12 : decode b_M_init 12 = .ok (.aload_n 0, 1) := by decide +kernel
theorem d_M_init_13 : decode b_M_init 13 = .ok (.lconst 1, 1) := by decide +kernel
theorem d_M_init_14 : decode b_M_init 14 = .ok (.putfield 13, 3) := by decide +kernel
theorem d_M_init_17 : decode b_M_init 17 = .ok (.aload_n 0, 1) := by decide +kernel
theorem d_M_init_18 : decode b_M_init 18 = .ok (.bipush 6, 2) := by decide +kernel
theorem d_M_init_20 : decode b_M_init 20 = .ok (.newarray .int, 2) := by decide +kernel
theorem d_M_init_22 : decode b_M_init 22 = .ok (.putfield 17, 3) := by decide +kernel
theorem d_M_init_25 : decode b_M_init 25 = .ok (.aload_n 0, 1) := by decide +kernel
theorem d_M_init_26 : decode b_M_init 26 = .ok (.sipush 240, 3) := by decide +kernel
theorem d_M_init_29 : decode b_M_init 29 = .ok (.newarray .int, 2) := by decide +kernel
theorem d_M_init_31 : decode b_M_init 31 = .ok (.putfield 20, 3) := by decide +kernel
theorem d_M_init_34 : decode b_M_init 34 = .ok (.aload_n 0, 1) := by decide +kernel
theorem d_M_init_35 : decode b_M_init 35 = .ok (.bipush 40, 2) := by decide +kernel
theorem d_M_init_37 : decode b_M_init 37 = .ok (.newarray .int, 2) := by decide +kernel
theorem d_M_init_39 : decode b_M_init 39 = .ok (.putfield 23, 3) := by decide +kernel
theorem d_M_init_42 : decode b_M_init 42 = .ok (.aload_n 0, 1) := by decide +kernel
theorem d_M_init_43 : decode b_M_init 43 = .ok (.iconst 4, 1) := by decide +kernel
theorem d_M_init_44 : decode b_M_init 44 = .ok (.newarray .int, 2) := by decide +kernel
theorem d_M_init_46 : decode b_M_init 46 = .ok (.putfield 26, 3) := by decide +kernel
theorem d_M_init_49 : decode b_M_init 49 = .ok (.aload_n 0, 1) := by decide +kernel
theorem d_M_init_50 : decode b_M_init 50 = .ok (.sipush 240, 3) := by decide +kernel
theorem d_M_init_53 : decode b_M_init 53 = .ok (.newarray .byte, 2) := by decide +kernel
theorem d_M_init_55 : decode b_M_init 55 = .ok (.putfield 29, 3) := by decide +kernel
theorem d_M_init_58 : decode b_M_init 58 = .ok (.aload_n 0, 1) := by decide +kernel
theorem d_M_init_59 : decode b_M_init 59 = .ok (.iconst 4, 1) := by decide +kernel
theorem d_M_init_60 : decode b_M_init 60 = .ok (.newarray .int, 2) := by decide +kernel
theorem d_M_init_62 : decode b_M_init 62 = .ok (.putfield 33, 3) := by decide +kernel
theorem d_M_init_65 : decode b_M_init 65 = .ok (.aload_n 0, 1) := by decide +kernel
theorem d_M_init_66 : decode b_M_init 66 = .ok (.bipush 6, 2) := by decide +kernel
theorem d_M_init_68 : decode b_M_init 68 = .ok (.newarray .int, 2) := by decide +kernel
theorem d_M_init_70 : decode b_M_init 70 = .ok (.putfield 36, 3) := by decide +kernel
theorem d_M_init_73 : decode b_M_init 73 = .ok (.aload_n 0, 1) := by decide +kernel
theorem d_M_init_74 : decode b_M_init 74 = .ok (.bipush 6, 2) := by decide +kernel
theorem d_M_init_76 : decode b_M_init 76 = .ok (.newarray .int, 2) := by decide +kernel
theorem d_M_init_78 : decode b_M_init 78 = .ok (.putfield 39, 3) := by decide +kernel
theorem d_M_init_81 : decode b_M_init 81 = .ok (.aload_n 0, 1) := by decide +kernel
theorem d_M_init_82 : decode b_M_init 82 = .ok (.bipush 6, 2) := by decide +kernel
theorem d_M_init_84 : decode b_M_init 84 = .ok (.newarray .int, 2) := by decide +kernel
theorem d_M_init_86 : decode b_M_init 86 = .ok (.putfield 42, 3) := by decide +kernel
theorem d_M_init_89 : decode b_M_init 89 = .ok (.aload_n 0, 1) := by decide +kernel
theorem d_M_init_90 : decode b_M_init 90 = .ok (.iconst 4, 1) := by decide +kernel
theorem d_M_init_91 : decode b_M_init 91 = .ok (.newarray .int, 2) := by decide +kernel
theorem d_M_init_93 : decode b_M_init 93 = .ok (.putfield 45, 3) := by decide +kernel
theorem d_M_init_96 : decode b_M_init 96 = .ok (.aload_n 0, 1) := by decide +kernel
theorem d_M_init_97 : decode b_M_init 97 = .ok (.bipush 24, 2) := by decide +kernel
theorem d_M_init_99 : decode b_M_init 99 = .ok (.newarray .int, 2) := by decide +kernel
theorem d_M_init_101 : decode b_M_init 101 = .ok (.putfield 48, 3) := by decide +kernel
theorem d_M_init_104 : decode b_M_init 104 = .ok (.aload_n 0, 1) := by decide +kernel
theorem d_M_init_105 : decode b_M_init 105 = .ok (.bipush 11, 2) := by decide +kernel
theorem d_M_init_107 : decode b_M_init 107 = .ok (.newarray .int, 2) := by decide +kernel
theorem d_M_init_109 : decode b_M_init 109 = .ok (.putfield 51, 3) := by decide +kernel
theorem d_M_init_112 : decode b_M_init 112 = .ok (.aload_n 0, 1) := by decide +kernel
theorem d_M_init_113 : decode b_M_init 113 = .ok (.bipush 11, 2) := by decide +kernel
theorem d_M_init_115 : decode b_M_init 115 = .ok (.newarray .int, 2) := by decide +kernel
theorem d_M_init_117 : decode b_M_init 117 = .ok (.putfield 54, 3) := by decide +kernel
theorem d_M_init_120 : decode b_M_init 120 = .ok (.aload_n 0, 1) := by decide +kernel
theorem d_M_init_121 : decode b_M_init 121 = .ok (.sipush 440, 3) := by decide +kernel
theorem d_M_init_124 : decode b_M_init 124 = .ok (.newarray .int, 2) := by decide +kernel
theorem d_M_init_126 : decode b_M_init 126 = .ok (.putfield 57, 3) := by decide +kernel
theorem d_M_init_129 : decode b_M_init 129 = .ok (.aload_n 0, 1) := by decide +kernel
theorem d_M_init_130 : decode b_M_init 130 = .ok (.iconst 3, 1) := by decide +kernel
theorem d_M_init_131 : decode b_M_init 131 = .ok (.newarray .boolean, 2) := by decide +kernel
theorem d_M_init_133 : decode b_M_init 133 = .ok (.putfield 60, 3) := by decide +kernel
theorem d_M_init_136 : decode b_M_init 136 = .ok (.aload_n 0, 1) := by decide +kernel
theorem d_M_init_137 : decode b_M_init 137 = .ok (.iconst 3, 1) := by decide +kernel
theorem d_M_init_138 : decode b_M_init 138 = .ok (.newarray .int, 2) := by decide +kernel
theorem d_M_init_140 : decode b_M_init 140 = .ok (.putfield 64, 3) := by decide +kernel
theorem d_M_init_143 : decode b_M_init 143 = .ok (.aload_n 0, 1) := by decide +kernel
theorem d_M_init_144 : decode b_M_init 144 = .ok (.bipush 33, 2) := by decide +kernel
theorem d_M_init_146 : decode b_M_init 146 = .ok (.newarray .int, 2) := by decide +kernel
theorem d_M_init_148 : decode b_M_init 148 = .ok (.putfield 67, 3) := by decide +kernel
theorem d_M_init_151 : decode b_M_init 151 = .ok (.aload_n 0, 1) := by decide +kernel
theorem d_M_init_152 : decode b_M_init 152 = .ok (.sipush 1320, 3) := by decide +kernel
theorem d_M_init_155 : decode b_M_init 155 = .ok (.newarray .int, 2) := by decide +kernel
theorem d_M_init_157 : decode b_M_init 157 = .ok (.putfield 70, 3) := by decide +kernel
theorem d_M_init_160 : decode b_M_init 160 = .ok (.aload_n 0, 1) := by decide +kernel
theorem d_M_init_161 : decode b_M_init 161 = .ok (.iconst 4, 1) := by decide +kernel
theorem d_M_init_162 : decode b_M_init 162 = .ok (.newarray .int, 2) := by decide +kernel
theorem d_M_init_164 : decode b_M_init 164 = .ok (.putfield 73, 3) := by decide +kernel
theorem d_M_init_167 : decode b_M_init 167 = .ok (.aload_n 0, 1) := by decide +kernel
theorem d_M_init_168 : decode b_M_init 168 = .ok (.bipush 6, 2) := by decide +kernel
theorem d_M_init_170 : decode b_M_init 170 = .ok (.newarray .int, 2) := by decide +kernel
theorem d_M_init_172 : decode b_M_init 172 = .ok (.putfield 76, 3) := by decide +kernel
theorem d_M_init_175 : decode b_M_init 175 = .ok (.aload_n 0, 1) := by decide +kernel
theorem d_M_init_176 : decode b_M_init 176 = .ok (.sipush 729, 3) := by decide +kernel
theorem d_M_init_179 : decode b_M_init 179 = .ok (.newarray .int, 2) := by decide +kernel
theorem d_M_init_181 : decode b_M_init 181 = .ok (.putfield 79, 3) := by decide +kernel
theorem d_M_init_184 : decode b_M_init 184 = .ok (.aload_n 0, 1) := by decide +kernel
theorem d_M_init_185 : decode b_M_init 185 = .ok (.sipush 729, 3) := by decide +kernel
theorem d_M_init_188 : decode b_M_init 188 = .ok (.newarray .int, 2) := by decide +kernel
theorem d_M_init_190 : decode b_M_init 190 = .ok (.putfield 82, 3) := by decide +kernel
theorem d_M_init_193 : decode b_M_init 193 = .ok (.iconst 0, 1) := by decide +kernel
theorem d_M_init_194 : decode b_M_init 194 = .ok (.istore_n 1, 1) := by decide +kernel
theorem d_M_init_195 : decode b_M_init 195 = .ok (.iload_n 1, 1) := by decide +kernel
theorem d_M_init_196 : decode b_M_init 196 = .ok (.bipush 6, 2) := by decide +kernel
theorem d_M_init_198 : decode b_M_init 198 = .ok (.if_icmp .ge 16, 3) := by decide +kernel
theorem d_M_init_201 : decode b_M_init 201 = .ok (.aload_n 0, 1) := by decide +kernel
theorem d_M_init_202 : decode b_M_init 202 = .ok (.getfield 17, 3) := by decide +kernel
theorem d_M_init_205 : decode b_M_init 205 = .ok (.iload_n 1, 1) := by decide +kernel
theorem d_M_init_206 : decode b_M_init 206 = .ok (.iconst (-1), 1) := by decide +kernel
theorem d_M_init_207 : decode b_M_init 207 = .ok (.iastore, 1) := by decide +kernel
theorem d_M_init_208 : decode b_M_init 208 = .ok (.iinc 1 1, 3) := by decide +kernel
theorem d_M_init_211 : decode b_M_init 211 = .ok (.goto (-16), 3) := by decide +kernel
theorem d_M_init_214 : decode b_M_init 214 = .ok (.iconst 0, 1) := by decide +kernel
theorem d_M_init_215 : decode b_M_init 215 = .ok (.istore_n 1, 1) := by decide +kernel
theorem d_M_init_216 : decode b_M_init 216 = .ok (.iload_n 1, 1) := by decide +kernel
theorem d_M_init_217 : decode b_M_init 217 = .ok (.iconst 4, 1) := by decide +kernel
theorem d_M_init_218 : decode b_M_init 218 = .ok (.if_icmp .ge 16, 3) := by decide +kernel
theorem d_M_init_221 : decode b_M_init 221 = .ok (.aload_n 0, 1) := by decide +kernel
theorem d_M_init_222 : decode b_M_init 222 = .ok (.getfield 26, 3) := by decide +kernel
theorem d_M_init_225 : decode b_M_init 225 = .ok (.iload_n 1, 1) := by decide +kernel
theorem d_M_init_226 : decode b_M_init 226 = .ok (.iconst (-1), 1) := by decide +kernel
theorem d_M_init_227 : decode b_M_init 227 = .ok (.iastore, 1) := by decide +kernel
theorem d_M_init_228 : decode b_M_init 228 = .ok (.iinc 1 1, 3) := by decide +kernel
theorem d_M_init_231 : decode b_M_init 231 = .ok (.goto (-15), 3) := by decide +kernel
theorem d_M_init_234 : decode b_M_init 234 = .ok (.return_, 1) := by decide +kernel
theorem mo_M_init : mok y_M_init b_M_init 2 none 0 := ⟨List.mem_of_getElem? (i := 977) (by decide +kernel), ⟨by decide +kernel, by decide +kernel, by decide +kernel⟩, List.mem_of_getElem? (i := 86) (by decide +kernel), by decide⟩
set_option maxHeartbeats 4000000 in
set_option maxRecDepth 100000 in
theorem c_M_init (l : Launch) (D : va_G) (cc : Nat → ClassId) (b : Nat) : CT l D cc b y_M_init b_M_init 2 (rmN 1 23 3875) 12 [.int 0, .null, .int 0, .long 0, .long 0, .null, .null, .null, .null, .null, .int 0, .null, .null, .null, .null, .int 0, .int 0, .int 0, .null, .null, .null, .null, .int 0, .null, .null, .null, .null, .null, .null, .int 0, .int 0, .int 0, .int 0, .int 0, .null, .null, .null, .long 0, .long 0, .long 0] (ZM b cc) 63 87 23 3875 := by
  refine CT_of rfl (by decide) rfl (by decide) (fun X hX F hsz => ?_)
  subst hX
  refine n_to (E' := updE (Z b cc) 63 (.inr (12, [.int 0, .null, .int 0, .long 0, .long 0, .null, .null, .null, .null, .null, .int 0, .null, .null, .null, .null, .int 0, .int 0, .int 0, .null, .null, .null, .null, .int 0, .null, .null, .null, .null, .null, .null, .int 0, .int 0, .int 0, .int 0, .int 0, .null, .null, .null, .long 0, .long 0, .long 0]))) (fun i h1 h2 => ?_) ?_
  · rw [show i = 63 by omega]
    rfl
  refine n_ls (ls' := [(0, .ref (b + 63))]) rfl ?_
  refine n_aload_n F d_M_init_0 rfl 0 rfl ?_
  refine n_obj F (List.mem_of_getElem? (i := 978) (by decide +kernel)) (by decide) (Nat.le_of_ble_eq_true rfl) d_M_init_1 ?_
  refine n_aload_n F d_M_init_4 rfl 0 rfl ?_
  refine n_bipush (v := 6) F d_M_init_5 (by decide) ?_
  refine n_newa (atype := .int) (ty := .int) (t0 := 0) (N := 6) (cA := cc 0) (a0 := (6, .inl (fun _ => 0))) F (by decide) rfl (fun C h => by cases h) (List.mem_of_getElem? (i := 128) (by decide +kernel)) rfl rfl rfl (by decide) (by decide) (Nat.le_of_ble_eq_true rfl) (Nat.le_of_ble_eq_true rfl) (Nat.le_of_ble_eq_true rfl) d_M_init_7 ?_
  refine n_num (k' := 65) (c' := 1) (sl' := 6) rfl rfl rfl ?_
  refine n_putF (b := b) (k0 := 63) (k := 65) (c := 1) (ci := 12) (fs := [.int 0, .null, .int 0, .long 0, .long 0, .null, .null, .null, .null, .null, .int 0, .null, .null, .null, .null, .int 0, .int 0, .int 0, .null, .null, .null, .null, .int 0, .null, .null, .null, .null, .null, .null, .int 0, .int 0, .int 0, .int 0, .int 0, .null, .null, .null, .long 0, .long 0, .long 0]) (i := 63) F hsz rfl (by decide) (by decide) rfl fk_M_7 ⟨(R_M, F_M, 40), rfl, rfl, rfl, pf_M_1⟩ rfl rfl (Nat.le_of_ble_eq_true rfl) d_M_init_9 ?_
  refine n_aload_n F d_M_init_12 rfl 0 rfl ?_
  refine n_lconst (v := 1) F d_M_init_13 (by decide) ?_
  refine n_put (b := b) (k0 := 63) (k := 65) (c := 1) (ci := 12) (fs := [.int 0, .ref (b + 64), .int 0, .long 0, .long 0, .null, .null, .null, .null, .null, .int 0, .null, .null, .null, .null, .int 0, .int 0, .int 0, .null, .null, .null, .null, .int 0, .null, .null, .null, .null, .null, .null, .int 0, .int 0, .int 0, .int 0, .int 0, .null, .null, .null, .long 0, .long 0, .long 0]) (i := 63) F hsz rfl (by decide) (by decide) rfl fk_M_13 ⟨(R_M, F_M, 40), rfl, rfl, pf_M_4⟩ rfl rfl (Nat.le_of_ble_eq_true rfl) d_M_init_14 ?_
  refine n_aload_n F d_M_init_17 rfl 0 rfl ?_
  refine n_bipush (v := 6) F d_M_init_18 (by decide) ?_
  refine n_newa (atype := .int) (ty := .int) (t0 := 0) (N := 6) (cA := cc 0) (a0 := (6, .inl (fun _ => 0))) F (by decide) rfl (fun C h => by cases h) (List.mem_of_getElem? (i := 128) (by decide +kernel)) rfl rfl rfl (by decide) (by decide) (Nat.le_of_ble_eq_true rfl) (Nat.le_of_ble_eq_true rfl) (Nat.le_of_ble_eq_true rfl) d_M_init_20 ?_
  refine n_num (k' := 66) (c' := 2) (sl' := 12) rfl rfl rfl ?_
  refine n_putF (b := b) (k0 := 63) (k := 66) (c := 2) (ci := 12) (fs := [.int 0, .ref (b + 64), .int 0, .long 0, .long 1, .null, .null, .null, .null, .null, .int 0, .null, .null, .null, .null, .int 0, .int 0, .int 0, .null, .null, .null, .null, .int 0, .null, .null, .null, .null, .null, .null, .int 0, .int 0, .int 0, .int 0, .int 0, .null, .null, .null, .long 0, .long 0, .long 0]) (i := 63) F hsz rfl (by decide) (by decide) rfl fk_M_17 ⟨(R_M, F_M, 40), rfl, rfl, rfl, pf_M_5⟩ rfl rfl (Nat.le_of_ble_eq_true rfl) d_M_init_22 ?_
  refine n_aload_n F d_M_init_25 rfl 0 rfl ?_
  refine n_sipush (v := 240) F d_M_init_26 (by decide) ?_
  refine n_newa (atype := .int) (ty := .int) (t0 := 0) (N := 240) (cA := cc 0) (a0 := (240, .inl (fun _ => 0))) F (by decide) rfl (fun C h => by cases h) (List.mem_of_getElem? (i := 128) (by decide +kernel)) rfl rfl rfl (by decide) (by decide) (Nat.le_of_ble_eq_true rfl) (Nat.le_of_ble_eq_true rfl) (Nat.le_of_ble_eq_true rfl) d_M_init_29 ?_
  refine n_num (k' := 67) (c' := 3) (sl' := 252) rfl rfl rfl ?_
  refine n_putF (b := b) (k0 := 63) (k := 67) (c := 3) (ci := 12) (fs := [.int 0, .ref (b + 64), .int 0, .long 0, .long 1, .ref (b + 65), .null, .null, .null, .null, .int 0, .null, .null, .null, .null, .int 0, .int 0, .int 0, .null, .null, .null, .null, .int 0, .null, .null, .null, .null, .null, .null, .int 0, .int 0, .int 0, .int 0, .int 0, .null, .null, .null, .long 0, .long 0, .long 0]) (i := 63) F hsz rfl (by decide) (by decide) rfl fk_M_20 ⟨(R_M, F_M, 40), rfl, rfl, rfl, pf_M_6⟩ rfl rfl (Nat.le_of_ble_eq_true rfl) d_M_init_31 ?_
  refine n_aload_n F d_M_init_34 rfl 0 rfl ?_
  refine n_bipush (v := 40) F d_M_init_35 (by decide) ?_
  refine n_newa (atype := .int) (ty := .int) (t0 := 0) (N := 40) (cA := cc 0) (a0 := (40, .inl (fun _ => 0))) F (by decide) rfl (fun C h => by cases h) (List.mem_of_getElem? (i := 128) (by decide +kernel)) rfl rfl rfl (by decide) (by decide) (Nat.le_of_ble_eq_true rfl) (Nat.le_of_ble_eq_true rfl) (Nat.le_of_ble_eq_true rfl) d_M_init_37 ?_
  refine n_num (k' := 68) (c' := 4) (sl' := 292) rfl rfl rfl ?_
  refine n_putF (b := b) (k0 := 63) (k := 68) (c := 4) (ci := 12) (fs := [.int 0, .ref (b + 64), .int 0, .long 0, .long 1, .ref (b + 65), .ref (b + 66), .null, .null, .null, .int 0, .null, .null, .null, .null, .int 0, .int 0, .int 0, .null, .null, .null, .null, .int 0, .null, .null, .null, .null, .null, .null, .int 0, .int 0, .int 0, .int 0, .int 0, .null, .null, .null, .long 0, .long 0, .long 0]) (i := 63) F hsz rfl (by decide) (by decide) rfl fk_M_23 ⟨(R_M, F_M, 40), rfl, rfl, rfl, pf_M_7⟩ rfl rfl (Nat.le_of_ble_eq_true rfl) d_M_init_39 ?_
  refine n_aload_n F d_M_init_42 rfl 0 rfl ?_
  refine n_iconst (v := 4) F d_M_init_43 (by decide) ?_
  refine n_newa (atype := .int) (ty := .int) (t0 := 0) (N := 4) (cA := cc 0) (a0 := (4, .inl (fun _ => 0))) F (by decide) rfl (fun C h => by cases h) (List.mem_of_getElem? (i := 128) (by decide +kernel)) rfl rfl rfl (by decide) (by decide) (Nat.le_of_ble_eq_true rfl) (Nat.le_of_ble_eq_true rfl) (Nat.le_of_ble_eq_true rfl) d_M_init_44 ?_
  refine n_num (k' := 69) (c' := 5) (sl' := 296) rfl rfl rfl ?_
  refine n_putF (b := b) (k0 := 63) (k := 69) (c := 5) (ci := 12) (fs := [.int 0, .ref (b + 64), .int 0, .long 0, .long 1, .ref (b + 65), .ref (b + 66), .ref (b + 67), .null, .null, .int 0, .null, .null, .null, .null, .int 0, .int 0, .int 0, .null, .null, .null, .null, .int 0, .null, .null, .null, .null, .null, .null, .int 0, .int 0, .int 0, .int 0, .int 0, .null, .null, .null, .long 0, .long 0, .long 0]) (i := 63) F hsz rfl (by decide) (by decide) rfl fk_M_26 ⟨(R_M, F_M, 40), rfl, rfl, rfl, pf_M_8⟩ rfl rfl (Nat.le_of_ble_eq_true rfl) d_M_init_46 ?_
  refine n_aload_n F d_M_init_49 rfl 0 rfl ?_
  refine n_sipush (v := 240) F d_M_init_50 (by decide) ?_
  refine n_newa (atype := .byte) (ty := .byte) (t0 := 1) (N := 240) (cA := cc 1) (a0 := (240, .inl (fun _ => 0))) F (by decide) rfl (fun C h => by cases h) (List.mem_of_getElem? (i := 129) (by decide +kernel)) rfl rfl rfl (by decide) (by decide) (Nat.le_of_ble_eq_true rfl) (Nat.le_of_ble_eq_true rfl) (Nat.le_of_ble_eq_true rfl) d_M_init_53 ?_
  refine n_num (k' := 70) (c' := 6) (sl' := 536) rfl rfl rfl ?_
  refine n_putF (b := b) (k0 := 63) (k := 70) (c := 6) (ci := 12) (fs := [.int 0, .ref (b + 64), .int 0, .long 0, .long 1, .ref (b + 65), .ref (b + 66), .ref (b + 67), .ref (b + 68), .null, .int 0, .null, .null, .null, .null, .int 0, .int 0, .int 0, .null, .null, .null, .null, .int 0, .null, .null, .null, .null, .null, .null, .int 0, .int 0, .int 0, .int 0, .int 0, .null, .null, .null, .long 0, .long 0, .long 0]) (i := 63) F hsz rfl (by decide) (by decide) rfl fk_M_29 ⟨(R_M, F_M, 40), rfl, rfl, rfl, pf_M_9⟩ rfl rfl (Nat.le_of_ble_eq_true rfl) d_M_init_55 ?_
  refine n_aload_n F d_M_init_58 rfl 0 rfl ?_
  refine n_iconst (v := 4) F d_M_init_59 (by decide) ?_
  refine n_newa (atype := .int) (ty := .int) (t0 := 0) (N := 4) (cA := cc 0) (a0 := (4, .inl (fun _ => 0))) F (by decide) rfl (fun C h => by cases h) (List.mem_of_getElem? (i := 128) (by decide +kernel)) rfl rfl rfl (by decide) (by decide) (Nat.le_of_ble_eq_true rfl) (Nat.le_of_ble_eq_true rfl) (Nat.le_of_ble_eq_true rfl) d_M_init_60 ?_
  refine n_num (k' := 71) (c' := 7) (sl' := 540) rfl rfl rfl ?_
  refine n_putF (b := b) (k0 := 63) (k := 71) (c := 7) (ci := 12) (fs := [.int 0, .ref (b + 64), .int 0, .long 0, .long 1, .ref (b + 65), .ref (b + 66), .ref (b + 67), .ref (b + 68), .ref (b + 69), .int 0, .null, .null, .null, .null, .int 0, .int 0, .int 0, .null, .null, .null, .null, .int 0, .null, .null, .null, .null, .null, .null, .int 0, .int 0, .int 0, .int 0, .int 0, .null, .null, .null, .long 0, .long 0, .long 0]) (i := 63) F hsz rfl (by decide) (by decide) rfl fk_M_33 ⟨(R_M, F_M, 40), rfl, rfl, rfl, pf_M_11⟩ rfl rfl (Nat.le_of_ble_eq_true rfl) d_M_init_62 ?_
  refine n_aload_n F d_M_init_65 rfl 0 rfl ?_
  refine n_bipush (v := 6) F d_M_init_66 (by decide) ?_
  refine n_newa (atype := .int) (ty := .int) (t0 := 0) (N := 6) (cA := cc 0) (a0 := (6, .inl (fun _ => 0))) F (by decide) rfl (fun C h => by cases h) (List.mem_of_getElem? (i := 128) (by decide +kernel)) rfl rfl rfl (by decide) (by decide) (Nat.le_of_ble_eq_true rfl) (Nat.le_of_ble_eq_true rfl) (Nat.le_of_ble_eq_true rfl) d_M_init_68 ?_
  refine n_num (k' := 72) (c' := 8) (sl' := 546) rfl rfl rfl ?_
  refine n_putF (b := b) (k0 := 63) (k := 72) (c := 8) (ci := 12) (fs := [.int 0, .ref (b + 64), .int 0, .long 0, .long 1, .ref (b + 65), .ref (b + 66), .ref (b + 67), .ref (b + 68), .ref (b + 69), .int 0, .ref (b + 70), .null, .null, .null, .int 0, .int 0, .int 0, .null, .null, .null, .null, .int 0, .null, .null, .null, .null, .null, .null, .int 0, .int 0, .int 0, .int 0, .int 0, .null, .null, .null, .long 0, .long 0, .long 0]) (i := 63) F hsz rfl (by decide) (by decide) rfl fk_M_36 ⟨(R_M, F_M, 40), rfl, rfl, rfl, pf_M_12⟩ rfl rfl (Nat.le_of_ble_eq_true rfl) d_M_init_70 ?_
  refine n_aload_n F d_M_init_73 rfl 0 rfl ?_
  refine n_bipush (v := 6) F d_M_init_74 (by decide) ?_
  refine n_newa (atype := .int) (ty := .int) (t0 := 0) (N := 6) (cA := cc 0) (a0 := (6, .inl (fun _ => 0))) F (by decide) rfl (fun C h => by cases h) (List.mem_of_getElem? (i := 128) (by decide +kernel)) rfl rfl rfl (by decide) (by decide) (Nat.le_of_ble_eq_true rfl) (Nat.le_of_ble_eq_true rfl) (Nat.le_of_ble_eq_true rfl) d_M_init_76 ?_
  refine n_num (k' := 73) (c' := 9) (sl' := 552) rfl rfl rfl ?_
  refine n_putF (b := b) (k0 := 63) (k := 73) (c := 9) (ci := 12) (fs := [.int 0, .ref (b + 64), .int 0, .long 0, .long 1, .ref (b + 65), .ref (b + 66), .ref (b + 67), .ref (b + 68), .ref (b + 69), .int 0, .ref (b + 70), .ref (b + 71), .null, .null, .int 0, .int 0, .int 0, .null, .null, .null, .null, .int 0, .null, .null, .null, .null, .null, .null, .int 0, .int 0, .int 0, .int 0, .int 0, .null, .null, .null, .long 0, .long 0, .long 0]) (i := 63) F hsz rfl (by decide) (by decide) rfl fk_M_39 ⟨(R_M, F_M, 40), rfl, rfl, rfl, pf_M_13⟩ rfl rfl (Nat.le_of_ble_eq_true rfl) d_M_init_78 ?_
  refine n_aload_n F d_M_init_81 rfl 0 rfl ?_
  refine n_bipush (v := 6) F d_M_init_82 (by decide) ?_
  refine n_newa (atype := .int) (ty := .int) (t0 := 0) (N := 6) (cA := cc 0) (a0 := (6, .inl (fun _ => 0))) F (by decide) rfl (fun C h => by cases h) (List.mem_of_getElem? (i := 128) (by decide +kernel)) rfl rfl rfl (by decide) (by decide) (Nat.le_of_ble_eq_true rfl) (Nat.le_of_ble_eq_true rfl) (Nat.le_of_ble_eq_true rfl) d_M_init_84 ?_
  refine n_num (k' := 74) (c' := 10) (sl' := 558) rfl rfl rfl ?_
  refine n_putF (b := b) (k0 := 63) (k := 74) (c := 10) (ci := 12) (fs := [.int 0, .ref (b + 64), .int 0, .long 0, .long 1, .ref (b + 65), .ref (b + 66), .ref (b + 67), .ref (b + 68), .ref (b + 69), .int 0, .ref (b + 70), .ref (b + 71), .ref (b + 72), .null, .int 0, .int 0, .int 0, .null, .null, .null, .null, .int 0, .null, .null, .null, .null, .null, .null, .int 0, .int 0, .int 0, .int 0, .int 0, .null, .null, .null, .long 0, .long 0, .long 0]) (i := 63) F hsz rfl (by decide) (by decide) rfl fk_M_42 ⟨(R_M, F_M, 40), rfl, rfl, rfl, pf_M_14⟩ rfl rfl (Nat.le_of_ble_eq_true rfl) d_M_init_86 ?_
  refine n_aload_n F d_M_init_89 rfl 0 rfl ?_
  refine n_iconst (v := 4) F d_M_init_90 (by decide) ?_
  refine n_newa (atype := .int) (ty := .int) (t0 := 0) (N := 4) (cA := cc 0) (a0 := (4, .inl (fun _ => 0))) F (by decide) rfl (fun C h => by cases h) (List.mem_of_getElem? (i := 128) (by decide +kernel)) rfl rfl rfl (by decide) (by decide) (Nat.le_of_ble_eq_true rfl) (Nat.le_of_ble_eq_true rfl) (Nat.le_of_ble_eq_true rfl) d_M_init_91 ?_
  refine n_num (k' := 75) (c' := 11) (sl' := 562) rfl rfl rfl ?_
  refine n_putF (b := b) (k0 := 63) (k := 75) (c := 11) (ci := 12) (fs := [.int 0, .ref (b + 64), .int 0, .long 0, .long 1, .ref (b + 65), .ref (b + 66), .ref (b + 67), .ref (b + 68), .ref (b + 69), .int 0, .ref (b + 70), .ref (b + 71), .ref (b + 72), .ref (b + 73), .int 0, .int 0, .int 0, .null, .null, .null, .null, .int 0, .null, .null, .null, .null, .null, .null, .int 0, .int 0, .int 0, .int 0, .int 0, .null, .null, .null, .long 0, .long 0, .long 0]) (i := 63) F hsz rfl (by decide) (by decide) rfl fk_M_45 ⟨(R_M, F_M, 40), rfl, rfl, rfl, pf_M_18⟩ rfl rfl (Nat.le_of_ble_eq_true rfl) d_M_init_93 ?_
  refine n_aload_n F d_M_init_96 rfl 0 rfl ?_
  refine n_bipush (v := 24) F d_M_init_97 (by decide) ?_
  refine n_newa (atype := .int) (ty := .int) (t0 := 0) (N := 24) (cA := cc 0) (a0 := (24, .inl (fun _ => 0))) F (by decide) rfl (fun C h => by cases h) (List.mem_of_getElem? (i := 128) (by decide +kernel)) rfl rfl rfl (by decide) (by decide) (Nat.le_of_ble_eq_true rfl) (Nat.le_of_ble_eq_true rfl) (Nat.le_of_ble_eq_true rfl) d_M_init_99 ?_
  refine n_num (k' := 76) (c' := 12) (sl' := 586) rfl rfl rfl ?_
  refine n_putF (b := b) (k0 := 63) (k := 76) (c := 12) (ci := 12) (fs := [.int 0, .ref (b + 64), .int 0, .long 0, .long 1, .ref (b + 65), .ref (b + 66), .ref (b + 67), .ref (b + 68), .ref (b + 69), .int 0, .ref (b + 70), .ref (b + 71), .ref (b + 72), .ref (b + 73), .int 0, .int 0, .int 0, .ref (b + 74), .null, .null, .null, .int 0, .null, .null, .null, .null, .null, .null, .int 0, .int 0, .int 0, .int 0, .int 0, .null, .null, .null, .long 0, .long 0, .long 0]) (i := 63) F hsz rfl (by decide) (by decide) rfl fk_M_48 ⟨(R_M, F_M, 40), rfl, rfl, rfl, pf_M_19⟩ rfl rfl (Nat.le_of_ble_eq_true rfl) d_M_init_101 ?_
  refine n_aload_n F d_M_init_104 rfl 0 rfl ?_
  refine n_bipush (v := 11) F d_M_init_105 (by decide) ?_
  refine n_newa (atype := .int) (ty := .int) (t0 := 0) (N := 11) (cA := cc 0) (a0 := (11, .inl (fun _ => 0))) F (by decide) rfl (fun C h => by cases h) (List.mem_of_getElem? (i := 128) (by decide +kernel)) rfl rfl rfl (by decide) (by decide) (Nat.le_of_ble_eq_true rfl) (Nat.le_of_ble_eq_true rfl) (Nat.le_of_ble_eq_true rfl) d_M_init_107 ?_
  refine n_num (k' := 77) (c' := 13) (sl' := 597) rfl rfl rfl ?_
  refine n_putF (b := b) (k0 := 63) (k := 77) (c := 13) (ci := 12) (fs := [.int 0, .ref (b + 64), .int 0, .long 0, .long 1, .ref (b + 65), .ref (b + 66), .ref (b + 67), .ref (b + 68), .ref (b + 69), .int 0, .ref (b + 70), .ref (b + 71), .ref (b + 72), .ref (b + 73), .int 0, .int 0, .int 0, .ref (b + 74), .ref (b + 75), .null, .null, .int 0, .null, .null, .null, .null, .null, .null, .int 0, .int 0, .int 0, .int 0, .int 0, .null, .null, .null, .long 0, .long 0, .long 0]) (i := 63) F hsz rfl (by decide) (by decide) rfl fk_M_51 ⟨(R_M, F_M, 40), rfl, rfl, rfl, pf_M_20⟩ rfl rfl (Nat.le_of_ble_eq_true rfl) d_M_init_109 ?_
  refine n_aload_n F d_M_init_112 rfl 0 rfl ?_
  refine n_bipush (v := 11) F d_M_init_113 (by decide) ?_
  refine n_newa (atype := .int) (ty := .int) (t0 := 0) (N := 11) (cA := cc 0) (a0 := (11, .inl (fun _ => 0))) F (by decide) rfl (fun C h => by cases h) (List.mem_of_getElem? (i := 128) (by decide +kernel)) rfl rfl rfl (by decide) (by decide) (Nat.le_of_ble_eq_true rfl) (Nat.le_of_ble_eq_true rfl) (Nat.le_of_ble_eq_true rfl) d_M_init_115 ?_
  refine n_num (k' := 78) (c' := 14) (sl' := 608) rfl rfl rfl ?_
  refine n_putF (b := b) (k0 := 63) (k := 78) (c := 14) (ci := 12) (fs := [.int 0, .ref (b + 64), .int 0, .long 0, .long 1, .ref (b + 65), .ref (b + 66), .ref (b + 67), .ref (b + 68), .ref (b + 69), .int 0, .ref (b + 70), .ref (b + 71), .ref (b + 72), .ref (b + 73), .int 0, .int 0, .int 0, .ref (b + 74), .ref (b + 75), .ref (b + 76), .null, .int 0, .null, .null, .null, .null, .null, .null, .int 0, .int 0, .int 0, .int 0, .int 0, .null, .null, .null, .long 0, .long 0, .long 0]) (i := 63) F hsz rfl (by decide) (by decide) rfl fk_M_54 ⟨(R_M, F_M, 40), rfl, rfl, rfl, pf_M_21⟩ rfl rfl (Nat.le_of_ble_eq_true rfl) d_M_init_117 ?_
  refine n_aload_n F d_M_init_120 rfl 0 rfl ?_
  refine n_sipush (v := 440) F d_M_init_121 (by decide) ?_
  refine n_newa (atype := .int) (ty := .int) (t0 := 0) (N := 440) (cA := cc 0) (a0 := (440, .inl (fun _ => 0))) F (by decide) rfl (fun C h => by cases h) (List.mem_of_getElem? (i := 128) (by decide +kernel)) rfl rfl rfl (by decide) (by decide) (Nat.le_of_ble_eq_true rfl) (Nat.le_of_ble_eq_true rfl) (Nat.le_of_ble_eq_true rfl) d_M_init_124 ?_
  refine n_num (k' := 79) (c' := 15) (sl' := 1048) rfl rfl rfl ?_
  refine n_putF (b := b) (k0 := 63) (k := 79) (c := 15) (ci := 12) (fs := [.int 0, .ref (b + 64), .int 0, .long 0, .long 1, .ref (b + 65), .ref (b + 66), .ref (b + 67), .ref (b + 68), .ref (b + 69), .int 0, .ref (b + 70), .ref (b + 71), .ref (b + 72), .ref (b + 73), .int 0, .int 0, .int 0, .ref (b + 74), .ref (b + 75), .ref (b + 76), .ref (b + 77), .int 0, .null, .null, .null, .null, .null, .null, .int 0, .int 0, .int 0, .int 0, .int 0, .null, .null, .null, .long 0, .long 0, .long 0]) (i := 63) F hsz rfl (by decide) (by decide) rfl fk_M_57 ⟨(R_M, F_M, 40), rfl, rfl, rfl, pf_M_23⟩ rfl rfl (Nat.le_of_ble_eq_true rfl) d_M_init_126 ?_
  refine n_aload_n F d_M_init_129 rfl 0 rfl ?_
  refine n_iconst (v := 3) F d_M_init_130 (by decide) ?_
  refine n_newa (atype := .boolean) (ty := .boolean) (t0 := 2) (N := 3) (cA := cc 2) (a0 := (3, .inl (fun _ => 0))) F (by decide) rfl (fun C h => by cases h) (List.mem_of_getElem? (i := 306) (by decide +kernel)) rfl rfl rfl (by decide) (by decide) (Nat.le_of_ble_eq_true rfl) (Nat.le_of_ble_eq_true rfl) (Nat.le_of_ble_eq_true rfl) d_M_init_131 ?_
  refine n_num (k' := 80) (c' := 16) (sl' := 1051) rfl rfl rfl ?_
  refine n_putF (b := b) (k0 := 63) (k := 80) (c := 16) (ci := 12) (fs := [.int 0, .ref (b + 64), .int 0, .long 0, .long 1, .ref (b + 65), .ref (b + 66), .ref (b + 67), .ref (b + 68), .ref (b + 69), .int 0, .ref (b + 70), .ref (b + 71), .ref (b + 72), .ref (b + 73), .int 0, .int 0, .int 0, .ref (b + 74), .ref (b + 75), .ref (b + 76), .ref (b + 77), .int 0, .ref (b + 78), .null, .null, .null, .null, .null, .int 0, .int 0, .int 0, .int 0, .int 0, .null, .null, .null, .long 0, .long 0, .long 0]) (i := 63) F hsz rfl (by decide) (by decide) rfl fk_M_60 ⟨(R_M, F_M, 40), rfl, rfl, rfl, pf_M_24⟩ rfl rfl (Nat.le_of_ble_eq_true rfl) d_M_init_133 ?_
  refine n_aload_n F d_M_init_136 rfl 0 rfl ?_
  refine n_iconst (v := 3) F d_M_init_137 (by decide) ?_
  refine n_newa (atype := .int) (ty := .int) (t0 := 0) (N := 3) (cA := cc 0) (a0 := (3, .inl (fun _ => 0))) F (by decide) rfl (fun C h => by cases h) (List.mem_of_getElem? (i := 128) (by decide +kernel)) rfl rfl rfl (by decide) (by decide) (Nat.le_of_ble_eq_true rfl) (Nat.le_of_ble_eq_true rfl) (Nat.le_of_ble_eq_true rfl) d_M_init_138 ?_
  refine n_num (k' := 81) (c' := 17) (sl' := 1054) rfl rfl rfl ?_
  refine n_putF (b := b) (k0 := 63) (k := 81) (c := 17) (ci := 12) (fs := [.int 0, .ref (b + 64), .int 0, .long 0, .long 1, .ref (b + 65), .ref (b + 66), .ref (b + 67), .ref (b + 68), .ref (b + 69), .int 0, .ref (b + 70), .ref (b + 71), .ref (b + 72), .ref (b + 73), .int 0, .int 0, .int 0, .ref (b + 74), .ref (b + 75), .ref (b + 76), .ref (b + 77), .int 0, .ref (b + 78), .ref (b + 79), .null, .null, .null, .null, .int 0, .int 0, .int 0, .int 0, .int 0, .null, .null, .null, .long 0, .long 0, .long 0]) (i := 63) F hsz rfl (by decide) (by decide) rfl fk_M_64 ⟨(R_M, F_M, 40), rfl, rfl, rfl, pf_M_25⟩ rfl rfl (Nat.le_of_ble_eq_true rfl) d_M_init_140 ?_
  refine n_aload_n F d_M_init_143 rfl 0 rfl ?_
  refine n_bipush (v := 33) F d_M_init_144 (by decide) ?_
  refine n_newa (atype := .int) (ty := .int) (t0 := 0) (N := 33) (cA := cc 0) (a0 := (33, .inl (fun _ => 0))) F (by decide) rfl (fun C h => by cases h) (List.mem_of_getElem? (i := 128) (by decide +kernel)) rfl rfl rfl (by decide) (by decide) (Nat.le_of_ble_eq_true rfl) (Nat.le_of_ble_eq_true rfl) (Nat.le_of_ble_eq_true rfl) d_M_init_146 ?_
  refine n_num (k' := 82) (c' := 18) (sl' := 1087) rfl rfl rfl ?_
  refine n_putF (b := b) (k0 := 63) (k := 82) (c := 18) (ci := 12) (fs := [.int 0, .ref (b + 64), .int 0, .long 0, .long 1, .ref (b + 65), .ref (b + 66), .ref (b + 67), .ref (b + 68), .ref (b + 69), .int 0, .ref (b + 70), .ref (b + 71), .ref (b + 72), .ref (b + 73), .int 0, .int 0, .int 0, .ref (b + 74), .ref (b + 75), .ref (b + 76), .ref (b + 77), .int 0, .ref (b + 78), .ref (b + 79), .ref (b + 80), .null, .null, .null, .int 0, .int 0, .int 0, .int 0, .int 0, .null, .null, .null, .long 0, .long 0, .long 0]) (i := 63) F hsz rfl (by decide) (by decide) rfl fk_M_67 ⟨(R_M, F_M, 40), rfl, rfl, rfl, pf_M_26⟩ rfl rfl (Nat.le_of_ble_eq_true rfl) d_M_init_148 ?_
  refine n_aload_n F d_M_init_151 rfl 0 rfl ?_
  refine n_sipush (v := 1320) F d_M_init_152 (by decide) ?_
  refine n_newa (atype := .int) (ty := .int) (t0 := 0) (N := 1320) (cA := cc 0) (a0 := (1320, .inl (fun _ => 0))) F (by decide) rfl (fun C h => by cases h) (List.mem_of_getElem? (i := 128) (by decide +kernel)) rfl rfl rfl (by decide) (by decide) (Nat.le_of_ble_eq_true rfl) (Nat.le_of_ble_eq_true rfl) (Nat.le_of_ble_eq_true rfl) d_M_init_155 ?_
  refine n_num (k' := 83) (c' := 19) (sl' := 2407) rfl rfl rfl ?_
  refine n_putF (b := b) (k0 := 63) (k := 83) (c := 19) (ci := 12) (fs := [.int 0, .ref (b + 64), .int 0, .long 0, .long 1, .ref (b + 65), .ref (b + 66), .ref (b + 67), .ref (b + 68), .ref (b + 69), .int 0, .ref (b + 70), .ref (b + 71), .ref (b + 72), .ref (b + 73), .int 0, .int 0, .int 0, .ref (b + 74), .ref (b + 75), .ref (b + 76), .ref (b + 77), .int 0, .ref (b + 78), .ref (b + 79), .ref (b + 80), .ref (b + 81), .null, .null, .int 0, .int 0, .int 0, .int 0, .int 0, .null, .null, .null, .long 0, .long 0, .long 0]) (i := 63) F hsz rfl (by decide) (by decide) rfl fk_M_70 ⟨(R_M, F_M, 40), rfl, rfl, rfl, pf_M_27⟩ rfl rfl (Nat.le_of_ble_eq_true rfl) d_M_init_157 ?_
  refine n_aload_n F d_M_init_160 rfl 0 rfl ?_
  refine n_iconst (v := 4) F d_M_init_161 (by decide) ?_
  refine n_newa (atype := .int) (ty := .int) (t0 := 0) (N := 4) (cA := cc 0) (a0 := (4, .inl (fun _ => 0))) F (by decide) rfl (fun C h => by cases h) (List.mem_of_getElem? (i := 128) (by decide +kernel)) rfl rfl rfl (by decide) (by decide) (Nat.le_of_ble_eq_true rfl) (Nat.le_of_ble_eq_true rfl) (Nat.le_of_ble_eq_true rfl) d_M_init_162 ?_
  refine n_num (k' := 84) (c' := 20) (sl' := 2411) rfl rfl rfl ?_
  refine n_putF (b := b) (k0 := 63) (k := 84) (c := 20) (ci := 12) (fs := [.int 0, .ref (b + 64), .int 0, .long 0, .long 1, .ref (b + 65), .ref (b + 66), .ref (b + 67), .ref (b + 68), .ref (b + 69), .int 0, .ref (b + 70), .ref (b + 71), .ref (b + 72), .ref (b + 73), .int 0, .int 0, .int 0, .ref (b + 74), .ref (b + 75), .ref (b + 76), .ref (b + 77), .int 0, .ref (b + 78), .ref (b + 79), .ref (b + 80), .ref (b + 81), .ref (b + 82), .null, .int 0, .int 0, .int 0, .int 0, .int 0, .null, .null, .null, .long 0, .long 0, .long 0]) (i := 63) F hsz rfl (by decide) (by decide) rfl fk_M_73 ⟨(R_M, F_M, 40), rfl, rfl, rfl, pf_M_28⟩ rfl rfl (Nat.le_of_ble_eq_true rfl) d_M_init_164 ?_
  refine n_aload_n F d_M_init_167 rfl 0 rfl ?_
  refine n_bipush (v := 6) F d_M_init_168 (by decide) ?_
  refine n_newa (atype := .int) (ty := .int) (t0 := 0) (N := 6) (cA := cc 0) (a0 := (6, .inl (fun _ => 0))) F (by decide) rfl (fun C h => by cases h) (List.mem_of_getElem? (i := 128) (by decide +kernel)) rfl rfl rfl (by decide) (by decide) (Nat.le_of_ble_eq_true rfl) (Nat.le_of_ble_eq_true rfl) (Nat.le_of_ble_eq_true rfl) d_M_init_170 ?_
  refine n_num (k' := 85) (c' := 21) (sl' := 2417) rfl rfl rfl ?_
  refine n_putF (b := b) (k0 := 63) (k := 85) (c := 21) (ci := 12) (fs := [.int 0, .ref (b + 64), .int 0, .long 0, .long 1, .ref (b + 65), .ref (b + 66), .ref (b + 67), .ref (b + 68), .ref (b + 69), .int 0, .ref (b + 70), .ref (b + 71), .ref (b + 72), .ref (b + 73), .int 0, .int 0, .int 0, .ref (b + 74), .ref (b + 75), .ref (b + 76), .ref (b + 77), .int 0, .ref (b + 78), .ref (b + 79), .ref (b + 80), .ref (b + 81), .ref (b + 82), .ref (b + 83), .int 0, .int 0, .int 0, .int 0, .int 0, .null, .null, .null, .long 0, .long 0, .long 0]) (i := 63) F hsz rfl (by decide) (by decide) rfl fk_M_76 ⟨(R_M, F_M, 40), rfl, rfl, rfl, pf_M_34⟩ rfl rfl (Nat.le_of_ble_eq_true rfl) d_M_init_172 ?_
  refine n_aload_n F d_M_init_175 rfl 0 rfl ?_
  refine n_sipush (v := 729) F d_M_init_176 (by decide) ?_
  refine n_newa (atype := .int) (ty := .int) (t0 := 0) (N := 729) (cA := cc 0) (a0 := (729, .inl (fun _ => 0))) F (by decide) rfl (fun C h => by cases h) (List.mem_of_getElem? (i := 128) (by decide +kernel)) rfl rfl rfl (by decide) (by decide) (Nat.le_of_ble_eq_true rfl) (Nat.le_of_ble_eq_true rfl) (Nat.le_of_ble_eq_true rfl) d_M_init_179 ?_
  refine n_num (k' := 86) (c' := 22) (sl' := 3146) rfl rfl rfl ?_
  refine n_putF (b := b) (k0 := 63) (k := 86) (c := 22) (ci := 12) (fs := [.int 0, .ref (b + 64), .int 0, .long 0, .long 1, .ref (b + 65), .ref (b + 66), .ref (b + 67), .ref (b + 68), .ref (b + 69), .int 0, .ref (b + 70), .ref (b + 71), .ref (b + 72), .ref (b + 73), .int 0, .int 0, .int 0, .ref (b + 74), .ref (b + 75), .ref (b + 76), .ref (b + 77), .int 0, .ref (b + 78), .ref (b + 79), .ref (b + 80), .ref (b + 81), .ref (b + 82), .ref (b + 83), .int 0, .int 0, .int 0, .int 0, .int 0, .ref (b + 84), .null, .null, .long 0, .long 0, .long 0]) (i := 63) F hsz rfl (by decide) (by decide) rfl fk_M_79 ⟨(R_M, F_M, 40), rfl, rfl, rfl, pf_M_35⟩ rfl rfl (Nat.le_of_ble_eq_true rfl) d_M_init_181 ?_
  refine n_aload_n F d_M_init_184 rfl 0 rfl ?_
  refine n_sipush (v := 729) F d_M_init_185 (by decide) ?_
  refine n_newa (atype := .int) (ty := .int) (t0 := 0) (N := 729) (cA := cc 0) (a0 := (729, .inl (fun _ => 0))) F (by decide) rfl (fun C h => by cases h) (List.mem_of_getElem? (i := 128) (by decide +kernel)) rfl rfl rfl (by decide) (by decide) (Nat.le_of_ble_eq_true rfl) (Nat.le_of_ble_eq_true rfl) (Nat.le_of_ble_eq_true rfl) d_M_init_188 ?_
  refine n_num (k' := 87) (c' := 23) (sl' := 3875) rfl rfl rfl ?_
  refine n_putF (b := b) (k0 := 63) (k := 87) (c := 23) (ci := 12) (fs := [.int 0, .ref (b + 64), .int 0, .long 0, .long 1, .ref (b + 65), .ref (b + 66), .ref (b + 67), .ref (b + 68), .ref (b + 69), .int 0, .ref (b + 70), .ref (b + 71), .ref (b + 72), .ref (b + 73), .int 0, .int 0, .int 0, .ref (b + 74), .ref (b + 75), .ref (b + 76), .ref (b + 77), .int 0, .ref (b + 78), .ref (b + 79), .ref (b + 80), .ref (b + 81), .ref (b + 82), .ref (b + 83), .int 0, .int 0, .int 0, .int 0, .int 0, .ref (b + 84), .ref (b + 85), .null, .long 0, .long 0, .long 0]) (i := 63) F hsz rfl (by decide) (by decide) rfl fk_M_82 ⟨(R_M, F_M, 40), rfl, rfl, rfl, pf_M_36⟩ rfl rfl (Nat.le_of_ble_eq_true rfl) d_M_init_190 ?_
  refine n_iconst (v := 0) F d_M_init_193 (by decide) ?_
  refine n_istore_n (ls' := [(1, .int 0), (0, .ref (b + 63))]) F d_M_init_194 rfl (by decide) rfl ?_
  refine n_iload_n F d_M_init_195 rfl 0 rfl ?_
  refine n_bipush (v := 6) F d_M_init_196 (by decide) ?_
  refine n_icmp_ge F 214 d_M_init_198 rfl (fun h => absurd h (by decide)) (fun _ => ?_)
  refine n_aload_n F d_M_init_201 rfl 1 rfl ?_
  refine n_get (k := 87) (ci := 12) (fs := [.int 0, .ref (b + 64), .int 0, .long 0, .long 1, .ref (b + 65), .ref (b + 66), .ref (b + 67), .ref (b + 68), .ref (b + 69), .int 0, .ref (b + 70), .ref (b + 71), .ref (b + 72), .ref (b + 73), .int 0, .int 0, .int 0, .ref (b + 74), .ref (b + 75), .ref (b + 76), .ref (b + 77), .int 0, .ref (b + 78), .ref (b + 79), .ref (b + 80), .ref (b + 81), .ref (b + 82), .ref (b + 83), .int 0, .int 0, .int 0, .int 0, .int 0, .ref (b + 84), .ref (b + 85), .ref (b + 86), .long 0, .long 0, .long 0]) (i := 63) (v := .ref (b + 65)) F (by decide) (by decide) rfl fk_M_17 rfl d_M_init_202 ?_
  refine n_iload_n F d_M_init_205 rfl 0 rfl ?_
  refine n_iconst (v := (-1)) F d_M_init_206 (by decide) ?_
  refine n_iast (b := b) (k0 := 63) (k := 87) (c := 23) F hsz rfl (i := 65) (n := 6) (by decide) (by decide) rfl (vin_of (by decide)) d_M_init_207 ?_
  refine n_iinc (j := 0) (v := 1) (ls' := [(1, .int 1), (0, .ref (b + 63))]) F d_M_init_208 rfl (by decide) (by decide) rfl ?_
  refine n_goto F 195 d_M_init_211 rfl ?_
  refine n_iload_n F d_M_init_195 rfl 0 rfl ?_
  refine n_bipush (v := 6) F d_M_init_196 (by decide) ?_
  refine n_icmp_ge F 214 d_M_init_198 rfl (fun h => absurd h (by decide)) (fun _ => ?_)
  refine n_aload_n F d_M_init_201 rfl 1 rfl ?_
  refine n_get (k := 87) (ci := 12) (fs := [.int 0, .ref (b + 64), .int 0, .long 0, .long 1, .ref (b + 65), .ref (b + 66), .ref (b + 67), .ref (b + 68), .ref (b + 69), .int 0, .ref (b + 70), .ref (b + 71), .ref (b + 72), .ref (b + 73), .int 0, .int 0, .int 0, .ref (b + 74), .ref (b + 75), .ref (b + 76), .ref (b + 77), .int 0, .ref (b + 78), .ref (b + 79), .ref (b + 80), .ref (b + 81), .ref (b + 82), .ref (b + 83), .int 0, .int 0, .int 0, .int 0, .int 0, .ref (b + 84), .ref (b + 85), .ref (b + 86), .long 0, .long 0, .long 0]) (i := 63) (v := .ref (b + 65)) F (by decide) (by decide) rfl fk_M_17 rfl d_M_init_202 ?_
  refine n_iload_n F d_M_init_205 rfl 0 rfl ?_
  refine n_iconst (v := (-1)) F d_M_init_206 (by decide) ?_
  refine n_iast (b := b) (k0 := 63) (k := 87) (c := 23) F hsz rfl (i := 65) (n := 6) (by decide) (by decide) rfl (vin_of (by decide)) d_M_init_207 ?_
  refine n_iinc (j := 0) (v := 2) (ls' := [(1, .int 2), (0, .ref (b + 63))]) F d_M_init_208 rfl (by decide) (by decide) rfl ?_
  refine n_goto F 195 d_M_init_211 rfl ?_
  refine n_iload_n F d_M_init_195 rfl 0 rfl ?_
  refine n_bipush (v := 6) F d_M_init_196 (by decide) ?_
  refine n_icmp_ge F 214 d_M_init_198 rfl (fun h => absurd h (by decide)) (fun _ => ?_)
  refine n_aload_n F d_M_init_201 rfl 1 rfl ?_
  refine n_get (k := 87) (ci := 12) (fs := [.int 0, .ref (b + 64), .int 0, .long 0, .long 1, .ref (b + 65), .ref (b + 66), .ref (b + 67), .ref (b + 68), .ref (b + 69), .int 0, .ref (b + 70), .ref (b + 71), .ref (b + 72), .ref (b + 73), .int 0, .int 0, .int 0, .ref (b + 74), .ref (b + 75), .ref (b + 76), .ref (b + 77), .int 0, .ref (b + 78), .ref (b + 79), .ref (b + 80), .ref (b + 81), .ref (b + 82), .ref (b + 83), .int 0, .int 0, .int 0, .int 0, .int 0, .ref (b + 84), .ref (b + 85), .ref (b + 86), .long 0, .long 0, .long 0]) (i := 63) (v := .ref (b + 65)) F (by decide) (by decide) rfl fk_M_17 rfl d_M_init_202 ?_
  refine n_iload_n F d_M_init_205 rfl 0 rfl ?_
  refine n_iconst (v := (-1)) F d_M_init_206 (by decide) ?_
  refine n_iast (b := b) (k0 := 63) (k := 87) (c := 23) F hsz rfl (i := 65) (n := 6) (by decide) (by decide) rfl (vin_of (by decide)) d_M_init_207 ?_
  refine n_iinc (j := 0) (v := 3) (ls' := [(1, .int 3), (0, .ref (b + 63))]) F d_M_init_208 rfl (by decide) (by decide) rfl ?_
  refine n_goto F 195 d_M_init_211 rfl ?_
  refine n_iload_n F d_M_init_195 rfl 0 rfl ?_
  refine n_bipush (v := 6) F d_M_init_196 (by decide) ?_
  refine n_icmp_ge F 214 d_M_init_198 rfl (fun h => absurd h (by decide)) (fun _ => ?_)
  refine n_aload_n F d_M_init_201 rfl 1 rfl ?_
  refine n_get (k := 87) (ci := 12) (fs := [.int 0, .ref (b + 64), .int 0, .long 0, .long 1, .ref (b + 65), .ref (b + 66), .ref (b + 67), .ref (b + 68), .ref (b + 69), .int 0, .ref (b + 70), .ref (b + 71), .ref (b + 72), .ref (b + 73), .int 0, .int 0, .int 0, .ref (b + 74), .ref (b + 75), .ref (b + 76), .ref (b + 77), .int 0, .ref (b + 78), .ref (b + 79), .ref (b + 80), .ref (b + 81), .ref (b + 82), .ref (b + 83), .int 0, .int 0, .int 0, .int 0, .int 0, .ref (b + 84), .ref (b + 85), .ref (b + 86), .long 0, .long 0, .long 0]) (i := 63) (v := .ref (b + 65)) F (by decide) (by decide) rfl fk_M_17 rfl d_M_init_202 ?_
  refine n_iload_n F d_M_init_205 rfl 0 rfl ?_
  refine n_iconst (v := (-1)) F d_M_init_206 (by decide) ?_
  refine n_iast (b := b) (k0 := 63) (k := 87) (c := 23) F hsz rfl (i := 65) (n := 6) (by decide) (by decide) rfl (vin_of (by decide)) d_M_init_207 ?_
  refine n_iinc (j := 0) (v := 4) (ls' := [(1, .int 4), (0, .ref (b + 63))]) F d_M_init_208 rfl (by decide) (by decide) rfl ?_
  refine n_goto F 195 d_M_init_211 rfl ?_
  refine n_iload_n F d_M_init_195 rfl 0 rfl ?_
  refine n_bipush (v := 6) F d_M_init_196 (by decide) ?_
  refine n_icmp_ge F 214 d_M_init_198 rfl (fun h => absurd h (by decide)) (fun _ => ?_)
  refine n_aload_n F d_M_init_201 rfl 1 rfl ?_
  refine n_get (k := 87) (ci := 12) (fs := [.int 0, .ref (b + 64), .int 0, .long 0, .long 1, .ref (b + 65), .ref (b + 66), .ref (b + 67), .ref (b + 68), .ref (b + 69), .int 0, .ref (b + 70), .ref (b + 71), .ref (b + 72), .ref (b + 73), .int 0, .int 0, .int 0, .ref (b + 74), .ref (b + 75), .ref (b + 76), .ref (b + 77), .int 0, .ref (b + 78), .ref (b + 79), .ref (b + 80), .ref (b + 81), .ref (b + 82), .ref (b + 83), .int 0, .int 0, .int 0, .int 0, .int 0, .ref (b + 84), .ref (b + 85), .ref (b + 86), .long 0, .long 0, .long 0]) (i := 63) (v := .ref (b + 65)) F (by decide) (by decide) rfl fk_M_17 rfl d_M_init_202 ?_
  refine n_iload_n F d_M_init_205 rfl 0 rfl ?_
  refine n_iconst (v := (-1)) F d_M_init_206 (by decide) ?_
  refine n_iast (b := b) (k0 := 63) (k := 87) (c := 23) F hsz rfl (i := 65) (n := 6) (by decide) (by decide) rfl (vin_of (by decide)) d_M_init_207 ?_
  refine n_iinc (j := 0) (v := 5) (ls' := [(1, .int 5), (0, .ref (b + 63))]) F d_M_init_208 rfl (by decide) (by decide) rfl ?_
  refine n_goto F 195 d_M_init_211 rfl ?_
  refine n_iload_n F d_M_init_195 rfl 0 rfl ?_
  refine n_bipush (v := 6) F d_M_init_196 (by decide) ?_
  refine n_icmp_ge F 214 d_M_init_198 rfl (fun h => absurd h (by decide)) (fun _ => ?_)
  refine n_aload_n F d_M_init_201 rfl 1 rfl ?_
  refine n_get (k := 87) (ci := 12) (fs := [.int 0, .ref (b + 64), .int 0, .long 0, .long 1, .ref (b + 65), .ref (b + 66), .ref (b + 67), .ref (b + 68), .ref (b + 69), .int 0, .ref (b + 70), .ref (b + 71), .ref (b + 72), .ref (b + 73), .int 0, .int 0, .int 0, .ref (b + 74), .ref (b + 75), .ref (b + 76), .ref (b + 77), .int 0, .ref (b + 78), .ref (b + 79), .ref (b + 80), .ref (b + 81), .ref (b + 82), .ref (b + 83), .int 0, .int 0, .int 0, .int 0, .int 0, .ref (b + 84), .ref (b + 85), .ref (b + 86), .long 0, .long 0, .long 0]) (i := 63) (v := .ref (b + 65)) F (by decide) (by decide) rfl fk_M_17 rfl d_M_init_202 ?_
  refine n_iload_n F d_M_init_205 rfl 0 rfl ?_
  refine n_iconst (v := (-1)) F d_M_init_206 (by decide) ?_
  refine n_iast (b := b) (k0 := 63) (k := 87) (c := 23) F hsz rfl (i := 65) (n := 6) (by decide) (by decide) rfl (vin_of (by decide)) d_M_init_207 ?_
  refine n_iinc (j := 0) (v := 6) (ls' := [(1, .int 6), (0, .ref (b + 63))]) F d_M_init_208 rfl (by decide) (by decide) rfl ?_
  refine n_goto F 195 d_M_init_211 rfl ?_
  refine n_iload_n F d_M_init_195 rfl 0 rfl ?_
  refine n_bipush (v := 6) F d_M_init_196 (by decide) ?_
  refine n_icmp_ge F 214 d_M_init_198 rfl (fun _ => ?_) (fun h => absurd (by decide) h)
  refine n_cv (k := 87) (z := 65) (e := .inl (cc 0, 6, .inl (fun _ => -1))) (by decide) (by decide) (fun H h => at_i (fun j hj => by rcases (show j = 0 ∨ j = 1 ∨ j = 2 ∨ j = 3 ∨ j = 4 ∨ j = 5 by omega) with rfl | rfl | rfl | rfl | rfl | rfl <;> rfl) h) ?_
  refine n_iconst (v := 0) F d_M_init_214 (by decide) ?_
  refine n_istore_n (ls' := [(1, .int 0), (0, .ref (b + 63))]) F d_M_init_215 rfl (by decide) rfl ?_
  refine n_iload_n F d_M_init_216 rfl 0 rfl ?_
  refine n_iconst (v := 4) F d_M_init_217 (by decide) ?_
  refine n_icmp_ge F 234 d_M_init_218 rfl (fun h => absurd h (by decide)) (fun _ => ?_)
  refine n_aload_n F d_M_init_221 rfl 1 rfl ?_
  refine n_get (k := 87) (ci := 12) (fs := [.int 0, .ref (b + 64), .int 0, .long 0, .long 1, .ref (b + 65), .ref (b + 66), .ref (b + 67), .ref (b + 68), .ref (b + 69), .int 0, .ref (b + 70), .ref (b + 71), .ref (b + 72), .ref (b + 73), .int 0, .int 0, .int 0, .ref (b + 74), .ref (b + 75), .ref (b + 76), .ref (b + 77), .int 0, .ref (b + 78), .ref (b + 79), .ref (b + 80), .ref (b + 81), .ref (b + 82), .ref (b + 83), .int 0, .int 0, .int 0, .int 0, .int 0, .ref (b + 84), .ref (b + 85), .ref (b + 86), .long 0, .long 0, .long 0]) (i := 63) (v := .ref (b + 68)) F (by decide) (by decide) rfl fk_M_26 rfl d_M_init_222 ?_
  refine n_iload_n F d_M_init_225 rfl 0 rfl ?_
  refine n_iconst (v := (-1)) F d_M_init_226 (by decide) ?_
  refine n_iast (b := b) (k0 := 63) (k := 87) (c := 23) F hsz rfl (i := 68) (n := 4) (by decide) (by decide) rfl (vin_of (by decide)) d_M_init_227 ?_
  refine n_iinc (j := 0) (v := 1) (ls' := [(1, .int 1), (0, .ref (b + 63))]) F d_M_init_228 rfl (by decide) (by decide) rfl ?_
  refine n_goto F 216 d_M_init_231 rfl ?_
  refine n_iload_n F d_M_init_216 rfl 0 rfl ?_
  refine n_iconst (v := 4) F d_M_init_217 (by decide) ?_
  refine n_icmp_ge F 234 d_M_init_218 rfl (fun h => absurd h (by decide)) (fun _ => ?_)
  refine n_aload_n F d_M_init_221 rfl 1 rfl ?_
  refine n_get (k := 87) (ci := 12) (fs := [.int 0, .ref (b + 64), .int 0, .long 0, .long 1, .ref (b + 65), .ref (b + 66), .ref (b + 67), .ref (b + 68), .ref (b + 69), .int 0, .ref (b + 70), .ref (b + 71), .ref (b + 72), .ref (b + 73), .int 0, .int 0, .int 0, .ref (b + 74), .ref (b + 75), .ref (b + 76), .ref (b + 77), .int 0, .ref (b + 78), .ref (b + 79), .ref (b + 80), .ref (b + 81), .ref (b + 82), .ref (b + 83), .int 0, .int 0, .int 0, .int 0, .int 0, .ref (b + 84), .ref (b + 85), .ref (b + 86), .long 0, .long 0, .long 0]) (i := 63) (v := .ref (b + 68)) F (by decide) (by decide) rfl fk_M_26 rfl d_M_init_222 ?_
  refine n_iload_n F d_M_init_225 rfl 0 rfl ?_
  refine n_iconst (v := (-1)) F d_M_init_226 (by decide) ?_
  refine n_iast (b := b) (k0 := 63) (k := 87) (c := 23) F hsz rfl (i := 68) (n := 4) (by decide) (by decide) rfl (vin_of (by decide)) d_M_init_227 ?_
  refine n_iinc (j := 0) (v := 2) (ls' := [(1, .int 2), (0, .ref (b + 63))]) F d_M_init_228 rfl (by decide) (by decide) rfl ?_
  refine n_goto F 216 d_M_init_231 rfl ?_
  refine n_iload_n F d_M_init_216 rfl 0 rfl ?_
  refine n_iconst (v := 4) F d_M_init_217 (by decide) ?_
  refine n_icmp_ge F 234 d_M_init_218 rfl (fun h => absurd h (by decide)) (fun _ => ?_)
  refine n_aload_n F d_M_init_221 rfl 1 rfl ?_
  refine n_get (k := 87) (ci := 12) (fs := [.int 0, .ref (b + 64), .int 0, .long 0, .long 1, .ref (b + 65), .ref (b + 66), .ref (b + 67), .ref (b + 68), .ref (b + 69), .int 0, .ref (b + 70), .ref (b + 71), .ref (b + 72), .ref (b + 73), .int 0, .int 0, .int 0, .ref (b + 74), .ref (b + 75), .ref (b + 76), .ref (b + 77), .int 0, .ref (b + 78), .ref (b + 79), .ref (b + 80), .ref (b + 81), .ref (b + 82), .ref (b + 83), .int 0, .int 0, .int 0, .int 0, .int 0, .ref (b + 84), .ref (b + 85), .ref (b + 86), .long 0, .long 0, .long 0]) (i := 63) (v := .ref (b + 68)) F (by decide) (by decide) rfl fk_M_26 rfl d_M_init_222 ?_
  refine n_iload_n F d_M_init_225 rfl 0 rfl ?_
  refine n_iconst (v := (-1)) F d_M_init_226 (by decide) ?_
  refine n_iast (b := b) (k0 := 63) (k := 87) (c := 23) F hsz rfl (i := 68) (n := 4) (by decide) (by decide) rfl (vin_of (by decide)) d_M_init_227 ?_
  refine n_iinc (j := 0) (v := 3) (ls' := [(1, .int 3), (0, .ref (b + 63))]) F d_M_init_228 rfl (by decide) (by decide) rfl ?_
  refine n_goto F 216 d_M_init_231 rfl ?_
  refine n_iload_n F d_M_init_216 rfl 0 rfl ?_
  refine n_iconst (v := 4) F d_M_init_217 (by decide) ?_
  refine n_icmp_ge F 234 d_M_init_218 rfl (fun h => absurd h (by decide)) (fun _ => ?_)
  refine n_aload_n F d_M_init_221 rfl 1 rfl ?_
  refine n_get (k := 87) (ci := 12) (fs := [.int 0, .ref (b + 64), .int 0, .long 0, .long 1, .ref (b + 65), .ref (b + 66), .ref (b + 67), .ref (b + 68), .ref (b + 69), .int 0, .ref (b + 70), .ref (b + 71), .ref (b + 72), .ref (b + 73), .int 0, .int 0, .int 0, .ref (b + 74), .ref (b + 75), .ref (b + 76), .ref (b + 77), .int 0, .ref (b + 78), .ref (b + 79), .ref (b + 80), .ref (b + 81), .ref (b + 82), .ref (b + 83), .int 0, .int 0, .int 0, .int 0, .int 0, .ref (b + 84), .ref (b + 85), .ref (b + 86), .long 0, .long 0, .long 0]) (i := 63) (v := .ref (b + 68)) F (by decide) (by decide) rfl fk_M_26 rfl d_M_init_222 ?_
  refine n_iload_n F d_M_init_225 rfl 0 rfl ?_
  refine n_iconst (v := (-1)) F d_M_init_226 (by decide) ?_
  refine n_iast (b := b) (k0 := 63) (k := 87) (c := 23) F hsz rfl (i := 68) (n := 4) (by decide) (by decide) rfl (vin_of (by decide)) d_M_init_227 ?_
  refine n_iinc (j := 0) (v := 4) (ls' := [(1, .int 4), (0, .ref (b + 63))]) F d_M_init_228 rfl (by decide) (by decide) rfl ?_
  refine n_goto F 216 d_M_init_231 rfl ?_
  refine n_iload_n F d_M_init_216 rfl 0 rfl ?_
  refine n_iconst (v := 4) F d_M_init_217 (by decide) ?_
  refine n_icmp_ge F 234 d_M_init_218 rfl (fun _ => ?_) (fun h => absurd (by decide) h)
  refine n_cv (k := 87) (z := 68) (e := .inl (cc 0, 4, .inl (fun _ => -1))) (by decide) (by decide) (fun H h => at_i (fun j hj => by rcases (show j = 0 ∨ j = 1 ∨ j = 2 ∨ j = 3 by omega) with rfl | rfl | rfl | rfl <;> rfl) h) ?_
  refine n_ret F rfl rfl rfl (fun i h1 h2 => ?_) d_M_init_234
  rcases (show i = 63 ∨ i = 64 ∨ i = 65 ∨ i = 66 ∨ i = 67 ∨ i = 68 ∨ i = 69 ∨ i = 70 ∨ i = 71 ∨ i = 72 ∨ i = 73 ∨ i = 74 ∨ i = 75 ∨ i = 76 ∨ i = 77 ∨ i = 78 ∨ i = 79 ∨ i = 80 ∨ i = 81 ∨ i = 82 ∨ i = 83 ∨ i = 84 ∨ i = 85 ∨ i = 86 by omega) with rfl | rfl | rfl | rfl | rfl | rfl | rfl | rfl | rfl | rfl | rfl | rfl | rfl | rfl | rfl | rfl | rfl | rfl | rfl | rfl | rfl | rfl | rfl | rfl <;> rfl
