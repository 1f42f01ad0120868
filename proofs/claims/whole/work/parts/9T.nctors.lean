-- the complete cells of the start; constructors of the parts
def ZL (b : Nat) (cc : Nat → ClassId) : List va_E := [
  .inr (0, [.ref (b + 1), .ref (b + 8), .ref (b + 9), .ref (b + 14), .ref (b + 15), .ref (b + 19), .ref (b + 34), .ref (b + 40), .ref (b + 49), .ref (b + 52), .ref (b + 62), .int 0, .int 0, .long 0, .long 0]),
  .inl (cc 5, 6, .inr (.inr (.inr (.inr (fun j => some (b + (2 + j))))))),
  .inl (cc 0, 40, .inl (fun _ => 0)),
  .inl (cc 0, 40, .inl (fun _ => 0)),
  .inl (cc 0, 40, .inl (fun _ => 0)),
  .inl (cc 0, 40, .inl (fun _ => 0)),
  .inl (cc 0, 40, .inl (fun _ => 0)),
  .inl (cc 0, 40, .inl (fun _ => 0)),
  .inl (cc 0, 6, .inl (fun _ => 0)),
  .inl (cc 6, 4, .inr (.inr (.inr (.inr (fun j => some (b + (10 + j))))))),
  .inl (cc 1, 60, .inl (fun _ => 0)),
  .inl (cc 1, 60, .inl (fun _ => 0)),
  .inl (cc 1, 60, .inl (fun _ => 0)),
  .inl (cc 1, 60, .inl (fun _ => 0)),
  .inl (cc 0, 4, .inl (fun _ => 0)),
  .inr (5, [.ref (b + 16), .ref (b + 17), .ref (b + 18), .int 0, .int 0]),
  .inl (cc 0, 6, .inl (fun _ => 0)),
  .inl (cc 0, 4, .inl (fun _ => 0)),
  .inl (cc 0, 18, .inl (fun _ => 0)),
  .inr (1, [.ref (b + 20), .ref (b + 27), .ref (b + 28), .ref (b + 29), .ref (b + 30), .ref (b + 31), .ref (b + 32), .ref (b + 33), .int 0, .int 0, .int 0, .int 0, .int 0, .int 0, .int 0, .int 0, .int 0, .int 0, .int 0]),
  .inl (cc 3, 6, .inr (.inr (.inr (.inr (fun j => some (b + (21 + j))))))),
  .inr (6, []),
  .inr (7, []),
  .inr (8, []),
  .inr (9, []),
  .inr (10, []),
  .inr (11, []),
  .inl (cc 0, 6, .inl (fun _ => 0)),
  .inl (cc 0, 6, .inl (fun _ => 0)),
  .inl (cc 0, 6, .inl (fun _ => 0)),
  .inl (cc 0, 6, .inl (fun _ => 0)),
  .inl (cc 0, 6, .inl (fun _ => 0)),
  .inl (cc 0, 6, .inl (fun _ => 0)),
  .inl (cc 0, 6, .inl (fun _ => 0)),
  .inr (2, [.ref (b + 35), .ref (b + 36), .ref (b + 37), .ref (b + 38), .ref (b + 39), .int 0, .int 0, .int 0, .int 0, .int 0, .int 0, .int 0]),
  .inl (cc 2, 64, .inl (fun _ => 0)),
  .inl (cc 0, 64, .inl (fun _ => 0)),
  .inl (cc 0, 6, .inl (fun _ => 0)),
  .inl (cc 0, 4, .inl (fun _ => 0)),
  .inl (cc 0, 4, .inl (fun _ => 0)),
  .inr (3, [.ref (b + 41), .ref (b + 48), .int 0, .int 0, .int 0, .int 0]),
  .inl (cc 5, 6, .inr (.inr (.inr (.inr (fun j => some (b + (42 + j))))))),
  .inl (cc 0, 3, .inl (fun _ => 0)),
  .inl (cc 0, 3, .inl (fun _ => 0)),
  .inl (cc 0, 3, .inl (fun _ => 0)),
  .inl (cc 0, 3, .inl (fun _ => 0)),
  .inl (cc 0, 3, .inl (fun _ => 0)),
  .inl (cc 0, 3, .inl (fun _ => 0)),
  .inl (cc 0, 6, .inl (fun _ => 0)),
  .inr (4, [.ref (b + 50), .ref (b + 51), .int 0]),
  .inl (cc 0, 40, .inl (fun _ => 0)),
  .inl (cc 0, 40, .inl (fun _ => 0)),
  .inl (cc 4, 3, .inr (.inr (.inr (.inr (fun j => some (b + (53 + 3 * j))))))),
  .inr (4, [.ref (b + 54), .ref (b + 55), .int 0]),
  .inl (cc 0, 40, .inl (fun _ => 0)),
  .inl (cc 0, 40, .inl (fun _ => 0)),
  .inr (4, [.ref (b + 57), .ref (b + 58), .int 0]),
  .inl (cc 0, 40, .inl (fun _ => 0)),
  .inl (cc 0, 40, .inl (fun _ => 0)),
  .inr (4, [.ref (b + 60), .ref (b + 61), .int 0]),
  .inl (cc 0, 40, .inl (fun _ => 0)),
  .inl (cc 0, 40, .inl (fun _ => 0)),
  .inl (cc 0, 6, .inl (fun _ => 0)),
  .inr (12, [.int 0, .ref (b + 64), .int 0, .long 0, .long 0, .ref (b + 65), .ref (b + 66), .ref (b + 67), .ref (b + 68), .ref (b + 69), .int 0, .ref (b + 70), .ref (b + 71), .ref (b + 72), .ref (b + 73), .int 0, .int 0, .int 0, .ref (b + 74), .ref (b + 75), .ref (b + 76), .ref (b + 77), .int 0, .ref (b + 78), .ref (b + 79), .ref (b + 80), .ref (b + 81), .ref (b + 82), .ref (b + 83), .int 0, .int 0, .int 0, .int 0, .int 0, .ref (b + 84), .ref (b + 85), .ref (b + 86), .long 0, .long 0, .long 0]),
  .inl (cc 0, 6, .inl (fun _ => 0)),
  .inl (cc 0, 6, .inl (fun _ => 0)),
  .inl (cc 0, 240, .inl (fun _ => 0)),
  .inl (cc 0, 40, .inl (fun _ => 0)),
  .inl (cc 0, 4, .inl (fun _ => 0)),
  .inl (cc 1, 240, .inl (fun _ => 0)),
  .inl (cc 0, 4, .inl (fun _ => 0)),
  .inl (cc 0, 6, .inl (fun _ => 0)),
  .inl (cc 0, 6, .inl (fun _ => 0)),
  .inl (cc 0, 6, .inl (fun _ => 0)),
  .inl (cc 0, 4, .inl (fun _ => 0)),
  .inl (cc 0, 24, .inl (fun _ => 0)),
  .inl (cc 0, 11, .inl (fun _ => 0)),
  .inl (cc 0, 11, .inl (fun _ => 0)),
  .inl (cc 0, 440, .inl (fun _ => 0)),
  .inl (cc 2, 3, .inl (fun _ => 0)),
  .inl (cc 0, 3, .inl (fun _ => 0)),
  .inl (cc 0, 33, .inl (fun _ => 0)),
  .inl (cc 0, 1320, .inl (fun _ => 0)),
  .inl (cc 0, 4, .inl (fun _ => 0)),
  .inl (cc 0, 6, .inl (fun _ => 0)),
  .inl (cc 0, 729, .inl (fun _ => 0)),
  .inl (cc 0, 729, .inl (fun _ => 0))]
def Z (b : Nat) (cc : Nat → ClassId) (k : Nat) : va_E := (ZL b cc).getD k (.inr (0, []))
section
variable {X : FX} {D : va_G} {b k0 : Nat} {rm : Room} {nL : Nat} {Q : State → Prop} {pc : Nat} {ls ls' : List (Nat × Value)} {st : List Value} {E : Nat → va_E} {k c sl k' c' sl' z : Nat} {e : va_E}
theorem n_num (h1 : k = k') (h2 : c = c') (h3 : sl = sl') (kk : NV X D b k0 rm nL Q pc ls st E k' c' sl') : NV X D b k0 rm nL Q pc ls st E k c sl := by
  subst h1 h2 h3
  exact kk
theorem vin_of {i : Int32} {n : Nat} (h : ¬ (i < 0 ∨ n ≤ i.toNatClampNeg)) : vp_in i n := h
theorem n_ls (h : ls = ls') (kk : NV X D b k0 rm nL Q pc ls' st E k c sl) : NV X D b k0 rm nL Q pc ls st E k c sl := h ▸ kk
theorem n_top {v v' : Value} (h : v = v') (kk : NV X D b k0 rm nL Q pc ls (v' :: st) E k c sl) : NV X D b k0 rm nL Q pc ls (v :: st) E k c sl := h ▸ kk
theorem n_new1 (hz : k ≤ z) (kk : NV X D b k0 rm nL Q pc ls st (updE E z e) k c sl) : NV X D b k0 rm nL Q pc ls st E k c sl := n_to (fun i _ h => (updE_n (by omega)).symm) kk
theorem n_cv (h1 : k0 ≤ z) (h2 : z < k) (h : ∀ H, va_at D cls (b + z, E z) H → va_at D cls (b + z, e) H) (kk : NV X D b k0 rm nL Q pc ls st (updE E z e) k c sl) : NV X D b k0 rm nL Q pc ls st E k c sl := fun H locs la hz hP hS hl => kk H locs la hz (va_P.of fun i h3 h4 => by
  by_cases q : i = z
  · subst q
    rw [updE_s]
    exact h H (hP.at h3 h4)
  · rw [updE_n q]
    exact hP.at h3 h4) hS hl
theorem at_q {q n : Nat} {cA : ClassId} {f g : Nat → Option Nat} {H : Heap} (h : ∀ j, j < n → f j = g j) (ha : va_at D cls (q, .inl (cA, n, .inr (.inr (.inr (.inr f))))) H) : va_at D cls (q, .inl (cA, n, .inr (.inr (.inr (.inr g))))) H := by
  have ha' : H[q]? = some (vp_cell cA (n, .inr (.inr (.inr (.inr f))))) := ha
  show H[q]? = some (vp_cell cA (n, .inr (.inr (.inr (.inr g)))))
  rw [ha', vp_cell_q, vp_cell_q]
  exact congrArg some (arrV_c fun j hj => by rw [h j hj])
theorem at_i {q n : Nat} {cA : ClassId} {f g : Nat → Int32} {H : Heap} (h : ∀ j, j < n → f j = g j) (ha : va_at D cls (q, .inl (cA, n, .inl f)) H) : va_at D cls (q, .inl (cA, n, .inl g)) H := by
  have ha' : H[q]? = some (vp_cell cA (n, .inl f)) := ha
  show H[q]? = some (vp_cell cA (n, .inl g))
  rw [ha', vp_cell_i, vp_cell_i]
  exact congrArg some (arrV_c fun j hj => by rw [h j hj])
end
theorem pf_B_0 : parseFieldDescriptor (F_B 0).2.2.1 = some (.array (.object "TakerBook$Thief")) := by decide +kernel
theorem pf_B_1 : parseFieldDescriptor (F_B 1).2.2.1 = some (.array .int) := by decide +kernel
theorem pf_B_2 : parseFieldDescriptor (F_B 2).2.2.1 = some (.array .int) := by decide +kernel
theorem pf_B_3 : parseFieldDescriptor (F_B 3).2.2.1 = some (.array .int) := by decide +kernel
theorem pf_B_4 : parseFieldDescriptor (F_B 4).2.2.1 = some (.array .int) := by decide +kernel
theorem pf_B_5 : parseFieldDescriptor (F_B 5).2.2.1 = some (.array .int) := by decide +kernel
theorem pf_B_6 : parseFieldDescriptor (F_B 6).2.2.1 = some (.array .int) := by decide +kernel
theorem pf_B_7 : parseFieldDescriptor (F_B 7).2.2.1 = some (.array .int) := by decide +kernel
theorem pf_D_0 : parseFieldDescriptor (F_D 0).2.2.1 = some (.array .int) := by decide +kernel
theorem pf_D_1 : parseFieldDescriptor (F_D 1).2.2.1 = some (.array .int) := by decide +kernel
theorem pf_K_0 : parseFieldDescriptor (F_K 0).2.2.1 = some (.array (.array .int)) := by decide +kernel
theorem pf_K_1 : parseFieldDescriptor (F_K 1).2.2.1 = some (.array .int) := by decide +kernel
theorem pf_P_0 : parseFieldDescriptor (F_P 0).2.2.1 = some (.array .boolean) := by decide +kernel
theorem pf_P_1 : parseFieldDescriptor (F_P 1).2.2.1 = some (.array .int) := by decide +kernel
theorem pf_P_2 : parseFieldDescriptor (F_P 2).2.2.1 = some (.array .int) := by decide +kernel
theorem pf_P_3 : parseFieldDescriptor (F_P 3).2.2.1 = some (.array .int) := by decide +kernel
theorem pf_P_4 : parseFieldDescriptor (F_P 4).2.2.1 = some (.array .int) := by decide +kernel
theorem pf_R_0 : parseFieldDescriptor (F_R 0).2.2.1 = some (.array .int) := by decide +kernel
theorem pf_R_1 : parseFieldDescriptor (F_R 1).2.2.1 = some (.array .int) := by decide +kernel
theorem pf_R_2 : parseFieldDescriptor (F_R 2).2.2.1 = some (.array .int) := by decide +kernel
theorem ff_Th : ∀ j, j < 0 → defaultValue (tyD (R_Th, F_Th, 0) j) = vp_V [] j := fun j hj => absurd hj (Nat.not_lt_zero _)
theorem ff_Re : ∀ j, j < 0 → defaultValue (tyD (R_Re, F_Re, 0) j) = vp_V [] j := fun j hj => absurd hj (Nat.not_lt_zero _)
theorem ff_Cl : ∀ j, j < 0 → defaultValue (tyD (R_Cl, F_Cl, 0) j) = vp_V [] j := fun j hj => absurd hj (Nat.not_lt_zero _)
theorem ff_Ga : ∀ j, j < 0 → defaultValue (tyD (R_Ga, F_Ga, 0) j) = vp_V [] j := fun j hj => absurd hj (Nat.not_lt_zero _)
theorem ff_La : ∀ j, j < 0 → defaultValue (tyD (R_La, F_La, 0) j) = vp_V [] j := fun j hj => absurd hj (Nat.not_lt_zero _)
theorem ff_Yo : ∀ j, j < 0 → defaultValue (tyD (R_Yo, F_Yo, 0) j) = vp_V [] j := fun j hj => absurd hj (Nat.not_lt_zero _)
theorem ff_D : ∀ j, j < 3 → defaultValue (tyD (R_D, F_D, 3) j) = vp_V [.null, .null, .int 0] j := by
  have h : ∀ j, j < 3 → tyD (R_D, F_D, 3) j = [(.array .int), (.array .int), .int].getD j .int := by decide +kernel
  intro j hj
  rw [h j hj]
  rcases (show j = 0 ∨ j = 1 ∨ j = 2 by omega) with rfl | rfl | rfl <;> rfl
theorem ff_R : ∀ j, j < 5 → defaultValue (tyD (R_R, F_R, 5) j) = vp_V [.null, .null, .null, .int 0, .int 0] j := by
  have h : ∀ j, j < 5 → tyD (R_R, F_R, 5) j = [(.array .int), (.array .int), (.array .int), .int, .int].getD j .int := by decide +kernel
  intro j hj
  rw [h j hj]
  rcases (show j = 0 ∨ j = 1 ∨ j = 2 ∨ j = 3 ∨ j = 4 by omega) with rfl | rfl | rfl | rfl | rfl <;> rfl
theorem ff_P : ∀ j, j < 12 → defaultValue (tyD (R_P, F_P, 12) j) = vp_V [.null, .null, .null, .null, .null, .int 0, .int 0, .int 0, .int 0, .int 0, .int 0, .int 0] j := by
  have h : ∀ j, j < 12 → tyD (R_P, F_P, 12) j = [(.array .boolean), (.array .int), (.array .int), (.array .int), (.array .int), .int, .int, .int, .int, .int, .int, .int].getD j .int := by decide +kernel
  intro j hj
  rw [h j hj]
  rcases (show j = 0 ∨ j = 1 ∨ j = 2 ∨ j = 3 ∨ j = 4 ∨ j = 5 ∨ j = 6 ∨ j = 7 ∨ j = 8 ∨ j = 9 ∨ j = 10 ∨ j = 11 by omega) with rfl | rfl | rfl | rfl | rfl | rfl | rfl | rfl | rfl | rfl | rfl | rfl <;> rfl
theorem ff_K : ∀ j, j < 6 → defaultValue (tyD (R_K, F_K, 6) j) = vp_V [.null, .null, .int 0, .int 0, .int 0, .int 0] j := by
  have h : ∀ j, j < 6 → tyD (R_K, F_K, 6) j = [(.array (.array .int)), (.array .int), .int, .int, .int, .int].getD j .int := by decide +kernel
  intro j hj
  rw [h j hj]
  rcases (show j = 0 ∨ j = 1 ∨ j = 2 ∨ j = 3 ∨ j = 4 ∨ j = 5 by omega) with rfl | rfl | rfl | rfl | rfl | rfl <;> rfl
theorem ff_B : ∀ j, j < 19 → defaultValue (tyD (R_B, F_B, 19) j) = vp_V [.null, .null, .null, .null, .null, .null, .null, .null, .int 0, .int 0, .int 0, .int 0, .int 0, .int 0, .int 0, .int 0, .int 0, .int 0, .int 0] j := by
  have h : ∀ j, j < 19 → tyD (R_B, F_B, 19) j = [(.array (.object "TakerBook$Thief")), (.array .int), (.array .int), (.array .int), (.array .int), (.array .int), (.array .int), (.array .int), .int, .int, .int, .int, .int, .int, .int, .int, .int, .int, .boolean].getD j .int := by decide +kernel
  intro j hj
  rw [h j hj]
  rcases (show j = 0 ∨ j = 1 ∨ j = 2 ∨ j = 3 ∨ j = 4 ∨ j = 5 ∨ j = 6 ∨ j = 7 ∨ j = 8 ∨ j = 9 ∨ j = 10 ∨ j = 11 ∨ j = 12 ∨ j = 13 ∨ j = 14 ∨ j = 15 ∨ j = 16 ∨ j = 17 ∨ j = 18 by omega) with rfl | rfl | rfl | rfl | rfl | rfl | rfl | rfl | rfl | rfl | rfl | rfl | rfl | rfl | rfl | rfl | rfl | rfl | rfl <;> rfl
abbrev b_Th_init : ByteArray := prog_11_method_1_code
abbrev y_Th_init : MethodName := ⟨"TakerBook$Thief", "<init>", "()V"⟩
theorem d_Th_init_0 : decode b_Th_init 0 = .ok (.aload_n 0, 1) := by decide +kernel
theorem d_Th_init_1 : decode b_Th_init 1 = .ok (.invokespecial 3, 3) := by decide +kernel
theorem d_Th_init_4 : decode b_Th_init 4 = .ok (.return_, 1) := by decide +kernel
theorem mo_Th_init : mok y_Th_init b_Th_init 1 none 0 := ⟨List.mem_of_getElem? (i := 141) (by decide +kernel), ⟨by decide +kernel, by decide +kernel, by decide +kernel⟩, List.mem_of_getElem? (i := 77) (by decide +kernel), by decide⟩
theorem c_Th_init (l : Launch) (D : va_G) (cc : Nat → ClassId) (b ci k0 : Nat) (G : Nat → va_E) (hG : G k0 = .inr (ci, [])) : CT l D cc b y_Th_init b_Th_init 1 (rmN 1 0 0) ci [] G k0 (k0 + 1) 0 0 := by
  refine CT_of rfl (by decide) rfl (by decide) (fun X hX F hsz => ?_)
  subst hX
  have hE : ∀ i, k0 ≤ i → i < k0 + 1 → updE G k0 (.inr (ci, [])) i = G i := fun i h1 h2 => by
    obtain rfl : i = k0 := by omega
    rw [updE_s, hG]
  refine n_ls (ls' := [(0, .ref (b + k0))]) rfl ?_
  refine n_aload_n F d_Th_init_0 rfl 0 rfl ?_
  refine n_obj F (List.mem_of_getElem? (i := 142) (by decide +kernel)) (by decide) (Nat.le_of_ble_eq_true rfl) d_Th_init_1 ?_
  exact n_ret F rfl rfl rfl hE d_Th_init_4
abbrev b_Re_init : ByteArray := prog_10_method_1_code
abbrev y_Re_init : MethodName := ⟨"TakerBook$Returned", "<init>", "()V"⟩
theorem d_Re_init_0 : decode b_Re_init 0 = .ok (.aload_n 0, 1) := by decide +kernel
theorem d_Re_init_1 : decode b_Re_init 1 = .ok (.invokespecial 3, 3) := by decide +kernel
theorem d_Re_init_4 : decode b_Re_init 4 = .ok (.return_, 1) := by decide +kernel
theorem mo_Re_init : mok y_Re_init b_Re_init 1 none 0 := ⟨List.mem_of_getElem? (i := 148) (by decide +kernel), ⟨by decide +kernel, by decide +kernel, by decide +kernel⟩, List.mem_of_getElem? (i := 78) (by decide +kernel), by decide⟩
theorem c_Re_init (l : Launch) (D : va_G) (cc : Nat → ClassId) (b ci k0 : Nat) (G : Nat → va_E) (hG : G k0 = .inr (ci, [])) : CT l D cc b y_Re_init b_Re_init 1 (rmN 2 0 0) ci [] G k0 (k0 + 1) 0 0 := by
  refine CT_of rfl (by decide) rfl (by decide) (fun X hX F hsz => ?_)
  subst hX
  have hE : ∀ i, k0 ≤ i → i < k0 + 1 → updE G k0 (.inr (ci, [])) i = G i := fun i h1 h2 => by
    obtain rfl : i = k0 := by omega
    rw [updE_s, hG]
  refine n_ls (ls' := [(0, .ref (b + k0))]) rfl ?_
  refine n_aload_n F d_Re_init_0 rfl 0 rfl ?_
  refine n_sup (idx := 3) (host := "TakerBook") F hsz rfl (updE_s _ _ _) hE (c_Th_init X.2.1 D cc b ci k0 G hG) mo_Th_init (by decide +kernel) (List.mem_of_getElem? (i := 140) (by decide +kernel)) rfl ⟨by decide, by decide⟩ rfl rfl rfl rfl (Nat.le_of_ble_eq_true rfl) d_Re_init_1 ?_
  exact n_ret F rfl rfl rfl hE d_Re_init_4
abbrev b_Cl_init : ByteArray := prog_3_method_1_code
abbrev y_Cl_init : MethodName := ⟨"TakerBook$Clerk", "<init>", "()V"⟩
theorem d_Cl_init_0 : decode b_Cl_init 0 = .ok (.aload_n 0, 1) := by decide +kernel
theorem d_Cl_init_1 : decode b_Cl_init 1 = .ok (.invokespecial 3, 3) := by decide +kernel
theorem d_Cl_init_4 : decode b_Cl_init 4 = .ok (.return_, 1) := by decide +kernel
theorem mo_Cl_init : mok y_Cl_init b_Cl_init 1 none 0 := ⟨List.mem_of_getElem? (i := 155) (by decide +kernel), ⟨by decide +kernel, by decide +kernel, by decide +kernel⟩, List.mem_of_getElem? (i := 79) (by decide +kernel), by decide⟩
theorem c_Cl_init (l : Launch) (D : va_G) (cc : Nat → ClassId) (b ci k0 : Nat) (G : Nat → va_E) (hG : G k0 = .inr (ci, [])) : CT l D cc b y_Cl_init b_Cl_init 1 (rmN 2 0 0) ci [] G k0 (k0 + 1) 0 0 := by
  refine CT_of rfl (by decide) rfl (by decide) (fun X hX F hsz => ?_)
  subst hX
  have hE : ∀ i, k0 ≤ i → i < k0 + 1 → updE G k0 (.inr (ci, [])) i = G i := fun i h1 h2 => by
    obtain rfl : i = k0 := by omega
    rw [updE_s, hG]
  refine n_ls (ls' := [(0, .ref (b + k0))]) rfl ?_
  refine n_aload_n F d_Cl_init_0 rfl 0 rfl ?_
  refine n_sup (idx := 3) (host := "TakerBook") F hsz rfl (updE_s _ _ _) hE (c_Th_init X.2.1 D cc b ci k0 G hG) mo_Th_init (by decide +kernel) (List.mem_of_getElem? (i := 140) (by decide +kernel)) rfl ⟨by decide, by decide⟩ rfl rfl rfl rfl (Nat.le_of_ble_eq_true rfl) d_Cl_init_1 ?_
  exact n_ret F rfl rfl rfl hE d_Cl_init_4
abbrev b_Ga_init : ByteArray := prog_5_method_1_code
abbrev y_Ga_init : MethodName := ⟨"TakerBook$Gang", "<init>", "()V"⟩
theorem d_Ga_init_0 : decode b_Ga_init 0 = .ok (.aload_n 0, 1) := by decide +kernel
theorem d_Ga_init_1 : decode b_Ga_init 1 = .ok (.invokespecial 3, 3) := by decide +kernel
theorem d_Ga_init_4 : decode b_Ga_init 4 = .ok (.return_, 1) := by decide +kernel
theorem mo_Ga_init : mok y_Ga_init b_Ga_init 1 none 0 := ⟨List.mem_of_getElem? (i := 162) (by decide +kernel), ⟨by decide +kernel, by decide +kernel, by decide +kernel⟩, List.mem_of_getElem? (i := 80) (by decide +kernel), by decide⟩
theorem c_Ga_init (l : Launch) (D : va_G) (cc : Nat → ClassId) (b ci k0 : Nat) (G : Nat → va_E) (hG : G k0 = .inr (ci, [])) : CT l D cc b y_Ga_init b_Ga_init 1 (rmN 2 0 0) ci [] G k0 (k0 + 1) 0 0 := by
  refine CT_of rfl (by decide) rfl (by decide) (fun X hX F hsz => ?_)
  subst hX
  have hE : ∀ i, k0 ≤ i → i < k0 + 1 → updE G k0 (.inr (ci, [])) i = G i := fun i h1 h2 => by
    obtain rfl : i = k0 := by omega
    rw [updE_s, hG]
  refine n_ls (ls' := [(0, .ref (b + k0))]) rfl ?_
  refine n_aload_n F d_Ga_init_0 rfl 0 rfl ?_
  refine n_sup (idx := 3) (host := "TakerBook") F hsz rfl (updE_s _ _ _) hE (c_Th_init X.2.1 D cc b ci k0 G hG) mo_Th_init (by decide +kernel) (List.mem_of_getElem? (i := 140) (by decide +kernel)) rfl ⟨by decide, by decide⟩ rfl rfl rfl rfl (Nat.le_of_ble_eq_true rfl) d_Ga_init_1 ?_
  exact n_ret F rfl rfl rfl hE d_Ga_init_4
abbrev b_La_init : ByteArray := prog_6_method_1_code
abbrev y_La_init : MethodName := ⟨"TakerBook$Lace", "<init>", "()V"⟩
theorem d_La_init_0 : decode b_La_init 0 = .ok (.aload_n 0, 1) := by decide +kernel
theorem d_La_init_1 : decode b_La_init 1 = .ok (.invokespecial 3, 3) := by decide +kernel
theorem d_La_init_4 : decode b_La_init 4 = .ok (.return_, 1) := by decide +kernel
theorem mo_La_init : mok y_La_init b_La_init 1 none 0 := ⟨List.mem_of_getElem? (i := 169) (by decide +kernel), ⟨by decide +kernel, by decide +kernel, by decide +kernel⟩, List.mem_of_getElem? (i := 81) (by decide +kernel), by decide⟩
theorem c_La_init (l : Launch) (D : va_G) (cc : Nat → ClassId) (b ci k0 : Nat) (G : Nat → va_E) (hG : G k0 = .inr (ci, [])) : CT l D cc b y_La_init b_La_init 1 (rmN 3 0 0) ci [] G k0 (k0 + 1) 0 0 := by
  refine CT_of rfl (by decide) rfl (by decide) (fun X hX F hsz => ?_)
  subst hX
  have hE : ∀ i, k0 ≤ i → i < k0 + 1 → updE G k0 (.inr (ci, [])) i = G i := fun i h1 h2 => by
    obtain rfl : i = k0 := by omega
    rw [updE_s, hG]
  refine n_ls (ls' := [(0, .ref (b + k0))]) rfl ?_
  refine n_aload_n F d_La_init_0 rfl 0 rfl ?_
  refine n_sup (idx := 3) (host := "TakerBook") F hsz rfl (updE_s _ _ _) hE (c_Re_init X.2.1 D cc b ci k0 G hG) mo_Re_init (by decide +kernel) (List.mem_of_getElem? (i := 147) (by decide +kernel)) rfl ⟨by decide, by decide⟩ rfl rfl rfl rfl (Nat.le_of_ble_eq_true rfl) d_La_init_1 ?_
  exact n_ret F rfl rfl rfl hE d_La_init_4
abbrev b_Yo_init : ByteArray := prog_12_method_1_code
abbrev y_Yo_init : MethodName := ⟨"TakerBook$Young", "<init>", "()V"⟩
theorem d_Yo_init_0 : decode b_Yo_init 0 = .ok (.aload_n 0, 1) := by decide +kernel
theorem d_Yo_init_1 : decode b_Yo_init 1 = .ok (.invokespecial 3, 3) := by decide +kernel
theorem d_Yo_init_4 : decode b_Yo_init 4 = .ok (.return_, 1) := by decide +kernel
theorem mo_Yo_init : mok y_Yo_init b_Yo_init 1 none 0 := ⟨List.mem_of_getElem? (i := 176) (by decide +kernel), ⟨by decide +kernel, by decide +kernel, by decide +kernel⟩, List.mem_of_getElem? (i := 82) (by decide +kernel), by decide⟩
theorem c_Yo_init (l : Launch) (D : va_G) (cc : Nat → ClassId) (b ci k0 : Nat) (G : Nat → va_E) (hG : G k0 = .inr (ci, [])) : CT l D cc b y_Yo_init b_Yo_init 1 (rmN 3 0 0) ci [] G k0 (k0 + 1) 0 0 := by
  refine CT_of rfl (by decide) rfl (by decide) (fun X hX F hsz => ?_)
  subst hX
  have hE : ∀ i, k0 ≤ i → i < k0 + 1 → updE G k0 (.inr (ci, [])) i = G i := fun i h1 h2 => by
    obtain rfl : i = k0 := by omega
    rw [updE_s, hG]
  refine n_ls (ls' := [(0, .ref (b + k0))]) rfl ?_
  refine n_aload_n F d_Yo_init_0 rfl 0 rfl ?_
  refine n_sup (idx := 3) (host := "TakerBook") F hsz rfl (updE_s _ _ _) hE (c_Ga_init X.2.1 D cc b ci k0 G hG) mo_Ga_init (by decide +kernel) (List.mem_of_getElem? (i := 161) (by decide +kernel)) rfl ⟨by decide, by decide⟩ rfl rfl rfl rfl (Nat.le_of_ble_eq_true rfl) d_Yo_init_1 ?_
  exact n_ret F rfl rfl rfl hE d_Yo_init_4
abbrev b_D_init : ByteArray := prog_4_method_1_code
abbrev y_D_init : MethodName := ⟨"TakerBook$Deeds", "<init>", "()V"⟩
theorem d_D_init_0 : decode b_D_init 0 = .ok (.aload_n 0, 1) := by decide +kernel
theorem d_D_init_1 : decode b_D_init 1 = .ok (.invokespecial 3, 3) := by decide +kernel
theorem d_D_init_4 : decode b_D_init 4 = .ok (.aload_n 0, 1) := by decide +kernel
theorem d_D_init_5 : decode b_D_init 5 = .ok (.bipush 40, 2) := by decide +kernel
theorem d_D_init_7 : decode b_D_init 7 = .ok (.newarray .int, 2) := by decide +kernel
theorem d_D_init_9 : decode b_D_init 9 = .ok (.putfield 9, 3) := by decide +kernel
theorem d_D_init_12 : decode b_D_init 12 = .ok (.aload_n 0, 1) := by decide +kernel
theorem d_D_init_13 : decode b_D_init 13 = .ok (.bipush 40, 2) := by decide +kernel
theorem d_D_init_15 : decode b_D_init 15 = .ok (.newarray .int, 2) := by decide +kernel
theorem d_D_init_17 : decode b_D_init 17 = .ok (.putfield 15, 3) := by decide +kernel
theorem d_D_init_20 : decode b_D_init 20 = .ok (.return_, 1) := by decide +kernel
theorem mo_D_init : mok y_D_init b_D_init 1 none 0 := ⟨List.mem_of_getElem? (i := 339) (by decide +kernel), ⟨by decide +kernel, by decide +kernel, by decide +kernel⟩, List.mem_of_getElem? (i := 85) (by decide +kernel), by decide⟩
theorem c_D_init (l : Launch) (D : va_G) (cc : Nat → ClassId) (b k0 : Nat) (G : Nat → va_E) (g0 : G k0 = .inr (4, [.ref (b + (k0 + 1)), .ref (b + (k0 + 1 + 1)), .int 0])) (g1 : G (k0 + 1) = .inl (cc 0, 40, .inl (fun _ => 0))) (g2 : G (k0 + 1 + 1) = .inl (cc 0, 40, .inl (fun _ => 0))) : CT l D cc b y_D_init b_D_init 1 (rmN 1 2 80) 4 [.null, .null, .int 0] G k0 (k0 + 3) 2 80 := by
  refine CT_of rfl (by decide) rfl (by decide) (fun X hX F hsz => ?_)
  subst hX
  refine n_ls (ls' := [(0, .ref (b + k0))]) rfl ?_
  refine n_aload_n F d_D_init_0 rfl 0 rfl ?_
  refine n_obj F (List.mem_of_getElem? (i := 340) (by decide +kernel)) (by decide) (Nat.le_of_ble_eq_true rfl) d_D_init_1 ?_
  refine n_aload_n F d_D_init_4 rfl 0 rfl ?_
  refine n_bipush (v := 40) F d_D_init_5 (by decide) ?_
  refine n_newa (atype := .int) (ty := .int) (t0 := 0) (N := 40) (cA := cc 0) (a0 := (40, .inl (fun _ => 0))) F (by omega) rfl (fun C h => by cases h) (List.mem_of_getElem? (i := 128) (by decide +kernel)) rfl ((updE_n (by omega)).trans g1) rfl (by decide) (by decide) (Nat.le_of_ble_eq_true rfl) (Nat.le_of_ble_eq_true rfl) (Nat.le_of_ble_eq_true rfl) d_D_init_7 ?_
  refine n_putF (i := k0) F hsz (by omega) (Nat.le_refl _) (by omega) (updE_s _ _ _) fk_D_9 ⟨(R_D, F_D, 3), rfl, rfl, rfl, pf_D_0⟩ rfl rfl (Nat.le_of_ble_eq_true rfl) d_D_init_9 ?_
  refine n_aload_n F d_D_init_12 rfl 0 rfl ?_
  refine n_bipush (v := 40) F d_D_init_13 (by decide) ?_
  refine n_newa (atype := .int) (ty := .int) (t0 := 0) (N := 40) (cA := cc 0) (a0 := (40, .inl (fun _ => 0))) F (by omega) rfl (fun C h => by cases h) (List.mem_of_getElem? (i := 128) (by decide +kernel)) rfl (((updE_n (by omega)).trans (updE_n (by omega))).trans g2) rfl (by decide) (by decide) (Nat.le_of_ble_eq_true rfl) (Nat.le_of_ble_eq_true rfl) (Nat.le_of_ble_eq_true rfl) d_D_init_15 ?_
  refine n_putF (i := k0) F hsz (by omega) (Nat.le_refl _) (by omega) (updE_s _ _ _) fk_D_15 ⟨(R_D, F_D, 3), rfl, rfl, rfl, pf_D_1⟩ rfl rfl (Nat.le_of_ble_eq_true rfl) d_D_init_17 ?_
  refine n_ret F (by omega) rfl rfl (fun i h1 h2 => ?_) d_D_init_20
  rcases (show i = k0 ∨ i = k0 + 1 ∨ i = k0 + 1 + 1 by omega) with rfl | rfl | rfl
  · rw [updE_s, g0]
    rfl
  · rw [updE_n (by omega), updE_n (by omega), updE_n (by omega), g1]
  · rw [updE_n (by omega), updE_n (by omega), updE_n (by omega), g2]
abbrev b_R_init : ByteArray := prog_9_method_1_code
abbrev y_R_init : MethodName := ⟨"TakerBook$Reader", "<init>", "()V"⟩
theorem d_R_init_0 : decode b_R_init 0 = .ok (.aload_n 0, 1) := by decide +kernel
theorem d_R_init_1 : decode b_R_init 1 = .ok (.invokespecial 3, 3) := by decide +kernel
theorem d_R_init_4 : decode b_R_init 4 = .ok (.aload_n 0, 1) := by decide +kernel
theorem d_R_init_5 : decode b_R_init 5 = .ok (.bipush 6, 2) := by decide +kernel
theorem d_R_init_7 : decode b_R_init 7 = .ok (.newarray .int, 2) := by decide +kernel
theorem d_R_init_9 : decode b_R_init 9 = .ok (.putfield 9, 3) := by decide +kernel
theorem d_R_init_12 : decode b_R_init 12 = .ok (.aload_n 0, 1) := by decide +kernel
theorem d_R_init_13 : decode b_R_init 13 = .ok (.iconst 4, 1) := by decide +kernel
theorem d_R_init_14 : decode b_R_init 14 = .ok (.newarray .int, 2) := by decide +kernel
theorem d_R_init_16 : decode b_R_init 16 = .ok (.putfield 15, 3) := by decide +kernel
theorem d_R_init_19 : decode b_R_init 19 = .ok (.aload_n 0, 1) := by decide +kernel
theorem d_R_init_20 : decode b_R_init 20 = .ok (.bipush 18, 2) := by decide +kernel
theorem d_R_init_22 : decode b_R_init 22 = .ok (.newarray .int, 2) := by decide +kernel
theorem d_R_init_24 : decode b_R_init 24 = .ok (.putfield 18, 3) := by decide +kernel
theorem d_R_init_27 : decode b_R_init 27 = .ok (.return_, 1) := by decide +kernel
theorem mo_R_init : mok y_R_init b_R_init 1 none 0 := ⟨List.mem_of_getElem? (i := 106) (by decide +kernel), ⟨by decide +kernel, by decide +kernel, by decide +kernel⟩, List.mem_of_getElem? (i := 75) (by decide +kernel), by decide⟩
set_option maxHeartbeats 4000000 in
set_option maxRecDepth 100000 in
theorem c_R_init (l : Launch) (D : va_G) (cc : Nat → ClassId) (b : Nat) : CT l D cc b y_R_init b_R_init 1 (rmN 1 3 28) 5 [.null, .null, .null, .int 0, .int 0] (Z b cc) 15 19 3 28 := by
  refine CT_of rfl (by decide) rfl (by decide) (fun X hX F hsz => ?_)
  subst hX
  refine n_ls (ls' := [(0, .ref (b + 15))]) rfl ?_
  refine n_aload_n F d_R_init_0 rfl 0 rfl ?_
  refine n_obj F (List.mem_of_getElem? (i := 107) (by decide +kernel)) (by decide) (Nat.le_of_ble_eq_true rfl) d_R_init_1 ?_
  refine n_aload_n F d_R_init_4 rfl 0 rfl ?_
  refine n_bipush (v := 6) F d_R_init_5 (by decide) ?_
  refine n_newa (atype := .int) (ty := .int) (t0 := 0) (N := 6) (cA := cc 0) (a0 := (6, .inl (fun _ => 0))) F (by decide) rfl (fun C h => by cases h) (List.mem_of_getElem? (i := 128) (by decide +kernel)) rfl rfl rfl (by decide) (by decide) (Nat.le_of_ble_eq_true rfl) (Nat.le_of_ble_eq_true rfl) (Nat.le_of_ble_eq_true rfl) d_R_init_7 ?_
  refine n_num (k' := 17) (c' := 1) (sl' := 6) rfl rfl rfl ?_
  refine n_putF (b := b) (k0 := 15) (k := 17) (c := 1) (ci := 5) (fs := [.null, .null, .null, .int 0, .int 0]) (i := 15) F hsz rfl (by decide) (by decide) rfl fk_R_9 ⟨(R_R, F_R, 5), rfl, rfl, rfl, pf_R_0⟩ rfl rfl (Nat.le_of_ble_eq_true rfl) d_R_init_9 ?_
  refine n_aload_n F d_R_init_12 rfl 0 rfl ?_
  refine n_iconst (v := 4) F d_R_init_13 (by decide) ?_
  refine n_newa (atype := .int) (ty := .int) (t0 := 0) (N := 4) (cA := cc 0) (a0 := (4, .inl (fun _ => 0))) F (by decide) rfl (fun C h => by cases h) (List.mem_of_getElem? (i := 128) (by decide +kernel)) rfl rfl rfl (by decide) (by decide) (Nat.le_of_ble_eq_true rfl) (Nat.le_of_ble_eq_true rfl) (Nat.le_of_ble_eq_true rfl) d_R_init_14 ?_
  refine n_num (k' := 18) (c' := 2) (sl' := 10) rfl rfl rfl ?_
  refine n_putF (b := b) (k0 := 15) (k := 18) (c := 2) (ci := 5) (fs := [.ref (b + 16), .null, .null, .int 0, .int 0]) (i := 15) F hsz rfl (by decide) (by decide) rfl fk_R_15 ⟨(R_R, F_R, 5), rfl, rfl, rfl, pf_R_1⟩ rfl rfl (Nat.le_of_ble_eq_true rfl) d_R_init_16 ?_
  refine n_aload_n F d_R_init_19 rfl 0 rfl ?_
  refine n_bipush (v := 18) F d_R_init_20 (by decide) ?_
  refine n_newa (atype := .int) (ty := .int) (t0 := 0) (N := 18) (cA := cc 0) (a0 := (18, .inl (fun _ => 0))) F (by decide) rfl (fun C h => by cases h) (List.mem_of_getElem? (i := 128) (by decide +kernel)) rfl rfl rfl (by decide) (by decide) (Nat.le_of_ble_eq_true rfl) (Nat.le_of_ble_eq_true rfl) (Nat.le_of_ble_eq_true rfl) d_R_init_22 ?_
  refine n_num (k' := 19) (c' := 3) (sl' := 28) rfl rfl rfl ?_
  refine n_putF (b := b) (k0 := 15) (k := 19) (c := 3) (ci := 5) (fs := [.ref (b + 16), .ref (b + 17), .null, .int 0, .int 0]) (i := 15) F hsz rfl (by decide) (by decide) rfl fk_R_18 ⟨(R_R, F_R, 5), rfl, rfl, rfl, pf_R_2⟩ rfl rfl (Nat.le_of_ble_eq_true rfl) d_R_init_24 ?_
  refine n_ret F rfl rfl rfl (fun i h1 h2 => ?_) d_R_init_27
  rcases (show i = 15 ∨ i = 16 ∨ i = 17 ∨ i = 18 by omega) with rfl | rfl | rfl | rfl <;> rfl
abbrev b_P_init : ByteArray := prog_8_method_1_code
abbrev y_P_init : MethodName := ⟨"TakerBook$Plans", "<init>", "()V"⟩
theorem d_P_init_0 : decode b_P_init 0 = .ok (.aload_n 0, 1) := by decide +kernel
theorem d_P_init_1 : decode b_P_init 1 = .ok (.invokespecial 3, 3) := by decide +kernel
theorem d_P_init_4 : decode b_P_init 4 = .ok (.aload_n 0, 1) := by decide +kernel
theorem d_P_init_5 : decode b_P_init 5 = .ok (.bipush 64, 2) := by decide +kernel
theorem d_P_init_7 : decode b_P_init 7 = .ok (.newarray .boolean, 2) := by decide +kernel
theorem d_P_init_9 : decode b_P_init 9 = .ok (.putfield 9, 3) := by decide +kernel
theorem d_P_init_12 : decode b_P_init 12 = .ok (.aload_n 0, 1) := by decide +kernel
theorem d_P_init_13 : decode b_P_init 13 = .ok (.bipush 64, 2) := by decide +kernel
theorem d_P_init_15 : decode b_P_init 15 = .ok (.newarray .int, 2) := by decide +kernel
theorem d_P_init_17 : decode b_P_init 17 = .ok (.putfield 15, 3) := by decide +kernel
theorem d_P_init_20 : decode b_P_init 20 = .ok (.aload_n 0, 1) := by decide +kernel
theorem d_P_init_21 : decode b_P_init 21 = .ok (.bipush 6, 2) := by decide +kernel
theorem d_P_init_23 : decode b_P_init 23 = .ok (.newarray .int, 2) := by decide +kernel
theorem d_P_init_25 : decode b_P_init 25 = .ok (.putfield 19, 3) := by decide +kernel
theorem d_P_init_28 : decode b_P_init 28 = .ok (.aload_n 0, 1) := by decide +kernel
theorem d_P_init_29 : decode b_P_init 29 = .ok (.iconst 4, 1) := by decide +kernel
theorem d_P_init_30 : decode b_P_init 30 = .ok (.newarray .int, 2) := by decide +kernel
theorem d_P_init_32 : decode b_P_init 32 = .ok (.putfield 22, 3) := by decide +kernel
theorem d_P_init_35 : decode b_P_init 35 = .ok (.aload_n 0, 1) := by decide +kernel
theorem d_P_init_36 : decode b_P_init 36 = .ok (.iconst 4, 1) := by decide +kernel
theorem d_P_init_37 : decode b_P_init 37 = .ok (.newarray .int, 2) := by decide +kernel
theorem d_P_init_39 : decode b_P_init 39 = .ok (.putfield 25, 3) := by decide +kernel
theorem d_P_init_42 : decode b_P_init 42 = .ok (.return_, 1) := by decide +kernel
theorem mo_P_init : mok y_P_init b_P_init 1 none 0 := ⟨List.mem_of_getElem? (i := 262) (by decide +kernel), ⟨by decide +kernel, by decide +kernel, by decide +kernel⟩, List.mem_of_getElem? (i := 83) (by decide +kernel), by decide⟩
set_option maxHeartbeats 4000000 in
set_option maxRecDepth 100000 in
theorem c_P_init (l : Launch) (D : va_G) (cc : Nat → ClassId) (b : Nat) : CT l D cc b y_P_init b_P_init 1 (rmN 1 5 142) 2 [.null, .null, .null, .null, .null, .int 0, .int 0, .int 0, .int 0, .int 0, .int 0, .int 0] (Z b cc) 34 40 5 142 := by
  refine CT_of rfl (by decide) rfl (by decide) (fun X hX F hsz => ?_)
  subst hX
  refine n_ls (ls' := [(0, .ref (b + 34))]) rfl ?_
  refine n_aload_n F d_P_init_0 rfl 0 rfl ?_
  refine n_obj F (List.mem_of_getElem? (i := 263) (by decide +kernel)) (by decide) (Nat.le_of_ble_eq_true rfl) d_P_init_1 ?_
  refine n_aload_n F d_P_init_4 rfl 0 rfl ?_
  refine n_bipush (v := 64) F d_P_init_5 (by decide) ?_
  refine n_newa (atype := .boolean) (ty := .boolean) (t0 := 2) (N := 64) (cA := cc 2) (a0 := (64, .inl (fun _ => 0))) F (by decide) rfl (fun C h => by cases h) (List.mem_of_getElem? (i := 306) (by decide +kernel)) rfl rfl rfl (by decide) (by decide) (Nat.le_of_ble_eq_true rfl) (Nat.le_of_ble_eq_true rfl) (Nat.le_of_ble_eq_true rfl) d_P_init_7 ?_
  refine n_num (k' := 36) (c' := 1) (sl' := 64) rfl rfl rfl ?_
  refine n_putF (b := b) (k0 := 34) (k := 36) (c := 1) (ci := 2) (fs := [.null, .null, .null, .null, .null, .int 0, .int 0, .int 0, .int 0, .int 0, .int 0, .int 0]) (i := 34) F hsz rfl (by decide) (by decide) rfl fk_P_9 ⟨(R_P, F_P, 12), rfl, rfl, rfl, pf_P_0⟩ rfl rfl (Nat.le_of_ble_eq_true rfl) d_P_init_9 ?_
  refine n_aload_n F d_P_init_12 rfl 0 rfl ?_
  refine n_bipush (v := 64) F d_P_init_13 (by decide) ?_
  refine n_newa (atype := .int) (ty := .int) (t0 := 0) (N := 64) (cA := cc 0) (a0 := (64, .inl (fun _ => 0))) F (by decide) rfl (fun C h => by cases h) (List.mem_of_getElem? (i := 128) (by decide +kernel)) rfl rfl rfl (by decide) (by decide) (Nat.le_of_ble_eq_true rfl) (Nat.le_of_ble_eq_true rfl) (Nat.le_of_ble_eq_true rfl) d_P_init_15 ?_
  refine n_num (k' := 37) (c' := 2) (sl' := 128) rfl rfl rfl ?_
  refine n_putF (b := b) (k0 := 34) (k := 37) (c := 2) (ci := 2) (fs := [.ref (b + 35), .null, .null, .null, .null, .int 0, .int 0, .int 0, .int 0, .int 0, .int 0, .int 0]) (i := 34) F hsz rfl (by decide) (by decide) rfl fk_P_15 ⟨(R_P, F_P, 12), rfl, rfl, rfl, pf_P_1⟩ rfl rfl (Nat.le_of_ble_eq_true rfl) d_P_init_17 ?_
  refine n_aload_n F d_P_init_20 rfl 0 rfl ?_
  refine n_bipush (v := 6) F d_P_init_21 (by decide) ?_
  refine n_newa (atype := .int) (ty := .int) (t0 := 0) (N := 6) (cA := cc 0) (a0 := (6, .inl (fun _ => 0))) F (by decide) rfl (fun C h => by cases h) (List.mem_of_getElem? (i := 128) (by decide +kernel)) rfl rfl rfl (by decide) (by decide) (Nat.le_of_ble_eq_true rfl) (Nat.le_of_ble_eq_true rfl) (Nat.le_of_ble_eq_true rfl) d_P_init_23 ?_
  refine n_num (k' := 38) (c' := 3) (sl' := 134) rfl rfl rfl ?_
  refine n_putF (b := b) (k0 := 34) (k := 38) (c := 3) (ci := 2) (fs := [.ref (b + 35), .ref (b + 36), .null, .null, .null, .int 0, .int 0, .int 0, .int 0, .int 0, .int 0, .int 0]) (i := 34) F hsz rfl (by decide) (by decide) rfl fk_P_19 ⟨(R_P, F_P, 12), rfl, rfl, rfl, pf_P_2⟩ rfl rfl (Nat.le_of_ble_eq_true rfl) d_P_init_25 ?_
  refine n_aload_n F d_P_init_28 rfl 0 rfl ?_
  refine n_iconst (v := 4) F d_P_init_29 (by decide) ?_
  refine n_newa (atype := .int) (ty := .int) (t0 := 0) (N := 4) (cA := cc 0) (a0 := (4, .inl (fun _ => 0))) F (by decide) rfl (fun C h => by cases h) (List.mem_of_getElem? (i := 128) (by decide +kernel)) rfl rfl rfl (by decide) (by decide) (Nat.le_of_ble_eq_true rfl) (Nat.le_of_ble_eq_true rfl) (Nat.le_of_ble_eq_true rfl) d_P_init_30 ?_
  refine n_num (k' := 39) (c' := 4) (sl' := 138) rfl rfl rfl ?_
  refine n_putF (b := b) (k0 := 34) (k := 39) (c := 4) (ci := 2) (fs := [.ref (b + 35), .ref (b + 36), .ref (b + 37), .null, .null, .int 0, .int 0, .int 0, .int 0, .int 0, .int 0, .int 0]) (i := 34) F hsz rfl (by decide) (by decide) rfl fk_P_22 ⟨(R_P, F_P, 12), rfl, rfl, rfl, pf_P_3⟩ rfl rfl (Nat.le_of_ble_eq_true rfl) d_P_init_32 ?_
  refine n_aload_n F d_P_init_35 rfl 0 rfl ?_
  refine n_iconst (v := 4) F d_P_init_36 (by decide) ?_
  refine n_newa (atype := .int) (ty := .int) (t0 := 0) (N := 4) (cA := cc 0) (a0 := (4, .inl (fun _ => 0))) F (by decide) rfl (fun C h => by cases h) (List.mem_of_getElem? (i := 128) (by decide +kernel)) rfl rfl rfl (by decide) (by decide) (Nat.le_of_ble_eq_true rfl) (Nat.le_of_ble_eq_true rfl) (Nat.le_of_ble_eq_true rfl) d_P_init_37 ?_
  refine n_num (k' := 40) (c' := 5) (sl' := 142) rfl rfl rfl ?_
  refine n_putF (b := b) (k0 := 34) (k := 40) (c := 5) (ci := 2) (fs := [.ref (b + 35), .ref (b + 36), .ref (b + 37), .ref (b + 38), .null, .int 0, .int 0, .int 0, .int 0, .int 0, .int 0, .int 0]) (i := 34) F hsz rfl (by decide) (by decide) rfl fk_P_25 ⟨(R_P, F_P, 12), rfl, rfl, rfl, pf_P_4⟩ rfl rfl (Nat.le_of_ble_eq_true rfl) d_P_init_39 ?_
  refine n_ret F rfl rfl rfl (fun i h1 h2 => ?_) d_P_init_42
  rcases (show i = 34 ∨ i = 35 ∨ i = 36 ∨ i = 37 ∨ i = 38 ∨ i = 39 by omega) with rfl | rfl | rfl | rfl | rfl | rfl <;> rfl
abbrev b_K_init : ByteArray := prog_7_method_1_code
abbrev y_K_init : MethodName := ⟨"TakerBook$Marks", "<init>", "()V"⟩
theorem d_K_init_0 : decode b_K_init 0 = .ok (.aload_n 0, 1) := by decide +kernel
theorem d_K_init_1 : decode b_K_init 1 = .ok (.invokespecial 3, 3) := by decide +kernel
theorem d_K_init_4 : decode b_K_init 4 = .ok (.aload_n 0, 1) := by decide +kernel
theorem d_K_init_5 : decode b_K_init 5 = .ok (.bipush 6, 2) := by decide +kernel
theorem d_K_init_7 : decode b_K_init 7 = .ok (.iconst 3, 1) := by decide +kernel
theorem d_K_init_8 : decode b_K_init 8 = .ok (.multianewarray 9 2, 4) := by decide +kernel
theorem d_K_init_12 : decode b_K_init 12 = .ok (.putfield 11, 3) := by decide +kernel
theorem d_K_init_15 : decode b_K_init 15 = .ok (.aload_n 0, 1) := by decide +kernel
theorem d_K_init_16 : decode b_K_init 16 = .ok (.bipush 6, 2) := by decide +kernel
theorem d_K_init_18 : decode b_K_init 18 = .ok (.newarray .int, 2) := by decide +kernel
theorem d_K_init_20 : decode b_K_init 20 = .ok (.putfield 16, 3) := by decide +kernel
theorem d_K_init_23 : decode b_K_init 23 = .ok (.return_, 1) := by decide +kernel
theorem mo_K_init : mok y_K_init b_K_init 1 none 0 := ⟨List.mem_of_getElem? (i := 311) (by decide +kernel), ⟨by decide +kernel, by decide +kernel, by decide +kernel⟩, List.mem_of_getElem? (i := 84) (by decide +kernel), by decide⟩
set_option maxHeartbeats 4000000 in
set_option maxRecDepth 100000 in
theorem c_K_init (l : Launch) (D : va_G) (cc : Nat → ClassId) (b : Nat) : CT l D cc b y_K_init b_K_init 1 (rmN 1 8 30) 3 [.null, .null, .int 0, .int 0, .int 0, .int 0] (Z b cc) 40 49 8 30 := by
  refine CT_of rfl (by decide) rfl (by decide) (fun X hX F hsz => ?_)
  subst hX
  refine n_ls (ls' := [(0, .ref (b + 40))]) rfl ?_
  refine n_aload_n F d_K_init_0 rfl 0 rfl ?_
  refine n_obj F (List.mem_of_getElem? (i := 312) (by decide +kernel)) (by decide) (Nat.le_of_ble_eq_true rfl) d_K_init_1 ?_
  refine n_aload_n F d_K_init_4 rfl 0 rfl ?_
  refine n_bipush (v := 6) F d_K_init_5 (by decide) ?_
  refine n_iconst (v := 3) F d_K_init_7 (by decide) ?_
  refine n_mnew (idx := 9) (N := 6) (M := 3) (cA := cc 5) (co := cc 0) (ty := .int) (a0 := (3, .inl (fun _ => 0))) (f := fun j => some (b + (42 + j))) F (by decide) (List.mem_of_getElem? (i := 313) (by decide +kernel)) (List.mem_of_getElem? (i := 128) (by decide +kernel)) (F.2.2.2.2.2.1.1.2 5 _ rfl).2 F.2.2.2.2.2.1.2.1.1 (F.2.2.2.2.2.1.1.2 0 _ rfl).2 rfl (fun j hj => rfl) (fun j hj => by rcases (show j = 0 ∨ j = 1 ∨ j = 2 ∨ j = 3 ∨ j = 4 ∨ j = 5 by omega) with rfl | rfl | rfl | rfl | rfl | rfl <;> rfl) rfl (by decide) (by decide) (by decide) (by decide) (Nat.le_of_ble_eq_true rfl) (Nat.le_of_ble_eq_true rfl) (Nat.le_of_ble_eq_true rfl) rfl rfl (Nat.le_of_ble_eq_true rfl) (Nat.le_of_ble_eq_true rfl) d_K_init_8 ?_
  refine n_num (k' := 48) (c' := 7) (sl' := 24) rfl rfl rfl ?_
  refine n_putF (b := b) (k0 := 40) (k := 48) (c := 7) (ci := 3) (fs := [.null, .null, .int 0, .int 0, .int 0, .int 0]) (i := 40) F hsz rfl (by decide) (by decide) rfl fk_K_11 ⟨(R_K, F_K, 6), rfl, rfl, rfl, pf_K_0⟩ rfl rfl (Nat.le_of_ble_eq_true rfl) d_K_init_12 ?_
  refine n_aload_n F d_K_init_15 rfl 0 rfl ?_
  refine n_bipush (v := 6) F d_K_init_16 (by decide) ?_
  refine n_newa (atype := .int) (ty := .int) (t0 := 0) (N := 6) (cA := cc 0) (a0 := (6, .inl (fun _ => 0))) F (by decide) rfl (fun C h => by cases h) (List.mem_of_getElem? (i := 128) (by decide +kernel)) rfl rfl rfl (by decide) (by decide) (Nat.le_of_ble_eq_true rfl) (Nat.le_of_ble_eq_true rfl) (Nat.le_of_ble_eq_true rfl) d_K_init_18 ?_
  refine n_num (k' := 49) (c' := 8) (sl' := 30) rfl rfl rfl ?_
  refine n_putF (b := b) (k0 := 40) (k := 49) (c := 8) (ci := 3) (fs := [.ref (b + 41), .null, .int 0, .int 0, .int 0, .int 0]) (i := 40) F hsz rfl (by decide) (by decide) rfl fk_K_16 ⟨(R_K, F_K, 6), rfl, rfl, rfl, pf_K_1⟩ rfl rfl (Nat.le_of_ble_eq_true rfl) d_K_init_20 ?_
  refine n_ret F rfl rfl rfl (fun i h1 h2 => ?_) d_K_init_23
  rcases (show i = 40 ∨ i = 41 ∨ i = 42 ∨ i = 43 ∨ i = 44 ∨ i = 45 ∨ i = 46 ∨ i = 47 ∨ i = 48 by omega) with rfl | rfl | rfl | rfl | rfl | rfl | rfl | rfl | rfl <;> rfl
abbrev b_B_init : ByteArray := prog_2_method_1_code
abbrev y_B_init : MethodName := ⟨"TakerBook$Band", "<init>", "()V"⟩
theorem d_B_init_0 : decode b_B_init 0 = .ok (.aload_n 0, 1) := by decide +kernel
theorem d_B_init_1 : decode b_B_init 1 = .ok (.invokespecial 3, 3) := by decide +kernel
theorem d_B_init_4 : decode b_B_init 4 = .ok (.aload_n 0, 1) := by decide +kernel
theorem d_B_init_5 : decode b_B_init 5 = .ok (.bipush 6, 2) := by decide +kernel
theorem d_B_init_7 : decode b_B_init 7 = .ok (.anewarray 9, 3) := by decide +kernel
theorem d_B_init_10 : decode b_B_init 10 = .ok (.dup, 1) := by decide +kernel
theorem d_B_init_11 : decode b_B_init 11 = .ok (.iconst 0, 1) := by decide +kernel
theorem d_B_init_12 : decode b_B_init 12 = .ok (.new 9, 3) := by decide +kernel
theorem d_B_init_15 : decode b_B_init 15 = .ok (.dup, 1) := by decide +kernel
theorem d_B_init_16 : decode b_B_init 16 = .ok (.invokespecial 11, 3) := by decide +kernel
theorem d_B_init_19 : decode b_B_init 19 = .ok (.aastore, 1) := by decide +kernel
theorem d_B_init_20 : decode b_B_init 20 = .ok (.dup, 1) := by decide +kernel
theorem d_B_init_21 : decode b_B_init 21 = .ok (.iconst 1, 1) := by decide +kernel
theorem d_B_init_22 : decode b_B_init 22 = .ok (.new 12, 3) := by decide +kernel
theorem d_B_init_25 : decode b_B_init 25 = .ok (.dup, 1) := by decide +kernel
theorem d_B_init_26 : decode b_B_init 26 = .ok (.invokespecial 14, 3) := by decide +kernel
theorem d_B_init_29 : decode b_B_init 29 = .ok (.aastore, 1) := by decide +kernel
theorem d_B_init_30 : decode b_B_init 30 = .ok (.dup, 1) := by decide +kernel
theorem d_B_init_31 : decode b_B_init 31 = .ok (.iconst 2, 1) := by decide +kernel
theorem d_B_init_32 : decode b_B_init 32 = .ok (.new 15, 3) := by decide +kernel
theorem d_B_init_35 : decode b_B_init 35 = .ok (.dup, 1) := by decide +kernel
theorem d_B_init_36 : decode b_B_init 36 = .ok (.invokespecial 17, 3) := by decide +kernel
theorem d_B_init_39 : decode b_B_init 39 = .ok (.aastore, 1) := by decide +kernel
theorem d_B_init_40 : decode b_B_init 40 = .ok (.dup, 1) := by decide +kernel
theorem d_B_init_41 : decode b_B_init 41 = .ok (.iconst 3, 1) := by decide +kernel
theorem d_B_init_42 : decode b_B_init 42 = .ok (.new 18, 3) := by decide +kernel
theorem d_B_init_45 : decode b_B_init 45 = .ok (.dup, 1) := by decide +kernel
theorem d_B_init_46 : decode b_B_init 46 = .ok (.invokespecial 20, 3) := by decide +kernel
theorem d_B_init_49 : decode b_B_init 49 = .ok (.aastore, 1) := by decide +kernel
theorem d_B_init_50 : decode b_B_init 50 = .ok (.dup, 1) := by decide +kernel
theorem d_B_init_51 : decode b_B_init 51 = .ok (.iconst 4, 1) := by decide +kernel
theorem d_B_init_52 : decode b_B_init 52 = .ok (.new 21, 3) := by decide +kernel
theorem d_B_init_55 : decode b_B_init 55 = .ok (.dup, 1) := by decide +kernel
theorem d_B_init_56 : decode b_B_init 56 = .ok (.invokespecial 23, 3) := by decide +kernel
theorem d_B_init_59 : decode b_B_init 59 = .ok (.aastore, 1) := by decide +kernel
theorem d_B_init_60 : decode b_B_init 60 = .ok (.dup, 1) := by decide +kernel
theorem d_B_init_61 : decode b_B_init 61 = .ok (.iconst 5, 1) := by decide +kernel
theorem d_B_init_62 : decode b_B_init 62 = .ok (.new 24, 3) := by decide +kernel
theorem d_B_init_65 : decode b_B_init 65 = .ok (.dup, 1) := by decide +kernel
theorem d_B_init_66 : decode b_B_init 66 = .ok (.invokespecial 26, 3) := by decide +kernel
theorem d_B_init_69 : decode b_B_init 69 = .ok (.aastore, 1) := by decide +kernel
theorem d_B_init_70 : decode b_B_init 70 = .ok (.putfield 27, 3) := by decide +kernel
theorem d_B_init_73 : decode b_B_init 73 = .ok (.aload_n 0, 1) := by decide +kernel
theorem d_B_init_74 : decode b_B_init 74 = .ok (.bipush 6, 2) := by decide +kernel
theorem d_B_init_76 : decode b_B_init 76 = .ok (.newarray .int, 2) := by decide +kernel
theorem d_B_init_78 : decode b_B_init 78 = .ok (.putfield 33, 3) := by decide +kernel
theorem d_B_init_81 : decode b_B_init 81 = .ok (.aload_n 0, 1) := by decide +kernel
theorem d_B_init_82 : decode b_B_init 82 = .ok (.bipush 6, 2) := by decide +kernel
theorem d_B_init_84 : decode b_B_init 84 = .ok (.newarray .int, 2) := by decide +kernel
theorem d_B_init_86 : decode b_B_init 86 = .ok (.putfield 37, 3) := by decide +kernel
theorem d_B_init_89 : decode b_B_init 89 = .ok (.aload_n 0, 1) := by decide +kernel
theorem d_B_init_90 : decode b_B_init 90 = .ok (.bipush 6, 2) := by decide +kernel
theorem d_B_init_92 : decode b_B_init 92 = .ok (.newarray .int, 2) := by decide +kernel
theorem d_B_init_94 : decode b_B_init 94 = .ok (.putfield 40, 3) := by decide +kernel
theorem d_B_init_97 : decode b_B_init 97 = .ok (.aload_n 0, 1) := by decide +kernel
theorem d_B_init_98 : decode b_B_init 98 = .ok (.bipush 6, 2) := by decide +kernel
theorem d_B_init_100 : decode b_B_init 100 = .ok (.newarray .int, 2) := by decide +kernel
theorem d_B_init_102 : decode b_B_init 102 = .ok (.putfield 43, 3) := by decide +kernel
theorem d_B_init_105 : decode b_B_init 105 = .ok (.aload_n 0, 1) := by decide +kernel
theorem d_B_init_106 : decode b_B_init 106 = .ok (.bipush 6, 2) := by decide +kernel
theorem d_B_init_108 : decode b_B_init 108 = .ok (.newarray .int, 2) := by decide +kernel
theorem d_B_init_110 : decode b_B_init 110 = .ok (.putfield 46, 3) := by decide +kernel
theorem d_B_init_113 : decode b_B_init 113 = .ok (.aload_n 0, 1) := by decide +kernel
theorem d_B_init_114 : decode b_B_init 114 = .ok (.bipush 6, 2) := by decide +kernel
theorem d_B_init_116 : decode b_B_init 116 = .ok (.newarray .int, 2) := by decide +kernel
theorem d_B_init_118 : decode b_B_init 118 = .ok (.putfield 49, 3) := by decide +kernel
theorem d_B_init_121 : decode b_B_init 121 = .ok (.aload_n 0, 1) := by decide +kernel
theorem d_B_init_122 : decode b_B_init 122 = .ok (.bipush 6, 2) := by decide +kernel
theorem d_B_init_124 : decode b_B_init 124 = .ok (.newarray .int, 2) := by decide +kernel
theorem d_B_init_126 : decode b_B_init 126 = .ok (.putfield 52, 3) := by decide +kernel
theorem d_B_init_129 : decode b_B_init 129 = .ok (.return_, 1) := by decide +kernel
theorem mo_B_init : mok y_B_init b_B_init 1 none 0 := ⟨List.mem_of_getElem? (i := 134) (by decide +kernel), ⟨by decide +kernel, by decide +kernel, by decide +kernel⟩, List.mem_of_getElem? (i := 76) (by decide +kernel), by decide⟩
set_option maxHeartbeats 4000000 in
set_option maxRecDepth 100000 in
theorem c_B_init (l : Launch) (D : va_G) (cc : Nat → ClassId) (b : Nat) : CT l D cc b y_B_init b_B_init 1 (rmN 4 14 48) 1 [.null, .null, .null, .null, .null, .null, .null, .null, .int 0, .int 0, .int 0, .int 0, .int 0, .int 0, .int 0, .int 0, .int 0, .int 0, .int 0] (Z b cc) 19 34 14 48 := by
  refine CT_of rfl (by decide) rfl (by decide) (fun X hX F hsz => ?_)
  subst hX
  refine n_ls (ls' := [(0, .ref (b + 19))]) rfl ?_
  refine n_aload_n F d_B_init_0 rfl 0 rfl ?_
  refine n_obj F (List.mem_of_getElem? (i := 135) (by decide +kernel)) (by decide) (Nat.le_of_ble_eq_true rfl) d_B_init_1 ?_
  refine n_aload_n F d_B_init_4 rfl 0 rfl ?_
  refine n_bipush (v := 6) F d_B_init_5 (by decide) ?_
  refine n_new1 (z := 20) (e := .inl (cc 3, 6, .inr (.inr (.inr (.inr (fun _ => none)))))) (by decide) ?_
  refine n_newq (C := "TakerBook$Thief") (idx := 9) (t0 := 3) (N := 6) (cA := cc 3) F (by decide) (List.mem_of_getElem? (i := 136) (by decide +kernel)) F.2.2.2.2.2.1.2.2.1 rfl (updE_s _ _ _) (by decide) (by decide) (Nat.le_of_ble_eq_true rfl) (Nat.le_of_ble_eq_true rfl) (Nat.le_of_ble_eq_true rfl) d_B_init_7 ?_
  refine n_num (k' := 21) (c' := 1) (sl' := 6) rfl rfl rfl ?_
  refine n_dup F d_B_init_10 rfl ?_
  refine n_iconst (v := 0) F d_B_init_11 (by decide) ?_
  refine n_mk (b := b) (k0 := 19) (k := 21) (c := 1) (idx := 9) (idx2 := 11) (ci := 6) (fs0 := []) (G := Z b cc) (k1 := 22) (mc := 0) (ms := 0) (host := "TakerBook") (q := (R_Th, F_Th, 0)) F hsz rfl rfl (List.mem_of_getElem? (i := 136) (by decide +kernel)) (List.mem_of_getElem? (i := 138) (by decide +kernel)) (List.mem_of_getElem? (i := 77) (by decide +kernel)) ff_Th (fun i h1 h2 => by rcases (show i = 21 by omega) with rfl <;> rfl) (c_Th_init X.2.1 D cc b 6 21 (Z b cc) rfl) mo_Th_init (by decide +kernel) (List.mem_of_getElem? (i := 140) (by decide +kernel)) rfl ⟨by decide, by decide⟩ rfl rfl (Nat.le_of_ble_eq_true rfl) (Nat.le_of_ble_eq_true rfl) rfl (Nat.le_of_ble_eq_true rfl) d_B_init_12 d_B_init_15 d_B_init_16 ?_
  refine n_num (k' := 22) (c' := 2) (sl' := 6) rfl rfl rfl ?_
  refine n_astq (b := b) (k0 := 19) (k := 22) (c := 2) (t0 := 3) (z := 21) (ci := 6) (r := (R_Th, F_Th, 0)) F hsz rfl (i := 20) (by decide) (by decide) rfl rfl (vb_asgS) (by decide) (by decide) rfl rfl (vin_of (by decide)) d_B_init_19 ?_
  refine n_dup F d_B_init_20 rfl ?_
  refine n_iconst (v := 1) F d_B_init_21 (by decide) ?_
  refine n_mk (b := b) (k0 := 19) (k := 22) (c := 2) (idx := 12) (idx2 := 14) (ci := 7) (fs0 := []) (G := Z b cc) (k1 := 23) (mc := 0) (ms := 0) (host := "TakerBook") (q := (R_Re, F_Re, 0)) F hsz rfl rfl (List.mem_of_getElem? (i := 144) (by decide +kernel)) (List.mem_of_getElem? (i := 145) (by decide +kernel)) (List.mem_of_getElem? (i := 78) (by decide +kernel)) ff_Re (fun i h1 h2 => by rcases (show i = 22 by omega) with rfl <;> rfl) (c_Re_init X.2.1 D cc b 7 22 (Z b cc) rfl) mo_Re_init (by decide +kernel) (List.mem_of_getElem? (i := 147) (by decide +kernel)) rfl ⟨by decide, by decide⟩ rfl rfl (Nat.le_of_ble_eq_true rfl) (Nat.le_of_ble_eq_true rfl) rfl (Nat.le_of_ble_eq_true rfl) d_B_init_22 d_B_init_25 d_B_init_26 ?_
  refine n_num (k' := 23) (c' := 3) (sl' := 6) rfl rfl rfl ?_
  refine n_astq (b := b) (k0 := 19) (k := 23) (c := 3) (t0 := 3) (z := 22) (ci := 7) (r := (R_Re, F_Re, 0)) F hsz rfl (i := 20) (by decide) (by decide) rfl rfl (vb_asgC (F.2.2.2.2.2.1.2.2.2.2.2 _ (by decide))) (by decide) (by decide) rfl rfl (vin_of (by decide)) d_B_init_29 ?_
  refine n_dup F d_B_init_30 rfl ?_
  refine n_iconst (v := 2) F d_B_init_31 (by decide) ?_
  refine n_mk (b := b) (k0 := 19) (k := 23) (c := 3) (idx := 15) (idx2 := 17) (ci := 8) (fs0 := []) (G := Z b cc) (k1 := 24) (mc := 0) (ms := 0) (host := "TakerBook") (q := (R_Cl, F_Cl, 0)) F hsz rfl rfl (List.mem_of_getElem? (i := 151) (by decide +kernel)) (List.mem_of_getElem? (i := 152) (by decide +kernel)) (List.mem_of_getElem? (i := 79) (by decide +kernel)) ff_Cl (fun i h1 h2 => by rcases (show i = 23 by omega) with rfl <;> rfl) (c_Cl_init X.2.1 D cc b 8 23 (Z b cc) rfl) mo_Cl_init (by decide +kernel) (List.mem_of_getElem? (i := 154) (by decide +kernel)) rfl ⟨by decide, by decide⟩ rfl rfl (Nat.le_of_ble_eq_true rfl) (Nat.le_of_ble_eq_true rfl) rfl (Nat.le_of_ble_eq_true rfl) d_B_init_32 d_B_init_35 d_B_init_36 ?_
  refine n_num (k' := 24) (c' := 4) (sl' := 6) rfl rfl rfl ?_
  refine n_astq (b := b) (k0 := 19) (k := 24) (c := 4) (t0 := 3) (z := 23) (ci := 8) (r := (R_Cl, F_Cl, 0)) F hsz rfl (i := 20) (by decide) (by decide) rfl rfl (vb_asgC (F.2.2.2.2.2.1.2.2.2.2.2 _ (by decide))) (by decide) (by decide) rfl rfl (vin_of (by decide)) d_B_init_39 ?_
  refine n_dup F d_B_init_40 rfl ?_
  refine n_iconst (v := 3) F d_B_init_41 (by decide) ?_
  refine n_mk (b := b) (k0 := 19) (k := 24) (c := 4) (idx := 18) (idx2 := 20) (ci := 9) (fs0 := []) (G := Z b cc) (k1 := 25) (mc := 0) (ms := 0) (host := "TakerBook") (q := (R_Ga, F_Ga, 0)) F hsz rfl rfl (List.mem_of_getElem? (i := 158) (by decide +kernel)) (List.mem_of_getElem? (i := 159) (by decide +kernel)) (List.mem_of_getElem? (i := 80) (by decide +kernel)) ff_Ga (fun i h1 h2 => by rcases (show i = 24 by omega) with rfl <;> rfl) (c_Ga_init X.2.1 D cc b 9 24 (Z b cc) rfl) mo_Ga_init (by decide +kernel) (List.mem_of_getElem? (i := 161) (by decide +kernel)) rfl ⟨by decide, by decide⟩ rfl rfl (Nat.le_of_ble_eq_true rfl) (Nat.le_of_ble_eq_true rfl) rfl (Nat.le_of_ble_eq_true rfl) d_B_init_42 d_B_init_45 d_B_init_46 ?_
  refine n_num (k' := 25) (c' := 5) (sl' := 6) rfl rfl rfl ?_
  refine n_astq (b := b) (k0 := 19) (k := 25) (c := 5) (t0 := 3) (z := 24) (ci := 9) (r := (R_Ga, F_Ga, 0)) F hsz rfl (i := 20) (by decide) (by decide) rfl rfl (vb_asgC (F.2.2.2.2.2.1.2.2.2.2.2 _ (by decide))) (by decide) (by decide) rfl rfl (vin_of (by decide)) d_B_init_49 ?_
  refine n_dup F d_B_init_50 rfl ?_
  refine n_iconst (v := 4) F d_B_init_51 (by decide) ?_
  refine n_mk (b := b) (k0 := 19) (k := 25) (c := 5) (idx := 21) (idx2 := 23) (ci := 10) (fs0 := []) (G := Z b cc) (k1 := 26) (mc := 0) (ms := 0) (host := "TakerBook") (q := (R_La, F_La, 0)) F hsz rfl rfl (List.mem_of_getElem? (i := 165) (by decide +kernel)) (List.mem_of_getElem? (i := 166) (by decide +kernel)) (List.mem_of_getElem? (i := 81) (by decide +kernel)) ff_La (fun i h1 h2 => by rcases (show i = 25 by omega) with rfl <;> rfl) (c_La_init X.2.1 D cc b 10 25 (Z b cc) rfl) mo_La_init (by decide +kernel) (List.mem_of_getElem? (i := 168) (by decide +kernel)) rfl ⟨by decide, by decide⟩ rfl rfl (Nat.le_of_ble_eq_true rfl) (Nat.le_of_ble_eq_true rfl) rfl (Nat.le_of_ble_eq_true rfl) d_B_init_52 d_B_init_55 d_B_init_56 ?_
  refine n_num (k' := 26) (c' := 6) (sl' := 6) rfl rfl rfl ?_
  refine n_astq (b := b) (k0 := 19) (k := 26) (c := 6) (t0 := 3) (z := 25) (ci := 10) (r := (R_La, F_La, 0)) F hsz rfl (i := 20) (by decide) (by decide) rfl rfl (vb_asgC (F.2.2.2.2.2.1.2.2.2.2.2 _ (by decide))) (by decide) (by decide) rfl rfl (vin_of (by decide)) d_B_init_59 ?_
  refine n_dup F d_B_init_60 rfl ?_
  refine n_iconst (v := 5) F d_B_init_61 (by decide) ?_
  refine n_mk (b := b) (k0 := 19) (k := 26) (c := 6) (idx := 24) (idx2 := 26) (ci := 11) (fs0 := []) (G := Z b cc) (k1 := 27) (mc := 0) (ms := 0) (host := "TakerBook") (q := (R_Yo, F_Yo, 0)) F hsz rfl rfl (List.mem_of_getElem? (i := 172) (by decide +kernel)) (List.mem_of_getElem? (i := 173) (by decide +kernel)) (List.mem_of_getElem? (i := 82) (by decide +kernel)) ff_Yo (fun i h1 h2 => by rcases (show i = 26 by omega) with rfl <;> rfl) (c_Yo_init X.2.1 D cc b 11 26 (Z b cc) rfl) mo_Yo_init (by decide +kernel) (List.mem_of_getElem? (i := 175) (by decide +kernel)) rfl ⟨by decide, by decide⟩ rfl rfl (Nat.le_of_ble_eq_true rfl) (Nat.le_of_ble_eq_true rfl) rfl (Nat.le_of_ble_eq_true rfl) d_B_init_62 d_B_init_65 d_B_init_66 ?_
  refine n_num (k' := 27) (c' := 7) (sl' := 6) rfl rfl rfl ?_
  refine n_astq (b := b) (k0 := 19) (k := 27) (c := 7) (t0 := 3) (z := 26) (ci := 11) (r := (R_Yo, F_Yo, 0)) F hsz rfl (i := 20) (by decide) (by decide) rfl rfl (vb_asgC (F.2.2.2.2.2.1.2.2.2.2.2 _ (by decide))) (by decide) (by decide) rfl rfl (vin_of (by decide)) d_B_init_69 ?_
  refine n_cv (k := 27) (z := 20) (e := Z b cc 20) (by decide) (by decide) (fun H h => at_q (fun j hj => by rcases (show j = 0 ∨ j = 1 ∨ j = 2 ∨ j = 3 ∨ j = 4 ∨ j = 5 by omega) with rfl | rfl | rfl | rfl | rfl | rfl <;> rfl) h) ?_
  refine n_putF (b := b) (k0 := 19) (k := 27) (c := 7) (ci := 1) (fs := [.null, .null, .null, .null, .null, .null, .null, .null, .int 0, .int 0, .int 0, .int 0, .int 0, .int 0, .int 0, .int 0, .int 0, .int 0, .int 0]) (i := 19) F hsz rfl (by decide) (by decide) rfl fk_B_27 ⟨(R_B, F_B, 19), rfl, rfl, rfl, pf_B_0⟩ rfl rfl (Nat.le_of_ble_eq_true rfl) d_B_init_70 ?_
  refine n_aload_n F d_B_init_73 rfl 0 rfl ?_
  refine n_bipush (v := 6) F d_B_init_74 (by decide) ?_
  refine n_newa (atype := .int) (ty := .int) (t0 := 0) (N := 6) (cA := cc 0) (a0 := (6, .inl (fun _ => 0))) F (by decide) rfl (fun C h => by cases h) (List.mem_of_getElem? (i := 128) (by decide +kernel)) rfl rfl rfl (by decide) (by decide) (Nat.le_of_ble_eq_true rfl) (Nat.le_of_ble_eq_true rfl) (Nat.le_of_ble_eq_true rfl) d_B_init_76 ?_
  refine n_num (k' := 28) (c' := 8) (sl' := 12) rfl rfl rfl ?_
  refine n_putF (b := b) (k0 := 19) (k := 28) (c := 8) (ci := 1) (fs := [.ref (b + 20), .null, .null, .null, .null, .null, .null, .null, .int 0, .int 0, .int 0, .int 0, .int 0, .int 0, .int 0, .int 0, .int 0, .int 0, .int 0]) (i := 19) F hsz rfl (by decide) (by decide) rfl fk_B_33 ⟨(R_B, F_B, 19), rfl, rfl, rfl, pf_B_1⟩ rfl rfl (Nat.le_of_ble_eq_true rfl) d_B_init_78 ?_
  refine n_aload_n F d_B_init_81 rfl 0 rfl ?_
  refine n_bipush (v := 6) F d_B_init_82 (by decide) ?_
  refine n_newa (atype := .int) (ty := .int) (t0 := 0) (N := 6) (cA := cc 0) (a0 := (6, .inl (fun _ => 0))) F (by decide) rfl (fun C h => by cases h) (List.mem_of_getElem? (i := 128) (by decide +kernel)) rfl rfl rfl (by decide) (by decide) (Nat.le_of_ble_eq_true rfl) (Nat.le_of_ble_eq_true rfl) (Nat.le_of_ble_eq_true rfl) d_B_init_84 ?_
  refine n_num (k' := 29) (c' := 9) (sl' := 18) rfl rfl rfl ?_
  refine n_putF (b := b) (k0 := 19) (k := 29) (c := 9) (ci := 1) (fs := [.ref (b + 20), .ref (b + 27), .null, .null, .null, .null, .null, .null, .int 0, .int 0, .int 0, .int 0, .int 0, .int 0, .int 0, .int 0, .int 0, .int 0, .int 0]) (i := 19) F hsz rfl (by decide) (by decide) rfl fk_B_37 ⟨(R_B, F_B, 19), rfl, rfl, rfl, pf_B_2⟩ rfl rfl (Nat.le_of_ble_eq_true rfl) d_B_init_86 ?_
  refine n_aload_n F d_B_init_89 rfl 0 rfl ?_
  refine n_bipush (v := 6) F d_B_init_90 (by decide) ?_
  refine n_newa (atype := .int) (ty := .int) (t0 := 0) (N := 6) (cA := cc 0) (a0 := (6, .inl (fun _ => 0))) F (by decide) rfl (fun C h => by cases h) (List.mem_of_getElem? (i := 128) (by decide +kernel)) rfl rfl rfl (by decide) (by decide) (Nat.le_of_ble_eq_true rfl) (Nat.le_of_ble_eq_true rfl) (Nat.le_of_ble_eq_true rfl) d_B_init_92 ?_
  refine n_num (k' := 30) (c' := 10) (sl' := 24) rfl rfl rfl ?_
  refine n_putF (b := b) (k0 := 19) (k := 30) (c := 10) (ci := 1) (fs := [.ref (b + 20), .ref (b + 27), .ref (b + 28), .null, .null, .null, .null, .null, .int 0, .int 0, .int 0, .int 0, .int 0, .int 0, .int 0, .int 0, .int 0, .int 0, .int 0]) (i := 19) F hsz rfl (by decide) (by decide) rfl fk_B_40 ⟨(R_B, F_B, 19), rfl, rfl, rfl, pf_B_3⟩ rfl rfl (Nat.le_of_ble_eq_true rfl) d_B_init_94 ?_
  refine n_aload_n F d_B_init_97 rfl 0 rfl ?_
  refine n_bipush (v := 6) F d_B_init_98 (by decide) ?_
  refine n_newa (atype := .int) (ty := .int) (t0 := 0) (N := 6) (cA := cc 0) (a0 := (6, .inl (fun _ => 0))) F (by decide) rfl (fun C h => by cases h) (List.mem_of_getElem? (i := 128) (by decide +kernel)) rfl rfl rfl (by decide) (by decide) (Nat.le_of_ble_eq_true rfl) (Nat.le_of_ble_eq_true rfl) (Nat.le_of_ble_eq_true rfl) d_B_init_100 ?_
  refine n_num (k' := 31) (c' := 11) (sl' := 30) rfl rfl rfl ?_
  refine n_putF (b := b) (k0 := 19) (k := 31) (c := 11) (ci := 1) (fs := [.ref (b + 20), .ref (b + 27), .ref (b + 28), .ref (b + 29), .null, .null, .null, .null, .int 0, .int 0, .int 0, .int 0, .int 0, .int 0, .int 0, .int 0, .int 0, .int 0, .int 0]) (i := 19) F hsz rfl (by decide) (by decide) rfl fk_B_43 ⟨(R_B, F_B, 19), rfl, rfl, rfl, pf_B_4⟩ rfl rfl (Nat.le_of_ble_eq_true rfl) d_B_init_102 ?_
  refine n_aload_n F d_B_init_105 rfl 0 rfl ?_
  refine n_bipush (v := 6) F d_B_init_106 (by decide) ?_
  refine n_newa (atype := .int) (ty := .int) (t0 := 0) (N := 6) (cA := cc 0) (a0 := (6, .inl (fun _ => 0))) F (by decide) rfl (fun C h => by cases h) (List.mem_of_getElem? (i := 128) (by decide +kernel)) rfl rfl rfl (by decide) (by decide) (Nat.le_of_ble_eq_true rfl) (Nat.le_of_ble_eq_true rfl) (Nat.le_of_ble_eq_true rfl) d_B_init_108 ?_
  refine n_num (k' := 32) (c' := 12) (sl' := 36) rfl rfl rfl ?_
  refine n_putF (b := b) (k0 := 19) (k := 32) (c := 12) (ci := 1) (fs := [.ref (b + 20), .ref (b + 27), .ref (b + 28), .ref (b + 29), .ref (b + 30), .null, .null, .null, .int 0, .int 0, .int 0, .int 0, .int 0, .int 0, .int 0, .int 0, .int 0, .int 0, .int 0]) (i := 19) F hsz rfl (by decide) (by decide) rfl fk_B_46 ⟨(R_B, F_B, 19), rfl, rfl, rfl, pf_B_5⟩ rfl rfl (Nat.le_of_ble_eq_true rfl) d_B_init_110 ?_
  refine n_aload_n F d_B_init_113 rfl 0 rfl ?_
  refine n_bipush (v := 6) F d_B_init_114 (by decide) ?_
  refine n_newa (atype := .int) (ty := .int) (t0 := 0) (N := 6) (cA := cc 0) (a0 := (6, .inl (fun _ => 0))) F (by decide) rfl (fun C h => by cases h) (List.mem_of_getElem? (i := 128) (by decide +kernel)) rfl rfl rfl (by decide) (by decide) (Nat.le_of_ble_eq_true rfl) (Nat.le_of_ble_eq_true rfl) (Nat.le_of_ble_eq_true rfl) d_B_init_116 ?_
  refine n_num (k' := 33) (c' := 13) (sl' := 42) rfl rfl rfl ?_
  refine n_putF (b := b) (k0 := 19) (k := 33) (c := 13) (ci := 1) (fs := [.ref (b + 20), .ref (b + 27), .ref (b + 28), .ref (b + 29), .ref (b + 30), .ref (b + 31), .null, .null, .int 0, .int 0, .int 0, .int 0, .int 0, .int 0, .int 0, .int 0, .int 0, .int 0, .int 0]) (i := 19) F hsz rfl (by decide) (by decide) rfl fk_B_49 ⟨(R_B, F_B, 19), rfl, rfl, rfl, pf_B_6⟩ rfl rfl (Nat.le_of_ble_eq_true rfl) d_B_init_118 ?_
  refine n_aload_n F d_B_init_121 rfl 0 rfl ?_
  refine n_bipush (v := 6) F d_B_init_122 (by decide) ?_
  refine n_newa (atype := .int) (ty := .int) (t0 := 0) (N := 6) (cA := cc 0) (a0 := (6, .inl (fun _ => 0))) F (by decide) rfl (fun C h => by cases h) (List.mem_of_getElem? (i := 128) (by decide +kernel)) rfl rfl rfl (by decide) (by decide) (Nat.le_of_ble_eq_true rfl) (Nat.le_of_ble_eq_true rfl) (Nat.le_of_ble_eq_true rfl) d_B_init_124 ?_
  refine n_num (k' := 34) (c' := 14) (sl' := 48) rfl rfl rfl ?_
  refine n_putF (b := b) (k0 := 19) (k := 34) (c := 14) (ci := 1) (fs := [.ref (b + 20), .ref (b + 27), .ref (b + 28), .ref (b + 29), .ref (b + 30), .ref (b + 31), .ref (b + 32), .null, .int 0, .int 0, .int 0, .int 0, .int 0, .int 0, .int 0, .int 0, .int 0, .int 0, .int 0]) (i := 19) F hsz rfl (by decide) (by decide) rfl fk_B_52 ⟨(R_B, F_B, 19), rfl, rfl, rfl, pf_B_7⟩ rfl rfl (Nat.le_of_ble_eq_true rfl) d_B_init_126 ?_
  refine n_ret F rfl rfl rfl (fun i h1 h2 => ?_) d_B_init_129
  rcases (show i = 19 ∨ i = 20 ∨ i = 21 ∨ i = 22 ∨ i = 23 ∨ i = 24 ∨ i = 25 ∨ i = 26 ∨ i = 27 ∨ i = 28 ∨ i = 29 ∨ i = 30 ∨ i = 31 ∨ i = 32 ∨ i = 33 by omega) with rfl | rfl | rfl | rfl | rfl | rfl | rfl | rfl | rfl | rfl | rfl | rfl | rfl | rfl | rfl <;> rfl
