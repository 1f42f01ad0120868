-- names: each class, its fields (declaring class, name, descriptor, final); by program
def R_T : String := "TakerBook"
def F_T : u_T := fun k => match k with
  | 0 => ("TakerBook", "rows", "[[I", true)
  | 1 => ("TakerBook", "rowSizes", "[I", true)
  | 2 => ("TakerBook", "texts", "[[B", true)
  | 3 => ("TakerBook", "textSizes", "[I", true)
  | 4 => ("TakerBook", "reader", "LTakerBook$Reader;", true)
  | 5 => ("TakerBook", "band", "LTakerBook$Band;", true)
  | 6 => ("TakerBook", "plans", "LTakerBook$Plans;", true)
  | 7 => ("TakerBook", "marks", "LTakerBook$Marks;", true)
  | 8 => ("TakerBook", "deeds", "LTakerBook$Deeds;", true)
  | 9 => ("TakerBook", "keptDeeds", "[LTakerBook$Deeds;", true)
  | 10 => ("TakerBook", "found", "[I", true)
  | 11 => ("TakerBook", "latestFinding", "I", false)
  | 12 => ("TakerBook", "told", "I", false)
  | 13 => ("TakerBook", "upperNumber", "J", false)
  | _ => ("TakerBook", "lowerNumber", "J", false)
def R_B : String := "TakerBook$Band"
def F_B : u_T := fun k => match k with
  | 0 => ("TakerBook$Band", "natures", "[LTakerBook$Thief;", true)
  | 1 => ("TakerBook$Band", "kind", "[I", true)
  | 2 => ("TakerBook$Band", "skill", "[I", true)
  | 3 => ("TakerBook$Band", "boldness", "[I", true)
  | 4 => ("TakerBook$Band", "firstCrosses", "[I", true)
  | 5 => ("TakerBook$Band", "crosses", "[I", true)
  | 6 => ("TakerBook$Band", "lootNow", "[I", true)
  | 7 => ("TakerBook$Band", "priceNow", "[I", true)
  | 8 => ("TakerBook$Band", "thieves", "I", false)
  | 9 => ("TakerBook$Band", "bounty", "I", false)
  | 10 => ("TakerBook$Band", "fee", "I", false)
  | 11 => ("TakerBook$Band", "fear", "I", false)
  | 12 => ("TakerBook$Band", "bench", "I", false)
  | 13 => ("TakerBook$Band", "gang", "I", false)
  | 14 => ("TakerBook$Band", "left", "I", false)
  | 15 => ("TakerBook$Band", "weeks", "I", false)
  | 16 => ("TakerBook$Band", "money", "I", false)
  | 17 => ("TakerBook$Band", "stock", "I", false)
  | _ => ("TakerBook$Band", "tried", "Z", false)
def R_P : String := "TakerBook$Plans"
def F_P : u_T := fun k => match k with
  | 0 => ("TakerBook$Plans", "trying", "[Z", true)
  | 1 => ("TakerBook$Plans", "loot", "[I", true)
  | 2 => ("TakerBook$Plans", "price", "[I", true)
  | 3 => ("TakerBook$Plans", "plan", "[I", true)
  | 4 => ("TakerBook$Plans", "first", "[I", true)
  | 5 => ("TakerBook$Plans", "weeks", "I", false)
  | 6 => ("TakerBook$Plans", "fee", "I", false)
  | 7 => ("TakerBook$Plans", "leftAtFirst", "I", false)
  | 8 => ("TakerBook$Plans", "most", "I", false)
  | 9 => ("TakerBook$Plans", "untried", "I", false)
  | 10 => ("TakerBook$Plans", "givenInAll", "I", false)
  | _ => ("TakerBook$Plans", "trial", "I", false)
def R_K : String := "TakerBook$Marks"
def F_K : u_T := fun k => match k with
  | 0 => ("TakerBook$Marks", "talking", "[[I", true)
  | 1 => ("TakerBook$Marks", "crosses", "[I", true)
  | 2 => ("TakerBook$Marks", "left", "I", false)
  | 3 => ("TakerBook$Marks", "bench", "I", false)
  | 4 => ("TakerBook$Marks", "fewest", "I", false)
  | _ => ("TakerBook$Marks", "withTwo", "I", false)
def R_D : String := "TakerBook$Deeds"
def F_D : u_T := fun k => match k with
  | 0 => ("TakerBook$Deeds", "what", "[I", true)
  | 1 => ("TakerBook$Deeds", "of", "[I", true)
  | _ => ("TakerBook$Deeds", "size", "I", false)
def R_R : String := "TakerBook$Reader"
def F_R : u_T := fun k => match k with
  | 0 => ("TakerBook$Reader", "kind", "[I", true)
  | 1 => ("TakerBook$Reader", "ofBook", "[I", true)
  | 2 => ("TakerBook$Reader", "ofThieves", "[I", true)
  | 3 => ("TakerBook$Reader", "thieves", "I", false)
  | _ => ("TakerBook$Reader", "place", "I", false)
def R_Th : String := "TakerBook$Thief"
def F_Th : u_T := fun k => match k with
  | _ => ("", "", "I", false)
def R_Re : String := "TakerBook$Returned"
def F_Re : u_T := fun k => match k with
  | _ => ("", "", "I", false)
def R_Cl : String := "TakerBook$Clerk"
def F_Cl : u_T := fun k => match k with
  | _ => ("", "", "I", false)
def R_Ga : String := "TakerBook$Gang"
def F_Ga : u_T := fun k => match k with
  | _ => ("", "", "I", false)
def R_La : String := "TakerBook$Lace"
def F_La : u_T := fun k => match k with
  | _ => ("", "", "I", false)
def R_Yo : String := "TakerBook$Young"
def F_Yo : u_T := fun k => match k with
  | _ => ("", "", "I", false)
def R_M : String := "TakerBookModel"
def F_M : u_T := fun k => match k with
  | 0 => ("TakerBookModel", "latest", "I", false)
  | 1 => ("TakerBookModel", "came", "[I", true)
  | 2 => ("TakerBookModel", "asked", "I", false)
  | 3 => ("TakerBookModel", "upper", "J", false)
  | 4 => ("TakerBookModel", "lower", "J", false)
  | 5 => ("TakerBookModel", "sizes", "[I", true)
  | 6 => ("TakerBookModel", "rows", "[I", true)
  | 7 => ("TakerBookModel", "copied", "[I", true)
  | 8 => ("TakerBookModel", "textSizes", "[I", true)
  | 9 => ("TakerBookModel", "bytes", "[B", true)
  | 10 => ("TakerBookModel", "n", "I", false)
  | 11 => ("TakerBookModel", "head", "[I", true)
  | 12 => ("TakerBookModel", "kindOf", "[I", true)
  | 13 => ("TakerBookModel", "skills", "[I", true)
  | 14 => ("TakerBookModel", "boldness", "[I", true)
  | 15 => ("TakerBookModel", "readAt", "I", false)
  | 16 => ("TakerBookModel", "readMany", "I", false)
  | 17 => ("TakerBookModel", "isHead", "Z", false)
  | 18 => ("TakerBookModel", "readHead", "[I", true)
  | 19 => ("TakerBookModel", "readThief", "[I", true)
  | 20 => ("TakerBookModel", "now", "[I", true)
  | 21 => ("TakerBookModel", "tried", "[I", true)
  | 22 => ("TakerBookModel", "deedMany", "I", false)
  | 23 => ("TakerBookModel", "log", "[I", true)
  | 24 => ("TakerBookModel", "isKept", "[Z", true)
  | 25 => ("TakerBookModel", "keptMany", "[I", true)
  | 26 => ("TakerBookModel", "keptNow", "[I", true)
  | 27 => ("TakerBookModel", "keptLog", "[I", true)
  | 28 => ("TakerBookModel", "plan", "[I", true)
  | 29 => ("TakerBookModel", "trialIn", "I", false)
  | 30 => ("TakerBookModel", "fitMany", "I", false)
  | 31 => ("TakerBookModel", "fitFirst", "I", false)
  | 32 => ("TakerBookModel", "fitAll", "I", false)
  | 33 => ("TakerBookModel", "fitAny", "I", false)
  | 34 => ("TakerBookModel", "fitWith", "[I", true)
  | 35 => ("TakerBookModel", "ends", "[I", true)
  | 36 => ("TakerBookModel", "ahead", "[I", true)
  | 37 => ("TakerBookModel", "partSum", "J", false)
  | 38 => ("TakerBookModel", "whole", "J", false)
  | _ => ("TakerBookModel", "hash", "J", false)
def cls : List vw_C := [(R_T, F_T, 15), (R_B, F_B, 19), (R_P, F_P, 12), (R_K, F_K, 6), (R_D, F_D, 3), (R_R, F_R, 5), (R_Th, F_Th, 0), (R_Re, F_Re, 0), (R_Cl, F_Cl, 0), (R_Ga, F_Ga, 0), (R_La, F_La, 0), (R_Yo, F_Yo, 0), (R_M, F_M, 40)]
theorem u_pos {C : String} {T : u_T} {N : Nat} (ps : List Nat) (h : ps.map (fun i => lw_tbl[i]?) = (u_ws C T N).map some) : ∀ w ∈ u_ws C T N, w ∈ lw_tbl := by
  intro w hw
  have h1 : some w ∈ ps.map (fun i => lw_tbl[i]?) := by rw [h]; exact List.mem_map.mpr ⟨w, hw, rfl⟩
  obtain ⟨i, -, hi⟩ := List.mem_map.mp h1
  exact List.mem_of_getElem? hi
set_option maxRecDepth 20000 in
theorem i_T : ∀ w ∈ u_ws R_T F_T 15, w ∈ lw_tbl := u_pos [370, 372, 374, 376, 378, 380, 382, 384, 386, 388, 390, 392, 394, 396, 398] (by decide +kernel)
set_option maxRecDepth 20000 in
theorem i_B : ∀ w ∈ u_ws R_B F_B 19, w ∈ lw_tbl := u_pos [219, 221, 223, 225, 227, 229, 231, 233, 235, 237, 239, 241, 243, 245, 247, 249, 251, 253, 255] (by decide +kernel)
set_option maxRecDepth 20000 in
theorem i_P : ∀ w ∈ u_ws R_P F_P 12, w ∈ lw_tbl := u_pos [281, 283, 285, 287, 289, 291, 293, 295, 297, 299, 301, 303] (by decide +kernel)
set_option maxRecDepth 20000 in
theorem i_K : ∀ w ∈ u_ws R_K F_K 6, w ∈ lw_tbl := u_pos [322, 324, 326, 328, 330, 332] (by decide +kernel)
set_option maxRecDepth 20000 in
theorem i_D : ∀ w ∈ u_ws R_D F_D 3, w ∈ lw_tbl := u_pos [347, 349, 351] (by decide +kernel)
set_option maxRecDepth 20000 in
theorem i_R : ∀ w ∈ u_ws R_R F_R 5, w ∈ lw_tbl := u_pos [117, 119, 121, 123, 125] (by decide +kernel)
set_option maxRecDepth 20000 in
theorem i_Th : ∀ w ∈ u_ws R_Th F_Th 0, w ∈ lw_tbl := u_pos [] (by decide +kernel)
set_option maxRecDepth 20000 in
theorem i_Re : ∀ w ∈ u_ws R_Re F_Re 0, w ∈ lw_tbl := u_pos [] (by decide +kernel)
set_option maxRecDepth 20000 in
theorem i_Cl : ∀ w ∈ u_ws R_Cl F_Cl 0, w ∈ lw_tbl := u_pos [] (by decide +kernel)
set_option maxRecDepth 20000 in
theorem i_Ga : ∀ w ∈ u_ws R_Ga F_Ga 0, w ∈ lw_tbl := u_pos [] (by decide +kernel)
set_option maxRecDepth 20000 in
theorem i_La : ∀ w ∈ u_ws R_La F_La 0, w ∈ lw_tbl := u_pos [] (by decide +kernel)
set_option maxRecDepth 20000 in
theorem i_Yo : ∀ w ∈ u_ws R_Yo F_Yo 0, w ∈ lw_tbl := u_pos [] (by decide +kernel)
set_option maxRecDepth 20000 in
theorem i_M : ∀ w ∈ u_ws R_M F_M 40, w ∈ lw_tbl := u_pos [1019, 1021, 1023, 1025, 1027, 1029, 1031, 1033, 1035, 1037, 1039, 1041, 1043, 1045, 1047, 1049, 1051, 1053, 1055, 1057, 1059, 1061, 1063, 1065, 1067, 1069, 1071, 1073, 1075, 1077, 1079, 1081, 1083, 1085, 1087, 1089, 1091, 1093, 1095, 1097] (by decide +kernel)
abbrev Sh : Type := (FieldType × Nat) ⊕ ((FieldType × Nat × (Nat → Nat)) ⊕ (Nat × List (Nat ⊕ Bool)))
/-- the cells, by number: arrays of numbers; arrays of cells; objects (class, fields: a cell, an int, a long) -/
def Gam : List Sh := [
  .inr (.inr (0, [.inl 1, .inl 8, .inl 9, .inl 14, .inl 15, .inl 19, .inl 34, .inl 40, .inl 49, .inl 52, .inl 62, .inr false, .inr false, .inr true, .inr true])), -- 0 T
  .inr (.inl ((.array .int), 6, fun j => 2 + j)), -- 1 rows
  .inl (.int, 40), -- 2 row0
  .inl (.int, 40), -- 3 row1
  .inl (.int, 40), -- 4 row2
  .inl (.int, 40), -- 5 row3
  .inl (.int, 40), -- 6 row4
  .inl (.int, 40), -- 7 row5
  .inl (.int, 6), -- 8 rowSizes
  .inr (.inl ((.array .byte), 4, fun j => 10 + j)), -- 9 texts
  .inl (.byte, 60), -- 10 text0
  .inl (.byte, 60), -- 11 text1
  .inl (.byte, 60), -- 12 text2
  .inl (.byte, 60), -- 13 text3
  .inl (.int, 4), -- 14 textSizes
  .inr (.inr (5, [.inl 16, .inl 17, .inl 18, .inr false, .inr false])), -- 15 R
  .inl (.int, 6), -- 16 R.kind
  .inl (.int, 4), -- 17 R.ofBook
  .inl (.int, 18), -- 18 R.ofThieves
  .inr (.inr (1, [.inl 20, .inl 27, .inl 28, .inl 29, .inl 30, .inl 31, .inl 32, .inl 33, .inr false, .inr false, .inr false, .inr false, .inr false, .inr false, .inr false, .inr false, .inr false, .inr false, .inr false])), -- 19 B
  .inr (.inl ((.object "TakerBook$Thief"), 6, fun j => 21 + j)), -- 20 natures
  .inr (.inr (6, [])), -- 21 nat0
  .inr (.inr (7, [])), -- 22 nat1
  .inr (.inr (8, [])), -- 23 nat2
  .inr (.inr (9, [])), -- 24 nat3
  .inr (.inr (10, [])), -- 25 nat4
  .inr (.inr (11, [])), -- 26 nat5
  .inl (.int, 6), -- 27 B.kind
  .inl (.int, 6), -- 28 B.skill
  .inl (.int, 6), -- 29 B.boldness
  .inl (.int, 6), -- 30 B.firstCrosses
  .inl (.int, 6), -- 31 B.crosses
  .inl (.int, 6), -- 32 B.lootNow
  .inl (.int, 6), -- 33 B.priceNow
  .inr (.inr (2, [.inl 35, .inl 36, .inl 37, .inl 38, .inl 39, .inr false, .inr false, .inr false, .inr false, .inr false, .inr false, .inr false])), -- 34 P
  .inl (.boolean, 64), -- 35 P.trying
  .inl (.int, 64), -- 36 P.loot
  .inl (.int, 6), -- 37 P.price
  .inl (.int, 4), -- 38 P.plan
  .inl (.int, 4), -- 39 P.first
  .inr (.inr (3, [.inl 41, .inl 48, .inr false, .inr false, .inr false, .inr false])), -- 40 K
  .inr (.inl ((.array .int), 6, fun j => 42 + j)), -- 41 K.talking
  .inl (.int, 3), -- 42 K.talk0
  .inl (.int, 3), -- 43 K.talk1
  .inl (.int, 3), -- 44 K.talk2
  .inl (.int, 3), -- 45 K.talk3
  .inl (.int, 3), -- 46 K.talk4
  .inl (.int, 3), -- 47 K.talk5
  .inl (.int, 6), -- 48 K.crosses
  .inr (.inr (4, [.inl 50, .inl 51, .inr false])), -- 49 D
  .inl (.int, 40), -- 50 D.what
  .inl (.int, 40), -- 51 D.of
  .inr (.inl ((.object "TakerBook$Deeds"), 3, fun j => 53 + 3 * j)), -- 52 kept
  .inr (.inr (4, [.inl 54, .inl 55, .inr false])), -- 53 D0
  .inl (.int, 40), -- 54 D0.what
  .inl (.int, 40), -- 55 D0.of
  .inr (.inr (4, [.inl 57, .inl 58, .inr false])), -- 56 D1
  .inl (.int, 40), -- 57 D1.what
  .inl (.int, 40), -- 58 D1.of
  .inr (.inr (4, [.inl 60, .inl 61, .inr false])), -- 59 D2
  .inl (.int, 40), -- 60 D2.what
  .inl (.int, 40), -- 61 D2.of
  .inl (.int, 6), -- 62 found
  .inr (.inr (12, [.inr false, .inl 64, .inr false, .inr true, .inr true, .inl 65, .inl 66, .inl 67, .inl 68, .inl 69, .inr false, .inl 70, .inl 71, .inl 72, .inl 73, .inr false, .inr false, .inr false, .inl 74, .inl 75, .inl 76, .inl 77, .inr false, .inl 78, .inl 79, .inl 80, .inl 81, .inl 82, .inl 83, .inr false, .inr false, .inr false, .inr false, .inr false, .inl 84, .inl 85, .inl 86, .inr true, .inr true, .inr true])), -- 63 M
  .inl (.int, 6), -- 64 M.came
  .inl (.int, 6), -- 65 M.sizes
  .inl (.int, 240), -- 66 M.rows
  .inl (.int, 40), -- 67 M.copied
  .inl (.int, 4), -- 68 M.textSizes
  .inl (.byte, 240), -- 69 M.bytes
  .inl (.int, 4), -- 70 M.head
  .inl (.int, 6), -- 71 M.kindOf
  .inl (.int, 6), -- 72 M.skills
  .inl (.int, 6), -- 73 M.boldness
  .inl (.int, 4), -- 74 M.readHead
  .inl (.int, 24), -- 75 M.readThief
  .inl (.int, 11), -- 76 M.now
  .inl (.int, 11), -- 77 M.tried
  .inl (.int, 440), -- 78 M.log
  .inl (.boolean, 3), -- 79 M.isKept
  .inl (.int, 3), -- 80 M.keptMany
  .inl (.int, 33), -- 81 M.keptNow
  .inl (.int, 1320), -- 82 M.keptLog
  .inl (.int, 4), -- 83 M.plan
  .inl (.int, 6), -- 84 M.fitWith
  .inl (.int, 729), -- 85 M.ends
  .inl (.int, 729) -- 86 M.ahead
  ]
/-- the links to nest mates: (own class, entry, method, host) -/
def nestL : List (String × Nat × MethodName × String) := [
  ("TakerBook", 28, ({ cls := "TakerBook$Reader", name := "<init>", desc := "()V" } : Jvm.MethodName), "TakerBook"),
  ("TakerBook", 35, ({ cls := "TakerBook$Band", name := "<init>", desc := "()V" } : Jvm.MethodName), "TakerBook"),
  ("TakerBook$Band", 11, ({ cls := "TakerBook$Thief", name := "<init>", desc := "()V" } : Jvm.MethodName), "TakerBook"),
  ("TakerBook$Band", 14, ({ cls := "TakerBook$Returned", name := "<init>", desc := "()V" } : Jvm.MethodName), "TakerBook"),
  ("TakerBook$Returned", 3, ({ cls := "TakerBook$Thief", name := "<init>", desc := "()V" } : Jvm.MethodName), "TakerBook"),
  ("TakerBook$Band", 17, ({ cls := "TakerBook$Clerk", name := "<init>", desc := "()V" } : Jvm.MethodName), "TakerBook"),
  ("TakerBook$Clerk", 3, ({ cls := "TakerBook$Thief", name := "<init>", desc := "()V" } : Jvm.MethodName), "TakerBook"),
  ("TakerBook$Band", 20, ({ cls := "TakerBook$Gang", name := "<init>", desc := "()V" } : Jvm.MethodName), "TakerBook"),
  ("TakerBook$Gang", 3, ({ cls := "TakerBook$Thief", name := "<init>", desc := "()V" } : Jvm.MethodName), "TakerBook"),
  ("TakerBook$Band", 23, ({ cls := "TakerBook$Lace", name := "<init>", desc := "()V" } : Jvm.MethodName), "TakerBook"),
  ("TakerBook$Lace", 3, ({ cls := "TakerBook$Returned", name := "<init>", desc := "()V" } : Jvm.MethodName), "TakerBook"),
  ("TakerBook$Band", 26, ({ cls := "TakerBook$Young", name := "<init>", desc := "()V" } : Jvm.MethodName), "TakerBook"),
  ("TakerBook$Young", 3, ({ cls := "TakerBook$Gang", name := "<init>", desc := "()V" } : Jvm.MethodName), "TakerBook"),
  ("TakerBook", 42, ({ cls := "TakerBook$Plans", name := "<init>", desc := "()V" } : Jvm.MethodName), "TakerBook"),
  ("TakerBook", 49, ({ cls := "TakerBook$Marks", name := "<init>", desc := "()V" } : Jvm.MethodName), "TakerBook"),
  ("TakerBook", 56, ({ cls := "TakerBook$Deeds", name := "<init>", desc := "()V" } : Jvm.MethodName), "TakerBook"),
  ("TakerBook$Band", 111, ({ cls := "TakerBook", name := "isIn", desc := "(II)Z" } : Jvm.MethodName), "TakerBook"),
  ("TakerBook$Marks", 53, ({ cls := "TakerBook", name := "isBetter", desc := "(IIII)Z" } : Jvm.MethodName), "TakerBook"),
  ("TakerBook$Marks", 57, ({ cls := "TakerBook", name := "isIn", desc := "(II)Z" } : Jvm.MethodName), "TakerBook"),
  ("TakerBook$Plans", 85, ({ cls := "TakerBook", name := "isIn", desc := "(II)Z" } : Jvm.MethodName), "TakerBook")
  ]
def nestW (q : String × Nat × MethodName × String) : Cond := .methodLinkNest q.1 q.2.1 q.2.2.1 q.2.2.2
set_option maxRecDepth 20000 in
theorem nest_in : ∀ q ∈ nestL, nestW q ∈ lw_tbl := by decide +kernel
/-- the static arrays that nobody writes: field, type, length, contents -/
def stab : List (String × String × FieldType × Nat × (Nat → Int32)) := [
  ("LETTERS", "[C", .char, 6, fun j => [116, 114, 99, 103, 108, 121].getD j 0),
  ("LEAST_OF_BOOK", "[I", .int, 4, fun j => [0, 0, 0, 1].getD j 0),
  ("MOST_OF_BOOK", "[I", .int, 4, fun j => [9, 9, 9, 6].getD j 0),
  ("LEAST_OF_THIEF", "[I", .int, 3, fun j => [0, 0, 0].getD j 0),
  ("MOST_OF_THIEF", "[I", .int, 3, fun j => [9, 9, 2].getD j 0)]
