-- the public deeds
theorem n1l : nI 1 = 1 := rfl
theorem n2l : nI 2 = 2 := rfl
theorem n3l : nI 3 = 3 := rfl
theorem pos_le {x : Int32} (h : ¬ x ≤ 0) : 0 ≤ x := by
  simp only [Int32.le_iff_toInt_le] at *
  omega
