-- quotients, findings
theorem le_trans1 {x : Int32} (h : ¬ x < 1) : 0 ≤ x := by
  simp only [Int32.lt_iff_toInt_lt, Int32.le_iff_toInt_le] at *
  have h1 : (1 : Int32).toInt = 1 := rfl
  have h2 : (0 : Int32).toInt = 0 := rfl
  omega
theorem lt6 {x : Int32} (h : ¬ x < 1) (h5 : x ≤ 5) : ix x < 6 := by
  obtain ⟨j, hj, e, rfl⟩ := nat_of (M := 5) (le_trans1 h) h5 rfl (by decide)
  omega
theorem gcd_p {a b : Nat} (hb : 0 < b) : 0 < Nat.gcd a b := Nat.gcd_pos_of_pos_right a hb
theorem gcd_lt {a b n : Nat} (h : b < n) (hb : 0 < b) : Nat.gcd a b < n := Nat.lt_of_le_of_lt (Nat.gcd_le_right a hb) h
theorem nlt_of_le {x : Int32} (h : x ≤ 0) : ¬ 0 < x := i_nlt.mpr h
