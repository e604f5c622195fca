theorem kt_inc {i : Int32} (h : i.toInt < 1000000) : (i + Int32.ofInt 1).toInt = i.toInt + 1 := by
  have h1 : (Int32.ofInt 1).toInt = 1 := by decide
  have h2 := Int32.le_toInt i
  rw [Int32.toInt_add, h1]
  exact Int.bmod_eq_of_le (by omega) (by omega)
