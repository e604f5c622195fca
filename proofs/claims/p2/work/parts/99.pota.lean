/-- over 512 calls the numbers stay small -/
theorem a_Z.sm {N i : Nat} {a : aS} (z : a_Z N i a) (hi : i ≤ 512) : a_tm a < 2 ^ 30 ∧ (a_ev a).length < 2 ^ 30 ∧ a_rs a ≤ 30208 := by
  obtain ⟨-, -, h1, h2⟩ := z
  have h3 : 1082000 * i ≤ 1082000 * 512 := Nat.mul_le_mul_left _ hi
  have h4 : a_w a ≤ 800 + 1082000 * 512 := Nat.le_trans (Nat.le_trans (Nat.le_add_right _ _) h1) (Nat.add_le_add_left h3 _)
  have h5 : a_w a < 2 ^ 30 := Nat.lt_of_le_of_lt h4 (by decide)
  have h6 : 59 * i ≤ 59 * 512 := Nat.mul_le_mul_left _ hi
  have t : a_tm a ≤ a_w a := by
    unfold a_w
    omega
  have e : (a_ev a).length ≤ a_w a := by
    unfold a_w
    omega
  exact ⟨Nat.lt_of_le_of_lt t h5, Nat.lt_of_le_of_lt e h5, Nat.le_trans (Nat.le_trans (Nat.le_add_right _ _) h2) h6⟩
