/-! ===== the calls ===== -/
def a_Z (N i : Nat) (a : aS) : Prop := a_I a ∧ a_U a ∧ a_w a + 18000 * a_fs a N ≤ 800 + 1082000 * i ∧ a_rs a + a_fs a N ≤ 59 * i
theorem k_z1 {X Y i : Nat} (h : Y ≤ 800 + 1082000 * i) (g : X ≤ Y + 1082000) : X ≤ 800 + 1082000 * (i + 1) := by
  rw [Nat.mul_add, Nat.mul_one, ← Nat.add_assoc]
  exact Nat.le_trans g (Nat.add_le_add_right h _)
theorem k_z2 {X Y i : Nat} (h : Y ≤ 59 * i) (g : X ≤ Y + 59) : X ≤ 59 * (i + 1) := by omega
theorem a_Z.mk' {N i : Nat} {a b : aS} (z : a_Z N i a) (hI : a_I b) (hU : a_U b) (g1 : a_w b + 18000 * a_fs b N ≤ a_w a + 18000 * a_fs a N + 1082000) (g2 : a_rs b + a_fs b N ≤ a_rs a + a_fs a N + 59) : a_Z N (i + 1) b := ⟨hI, hU, k_z1 z.2.2.1 g1, k_z2 z.2.2.2 g2⟩
/-- what is refused, or only asks -/
theorem a_Z.st {N i : Nat} {a : aS} (z : a_Z N i a) : a_Z N (i + 1) a := z.mk' z.1 z.2.1 (Nat.le_add_right _ _) (Nat.le_add_right _ _)
theorem k_z3 {w w' f f' : Nat} (h : w' ≤ w + 20000) (g : f' ≤ f) : w' + 18000 * f' ≤ w + 18000 * f + 1082000 := by
  have h1 : 18000 * f' ≤ 18000 * f := Nat.mul_le_mul_left _ g
  have h2 : w' + 18000 * f' ≤ w + 20000 + 18000 * f := Nat.add_le_add h h1
  generalize 18000 * f = F at *
  generalize 18000 * f' = F' at *
  omega
theorem a_Z.lt {N i : Nat} {a b : aS} (z : a_Z N i a) (hI : a_I b) (hU : a_U b) (hw : a_w b ≤ a_w a + 20000) (hf : a_fd a b) (hr : a_rs b = a_rs a) : a_Z N (i + 1) b := by
  have h := a_fs_le hf N
  exact z.mk' hI hU (k_z3 hw h) (by omega)
theorem k_z4 {X Y k : Nat} (h : X ≤ Y + 18000 * 9) : X ≤ Y + 1082000 := Nat.le_trans h (Nat.add_le_add_left (by decide) Y)
/-- kill -/
theorem a_Z.kill {N i : Nat} (hN : 80 ≤ N) {a : aS} (z : a_Z N i a) {n : Nat} (hn : n < a_mk a) (hu : a_nd a 3 n = 1) : (a_hq 9 n 9 (a_ce true (a_fu a n) n a).2 ∧ a_hok 9 n 9 (a_ce true (a_fu a n) n a).2) ∧ a_Z N (i + 1) (a_hd 9 n 9 (a_ce true (a_fu a n) n a).2) := by
  obtain ⟨I, x, -, -⟩ := id z
  have h3 : ¬ a_nd a 3 n = 2 := by omega
  have r2 := I.1.r2 hn
  have efu : a_fu a n = (9 - a_nd a 2 n).toNat := rfl
  have kg := a_ce_gk true (a_fu a n) n a I.1 hn h3
  obtain ⟨u1, u2⟩ := a_ce_Us true (a_fu a n) n a I.1 I.2.1 hn h3 (by omega) x
  have lo := a_ce_lo true (a_fu a n) n a I.1 I.2.1.1 hn
  have w := a_ce_pw true (a_fu a n) n a I.1 I.2.1.1 hn hu
  have e11 := a_fs_eq (a_ce_11 true (a_fu a n) n a) N
  generalize (a_ce true (a_fu a n) n a).2 = b at *
  have hup : n ≠ 0 → a_nd b 3 (a_pa b n) = 1 := fun h0 => by
    have ep : a_pa b n = a_pa a n := by show (a_nd b 1 n).toNat = (a_nd a 1 n).toNat; rw [kg.1.nd]
    have r1 := I.1.r1 hn h0
    have epn : a_pa a n = (a_nd a 1 n).toNat := rfl
    rw [ep, lo _ (by omega)]
    exact a_U.up x hn h0 hu
  have hn' : n < a_mk b := by rw [kg.1.mk]; exact hn
  have h3' : ¬ a_nd b 3 n = 2 := by rw [u2]; decide
  have hd' : ¬ a_nd b 3 n = 1 := by rw [u2]; decide
  obtain ⟨t1, t2, t3, t4, t5⟩ := a_hd_pw hN 9 n 9 b (I.gk kg) u1 hn' h3' hd' hup
  refine ⟨a_hq_of 9 n 9 b (I.gk kg) u1 hn' h3' hd' (by rw [kg.1.nd]; show a_nd a 2 n < 9; omega) hup, z.mk' t4 t5 ?_ ?_⟩
  · refine k_z4 (k := 0) (Nat.le_trans t1 (Nat.add_le_add_right ?_ _))
    rw [e11]
    exact Nat.add_le_add_right w _
  · rw [e11, kg.1.rs] at t2
    omega
