/-- keeper -/
theorem a_Z.kpr {N i : Nat} {a : aS} (z : a_Z N i a) {p : Nat} {v : Nat → Int} (hp : p < a_mk a) (hk : a_nd a 0 p = 1) (h3 : ¬ a_nd a 3 p = 2) (h80 : a_mk a < 80) (T' : a_T (a_add p v a)) (v1 : v 1 = p) (v2 : v 2 = a_nd a 2 p + 1) (v3 : v 3 = 0) (v11 : v 11 ≤ 50) : a_Z N (i + 1) (a_kpr p v a) := by
  obtain ⟨I, x, -, -⟩ := id z
  unfold a_kpr
  by_cases hu : a_nd a 3 p = 1
  · rw [if_pos hu]
    obtain ⟨y1, y2, y3, y4, y5, -⟩ := a_add_go (N := N) I x hp hk hu h80 T' v1 v2 v3 v11
    exact z.lf y1 y2 (Nat.le_trans y3 (Nat.add_le_add_left (by decide) _)) y4 y5
  · rw [if_neg hu]
    obtain ⟨y1, y2, y3, y4⟩ := a_add_Z (N := N) I x hp hk h3 h80 T' v1 v3 v11
    exact z.lf y1 y2 (by rw [y3]; exact Nat.le_add_right _ _) y4 rfl
/-- worker -/
theorem a_Z.wkr {N i : Nat} {a : aS} (z : a_Z N i a) {p : Nat} {v : Nat → Int} (hp : p < a_mk a) (hk : a_nd a 0 p = 1) (h3 : ¬ a_nd a 3 p = 2) (h80 : a_mk a < 80) (T' : a_T (a_add p v a)) (v1 : v 1 = p) (v2 : v 2 = a_nd a 2 p + 1) (v3 : v 3 = 0) (v11 : v 11 ≤ 50) : a_Z N (i + 1) (a_wkr p v a).2 := by
  obtain ⟨I, x, -, -⟩ := id z
  unfold a_wkr
  by_cases hu : a_nd a 3 p = 1
  · rw [if_pos hu]
    obtain ⟨y1, y2, y3, y4, y5, kg⟩ := a_add_go (N := N) I x hp hk hu h80 T' v1 v2 v3 v11
    split
    · exact z.lf y1 y2 (Nat.le_trans y3 (Nat.add_le_add_left (by decide) _)) y4 y5
    · have en : ∀ f n, a_nd (a_add p v a) f n = if n = a_mk a then v f else a_nd a f n := fun f n => rfl
      have e3 : a_nd (a_add p v a) 3 (a_mk a) = 0 := by rw [en, if_pos rfl]; exact v3
      have e2 : a_nd (a_add p v a) 2 (a_mk a) = a_nd a 2 p + 1 := by rw [en, if_pos rfl]; exact v2
      have e1 : a_nd (a_add p v a) 1 (a_mk a) = p := by rw [en, if_pos rfl]; exact v1
      have hmn : a_mk a < a_mk (a_add p v a) := Nat.lt_succ_self _
      have r2' := T'.r2 hmn
      have m1 := I.1.1.1
      have efu : a_fu (a_add p v a) (a_mk a) = (9 - a_nd (a_add p v a) 2 (a_mk a)).toNat := rfl
      obtain ⟨f, ef⟩ : ∃ f, a_fu (a_add p v a) (a_mk a) = f + 1 := ⟨a_fu (a_add p v a) (a_mk a) - 1, by omega⟩
      have h9 : (9 : Int) ≤ (a_fu (a_add p v a) (a_mk a) : Nat) + a_nd (a_add p v a) 2 (a_mk a) := by omega
      generalize a_fu (a_add p v a) (a_mk a) = F at *
      generalize (a_go F (a_mk a) (a_add p v a)).2 = b at *
      have epa : a_pa b (a_mk a) = p := by
        show (a_nd b 1 (a_mk a)).toNat = p
        rw [kg.1.nd, e1]
        rfl
      have hc : a_mk a < a_mk b := by rw [kg.1.mk]; exact hmn
      have hg : ¬ a_nd b 3 (a_mk a) = 2 := by rw [kg.2.1, e3]; decide
      have h9b : (9 : Int) ≤ F + a_nd b 2 (a_mk a) := by rw [kg.1.nd]; exact h9
      have q1 := y1.dis (f := F) hc (by omega) hg h9b
      have q2 := a_U.dis y2 y1 (f := F) hc (by omega) hg h9b
      rw [epa] at q1 q2
      have q3 := a_dis_pw f p (a_mk a) (a_ix (a_mk a) (a_rw b p)) b h80 hg
      rw [← ef] at q3
      have q4 := a_fs_eq (a_dis_11 F p (a_mk a) (a_ix (a_mk a) (a_rw b p)) b) N
      exact z.lf q1 q2 (Nat.le_trans q3 (Nat.le_trans y3 (Nat.add_le_add_left (by decide) _))) (by rw [q4]; exact y4) ((a_dis_k2 _ _ _ _ b).rs.trans y5)
  · rw [if_neg hu]
    obtain ⟨y1, y2, y3, y4⟩ := a_add_Z (N := N) I x hp hk h3 h80 T' v1 v3 v11
    exact z.lf y1 y2 (by rw [y3]; exact Nat.le_add_right _ _) y4 rfl
