/-- a node is started: begin, again -/
theorem a_Z.go {N i : Nat} {a : aS} (z : a_Z N i a) {f n : Nat} (hf : f ≤ 9) (hn : n < a_mk a) (h3 : ¬ a_nd a 3 n = 2) (hu : ¬ a_nd a 3 n = 1) (h9 : (9 : Int) ≤ f + a_nd a 2 n) (hp : n = 0 ∨ a_nd a 3 (a_pa a n) = 1) : a_Z N (i + 1) (a_go f n a).2 := by
  obtain ⟨I, x, -, -⟩ := id z
  have hp' : n = 0 ∨ a_nd a 3 (a_pa a n) = 1 ∨ (fun _ : Nat => False) (a_pa a n) := by
    rcases hp with h | h
    · exact Or.inl h
    · exact Or.inr (Or.inl h)
  have kg := a_go_gk f n a I.1 I.2.1 hn h3
  have u := (a_go_Us f n (fun _ => False) a I.1 I.2.1 hn h3 h9 hu (fun _ h => h.elim) hp' x).1
  have w := a_go_pw f n (fun _ => False) a I.1 I.2.1 hn h3 h9 hu (fun _ h => h.elim) hp' x
  have u8 : a_u (a_go f n a).2 ≤ 80 := a_ci_80 _ 1
  refine z.lt (I.gk kg) u ?_ (a_go_11 f n a I.1 hn h9).1 kg.1.rs
  by_cases g : (a_go f n a).1 = true
  · have := (w.1 g).2
    omega
  · have := w.2 g
    omega
/-- TIME passes -/
theorem a_Z.pass {N i : Nat} {a : aS} (z : a_Z N i a) {k : Nat} (hk : k ≤ 10000) : a_Z N (i + 1) (a_st a (a_tm a + k)) := by
  obtain ⟨I, x, -, -⟩ := id z
  refine z.lt (I.gk (a_gk.st a (Nat.le_add_right _ _))) x ?_ (a_fd.of rfl) rfl
  have e1 : a_ci (a_st a (a_tm a + k)) 1 80 = a_ci a 1 80 := a_ci_eq (fun _ => Iff.rfl) 80
  have e2 : a_ci (a_st a (a_tm a + k)) 2 80 = a_ci a 2 80 := a_ci_eq (fun _ => Iff.rfl) 80
  have et : a_tm (a_st a (a_tm a + k)) = a_tm a + k := rfl
  have ee : a_ev (a_st a (a_tm a + k)) = a_ev a := rfl
  unfold a_w a_u
  rw [e1, e2, et, ee]
  omega
/-- remove -/
theorem a_Z.rem {N i : Nat} {a : aS} (z : a_Z N i a) {n : Nat} (hn : n < a_mk a) (h0 : n ≠ 0) (h3 : ¬ a_nd a 3 n = 2) : a_Z N (i + 1) (a_dis (a_fu a n) (a_pa a n) n (a_ix n (a_rw a (a_pa a n))) a).2 := by
  obtain ⟨I, x, -, -⟩ := id z
  have r2 := I.1.r2 hn
  have efu : a_fu a n = (9 - a_nd a 2 n).toNat := rfl
  obtain ⟨f, ef⟩ : ∃ f, a_fu a n = f + 1 := ⟨a_fu a n - 1, by omega⟩
  have p1 := a_dis_pw f (a_pa a n) n (a_ix n (a_rw a (a_pa a n))) a (Nat.lt_of_lt_of_le hn I.1.1.2) h3
  rw [← ef] at p1
  exact z.lt (I.dis hn h0 h3 (by omega)) (a_U.dis x I hn h0 h3 (by omega)) (Nat.le_trans p1 (Nat.le_add_right _ _)) (a_fd.of (a_dis_11 _ _ _ _ a)) (a_dis_k2 _ _ _ _ a).rs
/-- stop -/
theorem a_Z.stop {N i : Nat} {a : aS} (z : a_Z N i a) {n : Nat} (hn : n < a_mk a) (h0 : n ≠ 0) (hu : a_nd a 3 n = 1) : a_Z N (i + 1) (a_rl (a_fu a n) (a_pa a n) n (a_ix n (a_rw a (a_pa a n))) a) := by
  obtain ⟨I, x, -, -⟩ := id z
  have h3 : ¬ a_nd a 3 n = 2 := by omega
  obtain ⟨w1, w2, w3⟩ := I.2.1.2.2.1 n hn h0 h3
  have r1 := I.1.r1 hn h0
  have r2 := I.1.r2 hn
  have epa : a_pa a n = (a_nd a 1 n).toNat := rfl
  have efu : a_fu a n = (9 - a_nd a 2 n).toNat := rfl
  have hpm : a_pa a n < a_mk a := by omega
  obtain ⟨d1, d2, d3, d4, d5⟩ := a_kid I.1 I.2.1.1 hpm w1
  have h8 : (8 : Int) ≤ (a_fu a n : Nat) + a_nd a 2 (a_pa a n) := by omega
  obtain ⟨i1, i2, i3⟩ := a_ix_ok w1
  have y := (a_rl_I (f := a_fu a n) I hpm w3 h8 i1).1
  have u := (a_rl_U (f := a_fu a n) x I hpm w3 h8 i1).1
  rw [i2] at y u
  obtain ⟨f, ef⟩ : ∃ f, a_fu a n = f + 1 := ⟨a_fu a n - 1, by omega⟩
  have p1 := a_rl_pw (f := f) (p := a_pa a n) (t := a_ix n (a_rw a (a_pa a n))) I hn hu
  rw [← ef] at p1
  exact z.lt y u (Nat.le_trans p1 (Nat.le_add_right _ _)) (a_fd.of (a_rl_11 _ _ _ _ a)) (a_rl_k2 _ _ _ _ a).rs
/-- ends -/
theorem a_Z.ends {N i : Nat} (hN : 80 ≤ N) {a : aS} (z : a_Z N i a) {n y : Nat} (hn : n < a_mk a) (hk : a_nd a 0 n = 0) (hu : a_nd a 3 n = 1) : (a_hq 9 n y (a_no (a_sn a 3 n 0) 5 n y) ∧ a_hok 9 n y (a_no (a_sn a 3 n 0) 5 n y)) ∧ a_Z N (i + 1) (a_hd 9 n y (a_no (a_sn a 3 n 0) 5 n y)) := by
  obtain ⟨I, x, -, -⟩ := id z
  have h3 : ¬ a_nd a 3 n = 2 := by omega
  have r2 := I.1.r2 hn
  have hn8 : n < 80 := Nat.lt_of_lt_of_le hn I.1.1.2
  have kg : a_gk a (a_no (a_sn a 3 n 0) 5 n y) := (a_gk.sn3 a hn h3 (by omega)).tr (a_gk.no _ _ _ _)
  have e3 : ∀ m, a_nd (a_no (a_sn a 3 n 0) 5 n y) 3 m = if m = n then 0 else a_nd a 3 m := fun m => a_nd_sn3 a n m 0
  have u1 : a_U (a_no (a_sn a 3 n 0) 5 n y) := a_Us.put x I.2.1 (n := n) (fun c hc => by rw [I.1.2.2.2.2.1 n hn hk] at hc; cases hc) rfl (a_nd1 kg.1) e3
  have e11 : a_fs (a_no (a_sn a 3 n 0) 5 n y) N = a_fs a N := a_fs_eq (a := a) (b := a_no (a_sn a 3 n 0) 5 n y) (show a_nd (a_sn a 3 n 0) 11 = a_nd a 11 from a_nd_sne (f := 3) (g := 11) a n 0 (by decide)) N
  have w : a_w (a_no (a_sn a 3 n 0) 5 n y) ≤ a_w a := by
    have c1 := a_ci_mono (a := a) (b := a_no (a_sn a 3 n 0) 5 n y) (s := 1) (fun m h => by rw [e3] at h; split at h; cases h; exact h) 80
    have c2 := a_ci_out (a := a) (b := a_no (a_sn a 3 n 0) 5 n y) (s := 1) (n := n) (fun m h => by rw [e3] at h; split at h; cases h; exact h) hu (by rw [e3, if_pos rfl]; decide) 80 hn8
    have g := kg.g
    have et : a_tm (a_no (a_sn a 3 n 0) 5 n y) = a_tm a := rfl
    have ee : (a_ev (a_no (a_sn a 3 n 0) 5 n y)).length = (a_ev a).length + 1 := by
      show (a_ev a ++ [_]).length = _
      rw [List.length_append]
      rfl
    unfold a_w a_u
    rw [g, et, ee]
    omega
  have ers : a_rs (a_no (a_sn a 3 n 0) 5 n y) = a_rs a := rfl
  generalize a_no (a_sn a 3 n 0) 5 n y = b at *
  have hup : n ≠ 0 → a_nd b 3 (a_pa b n) = 1 := fun h0 => by
    have ep : a_pa b n = a_pa a n := by show (a_nd b 1 n).toNat = (a_nd a 1 n).toNat; rw [kg.1.nd]
    have r1 := I.1.r1 hn h0
    have epn : a_pa a n = (a_nd a 1 n).toNat := rfl
    rw [ep, e3, if_neg (by omega)]
    exact a_U.up x hn h0 hu
  have hn' : n < a_mk b := by rw [kg.1.mk]; exact hn
  have h3' : ¬ a_nd b 3 n = 2 := by rw [e3, if_pos rfl]; decide
  have hd' : ¬ a_nd b 3 n = 1 := by rw [e3, if_pos rfl]; decide
  obtain ⟨t1, t2, t3, t4, t5⟩ := a_hd_pw hN 9 n y b (I.gk kg) u1 hn' h3' hd' hup
  refine ⟨a_hq_of 9 n y b (I.gk kg) u1 hn' h3' hd' (by rw [kg.1.nd]; show a_nd a 2 n < 9; omega) hup, z.mk' t4 t5 ?_ ?_⟩
  · refine k_z4 (k := 0) (Nat.le_trans t1 (Nat.add_le_add_right ?_ _))
    rw [e11]
    exact Nat.add_le_add_right w _
  · rw [e11, ers] at t2
    omega
