theorem k_lp1 {X Y k : Nat} (h : X ≤ Y + 18000) : X ≤ Y + 18000 * (k + 1) := Nat.le_trans h (Nat.add_le_add_left (Nat.le_mul_of_pos_right 18000 (Nat.succ_pos k)) Y)
theorem k_lp2 {X Y k : Nat} (h : X ≤ Y + 1) : X ≤ Y + (k + 1) := by omega
theorem k_lp3 {X Y Z k : Nat} (h : X ≤ Y + 18000 * k) (g : Y ≤ Z + 18000) : X ≤ Z + 18000 * (k + 1) := by omega
theorem k_lp4 {X Y Z k : Nat} (h : X ≤ Y + k) (g : Y ≤ Z + 1) : X ≤ Z + (k + 1) := by omega
theorem a_fs_eq {a b : aS} (h : a_nd b 11 = a_nd a 11) : ∀ i, a_fs b i = a_fs a i
  | 0 => rfl
  | i + 1 => by
    unfold a_fs
    rw [a_fs_eq h i, h]
theorem a_cn_w (p : Nat) (a : aS) : a_w (a_cn p a) = a_w a := by
  have e1 : a_ci (a_cn p a) 1 80 = a_ci a 1 80 := a_ci_eq (fun _ => Iff.rfl) 80
  have e2 : a_ci (a_cn p a) 2 80 = a_ci a 2 80 := a_ci_eq (fun _ => Iff.rfl) 80
  unfold a_w a_u
  rw [e1, e2]
  rfl
theorem a_sgv_w (t : Nat) (a : aS) : a_w (a_sgv a t) = a_w a := by
  have e1 : a_ci (a_sgv a t) 1 80 = a_ci a 1 80 := a_ci_eq (fun _ => Iff.rfl) 80
  have e2 : a_ci (a_sgv a t) 2 80 = a_ci a 2 80 := a_ci_eq (fun _ => Iff.rfl) 80
  unfold a_w a_u
  rw [e1, e2]
  rfl
theorem a_lp_pw {f p N : Nat} (hN : 80 ≤ N) (hf9 : f + 1 ≤ 9) : ∀ (k due : Nat) (a : aS), a_U a → a_I a → p < a_mk a → a_nd a 0 p = 1 → a_nd a 3 p = 1 → (8 : Int) ≤ (f + 1 : Nat) + a_nd a 2 p → due ∈ a_rw a p → ¬ a_nd a 3 due = 1 → a_w (a_lp (f + 1) p k due a).2 + 18000 * a_fs (a_lp (f + 1) p k due a).2 N ≤ a_w a + 18000 * a_fs a N + 18000 ∧ a_rs (a_lp (f + 1) p k due a).2 + a_fs (a_lp (f + 1) p k due a).2 N ≤ a_rs a + a_fs a N + 1 ∧ a_fd a (a_lp (f + 1) p k due a).2 := by
  intro k
  induction k with
  | zero =>
    intro due a x I hp hk hu h8 hm hdn
    have e : a_lp (f + 1) p 0 due a = (true, a) := rfl
    rw [e]
    exact ⟨Nat.le_add_right _ _, Nat.le_add_right _ _, a_fd.of rfl⟩
  | succ k ih =>
    intro due a x I hp hk hu h8 hm hdn
    have xc := I.cn hp hk
    have uc : a_U (a_cn p a) := x
    have h3 : ¬ a_nd a 3 p = 2 := by omega
    have wc := a_cn_w p a
    have fc : a_fs (a_cn p a) N = a_fs a N := a_fs_eq (a := a) (b := a_cn p a) rfl N
    have rc : a_rs (a_cn p a) = a_rs a + 1 := rfl
    by_cases hx : a_nd a 6 p < (a_rec (a_cn p a) p : Int)
    · rw [a_lp_gu hx]
      obtain ⟨g1, g2⟩ := a_gu_pw (f := f + 1) (p := p) (a := a_sgv (a_cn p a) (a_gv a + 1)) (xc.gv (a_gv a + 1)) hp h3
      rw [a_sgv_w, wc] at g1
      have g3 : a_fs (a_gu (f + 1) p (a_sgv (a_cn p a) (a_gv a + 1))) N = a_fs a N := a_fs_eq (a := a) (b := a_gu (f + 1) p (a_sgv (a_cn p a) (a_gv a + 1))) g2 N
      have g4 : a_rs (a_gu (f + 1) p (a_sgv (a_cn p a) (a_gv a + 1))) = a_rs a + 1 := (a_gu_kp (f + 1) p (a_sgv (a_cn p a) (a_gv a + 1))).rs
      refine ⟨?_, ?_, a_fd.of g2⟩
      · show a_w (a_gu (f + 1) p (a_sgv (a_cn p a) (a_gv a + 1))) + 18000 * a_fs (a_gu (f + 1) p (a_sgv (a_cn p a) (a_gv a + 1))) N ≤ _
        rw [g3]
        omega
      · show a_rs (a_gu (f + 1) p (a_sgv (a_cn p a) (a_gv a + 1))) + a_fs (a_gu (f + 1) p (a_sgv (a_cn p a) (a_gv a + 1))) N ≤ _
        rw [g3, g4]
        omega
    · obtain ⟨y1, y2⟩ := a_rd_I (f := f + 1) xc hp h3 h8 hm
      obtain ⟨u1, u2, u3⟩ := a_rd_U (f := f + 1) uc xc hp hu h8 hm hdn
      have k2 := a_rd_k2 (f + 1) p due (a_cn p a)
      have pw := a_rd_pw (f := f) uc xc hf9 hp hu h8 hm hdn
      obtain ⟨w1, w2⟩ := a_rd_11 (f := f + 1) xc hp h3 h8 hm
      have fl := a_fs_le w1 N
      have rr : a_rs (a_rd (f + 1) p due (a_cn p a)).2 = a_rs a + 1 := k2.rs
      rw [wc] at pw
      rw [fc] at fl
      have w1' : a_fd a (a_rd (f + 1) p due (a_cn p a)).2 := w1
      cases hr1 : (a_rd (f + 1) p due (a_cn p a)).1 with
      | none =>
        rw [a_lp_no hx hr1]
        refine ⟨?_, ?_, w1'⟩
        · show a_w (a_rd (f + 1) p due (a_cn p a)).2 + 18000 * a_fs (a_rd (f + 1) p due (a_cn p a)).2 N ≤ _
          omega
        · show a_rs (a_rd (f + 1) p due (a_cn p a)).2 + a_fs (a_rd (f + 1) p due (a_cn p a)).2 N ≤ _
          omega
      | some c =>
        rw [a_lp_so hx hr1]
        obtain ⟨m, m1, m2, m3⟩ := w2 (by rw [hr1]; exact fun q => by cases q)
        have m80 : a_mk (a_cn p a) ≤ 80 := I.1.1.2
        have hlt := a_fs_lt w1 m2 m3 N (by omega)
        rw [fc] at hlt
        obtain ⟨z1, z2, z3⟩ := ih c _ u1 y1 (by rw [k2.mk]; exact hp) (by rw [k2.nd]; exact hk) (by rw [y2]; exact hu) (by rw [k2.nd]; exact h8) (a_rd_mem (a := a_cn p a) hm hr1) (by rw [u3 c hr1]; decide)
        exact ⟨by omega, by omega, w1'.tr z3⟩
/-- the handling of an end -/
theorem a_hd_pw {N : Nat} (hN : 80 ≤ N) : ∀ (k c y : Nat) (a : aS), a_I a → a_U a → c < a_mk a → ¬ a_nd a 3 c = 2 → ¬ a_nd a 3 c = 1 → (c ≠ 0 → a_nd a 3 (a_pa a c) = 1) → a_w (a_hd k c y a) + 18000 * a_fs (a_hd k c y a) N ≤ a_w a + 18000 * a_fs a N + 18000 * k ∧ a_rs (a_hd k c y a) + a_fs (a_hd k c y a) N ≤ a_rs a + a_fs a N + k ∧ a_fd a (a_hd k c y a) ∧ a_I (a_hd k c y a) ∧ a_U (a_hd k c y a) := by
  intro k
  induction k with
  | zero =>
    intro c y a I x hc h3 hdn hup
    exact ⟨by show a_w a + _ ≤ _; exact Nat.le_add_right _ _, Nat.le_add_right _ _, a_fd.of rfl, I, x⟩
  | succ k ih =>
    intro c y a I x hc h3 hdn hup
    have stay : a_w a + 18000 * a_fs a N ≤ a_w a + 18000 * a_fs a N + 18000 * (k + 1) ∧ a_rs a + a_fs a N ≤ a_rs a + a_fs a N + (k + 1) ∧ a_fd a a ∧ a_I a ∧ a_U a := ⟨Nat.le_add_right _ _, Nat.le_add_right _ _, a_fd.of rfl, I, x⟩
    by_cases hc0 : c = 0
    · have el : a_hd (k + 1) c y a = a := by rw [a_hd, if_pos hc0]
      rw [el]
      exact stay
    · obtain ⟨w1, w2, w3⟩ := I.2.1.2.2.1 c hc hc0 h3
      have r1 := I.1.r1 hc hc0
      have r2 := I.1.r2 hc
      have epa : a_pa a c = (a_nd a 1 c).toNat := rfl
      have efu : a_fu a c = (9 - a_nd a 2 c).toNat := rfl
      have hpm : a_pa a c < a_mk a := by omega
      obtain ⟨d1, d2, d3, d4, d5⟩ := a_kid I.1 I.2.1.1 hpm w1
      have r2p := I.1.r2 hpm
      have h8 : (8 : Int) ≤ (a_fu a c : Nat) + a_nd a 2 (a_pa a c) := by omega
      have hu := hup hc0
      have hc8 : c < 80 := Nat.lt_of_lt_of_le hc I.1.1.2
      obtain ⟨f, ef⟩ : ∃ f, a_fu a c = f + 1 := ⟨a_fu a c - 1, by omega⟩
      have hf9 : f + 1 ≤ 9 := by omega
      by_cases h42 : a_nd a 4 c = 2
      · have el : a_hd (k + 1) c y a = (a_dis (a_fu a c) (a_pa a c) c (a_ix c (a_rw a (a_pa a c))) a).2 := by rw [a_hd, if_neg hc0, if_pos h42]
        rw [el]
        have p1 := a_dis_pw f (a_pa a c) c (a_ix c (a_rw a (a_pa a c))) a hc8 h3
        rw [← ef] at p1
        have p2 := a_dis_11 (a_fu a c) (a_pa a c) c (a_ix c (a_rw a (a_pa a c))) a
        have p3 := a_fs_eq p2 N
        have p4 := (a_dis_k2 (a_fu a c) (a_pa a c) c (a_ix c (a_rw a (a_pa a c))) a).rs
        have q1 := I.dis (f := a_fu a c) hc hc0 h3 (by omega)
        have q2 := a_U.dis x I (f := a_fu a c) hc hc0 h3 (by omega)
        refine ⟨?_, ?_, a_fd.of p2, q1, q2⟩
        · rw [p3]; omega
        · rw [p3, p4]; omega
      · by_cases h41 : a_nd a 4 c = 1 ∧ y ≤ 1
        · have el : a_hd (k + 1) c y a = a := by rw [a_hd, if_neg hc0, if_neg h42, if_pos h41]
          rw [el]
          exact stay
        · have el : a_hd (k + 1) c y a = if (a_lp (a_fu a c) (a_pa a c) 1000000 c a).1 = true then (a_lp (a_fu a c) (a_pa a c) 1000000 c a).2 else a_hd k (a_pa a c) 1 (a_lp (a_fu a c) (a_pa a c) 1000000 c a).2 := by rw [a_hd, if_neg hc0, if_neg h42, if_neg h41]
          rw [el]
          obtain ⟨v1, v2, v3, v4⟩ := a_lp_I (f := a_fu a c) 1000000 c a I hpm w2 w3 h8 w1
          obtain ⟨u1, u2⟩ := a_lp_U (f := a_fu a c) 1000000 c a x I hpm w2 hu h8 w1 hdn
          have hf := a_lp_f (f := a_fu a c) (p := a_pa a c) 1000000 c a
          have pw := a_lp_pw (f := f) (p := a_pa a c) hN hf9 1000000 c a x I hpm w2 hu (by rw [← ef]; exact h8) w1 hdn
          rw [← ef] at pw
          generalize hL : a_lp (a_fu a c) (a_pa a c) 1000000 c a = L at *
          obtain ⟨z1, z2, z3⟩ := pw
          have e1 : ∀ n, a_pa L.2 n = a_pa a n := fun n => by show (a_nd L.2 1 n).toNat = (a_nd a 1 n).toNat; rw [v3 1 (by decide) (by decide)]
          by_cases h : L.1 = true
          · rw [if_pos h]
            exact ⟨k_lp1 z1, k_lp2 z2, z3, v1, u1⟩
          · rw [if_neg h]
            obtain ⟨t1, t2, t3, t4, t5⟩ := ih (a_pa a c) 1 L.2 v1 u1 (by rw [v2]; exact hpm) v4 (by rw [hf h]; decide) (fun hp0 => by
              rw [e1]
              have r1p := I.1.r1 hpm hp0
              have epp : a_pa a (a_pa a c) = (a_nd a 1 (a_pa a c)).toNat := rfl
              rw [u2 _ (by omega)]
              exact x.up hpm hp0 hu)
            exact ⟨k_lp3 t1 z1, k_lp4 t2 z2, z3.tr t3, t4, t5⟩
