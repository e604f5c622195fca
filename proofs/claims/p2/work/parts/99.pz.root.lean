/-! ===== the first keeper never goes ===== -/
theorem a_dis_r0 {a : aS} (I : a_I a) {c f : Nat} (hc : c < a_mk a) (hc0 : c ≠ 0) (h3 : ¬ a_nd a 3 c = 2) (h9 : (9 : Int) ≤ f + a_nd a 2 c) (g0 : ¬ a_nd a 3 0 = 2) : ¬ a_nd (a_dis f (a_pa a c) c (a_ix c (a_rw a (a_pa a c))) a).2 3 0 = 2 := by
  rw [(a_dis_R I.1 I.2.1 hc hc0 h3 h9).2.2.1 0 (by omega)]
  exact g0
theorem a_hd_r0 : ∀ (k c y : Nat) (a : aS), a_I a → a_U a → c < a_mk a → ¬ a_nd a 3 c = 2 → ¬ a_nd a 3 c = 1 → (c ≠ 0 → a_nd a 3 (a_pa a c) = 1) → ¬ a_nd a 3 0 = 2 → ¬ a_nd (a_hd k c y a) 3 0 = 2 := by
  intro k
  induction k with
  | zero =>
    intro c y a I x hc h3 hdn hup g0
    exact g0
  | succ k ih =>
    intro c y a I x hc h3 hdn hup g0
    by_cases hc0 : c = 0
    · have el : a_hd (k + 1) c y a = a := by rw [a_hd, if_pos hc0]
      rw [el]
      exact g0
    · obtain ⟨w1, w2, w3⟩ := I.2.1.2.2.1 c hc hc0 h3
      have r1 := I.1.r1 hc hc0
      have r2 := I.1.r2 hc
      have epa : a_pa a c = (a_nd a 1 c).toNat := rfl
      have efu : a_fu a c = (9 - a_nd a 2 c).toNat := rfl
      have hpm : a_pa a c < a_mk a := by omega
      obtain ⟨d1, d2, d3, d4, d5⟩ := a_kid I.1 I.2.1.1 hpm w1
      have r2p := I.1.r2 hpm
      have h8 : (8 : Int) ≤ (a_fu a c : Nat) + a_nd a 2 (a_pa a c) := by omega
      have hu := hup hc0
      by_cases h42 : a_nd a 4 c = 2
      · have el : a_hd (k + 1) c y a = (a_dis (a_fu a c) (a_pa a c) c (a_ix c (a_rw a (a_pa a c))) a).2 := by rw [a_hd, if_neg hc0, if_pos h42]
        rw [el]
        exact a_dis_r0 I hc hc0 h3 (by omega) g0
      · by_cases h41 : a_nd a 4 c = 1 ∧ y ≤ 1
        · have el : a_hd (k + 1) c y a = a := by rw [a_hd, if_neg hc0, if_neg h42, if_pos h41]
          rw [el]
          exact g0
        · have el : a_hd (k + 1) c y a = if (a_lp (a_fu a c) (a_pa a c) 1000000 c a).1 = true then (a_lp (a_fu a c) (a_pa a c) 1000000 c a).2 else a_hd k (a_pa a c) 1 (a_lp (a_fu a c) (a_pa a c) 1000000 c a).2 := by rw [a_hd, if_neg hc0, if_neg h42, if_neg h41]
          rw [el]
          obtain ⟨v1, v2, v3, v4⟩ := a_lp_I (f := a_fu a c) 1000000 c a I hpm w2 w3 h8 w1
          obtain ⟨u1, u2⟩ := a_lp_U (f := a_fu a c) 1000000 c a x I hpm w2 hu h8 w1 hdn
          have hf := a_lp_f (f := a_fu a c) (p := a_pa a c) 1000000 c a
          generalize hL : a_lp (a_fu a c) (a_pa a c) 1000000 c a = L at *
          have e1 : ∀ n, a_pa L.2 n = a_pa a n := fun n => by show (a_nd L.2 1 n).toNat = (a_nd a 1 n).toNat; rw [v3 1 (by decide) (by decide)]
          have g1 : ¬ a_nd L.2 3 0 = 2 := by
            by_cases hp0 : a_pa a c = 0
            · rw [hp0] at v4
              exact v4
            · rw [u2 0 (by omega)]
              exact g0
          by_cases h : L.1 = true
          · rw [if_pos h]
            exact g1
          · rw [if_neg h]
            exact ih (a_pa a c) 1 L.2 v1 u1 (by rw [v2]; exact hpm) v4 (by rw [hf h]; decide) (fun hp0 => by
              rw [e1]
              have r1p := I.1.r1 hpm hp0
              have epp : a_pa a (a_pa a c) = (a_nd a 1 (a_pa a c)).toNat := rfl
              rw [u2 _ (by omega)]
              exact x.up hpm hp0 hu) g1
theorem a_kill_r0 {a : aS} (I : a_I a) (x : a_U a) {n : Nat} (hn : n < a_mk a) (hu : a_nd a 3 n = 1) (g0 : ¬ a_nd a 3 0 = 2) : ¬ a_nd (a_hd 9 n 9 (a_ce true (a_fu a n) n a).2) 3 0 = 2 := by
  have h3 : ¬ a_nd a 3 n = 2 := by omega
  have r2 := I.1.r2 hn
  have efu : a_fu a n = (9 - a_nd a 2 n).toNat := rfl
  have kg := a_ce_gk true (a_fu a n) n a I.1 hn h3
  obtain ⟨u1, u2⟩ := a_ce_Us true (a_fu a n) n a I.1 I.2.1 hn h3 (by omega) x
  have lo := a_ce_lo true (a_fu a n) n a I.1 I.2.1.1 hn
  generalize (a_ce true (a_fu a n) n a).2 = b at *
  have hup : n ≠ 0 → a_nd b 3 (a_pa b n) = 1 := fun h0 => by
    have ep : a_pa b n = a_pa a n := by show (a_nd b 1 n).toNat = (a_nd a 1 n).toNat; rw [kg.1.nd]
    have r1 := I.1.r1 hn h0
    have epn : a_pa a n = (a_nd a 1 n).toNat := rfl
    rw [ep, lo _ (by omega)]
    exact a_U.up x hn h0 hu
  exact a_hd_r0 9 n 9 b (I.gk kg) u1 (by rw [kg.1.mk]; exact hn) (by rw [u2]; decide) (by rw [u2]; decide) hup (by rw [kg.2.1]; exact g0)
theorem a_ends_r0 {a : aS} (I : a_I a) (x : a_U a) {n y : Nat} (hn : n < a_mk a) (hk : a_nd a 0 n = 0) (hu : a_nd a 3 n = 1) (g0 : ¬ a_nd a 3 0 = 2) : ¬ a_nd (a_hd 9 n y (a_no (a_sn a 3 n 0) 5 n y)) 3 0 = 2 := by
  have h3 : ¬ a_nd a 3 n = 2 := by omega
  have kg : a_gk a (a_no (a_sn a 3 n 0) 5 n y) := (a_gk.sn3 a hn h3 (by omega)).tr (a_gk.no _ _ _ _)
  have e3 : ∀ m, a_nd (a_no (a_sn a 3 n 0) 5 n y) 3 m = if m = n then 0 else a_nd a 3 m := fun m => a_nd_sn3 a n m 0
  have u1 : a_U (a_no (a_sn a 3 n 0) 5 n y) := a_Us.put x I.2.1 (n := n) (fun c hc => by rw [I.1.2.2.2.2.1 n hn hk] at hc; cases hc) rfl (a_nd1 kg.1) e3
  generalize a_no (a_sn a 3 n 0) 5 n y = b at *
  have hup : n ≠ 0 → a_nd b 3 (a_pa b n) = 1 := fun h0 => by
    have ep : a_pa b n = a_pa a n := by show (a_nd b 1 n).toNat = (a_nd a 1 n).toNat; rw [kg.1.nd]
    have r1 := I.1.r1 hn h0
    have epn : a_pa a n = (a_nd a 1 n).toNat := rfl
    rw [ep, e3, if_neg (by omega)]
    exact a_U.up x hn h0 hu
  exact a_hd_r0 9 n y b (I.gk kg) u1 (by rw [kg.1.mk]; exact hn) (by rw [e3, if_pos rfl]; decide) (by rw [e3, if_pos rfl]; decide) hup (by rw [kg.2.1]; exact g0)
theorem a_stop_r0 {a : aS} (I : a_I a) (x : a_U a) {n : Nat} (hn : n < a_mk a) (h0 : n ≠ 0) (h3 : ¬ a_nd a 3 n = 2) (g0 : ¬ a_nd a 3 0 = 2) : ¬ a_nd (a_rl (a_fu a n) (a_pa a n) n (a_ix n (a_rw a (a_pa a n))) a) 3 0 = 2 := by
  obtain ⟨w1, w2, w3⟩ := I.2.1.2.2.1 n hn h0 h3
  have r1 := I.1.r1 hn h0
  have r2 := I.1.r2 hn
  have epa : a_pa a n = (a_nd a 1 n).toNat := rfl
  have efu : a_fu a n = (9 - a_nd a 2 n).toNat := rfl
  have hpm : a_pa a n < a_mk a := by omega
  obtain ⟨d1, d2, d3, d4, d5⟩ := a_kid I.1 I.2.1.1 hpm w1
  have h8 : (8 : Int) ≤ (a_fu a n : Nat) + a_nd a 2 (a_pa a n) := by omega
  obtain ⟨i1, i2, i3⟩ := a_ix_ok w1
  have u := (a_rl_U (f := a_fu a n) x I hpm w3 h8 i1).2.1
  rw [i2] at u
  rw [u 0 (by omega)]
  exact g0
theorem a_add_r0 {a : aS} {p : Nat} {v : Nat → Int} (v3 : v 3 = 0) (g0 : ¬ a_nd a 3 0 = 2) : ¬ a_nd (a_add p v a) 3 0 = 2 := by
  have en : a_nd (a_add p v a) 3 0 = if 0 = a_mk a then v 3 else a_nd a 3 0 := rfl
  rw [en]
  split
  · rw [v3]; decide
  · exact g0
theorem a_kpr_r0 {a : aS} (I : a_I a) (x : a_U a) {p : Nat} {v : Nat → Int} (hp : p < a_mk a) (hk : a_nd a 0 p = 1) (h80 : a_mk a < 80) (T' : a_T (a_add p v a)) (v1 : v 1 = p) (v2 : v 2 = a_nd a 2 p + 1) (v3 : v 3 = 0) (v11 : v 11 ≤ 50) (g0 : ¬ a_nd a 3 0 = 2) : ¬ a_nd (a_kpr p v a) 3 0 = 2 := by
  unfold a_kpr
  by_cases hu : a_nd a 3 p = 1
  · rw [if_pos hu]
    obtain ⟨y1, y2, y3, y4, y5, kg⟩ := a_add_go (N := 80) I x hp hk hu h80 T' v1 v2 v3 v11
    rw [kg.2.1]
    exact a_add_r0 v3 g0
  · rw [if_neg hu]
    exact a_add_r0 v3 g0
theorem a_wkr_r0 {a : aS} (I : a_I a) (x : a_U a) {p : Nat} {v : Nat → Int} (hp : p < a_mk a) (hk : a_nd a 0 p = 1) (h80 : a_mk a < 80) (T' : a_T (a_add p v a)) (v1 : v 1 = p) (v2 : v 2 = a_nd a 2 p + 1) (v3 : v 3 = 0) (v11 : v 11 ≤ 50) (g0 : ¬ a_nd a 3 0 = 2) : ¬ a_nd (a_wkr p v a).2 3 0 = 2 := by
  unfold a_wkr
  by_cases hu : a_nd a 3 p = 1
  · rw [if_pos hu]
    obtain ⟨y1, y2, y3, y4, y5, kg⟩ := a_add_go (N := 80) I x hp hk hu h80 T' v1 v2 v3 v11
    have g1 : ¬ a_nd (a_go (a_fu (a_add p v a) (a_mk a)) (a_mk a) (a_add p v a)).2 3 0 = 2 := by
      rw [kg.2.1]
      exact a_add_r0 v3 g0
    split
    · exact g1
    · have en : ∀ f n, a_nd (a_add p v a) f n = if n = a_mk a then v f else a_nd a f n := fun f n => rfl
      have e3 : a_nd (a_add p v a) 3 (a_mk a) = 0 := by rw [en, if_pos rfl]; exact v3
      have e2 : a_nd (a_add p v a) 2 (a_mk a) = a_nd a 2 p + 1 := by rw [en, if_pos rfl]; exact v2
      have e1 : a_nd (a_add p v a) 1 (a_mk a) = p := by rw [en, if_pos rfl]; exact v1
      have hmn : a_mk a < a_mk (a_add p v a) := Nat.lt_succ_self _
      have r2' := T'.r2 hmn
      have m1 := I.1.1.1
      have efu : a_fu (a_add p v a) (a_mk a) = (9 - a_nd (a_add p v a) 2 (a_mk a)).toNat := rfl
      have h9 : (9 : Int) ≤ (a_fu (a_add p v a) (a_mk a) : Nat) + a_nd (a_add p v a) 2 (a_mk a) := by omega
      generalize a_fu (a_add p v a) (a_mk a) = F at *
      generalize (a_go F (a_mk a) (a_add p v a)).2 = b at *
      have epa : a_pa b (a_mk a) = p := by
        show (a_nd b 1 (a_mk a)).toNat = p
        rw [kg.1.nd, e1]
        rfl
      have hc : a_mk a < a_mk b := by rw [kg.1.mk]; exact hmn
      have hg : ¬ a_nd b 3 (a_mk a) = 2 := by rw [kg.2.1, e3]; decide
      have h9b : (9 : Int) ≤ F + a_nd b 2 (a_mk a) := by rw [kg.1.nd]; exact h9
      have q := a_dis_r0 y1 (f := F) hc (by omega) hg h9b g1
      rw [epa] at q
      exact q
  · rw [if_neg hu]
    exact a_add_r0 v3 g0
theorem a_kpr_rs (p : Nat) (v : Nat → Int) (a : aS) : a_rs (a_kpr p v a) = a_rs a := by
  unfold a_kpr
  split
  · exact (a_go_kp _ _ _).rs
  · rfl
theorem a_wkr_rs (p : Nat) (v : Nat → Int) (a : aS) : a_rs (a_wkr p v a).2 = a_rs a := by
  unfold a_wkr
  split
  · split
    · exact (a_go_kp _ _ _).rs
    · exact (a_dis_k2 _ _ _ _ _).rs.trans (a_go_kp _ _ _).rs
  · rfl
