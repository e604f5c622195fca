/-! ===== the reference: stop, again, remove, begin, first, failing, pass, state, event, child ===== -/
set_option maxRecDepth 20000 in
set_option maxHeartbeats 4000000 in
theorem mp_stop {l : Launch} {G : hpG} {h H : hpT} {m d : Nat} {a : aS} {z : mrZ} (sh : mo_sh G h m) (R : MR h m H a z) {n : Nat} (I : a_I a) (hn : n < a_mk a) (h3 : ¬ a_nd a 3 n = 2) (h0 : n ≠ 0) (hu : a_nd a 3 n = 1) (hv : (a_ev (a_rl (a_fu a n) (a_pa a n) n (a_ix n (a_rw a (a_pa a n))) a)).length < 2 ^ 30) (hd : 6 ≤ d) : hp_C l G yX6_stop (.code yX6_stop cX6_stop 2 none) d [.ref m, .int (nI n)] (H) (fun v h' => v = none ∧ ∃ z', MR h m h' (a_rl (a_fu a n) (a_pa a n) n (a_ix n (a_rw a (a_pa a n))) a) z' ∧ z'.2.2 = (0, z.2.2.2)) (fun _ _ => False) := by
  have kg := a_ce_gk false (a_fu a n) n a I.1 hn h3
  have r4 := I.1.r4 hn
  have hv3 : (a_ev (a_ce false (a_fu a n) n a).2).length < 2 ^ 30 := by
    refine Nat.lt_of_le_of_lt ?_ hv
    unfold a_rl
    split
    · exact (a_dis_k2 _ _ n _ _).ev
    · exact Nat.le_refl _
  have epa : a_pa (a_ce false (a_fu a n) n a).2 n = a_pa a n := by
    show (a_nd (a_ce false (a_fu a n) n a).2 1 n).toNat = (a_nd a 1 n).toNat
    rw [kg.1.nd]
  have erw : a_rw (a_ce false (a_fu a n) n a).2 = a_rw a := kg.1.rw'
  have T := I.1
  have hn8 : n < 80 := Nat.lt_of_lt_of_le hn T.1.2
  have r3 := T.r3 hn
  refine hp_ofV (by decide) (by simp [Value.category]) (Nat.le_of_ble_eq_true rfl) (fun M C hr hx el => ?_)
  refine hp_aload_nR C dX6_stop_0 rfl ?_
  refine hp_aload_nR C dX6_stop_1 rfl ?_
  refine hp_iload_n C dX6_stop_2 rfl ?_
  refine hp_callV (ci := 6) C ml_X6_75 im_X6_isNode se_X6_isNode rfl (by decide) (mc_isNy (d := d - 1) sh R hn h3) (by omega) dX6_stop_3 (R.o sh) rfl rfl (by simp [Value.category]) (fun v_3 h_3 hp => ?_) (fun _ _ hf => hf.elim)
  obtain ⟨rfl, R_3⟩ := hp
  refine hp_if_eq (tgt := 13) C dX6_stop_6 (by decide) (fun z_9 => absurd z_9 (by decide)) (fun _ => ?_)
  refine hp_iload_n C dX6_stop_9 rfl ?_
  refine hp_if_ne (tgt := 17) C dX6_stop_10 (by decide) (fun _ => ?_) (fun z_9 => absurd z_9 (nI_ne0 (by omega) (by omega)))
  refine hp_aload_nR C dX6_stop_17 rfl ?_
  refine mr_A C sh R_3 fl_X6_20_6 rfl (by decide) dX6_stop_18 ?_
  refine hp_iload_n C dX6_stop_21 rfl ?_
  refine mr_nd C sh R_3 5 3 (by decide) (by decide) rfl hn8 dX6_stop_22 ?_
  refine hp_iconst (v := 1) C dX6_stop_23 (by decide) ?_
  refine hp_icmp_eq (tgt := 31) C dX6_stop_24 (by decide) (fun _ => ?_) (fun z_9 => absurd (show Int32.ofInt (a_nd a 3 n) = 1 by rw [hu]; decide) z_9)
  refine hp_iconst (v := 0) C dX6_stop_31 (by decide) ?_
  refine hp_callV (ci := 6) C ml_X6_125 im_X6_refuses se_X6_refuses rfl (by decide) (mc_refu (d := d - 1) (c := 0) (r := 0) sh R_3 (by decide)) (by omega) dX6_stop_32 (R_3.o sh) rfl rfl (by simp [Value.category]) (fun v_32 h_32 hp => ?_) (fun _ _ hf => hf.elim)
  obtain ⟨rfl, R_32⟩ := hp
  refine hp_if_eq (tgt := 39) C dX6_stop_35 (by decide) (fun _ => ?_) (fun z_9 => absurd z_9 (by decide))
  refine hp_aload_nR C dX6_stop_39 rfl ?_
  refine hp_iload_n C dX6_stop_40 rfl ?_
  refine hp_iconst (v := 0) C dX6_stop_41 (by decide) ?_
  refine hp_iconst (v := 0) C dX6_stop_42 (by decide) ?_
  refine hp_callV (ci := 6) C ml_X6_92 im_X6_ceases se_X6_ceases rfl (by decide) (mc_cea (d := d - 1) (k := false) (f := a_fu a n) (fr := 0) sh R_32 I.1 hn (by have := I.1.r2 hn; show (9 : Int) ≤ ((9 - a_nd a 2 n).toNat : Nat) + a_nd a 2 n; omega) (by have := I.1.r2 hn; omega) hv3 (by omega)) (by omega) dX6_stop_43 (R_32.o sh) rfl rfl (by simp [Value.category]) (fun v_43 h_43 hp => ?_) (fun _ _ hf => hf.elim)
  obtain ⟨rfl, z1, R_43, -, g1⟩ := hp
  refine hp_pop C dX6_stop_46 rfl ?_
  refine hp_aload_nR C dX6_stop_47 rfl ?_
  refine mr_A C sh R_43 fl_X6_23_6 rfl (by decide) dX6_stop_48 ?_
  refine hp_iload_n C dX6_stop_51 rfl ?_
  refine mr_nd C sh R_43 6 4 (by decide) (by decide) rfl hn8 dX6_stop_52 ?_
  refine hp_iconst (v := 2) C dX6_stop_53 (by decide) ?_
  refine hp_icmp_ne (tgt := 63) C dX6_stop_54 (by decide) (fun c_54 => ?_) (fun c_54 => ?_)
  · refine hp_vret C hr dX6_stop_63 ?_
    have h4 : ¬ a_nd a 4 n = 2 := fun e => c_54 (by rw [kg.1.nd, e]; decide)
    have el : a_rl (a_fu a n) (a_pa a n) n (a_ix n (a_rw a (a_pa a n))) a = (a_ce false (a_fu a n) n a).2 := by unfold a_rl; rw [if_neg h4]
    rw [el]
    exact ⟨rfl, z1, R_43, g1⟩
  · have h4 : a_nd a 4 n = 2 := by
      have := (a_ofI_eq (x := a_nd (a_ce false (a_fu a n) n a).2 4 n) (y := 2) (by rw [kg.1.nd]; omega) (by omega)).mp c_54
      rwa [kg.1.nd] at this
    have el : a_rl (a_fu a n) (a_pa a n) n (a_ix n (a_rw a (a_pa a n))) a = (a_dis (a_fu a n) (a_pa a n) n (a_ix n (a_rw a (a_pa a n))) (a_ce false (a_fu a n) n a).2).2 := by unfold a_rl; rw [if_pos h4]
    refine hp_aload_nR C dX6_stop_57 rfl ?_
    refine hp_iload_n C dX6_stop_58 rfl ?_
    refine hp_callV (ci := 6) C ml_X6_103 im_X6_goes se_X6_goes rfl (by decide) (mc_goes (d := d - 1) (f := a_fu a n) sh R_43 (I.gk kg).1 (I.gk kg).2.1 (c := n) (by rw [kg.1.mk]; exact hn) h0 (by rw [kg.2.1]; exact h3) (by rw [kg.1.nd]; exact (by have := I.1.r2 hn; show (9 : Int) ≤ ((9 - a_nd a 2 n).toNat : Nat) + a_nd a 2 n; omega)) hv3 (by omega)) (by omega) dX6_stop_59 (R_43.o sh) rfl rfl (by simp [Value.category]) (fun v_59 h_59 hp => ?_) (fun _ _ hf => hf.elim)
    obtain ⟨⟨x_59, rfl⟩, R_59⟩ := hp
    rw [epa, erw] at R_59
    refine hp_pop C dX6_stop_62 rfl ?_
    refine hp_vret C hr dX6_stop_63 ?_
    rw [el]
    exact ⟨rfl, z1, R_59, g1⟩
set_option maxRecDepth 20000 in
set_option maxHeartbeats 4000000 in
theorem mp_againS {l : Launch} {G : hpG} {h H : hpT} {m d : Nat} {a : aS} {z : mrZ} (sh : mo_sh G h m) (R : MR h m H a z) {n : Nat} (T : a_T a) (hn : n < a_mk a) (h3 : ¬ a_nd a 3 n = 2) (h0 : n ≠ 0) (hu : a_nd a 3 n = 1) (hd : 6 ≤ d) : hp_C l G yX6_again (.code yX6_again cX6_again 2 (some .boolean)) d [.ref m, .int (nI n)] (H) (fun v h' => v = some (.int 0) ∧ MR h m h' a (z.1, z.2.1, 2, z.2.2.2)) (fun _ _ => False) := by
  have hn8 : n < 80 := Nat.lt_of_lt_of_le hn T.1.2
  have r3 := T.r3 hn
  refine hp_ofV (by decide) (by simp [Value.category]) (Nat.le_of_ble_eq_true rfl) (fun M C hr hx el => ?_)
  refine hp_aload_nR C dX6_again_0 rfl ?_
  refine hp_aload_nR C dX6_again_1 rfl ?_
  refine hp_iload_n C dX6_again_2 rfl ?_
  refine hp_callV (ci := 6) C ml_X6_75 im_X6_isNode se_X6_isNode rfl (by decide) (mc_isNy (d := d - 1) sh R hn h3) (by omega) dX6_again_3 (R.o sh) rfl rfl (by simp [Value.category]) (fun v_3 h_3 hp => ?_) (fun _ _ hf => hf.elim)
  obtain ⟨rfl, R_3⟩ := hp
  refine hp_if_eq (tgt := 13) C dX6_again_6 (by decide) (fun z_9 => absurd z_9 (by decide)) (fun _ => ?_)
  refine hp_iload_n C dX6_again_9 rfl ?_
  refine hp_if_ne (tgt := 17) C dX6_again_10 (by decide) (fun _ => ?_) (fun z_9 => absurd z_9 (nI_ne0 (by omega) (by omega)))
  refine hp_aload_nR C dX6_again_17 rfl ?_
  refine mr_A C sh R_3 fl_X6_20_6 rfl (by decide) dX6_again_18 ?_
  refine hp_iload_n C dX6_again_21 rfl ?_
  refine mr_nd C sh R_3 5 3 (by decide) (by decide) rfl hn8 dX6_again_22 ?_
  refine hp_iconst (v := 1) C dX6_again_23 (by decide) ?_
  refine hp_icmp_eq (tgt := 42) C dX6_again_24 (by decide) (fun _ => ?_) (fun z_9 => absurd (show Int32.ofInt (a_nd a 3 n) = 1 by rw [hu]; decide) z_9)
  refine hp_iconst (v := 2) C dX6_again_42 (by decide) ?_
  refine hp_goto (tgt := 47) C dX6_again_43 (by decide) ?_
  refine hp_callV (ci := 6) C ml_X6_125 im_X6_refuses se_X6_refuses rfl (by decide) (mc_refu (d := d - 1) (c := 2) (r := 1) sh R_3 (by decide)) (by omega) dX6_again_47 (R_3.o sh) rfl rfl (by simp [Value.category]) (fun v_47 h_47 hp => ?_) (fun _ _ hf => hf.elim)
  obtain ⟨rfl, R_47⟩ := hp
  refine hp_if_ne (tgt := 65) C dX6_again_50 (by decide) (fun _ => ?_) (fun z_9 => absurd z_9 (by decide))
  refine hp_iconst (v := 0) C dX6_again_65 (by decide) ?_
  refine hp_iret C hr rfl dX6_again_66 ?_
  exact ⟨rfl, R_47⟩
set_option maxRecDepth 20000 in
set_option maxHeartbeats 4000000 in
theorem mp_againP {l : Launch} {G : hpG} {h H : hpT} {m d : Nat} {a : aS} {z : mrZ} (sh : mo_sh G h m) (R : MR h m H a z) {n : Nat} (T : a_T a) (hn : n < a_mk a) (h3 : ¬ a_nd a 3 n = 2) (h0 : n ≠ 0) (hu : ¬ a_nd a 3 n = 1) (hq : ¬ a_nd a 3 (a_pa a n) = 1) (hd : 6 ≤ d) : hp_C l G yX6_again (.code yX6_again cX6_again 2 (some .boolean)) d [.ref m, .int (nI n)] (H) (fun v h' => v = some (.int 0) ∧ MR h m h' a (z.1, z.2.1, 2, z.2.2.2)) (fun _ _ => False) := by
  have hn8 : n < 80 := Nat.lt_of_lt_of_le hn T.1.2
  have r3 := T.r3 hn
  have r1 := T.r1 hn h0
  have hp8 : a_pa a n < 80 := by
    have e : a_pa a n = (a_nd a 1 n).toNat := rfl
    omega
  refine hp_ofV (by decide) (by simp [Value.category]) (Nat.le_of_ble_eq_true rfl) (fun M C hr hx el => ?_)
  refine hp_aload_nR C dX6_again_0 rfl ?_
  refine hp_aload_nR C dX6_again_1 rfl ?_
  refine hp_iload_n C dX6_again_2 rfl ?_
  refine hp_callV (ci := 6) C ml_X6_75 im_X6_isNode se_X6_isNode rfl (by decide) (mc_isNy (d := d - 1) sh R hn h3) (by omega) dX6_again_3 (R.o sh) rfl rfl (by simp [Value.category]) (fun v_3 h_3 hp => ?_) (fun _ _ hf => hf.elim)
  obtain ⟨rfl, R_3⟩ := hp
  refine hp_if_eq (tgt := 13) C dX6_again_6 (by decide) (fun z_9 => absurd z_9 (by decide)) (fun _ => ?_)
  refine hp_iload_n C dX6_again_9 rfl ?_
  refine hp_if_ne (tgt := 17) C dX6_again_10 (by decide) (fun _ => ?_) (fun z_9 => absurd z_9 (nI_ne0 (by omega) (by omega)))
  refine hp_aload_nR C dX6_again_17 rfl ?_
  refine mr_A C sh R_3 fl_X6_20_6 rfl (by decide) dX6_again_18 ?_
  refine hp_iload_n C dX6_again_21 rfl ?_
  refine mr_nd C sh R_3 5 3 (by decide) (by decide) rfl hn8 dX6_again_22 ?_
  refine hp_iconst (v := 1) C dX6_again_23 (by decide) ?_
  refine hp_icmp_eq (tgt := 42) C dX6_again_24 (by decide) (fun z_9 => absurd z_9 (fun q => hu ((a_ofI_eq (x := a_nd a 3 n) (y := 1) (by omega) (by omega)).mp q))) (fun _ => ?_)
  refine hp_aload_nR C dX6_again_27 rfl ?_
  refine mr_A C sh R_3 fl_X6_20_6 rfl (by decide) dX6_again_28 ?_
  refine hp_aload_nR C dX6_again_31 rfl ?_
  refine mr_A C sh R_3 fl_X6_13_6 rfl (by decide) dX6_again_32 ?_
  refine hp_iload_n C dX6_again_35 rfl ?_
  refine mr_nd C sh R_3 3 1 (by decide) (by decide) rfl hn8 dX6_again_36 ?_
  rw [show Int32.ofInt (a_nd a 1 n) = nI (a_pa a n) from a_ofN r1.1]
  refine mr_nd C sh R_3 5 3 (by decide) (by decide) rfl hp8 dX6_again_37 ?_
  refine hp_iconst (v := 1) C dX6_again_38 (by decide) ?_
  refine hp_icmp_eq (tgt := 46) C dX6_again_39 (by decide) (fun z_9 => absurd z_9 (fun q => hq ((a_ofI_eq (x := a_nd a 3 (a_pa a n)) (y := 1) (by have := T.r3 (n := a_pa a n) (by have e : a_pa a n = (a_nd a 1 n).toNat := rfl; omega); omega) (by omega)).mp q))) (fun _ => ?_)
  refine hp_iconst (v := 2) C dX6_again_42 (by decide) ?_
  refine hp_goto (tgt := 47) C dX6_again_43 (by decide) ?_
  refine hp_callV (ci := 6) C ml_X6_125 im_X6_refuses se_X6_refuses rfl (by decide) (mc_refu (d := d - 1) (c := 2) (r := 1) sh R_3 (by decide)) (by omega) dX6_again_47 (R_3.o sh) rfl rfl (by simp [Value.category]) (fun v_47 h_47 hp => ?_) (fun _ _ hf => hf.elim)
  obtain ⟨rfl, R_47⟩ := hp
  refine hp_if_ne (tgt := 65) C dX6_again_50 (by decide) (fun _ => ?_) (fun z_9 => absurd z_9 (by decide))
  refine hp_iconst (v := 0) C dX6_again_65 (by decide) ?_
  refine hp_iret C hr rfl dX6_again_66 ?_
  exact ⟨rfl, R_47⟩
set_option maxRecDepth 20000 in
set_option maxHeartbeats 4000000 in
theorem mp_again {l : Launch} {G : hpG} {h H : hpT} {m d : Nat} {a : aS} {z : mrZ} (sh : mo_sh G h m) (R : MR h m H a z) {n : Nat} (I : a_I a) (hn : n < a_mk a) (h3 : ¬ a_nd a 3 n = 2) (h0 : n ≠ 0) (hu : ¬ a_nd a 3 n = 1) (hq : a_nd a 3 (a_pa a n) = 1) (hv : (a_ev (a_go (a_fu a n) n a).2).length < 2 ^ 30) (hd : 6 ≤ d) : hp_C l G yX6_again (.code yX6_again cX6_again 2 (some .boolean)) d [.ref m, .int (nI n)] (H) (fun v h' => v = some (.int (if (a_go (a_fu a n) n a).1 = true then 1 else 0)) ∧ ∃ z', MR h m h' (a_go (a_fu a n) n a).2 z' ∧ z'.2.2 = (0, z.2.2.2)) (fun _ _ => False) := by
  have T := I.1
  have hn8 : n < 80 := Nat.lt_of_lt_of_le hn T.1.2
  have r3 := T.r3 hn
  have r1 := T.r1 hn h0
  have hp8 : a_pa a n < 80 := by
    have e : a_pa a n = (a_nd a 1 n).toNat := rfl
    omega
  refine hp_ofV (by decide) (by simp [Value.category]) (Nat.le_of_ble_eq_true rfl) (fun M C hr hx el => ?_)
  refine hp_aload_nR C dX6_again_0 rfl ?_
  refine hp_aload_nR C dX6_again_1 rfl ?_
  refine hp_iload_n C dX6_again_2 rfl ?_
  refine hp_callV (ci := 6) C ml_X6_75 im_X6_isNode se_X6_isNode rfl (by decide) (mc_isNy (d := d - 1) sh R hn h3) (by omega) dX6_again_3 (R.o sh) rfl rfl (by simp [Value.category]) (fun v_3 h_3 hp => ?_) (fun _ _ hf => hf.elim)
  obtain ⟨rfl, R_3⟩ := hp
  refine hp_if_eq (tgt := 13) C dX6_again_6 (by decide) (fun z_9 => absurd z_9 (by decide)) (fun _ => ?_)
  refine hp_iload_n C dX6_again_9 rfl ?_
  refine hp_if_ne (tgt := 17) C dX6_again_10 (by decide) (fun _ => ?_) (fun z_9 => absurd z_9 (nI_ne0 (by omega) (by omega)))
  refine hp_aload_nR C dX6_again_17 rfl ?_
  refine mr_A C sh R_3 fl_X6_20_6 rfl (by decide) dX6_again_18 ?_
  refine hp_iload_n C dX6_again_21 rfl ?_
  refine mr_nd C sh R_3 5 3 (by decide) (by decide) rfl hn8 dX6_again_22 ?_
  refine hp_iconst (v := 1) C dX6_again_23 (by decide) ?_
  refine hp_icmp_eq (tgt := 42) C dX6_again_24 (by decide) (fun z_9 => absurd z_9 (fun q => hu ((a_ofI_eq (x := a_nd a 3 n) (y := 1) (by omega) (by omega)).mp q))) (fun _ => ?_)
  refine hp_aload_nR C dX6_again_27 rfl ?_
  refine mr_A C sh R_3 fl_X6_20_6 rfl (by decide) dX6_again_28 ?_
  refine hp_aload_nR C dX6_again_31 rfl ?_
  refine mr_A C sh R_3 fl_X6_13_6 rfl (by decide) dX6_again_32 ?_
  refine hp_iload_n C dX6_again_35 rfl ?_
  refine mr_nd C sh R_3 3 1 (by decide) (by decide) rfl hn8 dX6_again_36 ?_
  rw [show Int32.ofInt (a_nd a 1 n) = nI (a_pa a n) from a_ofN r1.1]
  refine mr_nd C sh R_3 5 3 (by decide) (by decide) rfl hp8 dX6_again_37 ?_
  refine hp_iconst (v := 1) C dX6_again_38 (by decide) ?_
  refine hp_icmp_eq (tgt := 46) C dX6_again_39 (by decide) (fun _ => ?_) (fun z_9 => absurd (show Int32.ofInt (a_nd a 3 (a_pa a n)) = 1 by rw [hq]; decide) z_9)
  refine hp_iconst (v := 0) C dX6_again_46 (by decide) ?_
  refine hp_callV (ci := 6) C ml_X6_125 im_X6_refuses se_X6_refuses rfl (by decide) (mc_refu (d := d - 1) (c := 0) (r := 0) sh R_3 (by decide)) (by omega) dX6_again_47 (R_3.o sh) rfl rfl (by simp [Value.category]) (fun v_47 h_47 hp => ?_) (fun _ _ hf => hf.elim)
  obtain ⟨rfl, R_47⟩ := hp
  refine hp_if_ne (tgt := 65) C dX6_again_50 (by decide) (fun z_9 => absurd z_9 (by decide)) (fun _ => ?_)
  refine hp_aload_nR C dX6_again_53 rfl ?_
  refine hp_iload_n C dX6_again_54 rfl ?_
  refine hp_callV (ci := 6) C ml_X6_115 im_X6_starts se_X6_starts rfl (by decide) (mc_sta (d := d - 1) (f := a_fu a n) sh R_47 I.1 I.2.2.1 hn (by have := I.1.r2 hn; show (9 : Int) ≤ ((9 - a_nd a 2 n).toNat : Nat) + a_nd a 2 n; omega) hv (by omega)) (by omega) dX6_again_55 (R_47.o sh) rfl rfl (by simp [Value.category]) (fun v_55 h_55 hp => ?_) (fun _ _ hf => hf.elim)
  obtain ⟨rfl, z1, R_55, g1⟩ := hp
  refine hp_if_eq (tgt := 65) C dX6_again_58 (by decide) (fun c_58 => ?_) (fun c_58 => ?_)
  · refine hp_iconst (v := 0) C dX6_again_65 (by decide) ?_
    refine hp_iret C hr rfl dX6_again_66 ?_
    exact ⟨by rw [show (a_go (a_fu a n) n a).1 = false by
      cases g : (a_go (a_fu a n) n a).1 with
      | true => exact absurd (c_58) (by rw [g]; decide)
      | false => rfl]; rfl, z1, R_55, g1⟩
  · refine hp_iconst (v := 1) C dX6_again_61 (by decide) ?_
    refine hp_goto (tgt := 66) C dX6_again_62 (by decide) ?_
    refine hp_iret C hr rfl dX6_again_66 ?_
    exact ⟨by rw [show (a_go (a_fu a n) n a).1 = true by
      cases g : (a_go (a_fu a n) n a).1 with
      | false => exact absurd (by rw [g]; rfl) (c_58)
      | true => rfl]; rfl, z1, R_55, g1⟩
set_option maxRecDepth 20000 in
set_option maxHeartbeats 4000000 in
theorem mp_remove {l : Launch} {G : hpG} {h H : hpT} {m d : Nat} {a : aS} {z : mrZ} (sh : mo_sh G h m) (R : MR h m H a z) {n : Nat} (I : a_I a) (hn : n < a_mk a) (h3 : ¬ a_nd a 3 n = 2) (h0 : n ≠ 0) (hu : ¬ a_nd a 3 n = 1) (hv : (a_ev a).length < 2 ^ 30) (hd : 6 ≤ d) : hp_C l G yX6_remove (.code yX6_remove cX6_remove 2 (some .int)) d [.ref m, .int (nI n)] (H) (fun v h' => (∃ x, v = some (.int x)) ∧ MR h m h' (a_dis (a_fu a n) (a_pa a n) n (a_ix n (a_rw a (a_pa a n))) a).2 (z.1, z.2.1, 0, z.2.2.2)) (fun _ _ => False) := by
  have T := I.1
  have hn8 : n < 80 := Nat.lt_of_lt_of_le hn T.1.2
  have r3 := T.r3 hn
  refine hp_ofV (by decide) (by simp [Value.category]) (Nat.le_of_ble_eq_true rfl) (fun M C hr hx el => ?_)
  refine hp_aload_nR C dX6_remove_0 rfl ?_
  refine hp_aload_nR C dX6_remove_1 rfl ?_
  refine hp_iload_n C dX6_remove_2 rfl ?_
  refine hp_callV (ci := 6) C ml_X6_75 im_X6_isNode se_X6_isNode rfl (by decide) (mc_isNy (d := d - 1) sh R hn h3) (by omega) dX6_remove_3 (R.o sh) rfl rfl (by simp [Value.category]) (fun v_3 h_3 hp => ?_) (fun _ _ hf => hf.elim)
  obtain ⟨rfl, R_3⟩ := hp
  refine hp_if_eq (tgt := 13) C dX6_remove_6 (by decide) (fun z_9 => absurd z_9 (by decide)) (fun _ => ?_)
  refine hp_iload_n C dX6_remove_9 rfl ?_
  refine hp_if_ne (tgt := 17) C dX6_remove_10 (by decide) (fun _ => ?_) (fun z_9 => absurd z_9 (nI_ne0 (by omega) (by omega)))
  refine hp_aload_nR C dX6_remove_17 rfl ?_
  refine mr_A C sh R_3 fl_X6_20_6 rfl (by decide) dX6_remove_18 ?_
  refine hp_iload_n C dX6_remove_21 rfl ?_
  refine mr_nd C sh R_3 5 3 (by decide) (by decide) rfl hn8 dX6_remove_22 ?_
  refine hp_iconst (v := 1) C dX6_remove_23 (by decide) ?_
  refine hp_icmp_ne (tgt := 31) C dX6_remove_24 (by decide) (fun _ => ?_) (fun z_9 => absurd z_9 (fun q => hu ((a_ofI_eq (x := a_nd a 3 n) (y := 1) (by omega) (by omega)).mp q)))
  refine hp_iconst (v := 0) C dX6_remove_31 (by decide) ?_
  refine hp_callV (ci := 6) C ml_X6_125 im_X6_refuses se_X6_refuses rfl (by decide) (mc_refu (d := d - 1) (c := 0) (r := 0) sh R_3 (by decide)) (by omega) dX6_remove_32 (R_3.o sh) rfl rfl (by simp [Value.category]) (fun v_32 h_32 hp => ?_) (fun _ _ hf => hf.elim)
  obtain ⟨rfl, R_32⟩ := hp
  refine hp_if_eq (tgt := 42) C dX6_remove_35 (by decide) (fun _ => ?_) (fun z_9 => absurd z_9 (by decide))
  refine hp_aload_nR C dX6_remove_42 rfl ?_
  refine hp_iload_n C dX6_remove_43 rfl ?_
  refine hp_callV (ci := 6) C ml_X6_103 im_X6_goes se_X6_goes rfl (by decide) (mc_goes (d := d - 1) (f := a_fu a n) sh R_32 I.1 I.2.1 hn h0 h3 (by have := I.1.r2 hn; show (9 : Int) ≤ ((9 - a_nd a 2 n).toNat : Nat) + a_nd a 2 n; omega) hv (by omega)) (by omega) dX6_remove_44 (R_32.o sh) rfl rfl (by simp [Value.category]) (fun v_44 h_44 hp => ?_) (fun _ _ hf => hf.elim)
  obtain ⟨⟨x_44, rfl⟩, R_44⟩ := hp
  refine hp_iret C hr rfl dX6_remove_47 ?_
  exact ⟨⟨_, rfl⟩, R_44⟩
set_option maxRecDepth 20000 in
set_option maxHeartbeats 4000000 in
theorem mp_begin {l : Launch} {G : hpG} {h H : hpT} {m d : Nat} {a : aS} {z : mrZ} (sh : mo_sh G h m) (R : MR h m H a z) (I : a_I a) (hu : ¬ a_nd a 3 0 = 1) (hv : (a_ev (a_go 9 0 a).2).length < 2 ^ 30) (hd : 6 ≤ d) : hp_C l G yX6_begin (.code yX6_begin cX6_begin 1 (some .boolean)) d [.ref m] (H) (fun v h' => v = some (.int (if (a_go 9 0 a).1 = true then 1 else 0)) ∧ ∃ z', MR h m h' (a_go 9 0 a).2 z' ∧ z'.2.2 = (0, z.2.2.2)) (fun _ _ => False) := by
  have r3 := I.1.r3 (n := 0) I.1.1.1
  refine hp_ofV (by decide) (by simp [Value.category]) (Nat.le_of_ble_eq_true rfl) (fun M C hr hx el => ?_)
  refine hp_aload_nR C dX6_begin_0 rfl ?_
  refine hp_aload_nR C dX6_begin_1 rfl ?_
  refine mr_A C sh R fl_X6_20_6 rfl (by decide) dX6_begin_2 ?_
  refine hp_iconst (v := 0) C dX6_begin_5 (by decide) ?_
  refine mr_nd (n := 0) C sh R 5 3 (by decide) (by decide) rfl (by decide) dX6_begin_6 ?_
  refine hp_iconst (v := 1) C dX6_begin_7 (by decide) ?_
  refine hp_icmp_ne (tgt := 15) C dX6_begin_8 (by decide) (fun _ => ?_) (fun z_9 => absurd z_9 (fun q => hu ((a_ofI_eq (x := a_nd a 3 0) (y := 1) (by omega) (by omega)).mp q)))
  refine hp_iconst (v := 0) C dX6_begin_15 (by decide) ?_
  refine hp_callV (ci := 6) C ml_X6_125 im_X6_refuses se_X6_refuses rfl (by decide) (mc_refu (d := d - 1) (c := 0) (r := 0) sh R (by decide)) (by omega) dX6_begin_16 (R.o sh) rfl rfl (by simp [Value.category]) (fun v_16 h_16 hp => ?_) (fun _ _ hf => hf.elim)
  obtain ⟨rfl, R_16⟩ := hp
  refine hp_if_ne (tgt := 34) C dX6_begin_19 (by decide) (fun z_9 => absurd z_9 (by decide)) (fun _ => ?_)
  refine hp_aload_nR C dX6_begin_22 rfl ?_
  refine hp_iconst (v := 0) C dX6_begin_23 (by decide) ?_
  refine hp_callV (ci := 6) C ml_X6_115 im_X6_starts se_X6_starts rfl (by decide) (mc_sta (d := d - 1) (f := 9) (n := 0) sh R_16 I.1 I.2.2.1 I.1.1.1 (by rw [I.2.1.1]; decide) hv (by omega)) (by omega) dX6_begin_24 (R_16.o sh) rfl rfl (by simp [Value.category]) (fun v_24 h_24 hp => ?_) (fun _ _ hf => hf.elim)
  obtain ⟨rfl, z1, R_24, g1⟩ := hp
  refine hp_if_eq (tgt := 34) C dX6_begin_27 (by decide) (fun c_27 => ?_) (fun c_27 => ?_)
  · refine hp_iconst (v := 0) C dX6_begin_34 (by decide) ?_
    refine hp_iret C hr rfl dX6_begin_35 ?_
    exact ⟨by rw [show (a_go 9 0 a).1 = false by
      cases g : (a_go 9 0 a).1 with
      | true => exact absurd (c_27) (by rw [g]; decide)
      | false => rfl]; rfl, z1, R_24, g1⟩
  · refine hp_iconst (v := 1) C dX6_begin_30 (by decide) ?_
    refine hp_goto (tgt := 35) C dX6_begin_31 (by decide) ?_
    refine hp_iret C hr rfl dX6_begin_35 ?_
    exact ⟨by rw [show (a_go 9 0 a).1 = true by
      cases g : (a_go 9 0 a).1 with
      | false => exact absurd (by rw [g]; rfl) (c_27)
      | true => rfl]; rfl, z1, R_24, g1⟩
