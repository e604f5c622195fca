/-! ===== the reference: first, failing, pass, state, event, child ===== -/
theorem mo_innY {x lw hg : Int32} {L U : Int} (hl : lw.toInt = L) (hh : hg.toInt = U) (hx : L ≤ x.toInt ∧ x.toInt ≤ U) : mo_inn x lw hg = 1 := by
  unfold mo_inn
  rw [if_neg (by rw [Int32.lt_iff_toInt_lt]; omega), if_neg (by rw [Int32.lt_iff_toInt_lt]; omega)]
theorem mo_innN {x lw hg : Int32} {L U : Int} (hl : lw.toInt = L) (hh : hg.toInt = U) (hx : ¬ (L ≤ x.toInt ∧ x.toInt ≤ U)) : mo_inn x lw hg = 0 := by
  unfold mo_inn
  by_cases c : x < lw
  · rw [if_pos c]
  · rw [if_neg c]
    rw [Int32.lt_iff_toInt_lt] at c
    rw [if_pos (by rw [Int32.lt_iff_toInt_lt]; omega)]
theorem mc_kpY {l : Launch} {G : hpG} {h : hpT} {d : Nat} {x r t : Int32} (hb : (0 ≤ x.toInt ∧ x.toInt ≤ 2) ∧ (0 ≤ r.toInt ∧ r.toInt ≤ 50) ∧ (1 ≤ t.toInt ∧ t.toInt ≤ 1000)) (hd : 1 ≤ d) : hp_C l G yX6_isKeeping (.code yX6_isKeeping cX6_isKeeping 3 (some .boolean)) d [.int x, .int r, .int t] h (fun v h' => v = some (.int 1) ∧ h' = h) (fun _ _ => False) :=
  hp_Cw (mo_isKeeping hd) (fun v h' hv => ⟨by
    rw [hv.1]
    unfold mo_isKp
    rw [mo_innY (by decide) (by decide) hb.1, if_neg (by decide), mo_innY (by decide) (by decide) hb.2.1, if_neg (by decide), mo_innY (by decide) (by decide) hb.2.2, if_neg (by decide)], hv.2⟩)
theorem mc_kpN {l : Launch} {G : hpG} {h : hpT} {d : Nat} {x r t : Int32} (hb : ¬ ((0 ≤ x.toInt ∧ x.toInt ≤ 2) ∧ (0 ≤ r.toInt ∧ r.toInt ≤ 50) ∧ (1 ≤ t.toInt ∧ t.toInt ≤ 1000))) (hd : 1 ≤ d) : hp_C l G yX6_isKeeping (.code yX6_isKeeping cX6_isKeeping 3 (some .boolean)) d [.int x, .int r, .int t] h (fun v h' => v = some (.int 0) ∧ h' = h) (fun _ _ => False) :=
  hp_Cw (mo_isKeeping hd) (fun v h' hv => ⟨by
    rw [hv.1]
    unfold mo_isKp
    by_cases c1 : 0 ≤ x.toInt ∧ x.toInt ≤ 2
    · rw [mo_innY (by decide) (by decide) c1, if_neg (by decide)]
      by_cases c2 : 0 ≤ r.toInt ∧ r.toInt ≤ 50
      · rw [mo_innY (by decide) (by decide) c2, if_neg (by decide), mo_innN (by decide) (by decide) (fun c3 => hb ⟨c1, c2, c3⟩), if_pos rfl]
      · rw [mo_innN (by decide) (by decide) c2, if_pos rfl]
    · rw [mo_innN (by decide) (by decide) c1, if_pos rfl], hv.2⟩)
set_option maxRecDepth 20000 in
set_option maxHeartbeats 4000000 in
theorem mp_beginS {l : Launch} {G : hpG} {h H : hpT} {m d : Nat} {a : aS} {z : mrZ} (sh : mo_sh G h m) (R : MR h m H a z) (hu : a_nd a 3 0 = 1) (hd : 6 ≤ d) : hp_C l G yX6_begin (.code yX6_begin cX6_begin 1 (some .boolean)) d [.ref m] (H) (fun v h' => v = some (.int 0) ∧ MR h m h' a (z.1, z.2.1, 1, z.2.2.2)) (fun _ _ => False) := by
  refine hp_ofV (by decide) (by simp [Value.category]) (Nat.le_of_ble_eq_true rfl) (fun M C hr hx el => ?_)
  refine hp_aload_nR C dX6_begin_0 rfl ?_
  refine hp_aload_nR C dX6_begin_1 rfl ?_
  refine mr_A C sh R fl_X6_20_6 rfl (by decide) dX6_begin_2 ?_
  refine hp_iconst (v := 0) C dX6_begin_5 (by decide) ?_
  refine mr_nd (n := 0) C sh R 5 3 (by decide) (by decide) rfl (by decide) dX6_begin_6 ?_
  refine hp_iconst (v := 1) C dX6_begin_7 (by decide) ?_
  refine hp_icmp_ne (tgt := 15) C dX6_begin_8 (by decide) (fun z_9 => absurd z_9 (fun q => q (show Int32.ofInt (a_nd a 3 0) = 1 by rw [hu]; decide))) (fun _ => ?_)
  refine hp_iconst (v := 1) C dX6_begin_11 (by decide) ?_
  refine hp_goto (tgt := 16) C dX6_begin_12 (by decide) ?_
  refine hp_callV (ci := 6) C ml_X6_125 im_X6_refuses se_X6_refuses rfl (by decide) (mc_refu (d := d - 1) (c := 1) (r := 1) sh R (by decide)) (by omega) dX6_begin_16 (R.o sh) rfl rfl (by simp [Value.category]) (fun v_16 h_16 hp => ?_) (fun _ _ hf => hf.elim)
  obtain ⟨rfl, R_16⟩ := hp
  refine hp_if_ne (tgt := 34) C dX6_begin_19 (by decide) (fun _ => ?_) (fun z_9 => absurd z_9 (by decide))
  refine hp_iconst (v := 0) C dX6_begin_34 (by decide) ?_
  refine hp_iret C hr rfl dX6_begin_35 ?_
  exact ⟨rfl, R_16⟩
set_option maxRecDepth 20000 in
set_option maxHeartbeats 4000000 in
theorem mp_firstX {l : Launch} {G : hpG} {h H : hpT} {m d : Nat} {a : aS} {z : mrZ} (sh : mo_sh G h m) (R : MR h m H a z) {x r t : Int32} (hb : ¬ ((0 ≤ x.toInt ∧ x.toInt ≤ 2) ∧ (0 ≤ r.toInt ∧ r.toInt ≤ 50) ∧ (1 ≤ t.toInt ∧ t.toInt ≤ 1000))) (hd : 6 ≤ d) : hp_C l G yX6_first (.code yX6_first cX6_first 4 none) d [.ref m, .int x, .int r, .int t] (H) (fun v h' => v = none ∧ MR h m h' a (z.1, z.2.1, 1, z.2.2.2)) (fun _ _ => False) := by
  refine hp_ofV (by decide) (by simp [Value.category]) (Nat.le_of_ble_eq_true rfl) (fun M C hr hx el => ?_)
  refine hp_aload_nR C dX6_first_0 rfl ?_
  refine hp_iload_n C dX6_first_1 rfl ?_
  refine hp_iload_n C dX6_first_2 rfl ?_
  refine hp_iload_n C dX6_first_3 rfl ?_
  refine hp_callS C ml_X6_122 sm_X6_isKeeping (mc_kpN (d := d - 1) hb (by omega)) (by omega) dX6_first_4 rfl rfl (by simp [Value.category]) (fun v_4 h_4 hp => ?_) (fun _ _ hf => hf.elim)
  obtain ⟨rfl, rfl⟩ := hp
  refine hp_if_ne (tgt := 14) C dX6_first_7 (by decide) (fun z_9 => absurd z_9 (by decide)) (fun _ => ?_)
  refine hp_iconst (v := 1) C dX6_first_10 (by decide) ?_
  refine hp_goto (tgt := 29) C dX6_first_11 (by decide) ?_
  refine hp_callV (ci := 6) C ml_X6_125 im_X6_refuses se_X6_refuses rfl (by decide) (mc_refu (d := d - 1) (c := 1) (r := 1) sh R (by decide)) (by omega) dX6_first_29 (R.o sh) rfl rfl (by simp [Value.category]) (fun v_29 h_29 hp => ?_) (fun _ _ hf => hf.elim)
  obtain ⟨rfl, R_29⟩ := hp
  refine hp_if_eq (tgt := 36) C dX6_first_32 (by decide) (fun z_9 => absurd z_9 (by decide)) (fun _ => ?_)
  refine hp_vret C hr dX6_first_35 ?_
  exact ⟨rfl, R_29⟩
set_option maxRecDepth 20000 in
set_option maxHeartbeats 4000000 in
theorem mp_firstS {l : Launch} {G : hpG} {h H : hpT} {m d : Nat} {a : aS} {z : mrZ} (sh : mo_sh G h m) (R : MR h m H a z) {x r t : Int32} (hb : ((0 ≤ x.toInt ∧ x.toInt ≤ 2) ∧ (0 ≤ r.toInt ∧ r.toInt ≤ 50) ∧ (1 ≤ t.toInt ∧ t.toInt ≤ 1000))) (hu : a_nd a 3 0 = 1) (hd : 6 ≤ d) : hp_C l G yX6_first (.code yX6_first cX6_first 4 none) d [.ref m, .int x, .int r, .int t] (H) (fun v h' => v = none ∧ MR h m h' a (z.1, z.2.1, 2, z.2.2.2)) (fun _ _ => False) := by
  refine hp_ofV (by decide) (by simp [Value.category]) (Nat.le_of_ble_eq_true rfl) (fun M C hr hx el => ?_)
  refine hp_aload_nR C dX6_first_0 rfl ?_
  refine hp_iload_n C dX6_first_1 rfl ?_
  refine hp_iload_n C dX6_first_2 rfl ?_
  refine hp_iload_n C dX6_first_3 rfl ?_
  refine hp_callS C ml_X6_122 sm_X6_isKeeping (mc_kpY (d := d - 1) hb (by omega)) (by omega) dX6_first_4 rfl rfl (by simp [Value.category]) (fun v_4 h_4 hp => ?_) (fun _ _ hf => hf.elim)
  obtain ⟨rfl, rfl⟩ := hp
  refine hp_if_ne (tgt := 14) C dX6_first_7 (by decide) (fun _ => ?_) (fun z_9 => absurd z_9 (by decide))
  refine hp_aload_nR C dX6_first_14 rfl ?_
  refine mr_A C sh R fl_X6_20_6 rfl (by decide) dX6_first_15 ?_
  refine hp_iconst (v := 0) C dX6_first_18 (by decide) ?_
  refine mr_nd (n := 0) C sh R 5 3 (by decide) (by decide) rfl (by decide) dX6_first_19 ?_
  refine hp_iconst (v := 1) C dX6_first_20 (by decide) ?_
  refine hp_icmp_ne (tgt := 28) C dX6_first_21 (by decide) (fun z_9 => absurd z_9 (fun q => q (show Int32.ofInt (a_nd a 3 0) = 1 by rw [hu]; decide))) (fun _ => ?_)
  refine hp_iconst (v := 2) C dX6_first_24 (by decide) ?_
  refine hp_goto (tgt := 29) C dX6_first_25 (by decide) ?_
  refine hp_callV (ci := 6) C ml_X6_125 im_X6_refuses se_X6_refuses rfl (by decide) (mc_refu (d := d - 1) (c := 2) (r := 1) sh R (by decide)) (by omega) dX6_first_29 (R.o sh) rfl rfl (by simp [Value.category]) (fun v_29 h_29 hp => ?_) (fun _ _ hf => hf.elim)
  obtain ⟨rfl, R_29⟩ := hp
  refine hp_if_eq (tgt := 36) C dX6_first_32 (by decide) (fun z_9 => absurd z_9 (by decide)) (fun _ => ?_)
  refine hp_vret C hr dX6_first_35 ?_
  exact ⟨rfl, R_29⟩
set_option maxRecDepth 20000 in
set_option maxHeartbeats 4000000 in
theorem mp_first {l : Launch} {G : hpG} {h H : hpT} {m d : Nat} {a : aS} {z : mrZ} (sh : mo_sh G h m) (R : MR h m H a z) (T : a_T a) {x r t : Int32} (hb : ((0 ≤ x.toInt ∧ x.toInt ≤ 2) ∧ (0 ≤ r.toInt ∧ r.toInt ≤ 50) ∧ (1 ≤ t.toInt ∧ t.toInt ≤ 1000))) (hu : ¬ a_nd a 3 0 = 1) (hd : 6 ≤ d) : hp_C l G yX6_first (.code yX6_first cX6_first 4 none) d [.ref m, .int x, .int r, .int t] (H) (fun v h' => v = none ∧ MR h m h' (a_sn (a_sn (a_sn a 5 0 x.toInt) 6 0 r.toInt) 7 0 t.toInt) (z.1, z.2.1, 0, z.2.2.2)) (fun _ _ => False) := by
  have r3 := T.r3 (n := 0) T.1.1
  refine hp_ofV (by decide) (by simp [Value.category]) (Nat.le_of_ble_eq_true rfl) (fun M C hr hx el => ?_)
  refine hp_aload_nR C dX6_first_0 rfl ?_
  refine hp_iload_n C dX6_first_1 rfl ?_
  refine hp_iload_n C dX6_first_2 rfl ?_
  refine hp_iload_n C dX6_first_3 rfl ?_
  refine hp_callS C ml_X6_122 sm_X6_isKeeping (mc_kpY (d := d - 1) hb (by omega)) (by omega) dX6_first_4 rfl rfl (by simp [Value.category]) (fun v_4 h_4 hp => ?_) (fun _ _ hf => hf.elim)
  obtain ⟨rfl, rfl⟩ := hp
  refine hp_if_ne (tgt := 14) C dX6_first_7 (by decide) (fun _ => ?_) (fun z_9 => absurd z_9 (by decide))
  refine hp_aload_nR C dX6_first_14 rfl ?_
  refine mr_A C sh R fl_X6_20_6 rfl (by decide) dX6_first_15 ?_
  refine hp_iconst (v := 0) C dX6_first_18 (by decide) ?_
  refine mr_nd (n := 0) C sh R 5 3 (by decide) (by decide) rfl (by decide) dX6_first_19 ?_
  refine hp_iconst (v := 1) C dX6_first_20 (by decide) ?_
  refine hp_icmp_ne (tgt := 28) C dX6_first_21 (by decide) (fun _ => ?_) (fun z_9 => absurd z_9 (fun q => hu ((a_ofI_eq (x := a_nd a 3 0) (y := 1) (by omega) (by omega)).mp q)))
  refine hp_iconst (v := 0) C dX6_first_28 (by decide) ?_
  refine hp_callV (ci := 6) C ml_X6_125 im_X6_refuses se_X6_refuses rfl (by decide) (mc_refu (d := d - 1) (c := 0) (r := 0) sh R (by decide)) (by omega) dX6_first_29 (R.o sh) rfl rfl (by simp [Value.category]) (fun v_29 h_29 hp => ?_) (fun _ _ hf => hf.elim)
  obtain ⟨rfl, R_29⟩ := hp
  refine hp_if_eq (tgt := 36) C dX6_first_32 (by decide) (fun _ => ?_) (fun z_9 => absurd z_9 (by decide))
  refine hp_aload_nR C dX6_first_36 rfl ?_
  refine mr_A C sh R_29 fl_X6_26_6 rfl (by decide) dX6_first_37 ?_
  refine hp_iconst (v := 0) C dX6_first_40 (by decide) ?_
  refine hp_iload_n C dX6_first_41 rfl ?_
  refine ms_sn C sh R_29 7 5 (by decide) (by decide) (by decide) (by decide) rfl (n := 0) (by decide) x.toInt (by omega) (k_i32 x) dX6_first_42 (fun H_42 R_42 => ?_)
  refine hp_aload_nR C dX6_first_43 rfl ?_
  refine mr_A C sh R_42 fl_X6_29_6 rfl (by decide) dX6_first_44 ?_
  refine hp_iconst (v := 0) C dX6_first_47 (by decide) ?_
  refine hp_iload_n C dX6_first_48 rfl ?_
  refine ms_sn C sh R_42 8 6 (by decide) (by decide) (by decide) (by decide) rfl (n := 0) (by decide) r.toInt (by omega) (k_i32 r) dX6_first_49 (fun H_49 R_49 => ?_)
  refine hp_aload_nR C dX6_first_50 rfl ?_
  refine mr_A C sh R_49 fl_X6_32_6 rfl (by decide) dX6_first_51 ?_
  refine hp_iconst (v := 0) C dX6_first_54 (by decide) ?_
  refine hp_iload_n C dX6_first_55 rfl ?_
  refine ms_s7 C sh R_49 (n := 0) (by decide) t.toInt (by omega) hu (k_i32 t) dX6_first_56 (fun H_56 R_56 => ?_)
  refine hp_vret C hr dX6_first_57 ?_
  exact ⟨rfl, R_56⟩
set_option maxRecDepth 20000 in
set_option maxHeartbeats 4000000 in
theorem mp_failingX {l : Launch} {G : hpG} {h H : hpT} {m d : Nat} {a : aS} {z : mrZ} (sh : mo_sh G h m) (R : MR h m H a z) (T : a_T a) {x g : Int32} (hb : ∀ n, n < a_mk a → x = nI n → a_nd a 0 n = 0 → a_nd a 3 n = 2) (hd : 7 ≤ d) : hp_C l G yX6_failing (.code yX6_failing cX6_failing 4 (some .int)) d [.ref m, .int x, .int g] (H) (fun v h' => v = some (.int 0) ∧ MR h m h' a (z.1, z.2.1, 1, z.2.2.2)) (fun _ _ => False) := by
  refine hp_ofV (by decide) (by simp [Value.category]) (Nat.le_of_ble_eq_true rfl) (fun M C hr hx el => ?_)
  refine hp_aload_nR C dX6_failing_0 rfl ?_
  refine hp_aload_nR C dX6_failing_1 rfl ?_
  refine hp_iload_n C dX6_failing_2 rfl ?_
  refine hp_callV (ci := 6) C ml_X6_134 im_X6_isWorker se_X6_isWorker rfl (by decide) (mc_isWn (d := d - 1) sh R T hb (by omega)) (by omega) dX6_failing_3 (R.o sh) rfl rfl (by simp [Value.category]) (fun v_3 h_3 hp => ?_) (fun _ _ hf => hf.elim)
  obtain ⟨rfl, R_3⟩ := hp
  refine hp_if_eq (tgt := 19) C dX6_failing_6 (by decide) (fun _ => ?_) (fun z_9 => absurd z_9 (by decide))
  refine hp_iconst (v := 1) C dX6_failing_19 (by decide) ?_
  refine hp_goto (tgt := 24) C dX6_failing_20 (by decide) ?_
  refine hp_callV (ci := 6) C ml_X6_125 im_X6_refuses se_X6_refuses rfl (by decide) (mc_refu (d := d - 1) (c := 1) (r := 1) sh R_3 (by decide)) (by omega) dX6_failing_24 (R_3.o sh) rfl rfl (by simp [Value.category]) (fun v_24 h_24 hp => ?_) (fun _ _ hf => hf.elim)
  obtain ⟨rfl, R_24⟩ := hp
  refine hp_if_eq (tgt := 32) C dX6_failing_27 (by decide) (fun z_9 => absurd z_9 (by decide)) (fun _ => ?_)
  refine hp_iconst (v := 0) C dX6_failing_30 (by decide) ?_
  refine hp_iret C hr rfl dX6_failing_31 ?_
  exact ⟨rfl, R_24⟩
set_option maxRecDepth 20000 in
set_option maxHeartbeats 4000000 in
theorem mp_failingY {l : Launch} {G : hpG} {h H : hpT} {m d : Nat} {a : aS} {z : mrZ} (sh : mo_sh G h m) (R : MR h m H a z) {n : Nat} (T : a_T a) (hn : n < a_mk a) (h3 : ¬ a_nd a 3 n = 2) (hk : a_nd a 0 n = 0) {g : Int32} (hg : ¬ (0 ≤ g.toInt ∧ g.toInt ≤ 50)) (hd : 7 ≤ d) : hp_C l G yX6_failing (.code yX6_failing cX6_failing 4 (some .int)) d [.ref m, .int (nI n), .int g] (H) (fun v h' => v = some (.int 0) ∧ MR h m h' a (z.1, z.2.1, 1, z.2.2.2)) (fun _ _ => False) := by
  have hn8 : n < 80 := Nat.lt_of_lt_of_le hn T.1.2
  have r3 := T.r3 hn
  refine hp_ofV (by decide) (by simp [Value.category]) (Nat.le_of_ble_eq_true rfl) (fun M C hr hx el => ?_)
  refine hp_aload_nR C dX6_failing_0 rfl ?_
  refine hp_aload_nR C dX6_failing_1 rfl ?_
  refine hp_iload_n C dX6_failing_2 rfl ?_
  refine hp_callV (ci := 6) C ml_X6_134 im_X6_isWorker se_X6_isWorker rfl (by decide) (mc_isWy (d := d - 1) sh R hn h3 hk (by omega)) (by omega) dX6_failing_3 (R.o sh) rfl rfl (by simp [Value.category]) (fun v_3 h_3 hp => ?_) (fun _ _ hf => hf.elim)
  obtain ⟨rfl, R_3⟩ := hp
  refine hp_if_eq (tgt := 19) C dX6_failing_6 (by decide) (fun z_9 => absurd z_9 (by decide)) (fun _ => ?_)
  refine hp_iload_n C dX6_failing_9 rfl ?_
  refine hp_iconst (v := 0) C dX6_failing_10 (by decide) ?_
  refine hp_bipush (v := 50) C dX6_failing_11 (by decide) ?_
  refine hp_callS C ml_X6_118 sm_X6_in (mc_inN (d := d - 1) (by decide) (by decide) hg) (by omega) dX6_failing_13 rfl rfl (by simp [Value.category]) (fun v_13 h_13 hp => ?_) (fun _ _ hf => hf.elim)
  obtain ⟨rfl, rfl⟩ := hp
  refine hp_if_ne (tgt := 23) C dX6_failing_16 (by decide) (fun z_9 => absurd z_9 (by decide)) (fun _ => ?_)
  refine hp_iconst (v := 1) C dX6_failing_19 (by decide) ?_
  refine hp_goto (tgt := 24) C dX6_failing_20 (by decide) ?_
  refine hp_callV (ci := 6) C ml_X6_125 im_X6_refuses se_X6_refuses rfl (by decide) (mc_refu (d := d - 1) (c := 1) (r := 1) sh R_3 (by decide)) (by omega) dX6_failing_24 (R_3.o sh) rfl rfl (by simp [Value.category]) (fun v_24 h_24 hp => ?_) (fun _ _ hf => hf.elim)
  obtain ⟨rfl, R_24⟩ := hp
  refine hp_if_eq (tgt := 32) C dX6_failing_27 (by decide) (fun z_9 => absurd z_9 (by decide)) (fun _ => ?_)
  refine hp_iconst (v := 0) C dX6_failing_30 (by decide) ?_
  refine hp_iret C hr rfl dX6_failing_31 ?_
  exact ⟨rfl, R_24⟩
set_option maxRecDepth 20000 in
set_option maxHeartbeats 4000000 in
theorem mp_failing {l : Launch} {G : hpG} {h H : hpT} {m d : Nat} {a : aS} {z : mrZ} (sh : mo_sh G h m) (R : MR h m H a z) {n : Nat} (T : a_T a) (hn : n < a_mk a) (h3 : ¬ a_nd a 3 n = 2) (hk : a_nd a 0 n = 0) {g : Int32} (hg : 0 ≤ g.toInt ∧ g.toInt ≤ 50) (hd : 7 ≤ d) : hp_C l G yX6_failing (.code yX6_failing cX6_failing 4 (some .int)) d [.ref m, .int (nI n), .int g] (H) (fun v h' => v = some (.int (Int32.ofInt (a_nd a 11 n))) ∧ MR h m h' (a_sn a 11 n g.toInt) (z.1, z.2.1, 0, z.2.2.2)) (fun _ _ => False) := by
  have hn8 : n < 80 := Nat.lt_of_lt_of_le hn T.1.2
  have r3 := T.r3 hn
  refine hp_ofV (by decide) (by simp [Value.category]) (Nat.le_of_ble_eq_true rfl) (fun M C hr hx el => ?_)
  refine hp_aload_nR C dX6_failing_0 rfl ?_
  refine hp_aload_nR C dX6_failing_1 rfl ?_
  refine hp_iload_n C dX6_failing_2 rfl ?_
  refine hp_callV (ci := 6) C ml_X6_134 im_X6_isWorker se_X6_isWorker rfl (by decide) (mc_isWy (d := d - 1) sh R hn h3 hk (by omega)) (by omega) dX6_failing_3 (R.o sh) rfl rfl (by simp [Value.category]) (fun v_3 h_3 hp => ?_) (fun _ _ hf => hf.elim)
  obtain ⟨rfl, R_3⟩ := hp
  refine hp_if_eq (tgt := 19) C dX6_failing_6 (by decide) (fun z_9 => absurd z_9 (by decide)) (fun _ => ?_)
  refine hp_iload_n C dX6_failing_9 rfl ?_
  refine hp_iconst (v := 0) C dX6_failing_10 (by decide) ?_
  refine hp_bipush (v := 50) C dX6_failing_11 (by decide) ?_
  refine hp_callS C ml_X6_118 sm_X6_in (mc_inY (d := d - 1) (by decide) (by decide) hg) (by omega) dX6_failing_13 rfl rfl (by simp [Value.category]) (fun v_13 h_13 hp => ?_) (fun _ _ hf => hf.elim)
  obtain ⟨rfl, rfl⟩ := hp
  refine hp_if_ne (tgt := 23) C dX6_failing_16 (by decide) (fun _ => ?_) (fun z_9 => absurd z_9 (by decide))
  refine hp_iconst (v := 0) C dX6_failing_23 (by decide) ?_
  refine hp_callV (ci := 6) C ml_X6_125 im_X6_refuses se_X6_refuses rfl (by decide) (mc_refu (d := d - 1) (c := 0) (r := 0) sh R_3 (by decide)) (by omega) dX6_failing_24 (R_3.o sh) rfl rfl (by simp [Value.category]) (fun v_24 h_24 hp => ?_) (fun _ _ hf => hf.elim)
  obtain ⟨rfl, R_24⟩ := hp
  refine hp_if_eq (tgt := 32) C dX6_failing_27 (by decide) (fun _ => ?_) (fun z_9 => absurd z_9 (by decide))
  refine hp_aload_nR C dX6_failing_32 rfl ?_
  refine mr_A C sh R_24 fl_X6_44_6 rfl (by decide) dX6_failing_33 ?_
  refine hp_iload_n C dX6_failing_36 rfl ?_
  refine mr_nd C sh R_24 13 11 (by decide) (by decide) rfl hn8 dX6_failing_37 ?_
  refine hp_istore_n C dX6_failing_38 (by decide) ?_
  refine hp_aload_nR C dX6_failing_39 rfl ?_
  refine mr_A C sh R_24 fl_X6_44_6 rfl (by decide) dX6_failing_40 ?_
  refine hp_iload_n C dX6_failing_43 rfl ?_
  refine hp_iload_n C dX6_failing_44 rfl ?_
  refine ms_sn C sh R_24 13 11 (by decide) (by decide) (by decide) (by decide) rfl hn8 g.toInt (by omega) (k_i32 g) dX6_failing_45 (fun H_45 R_45 => ?_)
  refine hp_iload_n C dX6_failing_46 rfl ?_
  refine hp_iret C hr rfl dX6_failing_47 ?_
  exact ⟨rfl, R_45⟩
set_option maxRecDepth 20000 in
set_option maxHeartbeats 4000000 in
theorem mp_passX {l : Launch} {G : hpG} {h H : hpT} {m d : Nat} {a : aS} {z : mrZ} (sh : mo_sh G h m) (R : MR h m H a z) {x : Int32} (hb : ¬ (0 ≤ x.toInt ∧ x.toInt ≤ 10000)) (hd : 6 ≤ d) : hp_C l G yX6_pass (.code yX6_pass cX6_pass 2 (some .int)) d [.ref m, .int x] (H) (fun v h' => v = some (.int 0) ∧ MR h m h' a (z.1, z.2.1, 1, z.2.2.2)) (fun _ _ => False) := by
  refine hp_ofV (by decide) (by simp [Value.category]) (Nat.le_of_ble_eq_true rfl) (fun M C hr hx el => ?_)
  refine hp_aload_nR C dX6_pass_0 rfl ?_
  refine hp_iload_n C dX6_pass_1 rfl ?_
  refine hp_iconst (v := 0) C dX6_pass_2 (by decide) ?_
  refine hp_sipush (v := 10000) C dX6_pass_3 (by decide) ?_
  refine hp_callS C ml_X6_118 sm_X6_in (mc_inN (d := d - 1) (by decide) (by decide) hb) (by omega) dX6_pass_6 rfl rfl (by simp [Value.category]) (fun v_6 h_6 hp => ?_) (fun _ _ hf => hf.elim)
  obtain ⟨rfl, rfl⟩ := hp
  refine hp_if_ne (tgt := 16) C dX6_pass_9 (by decide) (fun z_9 => absurd z_9 (by decide)) (fun _ => ?_)
  refine hp_iconst (v := 1) C dX6_pass_12 (by decide) ?_
  refine hp_goto (tgt := 17) C dX6_pass_13 (by decide) ?_
  refine hp_callV (ci := 6) C ml_X6_125 im_X6_refuses se_X6_refuses rfl (by decide) (mc_refu (d := d - 1) (c := 1) (r := 1) sh R (by decide)) (by omega) dX6_pass_17 (R.o sh) rfl rfl (by simp [Value.category]) (fun v_17 h_17 hp => ?_) (fun _ _ hf => hf.elim)
  obtain ⟨rfl, R_17⟩ := hp
  refine hp_if_eq (tgt := 25) C dX6_pass_20 (by decide) (fun z_9 => absurd z_9 (by decide)) (fun _ => ?_)
  refine hp_iconst (v := 0) C dX6_pass_23 (by decide) ?_
  refine hp_iret C hr rfl dX6_pass_24 ?_
  exact ⟨rfl, R_17⟩
set_option maxRecDepth 20000 in
set_option maxHeartbeats 4000000 in
theorem mp_pass {l : Launch} {G : hpG} {h H : hpT} {m d : Nat} {a : aS} {z : mrZ} (sh : mo_sh G h m) (R : MR h m H a z) {k : Nat} (hk : k ≤ 10000) (hd : 6 ≤ d) : hp_C l G yX6_pass (.code yX6_pass cX6_pass 2 (some .int)) d [.ref m, .int (nI k)] (H) (fun v h' => v = some (.int (nI (a_tm a + k))) ∧ MR h m h' (a_st a (a_tm a + k)) (z.1, z.2.1, 0, z.2.2.2)) (fun _ _ => False) := by
  refine hp_ofV (by decide) (by simp [Value.category]) (Nat.le_of_ble_eq_true rfl) (fun M C hr hx el => ?_)
  refine hp_aload_nR C dX6_pass_0 rfl ?_
  refine hp_iload_n C dX6_pass_1 rfl ?_
  refine hp_iconst (v := 0) C dX6_pass_2 (by decide) ?_
  refine hp_sipush (v := 10000) C dX6_pass_3 (by decide) ?_
  refine hp_callS C ml_X6_118 sm_X6_in (mc_inY (d := d - 1) (by decide) (by decide) (show (0 : Int) ≤ (nI k).toInt ∧ (nI k).toInt ≤ 10000 by rw [nI_toInt (by omega)]; omega)) (by omega) dX6_pass_6 rfl rfl (by simp [Value.category]) (fun v_6 h_6 hp => ?_) (fun _ _ hf => hf.elim)
  obtain ⟨rfl, rfl⟩ := hp
  refine hp_if_ne (tgt := 16) C dX6_pass_9 (by decide) (fun _ => ?_) (fun z_9 => absurd z_9 (by decide))
  refine hp_iconst (v := 0) C dX6_pass_16 (by decide) ?_
  refine hp_callV (ci := 6) C ml_X6_125 im_X6_refuses se_X6_refuses rfl (by decide) (mc_refu (d := d - 1) (c := 0) (r := 0) sh R (by decide)) (by omega) dX6_pass_17 (R.o sh) rfl rfl (by simp [Value.category]) (fun v_17 h_17 hp => ?_) (fun _ _ hf => hf.elim)
  obtain ⟨rfl, R_17⟩ := hp
  refine hp_if_eq (tgt := 25) C dX6_pass_20 (by decide) (fun _ => ?_) (fun z_9 => absurd z_9 (by decide))
  refine hp_aload_nR C dX6_pass_25 rfl ?_
  refine hp_dup C dX6_pass_26 rfl ?_
  refine mr_S C sh R_17 fl_X6_82_6 (Or.inr (Or.inr (Or.inl ⟨rfl, rfl⟩))) dX6_pass_27 ?_
  refine hp_iload_n C dX6_pass_30 rfl ?_
  refine hp_iadd C dX6_pass_31 ?_
  refine ms_tm C sh R_17 fl_X6_82_6 (a_tm a + k) (Nat.le_add_right _ _) (nI_add _ _) dX6_pass_32 (fun H_32 R_32 => ?_)
  refine hp_aload_nR C dX6_pass_35 rfl ?_
  refine mr_S C sh R_32 fl_X6_82_6 (Or.inr (Or.inr (Or.inl ⟨rfl, rfl⟩))) dX6_pass_36 ?_
  refine hp_iret C hr rfl dX6_pass_39 ?_
  exact ⟨rfl, R_32⟩
set_option maxRecDepth 20000 in
set_option maxHeartbeats 4000000 in
theorem mp_stateX {l : Launch} {G : hpG} {h H : hpT} {m d : Nat} {a : aS} {z : mrZ} (sh : mo_sh G h m) (R : MR h m H a z) (T : a_T a) {x : Int32} (hb : ¬ (0 ≤ x.toInt ∧ x.toInt < a_mk a)) (hd : 6 ≤ d) : hp_C l G yX6_state (.code yX6_state cX6_state 2 (some .int)) d [.ref m, .int x] (H) (fun v h' => v = some (.int 0) ∧ MR h m h' a (z.1, z.2.1, 1, z.2.2.2)) (fun _ _ => False) := by
  have m8 := T.1.2
  refine hp_ofV (by decide) (by simp [Value.category]) (Nat.le_of_ble_eq_true rfl) (fun M C hr hx el => ?_)
  refine hp_aload_nR C dX6_state_0 rfl ?_
  refine hp_iload_n C dX6_state_1 rfl ?_
  refine hp_if_lt (tgt := 13) C dX6_state_2 (by decide) (fun c_2 => ?_) (fun c_2 => ?_)
  · refine hp_iconst (v := 1) C dX6_state_13 (by decide) ?_
    refine hp_goto (tgt := 18) C dX6_state_14 (by decide) ?_
    refine hp_callV (ci := 6) C ml_X6_125 im_X6_refuses se_X6_refuses rfl (by decide) (mc_refu (d := d - 1) (c := 1) (r := 1) sh R (by decide)) (by omega) dX6_state_18 (R.o sh) rfl rfl (by simp [Value.category]) (fun v_18 h_18 hp => ?_) (fun _ _ hf => hf.elim)
    obtain ⟨rfl, R_18⟩ := hp
    refine hp_if_eq (tgt := 28) C dX6_state_21 (by decide) (fun z_9 => absurd z_9 (by decide)) (fun _ => ?_)
    refine hp_iconst (v := 0) C dX6_state_24 (by decide) ?_
    refine hp_goto (tgt := 34) C dX6_state_25 (by decide) ?_
    refine hp_iret C hr rfl dX6_state_34 ?_
    exact ⟨rfl, R_18⟩
  · refine hp_iload_n C dX6_state_5 rfl ?_
    refine hp_aload_nR C dX6_state_6 rfl ?_
    refine mr_S C sh R fl_X6_68_6 (Or.inr (Or.inl ⟨rfl, rfl⟩)) dX6_state_7 ?_
    refine hp_icmp_lt (tgt := 17) C dX6_state_10 (by decide) (fun z_9 => absurd z_9 (fun q => hb (by rw [Int32.lt_iff_toInt_lt] at c_2 q; rw [nI_toInt (by omega)] at q; have e0 : (0 : Int32).toInt = 0 := (by decide); omega))) (fun _ => ?_)
    refine hp_iconst (v := 1) C dX6_state_13 (by decide) ?_
    refine hp_goto (tgt := 18) C dX6_state_14 (by decide) ?_
    refine hp_callV (ci := 6) C ml_X6_125 im_X6_refuses se_X6_refuses rfl (by decide) (mc_refu (d := d - 1) (c := 1) (r := 1) sh R (by decide)) (by omega) dX6_state_18 (R.o sh) rfl rfl (by simp [Value.category]) (fun v_18 h_18 hp => ?_) (fun _ _ hf => hf.elim)
    obtain ⟨rfl, R_18⟩ := hp
    refine hp_if_eq (tgt := 28) C dX6_state_21 (by decide) (fun z_9 => absurd z_9 (by decide)) (fun _ => ?_)
    refine hp_iconst (v := 0) C dX6_state_24 (by decide) ?_
    refine hp_goto (tgt := 34) C dX6_state_25 (by decide) ?_
    refine hp_iret C hr rfl dX6_state_34 ?_
    exact ⟨rfl, R_18⟩
set_option maxRecDepth 20000 in
set_option maxHeartbeats 4000000 in
theorem mp_state {l : Launch} {G : hpG} {h H : hpT} {m d : Nat} {a : aS} {z : mrZ} (sh : mo_sh G h m) (R : MR h m H a z) (T : a_T a) {n : Nat} (hn : n < a_mk a) (hd : 6 ≤ d) : hp_C l G yX6_state (.code yX6_state cX6_state 2 (some .int)) d [.ref m, .int (nI n)] (H) (fun v h' => v = some (.int (Int32.ofInt (a_nd a 3 n))) ∧ MR h m h' a (z.1, z.2.1, 0, z.2.2.2)) (fun _ _ => False) := by
  have hn8 : n < 80 := Nat.lt_of_lt_of_le hn T.1.2
  have m8 := T.1.2
  refine hp_ofV (by decide) (by simp [Value.category]) (Nat.le_of_ble_eq_true rfl) (fun M C hr hx el => ?_)
  refine hp_aload_nR C dX6_state_0 rfl ?_
  refine hp_iload_n C dX6_state_1 rfl ?_
  refine hp_if_lt (tgt := 13) C dX6_state_2 (by decide) (fun z_9 => absurd z_9 (nI_pos (by omega))) (fun _ => ?_)
  refine hp_iload_n C dX6_state_5 rfl ?_
  refine hp_aload_nR C dX6_state_6 rfl ?_
  refine mr_S C sh R fl_X6_68_6 (Or.inr (Or.inl ⟨rfl, rfl⟩)) dX6_state_7 ?_
  refine hp_icmp_lt (tgt := 17) C dX6_state_10 (by decide) (fun _ => ?_) (fun z_9 => absurd (nI_lt hn (by omega)) z_9)
  refine hp_iconst (v := 0) C dX6_state_17 (by decide) ?_
  refine hp_callV (ci := 6) C ml_X6_125 im_X6_refuses se_X6_refuses rfl (by decide) (mc_refu (d := d - 1) (c := 0) (r := 0) sh R (by decide)) (by omega) dX6_state_18 (R.o sh) rfl rfl (by simp [Value.category]) (fun v_18 h_18 hp => ?_) (fun _ _ hf => hf.elim)
  obtain ⟨rfl, R_18⟩ := hp
  refine hp_if_eq (tgt := 28) C dX6_state_21 (by decide) (fun _ => ?_) (fun z_9 => absurd z_9 (by decide))
  refine hp_aload_nR C dX6_state_28 rfl ?_
  refine mr_A C sh R_18 fl_X6_20_6 rfl (by decide) dX6_state_29 ?_
  refine hp_iload_n C dX6_state_32 rfl ?_
  refine mr_nd C sh R_18 5 3 (by decide) (by decide) rfl hn8 dX6_state_33 ?_
  refine hp_iret C hr rfl dX6_state_34 ?_
  exact ⟨rfl, R_18⟩
set_option maxRecDepth 20000 in
set_option maxHeartbeats 4000000 in
theorem mp_eventX {l : Launch} {G : hpG} {h H : hpT} {m d : Nat} {a : aS} {z : mrZ} (sh : mo_sh G h m) (R : MR h m H a z) {i x : Int32} (hb : ¬ (0 ≤ x.toInt ∧ x.toInt ≤ 3)) (hd : 6 ≤ d) : hp_C l G yX6_event (.code yX6_event cX6_event 3 (some .int)) d [.ref m, .int i, .int x] (H) (fun v h' => v = some (.int 0) ∧ MR h m h' a (z.1, z.2.1, 1, z.2.2.2)) (fun _ _ => False) := by
  refine hp_ofV (by decide) (by simp [Value.category]) (Nat.le_of_ble_eq_true rfl) (fun M C hr hx el => ?_)
  refine hp_aload_nR C dX6_event_0 rfl ?_
  refine hp_iload_n C dX6_event_1 rfl ?_
  refine hp_iconst (v := 0) C dX6_event_2 (by decide) ?_
  refine hp_iconst (v := 3) C dX6_event_3 (by decide) ?_
  refine hp_callS C ml_X6_118 sm_X6_in (mc_inN (d := d - 1) (by decide) (by decide) hb) (by omega) dX6_event_4 rfl rfl (by simp [Value.category]) (fun v_4 h_4 hp => ?_) (fun _ _ hf => hf.elim)
  obtain ⟨rfl, rfl⟩ := hp
  refine hp_if_ne (tgt := 14) C dX6_event_7 (by decide) (fun z_9 => absurd z_9 (by decide)) (fun _ => ?_)
  refine hp_iconst (v := 1) C dX6_event_10 (by decide) ?_
  refine hp_goto (tgt := 15) C dX6_event_11 (by decide) ?_
  refine hp_callV (ci := 6) C ml_X6_125 im_X6_refuses se_X6_refuses rfl (by decide) (mc_refu (d := d - 1) (c := 1) (r := 1) sh R (by decide)) (by omega) dX6_event_15 (R.o sh) rfl rfl (by simp [Value.category]) (fun v_15 h_15 hp => ?_) (fun _ _ hf => hf.elim)
  obtain ⟨rfl, R_15⟩ := hp
  refine hp_if_eq (tgt := 23) C dX6_event_18 (by decide) (fun z_9 => absurd z_9 (by decide)) (fun _ => ?_)
  refine hp_iconst (v := 0) C dX6_event_21 (by decide) ?_
  refine hp_iret C hr rfl dX6_event_22 ?_
  exact ⟨rfl, R_15⟩
theorem mp_event {l : Launch} {G : hpG} {h H : hpT} {m d : Nat} {a : aS} {z : mrZ} (sh : mo_sh G h m) (R : MR h m H a z) {i : Int32} {j : Nat} (hj : j ≤ 3) (hl : (a_ev a).length < 2 ^ 30) (hd : 6 ≤ d) : hp_C l G yX6_event (.code yX6_event cX6_event 3 (some .int)) d [.ref m, .int i, .int (nI j)] H (fun v h' => v = some (.int (a_evt a i j)) ∧ MR h m h' a (z.1, z.2.1, 0, z.2.2.2)) (fun _ _ => False) := by
  obtain ⟨s, rfl, r, r1, r2, r3⟩ := R
  have ec : mo_evtC (nI j) = 0 := by
    unfold mo_evtC
    rw [mo_innY (x := nI j) (lw := 0) (hg := 3) (by decide) (by decide) (show (0 : Int) ≤ (nI j).toInt ∧ (nI j).toInt ≤ 3 by rw [nI_toInt (by omega)]; omega), if_neg (by decide)]
  have er : mo_evtR s i (nI j) = a_evt a i j := by
    have e0 : (0 : Int32).toInt = 0 := by decide
    have e6 : (600 : Int32).toInt = 600 := by decide
    unfold mo_evtR a_evt
    rw [ec, if_pos rfl]
    by_cases c1 : i < 0
    · rw [if_pos c1, if_neg]
      rw [Int32.lt_iff_toInt_lt] at c1
      omega
    · rw [if_neg c1, r.2.2.1]
      obtain ⟨k, hk, e⟩ := nI_of c1
      subst e
      rw [nI_toInt hk]
      by_cases c2 : nI (a_ev a).length ≤ nI k
      · rw [if_pos c2, if_neg]
        rw [nI_leI (by omega) hk] at c2
        omega
      · rw [if_neg c2]
        rw [nI_leI (by omega) hk] at c2
        by_cases c3 : (600 : Int32) ≤ nI k
        · rw [if_pos c3, if_neg]
          rw [Int32.le_iff_toInt_le, nI_toInt hk] at c3
          omega
        · rw [if_neg c3]
          rw [Int32.le_iff_toInt_le, nI_toInt hk] at c3
          rw [if_pos (by omega), show ((k : Int)).toNat = k from rfl, show (4 : Int32) = nI 4 from rfl, pk_mul, nI_add, nI_clamp (by omega)]
          have hkl : k < (a_ev a).length := by omega
          have eg : (a_ev a)[k]? = some ((a_ev a).getD k (0, 0, 0, 0)) := by
            rw [List.getD_eq_getElem?_getD, List.getElem?_eq_getElem hkl]
            rfl
          obtain ⟨q0, q1, q2, q3⟩ := r.2.2.2.2.2.2.2.1 k (by omega) _ eg
          have hj4 : j = 0 ∨ j = 1 ∨ j = 2 ∨ j = 3 := by omega
          rcases hj4 with rfl | rfl | rfl | rfl
          · exact q0
          · exact q1
          · exact q2
          · exact q3
  refine hp_Cw (mo_event (l := l) (d := d) (s := s) sh (by omega)) (fun v h' hv => ⟨by rw [hv.1, er], _, hv.2, r, r1, r2, ?_⟩)
  show va_up s.1 0 (mo_evtC (nI j)) 0 = 0
  rw [va_up_self, ec]
set_option maxRecDepth 20000 in
set_option maxHeartbeats 4000000 in
theorem mp_childX {l : Launch} {G : hpG} {h H : hpT} {m d : Nat} {a : aS} {z : mrZ} (sh : mo_sh G h m) (R : MR h m H a z) (T : a_T a) {x i : Int32} (hb : ∀ n, n < a_mk a → x = nI n → a_nd a 0 n = 1 → a_nd a 3 n = 2) (hd : 7 ≤ d) : hp_C l G yX6_child_ (.code yX6_child_ cX6_child_ 3 (some .int)) d [.ref m, .int x, .int i] (H) (fun v h' => v = some (.int 0) ∧ MR h m h' a (z.1, z.2.1, 1, z.2.2.2)) (fun _ _ => False) := by
  refine hp_ofV (by decide) (by simp [Value.category]) (Nat.le_of_ble_eq_true rfl) (fun M C hr hx el => ?_)
  refine hp_aload_nR C dX6_child__0 rfl ?_
  refine hp_aload_nR C dX6_child__1 rfl ?_
  refine hp_iload_n C dX6_child__2 rfl ?_
  refine hp_callV (ci := 6) C ml_X6_128 im_X6_isKeeper se_X6_isKeeper rfl (by decide) (mc_isKn (d := d - 1) sh R T hb (by omega)) (by omega) dX6_child__3 (R.o sh) rfl rfl (by simp [Value.category]) (fun v_3 h_3 hp => ?_) (fun _ _ hf => hf.elim)
  obtain ⟨rfl, R_3⟩ := hp
  refine hp_if_ne (tgt := 13) C dX6_child__6 (by decide) (fun z_9 => absurd z_9 (by decide)) (fun _ => ?_)
  refine hp_iconst (v := 1) C dX6_child__9 (by decide) ?_
  refine hp_goto (tgt := 14) C dX6_child__10 (by decide) ?_
  refine hp_callV (ci := 6) C ml_X6_125 im_X6_refuses se_X6_refuses rfl (by decide) (mc_refu (d := d - 1) (c := 1) (r := 1) sh R_3 (by decide)) (by omega) dX6_child__14 (R_3.o sh) rfl rfl (by simp [Value.category]) (fun v_14 h_14 hp => ?_) (fun _ _ hf => hf.elim)
  obtain ⟨rfl, R_14⟩ := hp
  refine hp_if_eq (tgt := 22) C dX6_child__17 (by decide) (fun z_9 => absurd z_9 (by decide)) (fun _ => ?_)
  refine hp_iconst (v := 0) C dX6_child__20 (by decide) ?_
  refine hp_iret C hr rfl dX6_child__21 ?_
  exact ⟨rfl, R_14⟩
set_option maxRecDepth 20000 in
set_option maxHeartbeats 4000000 in
theorem mp_child {l : Launch} {G : hpG} {h H : hpT} {m d : Nat} {a : aS} {z : mrZ} (sh : mo_sh G h m) (R : MR h m H a z) {n : Nat} (T : a_T a) (hn : n < a_mk a) (h3 : ¬ a_nd a 3 n = 2) (hk : a_nd a 0 n = 1) {i : Int32} (hd : 7 ≤ d) : hp_C l G yX6_child_ (.code yX6_child_ cX6_child_ 3 (some .int)) d [.ref m, .int (nI n), .int i] (H) (fun v h' => v = some (.int (a_chd a n i)) ∧ MR h m h' a (z.1, z.2.1, 0, z.2.2.2)) (fun _ _ => False) := by
  have hn8 : n < 80 := Nat.lt_of_lt_of_le hn T.1.2
  have r3 := T.r3 hn
  have hl79 := T.rl hn
  have e0 : (0 : Int32).toInt = 0 := by decide
  refine hp_ofV (by decide) (by simp [Value.category]) (Nat.le_of_ble_eq_true rfl) (fun M C hr hx el => ?_)
  by_cases hi : i < 0
  · have ea : a_chd a n i = -1 := by
      unfold a_chd
      rw [Int32.lt_iff_toInt_lt] at hi
      rw [if_neg (by omega)]
    rw [ea]
    refine hp_aload_nR C dX6_child__0 rfl ?_
    refine hp_aload_nR C dX6_child__1 rfl ?_
    refine hp_iload_n C dX6_child__2 rfl ?_
    refine hp_callV (ci := 6) C ml_X6_128 im_X6_isKeeper se_X6_isKeeper rfl (by decide) (mc_isKy (d := d - 1) sh R hn h3 hk (by omega)) (by omega) dX6_child__3 (R.o sh) rfl rfl (by simp [Value.category]) (fun v_3 h_3 hp => ?_) (fun _ _ hf => hf.elim)
    obtain ⟨rfl, R_3⟩ := hp
    refine hp_if_ne (tgt := 13) C dX6_child__6 (by decide) (fun _ => ?_) (fun z_9 => absurd z_9 (by decide))
    refine hp_iconst (v := 0) C dX6_child__13 (by decide) ?_
    refine hp_callV (ci := 6) C ml_X6_125 im_X6_refuses se_X6_refuses rfl (by decide) (mc_refu (d := d - 1) (c := 0) (r := 0) sh R_3 (by decide)) (by omega) dX6_child__14 (R_3.o sh) rfl rfl (by simp [Value.category]) (fun v_14 h_14 hp => ?_) (fun _ _ hf => hf.elim)
    obtain ⟨rfl, R_14⟩ := hp
    refine hp_if_eq (tgt := 22) C dX6_child__17 (by decide) (fun _ => ?_) (fun z_9 => absurd z_9 (by decide))
    refine hp_iload_n C dX6_child__22 rfl ?_
    refine hp_if_lt (tgt := 50) C dX6_child__23 (by decide) (fun _ => ?_) (fun z_9 => absurd hi z_9)
    refine hp_iconst (v := (-1)) C dX6_child__50 (by decide) ?_
    refine hp_iret C hr rfl dX6_child__51 ?_
    exact ⟨rfl, R_14⟩
  · obtain ⟨j, hj, ej⟩ := nI_of hi
    subst ej
    refine hp_aload_nR C dX6_child__0 rfl ?_
    refine hp_aload_nR C dX6_child__1 rfl ?_
    refine hp_iload_n C dX6_child__2 rfl ?_
    refine hp_callV (ci := 6) C ml_X6_128 im_X6_isKeeper se_X6_isKeeper rfl (by decide) (mc_isKy (d := d - 1) sh R hn h3 hk (by omega)) (by omega) dX6_child__3 (R.o sh) rfl rfl (by simp [Value.category]) (fun v_3 h_3 hp => ?_) (fun _ _ hf => hf.elim)
    obtain ⟨rfl, R_3⟩ := hp
    refine hp_if_ne (tgt := 13) C dX6_child__6 (by decide) (fun _ => ?_) (fun z_9 => absurd z_9 (by decide))
    refine hp_iconst (v := 0) C dX6_child__13 (by decide) ?_
    refine hp_callV (ci := 6) C ml_X6_125 im_X6_refuses se_X6_refuses rfl (by decide) (mc_refu (d := d - 1) (c := 0) (r := 0) sh R_3 (by decide)) (by omega) dX6_child__14 (R_3.o sh) rfl rfl (by simp [Value.category]) (fun v_14 h_14 hp => ?_) (fun _ _ hf => hf.elim)
    obtain ⟨rfl, R_14⟩ := hp
    refine hp_if_eq (tgt := 22) C dX6_child__17 (by decide) (fun _ => ?_) (fun z_9 => absurd z_9 (by decide))
    refine hp_iload_n C dX6_child__22 rfl ?_
    refine hp_if_lt (tgt := 50) C dX6_child__23 (by decide) (fun z_9 => absurd z_9 hi) (fun _ => ?_)
    refine hp_iload_n C dX6_child__26 rfl ?_
    refine hp_aload_nR C dX6_child__27 rfl ?_
    refine mr_A C sh R_14 fl_X6_50_6 rfl (by decide) dX6_child__28 ?_
    refine hp_iload_n C dX6_child__31 rfl ?_
    refine mr_many C sh R_14 hn8 dX6_child__32 ?_
    refine hp_icmp_ge (tgt := 50) C dX6_child__33 (by decide) (fun c_33 => ?_) (fun c_33 => ?_)
    · refine hp_iconst (v := (-1)) C dX6_child__50 (by decide) ?_
      refine hp_iret C hr rfl dX6_child__51 ?_
      have ea : a_chd a n (nI j) = -1 := by
        unfold a_chd
        rw [nI_leI (by omega) hj] at c_33
        rw [nI_toInt hj, if_neg (by omega)]
      rw [ea]
      exact ⟨rfl, R_14⟩
    · have hjl : j < (a_rw a n).length := by
        rw [nI_leI (by omega) hj] at c_33
        omega
      have ea : a_chd a n (nI j) = nI ((a_rw a n).getD j 0) := by
        unfold a_chd
        rw [nI_toInt hj, if_pos (by omega)]
        rfl
      rw [ea]
      refine hp_aload_nR C dX6_child__36 rfl ?_
      refine mr_A C sh R_14 fl_X6_47_6 rfl (by decide) dX6_child__37 ?_
      refine hp_bipush (v := 80) C dX6_child__40 (by decide) ?_
      refine hp_iload_n C dX6_child__42 rfl ?_
      refine hp_imul C dX6_child__43 ?_
      refine hp_iload_n C dX6_child__44 rfl ?_
      refine hp_iadd C dX6_child__45 ?_
      refine mr_row C sh R_14 hn8 hjl rfl dX6_child__46 ?_
      refine hp_goto (tgt := 51) C dX6_child__47 (by decide) ?_
      refine hp_iret C hr rfl dX6_child__51 ?_
      exact ⟨rfl, R_14⟩
/-! ===== the reference: total, about ===== -/
set_option maxRecDepth 20000 in
set_option maxHeartbeats 4000000 in
theorem mp_totalX {l : Launch} {G : hpG} {h H : hpT} {m d : Nat} {a : aS} {z : mrZ} (sh : mo_sh G h m) (R : MR h m H a z) {q : Int32} (hb : ¬ (0 ≤ q.toInt ∧ q.toInt ≤ 6)) (hd : 6 ≤ d) : hp_C l G yX6_total (.code yX6_total cX6_total 5 (some .int)) d [.ref m, .int q] (H) (fun v h' => v = some (.int 0) ∧ MR h m h' a (z.1, z.2.1, 1, z.2.2.2)) (fun _ _ => False) := by
  refine hp_ofV (by decide) (by simp [Value.category]) (Nat.le_of_ble_eq_true rfl) (fun M C hr hx el => ?_)
  refine hp_aload_nR C dX6_total_0 rfl ?_
  refine hp_iload_n C dX6_total_1 rfl ?_
  refine hp_iconst (v := 0) C dX6_total_2 (by decide) ?_
  refine hp_bipush (v := 6) C dX6_total_3 (by decide) ?_
  refine hp_callS C ml_X6_118 sm_X6_in (mc_inN (d := d - 1) (by decide) (by decide) hb) (by omega) dX6_total_5 rfl rfl (by simp [Value.category]) (fun v_5 h_5 hp => ?_) (fun _ _ hf => hf.elim)
  obtain ⟨rfl, rfl⟩ := hp
  refine hp_if_ne (tgt := 15) C dX6_total_8 (by decide) (fun z_9 => absurd z_9 (by decide)) (fun _ => ?_)
  refine hp_iconst (v := 1) C dX6_total_11 (by decide) ?_
  refine hp_goto (tgt := 16) C dX6_total_12 (by decide) ?_
  refine hp_callV (ci := 6) C ml_X6_125 im_X6_refuses se_X6_refuses rfl (by decide) (mc_refu (d := d - 1) (c := 1) (r := 1) sh R (by decide)) (by omega) dX6_total_16 (R.o sh) rfl rfl (by simp [Value.category]) (fun v_16 h_16 hp => ?_) (fun _ _ hf => hf.elim)
  obtain ⟨rfl, R_16⟩ := hp
  refine hp_if_eq (tgt := 24) C dX6_total_19 (by decide) (fun z_9 => absurd z_9 (by decide)) (fun _ => ?_)
  refine hp_iconst (v := 0) C dX6_total_22 (by decide) ?_
  refine hp_iret C hr rfl dX6_total_23 ?_
  exact ⟨rfl, R_16⟩
theorem a_ci_s {a : aS} {s : Int} {i : Nat} (h : a_nd a 3 i = s) : nI (a_ci a s i) + 1 = nI (a_ci a s (i + 1)) := by
  rw [nI_1]
  show _ = nI (if a_nd a 3 i = s then a_ci a s i + 1 else a_ci a s i)
  rw [if_pos h]
theorem a_ci_n {a : aS} {s : Int} {i : Nat} (h : ¬ a_nd a 3 i = s) : nI (a_ci a s i) + 0 = nI (a_ci a s (i + 1)) := by
  rw [Int32.add_zero]
  show _ = nI (if a_nd a 3 i = s then a_ci a s i + 1 else a_ci a s i)
  rw [if_neg h]
set_option maxHeartbeats 4000000 in
theorem ml_tot {M : hpM} {G : hpG} {d : Nat} {h0 h H : hpT} {m : Nat} {a : aS} {z : mrZ} {Q : State → Prop} (sh : mo_sh G h m) (C : hp_F M G yX6_total cX6_total 5 d h0) (R : MR h m H a z) (T : a_T a) {q : Int32} (hP : ∀ lo' : Nat → Option Value, lo' 0 = some (.ref m) → lo' 1 = some (.int q) → lo' 2 = some (.int (nI (a_ci a 1 (a_mk a)))) → lo' 3 = some (.int (nI (a_ci a 2 (a_mk a)))) → hp_V M G 5 Q H 84 lo' []) : ∀ (k i : Nat) (lo : Nat → Option Value), i + k = a_mk a → lo 0 = some (.ref m) → lo 1 = some (.int q) → lo 2 = some (.int (nI (a_ci a 1 i))) → lo 3 = some (.int (nI (a_ci a 2 i))) → lo 4 = some (.int (nI i)) → hp_V M G 5 Q H 31 lo [] := by
  have m80 := T.1.2
  intro k
  induction k with
  | zero =>
    intro i lo hi e0 e1 e2 e3 e4
    have ei : i = a_mk a := by omega
    subst ei
    refine hp_iload C dX6_total_31 e4 ?_
    refine hp_aload_nR C dX6_total_33 e0 ?_
    refine mr_S C sh R fl_X6_68_6 (Or.inr (Or.inl ⟨rfl, rfl⟩)) dX6_total_34 ?_
    refine hp_icmp_ge (tgt := 84) C dX6_total_37 (by decide) (fun _ => ?_) (fun z_9 => absurd (Int32.le_refl _) z_9)
    exact hP lo e0 e1 e2 e3
  | succ k ih =>
    intro i lo hi e0 e1 e2 e3 e4
    have him : i < a_mk a := by omega
    have hi8 : i < 80 := by omega
    have r3 := T.r3 him
    refine hp_iload C dX6_total_31 e4 ?_
    refine hp_aload_nR C dX6_total_33 e0 ?_
    refine mr_S C sh R fl_X6_68_6 (Or.inr (Or.inl ⟨rfl, rfl⟩)) dX6_total_34 ?_
    refine hp_icmp_ge (tgt := 84) C dX6_total_37 (by decide) (fun z_9 => absurd z_9 (nI_ge him (by omega))) (fun _ => ?_)
    refine hp_iload_n C dX6_total_40 e2 ?_
    refine hp_aload_nR C dX6_total_41 e0 ?_
    refine mr_A C sh R fl_X6_20_6 rfl (by decide) dX6_total_42 ?_
    refine hp_iload C dX6_total_45 e4 ?_
    refine mr_nd C sh R 5 3 (by decide) (by decide) rfl hi8 dX6_total_47 ?_
    refine hp_iconst (v := 1) C dX6_total_48 (by decide) ?_
    refine hp_icmp_ne (tgt := 56) C dX6_total_49 (by decide) (fun c_49 => ?_) (fun c_49 => ?_)
    · refine hp_iconst (v := 0) C dX6_total_56 (by decide) ?_
      refine hp_iadd C dX6_total_57 ?_
      refine hp_istore_n C dX6_total_58 (by decide) ?_
      refine hp_iload_n C dX6_total_59 e3 ?_
      refine hp_aload_nR C dX6_total_60 e0 ?_
      refine mr_A C sh R fl_X6_20_6 rfl (by decide) dX6_total_61 ?_
      refine hp_iload C dX6_total_64 e4 ?_
      refine mr_nd C sh R 5 3 (by decide) (by decide) rfl hi8 dX6_total_66 ?_
      refine hp_iconst (v := 2) C dX6_total_67 (by decide) ?_
      refine hp_icmp_ne (tgt := 75) C dX6_total_68 (by decide) (fun c_68 => ?_) (fun c_68 => ?_)
      · refine hp_iconst (v := 0) C dX6_total_75 (by decide) ?_
        refine hp_iadd C dX6_total_76 ?_
        refine hp_istore_n C dX6_total_77 (by decide) ?_
        refine hp_iinc C dX6_total_78 e4 (by decide) rfl ?_
        refine hp_goto (tgt := 31) C dX6_total_81 (by decide) ?_
        exact ih (i + 1) _ (by omega) e0 e1 (congrArg (fun q => some (Value.int q)) (a_ci_n (fun e => c_49 (by rw [e]; decide)))) (congrArg (fun q => some (Value.int q)) (a_ci_n (fun e => c_68 (by rw [e]; decide)))) ((va_up_self _ _ _).trans (by rw [show Int32.ofInt 1 = 1 from rfl, nI_1]))
      · refine hp_iconst (v := 1) C dX6_total_71 (by decide) ?_
        refine hp_goto (tgt := 76) C dX6_total_72 (by decide) ?_
        refine hp_iadd C dX6_total_76 ?_
        refine hp_istore_n C dX6_total_77 (by decide) ?_
        refine hp_iinc C dX6_total_78 e4 (by decide) rfl ?_
        refine hp_goto (tgt := 31) C dX6_total_81 (by decide) ?_
        exact ih (i + 1) _ (by omega) e0 e1 (congrArg (fun q => some (Value.int q)) (a_ci_n (fun e => c_49 (by rw [e]; decide)))) (congrArg (fun q => some (Value.int q)) (a_ci_s ((a_ofI_eq (x := a_nd a 3 i) (y := 2) (by omega) (by omega)).mp c_68))) ((va_up_self _ _ _).trans (by rw [show Int32.ofInt 1 = 1 from rfl, nI_1]))
    · refine hp_iconst (v := 1) C dX6_total_52 (by decide) ?_
      refine hp_goto (tgt := 57) C dX6_total_53 (by decide) ?_
      refine hp_iadd C dX6_total_57 ?_
      refine hp_istore_n C dX6_total_58 (by decide) ?_
      refine hp_iload_n C dX6_total_59 e3 ?_
      refine hp_aload_nR C dX6_total_60 e0 ?_
      refine mr_A C sh R fl_X6_20_6 rfl (by decide) dX6_total_61 ?_
      refine hp_iload C dX6_total_64 e4 ?_
      refine mr_nd C sh R 5 3 (by decide) (by decide) rfl hi8 dX6_total_66 ?_
      refine hp_iconst (v := 2) C dX6_total_67 (by decide) ?_
      refine hp_icmp_ne (tgt := 75) C dX6_total_68 (by decide) (fun c_68 => ?_) (fun c_68 => ?_)
      · refine hp_iconst (v := 0) C dX6_total_75 (by decide) ?_
        refine hp_iadd C dX6_total_76 ?_
        refine hp_istore_n C dX6_total_77 (by decide) ?_
        refine hp_iinc C dX6_total_78 e4 (by decide) rfl ?_
        refine hp_goto (tgt := 31) C dX6_total_81 (by decide) ?_
        exact ih (i + 1) _ (by omega) e0 e1 (congrArg (fun q => some (Value.int q)) (a_ci_s ((a_ofI_eq (x := a_nd a 3 i) (y := 1) (by omega) (by omega)).mp c_49))) (congrArg (fun q => some (Value.int q)) (a_ci_n (fun e => c_68 (by rw [e]; decide)))) ((va_up_self _ _ _).trans (by rw [show Int32.ofInt 1 = 1 from rfl, nI_1]))
      · refine hp_iconst (v := 1) C dX6_total_71 (by decide) ?_
        refine hp_goto (tgt := 76) C dX6_total_72 (by decide) ?_
        refine hp_iadd C dX6_total_76 ?_
        refine hp_istore_n C dX6_total_77 (by decide) ?_
        refine hp_iinc C dX6_total_78 e4 (by decide) rfl ?_
        refine hp_goto (tgt := 31) C dX6_total_81 (by decide) ?_
        exact ih (i + 1) _ (by omega) e0 e1 (congrArg (fun q => some (Value.int q)) (a_ci_s ((a_ofI_eq (x := a_nd a 3 i) (y := 1) (by omega) (by omega)).mp c_49))) (congrArg (fun q => some (Value.int q)) (a_ci_s ((a_ofI_eq (x := a_nd a 3 i) (y := 2) (by omega) (by omega)).mp c_68))) ((va_up_self _ _ _).trans (by rw [show Int32.ofInt 1 = 1 from rfl, nI_1]))
set_option maxRecDepth 20000 in
set_option maxHeartbeats 4000000 in
theorem mp_total {l : Launch} {G : hpG} {h H : hpT} {m d : Nat} {a : aS} {z : mrZ} (sh : mo_sh G h m) (R : MR h m H a z) (T : a_T a) {q : Int32} (hq : 0 ≤ q.toInt ∧ q.toInt ≤ 6) (hd : 6 ≤ d) : hp_C l G yX6_total (.code yX6_total cX6_total 5 (some .int)) d [.ref m, .int q] (H) (fun v h' => v = some (.int (a_tot a q)) ∧ MR h m h' a (z.1, z.2.1, 0, z.2.2.2)) (fun _ _ => False) := by
  refine hp_ofV (by decide) (by simp [Value.category]) (Nat.le_of_ble_eq_true rfl) (fun M C hr hx el => ?_)
  refine hp_aload_nR C dX6_total_0 rfl ?_
  refine hp_iload_n C dX6_total_1 rfl ?_
  refine hp_iconst (v := 0) C dX6_total_2 (by decide) ?_
  refine hp_bipush (v := 6) C dX6_total_3 (by decide) ?_
  refine hp_callS C ml_X6_118 sm_X6_in (mc_inY (d := d - 1) (by decide) (by decide) hq) (by omega) dX6_total_5 rfl rfl (by simp [Value.category]) (fun v_5 h_5 hp => ?_) (fun _ _ hf => hf.elim)
  obtain ⟨rfl, rfl⟩ := hp
  refine hp_if_ne (tgt := 15) C dX6_total_8 (by decide) (fun _ => ?_) (fun z_9 => absurd z_9 (by decide))
  refine hp_iconst (v := 0) C dX6_total_15 (by decide) ?_
  refine hp_callV (ci := 6) C ml_X6_125 im_X6_refuses se_X6_refuses rfl (by decide) (mc_refu (d := d - 1) (c := 0) (r := 0) sh R (by decide)) (by omega) dX6_total_16 (R.o sh) rfl rfl (by simp [Value.category]) (fun v_16 h_16 hp => ?_) (fun _ _ hf => hf.elim)
  obtain ⟨rfl, R_16⟩ := hp
  refine hp_if_eq (tgt := 24) C dX6_total_19 (by decide) (fun _ => ?_) (fun z_9 => absurd z_9 (by decide))
  refine hp_iconst (v := 0) C dX6_total_24 (by decide) ?_
  refine hp_istore_n C dX6_total_25 (by decide) ?_
  refine hp_iconst (v := 0) C dX6_total_26 (by decide) ?_
  refine hp_istore_n C dX6_total_27 (by decide) ?_
  refine hp_iconst (v := 0) C dX6_total_28 (by decide) ?_
  refine hp_istore C dX6_total_29 (by decide) ?_
  refine ml_tot sh C R_16 T (q := q) (fun lo e0 e1 e2 e3 => ?_) (a_mk a) 0 _ (by omega) rfl rfl rfl rfl rfl
  have hc : q = 0 ∨ q = 1 ∨ q = 2 ∨ q = 3 ∨ q = 4 ∨ q = 5 ∨ q = 6 := by
    have e : ∀ k : Int32, q.toInt = k.toInt → q = k := fun k hk => Int32.toInt_inj.mp hk
    have h7 : q.toInt = 0 ∨ q.toInt = 1 ∨ q.toInt = 2 ∨ q.toInt = 3 ∨ q.toInt = 4 ∨ q.toInt = 5 ∨ q.toInt = 6 := by omega
    rcases h7 with g | g | g | g | g | g | g
    · exact Or.inl (e 0 (g.trans (by decide)))
    · exact Or.inr (Or.inl (e 1 (g.trans (by decide))))
    · exact Or.inr (Or.inr (Or.inl (e 2 (g.trans (by decide)))))
    · exact Or.inr (Or.inr (Or.inr (Or.inl (e 3 (g.trans (by decide))))))
    · exact Or.inr (Or.inr (Or.inr (Or.inr (Or.inl (e 4 (g.trans (by decide)))))))
    · exact Or.inr (Or.inr (Or.inr (Or.inr (Or.inr (Or.inl (e 5 (g.trans (by decide))))))))
    · exact Or.inr (Or.inr (Or.inr (Or.inr (Or.inr (Or.inr (e 6 (g.trans (by decide))))))))
  rcases hc with rfl | rfl | rfl | rfl | rfl | rfl | rfl
  · refine hp_iload_n C dX6_total_84 e1 ?_
    refine hp_tableIn (tgt := 124) C dX6_total_85 (by decide) (by decide) rfl (by decide) ?_
    refine hp_aload_nR C dX6_total_124 e0 ?_
    refine mr_S C sh R_16 fl_X6_82_6 (Or.inr (Or.inr (Or.inl ⟨rfl, rfl⟩))) dX6_total_125 ?_
    refine hp_iret C hr rfl dX6_total_128 ?_
    exact ⟨rfl, R_16⟩
  · refine hp_iload_n C dX6_total_84 e1 ?_
    refine hp_tableIn (tgt := 129) C dX6_total_85 (by decide) (by decide) rfl (by decide) ?_
    refine hp_aload_nR C dX6_total_129 e0 ?_
    refine mr_S C sh R_16 fl_X6_68_6 (Or.inr (Or.inl ⟨rfl, rfl⟩)) dX6_total_130 ?_
    refine hp_iret C hr rfl dX6_total_133 ?_
    exact ⟨rfl, R_16⟩
  · refine hp_iload_n C dX6_total_84 e1 ?_
    refine hp_tableIn (tgt := 134) C dX6_total_85 (by decide) (by decide) rfl (by decide) ?_
    refine hp_iload_n C dX6_total_134 e2 ?_
    refine hp_iret C hr rfl dX6_total_135 ?_
    exact ⟨rfl, R_16⟩
  · refine hp_iload_n C dX6_total_84 e1 ?_
    refine hp_tableIn (tgt := 136) C dX6_total_85 (by decide) (by decide) rfl (by decide) ?_
    refine hp_iload_n C dX6_total_136 e3 ?_
    refine hp_iret C hr rfl dX6_total_137 ?_
    exact ⟨rfl, R_16⟩
  · refine hp_iload_n C dX6_total_84 e1 ?_
    refine hp_tableIn (tgt := 138) C dX6_total_85 (by decide) (by decide) rfl (by decide) ?_
    refine hp_aload_nR C dX6_total_138 e0 ?_
    refine mr_S C sh R_16 fl_X6_79_6 (Or.inr (Or.inr (Or.inr (Or.inl ⟨rfl, rfl⟩)))) dX6_total_139 ?_
    refine hp_iret C hr rfl dX6_total_142 ?_
    exact ⟨rfl, R_16⟩
  · refine hp_iload_n C dX6_total_84 e1 ?_
    refine hp_tableIn (tgt := 143) C dX6_total_85 (by decide) (by decide) rfl (by decide) ?_
    refine hp_aload_nR C dX6_total_143 e0 ?_
    refine mr_S C sh R_16 fl_X6_100_6 (Or.inr (Or.inr (Or.inr (Or.inr (Or.inl ⟨rfl, rfl⟩))))) dX6_total_144 ?_
    refine hp_iret C hr rfl dX6_total_147 ?_
    exact ⟨rfl, R_16⟩
  · refine hp_iload_n C dX6_total_84 e1 ?_
    refine hp_tableOut (tgt := 148) C dX6_total_85 (Or.inr (by decide)) (by decide) ?_
    refine hp_aload_nR C dX6_total_148 e0 ?_
    refine mr_S C sh R_16 fl_X6_112_6 (Or.inr (Or.inr (Or.inr (Or.inr (Or.inr ⟨rfl, rfl⟩))))) dX6_total_149 ?_
    refine hp_iret C hr rfl dX6_total_152 ?_
    exact ⟨rfl, R_16⟩
set_option maxRecDepth 20000 in
set_option maxHeartbeats 4000000 in
theorem mp_aboutX {l : Launch} {G : hpG} {h H : hpT} {m d : Nat} {a : aS} {z : mrZ} (sh : mo_sh G h m) (R : MR h m H a z) {x q : Int32} (hb : a_bad a x) (hd : 6 ≤ d) : hp_C l G yX6_about (.code yX6_about cX6_about 5 (some .int)) d [.ref m, .int x, .int q] (H) (fun v h' => v = some (.int 0) ∧ MR h m h' a (z.1, z.2.1, 1, z.2.2.2)) (fun _ _ => False) := by
  refine hp_ofV (by decide) (by simp [Value.category]) (Nat.le_of_ble_eq_true rfl) (fun M C hr hx el => ?_)
  refine hp_aload_nR C dX6_about_0 rfl ?_
  refine hp_aload_nR C dX6_about_1 rfl ?_
  refine hp_iload_n C dX6_about_2 rfl ?_
  refine hp_callV (ci := 6) C ml_X6_75 im_X6_isNode se_X6_isNode rfl (by decide) (mc_isNn (d := d - 1) sh R hb) (by omega) dX6_about_3 (R.o sh) rfl rfl (by simp [Value.category]) (fun v_3 h_3 hp => ?_) (fun _ _ hf => hf.elim)
  obtain ⟨rfl, R_3⟩ := hp
  refine hp_if_eq (tgt := 19) C dX6_about_6 (by decide) (fun _ => ?_) (fun z_9 => absurd z_9 (by decide))
  refine hp_iconst (v := 1) C dX6_about_19 (by decide) ?_
  refine hp_goto (tgt := 24) C dX6_about_20 (by decide) ?_
  refine hp_callV (ci := 6) C ml_X6_125 im_X6_refuses se_X6_refuses rfl (by decide) (mc_refu (d := d - 1) (c := 1) (r := 1) sh R_3 (by decide)) (by omega) dX6_about_24 (R_3.o sh) rfl rfl (by simp [Value.category]) (fun v_24 h_24 hp => ?_) (fun _ _ hf => hf.elim)
  obtain ⟨rfl, R_24⟩ := hp
  refine hp_if_eq (tgt := 32) C dX6_about_27 (by decide) (fun z_9 => absurd z_9 (by decide)) (fun _ => ?_)
  refine hp_iconst (v := 0) C dX6_about_30 (by decide) ?_
  refine hp_iret C hr rfl dX6_about_31 ?_
  exact ⟨rfl, R_24⟩
set_option maxRecDepth 20000 in
set_option maxHeartbeats 4000000 in
theorem mp_aboutY {l : Launch} {G : hpG} {h H : hpT} {m d : Nat} {a : aS} {z : mrZ} (sh : mo_sh G h m) (R : MR h m H a z) {n : Nat} (T : a_T a) (hn : n < a_mk a) (h3 : ¬ a_nd a 3 n = 2) {q : Int32} (hq : ¬ (0 ≤ q.toInt ∧ q.toInt ≤ 7)) (hd : 6 ≤ d) : hp_C l G yX6_about (.code yX6_about cX6_about 5 (some .int)) d [.ref m, .int (nI n), .int q] (H) (fun v h' => v = some (.int 0) ∧ MR h m h' a (z.1, z.2.1, 1, z.2.2.2)) (fun _ _ => False) := by
  have hn8 : n < 80 := Nat.lt_of_lt_of_le hn T.1.2
  have r3 := T.r3 hn
  refine hp_ofV (by decide) (by simp [Value.category]) (Nat.le_of_ble_eq_true rfl) (fun M C hr hx el => ?_)
  refine hp_aload_nR C dX6_about_0 rfl ?_
  refine hp_aload_nR C dX6_about_1 rfl ?_
  refine hp_iload_n C dX6_about_2 rfl ?_
  refine hp_callV (ci := 6) C ml_X6_75 im_X6_isNode se_X6_isNode rfl (by decide) (mc_isNy (d := d - 1) sh R hn h3) (by omega) dX6_about_3 (R.o sh) rfl rfl (by simp [Value.category]) (fun v_3 h_3 hp => ?_) (fun _ _ hf => hf.elim)
  obtain ⟨rfl, R_3⟩ := hp
  refine hp_if_eq (tgt := 19) C dX6_about_6 (by decide) (fun z_9 => absurd z_9 (by decide)) (fun _ => ?_)
  refine hp_iload_n C dX6_about_9 rfl ?_
  refine hp_iconst (v := 0) C dX6_about_10 (by decide) ?_
  refine hp_bipush (v := 7) C dX6_about_11 (by decide) ?_
  refine hp_callS C ml_X6_118 sm_X6_in (mc_inN (d := d - 1) (by decide) (by decide) hq) (by omega) dX6_about_13 rfl rfl (by simp [Value.category]) (fun v_13 h_13 hp => ?_) (fun _ _ hf => hf.elim)
  obtain ⟨rfl, rfl⟩ := hp
  refine hp_if_ne (tgt := 23) C dX6_about_16 (by decide) (fun z_9 => absurd z_9 (by decide)) (fun _ => ?_)
  refine hp_iconst (v := 1) C dX6_about_19 (by decide) ?_
  refine hp_goto (tgt := 24) C dX6_about_20 (by decide) ?_
  refine hp_callV (ci := 6) C ml_X6_125 im_X6_refuses se_X6_refuses rfl (by decide) (mc_refu (d := d - 1) (c := 1) (r := 1) sh R_3 (by decide)) (by omega) dX6_about_24 (R_3.o sh) rfl rfl (by simp [Value.category]) (fun v_24 h_24 hp => ?_) (fun _ _ hf => hf.elim)
  obtain ⟨rfl, R_24⟩ := hp
  refine hp_if_eq (tgt := 32) C dX6_about_27 (by decide) (fun z_9 => absurd z_9 (by decide)) (fun _ => ?_)
  refine hp_iconst (v := 0) C dX6_about_30 (by decide) ?_
  refine hp_iret C hr rfl dX6_about_31 ?_
  exact ⟨rfl, R_24⟩
set_option maxHeartbeats 4000000 in
theorem ml_abo {M : hpM} {G : hpG} {d : Nat} {h0 h : hpT} {m : Nat} {s : moS} {Q : State → Prop} (sh : mo_sh G h m) (C : hp_F M G yX6_about cX6_about 5 d h0) {n c : Nat} (hn8 : n < 80) (hc : c ≤ 51) (hcn : s.2 17 n = nI c) (hP : ∀ (lo' : Nat → Option Value) (x : Int32), lo' 0 = some (.ref m) → lo' 1 = some (.int (nI n)) → lo' 3 = some (.int x) → hp_V M G 5 Q (mo_w h m s) 200 lo' []) : ∀ (k i : Nat) (lo : Nat → Option Value) (x : Int32), i + k = c → lo 0 = some (.ref m) → lo 1 = some (.int (nI n)) → lo 3 = some (.int x) → lo 4 = some (.int (nI i)) → hp_V M G 5 Q (mo_w h m s) 149 lo [] := by
  obtain ⟨p1, p2⟩ := nI_80 hn8
  intro k
  induction k with
  | zero =>
    intro i lo x hi e0 e1 e3 e4
    have ei : i = c := by omega
    subst ei
    refine hp_iload C dX6_about_149 e4 ?_
    refine hp_aload_nR C dX6_about_151 e0 ?_
    refine mo_getA C sh fl_X6_56_6 rfl (by decide) dX6_about_152 ?_
    refine hp_iload_n C dX6_about_155 e1 ?_
    refine mo_aldv (v := nI i) C sh rfl (by decide) (by rw [p2]; exact hcn) dX6_about_156 (by exact p1) ?_
    refine hp_icmp_ge (tgt := 200) C dX6_about_157 (by decide) (fun _ => ?_) (fun z_9 => absurd (Int32.le_refl _) z_9)
    exact hP lo x e0 e1 e3
  | succ k ih =>
    intro i lo x hi e0 e1 e3 e4
    obtain ⟨t1, t2⟩ := mo_tim_in hn8 (show i < 52 by omega)
    refine hp_iload C dX6_about_149 e4 ?_
    refine hp_aload_nR C dX6_about_151 e0 ?_
    refine mo_getA C sh fl_X6_56_6 rfl (by decide) dX6_about_152 ?_
    refine hp_iload_n C dX6_about_155 e1 ?_
    refine mo_aldv (v := nI c) C sh rfl (by decide) (by rw [p2]; exact hcn) dX6_about_156 (by exact p1) ?_
    refine hp_icmp_ge (tgt := 200) C dX6_about_157 (by decide) (fun z_9 => absurd z_9 (nI_ge (by omega) (by omega))) (fun _ => ?_)
    refine hp_iload_n C dX6_about_160 e3 ?_
    refine hp_aload_nR C dX6_about_161 e0 ?_
    refine mo_getA C sh fl_X6_53_6 rfl (by decide) dX6_about_162 ?_
    refine hp_bipush (v := 52) C dX6_about_165 (by decide) ?_
    refine hp_iload_n C dX6_about_167 e1 ?_
    refine hp_imul C dX6_about_168 ?_
    refine hp_iload C dX6_about_169 e4 ?_
    refine hp_iadd C dX6_about_171 ?_
    refine mo_aldv (v := s.2 16 (52 * n + i)) C sh rfl (by decide) (by rw [t2]) dX6_about_172 (by exact t1) ?_
    refine hp_aload_nR C dX6_about_173 e0 ?_
    refine mo_getS C sh fl_X6_82_6 rfl (by decide) (v := s.1 18) rfl dX6_about_174 ?_
    refine hp_aload_nR C dX6_about_177 e0 ?_
    refine mo_getA C sh fl_X6_32_6 rfl (by decide) dX6_about_178 ?_
    refine hp_iload_n C dX6_about_181 e1 ?_
    refine mo_aldv (v := s.2 9 n) C sh rfl (by decide) (by rw [p2]) dX6_about_182 (by exact p1) ?_
    refine hp_isub C dX6_about_183 ?_
    refine hp_icmp_lt (tgt := 191) C dX6_about_184 (by decide) (fun _ => ?_) (fun _ => ?_)
    · refine hp_iconst (v := 0) C dX6_about_191 (by decide) ?_
      refine hp_iadd C dX6_about_192 ?_
      refine hp_istore_n C dX6_about_193 (by decide) ?_
      refine hp_iinc C dX6_about_194 e4 (by decide) rfl ?_
      refine hp_goto (tgt := 149) C dX6_about_197 (by decide) ?_
      exact ih (i + 1) _ _ (by omega) e0 e1 rfl ((va_up_self _ _ _).trans (by rw [show Int32.ofInt 1 = 1 from rfl, nI_1]))
    · refine hp_iconst (v := 1) C dX6_about_187 (by decide) ?_
      refine hp_goto (tgt := 192) C dX6_about_188 (by decide) ?_
      refine hp_iadd C dX6_about_192 ?_
      refine hp_istore_n C dX6_about_193 (by decide) ?_
      refine hp_iinc C dX6_about_194 e4 (by decide) rfl ?_
      refine hp_goto (tgt := 149) C dX6_about_197 (by decide) ?_
      exact ih (i + 1) _ _ (by omega) e0 e1 rfl ((va_up_self _ _ _).trans (by rw [show Int32.ofInt 1 = 1 from rfl, nI_1]))
set_option maxRecDepth 20000 in
set_option maxHeartbeats 4000000 in
theorem mp_about {l : Launch} {G : hpG} {h H : hpT} {m d : Nat} {a : aS} {z : mrZ} (sh : mo_sh G h m) (R : MR h m H a z) {n : Nat} (I : a_I a) (hn : n < a_mk a) (h3 : ¬ a_nd a 3 n = 2) {q : Int32} (hq : 0 ≤ q.toInt ∧ q.toInt ≤ 7) (hd : 6 ≤ d) : hp_C l G yX6_about (.code yX6_about cX6_about 5 (some .int)) d [.ref m, .int (nI n), .int q] (H) (fun v h' => (∃ x, v = some (.int x)) ∧ MR h m h' a (z.1, z.2.1, 0, z.2.2.2)) (fun _ _ => False) := by
  have T := I.1
  have hn8 : n < 80 := Nat.lt_of_lt_of_le hn T.1.2
  have r3 := T.r3 hn
  refine hp_ofV (by decide) (by simp [Value.category]) (Nat.le_of_ble_eq_true rfl) (fun M C hr hx el => ?_)
  refine hp_aload_nR C dX6_about_0 rfl ?_
  refine hp_aload_nR C dX6_about_1 rfl ?_
  refine hp_iload_n C dX6_about_2 rfl ?_
  refine hp_callV (ci := 6) C ml_X6_75 im_X6_isNode se_X6_isNode rfl (by decide) (mc_isNy (d := d - 1) sh R hn h3) (by omega) dX6_about_3 (R.o sh) rfl rfl (by simp [Value.category]) (fun v_3 h_3 hp => ?_) (fun _ _ hf => hf.elim)
  obtain ⟨rfl, R_3⟩ := hp
  refine hp_if_eq (tgt := 19) C dX6_about_6 (by decide) (fun z_9 => absurd z_9 (by decide)) (fun _ => ?_)
  refine hp_iload_n C dX6_about_9 rfl ?_
  refine hp_iconst (v := 0) C dX6_about_10 (by decide) ?_
  refine hp_bipush (v := 7) C dX6_about_11 (by decide) ?_
  refine hp_callS C ml_X6_118 sm_X6_in (mc_inY (d := d - 1) (by decide) (by decide) hq) (by omega) dX6_about_13 rfl rfl (by simp [Value.category]) (fun v_13 h_13 hp => ?_) (fun _ _ hf => hf.elim)
  obtain ⟨rfl, rfl⟩ := hp
  refine hp_if_ne (tgt := 23) C dX6_about_16 (by decide) (fun _ => ?_) (fun z_9 => absurd z_9 (by decide))
  refine hp_iconst (v := 0) C dX6_about_23 (by decide) ?_
  refine hp_callV (ci := 6) C ml_X6_125 im_X6_refuses se_X6_refuses rfl (by decide) (mc_refu (d := d - 1) (c := 0) (r := 0) sh R_3 (by decide)) (by omega) dX6_about_24 (R_3.o sh) rfl rfl (by simp [Value.category]) (fun v_24 h_24 hp => ?_) (fun _ _ hf => hf.elim)
  obtain ⟨rfl, R_24⟩ := hp
  refine hp_if_eq (tgt := 32) C dX6_about_27 (by decide) (fun _ => ?_) (fun z_9 => absurd z_9 (by decide))
  refine hp_iconst (v := 0) C dX6_about_32 (by decide) ?_
  refine hp_istore_n C dX6_about_33 (by decide) ?_
  have hc : q = 0 ∨ q = 1 ∨ q = 2 ∨ q = 3 ∨ q = 4 ∨ q = 5 ∨ q = 6 ∨ q = 7 := by
    have e : ∀ k : Int32, q.toInt = k.toInt → q = k := fun k hk => Int32.toInt_inj.mp hk
    have h7 : q.toInt = 0 ∨ q.toInt = 1 ∨ q.toInt = 2 ∨ q.toInt = 3 ∨ q.toInt = 4 ∨ q.toInt = 5 ∨ q.toInt = 6 ∨ q.toInt = 7 := by omega
    rcases h7 with g | g | g | g | g | g | g | g
    · exact Or.inl (e 0 (g.trans (by decide)))
    · exact Or.inr (Or.inl (e 1 (g.trans (by decide))))
    · exact Or.inr (Or.inr (Or.inl (e 2 (g.trans (by decide)))))
    · exact Or.inr (Or.inr (Or.inr (Or.inl (e 3 (g.trans (by decide))))))
    · exact Or.inr (Or.inr (Or.inr (Or.inr (Or.inl (e 4 (g.trans (by decide)))))))
    · exact Or.inr (Or.inr (Or.inr (Or.inr (Or.inr (Or.inl (e 5 (g.trans (by decide))))))))
    · exact Or.inr (Or.inr (Or.inr (Or.inr (Or.inr (Or.inr (Or.inl (e 6 (g.trans (by decide)))))))))
    · exact Or.inr (Or.inr (Or.inr (Or.inr (Or.inr (Or.inr (Or.inr (e 7 (g.trans (by decide)))))))))
  rcases hc with rfl | rfl | rfl | rfl | rfl | rfl | rfl | rfl
  · refine hp_iload_n C dX6_about_34 rfl ?_
    refine hp_tableIn (tgt := 76) C dX6_about_35 (by decide) (by decide) rfl (by decide) ?_
    refine hp_aload_nR C dX6_about_76 rfl ?_
    refine mr_A C sh R_24 fl_X6_13_6 rfl (by decide) dX6_about_77 ?_
    refine hp_iload_n C dX6_about_80 rfl ?_
    refine mr_nd C sh R_24 3 1 (by decide) (by decide) rfl hn8 dX6_about_81 ?_
    refine hp_iret C hr rfl dX6_about_82 ?_
    exact ⟨⟨_, rfl⟩, R_24⟩
  · refine hp_iload_n C dX6_about_34 rfl ?_
    refine hp_tableIn (tgt := 83) C dX6_about_35 (by decide) (by decide) rfl (by decide) ?_
    by_cases hn0 : n = 0
    · subst hn0
      refine hp_iload_n C dX6_about_83 rfl ?_
      refine hp_if_ne (tgt := 91) C dX6_about_84 (by decide) (fun z_9 => absurd z_9 (fun g => g (by decide))) (fun _ => ?_)
      refine hp_iconst (v := 0) C dX6_about_87 (by decide) ?_
      refine hp_goto (tgt := 96) C dX6_about_88 (by decide) ?_
      refine hp_iret C hr rfl dX6_about_96 ?_
      exact ⟨⟨_, rfl⟩, R_24⟩
    · have hm := (I.2.1.2.2.1 n hn hn0 h3).1
      have r1 := T.r1 hn hn0
      have hpm : a_pa a n < a_mk a := by
        have e : a_pa a n = (a_nd a 1 n).toNat := rfl
        omega
      refine hp_iload_n C dX6_about_83 rfl ?_
      refine hp_if_ne (tgt := 91) C dX6_about_84 (by decide) (fun _ => ?_) (fun z_9 => absurd z_9 (nI_ne0 (by omega) (by omega)))
      refine hp_aload_nR C dX6_about_91 rfl ?_
      refine hp_iload_n C dX6_about_92 rfl ?_
      refine hp_callV (ci := 6) C ml_X6_96 im_X6_place se_X6_place rfl (by decide) (mc_place (d := d - 1) sh R_24 T hpm hm) (by omega) dX6_about_93 (R_24.o sh) rfl rfl (by simp [Value.category]) (fun v_93 h_93 hp => ?_) (fun _ _ hf => hf.elim)
      obtain ⟨rfl, R_93⟩ := hp
      refine hp_iret C hr rfl dX6_about_96 ?_
      exact ⟨⟨_, rfl⟩, R_93⟩
  · refine hp_iload_n C dX6_about_34 rfl ?_
    refine hp_tableIn (tgt := 97) C dX6_about_35 (by decide) (by decide) rfl (by decide) ?_
    refine hp_aload_nR C dX6_about_97 rfl ?_
    refine mr_A C sh R_24 fl_X6_17_6 rfl (by decide) dX6_about_98 ?_
    refine hp_iload_n C dX6_about_101 rfl ?_
    refine mr_nd C sh R_24 4 2 (by decide) (by decide) rfl hn8 dX6_about_102 ?_
    refine hp_iret C hr rfl dX6_about_103 ?_
    exact ⟨⟨_, rfl⟩, R_24⟩
  · refine hp_iload_n C dX6_about_34 rfl ?_
    refine hp_tableIn (tgt := 104) C dX6_about_35 (by decide) (by decide) rfl (by decide) ?_
    refine hp_aload_nR C dX6_about_104 rfl ?_
    refine mr_A C sh R_24 fl_X6_23_6 rfl (by decide) dX6_about_105 ?_
    refine hp_iload_n C dX6_about_108 rfl ?_
    refine mr_nd C sh R_24 6 4 (by decide) (by decide) rfl hn8 dX6_about_109 ?_
    refine hp_iret C hr rfl dX6_about_110 ?_
    exact ⟨⟨_, rfl⟩, R_24⟩
  · refine hp_iload_n C dX6_about_34 rfl ?_
    refine hp_tableIn (tgt := 111) C dX6_about_35 (by decide) (by decide) rfl (by decide) ?_
    refine hp_aload_nR C dX6_about_111 rfl ?_
    refine mr_A C sh R_24 fl_X6_7_6 rfl (by decide) dX6_about_112 ?_
    refine hp_iload_n C dX6_about_115 rfl ?_
    refine mr_kp C sh R_24 hn8 dX6_about_116 ?_
    refine hp_if_eq (tgt := 124) C dX6_about_117 (by decide) (fun c_117 => ?_) (fun c_117 => ?_)
    · refine hp_iconst (v := 0) C dX6_about_124 (by decide) ?_
      refine hp_iret C hr rfl dX6_about_125 ?_
      exact ⟨⟨_, rfl⟩, R_24⟩
    · refine hp_iconst (v := 1) C dX6_about_120 (by decide) ?_
      refine hp_goto (tgt := 125) C dX6_about_121 (by decide) ?_
      refine hp_iret C hr rfl dX6_about_125 ?_
      exact ⟨⟨_, rfl⟩, R_24⟩
  · refine hp_iload_n C dX6_about_34 rfl ?_
    refine hp_tableIn (tgt := 126) C dX6_about_35 (by decide) (by decide) rfl (by decide) ?_
    refine hp_aload_nR C dX6_about_126 rfl ?_
    refine mr_A C sh R_24 fl_X6_7_6 rfl (by decide) dX6_about_127 ?_
    refine hp_iload_n C dX6_about_130 rfl ?_
    refine mr_kp C sh R_24 hn8 dX6_about_131 ?_
    refine hp_if_eq (tgt := 144) C dX6_about_132 (by decide) (fun c_132 => ?_) (fun c_132 => ?_)
    · refine hp_iconst (v := (-1)) C dX6_about_144 (by decide) ?_
      refine hp_iret C hr rfl dX6_about_145 ?_
      exact ⟨⟨_, rfl⟩, R_24⟩
    · refine hp_aload_nR C dX6_about_135 rfl ?_
      refine mr_A C sh R_24 fl_X6_50_6 rfl (by decide) dX6_about_136 ?_
      refine hp_iload_n C dX6_about_139 rfl ?_
      refine mr_many C sh R_24 hn8 dX6_about_140 ?_
      refine hp_goto (tgt := 145) C dX6_about_141 (by decide) ?_
      refine hp_iret C hr rfl dX6_about_145 ?_
      exact ⟨⟨_, rfl⟩, R_24⟩
  · refine hp_iload_n C dX6_about_34 rfl ?_
    refine hp_tableIn (tgt := 146) C dX6_about_35 (by decide) (by decide) rfl (by decide) ?_
    have R9 := R_24
    obtain ⟨s, rfl, r, r1, r2, r3' ⟩ := R9
    obtain ⟨p, y1, y2, -⟩ := r.2.2.2.2.2.2.2.2 n hn8
    refine hp_iconst (v := 0) C dX6_about_146 (by decide) ?_
    refine hp_istore C dX6_about_147 (by decide) ?_
    refine ml_abo sh C hn8 y2 y1 (fun lo x e0 e1 e3 => ?_) p.length 0 _ 0 (by omega) rfl rfl rfl rfl
    refine hp_aload_nR C dX6_about_200 e0 ?_
    refine mr_A C sh R_24 fl_X6_7_6 rfl (by decide) dX6_about_201 ?_
    refine hp_iload_n C dX6_about_204 e1 ?_
    refine mr_kp C sh R_24 hn8 dX6_about_205 ?_
    refine hp_if_eq (tgt := 213) C dX6_about_206 (by decide) (fun c_206 => ?_) (fun c_206 => ?_)
    · refine hp_iconst (v := (-1)) C dX6_about_213 (by decide) ?_
      refine hp_iret C hr rfl dX6_about_214 ?_
      exact ⟨⟨_, rfl⟩, R_24⟩
    · refine hp_iload_n C dX6_about_209 e3 ?_
      refine hp_goto (tgt := 214) C dX6_about_210 (by decide) ?_
      refine hp_iret C hr rfl dX6_about_214 ?_
      exact ⟨⟨_, rfl⟩, R_24⟩
  · refine hp_iload_n C dX6_about_34 rfl ?_
    refine hp_tableOut (tgt := 215) C dX6_about_35 (Or.inr (by decide)) (by decide) ?_
    refine hp_aload_nR C dX6_about_215 rfl ?_
    refine mr_A C sh R_24 fl_X6_7_6 rfl (by decide) dX6_about_216 ?_
    refine hp_iload_n C dX6_about_219 rfl ?_
    refine mr_kp C sh R_24 hn8 dX6_about_220 ?_
    refine hp_if_eq (tgt := 228) C dX6_about_221 (by decide) (fun c_221 => ?_) (fun c_221 => ?_)
    · refine hp_aload_nR C dX6_about_228 rfl ?_
      refine mr_A C sh R_24 fl_X6_44_6 rfl (by decide) dX6_about_229 ?_
      refine hp_iload_n C dX6_about_232 rfl ?_
      refine mr_nd C sh R_24 13 11 (by decide) (by decide) rfl hn8 dX6_about_233 ?_
      refine hp_iret C hr rfl dX6_about_234 ?_
      exact ⟨⟨_, rfl⟩, R_24⟩
    · refine hp_iconst (v := (-1)) C dX6_about_224 (by decide) ?_
      refine hp_goto (tgt := 234) C dX6_about_225 (by decide) ?_
      refine hp_iret C hr rfl dX6_about_234 ?_
      exact ⟨⟨_, rfl⟩, R_24⟩
/-! ===== the reference makes a node ===== -/
def mo_chi (s : moS) (n p c : Nat) (k kind dp : Int32) : moS := mo_up (mo_up (mo_up (mo_up (mo_up (mo_up (mo_pt s 1 (nI n + 1)) 2 n k) 3 n (nI p)) 4 n (dp + 1)) 6 n kind) 14 (80 * p + c) (nI n)) 15 p (nI c + 1)
set_option maxHeartbeats 4000000 in
theorem mo_child {l : Launch} {G : hpG} {h : hpT} {m d : Nat} {s : moS} (sh : mo_sh G h m) {n p c : Nat} {k kind : Int32} (hn : n < 80) (hp : p < 80) (hc : c < 80) (h1 : s.1 1 = nI n) (h15 : s.2 15 p = nI c) (hk : narrow .boolean (.int k) = .int k) : hp_C l G yX6_child (.code yX6_child cX6_child 5 (some .int)) d [.ref m, .int (nI p), .int kind, .int k] (mo_w h m s) (fun v h' => v = some (.int (nI n)) ∧ h' = mo_w h m (mo_chi s n p c k kind (s.2 4 p))) (fun _ _ => False) := by
  refine hp_ofV (by decide) (by simp [Value.category]) (Nat.le_of_ble_eq_true rfl) (fun M C hr hx el => ?_)
  obtain ⟨p1, p2⟩ := nI_80 hp
  obtain ⟨n1, n2⟩ := nI_80 hn
  obtain ⟨q1, q2⟩ := mo_row_in hp hc
  refine hp_aload_nR C dX6_child_0 rfl ?_
  refine mo_getS C sh fl_X6_68_6 rfl (by decide) h1 dX6_child_1 ?_
  refine hp_istore C dX6_child_4 (by decide) ?_
  refine hp_aload_nR C dX6_child_6 rfl ?_
  refine hp_dup C dX6_child_7 rfl ?_
  refine mo_getS C sh fl_X6_68_6 rfl (by decide) h1 dX6_child_8 ?_
  refine hp_iconst (v := 1) C dX6_child_11 (by decide) ?_
  refine hp_iadd C dX6_child_12 ?_
  refine mo_putS C sh fl_X6_68_6 rfl (by decide) rfl rfl rfl dX6_child_13 ?_
  refine hp_aload_nR C dX6_child_16 rfl ?_
  refine mo_getA C sh fl_X6_7_6 rfl (by decide) dX6_child_17 ?_
  refine hp_iload C dX6_child_20 rfl ?_
  refine hp_iload_n C dX6_child_22 rfl ?_
  refine mo_zst C sh hk dX6_child_23 (by exact n1) ?_
  rw [n2]
  refine hp_aload_nR C dX6_child_24 rfl ?_
  refine mo_getA C sh fl_X6_13_6 rfl (by decide) dX6_child_25 ?_
  refine hp_iload C dX6_child_28 rfl ?_
  refine hp_iload_n C dX6_child_30 rfl ?_
  refine mo_ast C sh rfl (by decide) dX6_child_31 (by exact n1) ?_
  rw [n2]
  refine hp_aload_nR C dX6_child_32 rfl ?_
  refine mo_getA C sh fl_X6_17_6 rfl (by decide) dX6_child_33 ?_
  refine hp_iload C dX6_child_36 rfl ?_
  refine hp_aload_nR C dX6_child_38 rfl ?_
  refine mo_getA C sh fl_X6_17_6 rfl (by decide) dX6_child_39 ?_
  refine hp_iload_n C dX6_child_42 rfl ?_
  refine mo_aldv (v := s.2 4 p) C sh rfl (by decide) (by rw [p2]; rfl) dX6_child_43 (by exact p1) ?_
  refine hp_iconst (v := 1) C dX6_child_44 (by decide) ?_
  refine hp_iadd C dX6_child_45 ?_
  refine mo_ast C sh rfl (by decide) dX6_child_46 (by exact n1) ?_
  rw [n2]
  refine hp_aload_nR C dX6_child_47 rfl ?_
  refine mo_getA C sh fl_X6_23_6 rfl (by decide) dX6_child_48 ?_
  refine hp_iload C dX6_child_51 rfl ?_
  refine hp_iload_n C dX6_child_53 rfl ?_
  refine mo_ast C sh rfl (by decide) dX6_child_54 (by exact n1) ?_
  rw [n2]
  refine hp_aload_nR C dX6_child_55 rfl ?_
  refine mo_getA C sh fl_X6_47_6 rfl (by decide) dX6_child_56 ?_
  refine hp_bipush (v := 80) C dX6_child_59 (by decide) ?_
  refine hp_iload_n C dX6_child_61 rfl ?_
  refine hp_imul C dX6_child_62 ?_
  refine hp_aload_nR C dX6_child_63 rfl ?_
  refine mo_getA C sh fl_X6_50_6 rfl (by decide) dX6_child_64 ?_
  refine hp_iload_n C dX6_child_67 rfl ?_
  refine mo_aldv (v := nI c) C sh rfl (by decide) (by rw [p2]; exact h15) dX6_child_68 (by exact p1) ?_
  refine hp_iadd C dX6_child_69 ?_
  refine hp_iload C dX6_child_70 rfl ?_
  refine mo_ast C sh rfl (by decide) dX6_child_72 (by exact q1) ?_
  rw [q2]
  refine hp_aload_nR C dX6_child_73 rfl ?_
  refine mo_getA C sh fl_X6_50_6 rfl (by decide) dX6_child_74 ?_
  refine hp_iload_n C dX6_child_77 rfl ?_
  refine hp_dup2 C dX6_child_78 rfl rfl ?_
  refine mo_aldv (v := nI c) C sh rfl (by decide) (by rw [p2]; exact h15) dX6_child_79 (by exact p1) ?_
  refine hp_iconst (v := 1) C dX6_child_80 (by decide) ?_
  refine hp_iadd C dX6_child_81 ?_
  refine mo_ast C sh rfl (by decide) dX6_child_82 (by exact p1) ?_
  rw [p2]
  refine hp_iload C dX6_child_83 rfl ?_
  refine hp_iret C hr rfl dX6_child_85 ?_
  exact ⟨rfl, rfl⟩
/-- what child sets -/
def a_v0 (p : Nat) (k dp kn : Int) (f : Nat) : Int := if f = 0 then k else if f = 1 then p else if f = 2 then dp + 1 else if f = 4 then kn else 0
theorem rb_R.chi {s : moS} {a : aS} {ex : Nat} (x : rb_R s a ex) (T : a_T a) (AR : a_R a) {p : Nat} {k kn : Int} (hp : p < a_mk a) (h80 : a_mk a < 80) (hk : k = 0 ∨ k = 1) (hkn : 0 ≤ kn ∧ kn ≤ 2) : rb_R (mo_chi s (a_mk a) p (a_rw a p).length (Int32.ofInt k) (Int32.ofInt kn) (s.2 4 p)) (a_add p (a_v0 p k (a_nd a 2 p) kn) a) ex := by
  obtain ⟨x1, x2, x3, x4, x5, x6, x7, x8, x9⟩ := x
  obtain ⟨z1, z2, z3⟩ := AR.2.2.2.2 (a_mk a) (Nat.le_refl _) h80
  have hl79 := T.rl hp
  have r2 := T.r2 hp
  have hp8 : p < 80 := by omega
  have hpn : p ≠ a_mk a := by omega
  generalize hS : mo_chi s (a_mk a) p (a_rw a p).length (Int32.ofInt k) (Int32.ofInt kn) (s.2 4 p) = S
  have ne : ∀ j, j ≠ 2 → j ≠ 3 → j ≠ 4 → j ≠ 6 → j ≠ 14 → j ≠ 15 → S.2 j = s.2 j := fun j j2 j3 j4 j6 j14 j15 => by
    rw [← hS]
    show va_up (va_up (va_up (va_up (va_up (va_up s.2 2 _) 3 _) 4 _) 6 _) 14 _) 15 _ j = _
    rw [va_up_ne _ _ j15, va_up_ne _ _ j14, va_up_ne _ _ j6, va_up_ne _ _ j4, va_up_ne _ _ j3, va_up_ne _ _ j2]
  have at2 : ∀ q, S.2 2 q = if q = a_mk a then Int32.ofInt k else s.2 2 q := fun q => by rw [← hS]; rfl
  have at3 : ∀ q, S.2 3 q = if q = a_mk a then nI p else s.2 3 q := fun q => by rw [← hS]; rfl
  have at4 : ∀ q, S.2 4 q = if q = a_mk a then s.2 4 p + 1 else s.2 4 q := fun q => by rw [← hS]; rfl
  have at6 : ∀ q, S.2 6 q = if q = a_mk a then Int32.ofInt kn else s.2 6 q := fun q => by rw [← hS]; rfl
  have at14 : ∀ q, S.2 14 q = if q = 80 * p + (a_rw a p).length then nI (a_mk a) else s.2 14 q := fun q => by rw [← hS]; rfl
  have at15 : ∀ q, S.2 15 q = if q = p then nI (a_rw a p).length + 1 else s.2 15 q := fun q => by rw [← hS]; rfl
  have S1 : ∀ j, j ≠ 1 → S.1 j = s.1 j := fun j hj => by rw [← hS]; exact va_up_ne _ _ hj
  have end' : ∀ f q, a_nd (a_add p (a_v0 p k (a_nd a 2 p) kn) a) f q = if q = a_mk a then a_v0 p k (a_nd a 2 p) kn f else a_nd a f q := fun f q => rfl
  refine ⟨⟨?_, Nat.succ_le_succ (Nat.zero_le _), h80⟩, by rw [S1 _ (by decide)]; exact x2, by rw [S1 _ (by decide)]; exact x3, by rw [S1 _ (by decide)]; exact x4, by rw [S1 _ (by decide)]; exact x5, fun f q hf hq => ?_, fun q hq => ?_, fun i hi q hq => ?_, fun q hq => ?_⟩
  · rw [← hS]
    show va_up s.1 1 (nI (a_mk a) + 1) 1 = nI (a_mk a + 1)
    rw [va_up_self, nI_1]
  · rw [end']
    obtain ⟨y1, y2⟩ := x6 f q hf hq
    by_cases e : q = a_mk a
    · rw [if_pos e]
      have f12 : f = 0 ∨ f = 1 ∨ f = 2 ∨ f = 4 ∨ (f ≠ 0 ∧ f ≠ 1 ∧ f ≠ 2 ∧ f ≠ 4) := by omega
      rcases f12 with rfl | rfl | rfl | rfl | ⟨f0, f1, f2, f4⟩
      · rw [show (0 + 2 : Nat) = 2 from rfl, at2, if_pos e]
        refine ⟨rfl, ?_⟩
        show a_sm k
        omega
      · rw [show (1 + 2 : Nat) = 3 from rfl, at3, if_pos e]
        refine ⟨rfl, ?_⟩
        show a_sm (p : Int)
        omega
      · rw [show (2 + 2 : Nat) = 4 from rfl, at4, if_pos e, (x6 2 p (by omega) hp8).1]
        refine ⟨?_, ?_⟩
        · show Int32.ofInt (a_nd a 2 p) + 1 = Int32.ofInt (a_nd a 2 p + 1)
          rw [Int32.ofInt_add]
          rfl
        · show a_sm (a_nd a 2 p + 1)
          omega
      · rw [show (4 + 2 : Nat) = 6 from rfl, at6, if_pos e]
        refine ⟨rfl, ?_⟩
        show a_sm kn
        omega
      · have ev : a_v0 p k (a_nd a 2 p) kn f = 0 := by
          unfold a_v0
          rw [if_neg f0, if_neg f1, if_neg f2, if_neg f4]
        rw [ev, ne _ (by omega) (by omega) (by omega) (by omega) (by omega) (by omega), y1, e, z1 f hf]
        exact ⟨rfl, by omega⟩
    · rw [if_neg e]
      refine ⟨?_, y2⟩
      have f12 : f = 0 ∨ f = 1 ∨ f = 2 ∨ f = 4 ∨ (f ≠ 0 ∧ f ≠ 1 ∧ f ≠ 2 ∧ f ≠ 4) := by omega
      rcases f12 with rfl | rfl | rfl | rfl | ⟨f0, f1, f2, f4⟩
      · rw [show (0 + 2 : Nat) = 2 from rfl, at2, if_neg e]; exact y1
      · rw [show (1 + 2 : Nat) = 3 from rfl, at3, if_neg e]; exact y1
      · rw [show (2 + 2 : Nat) = 4 from rfl, at4, if_neg e]; exact y1
      · rw [show (4 + 2 : Nat) = 6 from rfl, at6, if_neg e]; exact y1
      · rw [ne _ (by omega) (by omega) (by omega) (by omega) (by omega) (by omega)]; exact y1
  · obtain ⟨y1, y2, y3⟩ := x7 q hq
    by_cases ep : q = p
    · subst ep
      have er : a_rw (a_add q (a_v0 q k (a_nd a 2 q) kn) a) q = a_rw a q ++ [a_mk a] := va_up_self _ _ _
      rw [er, at15, if_pos rfl, List.length_append]
      refine ⟨nI_1 _, by show (a_rw a q).length + 1 ≤ 80; omega, fun i hi => ?_⟩
      have hi' : i < (a_rw a q).length + 1 := hi
      rw [at14, List.getD_eq_getElem?_getD]
      by_cases ei : i = (a_rw a q).length
      · rw [if_pos (by omega), List.getElem?_append_right (by omega), ei, Nat.sub_self]
        exact ⟨rfl, h80⟩
      · rw [if_neg (by omega), List.getElem?_append_left (by omega), ← List.getD_eq_getElem?_getD]
        exact y3 i (by omega)
    · by_cases em : q = a_mk a
      · have er : a_rw (a_add p (a_v0 p k (a_nd a 2 p) kn) a) q = [] := by
          show va_up (va_up (a_rw a) (a_mk a) []) p _ q = _
          rw [va_up_ne _ _ ep, em, va_up_self]
        rw [er, at15, if_neg ep, y1, em, z2]
        exact ⟨rfl, by decide, fun i hi => absurd hi (Nat.not_lt_zero _)⟩
      · have er : a_rw (a_add p (a_v0 p k (a_nd a 2 p) kn) a) q = a_rw a q := by
          show va_up (va_up (a_rw a) (a_mk a) []) p _ q = _
          rw [va_up_ne _ _ ep, va_up_ne _ _ em]
        rw [er, at15, if_neg ep]
        refine ⟨y1, y2, fun i hi => ?_⟩
        rw [at14, if_neg (by omega)]
        exact y3 i hi
  · rw [ne _ (by decide) (by decide) (by decide) (by decide) (by decide) (by decide)]
    exact x8 i hi q hq
  · obtain ⟨P, y1, y2, y3, y4, dr, y5, y6⟩ := x9 q hq
    refine ⟨P, ?_⟩
    unfold rb_t
    rw [ne 17 (by decide) (by decide) (by decide) (by decide) (by decide) (by decide), ne 16 (by decide) (by decide) (by decide) (by decide) (by decide) (by decide), end', end']
    by_cases em : q = a_mk a
    · have er : a_rt (a_add p (a_v0 p k (a_nd a 2 p) kn) a) q = a_rt a q := by
        show va_up (a_rt a) (a_mk a) [] q = _
        rw [em, va_up_self, z3]
      rw [er, if_pos em]
      have e3 : ¬ a_v0 p k (a_nd a 2 p) kn 3 = 1 := fun e => by cases e
      exact ⟨y1, y2, fun e => absurd e e3, y4, dr, y5, fun e => absurd e e3⟩
    · have er : a_rt (a_add p (a_v0 p k (a_nd a 2 p) kn) a) q = a_rt a q := va_up_ne _ _ em
      rw [er, if_neg em, if_neg em]
      exact ⟨y1, y2, y3, y4, dr, y5, y6⟩
theorem mc_chi {l : Launch} {G : hpG} {h H : hpT} {m d : Nat} {a : aS} {z : mrZ} (sh : mo_sh G h m) (R : MR h m H a z) (T : a_T a) (AR : a_R a) {p : Nat} {k kind : Int32} {kn : Int} (hp : p < a_mk a) (h80 : a_mk a < 80) (hk : k = 0 ∨ k = 1) (hkn : 0 ≤ kn ∧ kn ≤ 2) (ekn : kind = Int32.ofInt kn) : hp_C l G yX6_child (.code yX6_child cX6_child 5 (some .int)) d [.ref m, .int (nI p), .int kind, .int k] H (fun v h' => v = some (.int (nI (a_mk a))) ∧ MR h m h' (a_add p (a_v0 p k.toInt (a_nd a 2 p) kn) a) z) (fun _ _ => False) := by
  obtain ⟨s, rfl, r, r1, r2, r3⟩ := R
  subst ekn
  have hl79 := T.rl hp
  have hkI : k.toInt = 0 ∨ k.toInt = 1 := by
    rcases hk with rfl | rfl
    · exact Or.inl (by decide)
    · exact Or.inr (by decide)
  have con := mo_child (l := l) (d := d) (s := s) sh (n := a_mk a) (p := p) (c := (a_rw a p).length) (k := k) (kind := Int32.ofInt kn) h80 (by omega) (by omega) r.1.1 (r.2.2.2.2.2.2.1 p (by omega)).1 (by rcases hk with rfl | rfl <;> rfl)
  have rc := r.chi T AR hp h80 hkI hkn
  rw [← k_i32 k] at rc
  exact hp_Cw con (fun v h' hv => ⟨hv.1, _, hv.2, rc, r1, r2, r3⟩)
theorem a_add_sn (p : Nat) (v : Nat → Int) (a : aS) (f : Nat) (x : Int) : a_sn (a_add p v a) f (a_mk a) x = a_add p (va_up v f x) a := by
  have e : va_up (a_nd (a_add p v a)) f (va_up (a_nd (a_add p v a) f) (a_mk a) x) = fun g m => if m = a_mk a then va_up v f x g else a_nd a g m := by
    funext g m
    by_cases eg : g = f
    · subst eg
      rw [va_up_self]
      by_cases em : m = a_mk a
      · rw [em, va_up_self, if_pos rfl, va_up_self]
      · rw [va_up_ne _ _ em, if_neg em]
        exact if_neg em
    · rw [va_up_ne _ _ eg]
      by_cases em : m = a_mk a
      · rw [if_pos em, va_up_ne _ _ eg]
        exact if_pos em
      · rw [if_neg em]
        exact if_neg em
  show ((a_add p v a).1, (a_add p v a).2.1, (a_add p v a).2.2.1, (a_add p v a).2.2.2.1, va_up (a_nd (a_add p v a)) f (va_up (a_nd (a_add p v a) f) (a_mk a) x), (a_add p v a).2.2.2.2.2) = _
  rw [e]
  rfl
