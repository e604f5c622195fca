/-! ===== the reference: first, failing, pass, state, event, child ===== -/
theorem mo_innY {x lw hg : Int32} {L U : Int} (hl : lw.toInt = L) (hh : hg.toInt = U) (hx : L ≤ x.toInt ∧ x.toInt ≤ U) : mo_inn x lw hg = 1 := by
  unfold mo_inn
  rw [if_neg (by rw [Int32.lt_iff_toInt_lt]; omega), if_neg (by rw [Int32.lt_iff_toInt_lt]; omega)]
theorem mo_innN {x lw hg : Int32} {L U : Int} (hl : lw.toInt = L) (hh : hg.toInt = U) (hx : ¬ (L ≤ x.toInt ∧ x.toInt ≤ U)) : mo_inn x lw hg = 0 := by
  unfold mo_inn
  by_cases c : x < lw
  · rw [if_pos c]
  · rw [if_neg c]
    rw [Int32.lt_iff_toInt_lt] at c
    rw [if_pos (by rw [Int32.lt_iff_toInt_lt]; omega)]
theorem mc_kpY {l : Launch} {G : hpG} {h : hpT} {d : Nat} {x r t : Int32} (hb : (0 ≤ x.toInt ∧ x.toInt ≤ 2) ∧ (0 ≤ r.toInt ∧ r.toInt ≤ 50) ∧ (1 ≤ t.toInt ∧ t.toInt ≤ 1000)) (hd : 1 ≤ d) : hp_C l G yX6_isKeeping (.code yX6_isKeeping cX6_isKeeping 3 (some .boolean)) d [.int x, .int r, .int t] h (fun v h' => v = some (.int 1) ∧ h' = h) (fun _ _ => False) :=
  hp_Cw (mo_isKeeping hd) (fun v h' hv => ⟨by
    rw [hv.1]
    unfold mo_isKp
    rw [mo_innY (by decide) (by decide) hb.1, if_neg (by decide), mo_innY (by decide) (by decide) hb.2.1, if_neg (by decide), mo_innY (by decide) (by decide) hb.2.2, if_neg (by decide)], hv.2⟩)
theorem mc_kpN {l : Launch} {G : hpG} {h : hpT} {d : Nat} {x r t : Int32} (hb : ¬ ((0 ≤ x.toInt ∧ x.toInt ≤ 2) ∧ (0 ≤ r.toInt ∧ r.toInt ≤ 50) ∧ (1 ≤ t.toInt ∧ t.toInt ≤ 1000))) (hd : 1 ≤ d) : hp_C l G yX6_isKeeping (.code yX6_isKeeping cX6_isKeeping 3 (some .boolean)) d [.int x, .int r, .int t] h (fun v h' => v = some (.int 0) ∧ h' = h) (fun _ _ => False) :=
  hp_Cw (mo_isKeeping hd) (fun v h' hv => ⟨by
    rw [hv.1]
    unfold mo_isKp
    by_cases c1 : 0 ≤ x.toInt ∧ x.toInt ≤ 2
    · rw [mo_innY (by decide) (by decide) c1, if_neg (by decide)]
      by_cases c2 : 0 ≤ r.toInt ∧ r.toInt ≤ 50
      · rw [mo_innY (by decide) (by decide) c2, if_neg (by decide), mo_innN (by decide) (by decide) (fun c3 => hb ⟨c1, c2, c3⟩), if_pos rfl]
      · rw [mo_innN (by decide) (by decide) c2, if_pos rfl]
    · rw [mo_innN (by decide) (by decide) c1, if_pos rfl], hv.2⟩)
set_option maxRecDepth 20000 in
set_option maxHeartbeats 4000000 in
theorem mp_beginS {l : Launch} {G : hpG} {h H : hpT} {m d : Nat} {a : aS} {z : mrZ} (sh : mo_sh G h m) (R : MR h m H a z) (hu : a_nd a 3 0 = 1) (hd : 6 ≤ d) : hp_C l G yX6_begin (.code yX6_begin cX6_begin 1 (some .boolean)) d [.ref m] (H) (fun v h' => v = some (.int 0) ∧ MR h m h' a (z.1, z.2.1, 1, z.2.2.2)) (fun _ _ => False) := by
  refine hp_ofV (by decide) (by simp [Value.category]) (Nat.le_of_ble_eq_true rfl) (fun M C hr hx el => ?_)
  refine hp_aload_nR C dX6_begin_0 rfl ?_
  refine hp_aload_nR C dX6_begin_1 rfl ?_
  refine mr_A C sh R fl_X6_20_6 rfl (by decide) dX6_begin_2 ?_
  refine hp_iconst (v := 0) C dX6_begin_5 (by decide) ?_
  refine mr_nd (n := 0) C sh R 5 3 (by decide) (by decide) rfl (by decide) dX6_begin_6 ?_
  refine hp_iconst (v := 1) C dX6_begin_7 (by decide) ?_
  refine hp_icmp_ne (tgt := 15) C dX6_begin_8 (by decide) (fun z_9 => absurd z_9 (fun q => q (show Int32.ofInt (a_nd a 3 0) = 1 by rw [hu]; decide))) (fun _ => ?_)
  refine hp_iconst (v := 1) C dX6_begin_11 (by decide) ?_
  refine hp_goto (tgt := 16) C dX6_begin_12 (by decide) ?_
  refine hp_callV (ci := 6) C ml_X6_125 im_X6_refuses se_X6_refuses rfl (by decide) (mc_refu (d := d - 1) (c := 1) (r := 1) sh R (by decide)) (by omega) dX6_begin_16 (R.o sh) rfl rfl (by simp [Value.category]) (fun v_16 h_16 hp => ?_) (fun _ _ hf => hf.elim)
  obtain ⟨rfl, R_16⟩ := hp
  refine hp_if_ne (tgt := 34) C dX6_begin_19 (by decide) (fun _ => ?_) (fun z_9 => absurd z_9 (by decide))
  refine hp_iconst (v := 0) C dX6_begin_34 (by decide) ?_
  refine hp_iret C hr rfl dX6_begin_35 ?_
  exact ⟨rfl, R_16⟩
set_option maxRecDepth 20000 in
set_option maxHeartbeats 4000000 in
theorem mp_firstX {l : Launch} {G : hpG} {h H : hpT} {m d : Nat} {a : aS} {z : mrZ} (sh : mo_sh G h m) (R : MR h m H a z) {x r t : Int32} (hb : ¬ ((0 ≤ x.toInt ∧ x.toInt ≤ 2) ∧ (0 ≤ r.toInt ∧ r.toInt ≤ 50) ∧ (1 ≤ t.toInt ∧ t.toInt ≤ 1000))) (hd : 6 ≤ d) : hp_C l G yX6_first (.code yX6_first cX6_first 4 none) d [.ref m, .int x, .int r, .int t] (H) (fun v h' => v = none ∧ MR h m h' a (z.1, z.2.1, 1, z.2.2.2)) (fun _ _ => False) := by
  refine hp_ofV (by decide) (by simp [Value.category]) (Nat.le_of_ble_eq_true rfl) (fun M C hr hx el => ?_)
  refine hp_aload_nR C dX6_first_0 rfl ?_
  refine hp_iload_n C dX6_first_1 rfl ?_
  refine hp_iload_n C dX6_first_2 rfl ?_
  refine hp_iload_n C dX6_first_3 rfl ?_
  refine hp_callS C ml_X6_122 sm_X6_isKeeping (mc_kpN (d := d - 1) hb (by omega)) (by omega) dX6_first_4 rfl rfl (by simp [Value.category]) (fun v_4 h_4 hp => ?_) (fun _ _ hf => hf.elim)
  obtain ⟨rfl, rfl⟩ := hp
  refine hp_if_ne (tgt := 14) C dX6_first_7 (by decide) (fun z_9 => absurd z_9 (by decide)) (fun _ => ?_)
  refine hp_iconst (v := 1) C dX6_first_10 (by decide) ?_
  refine hp_goto (tgt := 29) C dX6_first_11 (by decide) ?_
  refine hp_callV (ci := 6) C ml_X6_125 im_X6_refuses se_X6_refuses rfl (by decide) (mc_refu (d := d - 1) (c := 1) (r := 1) sh R (by decide)) (by omega) dX6_first_29 (R.o sh) rfl rfl (by simp [Value.category]) (fun v_29 h_29 hp => ?_) (fun _ _ hf => hf.elim)
  obtain ⟨rfl, R_29⟩ := hp
  refine hp_if_eq (tgt := 36) C dX6_first_32 (by decide) (fun z_9 => absurd z_9 (by decide)) (fun _ => ?_)
  refine hp_vret C hr dX6_first_35 ?_
  exact ⟨rfl, R_29⟩
set_option maxRecDepth 20000 in
set_option maxHeartbeats 4000000 in
theorem mp_firstS {l : Launch} {G : hpG} {h H : hpT} {m d : Nat} {a : aS} {z : mrZ} (sh : mo_sh G h m) (R : MR h m H a z) {x r t : Int32} (hb : ((0 ≤ x.toInt ∧ x.toInt ≤ 2) ∧ (0 ≤ r.toInt ∧ r.toInt ≤ 50) ∧ (1 ≤ t.toInt ∧ t.toInt ≤ 1000))) (hu : a_nd a 3 0 = 1) (hd : 6 ≤ d) : hp_C l G yX6_first (.code yX6_first cX6_first 4 none) d [.ref m, .int x, .int r, .int t] (H) (fun v h' => v = none ∧ MR h m h' a (z.1, z.2.1, 2, z.2.2.2)) (fun _ _ => False) := by
  refine hp_ofV (by decide) (by simp [Value.category]) (Nat.le_of_ble_eq_true rfl) (fun M C hr hx el => ?_)
  refine hp_aload_nR C dX6_first_0 rfl ?_
  refine hp_iload_n C dX6_first_1 rfl ?_
  refine hp_iload_n C dX6_first_2 rfl ?_
  refine hp_iload_n C dX6_first_3 rfl ?_
  refine hp_callS C ml_X6_122 sm_X6_isKeeping (mc_kpY (d := d - 1) hb (by omega)) (by omega) dX6_first_4 rfl rfl (by simp [Value.category]) (fun v_4 h_4 hp => ?_) (fun _ _ hf => hf.elim)
  obtain ⟨rfl, rfl⟩ := hp
  refine hp_if_ne (tgt := 14) C dX6_first_7 (by decide) (fun _ => ?_) (fun z_9 => absurd z_9 (by decide))
  refine hp_aload_nR C dX6_first_14 rfl ?_
  refine mr_A C sh R fl_X6_20_6 rfl (by decide) dX6_first_15 ?_
  refine hp_iconst (v := 0) C dX6_first_18 (by decide) ?_
  refine mr_nd (n := 0) C sh R 5 3 (by decide) (by decide) rfl (by decide) dX6_first_19 ?_
  refine hp_iconst (v := 1) C dX6_first_20 (by decide) ?_
  refine hp_icmp_ne (tgt := 28) C dX6_first_21 (by decide) (fun z_9 => absurd z_9 (fun q => q (show Int32.ofInt (a_nd a 3 0) = 1 by rw [hu]; decide))) (fun _ => ?_)
  refine hp_iconst (v := 2) C dX6_first_24 (by decide) ?_
  refine hp_goto (tgt := 29) C dX6_first_25 (by decide) ?_
  refine hp_callV (ci := 6) C ml_X6_125 im_X6_refuses se_X6_refuses rfl (by decide) (mc_refu (d := d - 1) (c := 2) (r := 1) sh R (by decide)) (by omega) dX6_first_29 (R.o sh) rfl rfl (by simp [Value.category]) (fun v_29 h_29 hp => ?_) (fun _ _ hf => hf.elim)
  obtain ⟨rfl, R_29⟩ := hp
  refine hp_if_eq (tgt := 36) C dX6_first_32 (by decide) (fun z_9 => absurd z_9 (by decide)) (fun _ => ?_)
  refine hp_vret C hr dX6_first_35 ?_
  exact ⟨rfl, R_29⟩
set_option maxRecDepth 20000 in
set_option maxHeartbeats 4000000 in
theorem mp_first {l : Launch} {G : hpG} {h H : hpT} {m d : Nat} {a : aS} {z : mrZ} (sh : mo_sh G h m) (R : MR h m H a z) (T : a_T a) {x r t : Int32} (hb : ((0 ≤ x.toInt ∧ x.toInt ≤ 2) ∧ (0 ≤ r.toInt ∧ r.toInt ≤ 50) ∧ (1 ≤ t.toInt ∧ t.toInt ≤ 1000))) (hu : ¬ a_nd a 3 0 = 1) (hd : 6 ≤ d) : hp_C l G yX6_first (.code yX6_first cX6_first 4 none) d [.ref m, .int x, .int r, .int t] (H) (fun v h' => v = none ∧ MR h m h' (a_sn (a_sn (a_sn a 5 0 x.toInt) 6 0 r.toInt) 7 0 t.toInt) (z.1, z.2.1, 0, z.2.2.2)) (fun _ _ => False) := by
  have r3 := T.r3 (n := 0) T.1.1
  refine hp_ofV (by decide) (by simp [Value.category]) (Nat.le_of_ble_eq_true rfl) (fun M C hr hx el => ?_)
  refine hp_aload_nR C dX6_first_0 rfl ?_
  refine hp_iload_n C dX6_first_1 rfl ?_
  refine hp_iload_n C dX6_first_2 rfl ?_
  refine hp_iload_n C dX6_first_3 rfl ?_
  refine hp_callS C ml_X6_122 sm_X6_isKeeping (mc_kpY (d := d - 1) hb (by omega)) (by omega) dX6_first_4 rfl rfl (by simp [Value.category]) (fun v_4 h_4 hp => ?_) (fun _ _ hf => hf.elim)
  obtain ⟨rfl, rfl⟩ := hp
  refine hp_if_ne (tgt := 14) C dX6_first_7 (by decide) (fun _ => ?_) (fun z_9 => absurd z_9 (by decide))
  refine hp_aload_nR C dX6_first_14 rfl ?_
  refine mr_A C sh R fl_X6_20_6 rfl (by decide) dX6_first_15 ?_
  refine hp_iconst (v := 0) C dX6_first_18 (by decide) ?_
  refine mr_nd (n := 0) C sh R 5 3 (by decide) (by decide) rfl (by decide) dX6_first_19 ?_
  refine hp_iconst (v := 1) C dX6_first_20 (by decide) ?_
  refine hp_icmp_ne (tgt := 28) C dX6_first_21 (by decide) (fun _ => ?_) (fun z_9 => absurd z_9 (fun q => hu ((a_ofI_eq (x := a_nd a 3 0) (y := 1) (by omega) (by omega)).mp q)))
  refine hp_iconst (v := 0) C dX6_first_28 (by decide) ?_
  refine hp_callV (ci := 6) C ml_X6_125 im_X6_refuses se_X6_refuses rfl (by decide) (mc_refu (d := d - 1) (c := 0) (r := 0) sh R (by decide)) (by omega) dX6_first_29 (R.o sh) rfl rfl (by simp [Value.category]) (fun v_29 h_29 hp => ?_) (fun _ _ hf => hf.elim)
  obtain ⟨rfl, R_29⟩ := hp
  refine hp_if_eq (tgt := 36) C dX6_first_32 (by decide) (fun _ => ?_) (fun z_9 => absurd z_9 (by decide))
  refine hp_aload_nR C dX6_first_36 rfl ?_
  refine mr_A C sh R_29 fl_X6_26_6 rfl (by decide) dX6_first_37 ?_
  refine hp_iconst (v := 0) C dX6_first_40 (by decide) ?_
  refine hp_iload_n C dX6_first_41 rfl ?_
  refine ms_sn C sh R_29 7 5 (by decide) (by decide) (by decide) (by decide) rfl (n := 0) (by decide) x.toInt (by omega) (k_i32 x) dX6_first_42 (fun H_42 R_42 => ?_)
  refine hp_aload_nR C dX6_first_43 rfl ?_
  refine mr_A C sh R_42 fl_X6_29_6 rfl (by decide) dX6_first_44 ?_
  refine hp_iconst (v := 0) C dX6_first_47 (by decide) ?_
  refine hp_iload_n C dX6_first_48 rfl ?_
  refine ms_sn C sh R_42 8 6 (by decide) (by decide) (by decide) (by decide) rfl (n := 0) (by decide) r.toInt (by omega) (k_i32 r) dX6_first_49 (fun H_49 R_49 => ?_)
  refine hp_aload_nR C dX6_first_50 rfl ?_
  refine mr_A C sh R_49 fl_X6_32_6 rfl (by decide) dX6_first_51 ?_
  refine hp_iconst (v := 0) C dX6_first_54 (by decide) ?_
  refine hp_iload_n C dX6_first_55 rfl ?_
  refine ms_s7 C sh R_49 (n := 0) (by decide) t.toInt (by omega) hu (k_i32 t) dX6_first_56 (fun H_56 R_56 => ?_)
  refine hp_vret C hr dX6_first_57 ?_
  exact ⟨rfl, R_56⟩
set_option maxRecDepth 20000 in
set_option maxHeartbeats 4000000 in
theorem mp_failingX {l : Launch} {G : hpG} {h H : hpT} {m d : Nat} {a : aS} {z : mrZ} (sh : mo_sh G h m) (R : MR h m H a z) (T : a_T a) {x g : Int32} (hb : ∀ n, n < a_mk a → x = nI n → a_nd a 0 n = 0 → a_nd a 3 n = 2) (hd : 7 ≤ d) : hp_C l G yX6_failing (.code yX6_failing cX6_failing 4 (some .int)) d [.ref m, .int x, .int g] (H) (fun v h' => v = some (.int 0) ∧ MR h m h' a (z.1, z.2.1, 1, z.2.2.2)) (fun _ _ => False) := by
  refine hp_ofV (by decide) (by simp [Value.category]) (Nat.le_of_ble_eq_true rfl) (fun M C hr hx el => ?_)
  refine hp_aload_nR C dX6_failing_0 rfl ?_
  refine hp_aload_nR C dX6_failing_1 rfl ?_
  refine hp_iload_n C dX6_failing_2 rfl ?_
  refine hp_callV (ci := 6) C ml_X6_134 im_X6_isWorker se_X6_isWorker rfl (by decide) (mc_isWn (d := d - 1) sh R T hb (by omega)) (by omega) dX6_failing_3 (R.o sh) rfl rfl (by simp [Value.category]) (fun v_3 h_3 hp => ?_) (fun _ _ hf => hf.elim)
  obtain ⟨rfl, R_3⟩ := hp
  refine hp_if_eq (tgt := 19) C dX6_failing_6 (by decide) (fun _ => ?_) (fun z_9 => absurd z_9 (by decide))
  refine hp_iconst (v := 1) C dX6_failing_19 (by decide) ?_
  refine hp_goto (tgt := 24) C dX6_failing_20 (by decide) ?_
  refine hp_callV (ci := 6) C ml_X6_125 im_X6_refuses se_X6_refuses rfl (by decide) (mc_refu (d := d - 1) (c := 1) (r := 1) sh R_3 (by decide)) (by omega) dX6_failing_24 (R_3.o sh) rfl rfl (by simp [Value.category]) (fun v_24 h_24 hp => ?_) (fun _ _ hf => hf.elim)
  obtain ⟨rfl, R_24⟩ := hp
  refine hp_if_eq (tgt := 32) C dX6_failing_27 (by decide) (fun z_9 => absurd z_9 (by decide)) (fun _ => ?_)
  refine hp_iconst (v := 0) C dX6_failing_30 (by decide) ?_
  refine hp_iret C hr rfl dX6_failing_31 ?_
  exact ⟨rfl, R_24⟩
set_option maxRecDepth 20000 in
set_option maxHeartbeats 4000000 in
theorem mp_failingY {l : Launch} {G : hpG} {h H : hpT} {m d : Nat} {a : aS} {z : mrZ} (sh : mo_sh G h m) (R : MR h m H a z) {n : Nat} (T : a_T a) (hn : n < a_mk a) (h3 : ¬ a_nd a 3 n = 2) (hk : a_nd a 0 n = 0) {g : Int32} (hg : ¬ (0 ≤ g.toInt ∧ g.toInt ≤ 50)) (hd : 7 ≤ d) : hp_C l G yX6_failing (.code yX6_failing cX6_failing 4 (some .int)) d [.ref m, .int (nI n), .int g] (H) (fun v h' => v = some (.int 0) ∧ MR h m h' a (z.1, z.2.1, 1, z.2.2.2)) (fun _ _ => False) := by
  have hn8 : n < 80 := Nat.lt_of_lt_of_le hn T.1.2
  have r3 := T.r3 hn
  refine hp_ofV (by decide) (by simp [Value.category]) (Nat.le_of_ble_eq_true rfl) (fun M C hr hx el => ?_)
  refine hp_aload_nR C dX6_failing_0 rfl ?_
  refine hp_aload_nR C dX6_failing_1 rfl ?_
  refine hp_iload_n C dX6_failing_2 rfl ?_
  refine hp_callV (ci := 6) C ml_X6_134 im_X6_isWorker se_X6_isWorker rfl (by decide) (mc_isWy (d := d - 1) sh R hn h3 hk (by omega)) (by omega) dX6_failing_3 (R.o sh) rfl rfl (by simp [Value.category]) (fun v_3 h_3 hp => ?_) (fun _ _ hf => hf.elim)
  obtain ⟨rfl, R_3⟩ := hp
  refine hp_if_eq (tgt := 19) C dX6_failing_6 (by decide) (fun z_9 => absurd z_9 (by decide)) (fun _ => ?_)
  refine hp_iload_n C dX6_failing_9 rfl ?_
  refine hp_iconst (v := 0) C dX6_failing_10 (by decide) ?_
  refine hp_bipush (v := 50) C dX6_failing_11 (by decide) ?_
  refine hp_callS C ml_X6_118 sm_X6_in (mc_inN (d := d - 1) (by decide) (by decide) hg) (by omega) dX6_failing_13 rfl rfl (by simp [Value.category]) (fun v_13 h_13 hp => ?_) (fun _ _ hf => hf.elim)
  obtain ⟨rfl, rfl⟩ := hp
  refine hp_if_ne (tgt := 23) C dX6_failing_16 (by decide) (fun z_9 => absurd z_9 (by decide)) (fun _ => ?_)
  refine hp_iconst (v := 1) C dX6_failing_19 (by decide) ?_
  refine hp_goto (tgt := 24) C dX6_failing_20 (by decide) ?_
  refine hp_callV (ci := 6) C ml_X6_125 im_X6_refuses se_X6_refuses rfl (by decide) (mc_refu (d := d - 1) (c := 1) (r := 1) sh R_3 (by decide)) (by omega) dX6_failing_24 (R_3.o sh) rfl rfl (by simp [Value.category]) (fun v_24 h_24 hp => ?_) (fun _ _ hf => hf.elim)
  obtain ⟨rfl, R_24⟩ := hp
  refine hp_if_eq (tgt := 32) C dX6_failing_27 (by decide) (fun z_9 => absurd z_9 (by decide)) (fun _ => ?_)
  refine hp_iconst (v := 0) C dX6_failing_30 (by decide) ?_
  refine hp_iret C hr rfl dX6_failing_31 ?_
  exact ⟨rfl, R_24⟩
set_option maxRecDepth 20000 in
set_option maxHeartbeats 4000000 in
theorem mp_failing {l : Launch} {G : hpG} {h H : hpT} {m d : Nat} {a : aS} {z : mrZ} (sh : mo_sh G h m) (R : MR h m H a z) {n : Nat} (T : a_T a) (hn : n < a_mk a) (h3 : ¬ a_nd a 3 n = 2) (hk : a_nd a 0 n = 0) {g : Int32} (hg : 0 ≤ g.toInt ∧ g.toInt ≤ 50) (hd : 7 ≤ d) : hp_C l G yX6_failing (.code yX6_failing cX6_failing 4 (some .int)) d [.ref m, .int (nI n), .int g] (H) (fun v h' => v = some (.int (Int32.ofInt (a_nd a 11 n))) ∧ MR h m h' (a_sn a 11 n g.toInt) (z.1, z.2.1, 0, z.2.2.2)) (fun _ _ => False) := by
  have hn8 : n < 80 := Nat.lt_of_lt_of_le hn T.1.2
  have r3 := T.r3 hn
  refine hp_ofV (by decide) (by simp [Value.category]) (Nat.le_of_ble_eq_true rfl) (fun M C hr hx el => ?_)
  refine hp_aload_nR C dX6_failing_0 rfl ?_
  refine hp_aload_nR C dX6_failing_1 rfl ?_
  refine hp_iload_n C dX6_failing_2 rfl ?_
  refine hp_callV (ci := 6) C ml_X6_134 im_X6_isWorker se_X6_isWorker rfl (by decide) (mc_isWy (d := d - 1) sh R hn h3 hk (by omega)) (by omega) dX6_failing_3 (R.o sh) rfl rfl (by simp [Value.category]) (fun v_3 h_3 hp => ?_) (fun _ _ hf => hf.elim)
  obtain ⟨rfl, R_3⟩ := hp
  refine hp_if_eq (tgt := 19) C dX6_failing_6 (by decide) (fun z_9 => absurd z_9 (by decide)) (fun _ => ?_)
  refine hp_iload_n C dX6_failing_9 rfl ?_
  refine hp_iconst (v := 0) C dX6_failing_10 (by decide) ?_
  refine hp_bipush (v := 50) C dX6_failing_11 (by decide) ?_
  refine hp_callS C ml_X6_118 sm_X6_in (mc_inY (d := d - 1) (by decide) (by decide) hg) (by omega) dX6_failing_13 rfl rfl (by simp [Value.category]) (fun v_13 h_13 hp => ?_) (fun _ _ hf => hf.elim)
  obtain ⟨rfl, rfl⟩ := hp
  refine hp_if_ne (tgt := 23) C dX6_failing_16 (by decide) (fun _ => ?_) (fun z_9 => absurd z_9 (by decide))
  refine hp_iconst (v := 0) C dX6_failing_23 (by decide) ?_
  refine hp_callV (ci := 6) C ml_X6_125 im_X6_refuses se_X6_refuses rfl (by decide) (mc_refu (d := d - 1) (c := 0) (r := 0) sh R_3 (by decide)) (by omega) dX6_failing_24 (R_3.o sh) rfl rfl (by simp [Value.category]) (fun v_24 h_24 hp => ?_) (fun _ _ hf => hf.elim)
  obtain ⟨rfl, R_24⟩ := hp
  refine hp_if_eq (tgt := 32) C dX6_failing_27 (by decide) (fun _ => ?_) (fun z_9 => absurd z_9 (by decide))
  refine hp_aload_nR C dX6_failing_32 rfl ?_
  refine mr_A C sh R_24 fl_X6_44_6 rfl (by decide) dX6_failing_33 ?_
  refine hp_iload_n C dX6_failing_36 rfl ?_
  refine mr_nd C sh R_24 13 11 (by decide) (by decide) rfl hn8 dX6_failing_37 ?_
  refine hp_istore_n C dX6_failing_38 (by decide) ?_
  refine hp_aload_nR C dX6_failing_39 rfl ?_
  refine mr_A C sh R_24 fl_X6_44_6 rfl (by decide) dX6_failing_40 ?_
  refine hp_iload_n C dX6_failing_43 rfl ?_
  refine hp_iload_n C dX6_failing_44 rfl ?_
  refine ms_sn C sh R_24 13 11 (by decide) (by decide) (by decide) (by decide) rfl hn8 g.toInt (by omega) (k_i32 g) dX6_failing_45 (fun H_45 R_45 => ?_)
  refine hp_iload_n C dX6_failing_46 rfl ?_
  refine hp_iret C hr rfl dX6_failing_47 ?_
  exact ⟨rfl, R_45⟩
set_option maxRecDepth 20000 in
set_option maxHeartbeats 4000000 in
theorem mp_passX {l : Launch} {G : hpG} {h H : hpT} {m d : Nat} {a : aS} {z : mrZ} (sh : mo_sh G h m) (R : MR h m H a z) {x : Int32} (hb : ¬ (0 ≤ x.toInt ∧ x.toInt ≤ 10000)) (hd : 6 ≤ d) : hp_C l G yX6_pass (.code yX6_pass cX6_pass 2 (some .int)) d [.ref m, .int x] (H) (fun v h' => v = some (.int 0) ∧ MR h m h' a (z.1, z.2.1, 1, z.2.2.2)) (fun _ _ => False) := by
  refine hp_ofV (by decide) (by simp [Value.category]) (Nat.le_of_ble_eq_true rfl) (fun M C hr hx el => ?_)
  refine hp_aload_nR C dX6_pass_0 rfl ?_
  refine hp_iload_n C dX6_pass_1 rfl ?_
  refine hp_iconst (v := 0) C dX6_pass_2 (by decide) ?_
  refine hp_sipush (v := 10000) C dX6_pass_3 (by decide) ?_
  refine hp_callS C ml_X6_118 sm_X6_in (mc_inN (d := d - 1) (by decide) (by decide) hb) (by omega) dX6_pass_6 rfl rfl (by simp [Value.category]) (fun v_6 h_6 hp => ?_) (fun _ _ hf => hf.elim)
  obtain ⟨rfl, rfl⟩ := hp
  refine hp_if_ne (tgt := 16) C dX6_pass_9 (by decide) (fun z_9 => absurd z_9 (by decide)) (fun _ => ?_)
  refine hp_iconst (v := 1) C dX6_pass_12 (by decide) ?_
  refine hp_goto (tgt := 17) C dX6_pass_13 (by decide) ?_
  refine hp_callV (ci := 6) C ml_X6_125 im_X6_refuses se_X6_refuses rfl (by decide) (mc_refu (d := d - 1) (c := 1) (r := 1) sh R (by decide)) (by omega) dX6_pass_17 (R.o sh) rfl rfl (by simp [Value.category]) (fun v_17 h_17 hp => ?_) (fun _ _ hf => hf.elim)
  obtain ⟨rfl, R_17⟩ := hp
  refine hp_if_eq (tgt := 25) C dX6_pass_20 (by decide) (fun z_9 => absurd z_9 (by decide)) (fun _ => ?_)
  refine hp_iconst (v := 0) C dX6_pass_23 (by decide) ?_
  refine hp_iret C hr rfl dX6_pass_24 ?_
  exact ⟨rfl, R_17⟩
set_option maxRecDepth 20000 in
set_option maxHeartbeats 4000000 in
theorem mp_pass {l : Launch} {G : hpG} {h H : hpT} {m d : Nat} {a : aS} {z : mrZ} (sh : mo_sh G h m) (R : MR h m H a z) {k : Nat} (hk : k ≤ 10000) (hd : 6 ≤ d) : hp_C l G yX6_pass (.code yX6_pass cX6_pass 2 (some .int)) d [.ref m, .int (nI k)] (H) (fun v h' => v = some (.int (nI (a_tm a + k))) ∧ MR h m h' (a_st a (a_tm a + k)) (z.1, z.2.1, 0, z.2.2.2)) (fun _ _ => False) := by
  refine hp_ofV (by decide) (by simp [Value.category]) (Nat.le_of_ble_eq_true rfl) (fun M C hr hx el => ?_)
  refine hp_aload_nR C dX6_pass_0 rfl ?_
  refine hp_iload_n C dX6_pass_1 rfl ?_
  refine hp_iconst (v := 0) C dX6_pass_2 (by decide) ?_
  refine hp_sipush (v := 10000) C dX6_pass_3 (by decide) ?_
  refine hp_callS C ml_X6_118 sm_X6_in (mc_inY (d := d - 1) (by decide) (by decide) (show (0 : Int) ≤ (nI k).toInt ∧ (nI k).toInt ≤ 10000 by rw [nI_toInt (by omega)]; omega)) (by omega) dX6_pass_6 rfl rfl (by simp [Value.category]) (fun v_6 h_6 hp => ?_) (fun _ _ hf => hf.elim)
  obtain ⟨rfl, rfl⟩ := hp
  refine hp_if_ne (tgt := 16) C dX6_pass_9 (by decide) (fun _ => ?_) (fun z_9 => absurd z_9 (by decide))
  refine hp_iconst (v := 0) C dX6_pass_16 (by decide) ?_
  refine hp_callV (ci := 6) C ml_X6_125 im_X6_refuses se_X6_refuses rfl (by decide) (mc_refu (d := d - 1) (c := 0) (r := 0) sh R (by decide)) (by omega) dX6_pass_17 (R.o sh) rfl rfl (by simp [Value.category]) (fun v_17 h_17 hp => ?_) (fun _ _ hf => hf.elim)
  obtain ⟨rfl, R_17⟩ := hp
  refine hp_if_eq (tgt := 25) C dX6_pass_20 (by decide) (fun _ => ?_) (fun z_9 => absurd z_9 (by decide))
  refine hp_aload_nR C dX6_pass_25 rfl ?_
  refine hp_dup C dX6_pass_26 rfl ?_
  refine mr_S C sh R_17 fl_X6_82_6 (Or.inr (Or.inr (Or.inl ⟨rfl, rfl⟩))) dX6_pass_27 ?_
  refine hp_iload_n C dX6_pass_30 rfl ?_
  refine hp_iadd C dX6_pass_31 ?_
  refine ms_tm C sh R_17 fl_X6_82_6 (a_tm a + k) (Nat.le_add_right _ _) (nI_add _ _) dX6_pass_32 (fun H_32 R_32 => ?_)
  refine hp_aload_nR C dX6_pass_35 rfl ?_
  refine mr_S C sh R_32 fl_X6_82_6 (Or.inr (Or.inr (Or.inl ⟨rfl, rfl⟩))) dX6_pass_36 ?_
  refine hp_iret C hr rfl dX6_pass_39 ?_
  exact ⟨rfl, R_32⟩
set_option maxRecDepth 20000 in
set_option maxHeartbeats 4000000 in
theorem mp_stateX {l : Launch} {G : hpG} {h H : hpT} {m d : Nat} {a : aS} {z : mrZ} (sh : mo_sh G h m) (R : MR h m H a z) (T : a_T a) {x : Int32} (hb : ¬ (0 ≤ x.toInt ∧ x.toInt < a_mk a)) (hd : 6 ≤ d) : hp_C l G yX6_state (.code yX6_state cX6_state 2 (some .int)) d [.ref m, .int x] (H) (fun v h' => v = some (.int 0) ∧ MR h m h' a (z.1, z.2.1, 1, z.2.2.2)) (fun _ _ => False) := by
  have m8 := T.1.2
  refine hp_ofV (by decide) (by simp [Value.category]) (Nat.le_of_ble_eq_true rfl) (fun M C hr hx el => ?_)
  refine hp_aload_nR C dX6_state_0 rfl ?_
  refine hp_iload_n C dX6_state_1 rfl ?_
  refine hp_if_lt (tgt := 13) C dX6_state_2 (by decide) (fun c_2 => ?_) (fun c_2 => ?_)
  · refine hp_iconst (v := 1) C dX6_state_13 (by decide) ?_
    refine hp_goto (tgt := 18) C dX6_state_14 (by decide) ?_
    refine hp_callV (ci := 6) C ml_X6_125 im_X6_refuses se_X6_refuses rfl (by decide) (mc_refu (d := d - 1) (c := 1) (r := 1) sh R (by decide)) (by omega) dX6_state_18 (R.o sh) rfl rfl (by simp [Value.category]) (fun v_18 h_18 hp => ?_) (fun _ _ hf => hf.elim)
    obtain ⟨rfl, R_18⟩ := hp
    refine hp_if_eq (tgt := 28) C dX6_state_21 (by decide) (fun z_9 => absurd z_9 (by decide)) (fun _ => ?_)
    refine hp_iconst (v := 0) C dX6_state_24 (by decide) ?_
    refine hp_goto (tgt := 34) C dX6_state_25 (by decide) ?_
    refine hp_iret C hr rfl dX6_state_34 ?_
    exact ⟨rfl, R_18⟩
  · refine hp_iload_n C dX6_state_5 rfl ?_
    refine hp_aload_nR C dX6_state_6 rfl ?_
    refine mr_S C sh R fl_X6_68_6 (Or.inr (Or.inl ⟨rfl, rfl⟩)) dX6_state_7 ?_
    refine hp_icmp_lt (tgt := 17) C dX6_state_10 (by decide) (fun z_9 => absurd z_9 (fun q => hb (by rw [Int32.lt_iff_toInt_lt] at c_2 q; rw [nI_toInt (by omega)] at q; have e0 : (0 : Int32).toInt = 0 := (by decide); omega))) (fun _ => ?_)
    refine hp_iconst (v := 1) C dX6_state_13 (by decide) ?_
    refine hp_goto (tgt := 18) C dX6_state_14 (by decide) ?_
    refine hp_callV (ci := 6) C ml_X6_125 im_X6_refuses se_X6_refuses rfl (by decide) (mc_refu (d := d - 1) (c := 1) (r := 1) sh R (by decide)) (by omega) dX6_state_18 (R.o sh) rfl rfl (by simp [Value.category]) (fun v_18 h_18 hp => ?_) (fun _ _ hf => hf.elim)
    obtain ⟨rfl, R_18⟩ := hp
    refine hp_if_eq (tgt := 28) C dX6_state_21 (by decide) (fun z_9 => absurd z_9 (by decide)) (fun _ => ?_)
    refine hp_iconst (v := 0) C dX6_state_24 (by decide) ?_
    refine hp_goto (tgt := 34) C dX6_state_25 (by decide) ?_
    refine hp_iret C hr rfl dX6_state_34 ?_
    exact ⟨rfl, R_18⟩
set_option maxRecDepth 20000 in
set_option maxHeartbeats 4000000 in
theorem mp_state {l : Launch} {G : hpG} {h H : hpT} {m d : Nat} {a : aS} {z : mrZ} (sh : mo_sh G h m) (R : MR h m H a z) (T : a_T a) {n : Nat} (hn : n < a_mk a) (hd : 6 ≤ d) : hp_C l G yX6_state (.code yX6_state cX6_state 2 (some .int)) d [.ref m, .int (nI n)] (H) (fun v h' => v = some (.int (Int32.ofInt (a_nd a 3 n))) ∧ MR h m h' a (z.1, z.2.1, 0, z.2.2.2)) (fun _ _ => False) := by
  have hn8 : n < 80 := Nat.lt_of_lt_of_le hn T.1.2
  have m8 := T.1.2
  refine hp_ofV (by decide) (by simp [Value.category]) (Nat.le_of_ble_eq_true rfl) (fun M C hr hx el => ?_)
  refine hp_aload_nR C dX6_state_0 rfl ?_
  refine hp_iload_n C dX6_state_1 rfl ?_
  refine hp_if_lt (tgt := 13) C dX6_state_2 (by decide) (fun z_9 => absurd z_9 (nI_pos (by omega))) (fun _ => ?_)
  refine hp_iload_n C dX6_state_5 rfl ?_
  refine hp_aload_nR C dX6_state_6 rfl ?_
  refine mr_S C sh R fl_X6_68_6 (Or.inr (Or.inl ⟨rfl, rfl⟩)) dX6_state_7 ?_
  refine hp_icmp_lt (tgt := 17) C dX6_state_10 (by decide) (fun _ => ?_) (fun z_9 => absurd (nI_lt hn (by omega)) z_9)
  refine hp_iconst (v := 0) C dX6_state_17 (by decide) ?_
  refine hp_callV (ci := 6) C ml_X6_125 im_X6_refuses se_X6_refuses rfl (by decide) (mc_refu (d := d - 1) (c := 0) (r := 0) sh R (by decide)) (by omega) dX6_state_18 (R.o sh) rfl rfl (by simp [Value.category]) (fun v_18 h_18 hp => ?_) (fun _ _ hf => hf.elim)
  obtain ⟨rfl, R_18⟩ := hp
  refine hp_if_eq (tgt := 28) C dX6_state_21 (by decide) (fun _ => ?_) (fun z_9 => absurd z_9 (by decide))
  refine hp_aload_nR C dX6_state_28 rfl ?_
  refine mr_A C sh R_18 fl_X6_20_6 rfl (by decide) dX6_state_29 ?_
  refine hp_iload_n C dX6_state_32 rfl ?_
  refine mr_nd C sh R_18 5 3 (by decide) (by decide) rfl hn8 dX6_state_33 ?_
  refine hp_iret C hr rfl dX6_state_34 ?_
  exact ⟨rfl, R_18⟩
set_option maxRecDepth 20000 in
set_option maxHeartbeats 4000000 in
theorem mp_eventX {l : Launch} {G : hpG} {h H : hpT} {m d : Nat} {a : aS} {z : mrZ} (sh : mo_sh G h m) (R : MR h m H a z) {i x : Int32} (hb : ¬ (0 ≤ x.toInt ∧ x.toInt ≤ 3)) (hd : 6 ≤ d) : hp_C l G yX6_event (.code yX6_event cX6_event 3 (some .int)) d [.ref m, .int i, .int x] (H) (fun v h' => v = some (.int 0) ∧ MR h m h' a (z.1, z.2.1, 1, z.2.2.2)) (fun _ _ => False) := by
  refine hp_ofV (by decide) (by simp [Value.category]) (Nat.le_of_ble_eq_true rfl) (fun M C hr hx el => ?_)
  refine hp_aload_nR C dX6_event_0 rfl ?_
  refine hp_iload_n C dX6_event_1 rfl ?_
  refine hp_iconst (v := 0) C dX6_event_2 (by decide) ?_
  refine hp_iconst (v := 3) C dX6_event_3 (by decide) ?_
  refine hp_callS C ml_X6_118 sm_X6_in (mc_inN (d := d - 1) (by decide) (by decide) hb) (by omega) dX6_event_4 rfl rfl (by simp [Value.category]) (fun v_4 h_4 hp => ?_) (fun _ _ hf => hf.elim)
  obtain ⟨rfl, rfl⟩ := hp
  refine hp_if_ne (tgt := 14) C dX6_event_7 (by decide) (fun z_9 => absurd z_9 (by decide)) (fun _ => ?_)
  refine hp_iconst (v := 1) C dX6_event_10 (by decide) ?_
  refine hp_goto (tgt := 15) C dX6_event_11 (by decide) ?_
  refine hp_callV (ci := 6) C ml_X6_125 im_X6_refuses se_X6_refuses rfl (by decide) (mc_refu (d := d - 1) (c := 1) (r := 1) sh R (by decide)) (by omega) dX6_event_15 (R.o sh) rfl rfl (by simp [Value.category]) (fun v_15 h_15 hp => ?_) (fun _ _ hf => hf.elim)
  obtain ⟨rfl, R_15⟩ := hp
  refine hp_if_eq (tgt := 23) C dX6_event_18 (by decide) (fun z_9 => absurd z_9 (by decide)) (fun _ => ?_)
  refine hp_iconst (v := 0) C dX6_event_21 (by decide) ?_
  refine hp_iret C hr rfl dX6_event_22 ?_
  exact ⟨rfl, R_15⟩
theorem mp_event {l : Launch} {G : hpG} {h H : hpT} {m d : Nat} {a : aS} {z : mrZ} (sh : mo_sh G h m) (R : MR h m H a z) {i : Int32} {j : Nat} (hj : j ≤ 3) (hl : (a_ev a).length < 2 ^ 30) (hd : 6 ≤ d) : hp_C l G yX6_event (.code yX6_event cX6_event 3 (some .int)) d [.ref m, .int i, .int (nI j)] H (fun v h' => v = some (.int (a_evt a i j)) ∧ MR h m h' a (z.1, z.2.1, 0, z.2.2.2)) (fun _ _ => False) := by
  obtain ⟨s, rfl, r, r1, r2, r3⟩ := R
  have ec : mo_evtC (nI j) = 0 := by
    unfold mo_evtC
    rw [mo_innY (x := nI j) (lw := 0) (hg := 3) (by decide) (by decide) (show (0 : Int) ≤ (nI j).toInt ∧ (nI j).toInt ≤ 3 by rw [nI_toInt (by omega)]; omega), if_neg (by decide)]
  have er : mo_evtR s i (nI j) = a_evt a i j := by
    have e0 : (0 : Int32).toInt = 0 := by decide
    have e6 : (600 : Int32).toInt = 600 := by decide
    unfold mo_evtR a_evt
    rw [ec, if_pos rfl]
    by_cases c1 : i < 0
    · rw [if_pos c1, if_neg]
      rw [Int32.lt_iff_toInt_lt] at c1
      omega
    · rw [if_neg c1, r.2.2.1]
      obtain ⟨k, hk, e⟩ := nI_of c1
      subst e
      rw [nI_toInt hk]
      by_cases c2 : nI (a_ev a).length ≤ nI k
      · rw [if_pos c2, if_neg]
        rw [nI_leI (by omega) hk] at c2
        omega
      · rw [if_neg c2]
        rw [nI_leI (by omega) hk] at c2
        by_cases c3 : (600 : Int32) ≤ nI k
        · rw [if_pos c3, if_neg]
          rw [Int32.le_iff_toInt_le, nI_toInt hk] at c3
          omega
        · rw [if_neg c3]
          rw [Int32.le_iff_toInt_le, nI_toInt hk] at c3
          rw [if_pos (by omega), show ((k : Int)).toNat = k from rfl, show (4 : Int32) = nI 4 from rfl, pk_mul, nI_add, nI_clamp (by omega)]
          have hkl : k < (a_ev a).length := by omega
          have eg : (a_ev a)[k]? = some ((a_ev a).getD k (0, 0, 0, 0)) := by
            rw [List.getD_eq_getElem?_getD, List.getElem?_eq_getElem hkl]
            rfl
          obtain ⟨q0, q1, q2, q3⟩ := r.2.2.2.2.2.2.2.1 k (by omega) _ eg
          have hj4 : j = 0 ∨ j = 1 ∨ j = 2 ∨ j = 3 := by omega
          rcases hj4 with rfl | rfl | rfl | rfl
          · exact q0
          · exact q1
          · exact q2
          · exact q3
  refine hp_Cw (mo_event (l := l) (d := d) (s := s) sh (by omega)) (fun v h' hv => ⟨by rw [hv.1, er], _, hv.2, r, r1, r2, ?_⟩)
  show va_up s.1 0 (mo_evtC (nI j)) 0 = 0
  rw [va_up_self, ec]
set_option maxRecDepth 20000 in
set_option maxHeartbeats 4000000 in
theorem mp_childX {l : Launch} {G : hpG} {h H : hpT} {m d : Nat} {a : aS} {z : mrZ} (sh : mo_sh G h m) (R : MR h m H a z) (T : a_T a) {x i : Int32} (hb : ∀ n, n < a_mk a → x = nI n → a_nd a 0 n = 1 → a_nd a 3 n = 2) (hd : 7 ≤ d) : hp_C l G yX6_child_ (.code yX6_child_ cX6_child_ 3 (some .int)) d [.ref m, .int x, .int i] (H) (fun v h' => v = some (.int 0) ∧ MR h m h' a (z.1, z.2.1, 1, z.2.2.2)) (fun _ _ => False) := by
  refine hp_ofV (by decide) (by simp [Value.category]) (Nat.le_of_ble_eq_true rfl) (fun M C hr hx el => ?_)
  refine hp_aload_nR C dX6_child__0 rfl ?_
  refine hp_aload_nR C dX6_child__1 rfl ?_
  refine hp_iload_n C dX6_child__2 rfl ?_
  refine hp_callV (ci := 6) C ml_X6_128 im_X6_isKeeper se_X6_isKeeper rfl (by decide) (mc_isKn (d := d - 1) sh R T hb (by omega)) (by omega) dX6_child__3 (R.o sh) rfl rfl (by simp [Value.category]) (fun v_3 h_3 hp => ?_) (fun _ _ hf => hf.elim)
  obtain ⟨rfl, R_3⟩ := hp
  refine hp_if_ne (tgt := 13) C dX6_child__6 (by decide) (fun z_9 => absurd z_9 (by decide)) (fun _ => ?_)
  refine hp_iconst (v := 1) C dX6_child__9 (by decide) ?_
  refine hp_goto (tgt := 14) C dX6_child__10 (by decide) ?_
  refine hp_callV (ci := 6) C ml_X6_125 im_X6_refuses se_X6_refuses rfl (by decide) (mc_refu (d := d - 1) (c := 1) (r := 1) sh R_3 (by decide)) (by omega) dX6_child__14 (R_3.o sh) rfl rfl (by simp [Value.category]) (fun v_14 h_14 hp => ?_) (fun _ _ hf => hf.elim)
  obtain ⟨rfl, R_14⟩ := hp
  refine hp_if_eq (tgt := 22) C dX6_child__17 (by decide) (fun z_9 => absurd z_9 (by decide)) (fun _ => ?_)
  refine hp_iconst (v := 0) C dX6_child__20 (by decide) ?_
  refine hp_iret C hr rfl dX6_child__21 ?_
  exact ⟨rfl, R_14⟩
set_option maxRecDepth 20000 in
set_option maxHeartbeats 4000000 in
theorem mp_child {l : Launch} {G : hpG} {h H : hpT} {m d : Nat} {a : aS} {z : mrZ} (sh : mo_sh G h m) (R : MR h m H a z) {n : Nat} (T : a_T a) (hn : n < a_mk a) (h3 : ¬ a_nd a 3 n = 2) (hk : a_nd a 0 n = 1) {i : Int32} (hd : 7 ≤ d) : hp_C l G yX6_child_ (.code yX6_child_ cX6_child_ 3 (some .int)) d [.ref m, .int (nI n), .int i] (H) (fun v h' => v = some (.int (a_chd a n i)) ∧ MR h m h' a (z.1, z.2.1, 0, z.2.2.2)) (fun _ _ => False) := by
  have hn8 : n < 80 := Nat.lt_of_lt_of_le hn T.1.2
  have r3 := T.r3 hn
  have hl79 := T.rl hn
  have e0 : (0 : Int32).toInt = 0 := by decide
  refine hp_ofV (by decide) (by simp [Value.category]) (Nat.le_of_ble_eq_true rfl) (fun M C hr hx el => ?_)
  by_cases hi : i < 0
  · have ea : a_chd a n i = -1 := by
      unfold a_chd
      rw [Int32.lt_iff_toInt_lt] at hi
      rw [if_neg (by omega)]
    rw [ea]
    refine hp_aload_nR C dX6_child__0 rfl ?_
    refine hp_aload_nR C dX6_child__1 rfl ?_
    refine hp_iload_n C dX6_child__2 rfl ?_
    refine hp_callV (ci := 6) C ml_X6_128 im_X6_isKeeper se_X6_isKeeper rfl (by decide) (mc_isKy (d := d - 1) sh R hn h3 hk (by omega)) (by omega) dX6_child__3 (R.o sh) rfl rfl (by simp [Value.category]) (fun v_3 h_3 hp => ?_) (fun _ _ hf => hf.elim)
    obtain ⟨rfl, R_3⟩ := hp
    refine hp_if_ne (tgt := 13) C dX6_child__6 (by decide) (fun _ => ?_) (fun z_9 => absurd z_9 (by decide))
    refine hp_iconst (v := 0) C dX6_child__13 (by decide) ?_
    refine hp_callV (ci := 6) C ml_X6_125 im_X6_refuses se_X6_refuses rfl (by decide) (mc_refu (d := d - 1) (c := 0) (r := 0) sh R_3 (by decide)) (by omega) dX6_child__14 (R_3.o sh) rfl rfl (by simp [Value.category]) (fun v_14 h_14 hp => ?_) (fun _ _ hf => hf.elim)
    obtain ⟨rfl, R_14⟩ := hp
    refine hp_if_eq (tgt := 22) C dX6_child__17 (by decide) (fun _ => ?_) (fun z_9 => absurd z_9 (by decide))
    refine hp_iload_n C dX6_child__22 rfl ?_
    refine hp_if_lt (tgt := 50) C dX6_child__23 (by decide) (fun _ => ?_) (fun z_9 => absurd hi z_9)
    refine hp_iconst (v := (-1)) C dX6_child__50 (by decide) ?_
    refine hp_iret C hr rfl dX6_child__51 ?_
    exact ⟨rfl, R_14⟩
  · obtain ⟨j, hj, ej⟩ := nI_of hi
    subst ej
    refine hp_aload_nR C dX6_child__0 rfl ?_
    refine hp_aload_nR C dX6_child__1 rfl ?_
    refine hp_iload_n C dX6_child__2 rfl ?_
    refine hp_callV (ci := 6) C ml_X6_128 im_X6_isKeeper se_X6_isKeeper rfl (by decide) (mc_isKy (d := d - 1) sh R hn h3 hk (by omega)) (by omega) dX6_child__3 (R.o sh) rfl rfl (by simp [Value.category]) (fun v_3 h_3 hp => ?_) (fun _ _ hf => hf.elim)
    obtain ⟨rfl, R_3⟩ := hp
    refine hp_if_ne (tgt := 13) C dX6_child__6 (by decide) (fun _ => ?_) (fun z_9 => absurd z_9 (by decide))
    refine hp_iconst (v := 0) C dX6_child__13 (by decide) ?_
    refine hp_callV (ci := 6) C ml_X6_125 im_X6_refuses se_X6_refuses rfl (by decide) (mc_refu (d := d - 1) (c := 0) (r := 0) sh R_3 (by decide)) (by omega) dX6_child__14 (R_3.o sh) rfl rfl (by simp [Value.category]) (fun v_14 h_14 hp => ?_) (fun _ _ hf => hf.elim)
    obtain ⟨rfl, R_14⟩ := hp
    refine hp_if_eq (tgt := 22) C dX6_child__17 (by decide) (fun _ => ?_) (fun z_9 => absurd z_9 (by decide))
    refine hp_iload_n C dX6_child__22 rfl ?_
    refine hp_if_lt (tgt := 50) C dX6_child__23 (by decide) (fun z_9 => absurd z_9 hi) (fun _ => ?_)
    refine hp_iload_n C dX6_child__26 rfl ?_
    refine hp_aload_nR C dX6_child__27 rfl ?_
    refine mr_A C sh R_14 fl_X6_50_6 rfl (by decide) dX6_child__28 ?_
    refine hp_iload_n C dX6_child__31 rfl ?_
    refine mr_many C sh R_14 hn8 dX6_child__32 ?_
    refine hp_icmp_ge (tgt := 50) C dX6_child__33 (by decide) (fun c_33 => ?_) (fun c_33 => ?_)
    · refine hp_iconst (v := (-1)) C dX6_child__50 (by decide) ?_
      refine hp_iret C hr rfl dX6_child__51 ?_
      have ea : a_chd a n (nI j) = -1 := by
        unfold a_chd
        rw [nI_leI (by omega) hj] at c_33
        rw [nI_toInt hj, if_neg (by omega)]
      rw [ea]
      exact ⟨rfl, R_14⟩
    · have hjl : j < (a_rw a n).length := by
        rw [nI_leI (by omega) hj] at c_33
        omega
      have ea : a_chd a n (nI j) = nI ((a_rw a n).getD j 0) := by
        unfold a_chd
        rw [nI_toInt hj, if_pos (by omega)]
        rfl
      rw [ea]
      refine hp_aload_nR C dX6_child__36 rfl ?_
      refine mr_A C sh R_14 fl_X6_47_6 rfl (by decide) dX6_child__37 ?_
      refine hp_bipush (v := 80) C dX6_child__40 (by decide) ?_
      refine hp_iload_n C dX6_child__42 rfl ?_
      refine hp_imul C dX6_child__43 ?_
      refine hp_iload_n C dX6_child__44 rfl ?_
      refine hp_iadd C dX6_child__45 ?_
      refine mr_row C sh R_14 hn8 hjl rfl dX6_child__46 ?_
      refine hp_goto (tgt := 51) C dX6_child__47 (by decide) ?_
      refine hp_iret C hr rfl dX6_child__51 ?_
      exact ⟨rfl, R_14⟩
