/-! ===== the law's own methods at the fresh state ===== -/
/-- cells from a on are as they were, but what lies in the array q -/
def lw_fr (a q : Nat) (h h' : hpT) : Prop := hp_nx h ≤ hp_nx h' ∧ hp_nx h' ≤ hp_nx h + 10 ∧ hp_sl h' ≤ hp_sl h + 100 ∧ ∀ b, a ≤ b → b < hp_nx h → hp_kd h' b = hp_kd h b ∧ hp_ln h' b = hp_ln h b ∧ (∀ f, hp_fl h' f b = hp_fl h f b) ∧ (b ≠ q → hp_ar h' b = hp_ar h b)
theorem hp_frm.to {a q : Nat} {h h' : hpT} (x : hp_frm a h h') : lw_fr a q h h' := ⟨x.1, x.2.1, x.2.2.1, fun b h1 h2 => ⟨(x.2.2.2 b h1 h2).1, (x.2.2.2 b h1 h2).2.1, (x.2.2.2 b h1 h2).2.2.1, fun _ => (x.2.2.2 b h1 h2).2.2.2⟩⟩
theorem lw_fr.set {a q i : Nat} {h h' : hpT} (x : lw_fr a q h h') (v : Value) : lw_fr a q h (hp_set h' q i v) := ⟨x.1, x.2.1, x.2.2.1, fun b h1 h2 => ⟨(x.2.2.2 b h1 h2).1, (x.2.2.2 b h1 h2).2.1, (x.2.2.2 b h1 h2).2.2.1, fun hb => (va_up_ne _ _ hb).trans ((x.2.2.2 b h1 h2).2.2.2 hb)⟩⟩
theorem lw_fr.is {G : hpG} {a q b ci : Nat} {h h' : hpT} (x : lw_fr a q h h') (y : hp_is G h b ci) (hb : a ≤ b) : hp_is G h' b ci := ⟨y.1, Nat.lt_of_lt_of_le y.2.1 x.1, ((x.2.2.2 b hb y.2.1).1).trans y.2.2⟩
theorem ktc_in2 (x lw hg : Int32) : ¬ ktc_in x lw hg = 2 := by unfold ktc_in; split <;> decide
theorem kt_sq2 {a b : Int32} (h1 : ¬ a = 2) (h2 : ¬ b = 2) : ¬ kt_sq a b = 2 := by unfold kt_sq; split <;> assumption
theorem ktc_no2 (n : Int32) : ¬ ktc_no n = 2 := kt_sq2 (ktc_in2 _ _ _) (by split <;> decide)
theorem ktc_sw2 (w hg : Int32) : ¬ ktc_sw w hg = 2 := by unfold ktc_sw; split <;> decide
set_option maxRecDepth 20000 in
set_option maxHeartbeats 4000000 in
theorem lh_first {l : Launch} {G : hpG} {h : hpT} {k q d : Nat} (sh : kt_sh G h k) (rm : hp_nx h + 100 ≤ hp_n0 G + hp_LC ∧ hp_sl h + 20000 ≤ hp_LS) (hd : 13 ≤ d) {a r t : Int32} : hp_C l G yL_first (.codeWith yL_first cL_first 5 (some .int) [(0, 7, 10, 13), (0, 7, 14, 15)]) d [.ref k, .int a, .int r, .int t] (kt_w G h k kt_s0) (fun v h' => v = some (.int (ktc_bd a r t)) ∧ lw_fr (k + 12) q (kt_w G h k kt_s0) h') (fun _ _ => False) := by
  refine hp_ofVH (by decide) (by simp [Value.category]) (Nat.le_of_ble_eq_true rfl) (fun M C hr ht el => ?_)
  refine hp_aload_nR C dL_first_0 rfl ?_
  refine hp_iload_n C dL_first_1 rfl ?_
  refine hp_iload_n C dL_first_2 rfl ?_
  refine hp_iload_n C dL_first_3 rfl ?_
  refine hp_callV (ci := 5) C ml_L_7 im_X5_first se_X5_first rfl (by decide) (ktp_first (d := d - 1) sh rm (by omega)) (by omega) dL_first_4 (sh.o 0 (by decide) rfl) rfl rfl (by simp [Value.category]) (fun v_1 h_1 hp => ?_) (fun E_1 h_1 hq => ?_)
  · obtain ⟨ec, rfl, fr⟩ := hp
    refine hp_goto (tgt := 18) C dL_first_7 (by decide) ?_
    refine hp_iconst (v := 0) C dL_first_18 (by decide) ?_
    refine hp_iret C hr (by decide) dL_first_19 ?_
    exact ⟨by rw [ec], fr.to⟩
  · obtain ⟨rfl, hq⟩ := hq
    rcases hq with ⟨ec, rfl⟩ | ⟨ec, rfl⟩
    · refine hp_catch C [] ⟨0, 7, 10, 13⟩ [⟨0, 7, 14, 15⟩] ht (by simp) (by decide) (by decide) cl_L_13 (by decide) (fun q_1 => ?_)
      refine hp_astore (r := some q_1) C dL_first_10 (by decide) ?_
      refine hp_iconst (v := 1) C dL_first_12 (by decide) ?_
      refine hp_iret C hr (by decide) dL_first_13 ?_
      exact ⟨by rw [ec], hp_frm_X.to⟩
    · refine hp_catch C [⟨0, 7, 10, 13⟩] ⟨0, 7, 14, 15⟩ [] ht (fun z hz => Or.inr (by rw [List.mem_singleton.mp hz]; exact ⟨by decide, _, cl_L_13, by decide⟩)) (by decide) (by decide) cl_L_15 (by decide) (fun q_1 => ?_)
      refine hp_astore (r := some q_1) C dL_first_14 (by decide) ?_
      refine hp_iconst (v := 2) C dL_first_16 (by decide) ?_
      refine hp_iret C hr (by decide) dL_first_17 ?_
      exact ⟨by rw [ec], hp_frm_X.to⟩
set_option maxRecDepth 20000 in
set_option maxHeartbeats 4000000 in
theorem lh_keeper {l : Launch} {G : hpG} {h : hpT} {k q d : Nat} (sh : kt_sh G h k) (rm : hp_nx h + 100 ≤ hp_n0 G + hp_LC ∧ hp_sl h + 20000 ≤ hp_LS) (hd : 13 ≤ d) {n b c r t : Int32} (iq : hp_is G h q 12) (lq : hp_ln h q = 1) (hq0 : k + 12 ≤ q) : hp_C l G yL_keeper (.codeWith yL_keeper cL_keeper 8 (some .int) [(0, 16, 19, 13), (0, 16, 23, 15)]) d [.ref k, .int n, .int b, .int c, .int r, .int t, .ref q] (kt_w G h k kt_s0) (fun v h' => v = some (.int (ktc_ke n b c r t)) ∧ lw_fr (k + 12) q (kt_w G h k kt_s0) h' ∧ (ktc_ke n b c r t = 0 → hp_ar h' q 0 = .long (Int32.toInt64 (1)))) (fun _ _ => False) := by
  refine hp_ofVH (by decide) (by simp [Value.category]) (Nat.le_of_ble_eq_true rfl) (fun M C hr ht el => ?_)
  refine hp_aloadR C dL_keeper_0 rfl ?_
  refine hp_iconst (v := 0) C dL_keeper_2 (by decide) ?_
  refine hp_aload_nR C dL_keeper_3 rfl ?_
  refine hp_iload_n C dL_keeper_4 rfl ?_
  refine hp_iload_n C dL_keeper_5 rfl ?_
  refine hp_iload_n C dL_keeper_6 rfl ?_
  refine hp_iload C dL_keeper_7 rfl ?_
  refine hp_iload C dL_keeper_9 rfl ?_
  refine hp_callV (ci := 5) C ml_L_17 im_X5_keeper se_X5_keeper rfl (by decide) (ktp_keeper (d := d - 1) sh rm (by omega)) (by omega) dL_keeper_11 (sh.o 0 (by decide) rfl) rfl rfl (by simp [Value.category]) (fun v_1 h_1 hp => ?_) (fun E_1 h_1 hq => ?_)
  · obtain ⟨ec, rfl, fr⟩ := hp
    refine hp_i2l C dL_keeper_14 ?_
    have iq1 := fr.to (q := q) |>.is (show hp_is G (kt_w G h k kt_s0) q 12 from iq) hq0
    have lq1 : hp_ln h_1 q = 1 := ((fr.2.2.2 q hq0 iq.2.1).2.1).trans lq
    refine hp_last C dL_keeper_15 iq1 (by rw [lq1]; unfold vp_in; decide) ?_
    refine hp_goto (tgt := 27) C dL_keeper_16 (by decide) ?_
    refine hp_iconst (v := 0) C dL_keeper_27 (by decide) ?_
    refine hp_iret C hr (by decide) dL_keeper_28 ?_
    exact ⟨by rw [ec], fr.to.set _, fun _ => by rw [hp_set_ar, if_pos rfl, if_pos (by decide)]⟩
  · obtain ⟨rfl, hq⟩ := hq
    rcases hq with ⟨ec, rfl⟩ | ⟨ec, rfl⟩
    · refine hp_catch C [] ⟨0, 16, 19, 13⟩ [⟨0, 16, 23, 15⟩] ht (by simp) (by decide) (by decide) cl_L_13 (by decide) (fun q_1 => ?_)
      refine hp_astore (r := some q_1) C dL_keeper_19 (by decide) ?_
      refine hp_iconst (v := 1) C dL_keeper_21 (by decide) ?_
      refine hp_iret C hr (by decide) dL_keeper_22 ?_
      exact ⟨by rw [ec], hp_frm_X.to, fun z_8 => absurd (ec.symm.trans z_8) (by decide)⟩
    · refine hp_catch C [⟨0, 16, 19, 13⟩] ⟨0, 16, 23, 15⟩ [] ht (fun z hz => Or.inr (by rw [List.mem_singleton.mp hz]; exact ⟨by decide, _, cl_L_13, by decide⟩)) (by decide) (by decide) cl_L_15 (by decide) (fun q_1 => ?_)
      refine hp_astore (r := some q_1) C dL_keeper_23 (by decide) ?_
      refine hp_iconst (v := 2) C dL_keeper_25 (by decide) ?_
      refine hp_iret C hr (by decide) dL_keeper_26 ?_
      exact ⟨by rw [ec], hp_frm_X.to, fun z_8 => absurd (ec.symm.trans z_8) (by decide)⟩
set_option maxRecDepth 20000 in
set_option maxHeartbeats 4000000 in
theorem lh_worker {l : Launch} {G : hpG} {h : hpT} {k q d : Nat} (sh : kt_sh G h k) (rm : hp_nx h + 100 ≤ hp_n0 G + hp_LC ∧ hp_sl h + 20000 ≤ hp_LS) (hd : 13 ≤ d) {n b p s e f : Int32} (iq : hp_is G h q 12) (lq : hp_ln h q = 1) (hq0 : k + 12 ≤ q) : hp_C l G yL_worker (.codeWith yL_worker cL_worker 9 (some .int) [(0, 18, 21, 13), (0, 18, 25, 15)]) d [.ref k, .int n, .int b, .int p, .int s, .int e, .int f, .ref q] (kt_w G h k kt_s0) (fun v h' => v = some (.int (ktc_wo n b p s e f)) ∧ lw_fr (k + 12) q (kt_w G h k kt_s0) h' ∧ (ktc_wo n b p s e f = 0 → hp_ar h' q 0 = .long (Int32.toInt64 (1)))) (fun _ _ => False) := by
  refine hp_ofVH (by decide) (by simp [Value.category]) (Nat.le_of_ble_eq_true rfl) (fun M C hr ht el => ?_)
  refine hp_aloadR C dL_worker_0 rfl ?_
  refine hp_iconst (v := 0) C dL_worker_2 (by decide) ?_
  refine hp_aload_nR C dL_worker_3 rfl ?_
  refine hp_iload_n C dL_worker_4 rfl ?_
  refine hp_iload_n C dL_worker_5 rfl ?_
  refine hp_iload_n C dL_worker_6 rfl ?_
  refine hp_iload C dL_worker_7 rfl ?_
  refine hp_iload C dL_worker_9 rfl ?_
  refine hp_iload C dL_worker_11 rfl ?_
  refine hp_callV (ci := 5) C ml_L_21 im_X5_worker se_X5_worker rfl (by decide) (ktp_worker (d := d - 1) sh rm (by omega)) (by omega) dL_worker_13 (sh.o 0 (by decide) rfl) rfl rfl (by simp [Value.category]) (fun v_1 h_1 hp => ?_) (fun E_1 h_1 hq => ?_)
  · obtain ⟨ec, rfl, fr⟩ := hp
    refine hp_i2l C dL_worker_16 ?_
    have iq1 := fr.to (q := q) |>.is (show hp_is G (kt_w G h k kt_s0) q 12 from iq) hq0
    have lq1 : hp_ln h_1 q = 1 := ((fr.2.2.2 q hq0 iq.2.1).2.1).trans lq
    refine hp_last C dL_worker_17 iq1 (by rw [lq1]; unfold vp_in; decide) ?_
    refine hp_goto (tgt := 29) C dL_worker_18 (by decide) ?_
    refine hp_iconst (v := 0) C dL_worker_29 (by decide) ?_
    refine hp_iret C hr (by decide) dL_worker_30 ?_
    exact ⟨by rw [ec], fr.to.set _, fun _ => by rw [hp_set_ar, if_pos rfl, if_pos (by decide)]⟩
  · obtain ⟨rfl, hq⟩ := hq
    rcases hq with ⟨ec, rfl⟩ | ⟨ec, rfl⟩
    · refine hp_catch C [] ⟨0, 18, 21, 13⟩ [⟨0, 18, 25, 15⟩] ht (by simp) (by decide) (by decide) cl_L_13 (by decide) (fun q_1 => ?_)
      refine hp_astore (r := some q_1) C dL_worker_21 (by decide) ?_
      refine hp_iconst (v := 1) C dL_worker_23 (by decide) ?_
      refine hp_iret C hr (by decide) dL_worker_24 ?_
      exact ⟨by rw [ec], hp_frm_X.to, fun z_8 => absurd (ec.symm.trans z_8) (by decide)⟩
    · refine hp_catch C [⟨0, 18, 21, 13⟩] ⟨0, 18, 25, 15⟩ [] ht (fun z hz => Or.inr (by rw [List.mem_singleton.mp hz]; exact ⟨by decide, _, cl_L_13, by decide⟩)) (by decide) (by decide) cl_L_15 (by decide) (fun q_1 => ?_)
      refine hp_astore (r := some q_1) C dL_worker_25 (by decide) ?_
      refine hp_iconst (v := 2) C dL_worker_27 (by decide) ?_
      refine hp_iret C hr (by decide) dL_worker_28 ?_
      exact ⟨by rw [ec], hp_frm_X.to, fun z_8 => absurd (ec.symm.trans z_8) (by decide)⟩
set_option maxRecDepth 20000 in
set_option maxHeartbeats 4000000 in
theorem lh_failing {l : Launch} {G : hpG} {h : hpT} {k q d : Nat} (sh : kt_sh G h k) (rm : hp_nx h + 100 ≤ hp_n0 G + hp_LC ∧ hp_sl h + 20000 ≤ hp_LS) (hd : 13 ≤ d) {n f : Int32} (iq : hp_is G h q 12) (lq : hp_ln h q = 1) (hq0 : k + 12 ≤ q) : hp_C l G yL_failing (.codeWith yL_failing cL_failing 5 (some .int) [(0, 10, 13, 13)]) d [.ref k, .int n, .int f, .ref q] (kt_w G h k kt_s0) (fun v h' => v = some (.int (kt_sq (ktc_no n) 1)) ∧ lw_fr (k + 12) q (kt_w G h k kt_s0) h' ∧ (kt_sq (ktc_no n) 1 = 0 → hp_ar h' q 0 = .long ((0 : Int64)))) (fun _ _ => False) := by
  refine hp_ofVH (by decide) (by simp [Value.category]) (Nat.le_of_ble_eq_true rfl) (fun M C hr ht el => ?_)
  refine hp_aload_nR C dL_failing_0 rfl ?_
  refine hp_iconst (v := 0) C dL_failing_1 (by decide) ?_
  refine hp_aload_nR C dL_failing_2 rfl ?_
  refine hp_iload_n C dL_failing_3 rfl ?_
  refine hp_iload_n C dL_failing_4 rfl ?_
  refine hp_callV (ci := 5) C ml_L_25 im_X5_failing se_X5_failing rfl (by decide) (ktp_failing (d := d - 1) sh rm (by omega)) (by omega) dL_failing_5 (sh.o 0 (by decide) rfl) rfl rfl (by simp [Value.category]) (fun v_1 h_1 hp => ?_) (fun E_1 h_1 hq => ?_)
  · obtain ⟨ec, -, -⟩ := hp
    exact absurd ec (by intro z; unfold kt_sq at z; split at z <;> first | exact absurd z (by decide) | contradiction)
  · obtain ⟨rfl, hq⟩ := hq
    rcases hq with ⟨ec, rfl⟩ | ⟨ec, rfl⟩
    · refine hp_catch C [] ⟨0, 10, 13, 13⟩ [] ht (by simp) (by decide) (by decide) cl_L_13 (by decide) (fun q_1 => ?_)
      refine hp_astore (r := some q_1) C dL_failing_13 (by decide) ?_
      refine hp_iconst (v := 1) C dL_failing_15 (by decide) ?_
      refine hp_iret C hr (by decide) dL_failing_16 ?_
      exact ⟨by rw [ec], hp_frm_X.to, fun z_8 => absurd (ec.symm.trans z_8) (by decide)⟩
    · exact absurd ec (by exact kt_sq2 (ktc_no2 _) (by decide))
set_option maxRecDepth 20000 in
set_option maxHeartbeats 4000000 in
theorem lh_begin {l : Launch} {G : hpG} {h : hpT} {k q d : Nat} (sh : kt_sh G h k) (rm : hp_nx h + 100 ≤ hp_n0 G + hp_LC ∧ hp_sl h + 20000 ≤ hp_LS) (hd : 13 ≤ d) (iq : hp_is G h q 12) (lq : hp_ln h q = 1) (hq0 : k + 12 ≤ q) : hp_C l G yL_begin (.codeWith yL_begin cL_begin 3 (some .int) [(0, 15, 18, 15)]) d [.ref k, .ref q] (kt_w G h k kt_s0) (fun v h' => v = some (.int ((0 : Int32))) ∧ lw_fr (k + 12) q (kt_w G h k kt_s0) h' ∧ ((0 : Int32) = 0 → hp_ar h' q 0 = .long ((1 : Int64)))) (fun _ _ => False) := by
  refine hp_ofVH (by decide) (by simp [Value.category]) (Nat.le_of_ble_eq_true rfl) (fun M C hr ht el => ?_)
  refine hp_aload_nR C dL_begin_0 rfl ?_
  refine hp_iconst (v := 0) C dL_begin_1 (by decide) ?_
  refine hp_aload_nR C dL_begin_2 rfl ?_
  refine hp_callV (ci := 5) C ml_L_29 im_X5_begin se_X5_begin rfl (by decide) (ktp_begin (d := d - 1) sh rm (by omega)) (by omega) dL_begin_3 (sh.o 0 (by decide) rfl) rfl rfl (by simp [Value.category]) (fun v_1 h_1 hp => ?_) (fun E_1 h_1 hq => ?_)
  · obtain ⟨ec, rfl, fr⟩ := hp
    refine hp_if_eq (tgt := 13) C dL_begin_6 (by decide) (fun z_9 => absurd z_9 (by decide)) (fun _ => ?_)
    refine hp_lconst1 C dL_begin_9 ?_
    refine hp_goto (tgt := 14) C dL_begin_10 (by decide) ?_
    have iq1 := fr.to (q := q) |>.is (show hp_is G (kt_w G h k kt_s0) q 12 from iq) hq0
    have lq1 : hp_ln h_1 q = 1 := ((fr.2.2.2 q hq0 iq.2.1).2.1).trans lq
    refine hp_last C dL_begin_14 iq1 (by rw [lq1]; unfold vp_in; decide) ?_
    refine hp_goto (tgt := 21) C dL_begin_15 (by decide) ?_
    refine hp_iconst (v := 0) C dL_begin_21 (by decide) ?_
    refine hp_iret C hr (by decide) dL_begin_22 ?_
    exact ⟨by rw [ec], fr.to.set _, fun _ => by rw [hp_set_ar, if_pos rfl, if_pos (by decide)]⟩
  · obtain ⟨rfl, hq⟩ := hq
    rcases hq with ⟨ec, rfl⟩ | ⟨ec, rfl⟩
    · exact absurd ec (by decide)
    · exact absurd ec (by decide)
set_option maxRecDepth 20000 in
set_option maxHeartbeats 4000000 in
theorem lh_ends {l : Launch} {G : hpG} {h : hpT} {k q d : Nat} (sh : kt_sh G h k) (rm : hp_nx h + 100 ≤ hp_n0 G + hp_LC ∧ hp_sl h + 20000 ≤ hp_LS) (hd : 13 ≤ d) {n f : Int32} : hp_C l G yL_ends (.codeWith yL_ends cL_ends 4 (some .int) [(0, 6, 9, 13), (0, 6, 12, 15)]) d [.ref k, .int n, .int f] (kt_w G h k kt_s0) (fun v h' => v = some (.int (kt_sq (ktc_no n) 1)) ∧ lw_fr (k + 12) q (kt_w G h k kt_s0) h') (fun _ _ => False) := by
  refine hp_ofVH (by decide) (by simp [Value.category]) (Nat.le_of_ble_eq_true rfl) (fun M C hr ht el => ?_)
  refine hp_aload_nR C dL_ends_0 rfl ?_
  refine hp_iload_n C dL_ends_1 rfl ?_
  refine hp_iload_n C dL_ends_2 rfl ?_
  refine hp_callV (ci := 5) C ml_L_33 im_X5_ends se_X5_ends rfl (by decide) (ktp_ends (d := d - 1) sh rm (by omega)) (by omega) dL_ends_3 (sh.o 0 (by decide) rfl) rfl rfl (by simp [Value.category]) (fun v_1 h_1 hp => ?_) (fun E_1 h_1 hq => ?_)
  · obtain ⟨ec, rfl, fr⟩ := hp
    refine hp_goto (tgt := 15) C dL_ends_6 (by decide) ?_
    refine hp_iconst (v := 0) C dL_ends_15 (by decide) ?_
    refine hp_iret C hr (by decide) dL_ends_16 ?_
    exact ⟨by rw [ec], fr.to⟩
  · obtain ⟨rfl, hq⟩ := hq
    rcases hq with ⟨ec, rfl⟩ | ⟨ec, rfl⟩
    · refine hp_catch C [] ⟨0, 6, 9, 13⟩ [⟨0, 6, 12, 15⟩] ht (by simp) (by decide) (by decide) cl_L_13 (by decide) (fun q_1 => ?_)
      refine hp_astore_n (r := some q_1) C dL_ends_9 (by decide) ?_
      refine hp_iconst (v := 1) C dL_ends_10 (by decide) ?_
      refine hp_iret C hr (by decide) dL_ends_11 ?_
      exact ⟨by rw [ec], hp_frm_X.to⟩
    · refine hp_catch C [⟨0, 6, 9, 13⟩] ⟨0, 6, 12, 15⟩ [] ht (fun z hz => Or.inr (by rw [List.mem_singleton.mp hz]; exact ⟨by decide, _, cl_L_13, by decide⟩)) (by decide) (by decide) cl_L_15 (by decide) (fun q_1 => ?_)
      refine hp_astore_n (r := some q_1) C dL_ends_12 (by decide) ?_
      refine hp_iconst (v := 2) C dL_ends_13 (by decide) ?_
      refine hp_iret C hr (by decide) dL_ends_14 ?_
      exact ⟨by rw [ec], hp_frm_X.to⟩
set_option maxRecDepth 20000 in
set_option maxHeartbeats 4000000 in
theorem lh_kill {l : Launch} {G : hpG} {h : hpT} {k q d : Nat} (sh : kt_sh G h k) (rm : hp_nx h + 100 ≤ hp_n0 G + hp_LC ∧ hp_sl h + 20000 ≤ hp_LS) (hd : 13 ≤ d) {n : Int32} (iq : hp_is G h q 12) (lq : hp_ln h q = 1) (hq0 : k + 12 ≤ q) : hp_C l G yL_kill (.codeWith yL_kill cL_kill 4 (some .int) [(0, 9, 12, 13), (0, 9, 15, 15)]) d [.ref k, .int n, .ref q] (kt_w G h k kt_s0) (fun v h' => v = some (.int (kt_sq (ktc_no n) (ktc_st 0))) ∧ lw_fr (k + 12) q (kt_w G h k kt_s0) h' ∧ (kt_sq (ktc_no n) (ktc_st 0) = 0 → hp_ar h' q 0 = .long ((0 : Int64)))) (fun _ _ => False) := by
  refine hp_ofVH (by decide) (by simp [Value.category]) (Nat.le_of_ble_eq_true rfl) (fun M C hr ht el => ?_)
  refine hp_aload_nR C dL_kill_0 rfl ?_
  refine hp_iconst (v := 0) C dL_kill_1 (by decide) ?_
  refine hp_aload_nR C dL_kill_2 rfl ?_
  refine hp_iload_n C dL_kill_3 rfl ?_
  refine hp_callV (ci := 5) C ml_L_37 im_X5_kill se_X5_kill rfl (by decide) (ktp_kill (d := d - 1) sh rm (by omega)) (by omega) dL_kill_4 (sh.o 0 (by decide) rfl) rfl rfl (by simp [Value.category]) (fun v_1 h_1 hp => ?_) (fun E_1 h_1 hq => ?_)
  · obtain ⟨ec, -, -⟩ := hp
    exact absurd ec (by intro z; unfold kt_sq at z; split at z <;> first | exact absurd z (by decide) | contradiction)
  · obtain ⟨rfl, hq⟩ := hq
    rcases hq with ⟨ec, rfl⟩ | ⟨ec, rfl⟩
    · refine hp_catch C [] ⟨0, 9, 12, 13⟩ [⟨0, 9, 15, 15⟩] ht (by simp) (by decide) (by decide) cl_L_13 (by decide) (fun q_1 => ?_)
      refine hp_astore_n (r := some q_1) C dL_kill_12 (by decide) ?_
      refine hp_iconst (v := 1) C dL_kill_13 (by decide) ?_
      refine hp_iret C hr (by decide) dL_kill_14 ?_
      exact ⟨by rw [ec], hp_frm_X.to, fun z_8 => absurd (ec.symm.trans z_8) (by decide)⟩
    · refine hp_catch C [⟨0, 9, 12, 13⟩] ⟨0, 9, 15, 15⟩ [] ht (fun z hz => Or.inr (by rw [List.mem_singleton.mp hz]; exact ⟨by decide, _, cl_L_13, by decide⟩)) (by decide) (by decide) cl_L_15 (by decide) (fun q_1 => ?_)
      refine hp_astore_n (r := some q_1) C dL_kill_15 (by decide) ?_
      refine hp_iconst (v := 2) C dL_kill_16 (by decide) ?_
      refine hp_iret C hr (by decide) dL_kill_17 ?_
      exact ⟨by rw [ec], hp_frm_X.to, fun z_8 => absurd (ec.symm.trans z_8) (by decide)⟩
set_option maxRecDepth 20000 in
set_option maxHeartbeats 4000000 in
theorem lh_stop {l : Launch} {G : hpG} {h : hpT} {k q d : Nat} (sh : kt_sh G h k) (rm : hp_nx h + 100 ≤ hp_n0 G + hp_LC ∧ hp_sl h + 20000 ≤ hp_LS) (hd : 13 ≤ d) {n : Int32} : hp_C l G yL_stop (.codeWith yL_stop cL_stop 3 (some .int) [(0, 5, 8, 13), (0, 5, 11, 15)]) d [.ref k, .int n] (kt_w G h k kt_s0) (fun v h' => v = some (.int (kt_sq (ktc_no n) 1)) ∧ lw_fr (k + 12) q (kt_w G h k kt_s0) h') (fun _ _ => False) := by
  refine hp_ofVH (by decide) (by simp [Value.category]) (Nat.le_of_ble_eq_true rfl) (fun M C hr ht el => ?_)
  refine hp_aload_nR C dL_stop_0 rfl ?_
  refine hp_iload_n C dL_stop_1 rfl ?_
  refine hp_callV (ci := 5) C ml_L_41 im_X5_stop se_X5_stop rfl (by decide) (ktp_stop (d := d - 1) sh rm (by omega)) (by omega) dL_stop_2 (sh.o 0 (by decide) rfl) rfl rfl (by simp [Value.category]) (fun v_1 h_1 hp => ?_) (fun E_1 h_1 hq => ?_)
  · obtain ⟨ec, rfl, fr⟩ := hp
    refine hp_goto (tgt := 14) C dL_stop_5 (by decide) ?_
    refine hp_iconst (v := 0) C dL_stop_14 (by decide) ?_
    refine hp_iret C hr (by decide) dL_stop_15 ?_
    exact ⟨by rw [ec], fr.to⟩
  · obtain ⟨rfl, hq⟩ := hq
    rcases hq with ⟨ec, rfl⟩ | ⟨ec, rfl⟩
    · refine hp_catch C [] ⟨0, 5, 8, 13⟩ [⟨0, 5, 11, 15⟩] ht (by simp) (by decide) (by decide) cl_L_13 (by decide) (fun q_1 => ?_)
      refine hp_astore_n (r := some q_1) C dL_stop_8 (by decide) ?_
      refine hp_iconst (v := 1) C dL_stop_9 (by decide) ?_
      refine hp_iret C hr (by decide) dL_stop_10 ?_
      exact ⟨by rw [ec], hp_frm_X.to⟩
    · refine hp_catch C [⟨0, 5, 8, 13⟩] ⟨0, 5, 11, 15⟩ [] ht (fun z hz => Or.inr (by rw [List.mem_singleton.mp hz]; exact ⟨by decide, _, cl_L_13, by decide⟩)) (by decide) (by decide) cl_L_15 (by decide) (fun q_1 => ?_)
      refine hp_astore_n (r := some q_1) C dL_stop_11 (by decide) ?_
      refine hp_iconst (v := 2) C dL_stop_12 (by decide) ?_
      refine hp_iret C hr (by decide) dL_stop_13 ?_
      exact ⟨by rw [ec], hp_frm_X.to⟩
set_option maxRecDepth 20000 in
set_option maxHeartbeats 4000000 in
theorem lh_again {l : Launch} {G : hpG} {h : hpT} {k q d : Nat} (sh : kt_sh G h k) (rm : hp_nx h + 100 ≤ hp_n0 G + hp_LC ∧ hp_sl h + 20000 ≤ hp_LS) (hd : 13 ≤ d) {n : Int32} (iq : hp_is G h q 12) (lq : hp_ln h q = 1) (hq0 : k + 12 ≤ q) : hp_C l G yL_again (.codeWith yL_again cL_again 4 (some .int) [(0, 16, 19, 13), (0, 16, 22, 15)]) d [.ref k, .int n, .ref q] (kt_w G h k kt_s0) (fun v h' => v = some (.int (kt_sq (ktc_no n) 1)) ∧ lw_fr (k + 12) q (kt_w G h k kt_s0) h' ∧ (kt_sq (ktc_no n) 1 = 0 → hp_ar h' q 0 = .long ((0 : Int64)))) (fun _ _ => False) := by
  refine hp_ofVH (by decide) (by simp [Value.category]) (Nat.le_of_ble_eq_true rfl) (fun M C hr ht el => ?_)
  refine hp_aload_nR C dL_again_0 rfl ?_
  refine hp_iconst (v := 0) C dL_again_1 (by decide) ?_
  refine hp_aload_nR C dL_again_2 rfl ?_
  refine hp_iload_n C dL_again_3 rfl ?_
  refine hp_callV (ci := 5) C ml_L_45 im_X5_again se_X5_again rfl (by decide) (ktp_again (d := d - 1) sh rm (by omega)) (by omega) dL_again_4 (sh.o 0 (by decide) rfl) rfl rfl (by simp [Value.category]) (fun v_1 h_1 hp => ?_) (fun E_1 h_1 hq => ?_)
  · obtain ⟨ec, -, -⟩ := hp
    exact absurd ec (by intro z; unfold kt_sq at z; split at z <;> first | exact absurd z (by decide) | contradiction)
  · obtain ⟨rfl, hq⟩ := hq
    rcases hq with ⟨ec, rfl⟩ | ⟨ec, rfl⟩
    · refine hp_catch C [] ⟨0, 16, 19, 13⟩ [⟨0, 16, 22, 15⟩] ht (by simp) (by decide) (by decide) cl_L_13 (by decide) (fun q_1 => ?_)
      refine hp_astore_n (r := some q_1) C dL_again_19 (by decide) ?_
      refine hp_iconst (v := 1) C dL_again_20 (by decide) ?_
      refine hp_iret C hr (by decide) dL_again_21 ?_
      exact ⟨by rw [ec], hp_frm_X.to, fun z_8 => absurd (ec.symm.trans z_8) (by decide)⟩
    · refine hp_catch C [⟨0, 16, 19, 13⟩] ⟨0, 16, 22, 15⟩ [] ht (fun z hz => Or.inr (by rw [List.mem_singleton.mp hz]; exact ⟨by decide, _, cl_L_13, by decide⟩)) (by decide) (by decide) cl_L_15 (by decide) (fun q_1 => ?_)
      refine hp_astore_n (r := some q_1) C dL_again_22 (by decide) ?_
      refine hp_iconst (v := 2) C dL_again_23 (by decide) ?_
      refine hp_iret C hr (by decide) dL_again_24 ?_
      exact ⟨by rw [ec], hp_frm_X.to, fun z_8 => absurd (ec.symm.trans z_8) (by decide)⟩
set_option maxRecDepth 20000 in
set_option maxHeartbeats 4000000 in
theorem lh_remove {l : Launch} {G : hpG} {h : hpT} {k q d : Nat} (sh : kt_sh G h k) (rm : hp_nx h + 100 ≤ hp_n0 G + hp_LC ∧ hp_sl h + 20000 ≤ hp_LS) (hd : 13 ≤ d) {n : Int32} (iq : hp_is G h q 12) (lq : hp_ln h q = 1) (hq0 : k + 12 ≤ q) : hp_C l G yL_remove (.codeWith yL_remove cL_remove 4 (some .int) [(0, 9, 12, 13), (0, 9, 15, 15)]) d [.ref k, .int n, .ref q] (kt_w G h k kt_s0) (fun v h' => v = some (.int (kt_sq (ktc_no n) 1)) ∧ lw_fr (k + 12) q (kt_w G h k kt_s0) h' ∧ (kt_sq (ktc_no n) 1 = 0 → hp_ar h' q 0 = .long ((0 : Int64)))) (fun _ _ => False) := by
  refine hp_ofVH (by decide) (by simp [Value.category]) (Nat.le_of_ble_eq_true rfl) (fun M C hr ht el => ?_)
  refine hp_aload_nR C dL_remove_0 rfl ?_
  refine hp_iconst (v := 0) C dL_remove_1 (by decide) ?_
  refine hp_aload_nR C dL_remove_2 rfl ?_
  refine hp_iload_n C dL_remove_3 rfl ?_
  refine hp_callV (ci := 5) C ml_L_49 im_X5_remove se_X5_remove rfl (by decide) (ktp_remove (d := d - 1) sh rm (by omega)) (by omega) dL_remove_4 (sh.o 0 (by decide) rfl) rfl rfl (by simp [Value.category]) (fun v_1 h_1 hp => ?_) (fun E_1 h_1 hq => ?_)
  · obtain ⟨ec, -, -⟩ := hp
    exact absurd ec (by intro z; unfold kt_sq at z; split at z <;> first | exact absurd z (by decide) | contradiction)
  · obtain ⟨rfl, hq⟩ := hq
    rcases hq with ⟨ec, rfl⟩ | ⟨ec, rfl⟩
    · refine hp_catch C [] ⟨0, 9, 12, 13⟩ [⟨0, 9, 15, 15⟩] ht (by simp) (by decide) (by decide) cl_L_13 (by decide) (fun q_1 => ?_)
      refine hp_astore_n (r := some q_1) C dL_remove_12 (by decide) ?_
      refine hp_iconst (v := 1) C dL_remove_13 (by decide) ?_
      refine hp_iret C hr (by decide) dL_remove_14 ?_
      exact ⟨by rw [ec], hp_frm_X.to, fun z_8 => absurd (ec.symm.trans z_8) (by decide)⟩
    · refine hp_catch C [⟨0, 9, 12, 13⟩] ⟨0, 9, 15, 15⟩ [] ht (fun z hz => Or.inr (by rw [List.mem_singleton.mp hz]; exact ⟨by decide, _, cl_L_13, by decide⟩)) (by decide) (by decide) cl_L_15 (by decide) (fun q_1 => ?_)
      refine hp_astore_n (r := some q_1) C dL_remove_15 (by decide) ?_
      refine hp_iconst (v := 2) C dL_remove_16 (by decide) ?_
      refine hp_iret C hr (by decide) dL_remove_17 ?_
      exact ⟨by rw [ec], hp_frm_X.to, fun z_8 => absurd (ec.symm.trans z_8) (by decide)⟩
set_option maxRecDepth 20000 in
set_option maxHeartbeats 4000000 in
theorem lh_pass {l : Launch} {G : hpG} {h : hpT} {k q d : Nat} (sh : kt_sh G h k) (rm : hp_nx h + 100 ≤ hp_n0 G + hp_LC ∧ hp_sl h + 20000 ≤ hp_LS) (hd : 13 ≤ d) {n : Int32} (iq : hp_is G h q 12) (lq : hp_ln h q = 1) (hq0 : k + 12 ≤ q) : hp_C l G yL_pass (.codeWith yL_pass cL_pass 4 (some .int) [(0, 9, 12, 13)]) d [.ref k, .int n, .ref q] (kt_w G h k kt_s0) (fun v h' => v = some (.int (ktc_in n 0 10000)) ∧ lw_fr (k + 12) q (kt_w G h k kt_s0) h' ∧ (ktc_in n 0 10000 = 0 → hp_ar h' q 0 = .long (Int32.toInt64 (0 + n)))) (fun _ _ => False) := by
  refine hp_ofVH (by decide) (by simp [Value.category]) (Nat.le_of_ble_eq_true rfl) (fun M C hr ht el => ?_)
  refine hp_aload_nR C dL_pass_0 rfl ?_
  refine hp_iconst (v := 0) C dL_pass_1 (by decide) ?_
  refine hp_aload_nR C dL_pass_2 rfl ?_
  refine hp_iload_n C dL_pass_3 rfl ?_
  refine hp_callV (ci := 5) C ml_L_52 im_X5_pass se_X5_pass rfl (by decide) (ktp_pass (d := d - 1) sh rm (by omega)) (by omega) dL_pass_4 (sh.o 0 (by decide) rfl) rfl rfl (by simp [Value.category]) (fun v_1 h_1 hp => ?_) (fun E_1 h_1 hq => ?_)
  · obtain ⟨ec, rfl, fr⟩ := hp
    refine hp_i2l C dL_pass_7 ?_
    have iq1 := fr.to (q := q) |>.is (show hp_is G (kt_w G h k kt_s0) q 12 from iq) hq0
    have lq1 : hp_ln h_1 q = 1 := ((fr.2.2.2 q hq0 iq.2.1).2.1).trans lq
    refine hp_last C dL_pass_8 iq1 (by rw [lq1]; unfold vp_in; decide) ?_
    refine hp_goto (tgt := 15) C dL_pass_9 (by decide) ?_
    refine hp_iconst (v := 0) C dL_pass_15 (by decide) ?_
    refine hp_iret C hr (by decide) dL_pass_16 ?_
    exact ⟨by rw [ec], fr.to.set _, fun _ => by rw [hp_set_ar, if_pos rfl, if_pos (by decide)]⟩
  · obtain ⟨rfl, hq⟩ := hq
    rcases hq with ⟨ec, rfl⟩ | ⟨ec, rfl⟩
    · refine hp_catch C [] ⟨0, 9, 12, 13⟩ [] ht (by simp) (by decide) (by decide) cl_L_13 (by decide) (fun q_1 => ?_)
      refine hp_astore_n (r := some q_1) C dL_pass_12 (by decide) ?_
      refine hp_iconst (v := 1) C dL_pass_13 (by decide) ?_
      refine hp_iret C hr (by decide) dL_pass_14 ?_
      exact ⟨by rw [ec], hp_frm_X.to, fun z_8 => absurd (ec.symm.trans z_8) (by decide)⟩
    · exact absurd ec (by exact ktc_in2 _ _ _)
set_option maxRecDepth 20000 in
set_option maxHeartbeats 4000000 in
theorem lh_state {l : Launch} {G : hpG} {h : hpT} {k q d : Nat} (sh : kt_sh G h k) (rm : hp_nx h + 100 ≤ hp_n0 G + hp_LC ∧ hp_sl h + 20000 ≤ hp_LS) (hd : 13 ≤ d) {n : Int32} (iq : hp_is G h q 12) (lq : hp_ln h q = 1) (hq0 : k + 12 ≤ q) : hp_C l G yL_state (.codeWith yL_state cL_state 4 (some .int) [(0, 9, 12, 13)]) d [.ref k, .int n, .ref q] (kt_w G h k kt_s0) (fun v h' => v = some (.int (ktc_no n)) ∧ lw_fr (k + 12) q (kt_w G h k kt_s0) h' ∧ (ktc_no n = 0 → hp_ar h' q 0 = .long (Int32.toInt64 (0)))) (fun _ _ => False) := by
  refine hp_ofVH (by decide) (by simp [Value.category]) (Nat.le_of_ble_eq_true rfl) (fun M C hr ht el => ?_)
  refine hp_aload_nR C dL_state_0 rfl ?_
  refine hp_iconst (v := 0) C dL_state_1 (by decide) ?_
  refine hp_aload_nR C dL_state_2 rfl ?_
  refine hp_iload_n C dL_state_3 rfl ?_
  refine hp_callV (ci := 5) C ml_L_55 im_X5_state se_X5_state rfl (by decide) (ktp_state (d := d - 1) sh rm (by omega)) (by omega) dL_state_4 (sh.o 0 (by decide) rfl) rfl rfl (by simp [Value.category]) (fun v_1 h_1 hp => ?_) (fun E_1 h_1 hq => ?_)
  · obtain ⟨ec, rfl, fr⟩ := hp
    refine hp_i2l C dL_state_7 ?_
    have iq1 := fr.to (q := q) |>.is (show hp_is G (kt_w G h k kt_s0) q 12 from iq) hq0
    have lq1 : hp_ln h_1 q = 1 := ((fr.2.2.2 q hq0 iq.2.1).2.1).trans lq
    refine hp_last C dL_state_8 iq1 (by rw [lq1]; unfold vp_in; decide) ?_
    refine hp_goto (tgt := 15) C dL_state_9 (by decide) ?_
    refine hp_iconst (v := 0) C dL_state_15 (by decide) ?_
    refine hp_iret C hr (by decide) dL_state_16 ?_
    exact ⟨by rw [ec], fr.to.set _, fun _ => by rw [hp_set_ar, if_pos rfl, if_pos (by decide)]⟩
  · obtain ⟨rfl, hq⟩ := hq
    rcases hq with ⟨ec, rfl⟩ | ⟨ec, rfl⟩
    · refine hp_catch C [] ⟨0, 9, 12, 13⟩ [] ht (by simp) (by decide) (by decide) cl_L_13 (by decide) (fun q_1 => ?_)
      refine hp_astore_n (r := some q_1) C dL_state_12 (by decide) ?_
      refine hp_iconst (v := 1) C dL_state_13 (by decide) ?_
      refine hp_iret C hr (by decide) dL_state_14 ?_
      exact ⟨by rw [ec], hp_frm_X.to, fun z_8 => absurd (ec.symm.trans z_8) (by decide)⟩
    · exact absurd ec (by exact ktc_no2 _)
set_option maxRecDepth 20000 in
set_option maxHeartbeats 4000000 in
theorem lh_about {l : Launch} {G : hpG} {h : hpT} {k q d : Nat} (sh : kt_sh G h k) (rm : hp_nx h + 100 ≤ hp_n0 G + hp_LC ∧ hp_sl h + 20000 ≤ hp_LS) (hd : 13 ≤ d) {n w : Int32} (iq : hp_is G h q 12) (lq : hp_ln h q = 1) (hq0 : k + 12 ≤ q) : hp_C l G yL_about (.codeWith yL_about cL_about 5 (some .int) [(0, 10, 13, 13)]) d [.ref k, .int n, .int w, .ref q] (kt_w G h k kt_s0) (fun v h' => v = some (.int (kt_sq (ktc_no n) (ktc_sw w 7))) ∧ lw_fr (k + 12) q (kt_w G h k kt_s0) h' ∧ (kt_sq (ktc_no n) (ktc_sw w 7) = 0 → hp_ar h' q 0 = .long (Int32.toInt64 (kta_ab w)))) (fun _ _ => False) := by
  refine hp_ofVH (by decide) (by simp [Value.category]) (Nat.le_of_ble_eq_true rfl) (fun M C hr ht el => ?_)
  refine hp_aload_nR C dL_about_0 rfl ?_
  refine hp_iconst (v := 0) C dL_about_1 (by decide) ?_
  refine hp_aload_nR C dL_about_2 rfl ?_
  refine hp_iload_n C dL_about_3 rfl ?_
  refine hp_iload_n C dL_about_4 rfl ?_
  refine hp_callV (ci := 5) C ml_L_58 im_X5_about se_X5_about rfl (by decide) (ktp_about (d := d - 1) sh rm (by omega)) (by omega) dL_about_5 (sh.o 0 (by decide) rfl) rfl rfl (by simp [Value.category]) (fun v_1 h_1 hp => ?_) (fun E_1 h_1 hq => ?_)
  · obtain ⟨ec, rfl, fr⟩ := hp
    refine hp_i2l C dL_about_8 ?_
    have iq1 := fr.to (q := q) |>.is (show hp_is G (kt_w G h k kt_s0) q 12 from iq) hq0
    have lq1 : hp_ln h_1 q = 1 := ((fr.2.2.2 q hq0 iq.2.1).2.1).trans lq
    refine hp_last C dL_about_9 iq1 (by rw [lq1]; unfold vp_in; decide) ?_
    refine hp_goto (tgt := 17) C dL_about_10 (by decide) ?_
    refine hp_iconst (v := 0) C dL_about_17 (by decide) ?_
    refine hp_iret C hr (by decide) dL_about_18 ?_
    exact ⟨by rw [ec], fr.to.set _, fun _ => by rw [hp_set_ar, if_pos rfl, if_pos (by decide)]⟩
  · obtain ⟨rfl, hq⟩ := hq
    rcases hq with ⟨ec, rfl⟩ | ⟨ec, rfl⟩
    · refine hp_catch C [] ⟨0, 10, 13, 13⟩ [] ht (by simp) (by decide) (by decide) cl_L_13 (by decide) (fun q_1 => ?_)
      refine hp_astore (r := some q_1) C dL_about_13 (by decide) ?_
      refine hp_iconst (v := 1) C dL_about_15 (by decide) ?_
      refine hp_iret C hr (by decide) dL_about_16 ?_
      exact ⟨by rw [ec], hp_frm_X.to, fun z_8 => absurd (ec.symm.trans z_8) (by decide)⟩
    · exact absurd ec (by exact kt_sq2 (ktc_no2 _) (ktc_sw2 _ _))
set_option maxRecDepth 20000 in
set_option maxHeartbeats 4000000 in
theorem lh_child {l : Launch} {G : hpG} {h : hpT} {k q d : Nat} (sh : kt_sh G h k) (rm : hp_nx h + 100 ≤ hp_n0 G + hp_LC ∧ hp_sl h + 20000 ≤ hp_LS) (hd : 13 ≤ d) {n i : Int32} (iq : hp_is G h q 12) (lq : hp_ln h q = 1) (hq0 : k + 12 ≤ q) : hp_C l G yL_child (.codeWith yL_child cL_child 5 (some .int) [(0, 10, 13, 13)]) d [.ref k, .int n, .int i, .ref q] (kt_w G h k kt_s0) (fun v h' => v = some (.int (ktc_no n)) ∧ lw_fr (k + 12) q (kt_w G h k kt_s0) h' ∧ (ktc_no n = 0 → hp_ar h' q 0 = .long (Int32.toInt64 (-1)))) (fun _ _ => False) := by
  refine hp_ofVH (by decide) (by simp [Value.category]) (Nat.le_of_ble_eq_true rfl) (fun M C hr ht el => ?_)
  refine hp_aload_nR C dL_child_0 rfl ?_
  refine hp_iconst (v := 0) C dL_child_1 (by decide) ?_
  refine hp_aload_nR C dL_child_2 rfl ?_
  refine hp_iload_n C dL_child_3 rfl ?_
  refine hp_iload_n C dL_child_4 rfl ?_
  refine hp_callV (ci := 5) C ml_L_61 im_X5_child se_X5_child rfl (by decide) (ktp_child (d := d - 1) sh rm (by omega)) (by omega) dL_child_5 (sh.o 0 (by decide) rfl) rfl rfl (by simp [Value.category]) (fun v_1 h_1 hp => ?_) (fun E_1 h_1 hq => ?_)
  · obtain ⟨ec, rfl, fr⟩ := hp
    refine hp_i2l C dL_child_8 ?_
    have iq1 := fr.to (q := q) |>.is (show hp_is G (kt_w G h k kt_s0) q 12 from iq) hq0
    have lq1 : hp_ln h_1 q = 1 := ((fr.2.2.2 q hq0 iq.2.1).2.1).trans lq
    refine hp_last C dL_child_9 iq1 (by rw [lq1]; unfold vp_in; decide) ?_
    refine hp_goto (tgt := 17) C dL_child_10 (by decide) ?_
    refine hp_iconst (v := 0) C dL_child_17 (by decide) ?_
    refine hp_iret C hr (by decide) dL_child_18 ?_
    exact ⟨by rw [ec], fr.to.set _, fun _ => by rw [hp_set_ar, if_pos rfl, if_pos (by decide)]⟩
  · obtain ⟨rfl, hq⟩ := hq
    rcases hq with ⟨ec, rfl⟩ | ⟨ec, rfl⟩
    · refine hp_catch C [] ⟨0, 10, 13, 13⟩ [] ht (by simp) (by decide) (by decide) cl_L_13 (by decide) (fun q_1 => ?_)
      refine hp_astore (r := some q_1) C dL_child_13 (by decide) ?_
      refine hp_iconst (v := 1) C dL_child_15 (by decide) ?_
      refine hp_iret C hr (by decide) dL_child_16 ?_
      exact ⟨by rw [ec], hp_frm_X.to, fun z_8 => absurd (ec.symm.trans z_8) (by decide)⟩
    · exact absurd ec (by exact ktc_no2 _)
set_option maxRecDepth 20000 in
set_option maxHeartbeats 4000000 in
theorem lh_event {l : Launch} {G : hpG} {h : hpT} {k q d : Nat} (sh : kt_sh G h k) (rm : hp_nx h + 100 ≤ hp_n0 G + hp_LC ∧ hp_sl h + 20000 ≤ hp_LS) (hd : 13 ≤ d) {i w : Int32} (iq : hp_is G h q 12) (lq : hp_ln h q = 1) (hq0 : k + 12 ≤ q) : hp_C l G yL_event (.codeWith yL_event cL_event 5 (some .int) [(0, 10, 13, 13)]) d [.ref k, .int i, .int w, .ref q] (kt_w G h k kt_s0) (fun v h' => v = some (.int (ktc_in w 0 3)) ∧ lw_fr (k + 12) q (kt_w G h k kt_s0) h' ∧ (ktc_in w 0 3 = 0 → hp_ar h' q 0 = .long (Int32.toInt64 (-1)))) (fun _ _ => False) := by
  refine hp_ofVH (by decide) (by simp [Value.category]) (Nat.le_of_ble_eq_true rfl) (fun M C hr ht el => ?_)
  refine hp_aload_nR C dL_event_0 rfl ?_
  refine hp_iconst (v := 0) C dL_event_1 (by decide) ?_
  refine hp_aload_nR C dL_event_2 rfl ?_
  refine hp_iload_n C dL_event_3 rfl ?_
  refine hp_iload_n C dL_event_4 rfl ?_
  refine hp_callV (ci := 5) C ml_L_64 im_X5_event se_X5_event rfl (by decide) (ktp_event (d := d - 1) sh rm (by omega)) (by omega) dL_event_5 (sh.o 0 (by decide) rfl) rfl rfl (by simp [Value.category]) (fun v_1 h_1 hp => ?_) (fun E_1 h_1 hq => ?_)
  · obtain ⟨ec, rfl, fr⟩ := hp
    refine hp_i2l C dL_event_8 ?_
    have iq1 := fr.to (q := q) |>.is (show hp_is G (kt_w G h k kt_s0) q 12 from iq) hq0
    have lq1 : hp_ln h_1 q = 1 := ((fr.2.2.2 q hq0 iq.2.1).2.1).trans lq
    refine hp_last C dL_event_9 iq1 (by rw [lq1]; unfold vp_in; decide) ?_
    refine hp_goto (tgt := 17) C dL_event_10 (by decide) ?_
    refine hp_iconst (v := 0) C dL_event_17 (by decide) ?_
    refine hp_iret C hr (by decide) dL_event_18 ?_
    exact ⟨by rw [ec], fr.to.set _, fun _ => by rw [hp_set_ar, if_pos rfl, if_pos (by decide)]⟩
  · obtain ⟨rfl, hq⟩ := hq
    rcases hq with ⟨ec, rfl⟩ | ⟨ec, rfl⟩
    · refine hp_catch C [] ⟨0, 10, 13, 13⟩ [] ht (by simp) (by decide) (by decide) cl_L_13 (by decide) (fun q_1 => ?_)
      refine hp_astore (r := some q_1) C dL_event_13 (by decide) ?_
      refine hp_iconst (v := 1) C dL_event_15 (by decide) ?_
      refine hp_iret C hr (by decide) dL_event_16 ?_
      exact ⟨by rw [ec], hp_frm_X.to, fun z_8 => absurd (ec.symm.trans z_8) (by decide)⟩
    · exact absurd ec (by exact ktc_in2 _ _ _)
set_option maxRecDepth 20000 in
set_option maxHeartbeats 4000000 in
theorem lh_total {l : Launch} {G : hpG} {h : hpT} {k q d : Nat} (sh : kt_sh G h k) (rm : hp_nx h + 100 ≤ hp_n0 G + hp_LC ∧ hp_sl h + 20000 ≤ hp_LS) (hd : 13 ≤ d) {w : Int32} (iq : hp_is G h q 12) (lq : hp_ln h q = 1) (hq0 : k + 12 ≤ q) : hp_C l G yL_total (.codeWith yL_total cL_total 4 (some .int) [(0, 9, 12, 13)]) d [.ref k, .int w, .ref q] (kt_w G h k kt_s0) (fun v h' => v = some (.int (ktc_sw w 6)) ∧ lw_fr (k + 12) q (kt_w G h k kt_s0) h' ∧ (ktc_sw w 6 = 0 → hp_ar h' q 0 = .long (Int32.toInt64 (kta_to w)))) (fun _ _ => False) := by
  refine hp_ofVH (by decide) (by simp [Value.category]) (Nat.le_of_ble_eq_true rfl) (fun M C hr ht el => ?_)
  refine hp_aload_nR C dL_total_0 rfl ?_
  refine hp_iconst (v := 0) C dL_total_1 (by decide) ?_
  refine hp_aload_nR C dL_total_2 rfl ?_
  refine hp_iload_n C dL_total_3 rfl ?_
  refine hp_callV (ci := 5) C ml_L_67 im_X5_total se_X5_total rfl (by decide) (ktp_total (d := d - 1) sh rm (by omega)) (by omega) dL_total_4 (sh.o 0 (by decide) rfl) rfl rfl (by simp [Value.category]) (fun v_1 h_1 hp => ?_) (fun E_1 h_1 hq => ?_)
  · obtain ⟨ec, rfl, fr⟩ := hp
    refine hp_i2l C dL_total_7 ?_
    have iq1 := fr.to (q := q) |>.is (show hp_is G (kt_w G h k kt_s0) q 12 from iq) hq0
    have lq1 : hp_ln h_1 q = 1 := ((fr.2.2.2 q hq0 iq.2.1).2.1).trans lq
    refine hp_last C dL_total_8 iq1 (by rw [lq1]; unfold vp_in; decide) ?_
    refine hp_goto (tgt := 15) C dL_total_9 (by decide) ?_
    refine hp_iconst (v := 0) C dL_total_15 (by decide) ?_
    refine hp_iret C hr (by decide) dL_total_16 ?_
    exact ⟨by rw [ec], fr.to.set _, fun _ => by rw [hp_set_ar, if_pos rfl, if_pos (by decide)]⟩
  · obtain ⟨rfl, hq⟩ := hq
    rcases hq with ⟨ec, rfl⟩ | ⟨ec, rfl⟩
    · refine hp_catch C [] ⟨0, 9, 12, 13⟩ [] ht (by simp) (by decide) (by decide) cl_L_13 (by decide) (fun q_1 => ?_)
      refine hp_astore_n (r := some q_1) C dL_total_12 (by decide) ?_
      refine hp_iconst (v := 1) C dL_total_13 (by decide) ?_
      refine hp_iret C hr (by decide) dL_total_14 ?_
      exact ⟨by rw [ec], hp_frm_X.to, fun z_8 => absurd (ec.symm.trans z_8) (by decide)⟩
    · exact absurd ec (by exact ktc_sw2 _ _)
