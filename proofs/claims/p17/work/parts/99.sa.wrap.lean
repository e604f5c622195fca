/-! ===== the law's own methods ===== -/
/-- behind one of them -/
def LW (G : hpG) (m k N S : Nat) (c c0 : Int32) (a b : aS) (v : Option Value) (h : hpT) : Prop := v = some (.int c) ∧ LK G m k N S h h b ∧ LM G m c0 h a ∧ LO G m h
theorem LW.of {G : hpG} {m k N S : Nat} {c c0 : Int32} {a b : aS} {H h : hpT} (hd : hp_dE G < hp_n0 G) (x1 : LK G m k N S H h b) (x2 : LM G m c0 H a) (x3 : LO G m H) : LW G m k N S c c0 a b (some (.int c)) h := ⟨rfl, x1.re hd, x2.move x1.F, x3.move x1.F⟩
theorem LK.anj {G : hpG} {m k N S : Nat} {B h : hpT} {a : aS} (x : LK G m k N S B h a) (hd : hp_dE G < hp_n0 G) (j : Nat) (v : Value) : LK G m k N S (hp_set h (m + 20) j v) (hp_set h (m + 20) j v) a := by
  obtain ⟨κ, K, e⟩ := x
  refine ⟨κ, K.out hd rfl rfl rfl rfl (fun f b hb => rfl) (fun b i hb => ?_), e⟩
  rw [hp_set_ar, if_neg]
  intro c
  exact hb ⟨by omega, by omega⟩
theorem LM.anj {G : hpG} {m : Nat} {c : Int32} {H : hpT} {a : aS} (x : LM G m c H a) (j : Nat) (v : Value) : LM G m c (hp_set H (m + 20) j v) a := by
  obtain ⟨sh, z, ⟨s, e, r⟩, e2⟩ := x
  obtain ⟨t1, t2⟩ := mo_of2 (h := H) (h' := hp_set H (m + 20) j v) (s := s) sh sh.2.1 (fun b c1 c2 => by
    rw [← e]
    refine ⟨rfl, rfl, ?_, fun _ => rfl⟩
    funext i
    rw [hp_set_ar, if_neg (by omega)])
  exact ⟨t1, z, ⟨s, t2, r⟩, e2⟩
theorem LW.ofS {G : hpG} {m k N S : Nat} {c c0 : Int32} {a b : aS} {H h : hpT} (hd : hp_dE G < hp_n0 G) (x1 : LK G m k N S H h b) (x2 : LM G m c0 H a) (x3 : LO G m H) (j : Nat) (v : Value) : LW G m k N S c c0 a b (some (.int c)) (hp_set h (m + 20) j v) := ⟨rfl, x1.anj hd j v, (x2.move x1.F).anj j v, by have y := x3.move x1.F; exact y⟩
set_option maxRecDepth 20000 in
set_option maxHeartbeats 4000000 in
theorem lh_first {l : Launch} {G : hpG} {m k N S d : Nat} {H : hpT} {a b : aS} {c c0 : Int32} {x r t : Int32} (xT : hp_is G H k 5) (x2 : LM G m c0 H a) (x3 : LO G m H) (cc : hp_C l G yX5_first (.code yX5_first cX5_first 4 none) (d - 1) [.ref k, .int x, .int r, .int t] H (fun v h' => c = 0 ∧ v = none ∧ LK G m k N S H h' b) (LX G m k N S H b c)) (hd1 : 2 ≤ d) : hp_C l G yL_first (.codeWith yL_first cL_first 5 (some .int) [(0, 7, 10, 13), (0, 7, 14, 15)]) d [.ref k, .int x, .int r, .int t] H (fun v h' => LW G m k N S c c0 a b v h') (fun _ _ => False) := by
  refine hp_ofVH (by decide) (by simp [Value.category]) (Nat.le_of_ble_eq_true rfl) (fun M C hr ht el => ?_)
  subst el
  have hd := C.en.2.2.2.2.2.2.1
  refine hp_aload_nR C dL_first_0 rfl ?_
  refine hp_iload_n C dL_first_1 rfl ?_
  refine hp_iload_n C dL_first_2 rfl ?_
  refine hp_iload_n C dL_first_3 rfl ?_
  refine hp_callV (ci := 5) C ml_L_7 im_X5_first se_X5_first rfl (by decide) cc (by omega) dL_first_4 xT rfl rfl (by simp [Value.category]) (fun v_1 h_1 hp => ?_) (fun E_1 h_1 hq => ?_)
  · obtain ⟨rfl, rfl, x1⟩ := hp
    refine hp_goto (tgt := 18) C dL_first_7 (by decide) ?_
    refine hp_iconst (v := 0) C dL_first_18 (by decide) ?_
    refine hp_iret C hr (by decide) dL_first_19 ?_
    exact LW.of hd x1 x2 x3
  · obtain ⟨⟨rfl, rfl⟩ | ⟨rfl, rfl⟩, x1⟩ := hq
    · refine hp_catch C [] ⟨0, 7, 10, 13⟩ [⟨0, 7, 14, 15⟩] ht (by simp) (by decide) (by decide) cl_L_13 (by decide) (fun q_1 => ?_)
      refine hp_astore (r := some q_1) C dL_first_10 (by decide) ?_
      refine hp_iconst (v := 1) C dL_first_12 (by decide) ?_
      refine hp_iret C hr (by decide) dL_first_13 ?_
      exact LW.of hd x1 x2 x3
    · refine hp_catch C [⟨0, 7, 10, 13⟩] ⟨0, 7, 14, 15⟩ [] ht (fun z hz => Or.inr (by rw [List.mem_singleton.mp hz]; exact ⟨by decide, _, cl_L_13, by decide⟩)) (by decide) (by decide) cl_L_15 (by decide) (fun q_1 => ?_)
      refine hp_astore (r := some q_1) C dL_first_14 (by decide) ?_
      refine hp_iconst (v := 2) C dL_first_16 (by decide) ?_
      refine hp_iret C hr (by decide) dL_first_17 ?_
      exact LW.of hd x1 x2 x3
set_option maxRecDepth 20000 in
set_option maxHeartbeats 4000000 in
theorem lh_keeper {l : Launch} {G : hpG} {m k N S d : Nat} {H : hpT} {a b : aS} {c c0 w : Int32} {x kn sg r t : Int32} (xT : hp_is G H k 5) (x2 : LM G m c0 H a) (x3 : LO G m H) (cc : hp_C l G yX5_keeper (.code yX5_keeper cX5_keeper 8 (some .int)) (d - 1) [.ref k, .int x, .int kn, .int sg, .int r, .int t] H (fun v h' => c = 0 ∧ v = some (.int w) ∧ LK G m k N S H h' b) (LX G m k N S H b c)) (hd1 : 2 ≤ d) : hp_C l G yL_keeper (.codeWith yL_keeper cL_keeper 8 (some .int) [(0, 16, 19, 13), (0, 16, 23, 15)]) d [.ref k, .int x, .int kn, .int sg, .int r, .int t, .ref (m + 20)] H (fun v h' => LW G m k N S c c0 a b v h' ∧ (c = 0 → hp_ar h' (m + 20) 0 = .long (Int32.toInt64 w))) (fun _ _ => False) := by
  refine hp_ofVH (by decide) (by simp [Value.category]) (Nat.le_of_ble_eq_true rfl) (fun M C hr ht el => ?_)
  subst el
  have hd := C.en.2.2.2.2.2.2.1
  refine hp_aloadR C dL_keeper_0 rfl ?_
  refine hp_iconst (v := 0) C dL_keeper_2 (by decide) ?_
  refine hp_aload_nR C dL_keeper_3 rfl ?_
  refine hp_iload_n C dL_keeper_4 rfl ?_
  refine hp_iload_n C dL_keeper_5 rfl ?_
  refine hp_iload_n C dL_keeper_6 rfl ?_
  refine hp_iload C dL_keeper_7 rfl ?_
  refine hp_iload C dL_keeper_9 rfl ?_
  refine hp_callV (ci := 5) C ml_L_17 im_X5_keeper se_X5_keeper rfl (by decide) cc (by omega) dL_keeper_11 xT rfl rfl (by simp [Value.category]) (fun v_1 h_1 hp => ?_) (fun E_1 h_1 hq => ?_)
  · obtain ⟨rfl, rfl, x1⟩ := hp
    refine hp_i2l C dL_keeper_14 ?_
    have y3 := x3.move x1.F
    refine hp_last C dL_keeper_15 y3.1 (by rw [y3.2]; unfold vp_in; decide) ?_
    refine hp_goto (tgt := 27) C dL_keeper_16 (by decide) ?_
    refine hp_iconst (v := 0) C dL_keeper_27 (by decide) ?_
    refine hp_iret C hr (by decide) dL_keeper_28 ?_
    exact ⟨LW.ofS hd x1 x2 x3 _ _, fun _ => by rw [hp_set_ar, if_pos rfl, if_pos (by decide)]⟩
  · obtain ⟨⟨rfl, rfl⟩ | ⟨rfl, rfl⟩, x1⟩ := hq
    · refine hp_catch C [] ⟨0, 16, 19, 13⟩ [⟨0, 16, 23, 15⟩] ht (by simp) (by decide) (by decide) cl_L_13 (by decide) (fun q_1 => ?_)
      refine hp_astore (r := some q_1) C dL_keeper_19 (by decide) ?_
      refine hp_iconst (v := 1) C dL_keeper_21 (by decide) ?_
      refine hp_iret C hr (by decide) dL_keeper_22 ?_
      exact ⟨LW.of hd x1 x2 x3, fun z_8 => absurd z_8 (by decide)⟩
    · refine hp_catch C [⟨0, 16, 19, 13⟩] ⟨0, 16, 23, 15⟩ [] ht (fun z hz => Or.inr (by rw [List.mem_singleton.mp hz]; exact ⟨by decide, _, cl_L_13, by decide⟩)) (by decide) (by decide) cl_L_15 (by decide) (fun q_1 => ?_)
      refine hp_astore (r := some q_1) C dL_keeper_23 (by decide) ?_
      refine hp_iconst (v := 2) C dL_keeper_25 (by decide) ?_
      refine hp_iret C hr (by decide) dL_keeper_26 ?_
      exact ⟨LW.of hd x1 x2 x3, fun z_8 => absurd z_8 (by decide)⟩
set_option maxRecDepth 20000 in
set_option maxHeartbeats 4000000 in
theorem lh_worker {l : Launch} {G : hpG} {m k N S d : Nat} {H : hpT} {a b : aS} {c c0 w : Int32} {x kn pa st sp fa : Int32} (xT : hp_is G H k 5) (x2 : LM G m c0 H a) (x3 : LO G m H) (cc : hp_C l G yX5_worker (.code yX5_worker cX5_worker 9 (some .int)) (d - 1) [.ref k, .int x, .int kn, .int pa, .int st, .int sp, .int fa] H (fun v h' => c = 0 ∧ v = some (.int w) ∧ LK G m k N S H h' b) (LX G m k N S H b c)) (hd1 : 2 ≤ d) : hp_C l G yL_worker (.codeWith yL_worker cL_worker 9 (some .int) [(0, 18, 21, 13), (0, 18, 25, 15)]) d [.ref k, .int x, .int kn, .int pa, .int st, .int sp, .int fa, .ref (m + 20)] H (fun v h' => LW G m k N S c c0 a b v h' ∧ (c = 0 → hp_ar h' (m + 20) 0 = .long (Int32.toInt64 w))) (fun _ _ => False) := by
  refine hp_ofVH (by decide) (by simp [Value.category]) (Nat.le_of_ble_eq_true rfl) (fun M C hr ht el => ?_)
  subst el
  have hd := C.en.2.2.2.2.2.2.1
  refine hp_aloadR C dL_worker_0 rfl ?_
  refine hp_iconst (v := 0) C dL_worker_2 (by decide) ?_
  refine hp_aload_nR C dL_worker_3 rfl ?_
  refine hp_iload_n C dL_worker_4 rfl ?_
  refine hp_iload_n C dL_worker_5 rfl ?_
  refine hp_iload_n C dL_worker_6 rfl ?_
  refine hp_iload C dL_worker_7 rfl ?_
  refine hp_iload C dL_worker_9 rfl ?_
  refine hp_iload C dL_worker_11 rfl ?_
  refine hp_callV (ci := 5) C ml_L_21 im_X5_worker se_X5_worker rfl (by decide) cc (by omega) dL_worker_13 xT rfl rfl (by simp [Value.category]) (fun v_1 h_1 hp => ?_) (fun E_1 h_1 hq => ?_)
  · obtain ⟨rfl, rfl, x1⟩ := hp
    refine hp_i2l C dL_worker_16 ?_
    have y3 := x3.move x1.F
    refine hp_last C dL_worker_17 y3.1 (by rw [y3.2]; unfold vp_in; decide) ?_
    refine hp_goto (tgt := 29) C dL_worker_18 (by decide) ?_
    refine hp_iconst (v := 0) C dL_worker_29 (by decide) ?_
    refine hp_iret C hr (by decide) dL_worker_30 ?_
    exact ⟨LW.ofS hd x1 x2 x3 _ _, fun _ => by rw [hp_set_ar, if_pos rfl, if_pos (by decide)]⟩
  · obtain ⟨⟨rfl, rfl⟩ | ⟨rfl, rfl⟩, x1⟩ := hq
    · refine hp_catch C [] ⟨0, 18, 21, 13⟩ [⟨0, 18, 25, 15⟩] ht (by simp) (by decide) (by decide) cl_L_13 (by decide) (fun q_1 => ?_)
      refine hp_astore (r := some q_1) C dL_worker_21 (by decide) ?_
      refine hp_iconst (v := 1) C dL_worker_23 (by decide) ?_
      refine hp_iret C hr (by decide) dL_worker_24 ?_
      exact ⟨LW.of hd x1 x2 x3, fun z_8 => absurd z_8 (by decide)⟩
    · refine hp_catch C [⟨0, 18, 21, 13⟩] ⟨0, 18, 25, 15⟩ [] ht (fun z hz => Or.inr (by rw [List.mem_singleton.mp hz]; exact ⟨by decide, _, cl_L_13, by decide⟩)) (by decide) (by decide) cl_L_15 (by decide) (fun q_1 => ?_)
      refine hp_astore (r := some q_1) C dL_worker_25 (by decide) ?_
      refine hp_iconst (v := 2) C dL_worker_27 (by decide) ?_
      refine hp_iret C hr (by decide) dL_worker_28 ?_
      exact ⟨LW.of hd x1 x2 x3, fun z_8 => absurd z_8 (by decide)⟩
set_option maxRecDepth 20000 in
set_option maxHeartbeats 4000000 in
theorem lh_failing {l : Launch} {G : hpG} {m k N S d : Nat} {H : hpT} {a b : aS} {c c0 w : Int32} {x g : Int32} (xT : hp_is G H k 5) (x2 : LM G m c0 H a) (x3 : LO G m H) (cc : hp_C l G yX5_failing (.code yX5_failing cX5_failing 5 (some .int)) (d - 1) [.ref k, .int x, .int g] H (fun v h' => c = 0 ∧ v = some (.int w) ∧ LK G m k N S H h' b) (fun E h' => E = "java/lang/IllegalArgumentException" ∧ c = 1 ∧ LK G m k N S H h' b)) (hd1 : 2 ≤ d) : hp_C l G yL_failing (.codeWith yL_failing cL_failing 5 (some .int) [(0, 10, 13, 13)]) d [.ref k, .int x, .int g, .ref (m + 20)] H (fun v h' => LW G m k N S c c0 a b v h' ∧ (c = 0 → hp_ar h' (m + 20) 0 = .long (Int32.toInt64 w))) (fun _ _ => False) := by
  refine hp_ofVH (by decide) (by simp [Value.category]) (Nat.le_of_ble_eq_true rfl) (fun M C hr ht el => ?_)
  subst el
  have hd := C.en.2.2.2.2.2.2.1
  refine hp_aload_nR C dL_failing_0 rfl ?_
  refine hp_iconst (v := 0) C dL_failing_1 (by decide) ?_
  refine hp_aload_nR C dL_failing_2 rfl ?_
  refine hp_iload_n C dL_failing_3 rfl ?_
  refine hp_iload_n C dL_failing_4 rfl ?_
  refine hp_callV (ci := 5) C ml_L_25 im_X5_failing se_X5_failing rfl (by decide) cc (by omega) dL_failing_5 xT rfl rfl (by simp [Value.category]) (fun v_1 h_1 hp => ?_) (fun E_1 h_1 hq => ?_)
  · obtain ⟨rfl, rfl, x1⟩ := hp
    refine hp_i2l C dL_failing_8 ?_
    have y3 := x3.move x1.F
    refine hp_last C dL_failing_9 y3.1 (by rw [y3.2]; unfold vp_in; decide) ?_
    refine hp_goto (tgt := 17) C dL_failing_10 (by decide) ?_
    refine hp_iconst (v := 0) C dL_failing_17 (by decide) ?_
    refine hp_iret C hr (by decide) dL_failing_18 ?_
    exact ⟨LW.ofS hd x1 x2 x3 _ _, fun _ => by rw [hp_set_ar, if_pos rfl, if_pos (by decide)]⟩
  · obtain ⟨rfl, rfl, x1⟩ := hq
    refine hp_catch C [] ⟨0, 10, 13, 13⟩ [] ht (by simp) (by decide) (by decide) cl_L_13 (by decide) (fun q_1 => ?_)
    refine hp_astore (r := some q_1) C dL_failing_13 (by decide) ?_
    refine hp_iconst (v := 1) C dL_failing_15 (by decide) ?_
    refine hp_iret C hr (by decide) dL_failing_16 ?_
    exact ⟨LW.of hd x1 x2 x3, fun z_8 => absurd z_8 (by decide)⟩
set_option maxRecDepth 20000 in
set_option maxHeartbeats 4000000 in
theorem lh_begin {l : Launch} {G : hpG} {m k N S d : Nat} {H : hpT} {a b : aS} {c c0 w : Int32} (xT : hp_is G H k 5) (x2 : LM G m c0 H a) (x3 : LO G m H) (cc : hp_C l G yX5_begin (.code yX5_begin cX5_begin 1 (some .boolean)) (d - 1) [.ref k] H (fun v h' => c = 0 ∧ v = some (.int w) ∧ LK G m k N S H h' b) (fun E h' => E = "java/lang/IllegalStateException" ∧ c = 1 ∧ LK G m k N S H h' b)) (hd1 : 2 ≤ d) : hp_C l G yL_begin (.codeWith yL_begin cL_begin 3 (some .int) [(0, 15, 18, 15)]) d [.ref k, .ref (m + 20)] H (fun v h' => LW G m k N S c c0 a b v h' ∧ (c = 0 → hp_ar h' (m + 20) 0 = .long (if w = 0 then 0 else 1))) (fun _ _ => False) := by
  refine hp_ofVH (by decide) (by simp [Value.category]) (Nat.le_of_ble_eq_true rfl) (fun M C hr ht el => ?_)
  subst el
  have hd := C.en.2.2.2.2.2.2.1
  refine hp_aload_nR C dL_begin_0 rfl ?_
  refine hp_iconst (v := 0) C dL_begin_1 (by decide) ?_
  refine hp_aload_nR C dL_begin_2 rfl ?_
  refine hp_callV (ci := 5) C ml_L_29 im_X5_begin se_X5_begin rfl (by decide) cc (by omega) dL_begin_3 xT rfl rfl (by simp [Value.category]) (fun v_1 h_1 hp => ?_) (fun E_1 h_1 hq => ?_)
  · obtain ⟨rfl, rfl, x1⟩ := hp
    refine hp_if_eq (tgt := 13) C dL_begin_6 (by decide) (fun z_9 => ?_) (fun z_9 => ?_)
    · refine hp_lconst0 C dL_begin_13 ?_
      have y3 := x3.move x1.F
      refine hp_last C dL_begin_14 y3.1 (by rw [y3.2]; unfold vp_in; decide) ?_
      refine hp_goto (tgt := 21) C dL_begin_15 (by decide) ?_
      refine hp_iconst (v := 0) C dL_begin_21 (by decide) ?_
      refine hp_iret C hr (by decide) dL_begin_22 ?_
      exact ⟨LW.ofS hd x1 x2 x3 _ _, fun _ => by rw [hp_set_ar, if_pos rfl, if_pos (by decide), if_pos z_9]⟩
    · refine hp_lconst1 C dL_begin_9 ?_
      refine hp_goto (tgt := 14) C dL_begin_10 (by decide) ?_
      have y3 := x3.move x1.F
      refine hp_last C dL_begin_14 y3.1 (by rw [y3.2]; unfold vp_in; decide) ?_
      refine hp_goto (tgt := 21) C dL_begin_15 (by decide) ?_
      refine hp_iconst (v := 0) C dL_begin_21 (by decide) ?_
      refine hp_iret C hr (by decide) dL_begin_22 ?_
      exact ⟨LW.ofS hd x1 x2 x3 _ _, fun _ => by rw [hp_set_ar, if_pos rfl, if_pos (by decide), if_neg z_9]⟩
  · obtain ⟨rfl, rfl, x1⟩ := hq
    refine hp_catch C [] ⟨0, 15, 18, 15⟩ [] ht (by simp) (by decide) (by decide) cl_L_15 (by decide) (fun q_1 => ?_)
    refine hp_astore_n (r := some q_1) C dL_begin_18 (by decide) ?_
    refine hp_iconst (v := 1) C dL_begin_19 (by decide) ?_
    refine hp_iret C hr (by decide) dL_begin_20 ?_
    exact ⟨LW.of hd x1 x2 x3, fun z_8 => absurd z_8 (by decide)⟩
set_option maxRecDepth 20000 in
set_option maxHeartbeats 4000000 in
theorem lh_ends {l : Launch} {G : hpG} {m k N S d : Nat} {H : hpT} {a b : aS} {c c0 : Int32} {x g : Int32} (xT : hp_is G H k 5) (x2 : LM G m c0 H a) (x3 : LO G m H) (cc : hp_C l G yX5_ends (.code yX5_ends cX5_ends 4 none) (d - 1) [.ref k, .int x, .int g] H (fun v h' => c = 0 ∧ v = none ∧ LK G m k N S H h' b) (LX G m k N S H b c)) (hd1 : 2 ≤ d) : hp_C l G yL_ends (.codeWith yL_ends cL_ends 4 (some .int) [(0, 6, 9, 13), (0, 6, 12, 15)]) d [.ref k, .int x, .int g] H (fun v h' => LW G m k N S c c0 a b v h') (fun _ _ => False) := by
  refine hp_ofVH (by decide) (by simp [Value.category]) (Nat.le_of_ble_eq_true rfl) (fun M C hr ht el => ?_)
  subst el
  have hd := C.en.2.2.2.2.2.2.1
  refine hp_aload_nR C dL_ends_0 rfl ?_
  refine hp_iload_n C dL_ends_1 rfl ?_
  refine hp_iload_n C dL_ends_2 rfl ?_
  refine hp_callV (ci := 5) C ml_L_33 im_X5_ends se_X5_ends rfl (by decide) cc (by omega) dL_ends_3 xT rfl rfl (by simp [Value.category]) (fun v_1 h_1 hp => ?_) (fun E_1 h_1 hq => ?_)
  · obtain ⟨rfl, rfl, x1⟩ := hp
    refine hp_goto (tgt := 15) C dL_ends_6 (by decide) ?_
    refine hp_iconst (v := 0) C dL_ends_15 (by decide) ?_
    refine hp_iret C hr (by decide) dL_ends_16 ?_
    exact LW.of hd x1 x2 x3
  · obtain ⟨⟨rfl, rfl⟩ | ⟨rfl, rfl⟩, x1⟩ := hq
    · refine hp_catch C [] ⟨0, 6, 9, 13⟩ [⟨0, 6, 12, 15⟩] ht (by simp) (by decide) (by decide) cl_L_13 (by decide) (fun q_1 => ?_)
      refine hp_astore_n (r := some q_1) C dL_ends_9 (by decide) ?_
      refine hp_iconst (v := 1) C dL_ends_10 (by decide) ?_
      refine hp_iret C hr (by decide) dL_ends_11 ?_
      exact LW.of hd x1 x2 x3
    · refine hp_catch C [⟨0, 6, 9, 13⟩] ⟨0, 6, 12, 15⟩ [] ht (fun z hz => Or.inr (by rw [List.mem_singleton.mp hz]; exact ⟨by decide, _, cl_L_13, by decide⟩)) (by decide) (by decide) cl_L_15 (by decide) (fun q_1 => ?_)
      refine hp_astore_n (r := some q_1) C dL_ends_12 (by decide) ?_
      refine hp_iconst (v := 2) C dL_ends_13 (by decide) ?_
      refine hp_iret C hr (by decide) dL_ends_14 ?_
      exact LW.of hd x1 x2 x3
set_option maxRecDepth 20000 in
set_option maxHeartbeats 4000000 in
theorem lh_kill {l : Launch} {G : hpG} {m k N S d : Nat} {H : hpT} {a b : aS} {c c0 w : Int32} {x : Int32} (xT : hp_is G H k 5) (x2 : LM G m c0 H a) (x3 : LO G m H) (cc : hp_C l G yX5_kill (.code yX5_kill cX5_kill 4 (some .int)) (d - 1) [.ref k, .int x] H (fun v h' => c = 0 ∧ v = some (.int w) ∧ LK G m k N S H h' b) (LX G m k N S H b c)) (hd1 : 2 ≤ d) : hp_C l G yL_kill (.codeWith yL_kill cL_kill 4 (some .int) [(0, 9, 12, 13), (0, 9, 15, 15)]) d [.ref k, .int x, .ref (m + 20)] H (fun v h' => LW G m k N S c c0 a b v h' ∧ (c = 0 → hp_ar h' (m + 20) 0 = .long (Int32.toInt64 w))) (fun _ _ => False) := by
  refine hp_ofVH (by decide) (by simp [Value.category]) (Nat.le_of_ble_eq_true rfl) (fun M C hr ht el => ?_)
  subst el
  have hd := C.en.2.2.2.2.2.2.1
  refine hp_aload_nR C dL_kill_0 rfl ?_
  refine hp_iconst (v := 0) C dL_kill_1 (by decide) ?_
  refine hp_aload_nR C dL_kill_2 rfl ?_
  refine hp_iload_n C dL_kill_3 rfl ?_
  refine hp_callV (ci := 5) C ml_L_37 im_X5_kill se_X5_kill rfl (by decide) cc (by omega) dL_kill_4 xT rfl rfl (by simp [Value.category]) (fun v_1 h_1 hp => ?_) (fun E_1 h_1 hq => ?_)
  · obtain ⟨rfl, rfl, x1⟩ := hp
    refine hp_i2l C dL_kill_7 ?_
    have y3 := x3.move x1.F
    refine hp_last C dL_kill_8 y3.1 (by rw [y3.2]; unfold vp_in; decide) ?_
    refine hp_goto (tgt := 18) C dL_kill_9 (by decide) ?_
    refine hp_iconst (v := 0) C dL_kill_18 (by decide) ?_
    refine hp_iret C hr (by decide) dL_kill_19 ?_
    exact ⟨LW.ofS hd x1 x2 x3 _ _, fun _ => by rw [hp_set_ar, if_pos rfl, if_pos (by decide)]⟩
  · obtain ⟨⟨rfl, rfl⟩ | ⟨rfl, rfl⟩, x1⟩ := hq
    · refine hp_catch C [] ⟨0, 9, 12, 13⟩ [⟨0, 9, 15, 15⟩] ht (by simp) (by decide) (by decide) cl_L_13 (by decide) (fun q_1 => ?_)
      refine hp_astore_n (r := some q_1) C dL_kill_12 (by decide) ?_
      refine hp_iconst (v := 1) C dL_kill_13 (by decide) ?_
      refine hp_iret C hr (by decide) dL_kill_14 ?_
      exact ⟨LW.of hd x1 x2 x3, fun z_8 => absurd z_8 (by decide)⟩
    · refine hp_catch C [⟨0, 9, 12, 13⟩] ⟨0, 9, 15, 15⟩ [] ht (fun z hz => Or.inr (by rw [List.mem_singleton.mp hz]; exact ⟨by decide, _, cl_L_13, by decide⟩)) (by decide) (by decide) cl_L_15 (by decide) (fun q_1 => ?_)
      refine hp_astore_n (r := some q_1) C dL_kill_15 (by decide) ?_
      refine hp_iconst (v := 2) C dL_kill_16 (by decide) ?_
      refine hp_iret C hr (by decide) dL_kill_17 ?_
      exact ⟨LW.of hd x1 x2 x3, fun z_8 => absurd z_8 (by decide)⟩
set_option maxRecDepth 20000 in
set_option maxHeartbeats 4000000 in
theorem lh_stop {l : Launch} {G : hpG} {m k N S d : Nat} {H : hpT} {a b : aS} {c c0 : Int32} {x : Int32} (xT : hp_is G H k 5) (x2 : LM G m c0 H a) (x3 : LO G m H) (cc : hp_C l G yX5_stop (.code yX5_stop cX5_stop 4 none) (d - 1) [.ref k, .int x] H (fun v h' => c = 0 ∧ v = none ∧ LK G m k N S H h' b) (LX G m k N S H b c)) (hd1 : 2 ≤ d) : hp_C l G yL_stop (.codeWith yL_stop cL_stop 3 (some .int) [(0, 5, 8, 13), (0, 5, 11, 15)]) d [.ref k, .int x] H (fun v h' => LW G m k N S c c0 a b v h') (fun _ _ => False) := by
  refine hp_ofVH (by decide) (by simp [Value.category]) (Nat.le_of_ble_eq_true rfl) (fun M C hr ht el => ?_)
  subst el
  have hd := C.en.2.2.2.2.2.2.1
  refine hp_aload_nR C dL_stop_0 rfl ?_
  refine hp_iload_n C dL_stop_1 rfl ?_
  refine hp_callV (ci := 5) C ml_L_41 im_X5_stop se_X5_stop rfl (by decide) cc (by omega) dL_stop_2 xT rfl rfl (by simp [Value.category]) (fun v_1 h_1 hp => ?_) (fun E_1 h_1 hq => ?_)
  · obtain ⟨rfl, rfl, x1⟩ := hp
    refine hp_goto (tgt := 14) C dL_stop_5 (by decide) ?_
    refine hp_iconst (v := 0) C dL_stop_14 (by decide) ?_
    refine hp_iret C hr (by decide) dL_stop_15 ?_
    exact LW.of hd x1 x2 x3
  · obtain ⟨⟨rfl, rfl⟩ | ⟨rfl, rfl⟩, x1⟩ := hq
    · refine hp_catch C [] ⟨0, 5, 8, 13⟩ [⟨0, 5, 11, 15⟩] ht (by simp) (by decide) (by decide) cl_L_13 (by decide) (fun q_1 => ?_)
      refine hp_astore_n (r := some q_1) C dL_stop_8 (by decide) ?_
      refine hp_iconst (v := 1) C dL_stop_9 (by decide) ?_
      refine hp_iret C hr (by decide) dL_stop_10 ?_
      exact LW.of hd x1 x2 x3
    · refine hp_catch C [⟨0, 5, 8, 13⟩] ⟨0, 5, 11, 15⟩ [] ht (fun z hz => Or.inr (by rw [List.mem_singleton.mp hz]; exact ⟨by decide, _, cl_L_13, by decide⟩)) (by decide) (by decide) cl_L_15 (by decide) (fun q_1 => ?_)
      refine hp_astore_n (r := some q_1) C dL_stop_11 (by decide) ?_
      refine hp_iconst (v := 2) C dL_stop_12 (by decide) ?_
      refine hp_iret C hr (by decide) dL_stop_13 ?_
      exact LW.of hd x1 x2 x3
set_option maxRecDepth 20000 in
set_option maxHeartbeats 4000000 in
theorem lh_again {l : Launch} {G : hpG} {m k N S d : Nat} {H : hpT} {a b : aS} {c c0 w : Int32} {x : Int32} (xT : hp_is G H k 5) (x2 : LM G m c0 H a) (x3 : LO G m H) (cc : hp_C l G yX5_again (.code yX5_again cX5_again 4 (some .boolean)) (d - 1) [.ref k, .int x] H (fun v h' => c = 0 ∧ v = some (.int w) ∧ LK G m k N S H h' b) (LX G m k N S H b c)) (hd1 : 2 ≤ d) : hp_C l G yL_again (.codeWith yL_again cL_again 4 (some .int) [(0, 16, 19, 13), (0, 16, 22, 15)]) d [.ref k, .int x, .ref (m + 20)] H (fun v h' => LW G m k N S c c0 a b v h' ∧ (c = 0 → hp_ar h' (m + 20) 0 = .long (if w = 0 then 0 else 1))) (fun _ _ => False) := by
  refine hp_ofVH (by decide) (by simp [Value.category]) (Nat.le_of_ble_eq_true rfl) (fun M C hr ht el => ?_)
  subst el
  have hd := C.en.2.2.2.2.2.2.1
  refine hp_aload_nR C dL_again_0 rfl ?_
  refine hp_iconst (v := 0) C dL_again_1 (by decide) ?_
  refine hp_aload_nR C dL_again_2 rfl ?_
  refine hp_iload_n C dL_again_3 rfl ?_
  refine hp_callV (ci := 5) C ml_L_45 im_X5_again se_X5_again rfl (by decide) cc (by omega) dL_again_4 xT rfl rfl (by simp [Value.category]) (fun v_1 h_1 hp => ?_) (fun E_1 h_1 hq => ?_)
  · obtain ⟨rfl, rfl, x1⟩ := hp
    refine hp_if_eq (tgt := 14) C dL_again_7 (by decide) (fun z_9 => ?_) (fun z_9 => ?_)
    · refine hp_lconst0 C dL_again_14 ?_
      have y3 := x3.move x1.F
      refine hp_last C dL_again_15 y3.1 (by rw [y3.2]; unfold vp_in; decide) ?_
      refine hp_goto (tgt := 25) C dL_again_16 (by decide) ?_
      refine hp_iconst (v := 0) C dL_again_25 (by decide) ?_
      refine hp_iret C hr (by decide) dL_again_26 ?_
      exact ⟨LW.ofS hd x1 x2 x3 _ _, fun _ => by rw [hp_set_ar, if_pos rfl, if_pos (by decide), if_pos z_9]⟩
    · refine hp_lconst1 C dL_again_10 ?_
      refine hp_goto (tgt := 15) C dL_again_11 (by decide) ?_
      have y3 := x3.move x1.F
      refine hp_last C dL_again_15 y3.1 (by rw [y3.2]; unfold vp_in; decide) ?_
      refine hp_goto (tgt := 25) C dL_again_16 (by decide) ?_
      refine hp_iconst (v := 0) C dL_again_25 (by decide) ?_
      refine hp_iret C hr (by decide) dL_again_26 ?_
      exact ⟨LW.ofS hd x1 x2 x3 _ _, fun _ => by rw [hp_set_ar, if_pos rfl, if_pos (by decide), if_neg z_9]⟩
  · obtain ⟨⟨rfl, rfl⟩ | ⟨rfl, rfl⟩, x1⟩ := hq
    · refine hp_catch C [] ⟨0, 16, 19, 13⟩ [⟨0, 16, 22, 15⟩] ht (by simp) (by decide) (by decide) cl_L_13 (by decide) (fun q_1 => ?_)
      refine hp_astore_n (r := some q_1) C dL_again_19 (by decide) ?_
      refine hp_iconst (v := 1) C dL_again_20 (by decide) ?_
      refine hp_iret C hr (by decide) dL_again_21 ?_
      exact ⟨LW.of hd x1 x2 x3, fun z_8 => absurd z_8 (by decide)⟩
    · refine hp_catch C [⟨0, 16, 19, 13⟩] ⟨0, 16, 22, 15⟩ [] ht (fun z hz => Or.inr (by rw [List.mem_singleton.mp hz]; exact ⟨by decide, _, cl_L_13, by decide⟩)) (by decide) (by decide) cl_L_15 (by decide) (fun q_1 => ?_)
      refine hp_astore_n (r := some q_1) C dL_again_22 (by decide) ?_
      refine hp_iconst (v := 2) C dL_again_23 (by decide) ?_
      refine hp_iret C hr (by decide) dL_again_24 ?_
      exact ⟨LW.of hd x1 x2 x3, fun z_8 => absurd z_8 (by decide)⟩
set_option maxRecDepth 20000 in
set_option maxHeartbeats 4000000 in
theorem lh_remove {l : Launch} {G : hpG} {m k N S d : Nat} {H : hpT} {a b : aS} {c c0 w : Int32} {x : Int32} (xT : hp_is G H k 5) (x2 : LM G m c0 H a) (x3 : LO G m H) (cc : hp_C l G yX5_remove (.code yX5_remove cX5_remove 4 (some .int)) (d - 1) [.ref k, .int x] H (fun v h' => c = 0 ∧ v = some (.int w) ∧ LK G m k N S H h' b) (LX G m k N S H b c)) (hd1 : 2 ≤ d) : hp_C l G yL_remove (.codeWith yL_remove cL_remove 4 (some .int) [(0, 9, 12, 13), (0, 9, 15, 15)]) d [.ref k, .int x, .ref (m + 20)] H (fun v h' => LW G m k N S c c0 a b v h' ∧ (c = 0 → hp_ar h' (m + 20) 0 = .long (Int32.toInt64 w))) (fun _ _ => False) := by
  refine hp_ofVH (by decide) (by simp [Value.category]) (Nat.le_of_ble_eq_true rfl) (fun M C hr ht el => ?_)
  subst el
  have hd := C.en.2.2.2.2.2.2.1
  refine hp_aload_nR C dL_remove_0 rfl ?_
  refine hp_iconst (v := 0) C dL_remove_1 (by decide) ?_
  refine hp_aload_nR C dL_remove_2 rfl ?_
  refine hp_iload_n C dL_remove_3 rfl ?_
  refine hp_callV (ci := 5) C ml_L_49 im_X5_remove se_X5_remove rfl (by decide) cc (by omega) dL_remove_4 xT rfl rfl (by simp [Value.category]) (fun v_1 h_1 hp => ?_) (fun E_1 h_1 hq => ?_)
  · obtain ⟨rfl, rfl, x1⟩ := hp
    refine hp_i2l C dL_remove_7 ?_
    have y3 := x3.move x1.F
    refine hp_last C dL_remove_8 y3.1 (by rw [y3.2]; unfold vp_in; decide) ?_
    refine hp_goto (tgt := 18) C dL_remove_9 (by decide) ?_
    refine hp_iconst (v := 0) C dL_remove_18 (by decide) ?_
    refine hp_iret C hr (by decide) dL_remove_19 ?_
    exact ⟨LW.ofS hd x1 x2 x3 _ _, fun _ => by rw [hp_set_ar, if_pos rfl, if_pos (by decide)]⟩
  · obtain ⟨⟨rfl, rfl⟩ | ⟨rfl, rfl⟩, x1⟩ := hq
    · refine hp_catch C [] ⟨0, 9, 12, 13⟩ [⟨0, 9, 15, 15⟩] ht (by simp) (by decide) (by decide) cl_L_13 (by decide) (fun q_1 => ?_)
      refine hp_astore_n (r := some q_1) C dL_remove_12 (by decide) ?_
      refine hp_iconst (v := 1) C dL_remove_13 (by decide) ?_
      refine hp_iret C hr (by decide) dL_remove_14 ?_
      exact ⟨LW.of hd x1 x2 x3, fun z_8 => absurd z_8 (by decide)⟩
    · refine hp_catch C [⟨0, 9, 12, 13⟩] ⟨0, 9, 15, 15⟩ [] ht (fun z hz => Or.inr (by rw [List.mem_singleton.mp hz]; exact ⟨by decide, _, cl_L_13, by decide⟩)) (by decide) (by decide) cl_L_15 (by decide) (fun q_1 => ?_)
      refine hp_astore_n (r := some q_1) C dL_remove_15 (by decide) ?_
      refine hp_iconst (v := 2) C dL_remove_16 (by decide) ?_
      refine hp_iret C hr (by decide) dL_remove_17 ?_
      exact ⟨LW.of hd x1 x2 x3, fun z_8 => absurd z_8 (by decide)⟩
set_option maxRecDepth 20000 in
set_option maxHeartbeats 4000000 in
theorem lh_pass {l : Launch} {G : hpG} {m k N S d : Nat} {H : hpT} {a b : aS} {c c0 w : Int32} {x : Int32} (xT : hp_is G H k 5) (x2 : LM G m c0 H a) (x3 : LO G m H) (cc : hp_C l G yX5_pass (.code yX5_pass cX5_pass 2 (some .int)) (d - 1) [.ref k, .int x] H (fun v h' => c = 0 ∧ v = some (.int w) ∧ LK G m k N S H h' b) (fun E h' => E = "java/lang/IllegalArgumentException" ∧ c = 1 ∧ LK G m k N S H h' b)) (hd1 : 2 ≤ d) : hp_C l G yL_pass (.codeWith yL_pass cL_pass 4 (some .int) [(0, 9, 12, 13)]) d [.ref k, .int x, .ref (m + 20)] H (fun v h' => LW G m k N S c c0 a b v h' ∧ (c = 0 → hp_ar h' (m + 20) 0 = .long (Int32.toInt64 w))) (fun _ _ => False) := by
  refine hp_ofVH (by decide) (by simp [Value.category]) (Nat.le_of_ble_eq_true rfl) (fun M C hr ht el => ?_)
  subst el
  have hd := C.en.2.2.2.2.2.2.1
  refine hp_aload_nR C dL_pass_0 rfl ?_
  refine hp_iconst (v := 0) C dL_pass_1 (by decide) ?_
  refine hp_aload_nR C dL_pass_2 rfl ?_
  refine hp_iload_n C dL_pass_3 rfl ?_
  refine hp_callV (ci := 5) C ml_L_52 im_X5_pass se_X5_pass rfl (by decide) cc (by omega) dL_pass_4 xT rfl rfl (by simp [Value.category]) (fun v_1 h_1 hp => ?_) (fun E_1 h_1 hq => ?_)
  · obtain ⟨rfl, rfl, x1⟩ := hp
    refine hp_i2l C dL_pass_7 ?_
    have y3 := x3.move x1.F
    refine hp_last C dL_pass_8 y3.1 (by rw [y3.2]; unfold vp_in; decide) ?_
    refine hp_goto (tgt := 15) C dL_pass_9 (by decide) ?_
    refine hp_iconst (v := 0) C dL_pass_15 (by decide) ?_
    refine hp_iret C hr (by decide) dL_pass_16 ?_
    exact ⟨LW.ofS hd x1 x2 x3 _ _, fun _ => by rw [hp_set_ar, if_pos rfl, if_pos (by decide)]⟩
  · obtain ⟨rfl, rfl, x1⟩ := hq
    refine hp_catch C [] ⟨0, 9, 12, 13⟩ [] ht (by simp) (by decide) (by decide) cl_L_13 (by decide) (fun q_1 => ?_)
    refine hp_astore_n (r := some q_1) C dL_pass_12 (by decide) ?_
    refine hp_iconst (v := 1) C dL_pass_13 (by decide) ?_
    refine hp_iret C hr (by decide) dL_pass_14 ?_
    exact ⟨LW.of hd x1 x2 x3, fun z_8 => absurd z_8 (by decide)⟩
set_option maxRecDepth 20000 in
set_option maxHeartbeats 4000000 in
theorem lh_state {l : Launch} {G : hpG} {m k N S d : Nat} {H : hpT} {a b : aS} {c c0 w : Int32} {x : Int32} (xT : hp_is G H k 5) (x2 : LM G m c0 H a) (x3 : LO G m H) (cc : hp_C l G yX5_state (.code yX5_state cX5_state 2 (some .int)) (d - 1) [.ref k, .int x] H (fun v h' => c = 0 ∧ v = some (.int w) ∧ LK G m k N S H h' b) (fun E h' => E = "java/lang/IllegalArgumentException" ∧ c = 1 ∧ LK G m k N S H h' b)) (hd1 : 2 ≤ d) : hp_C l G yL_state (.codeWith yL_state cL_state 4 (some .int) [(0, 9, 12, 13)]) d [.ref k, .int x, .ref (m + 20)] H (fun v h' => LW G m k N S c c0 a b v h' ∧ (c = 0 → hp_ar h' (m + 20) 0 = .long (Int32.toInt64 w))) (fun _ _ => False) := by
  refine hp_ofVH (by decide) (by simp [Value.category]) (Nat.le_of_ble_eq_true rfl) (fun M C hr ht el => ?_)
  subst el
  have hd := C.en.2.2.2.2.2.2.1
  refine hp_aload_nR C dL_state_0 rfl ?_
  refine hp_iconst (v := 0) C dL_state_1 (by decide) ?_
  refine hp_aload_nR C dL_state_2 rfl ?_
  refine hp_iload_n C dL_state_3 rfl ?_
  refine hp_callV (ci := 5) C ml_L_55 im_X5_state se_X5_state rfl (by decide) cc (by omega) dL_state_4 xT rfl rfl (by simp [Value.category]) (fun v_1 h_1 hp => ?_) (fun E_1 h_1 hq => ?_)
  · obtain ⟨rfl, rfl, x1⟩ := hp
    refine hp_i2l C dL_state_7 ?_
    have y3 := x3.move x1.F
    refine hp_last C dL_state_8 y3.1 (by rw [y3.2]; unfold vp_in; decide) ?_
    refine hp_goto (tgt := 15) C dL_state_9 (by decide) ?_
    refine hp_iconst (v := 0) C dL_state_15 (by decide) ?_
    refine hp_iret C hr (by decide) dL_state_16 ?_
    exact ⟨LW.ofS hd x1 x2 x3 _ _, fun _ => by rw [hp_set_ar, if_pos rfl, if_pos (by decide)]⟩
  · obtain ⟨rfl, rfl, x1⟩ := hq
    refine hp_catch C [] ⟨0, 9, 12, 13⟩ [] ht (by simp) (by decide) (by decide) cl_L_13 (by decide) (fun q_1 => ?_)
    refine hp_astore_n (r := some q_1) C dL_state_12 (by decide) ?_
    refine hp_iconst (v := 1) C dL_state_13 (by decide) ?_
    refine hp_iret C hr (by decide) dL_state_14 ?_
    exact ⟨LW.of hd x1 x2 x3, fun z_8 => absurd z_8 (by decide)⟩
set_option maxRecDepth 20000 in
set_option maxHeartbeats 4000000 in
theorem lh_about {l : Launch} {G : hpG} {m k N S d : Nat} {H : hpT} {a b : aS} {c c0 : Int32} {x q : Int32} (xT : hp_is G H k 5) (x2 : LM G m c0 H a) (x3 : LO G m H) (cc : hp_C l G yX5_about (.code yX5_about cX5_about 5 (some .int)) (d - 1) [.ref k, .int x, .int q] H (fun v h' => c = 0 ∧ (∃ y, v = some (.int y)) ∧ LK G m k N S H h' b) (fun E h' => E = "java/lang/IllegalArgumentException" ∧ c = 1 ∧ LK G m k N S H h' b)) (hd1 : 2 ≤ d) : hp_C l G yL_about (.codeWith yL_about cL_about 5 (some .int) [(0, 10, 13, 13)]) d [.ref k, .int x, .int q, .ref (m + 20)] H (fun v h' => LW G m k N S c c0 a b v h') (fun _ _ => False) := by
  refine hp_ofVH (by decide) (by simp [Value.category]) (Nat.le_of_ble_eq_true rfl) (fun M C hr ht el => ?_)
  subst el
  have hd := C.en.2.2.2.2.2.2.1
  refine hp_aload_nR C dL_about_0 rfl ?_
  refine hp_iconst (v := 0) C dL_about_1 (by decide) ?_
  refine hp_aload_nR C dL_about_2 rfl ?_
  refine hp_iload_n C dL_about_3 rfl ?_
  refine hp_iload_n C dL_about_4 rfl ?_
  refine hp_callV (ci := 5) C ml_L_58 im_X5_about se_X5_about rfl (by decide) cc (by omega) dL_about_5 xT rfl rfl (by simp [Value.category]) (fun v_1 h_1 hp => ?_) (fun E_1 h_1 hq => ?_)
  · obtain ⟨rfl, ⟨w, rfl⟩, x1⟩ := hp
    refine hp_i2l C dL_about_8 ?_
    have y3 := x3.move x1.F
    refine hp_last C dL_about_9 y3.1 (by rw [y3.2]; unfold vp_in; decide) ?_
    refine hp_goto (tgt := 17) C dL_about_10 (by decide) ?_
    refine hp_iconst (v := 0) C dL_about_17 (by decide) ?_
    refine hp_iret C hr (by decide) dL_about_18 ?_
    exact LW.ofS hd x1 x2 x3 _ _
  · obtain ⟨rfl, rfl, x1⟩ := hq
    refine hp_catch C [] ⟨0, 10, 13, 13⟩ [] ht (by simp) (by decide) (by decide) cl_L_13 (by decide) (fun q_1 => ?_)
    refine hp_astore (r := some q_1) C dL_about_13 (by decide) ?_
    refine hp_iconst (v := 1) C dL_about_15 (by decide) ?_
    refine hp_iret C hr (by decide) dL_about_16 ?_
    exact LW.of hd x1 x2 x3
set_option maxRecDepth 20000 in
set_option maxHeartbeats 4000000 in
theorem lh_child {l : Launch} {G : hpG} {m k N S d : Nat} {H : hpT} {a b : aS} {c c0 w : Int32} {x i : Int32} (xT : hp_is G H k 5) (x2 : LM G m c0 H a) (x3 : LO G m H) (cc : hp_C l G yX5_child (.code yX5_child cX5_child 4 (some .int)) (d - 1) [.ref k, .int x, .int i] H (fun v h' => c = 0 ∧ v = some (.int w) ∧ LK G m k N S H h' b) (fun E h' => E = "java/lang/IllegalArgumentException" ∧ c = 1 ∧ LK G m k N S H h' b)) (hd1 : 2 ≤ d) : hp_C l G yL_child (.codeWith yL_child cL_child 5 (some .int) [(0, 10, 13, 13)]) d [.ref k, .int x, .int i, .ref (m + 20)] H (fun v h' => LW G m k N S c c0 a b v h' ∧ (c = 0 → hp_ar h' (m + 20) 0 = .long (Int32.toInt64 w))) (fun _ _ => False) := by
  refine hp_ofVH (by decide) (by simp [Value.category]) (Nat.le_of_ble_eq_true rfl) (fun M C hr ht el => ?_)
  subst el
  have hd := C.en.2.2.2.2.2.2.1
  refine hp_aload_nR C dL_child_0 rfl ?_
  refine hp_iconst (v := 0) C dL_child_1 (by decide) ?_
  refine hp_aload_nR C dL_child_2 rfl ?_
  refine hp_iload_n C dL_child_3 rfl ?_
  refine hp_iload_n C dL_child_4 rfl ?_
  refine hp_callV (ci := 5) C ml_L_61 im_X5_child se_X5_child rfl (by decide) cc (by omega) dL_child_5 xT rfl rfl (by simp [Value.category]) (fun v_1 h_1 hp => ?_) (fun E_1 h_1 hq => ?_)
  · obtain ⟨rfl, rfl, x1⟩ := hp
    refine hp_i2l C dL_child_8 ?_
    have y3 := x3.move x1.F
    refine hp_last C dL_child_9 y3.1 (by rw [y3.2]; unfold vp_in; decide) ?_
    refine hp_goto (tgt := 17) C dL_child_10 (by decide) ?_
    refine hp_iconst (v := 0) C dL_child_17 (by decide) ?_
    refine hp_iret C hr (by decide) dL_child_18 ?_
    exact ⟨LW.ofS hd x1 x2 x3 _ _, fun _ => by rw [hp_set_ar, if_pos rfl, if_pos (by decide)]⟩
  · obtain ⟨rfl, rfl, x1⟩ := hq
    refine hp_catch C [] ⟨0, 10, 13, 13⟩ [] ht (by simp) (by decide) (by decide) cl_L_13 (by decide) (fun q_1 => ?_)
    refine hp_astore (r := some q_1) C dL_child_13 (by decide) ?_
    refine hp_iconst (v := 1) C dL_child_15 (by decide) ?_
    refine hp_iret C hr (by decide) dL_child_16 ?_
    exact ⟨LW.of hd x1 x2 x3, fun z_8 => absurd z_8 (by decide)⟩
set_option maxRecDepth 20000 in
set_option maxHeartbeats 4000000 in
theorem lh_event {l : Launch} {G : hpG} {m k N S d : Nat} {H : hpT} {a b : aS} {c c0 w : Int32} {i x : Int32} (xT : hp_is G H k 5) (x2 : LM G m c0 H a) (x3 : LO G m H) (cc : hp_C l G yX5_event (.code yX5_event cX5_event 3 (some .int)) (d - 1) [.ref k, .int i, .int x] H (fun v h' => c = 0 ∧ v = some (.int w) ∧ LK G m k N S H h' b) (fun E h' => E = "java/lang/IllegalArgumentException" ∧ c = 1 ∧ LK G m k N S H h' b)) (hd1 : 2 ≤ d) : hp_C l G yL_event (.codeWith yL_event cL_event 5 (some .int) [(0, 10, 13, 13)]) d [.ref k, .int i, .int x, .ref (m + 20)] H (fun v h' => LW G m k N S c c0 a b v h' ∧ (c = 0 → hp_ar h' (m + 20) 0 = .long (Int32.toInt64 w))) (fun _ _ => False) := by
  refine hp_ofVH (by decide) (by simp [Value.category]) (Nat.le_of_ble_eq_true rfl) (fun M C hr ht el => ?_)
  subst el
  have hd := C.en.2.2.2.2.2.2.1
  refine hp_aload_nR C dL_event_0 rfl ?_
  refine hp_iconst (v := 0) C dL_event_1 (by decide) ?_
  refine hp_aload_nR C dL_event_2 rfl ?_
  refine hp_iload_n C dL_event_3 rfl ?_
  refine hp_iload_n C dL_event_4 rfl ?_
  refine hp_callV (ci := 5) C ml_L_64 im_X5_event se_X5_event rfl (by decide) cc (by omega) dL_event_5 xT rfl rfl (by simp [Value.category]) (fun v_1 h_1 hp => ?_) (fun E_1 h_1 hq => ?_)
  · obtain ⟨rfl, rfl, x1⟩ := hp
    refine hp_i2l C dL_event_8 ?_
    have y3 := x3.move x1.F
    refine hp_last C dL_event_9 y3.1 (by rw [y3.2]; unfold vp_in; decide) ?_
    refine hp_goto (tgt := 17) C dL_event_10 (by decide) ?_
    refine hp_iconst (v := 0) C dL_event_17 (by decide) ?_
    refine hp_iret C hr (by decide) dL_event_18 ?_
    exact ⟨LW.ofS hd x1 x2 x3 _ _, fun _ => by rw [hp_set_ar, if_pos rfl, if_pos (by decide)]⟩
  · obtain ⟨rfl, rfl, x1⟩ := hq
    refine hp_catch C [] ⟨0, 10, 13, 13⟩ [] ht (by simp) (by decide) (by decide) cl_L_13 (by decide) (fun q_1 => ?_)
    refine hp_astore (r := some q_1) C dL_event_13 (by decide) ?_
    refine hp_iconst (v := 1) C dL_event_15 (by decide) ?_
    refine hp_iret C hr (by decide) dL_event_16 ?_
    exact ⟨LW.of hd x1 x2 x3, fun z_8 => absurd z_8 (by decide)⟩
set_option maxRecDepth 20000 in
set_option maxHeartbeats 4000000 in
theorem lh_total {l : Launch} {G : hpG} {m k N S d : Nat} {H : hpT} {a b : aS} {c c0 w : Int32} {q : Int32} (xT : hp_is G H k 5) (x2 : LM G m c0 H a) (x3 : LO G m H) (cc : hp_C l G yX5_total (.code yX5_total cX5_total 2 (some .int)) (d - 1) [.ref k, .int q] H (fun v h' => c = 0 ∧ v = some (.int w) ∧ LK G m k N S H h' b) (fun E h' => E = "java/lang/IllegalArgumentException" ∧ c = 1 ∧ LK G m k N S H h' b)) (hd1 : 2 ≤ d) : hp_C l G yL_total (.codeWith yL_total cL_total 4 (some .int) [(0, 9, 12, 13)]) d [.ref k, .int q, .ref (m + 20)] H (fun v h' => LW G m k N S c c0 a b v h' ∧ (c = 0 → hp_ar h' (m + 20) 0 = .long (Int32.toInt64 w))) (fun _ _ => False) := by
  refine hp_ofVH (by decide) (by simp [Value.category]) (Nat.le_of_ble_eq_true rfl) (fun M C hr ht el => ?_)
  subst el
  have hd := C.en.2.2.2.2.2.2.1
  refine hp_aload_nR C dL_total_0 rfl ?_
  refine hp_iconst (v := 0) C dL_total_1 (by decide) ?_
  refine hp_aload_nR C dL_total_2 rfl ?_
  refine hp_iload_n C dL_total_3 rfl ?_
  refine hp_callV (ci := 5) C ml_L_67 im_X5_total se_X5_total rfl (by decide) cc (by omega) dL_total_4 xT rfl rfl (by simp [Value.category]) (fun v_1 h_1 hp => ?_) (fun E_1 h_1 hq => ?_)
  · obtain ⟨rfl, rfl, x1⟩ := hp
    refine hp_i2l C dL_total_7 ?_
    have y3 := x3.move x1.F
    refine hp_last C dL_total_8 y3.1 (by rw [y3.2]; unfold vp_in; decide) ?_
    refine hp_goto (tgt := 15) C dL_total_9 (by decide) ?_
    refine hp_iconst (v := 0) C dL_total_15 (by decide) ?_
    refine hp_iret C hr (by decide) dL_total_16 ?_
    exact ⟨LW.ofS hd x1 x2 x3 _ _, fun _ => by rw [hp_set_ar, if_pos rfl, if_pos (by decide)]⟩
  · obtain ⟨rfl, rfl, x1⟩ := hq
    refine hp_catch C [] ⟨0, 9, 12, 13⟩ [] ht (by simp) (by decide) (by decide) cl_L_13 (by decide) (fun q_1 => ?_)
    refine hp_astore_n (r := some q_1) C dL_total_12 (by decide) ?_
    refine hp_iconst (v := 1) C dL_total_13 (by decide) ?_
    refine hp_iret C hr (by decide) dL_total_14 ?_
    exact ⟨LW.of hd x1 x2 x3, fun z_8 => absurd z_8 (by decide)⟩
