set_option maxRecDepth 20000 in
set_option maxHeartbeats 4000000 in
theorem kp_firstX {l : Launch} {G : hpG} {pr : Nat → Prop} {B : hpT} {N S : Nat} {h : hpT} {κ : kS} {a : aS} {d : Nat} (K : KR G pr B N S h κ a) {x r t : Int32} (hb : ¬ ((0 ≤ x.toInt ∧ x.toInt ≤ 2) ∧ (0 ≤ r.toInt ∧ r.toInt ≤ 50) ∧ (1 ≤ t.toInt ∧ t.toInt ≤ 1000))) (hd : 8 ≤ d) (hR1 : hp_nx h + 1 ≤ hp_n0 G + hp_LC) (hR2 : hp_sl h + 6 ≤ hp_LS) : hp_C l G yX5_first (.code yX5_first cX5_first 4 none) d [.ref (κ.1 5 0), .int x, .int r, .int t] (h) (fun _ _ => False) (fun E h' => E = "java/lang/IllegalArgumentException" ∧ h' = hp_mkX h) := by
  refine hp_ofV (by decide) (by simp [Value.category]) (Nat.le_of_ble_eq_true rfl) (fun M C hr hx el => ?_)
  refine hp_iload_n C dX5_first_0 rfl ?_
  refine hp_iload_n C dX5_first_1 rfl ?_
  refine hp_iload_n C dX5_first_2 rfl ?_
  exact hp_callS C ml_X5_41 sm_X5_wantBounds (kw_bn (d := d - 1) hb (by omega) hR1 hR2) (by omega) dX5_first_3 rfl rfl (by simp [Value.category]) (fun _ _ hf => hf.elim) (fun E_1 h_1 hq => hp_out C hx hq)
set_option maxRecDepth 20000 in
set_option maxHeartbeats 4000000 in
theorem kp_firstS {l : Launch} {G : hpG} {pr : Nat → Prop} {B : hpT} {N S : Nat} {h : hpT} {κ : kS} {a : aS} {d : Nat} (K : KR G pr B N S h κ a) (T : a_T a) (h00 : a_nd a 0 0 = 1) {x r t : Int32} (hb : (0 ≤ x.toInt ∧ x.toInt ≤ 2) ∧ (0 ≤ r.toInt ∧ r.toInt ≤ 50) ∧ (1 ≤ t.toInt ∧ t.toInt ≤ 1000)) (hu : a_nd a 3 0 = 1) (hd : 8 ≤ d) (hR1 : hp_nx h + 1 ≤ hp_n0 G + hp_LC) (hR2 : hp_sl h + 6 ≤ hp_LS) : hp_C l G yX5_first (.code yX5_first cX5_first 4 none) d [.ref (κ.1 5 0), .int x, .int r, .int t] (h) (fun _ _ => False) (fun E h' => E = "java/lang/IllegalStateException" ∧ h' = hp_mkX h) := by
  have h0 : 0 < a_mk a := T.1.1
  refine hp_ofV (by decide) (by simp [Value.category]) (Nat.le_of_ble_eq_true rfl) (fun M C hr hx el => ?_)
  refine hp_iload_n C dX5_first_0 rfl ?_
  refine hp_iload_n C dX5_first_1 rfl ?_
  refine hp_iload_n C dX5_first_2 rfl ?_
  refine hp_callS C ml_X5_41 sm_X5_wantBounds (kw_bd (d := d - 1) hb.1 hb.2.1 hb.2.2 (by omega)) (by omega) dX5_first_3 rfl rfl (by simp [Value.category]) (fun v_3 h_3 hp => ?_) (fun _ _ hf => hf.elim)
  obtain ⟨rfl, e_3⟩ := hp
  rw [e_3]
  refine hp_aload_nR C dX5_first_6 rfl ?_
  refine hp_get C fl_X5_27_5 dX5_first_7 K.isT K.f162 ?_
  refine hp_get C fl_X5_45_2 dX5_first_10 (K.isK h0 h00) (K.f68 h0) ?_
  refine hp_iconst (v := 1) C dX5_first_13 (by decide) ?_
  refine hp_icmp_eq (tgt := 21) C dX5_first_14 (by decide) (fun _ => ?_) (fun z_9 => absurd (by rw [hu]; decide) z_9)
  refine hp_iconst (v := 0) C dX5_first_21 (by decide) ?_
  exact hp_callS C ml_X5_48 sm_X5_wantState (kw_sn (d := d - 1) (by omega) hR1 hR2) (by omega) dX5_first_22 rfl rfl (by simp [Value.category]) (fun _ _ hf => hf.elim) (fun E_1 h_1 hq => hp_out C hx hq)
set_option maxRecDepth 20000 in
set_option maxHeartbeats 4000000 in
theorem kp_first {l : Launch} {G : hpG} {pr : Nat → Prop} {B : hpT} {N S : Nat} {h : hpT} {κ : kS} {a : aS} {d : Nat} (K : KR G pr B N S h κ a) (T : a_T a) (h00 : a_nd a 0 0 = 1) {x r t : Int32} (hb : (0 ≤ x.toInt ∧ x.toInt ≤ 2) ∧ (0 ≤ r.toInt ∧ r.toInt ≤ 50) ∧ (1 ≤ t.toInt ∧ t.toInt ≤ 1000)) (hu : ¬ a_nd a 3 0 = 1) (hd : 8 ≤ d) : hp_C l G yX5_first (.code yX5_first cX5_first 4 none) d [.ref (κ.1 5 0), .int x, .int r, .int t] (h) (fun v h' => v = none ∧ KR G pr B N S h' κ (a_sn (a_sn (a_sn a 5 0 x.toInt) 6 0 r.toInt) 7 0 t.toInt)) (fun _ _ => False) := by
  have h0 : 0 < a_mk a := T.1.1
  refine hp_ofV (by decide) (by simp [Value.category]) (Nat.le_of_ble_eq_true rfl) (fun M C hr hx el => ?_)
  refine hp_iload_n C dX5_first_0 rfl ?_
  refine hp_iload_n C dX5_first_1 rfl ?_
  refine hp_iload_n C dX5_first_2 rfl ?_
  refine hp_callS C ml_X5_41 sm_X5_wantBounds (kw_bd (d := d - 1) hb.1 hb.2.1 hb.2.2 (by omega)) (by omega) dX5_first_3 rfl rfl (by simp [Value.category]) (fun v_3 h_3 hp => ?_) (fun _ _ hf => hf.elim)
  obtain ⟨rfl, e_3⟩ := hp
  rw [e_3]
  refine hp_aload_nR C dX5_first_6 rfl ?_
  refine hp_get C fl_X5_27_5 dX5_first_7 K.isT K.f162 ?_
  refine hp_get C fl_X5_45_2 dX5_first_10 (K.isK h0 h00) (K.f68 h0) ?_
  refine hp_iconst (v := 1) C dX5_first_13 (by decide) ?_
  refine hp_icmp_eq (tgt := 21) C dX5_first_14 (by decide) (fun z_9 => absurd z_9 (fun z => hu ((a_ofI_eq (x := a_nd a 3 0) (y := 1) (by have := T.r3 h0; omega) (by omega)).mp z))) (fun _ => ?_)
  refine hp_iconst (v := 1) C dX5_first_17 (by decide) ?_
  refine hp_goto (tgt := 22) C dX5_first_18 (by decide) ?_
  refine hp_callS C ml_X5_48 sm_X5_wantState (kw_st (d := d - 1)) (by omega) dX5_first_22 rfl rfl (by simp [Value.category]) (fun v_22 h_22 hp => ?_) (fun _ _ hf => hf.elim)
  obtain ⟨rfl, e_22⟩ := hp
  rw [e_22]
  refine hp_aload_nR C dX5_first_25 rfl ?_
  refine hp_get C fl_X5_27_5 dX5_first_26 K.isT K.f162 ?_
  refine hp_iload_n C dX5_first_29 rfl ?_
  refine kp_71K C K h0 h00 fl_X5_52_2 x.toInt (Int32.ofInt_toInt x).symm dX5_first_30 (fun h_30 K_30 => ?_)
  refine hp_aload_nR C dX5_first_33 rfl ?_
  refine hp_get C fl_X5_27_5 dX5_first_34 K_30.isT K_30.f162 ?_
  refine hp_iload_n C dX5_first_37 rfl ?_
  refine kp_72K C K_30 h0 h00 fl_X5_55_2 r.toInt (Int32.ofInt_toInt r).symm dX5_first_38 (fun h_38 K_38 => ?_)
  refine hp_aload_nR C dX5_first_41 rfl ?_
  refine hp_get C fl_X5_27_5 dX5_first_42 K_38.isT K_38.f162 ?_
  refine hp_iload_n C dX5_first_45 rfl ?_
  refine kp_73K C K_38 h0 h00 fl_X5_58_2 t.toInt (Int32.ofInt_toInt t).symm dX5_first_46 (fun h_46 K_46 => ?_)
  refine hp_vret C hr dX5_first_49 ?_
  exact ⟨rfl, K_46⟩
set_option maxRecDepth 20000 in
set_option maxHeartbeats 4000000 in
theorem kp_passX {l : Launch} {G : hpG} {pr : Nat → Prop} {B : hpT} {N S : Nat} {h : hpT} {κ : kS} {a : aS} {d : Nat} (K : KR G pr B N S h κ a) {x : Int32} (hb : ¬ (0 ≤ x.toInt ∧ x.toInt ≤ 10000)) (hd : 8 ≤ d) (hR1 : hp_nx h + 1 ≤ hp_n0 G + hp_LC) (hR2 : hp_sl h + 6 ≤ hp_LS) : hp_C l G yX5_pass (.code yX5_pass cX5_pass 2 (some .int)) d [.ref (κ.1 5 0), .int x] (h) (fun _ _ => False) (fun E h' => E = "java/lang/IllegalArgumentException" ∧ h' = hp_mkX h) := by
  have q0 : (0 : Int32).toInt = 0 := by decide
  have q1 : (10000 : Int32).toInt = 10000 := by decide
  refine hp_ofV (by decide) (by simp [Value.category]) (Nat.le_of_ble_eq_true rfl) (fun M C hr hx el => ?_)
  refine hp_iload_n C dX5_pass_0 rfl ?_
  refine hp_iconst (v := 0) C dX5_pass_1 (by decide) ?_
  refine hp_sipush (v := 10000) C dX5_pass_2 (by decide) ?_
  exact hp_callS C ml_X5_65 sm_X5_wantWithin (kw_out (d := d - 1) (by omega) (by omega) hR1 hR2) (by omega) dX5_pass_5 rfl rfl (by simp [Value.category]) (fun _ _ hf => hf.elim) (fun E_1 h_1 hq => hp_out C hx hq)
set_option maxRecDepth 20000 in
set_option maxHeartbeats 4000000 in
theorem kp_pass {l : Launch} {G : hpG} {pr : Nat → Prop} {B : hpT} {N S : Nat} {h : hpT} {κ : kS} {a : aS} {d : Nat} (K : KR G pr B N S h κ a) {k : Nat} (hb : k ≤ 10000) (hd : 8 ≤ d) : hp_C l G yX5_pass (.code yX5_pass cX5_pass 2 (some .int)) d [.ref (κ.1 5 0), .int (nI k)] (h) (fun v h' => v = some (.int (nI (a_tm a + k))) ∧ KR G pr B N S h' κ (a_st a (a_tm a + k))) (fun _ _ => False) := by
  have q0 : (0 : Int32).toInt = 0 := by decide
  have q1 : (10000 : Int32).toInt = 10000 := by decide
  refine hp_ofV (by decide) (by simp [Value.category]) (Nat.le_of_ble_eq_true rfl) (fun M C hr hx el => ?_)
  refine hp_iload_n C dX5_pass_0 rfl ?_
  refine hp_iconst (v := 0) C dX5_pass_1 (by decide) ?_
  refine hp_sipush (v := 10000) C dX5_pass_2 (by decide) ?_
  refine hp_callS C ml_X5_65 sm_X5_wantWithin (kw_in (d := d - 1) (by rw [nI_toInt (by omega)]; omega) (by rw [nI_toInt (by omega)]; omega)) (by omega) dX5_pass_5 rfl rfl (by simp [Value.category]) (fun v_5 h_5 hp => ?_) (fun _ _ hf => hf.elim)
  obtain ⟨rfl, e_5⟩ := hp
  rw [e_5]
  refine hp_aload_nR C dX5_pass_8 rfl ?_
  refine hp_get C fl_X5_10_5 dX5_pass_9 K.isT K.f160 ?_
  refine hp_dup C dX5_pass_12 rfl ?_
  refine hp_get C fl_X5_127_1 dX5_pass_13 K.isJ K.f33 ?_
  refine hp_iload_n C dX5_pass_16 rfl ?_
  refine hp_iadd C dX5_pass_17 ?_
  refine kp_33 C K fl_X5_127_1 (a_tm a + k) (nI_add _ _) (Nat.le_add_right _ _) dX5_pass_18 (fun h_18 K_18 => ?_)
  refine hp_aload_nR C dX5_pass_21 rfl ?_
  refine hp_get C fl_X5_10_5 dX5_pass_22 K_18.isT K_18.f160 ?_
  refine hp_get C fl_X5_127_1 dX5_pass_25 K_18.isJ K_18.f33 ?_
  refine hp_iret C hr rfl dX5_pass_28 ?_
  exact ⟨rfl, K_18⟩
set_option maxRecDepth 20000 in
set_option maxHeartbeats 4000000 in
theorem kp_stateX {l : Launch} {G : hpG} {pr : Nat → Prop} {B : hpT} {N S : Nat} {h : hpT} {κ : kS} {a : aS} {d : Nat} (K : KR G pr B N S h κ a) {x : Int32} (T : a_T a) (hb : ¬ (0 ≤ x.toInt ∧ x.toInt < a_mk a)) (hd : 9 ≤ d) (hR1 : hp_nx h + 1 ≤ hp_n0 G + hp_LC) (hR2 : hp_sl h + 6 ≤ hp_LS) : hp_C l G yX5_state (.code yX5_state cX5_state 2 (some .int)) d [.ref (κ.1 5 0), .int x] (h) (fun _ _ => False) (fun E h' => E = "java/lang/IllegalArgumentException" ∧ h' = hp_mkX h) := by
  refine hp_ofV (by decide) (by simp [Value.category]) (Nat.le_of_ble_eq_true rfl) (fun M C hr hx el => ?_)
  refine hp_aload_nR C dX5_state_0 rfl ?_
  refine hp_iload_n C dX5_state_1 rfl ?_
  exact hp_callV (ci := 5) C ml_X5_130 im_X5_madeNode se_X5_madeNode rfl (by decide) (kw_madeX (d := d - 1) K T hb (by omega) hR1 hR2) (by omega) dX5_state_2 K.isT rfl rfl (by simp [Value.category]) (fun _ _ hf => hf.elim) (fun E_1 h_1 hq => hp_out C hx hq)
set_option maxRecDepth 20000 in
set_option maxHeartbeats 4000000 in
theorem kp_state {l : Launch} {G : hpG} {pr : Nat → Prop} {B : hpT} {N S : Nat} {h : hpT} {κ : kS} {a : aS} {d : Nat} (K : KR G pr B N S h κ a) {n : Nat} (T : a_T a) (hn : n < a_mk a) (hd : 9 ≤ d) : hp_C l G yX5_state (.code yX5_state cX5_state 2 (some .int)) d [.ref (κ.1 5 0), .int (nI n)] (h) (fun v h' => v = some (.int (Int32.ofInt (a_nd a 3 n))) ∧ h' = h) (fun _ _ => False) := by
  have hb := T.kb hn
  refine hp_ofV (by decide) (by simp [Value.category]) (Nat.le_of_ble_eq_true rfl) (fun M C hr hx el => ?_)
  refine hp_aload_nR C dX5_state_0 rfl ?_
  refine hp_iload_n C dX5_state_1 rfl ?_
  refine hp_callV (ci := 5) C ml_X5_130 im_X5_madeNode se_X5_madeNode rfl (by decide) (kw_made (d := d - 1) K T hn (by omega)) (by omega) dX5_state_2 K.isT rfl rfl (by simp [Value.category]) (fun v_2 h_2 hp => ?_) (fun _ _ hf => hf.elim)
  obtain ⟨rfl, e_2⟩ := hp
  rw [e_2]
  refine kg_N C K hn hb (by decide) fl_X5_113_2 fl_X5_113_4 dX5_state_5 (K.f68 hn) ?_
  refine hp_iret C hr rfl dX5_state_8 ?_
  exact ⟨rfl, rfl⟩
set_option maxRecDepth 20000 in
set_option maxHeartbeats 4000000 in
theorem kp_failingX {l : Launch} {G : hpG} {pr : Nat → Prop} {B : hpT} {N S : Nat} {h : hpT} {κ : kS} {a : aS} {d : Nat} (K : KR G pr B N S h κ a) {x g : Int32} (T : a_T a) (hbad : ∀ n, n < a_mk a → x = nI n → a_nd a 0 n = 0 → a_nd a 3 n = 2) (hd : 11 ≤ d) (hR1 : hp_nx h + 1 ≤ hp_n0 G + hp_LC) (hR2 : hp_sl h + 6 ≤ hp_LS) : hp_C l G yX5_failing (.code yX5_failing cX5_failing 5 (some .int)) d [.ref (κ.1 5 0), .int x, .int g] (h) (fun _ _ => False) (fun E h' => E = "java/lang/IllegalArgumentException" ∧ h' = hp_mkX h) := by
  refine hp_ofV (by decide) (by simp [Value.category]) (Nat.le_of_ble_eq_true rfl) (fun M C hr hx el => ?_)
  refine hp_aload_nR C dX5_failing_0 rfl ?_
  refine hp_iload_n C dX5_failing_1 rfl ?_
  exact hp_callV (ci := 5) C ml_X5_94 im_X5_workerAt se_X5_workerAt rfl (by decide) (kw_workerX (d := d - 1) K T hbad (by omega) hR1 hR2) (by omega) dX5_failing_2 K.isT rfl rfl (by simp [Value.category]) (fun _ _ hf => hf.elim) (fun E_1 h_1 hq => hp_out C hx hq)
set_option maxRecDepth 20000 in
set_option maxHeartbeats 4000000 in
theorem kp_failingY {l : Launch} {G : hpG} {pr : Nat → Prop} {B : hpT} {N S : Nat} {h : hpT} {κ : kS} {a : aS} {d : Nat} (K : KR G pr B N S h κ a) {n : Nat} {g : Int32} (T : a_T a) (hn : n < a_mk a) (h3 : ¬ a_nd a 3 n = 2) (hk : a_nd a 0 n = 0) (hg : ¬ (0 ≤ g.toInt ∧ g.toInt ≤ 50)) (hd : 11 ≤ d) (hR1 : hp_nx h + 1 ≤ hp_n0 G + hp_LC) (hR2 : hp_sl h + 6 ≤ hp_LS) : hp_C l G yX5_failing (.code yX5_failing cX5_failing 5 (some .int)) d [.ref (κ.1 5 0), .int (nI n), .int g] (h) (fun _ _ => False) (fun E h' => E = "java/lang/IllegalArgumentException" ∧ h' = hp_mkX h) := by
  have q0 : (0 : Int32).toInt = 0 := by decide
  have q1 : (50 : Int32).toInt = 50 := by decide
  refine hp_ofV (by decide) (by simp [Value.category]) (Nat.le_of_ble_eq_true rfl) (fun M C hr hx el => ?_)
  refine hp_aload_nR C dX5_failing_0 rfl ?_
  refine hp_iload_n C dX5_failing_1 rfl ?_
  refine hp_callV (ci := 5) C ml_X5_94 im_X5_workerAt se_X5_workerAt rfl (by decide) (kw_worker (d := d - 1) K T hn h3 hk (by omega)) (by omega) dX5_failing_2 K.isT rfl rfl (by simp [Value.category]) (fun v_2 h_2 hp => ?_) (fun _ _ hf => hf.elim)
  obtain ⟨rfl, e_2⟩ := hp
  rw [e_2]
  refine hp_astore_n (r := some _) C dX5_failing_5 (by decide) ?_
  refine hp_iload_n C dX5_failing_6 rfl ?_
  refine hp_iconst (v := 0) C dX5_failing_7 (by decide) ?_
  refine hp_bipush (v := 50) C dX5_failing_8 (by decide) ?_
  exact hp_callS C ml_X5_65 sm_X5_wantWithin (kw_out (d := d - 1) (by omega) (by omega) hR1 hR2) (by omega) dX5_failing_10 rfl rfl (by simp [Value.category]) (fun _ _ hf => hf.elim) (fun E_1 h_1 hq => hp_out C hx hq)
set_option maxRecDepth 20000 in
set_option maxHeartbeats 4000000 in
theorem kp_endsX {l : Launch} {G : hpG} {pr : Nat → Prop} {B : hpT} {N S : Nat} {h : hpT} {κ : kS} {a : aS} {d : Nat} (K : KR G pr B N S h κ a) {x g : Int32} (T : a_T a) (hbad : ∀ n, n < a_mk a → x = nI n → a_nd a 0 n = 0 → a_nd a 3 n = 2) (hd : 11 ≤ d) (hR1 : hp_nx h + 1 ≤ hp_n0 G + hp_LC) (hR2 : hp_sl h + 6 ≤ hp_LS) : hp_C l G yX5_ends (.code yX5_ends cX5_ends 4 none) d [.ref (κ.1 5 0), .int x, .int g] (h) (fun _ _ => False) (fun E h' => E = "java/lang/IllegalArgumentException" ∧ h' = hp_mkX h) := by
  refine hp_ofV (by decide) (by simp [Value.category]) (Nat.le_of_ble_eq_true rfl) (fun M C hr hx el => ?_)
  refine hp_aload_nR C dX5_ends_0 rfl ?_
  refine hp_iload_n C dX5_ends_1 rfl ?_
  exact hp_callV (ci := 5) C ml_X5_94 im_X5_workerAt se_X5_workerAt rfl (by decide) (kw_workerX (d := d - 1) K T hbad (by omega) hR1 hR2) (by omega) dX5_ends_2 K.isT rfl rfl (by simp [Value.category]) (fun _ _ hf => hf.elim) (fun E_1 h_1 hq => hp_out C hx hq)
set_option maxRecDepth 20000 in
set_option maxHeartbeats 4000000 in
theorem kp_endsY {l : Launch} {G : hpG} {pr : Nat → Prop} {B : hpT} {N S : Nat} {h : hpT} {κ : kS} {a : aS} {d : Nat} (K : KR G pr B N S h κ a) {n : Nat} {g : Int32} (T : a_T a) (hn : n < a_mk a) (h3 : ¬ a_nd a 3 n = 2) (hk : a_nd a 0 n = 0) (hg : ¬ (0 ≤ g.toInt ∧ g.toInt ≤ 9)) (hd : 11 ≤ d) (hR1 : hp_nx h + 1 ≤ hp_n0 G + hp_LC) (hR2 : hp_sl h + 6 ≤ hp_LS) : hp_C l G yX5_ends (.code yX5_ends cX5_ends 4 none) d [.ref (κ.1 5 0), .int (nI n), .int g] (h) (fun _ _ => False) (fun E h' => E = "java/lang/IllegalArgumentException" ∧ h' = hp_mkX h) := by
  have q0 : (0 : Int32).toInt = 0 := by decide
  have q1 : (9 : Int32).toInt = 9 := by decide
  refine hp_ofV (by decide) (by simp [Value.category]) (Nat.le_of_ble_eq_true rfl) (fun M C hr hx el => ?_)
  refine hp_aload_nR C dX5_ends_0 rfl ?_
  refine hp_iload_n C dX5_ends_1 rfl ?_
  refine hp_callV (ci := 5) C ml_X5_94 im_X5_workerAt se_X5_workerAt rfl (by decide) (kw_worker (d := d - 1) K T hn h3 hk (by omega)) (by omega) dX5_ends_2 K.isT rfl rfl (by simp [Value.category]) (fun v_2 h_2 hp => ?_) (fun _ _ hf => hf.elim)
  obtain ⟨rfl, e_2⟩ := hp
  rw [e_2]
  refine hp_astore_n (r := some _) C dX5_ends_5 (by decide) ?_
  refine hp_iload_n C dX5_ends_6 rfl ?_
  refine hp_iconst (v := 0) C dX5_ends_7 (by decide) ?_
  refine hp_bipush (v := 9) C dX5_ends_8 (by decide) ?_
  exact hp_callS C ml_X5_65 sm_X5_wantWithin (kw_out (d := d - 1) (by omega) (by omega) hR1 hR2) (by omega) dX5_ends_10 rfl rfl (by simp [Value.category]) (fun _ _ hf => hf.elim) (fun E_1 h_1 hq => hp_out C hx hq)
set_option maxRecDepth 20000 in
set_option maxHeartbeats 4000000 in
theorem kp_failing {l : Launch} {G : hpG} {pr : Nat → Prop} {B : hpT} {N S : Nat} {h : hpT} {κ : kS} {a : aS} {d : Nat} (K : KR G pr B N S h κ a) {n : Nat} {g : Int32} (T : a_T a) (hn : n < a_mk a) (h3 : ¬ a_nd a 3 n = 2) (hk : a_nd a 0 n = 0) (hg : 0 ≤ g.toInt ∧ g.toInt ≤ 50) (hd : 11 ≤ d) : hp_C l G yX5_failing (.code yX5_failing cX5_failing 5 (some .int)) d [.ref (κ.1 5 0), .int (nI n), .int g] (h) (fun v h' => v = some (.int (Int32.ofInt (a_nd a 11 n))) ∧ KR G pr B N S h' κ (a_sn a 11 n g.toInt)) (fun _ _ => False) := by
  have q0 : (0 : Int32).toInt = 0 := by decide
  have q1 : (50 : Int32).toInt = 50 := by decide
  refine hp_ofV (by decide) (by simp [Value.category]) (Nat.le_of_ble_eq_true rfl) (fun M C hr hx el => ?_)
  refine hp_aload_nR C dX5_failing_0 rfl ?_
  refine hp_iload_n C dX5_failing_1 rfl ?_
  refine hp_callV (ci := 5) C ml_X5_94 im_X5_workerAt se_X5_workerAt rfl (by decide) (kw_worker (d := d - 1) K T hn h3 hk (by omega)) (by omega) dX5_failing_2 K.isT rfl rfl (by simp [Value.category]) (fun v_2 h_2 hp => ?_) (fun _ _ hf => hf.elim)
  obtain ⟨rfl, e_2⟩ := hp
  rw [e_2]
  refine hp_astore_n (r := some _) C dX5_failing_5 (by decide) ?_
  refine hp_iload_n C dX5_failing_6 rfl ?_
  refine hp_iconst (v := 0) C dX5_failing_7 (by decide) ?_
  refine hp_bipush (v := 50) C dX5_failing_8 (by decide) ?_
  refine hp_callS C ml_X5_65 sm_X5_wantWithin (kw_in (d := d - 1) (by omega) (by omega)) (by omega) dX5_failing_10 rfl rfl (by simp [Value.category]) (fun v_10 h_10 hp => ?_) (fun _ _ hf => hf.elim)
  obtain ⟨rfl, e_10⟩ := hp
  rw [e_10]
  refine hp_aload_nR C dX5_failing_13 rfl ?_
  refine hp_get C fl_X5_98_4 dX5_failing_14 (K.isW hn hk) (K.f136 hn hk) ?_
  refine hp_istore C dX5_failing_17 (by decide) ?_
  refine hp_aload_nR C dX5_failing_19 rfl ?_
  refine hp_iload_n C dX5_failing_20 rfl ?_
  refine kp_136W C K hn hk fl_X5_98_4 g.toInt (Int32.ofInt_toInt g).symm dX5_failing_21 (fun h_21 K_21 => ?_)
  refine hp_iload C dX5_failing_24 rfl ?_
  refine hp_iret C hr rfl dX5_failing_26 ?_
  exact ⟨rfl, K_21⟩
set_option maxRecDepth 20000 in
set_option maxHeartbeats 4000000 in
theorem kp_endsS {l : Launch} {G : hpG} {pr : Nat → Prop} {B : hpT} {N S : Nat} {h : hpT} {κ : kS} {a : aS} {d : Nat} (K : KR G pr B N S h κ a) {n : Nat} {g : Int32} (T : a_T a) (hn : n < a_mk a) (h3 : ¬ a_nd a 3 n = 2) (hk : a_nd a 0 n = 0) (hg : 0 ≤ g.toInt ∧ g.toInt ≤ 9) (hu : ¬ a_nd a 3 n = 1) (hd : 11 ≤ d) (hR1 : hp_nx h + 1 ≤ hp_n0 G + hp_LC) (hR2 : hp_sl h + 6 ≤ hp_LS) : hp_C l G yX5_ends (.code yX5_ends cX5_ends 4 none) d [.ref (κ.1 5 0), .int (nI n), .int g] (h) (fun _ _ => False) (fun E h' => E = "java/lang/IllegalStateException" ∧ h' = hp_mkX h) := by
  have q0 : (0 : Int32).toInt = 0 := by decide
  have q1 : (9 : Int32).toInt = 9 := by decide
  refine hp_ofV (by decide) (by simp [Value.category]) (Nat.le_of_ble_eq_true rfl) (fun M C hr hx el => ?_)
  refine hp_aload_nR C dX5_ends_0 rfl ?_
  refine hp_iload_n C dX5_ends_1 rfl ?_
  refine hp_callV (ci := 5) C ml_X5_94 im_X5_workerAt se_X5_workerAt rfl (by decide) (kw_worker (d := d - 1) K T hn h3 hk (by omega)) (by omega) dX5_ends_2 K.isT rfl rfl (by simp [Value.category]) (fun v_2 h_2 hp => ?_) (fun _ _ hf => hf.elim)
  obtain ⟨rfl, e_2⟩ := hp
  rw [e_2]
  refine hp_astore_n (r := some _) C dX5_ends_5 (by decide) ?_
  refine hp_iload_n C dX5_ends_6 rfl ?_
  refine hp_iconst (v := 0) C dX5_ends_7 (by decide) ?_
  refine hp_bipush (v := 9) C dX5_ends_8 (by decide) ?_
  refine hp_callS C ml_X5_65 sm_X5_wantWithin (kw_in (d := d - 1) (by omega) (by omega)) (by omega) dX5_ends_10 rfl rfl (by simp [Value.category]) (fun v_10 h_10 hp => ?_) (fun _ _ hf => hf.elim)
  obtain ⟨rfl, e_10⟩ := hp
  rw [e_10]
  refine hp_aload_nR C dX5_ends_13 rfl ?_
  refine hp_get C fl_X5_101_4 dX5_ends_14 (K.isW hn hk) (K.f68 hn) ?_
  refine hp_iconst (v := 1) C dX5_ends_17 (by decide) ?_
  refine hp_icmp_ne (tgt := 25) C dX5_ends_18 (by decide) (fun _ => ?_) (fun z_9 => absurd z_9 (fun z => hu ((a_ofI_eq (x := a_nd a 3 n) (y := 1) (by have := T.r3 hn; omega) (by omega)).mp z)))
  refine hp_iconst (v := 0) C dX5_ends_25 (by decide) ?_
  exact hp_callS C ml_X5_48 sm_X5_wantState (kw_sn (d := d - 1) (by omega) hR1 hR2) (by omega) dX5_ends_26 rfl rfl (by simp [Value.category]) (fun _ _ hf => hf.elim) (fun E_1 h_1 hq => hp_out C hx hq)
set_option maxRecDepth 20000 in
set_option maxHeartbeats 4000000 in
theorem kp_ends {l : Launch} {G : hpG} {pr : Nat → Prop} {B : hpT} {N0 S0 : Nat} {h : hpT} {κ : kS} {a : aS} {d : Nat} (K : KQ G pr B N0 S0 h κ a) {n : Nat} {y : Nat} (T : a_T a) (hn : n < a_mk a) (h3 : ¬ a_nd a 3 n = 2) (hk : a_nd a 0 n = 0) (A : a_A a) (hg : y ≤ 9) (hu : a_nd a 3 n = 1) (hok : a_hok 9 n y (a_no (a_sn a 3 n 0) 5 n y)) (hfin : a_fin G N0 S0 (a_hd 9 n y (a_no (a_sn a 3 n 0) 5 n y))) (hd : 45 ≤ d) : hp_C l G yX5_ends (.code yX5_ends cX5_ends 4 none) d [.ref (κ.1 5 0), .int (nI n), .int (nI y)] (h) (fun v h' => v = none ∧ ∃ κ', KQ G pr B N0 S0 h' κ' (a_hd 9 n y (a_no (a_sn a 3 n 0) 5 n y)) ∧ ∀ r, r ≠ 4 → κ'.1 r = κ.1 r) (fun _ _ => False) := by
  have q0 : (0 : Int32).toInt = 0 := by decide
  have q1 : (9 : Int32).toInt = 9 := by decide
  have hf1 := hfin.le (a_hd_le 9 n y (a_no (a_sn a 3 n 0) 5 n y))
  have hl0 : (a_ev a).length < 2 ^ 30 := Nat.lt_of_le_of_lt (a_kp.no (a_sn a 3 n 0) 5 n y).ev hf1.2.1
  have k1 := (a_kp.sn3 a n (x := 0) (by omega)).tr (a_kp.no (a_sn a 3 n 0) 5 n y)
  refine hp_ofV (by decide) (by simp [Value.category]) (Nat.le_of_ble_eq_true rfl) (fun M C hr hx el => ?_)
  refine hp_aload_nR C dX5_ends_0 rfl ?_
  refine hp_iload_n C dX5_ends_1 rfl ?_
  refine hp_callV (ci := 5) C ml_X5_94 im_X5_workerAt se_X5_workerAt rfl (by decide) (kw_worker (d := d - 1) K T hn h3 hk (by omega)) (by omega) dX5_ends_2 K.isT rfl rfl (by simp [Value.category]) (fun v_2 h_2 hp => ?_) (fun _ _ hf => hf.elim)
  obtain ⟨rfl, e_2⟩ := hp
  rw [e_2]
  refine hp_astore_n (r := some _) C dX5_ends_5 (by decide) ?_
  refine hp_iload_n C dX5_ends_6 rfl ?_
  refine hp_iconst (v := 0) C dX5_ends_7 (by decide) ?_
  refine hp_bipush (v := 9) C dX5_ends_8 (by decide) ?_
  refine hp_callS C ml_X5_65 sm_X5_wantWithin (kw_in (d := d - 1) (by rw [nI_toInt (by omega)]; omega) (by rw [nI_toInt (by omega)]; omega)) (by omega) dX5_ends_10 rfl rfl (by simp [Value.category]) (fun v_10 h_10 hp => ?_) (fun _ _ hf => hf.elim)
  obtain ⟨rfl, e_10⟩ := hp
  rw [e_10]
  refine hp_aload_nR C dX5_ends_13 rfl ?_
  refine hp_get C fl_X5_101_4 dX5_ends_14 (K.isW hn hk) (K.f68 hn) ?_
  refine hp_iconst (v := 1) C dX5_ends_17 (by decide) ?_
  refine hp_icmp_ne (tgt := 25) C dX5_ends_18 (by decide) (fun z_9 => absurd z_9 (fun z => z (by rw [hu]; decide))) (fun _ => ?_)
  refine hp_iconst (v := 1) C dX5_ends_21 (by decide) ?_
  refine hp_goto (tgt := 26) C dX5_ends_22 (by decide) ?_
  refine hp_callS C ml_X5_48 sm_X5_wantState (kw_st (d := d - 1)) (by omega) dX5_ends_26 rfl rfl (by simp [Value.category]) (fun v_26 h_26 hp => ?_) (fun _ _ hf => hf.elim)
  obtain ⟨rfl, e_26⟩ := hp
  rw [e_26]
  refine hp_aload_nR C dX5_ends_29 rfl ?_
  refine hp_iconst (v := 0) C dX5_ends_30 (by decide) ?_
  refine kp_68W C K hn hk fl_X5_101_4 0 (by decide) dX5_ends_31 (fun h_31 K_31 => ?_)
  refine hp_aload_nR C dX5_ends_34 rfl ?_
  refine hp_get C fl_X5_10_5 dX5_ends_35 K_31.isT K_31.f160 ?_
  refine hp_iconst (v := 5) C dX5_ends_38 (by decide) ?_
  refine hp_aload_nR C dX5_ends_39 rfl ?_
  refine hp_get C fl_X5_93_4 dX5_ends_40 (K_31.isW hn hk) (K_31.f64 hn) ?_
  refine hp_iload_n C dX5_ends_43 rfl ?_
  refine hp_callV (ci := 1) C ml_X5_102 im_X0_tell se_X0_tell rfl (by decide) (kc_tell (d := d - 1) (w := 5) (n := n) (r := y) K_31 hl0) (by omega) dX5_ends_44 K_31.isJ rfl rfl (by simp [Value.category]) (fun v_44 h_44 hp => ?_) (fun _ _ hf => hf.elim)
  obtain ⟨rfl, K_44⟩ := hp
  refine hp_aload_nR C dX5_ends_47 rfl ?_
  refine hp_aload_nR C dX5_ends_48 rfl ?_
  refine hp_iload_n C dX5_ends_49 rfl ?_
  refine hp_callV (ci := 5) C ml_X5_105 im_X5_handleEnd se_X5_handleEnd rfl (by decide) (kc_he (d := d - 1) (KQ.of (a := a) K_44 k1.rs) (k1.T T) (k1.A A) hok (by omega) (by omega) hfin) (by omega) dX5_ends_50 K_44.isT rfl rfl (by simp [Value.category]) (fun v_50 h_50 hp => ?_) (fun _ _ hf => hf.elim)
  obtain ⟨rfl, κ1, K_50, g1⟩ := hp
  refine hp_vret C hr dX5_ends_53 ?_
  exact ⟨rfl, κ1, K_50, g1⟩
set_option maxRecDepth 20000 in
set_option maxHeartbeats 4000000 in
theorem kp_beginS {l : Launch} {G : hpG} {pr : Nat → Prop} {B : hpT} {N S : Nat} {h : hpT} {κ : kS} {a : aS} {d : Nat} (K : KR G pr B N S h κ a) (T : a_T a) (h00 : a_nd a 0 0 = 1) (hu : a_nd a 3 0 = 1) (hd : 8 ≤ d) (hR1 : hp_nx h + 1 ≤ hp_n0 G + hp_LC) (hR2 : hp_sl h + 6 ≤ hp_LS) : hp_C l G yX5_begin (.code yX5_begin cX5_begin 1 (some .boolean)) d [.ref (κ.1 5 0)] (h) (fun _ _ => False) (fun E h' => E = "java/lang/IllegalStateException" ∧ h' = hp_mkX h) := by
  have h0 : 0 < a_mk a := T.1.1
  refine hp_ofV (by decide) (by simp [Value.category]) (Nat.le_of_ble_eq_true rfl) (fun M C hr hx el => ?_)
  refine hp_aload_nR C dX5_begin_0 rfl ?_
  refine hp_get C fl_X5_27_5 dX5_begin_1 K.isT K.f162 ?_
  refine hp_get C fl_X5_45_2 dX5_begin_4 (K.isK h0 h00) (K.f68 h0) ?_
  refine hp_iconst (v := 1) C dX5_begin_7 (by decide) ?_
  refine hp_icmp_eq (tgt := 15) C dX5_begin_8 (by decide) (fun _ => ?_) (fun z_9 => absurd (by rw [hu]; decide) z_9)
  refine hp_iconst (v := 0) C dX5_begin_15 (by decide) ?_
  exact hp_callS C ml_X5_48 sm_X5_wantState (kw_sn (d := d - 1) (by omega) hR1 hR2) (by omega) dX5_begin_16 rfl rfl (by simp [Value.category]) (fun _ _ hf => hf.elim) (fun E_1 h_1 hq => hp_out C hx hq)
set_option maxRecDepth 20000 in
set_option maxHeartbeats 4000000 in
theorem kp_begin {l : Launch} {G : hpG} {pr : Nat → Prop} {B : hpT} {N S : Nat} {h : hpT} {κ : kS} {a : aS} {d : Nat} (K : KR G pr B N S h κ a) (T : a_T a) (h00 : a_nd a 0 0 = 1) (h02 : a_nd a 2 0 = 0) (hu : ¬ a_nd a 3 0 = 1) (hl : (a_ev (a_go 9 0 a).2).length < 2 ^ 30) (hd : 45 ≤ d) : hp_C l G yX5_begin (.code yX5_begin cX5_begin 1 (some .boolean)) d [.ref (κ.1 5 0)] (h) (fun v h' => v = some (.int (if (a_go 9 0 a).1 = true then 1 else 0)) ∧ ∃ ρ', KR G pr B N S h' (κ.1, κ.2.1, ρ') (a_go 9 0 a).2) (fun _ _ => False) := by
  have h0 : 0 < a_mk a := T.1.1
  refine hp_ofV (by decide) (by simp [Value.category]) (Nat.le_of_ble_eq_true rfl) (fun M C hr hx el => ?_)
  refine hp_aload_nR C dX5_begin_0 rfl ?_
  refine hp_get C fl_X5_27_5 dX5_begin_1 K.isT K.f162 ?_
  refine hp_get C fl_X5_45_2 dX5_begin_4 (K.isK h0 h00) (K.f68 h0) ?_
  refine hp_iconst (v := 1) C dX5_begin_7 (by decide) ?_
  refine hp_icmp_eq (tgt := 15) C dX5_begin_8 (by decide) (fun z_9 => absurd z_9 (fun z => hu ((a_ofI_eq (x := a_nd a 3 0) (y := 1) (by have := T.r3 h0; omega) (by omega)).mp z))) (fun _ => ?_)
  refine hp_iconst (v := 1) C dX5_begin_11 (by decide) ?_
  refine hp_goto (tgt := 16) C dX5_begin_12 (by decide) ?_
  refine hp_callS C ml_X5_48 sm_X5_wantState (kw_st (d := d - 1)) (by omega) dX5_begin_16 rfl rfl (by simp [Value.category]) (fun v_16 h_16 hp => ?_) (fun _ _ hf => hf.elim)
  obtain ⟨rfl, e_16⟩ := hp
  rw [e_16]
  refine hp_aload_nR C dX5_begin_19 rfl ?_
  refine hp_get C fl_X5_27_5 dX5_begin_20 K.isT K.f162 ?_
  refine hp_aload_nR C dX5_begin_23 rfl ?_
  refine hp_get C fl_X5_10_5 dX5_begin_24 K.isT K.f160 ?_
  refine hp_callV (ci := 2) C ml_X5_76 im_X1_rise se_X1_rise rfl (by decide) ((kc_rise 9 0 a _ κ.2.2 (d - 1) (γ := κ.1) (μ := κ.2.1) K T h0 (by rw [h02]; omega) (by omega) hl).1 h00) (by omega) dX5_begin_27 (K.isK h0 h00) rfl rfl (by simp [Value.category]) (fun v_27 h_27 hp => ?_) (fun _ _ hf => hf.elim)
  obtain ⟨rfl, ρ1, K_27⟩ := hp
  refine hp_iret C hr (by split <;> decide) dX5_begin_30 ?_
  exact ⟨rfl, ρ1, K_27⟩
set_option maxRecDepth 20000 in
set_option maxHeartbeats 4000000 in
theorem kp_killX {l : Launch} {G : hpG} {pr : Nat → Prop} {B : hpT} {N S : Nat} {h : hpT} {κ : kS} {a : aS} {d : Nat} (K : KR G pr B N S h κ a) {x : Int32} (T : a_T a) (hbad : a_bad a x) (hd : 11 ≤ d) (hR1 : hp_nx h + 1 ≤ hp_n0 G + hp_LC) (hR2 : hp_sl h + 6 ≤ hp_LS) : hp_C l G yX5_kill (.code yX5_kill cX5_kill 4 (some .int)) d [.ref (κ.1 5 0), .int x] (h) (fun _ _ => False) (fun E h' => E = "java/lang/IllegalArgumentException" ∧ h' = hp_mkX h) := by
  refine hp_ofV (by decide) (by simp [Value.category]) (Nat.le_of_ble_eq_true rfl) (fun M C hr hx el => ?_)
  refine hp_aload_nR C dX5_kill_0 rfl ?_
  refine hp_iload_n C dX5_kill_1 rfl ?_
  exact hp_callV (ci := 5) C ml_X5_109 im_X5_nodeAt se_X5_nodeAt rfl (by decide) (kw_nodeX (d := d - 1) K T hbad (by omega) hR1 hR2) (by omega) dX5_kill_2 K.isT rfl rfl (by simp [Value.category]) (fun _ _ hf => hf.elim) (fun E_1 h_1 hq => hp_out C hx hq)
set_option maxRecDepth 20000 in
set_option maxHeartbeats 4000000 in
theorem kp_stopX {l : Launch} {G : hpG} {pr : Nat → Prop} {B : hpT} {N S : Nat} {h : hpT} {κ : kS} {a : aS} {d : Nat} (K : KR G pr B N S h κ a) {x : Int32} (T : a_T a) (hbad : a_bad a x) (hd : 11 ≤ d) (hR1 : hp_nx h + 1 ≤ hp_n0 G + hp_LC) (hR2 : hp_sl h + 6 ≤ hp_LS) : hp_C l G yX5_stop (.code yX5_stop cX5_stop 4 none) d [.ref (κ.1 5 0), .int x] (h) (fun _ _ => False) (fun E h' => E = "java/lang/IllegalArgumentException" ∧ h' = hp_mkX h) := by
  refine hp_ofV (by decide) (by simp [Value.category]) (Nat.le_of_ble_eq_true rfl) (fun M C hr hx el => ?_)
  refine hp_aload_nR C dX5_stop_0 rfl ?_
  refine hp_iload_n C dX5_stop_1 rfl ?_
  exact hp_callV (ci := 5) C ml_X5_109 im_X5_nodeAt se_X5_nodeAt rfl (by decide) (kw_nodeX (d := d - 1) K T hbad (by omega) hR1 hR2) (by omega) dX5_stop_2 K.isT rfl rfl (by simp [Value.category]) (fun _ _ hf => hf.elim) (fun E_1 h_1 hq => hp_out C hx hq)
set_option maxRecDepth 20000 in
set_option maxHeartbeats 4000000 in
theorem kp_againX {l : Launch} {G : hpG} {pr : Nat → Prop} {B : hpT} {N S : Nat} {h : hpT} {κ : kS} {a : aS} {d : Nat} (K : KR G pr B N S h κ a) {x : Int32} (T : a_T a) (hbad : a_bad a x) (hd : 11 ≤ d) (hR1 : hp_nx h + 1 ≤ hp_n0 G + hp_LC) (hR2 : hp_sl h + 6 ≤ hp_LS) : hp_C l G yX5_again (.code yX5_again cX5_again 4 (some .boolean)) d [.ref (κ.1 5 0), .int x] (h) (fun _ _ => False) (fun E h' => E = "java/lang/IllegalArgumentException" ∧ h' = hp_mkX h) := by
  refine hp_ofV (by decide) (by simp [Value.category]) (Nat.le_of_ble_eq_true rfl) (fun M C hr hx el => ?_)
  refine hp_aload_nR C dX5_again_0 rfl ?_
  refine hp_iload_n C dX5_again_1 rfl ?_
  exact hp_callV (ci := 5) C ml_X5_109 im_X5_nodeAt se_X5_nodeAt rfl (by decide) (kw_nodeX (d := d - 1) K T hbad (by omega) hR1 hR2) (by omega) dX5_again_2 K.isT rfl rfl (by simp [Value.category]) (fun _ _ hf => hf.elim) (fun E_1 h_1 hq => hp_out C hx hq)
set_option maxRecDepth 20000 in
set_option maxHeartbeats 4000000 in
theorem kp_removeX {l : Launch} {G : hpG} {pr : Nat → Prop} {B : hpT} {N S : Nat} {h : hpT} {κ : kS} {a : aS} {d : Nat} (K : KR G pr B N S h κ a) {x : Int32} (T : a_T a) (hbad : a_bad a x) (hd : 11 ≤ d) (hR1 : hp_nx h + 1 ≤ hp_n0 G + hp_LC) (hR2 : hp_sl h + 6 ≤ hp_LS) : hp_C l G yX5_remove (.code yX5_remove cX5_remove 4 (some .int)) d [.ref (κ.1 5 0), .int x] (h) (fun _ _ => False) (fun E h' => E = "java/lang/IllegalArgumentException" ∧ h' = hp_mkX h) := by
  refine hp_ofV (by decide) (by simp [Value.category]) (Nat.le_of_ble_eq_true rfl) (fun M C hr hx el => ?_)
  refine hp_aload_nR C dX5_remove_0 rfl ?_
  refine hp_iload_n C dX5_remove_1 rfl ?_
  exact hp_callV (ci := 5) C ml_X5_109 im_X5_nodeAt se_X5_nodeAt rfl (by decide) (kw_nodeX (d := d - 1) K T hbad (by omega) hR1 hR2) (by omega) dX5_remove_2 K.isT rfl rfl (by simp [Value.category]) (fun _ _ hf => hf.elim) (fun E_1 h_1 hq => hp_out C hx hq)
set_option maxRecDepth 20000 in
set_option maxHeartbeats 4000000 in
theorem kp_stopY {l : Launch} {G : hpG} {pr : Nat → Prop} {B : hpT} {N S : Nat} {h : hpT} {κ : kS} {a : aS} {d : Nat} (K : KR G pr B N S h κ a) (T : a_T a) (h3 : ¬ a_nd a 3 0 = 2) (hd : 11 ≤ d) (hR1 : hp_nx h + 1 ≤ hp_n0 G + hp_LC) (hR2 : hp_sl h + 6 ≤ hp_LS) : hp_C l G yX5_stop (.code yX5_stop cX5_stop 4 none) d [.ref (κ.1 5 0), .int (nI 0)] (h) (fun _ _ => False) (fun E h' => E = "java/lang/IllegalArgumentException" ∧ h' = hp_mkX h) := by
  have hn : 0 < a_mk a := T.1.1
  have hb := T.kb hn
  refine hp_ofV (by decide) (by simp [Value.category]) (Nat.le_of_ble_eq_true rfl) (fun M C hr hx el => ?_)
  refine hp_aload_nR C dX5_stop_0 rfl ?_
  refine hp_iload_n C dX5_stop_1 rfl ?_
  refine hp_callV (ci := 5) C ml_X5_109 im_X5_nodeAt se_X5_nodeAt rfl (by decide) (kw_node (d := d - 1) K T hn h3 (by omega)) (by omega) dX5_stop_2 K.isT rfl rfl (by simp [Value.category]) (fun v_2 h_2 hp => ?_) (fun _ _ hf => hf.elim)
  obtain ⟨rfl, e_2⟩ := hp
  rw [e_2]
  refine hp_astore_n (r := some _) C dX5_stop_5 (by decide) ?_
  refine hp_aload_nR C dX5_stop_6 rfl ?_
  exact hp_callS C ml_X5_118 sm_X5_ownerOf (kw_ownerX (d := d - 1) K T (by omega) hR1 hR2) (by omega) dX5_stop_7 rfl rfl (by simp [Value.category]) (fun _ _ hf => hf.elim) (fun E_1 h_1 hq => hp_out C hx hq)
set_option maxRecDepth 20000 in
set_option maxHeartbeats 4000000 in
theorem kp_againY {l : Launch} {G : hpG} {pr : Nat → Prop} {B : hpT} {N S : Nat} {h : hpT} {κ : kS} {a : aS} {d : Nat} (K : KR G pr B N S h κ a) (T : a_T a) (h3 : ¬ a_nd a 3 0 = 2) (hd : 11 ≤ d) (hR1 : hp_nx h + 1 ≤ hp_n0 G + hp_LC) (hR2 : hp_sl h + 6 ≤ hp_LS) : hp_C l G yX5_again (.code yX5_again cX5_again 4 (some .boolean)) d [.ref (κ.1 5 0), .int (nI 0)] (h) (fun _ _ => False) (fun E h' => E = "java/lang/IllegalArgumentException" ∧ h' = hp_mkX h) := by
  have hn : 0 < a_mk a := T.1.1
  have hb := T.kb hn
  refine hp_ofV (by decide) (by simp [Value.category]) (Nat.le_of_ble_eq_true rfl) (fun M C hr hx el => ?_)
  refine hp_aload_nR C dX5_again_0 rfl ?_
  refine hp_iload_n C dX5_again_1 rfl ?_
  refine hp_callV (ci := 5) C ml_X5_109 im_X5_nodeAt se_X5_nodeAt rfl (by decide) (kw_node (d := d - 1) K T hn h3 (by omega)) (by omega) dX5_again_2 K.isT rfl rfl (by simp [Value.category]) (fun v_2 h_2 hp => ?_) (fun _ _ hf => hf.elim)
  obtain ⟨rfl, e_2⟩ := hp
  rw [e_2]
  refine hp_astore_n (r := some _) C dX5_again_5 (by decide) ?_
  refine hp_aload_nR C dX5_again_6 rfl ?_
  exact hp_callS C ml_X5_118 sm_X5_ownerOf (kw_ownerX (d := d - 1) K T (by omega) hR1 hR2) (by omega) dX5_again_7 rfl rfl (by simp [Value.category]) (fun _ _ hf => hf.elim) (fun E_1 h_1 hq => hp_out C hx hq)
set_option maxRecDepth 20000 in
set_option maxHeartbeats 4000000 in
theorem kp_removeY {l : Launch} {G : hpG} {pr : Nat → Prop} {B : hpT} {N S : Nat} {h : hpT} {κ : kS} {a : aS} {d : Nat} (K : KR G pr B N S h κ a) (T : a_T a) (h3 : ¬ a_nd a 3 0 = 2) (hd : 11 ≤ d) (hR1 : hp_nx h + 1 ≤ hp_n0 G + hp_LC) (hR2 : hp_sl h + 6 ≤ hp_LS) : hp_C l G yX5_remove (.code yX5_remove cX5_remove 4 (some .int)) d [.ref (κ.1 5 0), .int (nI 0)] (h) (fun _ _ => False) (fun E h' => E = "java/lang/IllegalArgumentException" ∧ h' = hp_mkX h) := by
  have hn : 0 < a_mk a := T.1.1
  have hb := T.kb hn
  refine hp_ofV (by decide) (by simp [Value.category]) (Nat.le_of_ble_eq_true rfl) (fun M C hr hx el => ?_)
  refine hp_aload_nR C dX5_remove_0 rfl ?_
  refine hp_iload_n C dX5_remove_1 rfl ?_
  refine hp_callV (ci := 5) C ml_X5_109 im_X5_nodeAt se_X5_nodeAt rfl (by decide) (kw_node (d := d - 1) K T hn h3 (by omega)) (by omega) dX5_remove_2 K.isT rfl rfl (by simp [Value.category]) (fun v_2 h_2 hp => ?_) (fun _ _ hf => hf.elim)
  obtain ⟨rfl, e_2⟩ := hp
  rw [e_2]
  refine hp_astore_n (r := some _) C dX5_remove_5 (by decide) ?_
  refine hp_aload_nR C dX5_remove_6 rfl ?_
  exact hp_callS C ml_X5_118 sm_X5_ownerOf (kw_ownerX (d := d - 1) K T (by omega) hR1 hR2) (by omega) dX5_remove_7 rfl rfl (by simp [Value.category]) (fun _ _ hf => hf.elim) (fun E_1 h_1 hq => hp_out C hx hq)
set_option maxRecDepth 20000 in
set_option maxHeartbeats 4000000 in
theorem kp_killS {l : Launch} {G : hpG} {pr : Nat → Prop} {B : hpT} {N S : Nat} {h : hpT} {κ : kS} {a : aS} {d : Nat} (K : KR G pr B N S h κ a) {n : Nat} (T : a_T a) (hn : n < a_mk a) (h3 : ¬ a_nd a 3 n = 2) (hu : ¬ a_nd a 3 n = 1) (hd : 11 ≤ d) (hR1 : hp_nx h + 1 ≤ hp_n0 G + hp_LC) (hR2 : hp_sl h + 6 ≤ hp_LS) : hp_C l G yX5_kill (.code yX5_kill cX5_kill 4 (some .int)) d [.ref (κ.1 5 0), .int (nI n)] (h) (fun _ _ => False) (fun E h' => E = "java/lang/IllegalStateException" ∧ h' = hp_mkX h) := by
  have hb := T.kb hn
  refine hp_ofV (by decide) (by simp [Value.category]) (Nat.le_of_ble_eq_true rfl) (fun M C hr hx el => ?_)
  refine hp_aload_nR C dX5_kill_0 rfl ?_
  refine hp_iload_n C dX5_kill_1 rfl ?_
  refine hp_callV (ci := 5) C ml_X5_109 im_X5_nodeAt se_X5_nodeAt rfl (by decide) (kw_node (d := d - 1) K T hn h3 (by omega)) (by omega) dX5_kill_2 K.isT rfl rfl (by simp [Value.category]) (fun v_2 h_2 hp => ?_) (fun _ _ hf => hf.elim)
  obtain ⟨rfl, e_2⟩ := hp
  rw [e_2]
  refine hp_astore_n (r := some _) C dX5_kill_5 (by decide) ?_
  refine hp_aload_nR C dX5_kill_6 rfl ?_
  refine kg_N C K hn hb (by decide) fl_X5_113_2 fl_X5_113_4 dX5_kill_7 (K.f68 hn) ?_
  refine hp_iconst (v := 1) C dX5_kill_10 (by decide) ?_
  refine hp_icmp_ne (tgt := 18) C dX5_kill_11 (by decide) (fun _ => ?_) (fun z_9 => absurd z_9 (fun z => hu ((a_ofI_eq (x := a_nd a 3 n) (y := 1) (by have := T.r3 hn; omega) (by omega)).mp z)))
  refine hp_iconst (v := 0) C dX5_kill_18 (by decide) ?_
  exact hp_callS C ml_X5_48 sm_X5_wantState (kw_sn (d := d - 1) (by omega) hR1 hR2) (by omega) dX5_kill_19 rfl rfl (by simp [Value.category]) (fun _ _ hf => hf.elim) (fun E_1 h_1 hq => hp_out C hx hq)
set_option maxRecDepth 20000 in
set_option maxHeartbeats 4000000 in
theorem kp_kill {l : Launch} {G : hpG} {pr : Nat → Prop} {B : hpT} {N0 S0 : Nat} {h : hpT} {κ : kS} {a : aS} {d : Nat} (K : KQ G pr B N0 S0 h κ a) {n : Nat} (T : a_T a) (hn : n < a_mk a) (h3 : ¬ a_nd a 3 n = 2) (A : a_A a) (hu : a_nd a 3 n = 1) (hok : a_hok 9 n 9 (a_ce true (a_fu a n) n a).2) (hfin : a_fin G N0 S0 (a_hd 9 n 9 (a_ce true (a_fu a n) n a).2)) (hd : 45 ≤ d) : hp_C l G yX5_kill (.code yX5_kill cX5_kill 4 (some .int)) d [.ref (κ.1 5 0), .int (nI n)] (h) (fun v h' => v = some (.int (nI (a_ce true (a_fu a n) n a).1)) ∧ ∃ κ', KQ G pr B N0 S0 h' κ' (a_hd 9 n 9 (a_ce true (a_fu a n) n a).2) ∧ ∀ r, r ≠ 4 → κ'.1 r = κ.1 r) (fun _ _ => False) := by
  have hb := T.kb hn
  have r2 := T.r2 hn
  have hfu : (9 : Int) ≤ (a_fu a n : Int) + a_nd a 2 n := by
    have e : a_fu a n = (9 - a_nd a 2 n).toNat := rfl
    omega
  have hfu9 : a_fu a n ≤ 9 := by
    have e : a_fu a n = (9 - a_nd a 2 n).toNat := rfl
    omega
  have hf1 := hfin.le (a_hd_le 9 n 9 (a_ce true (a_fu a n) n a).2)
  have k1 := a_ce_kp true (a_fu a n) n a
  generalize hcz : a_ce true (a_fu a n) n a = z at *
  refine hp_ofV (by decide) (by simp [Value.category]) (Nat.le_of_ble_eq_true rfl) (fun M C hr hx el => ?_)
  refine hp_aload_nR C dX5_kill_0 rfl ?_
  refine hp_iload_n C dX5_kill_1 rfl ?_
  refine hp_callV (ci := 5) C ml_X5_109 im_X5_nodeAt se_X5_nodeAt rfl (by decide) (kw_node (d := d - 1) K T hn h3 (by omega)) (by omega) dX5_kill_2 K.isT rfl rfl (by simp [Value.category]) (fun v_2 h_2 hp => ?_) (fun _ _ hf => hf.elim)
  obtain ⟨rfl, e_2⟩ := hp
  rw [e_2]
  refine hp_astore_n (r := some _) C dX5_kill_5 (by decide) ?_
  refine hp_aload_nR C dX5_kill_6 rfl ?_
  refine kg_N C K hn hb (by decide) fl_X5_113_2 fl_X5_113_4 dX5_kill_7 (K.f68 hn) ?_
  refine hp_iconst (v := 1) C dX5_kill_10 (by decide) ?_
  refine hp_icmp_ne (tgt := 18) C dX5_kill_11 (by decide) (fun z_9 => absurd z_9 (fun z => z (by rw [hu]; decide))) (fun _ => ?_)
  refine hp_iconst (v := 1) C dX5_kill_14 (by decide) ?_
  refine hp_goto (tgt := 19) C dX5_kill_15 (by decide) ?_
  refine hp_callS C ml_X5_48 sm_X5_wantState (kw_st (d := d - 1)) (by omega) dX5_kill_19 rfl rfl (by simp [Value.category]) (fun v_19 h_19 hp => ?_) (fun _ _ hf => hf.elim)
  obtain ⟨rfl, e_19⟩ := hp
  rw [e_19]
  refine hp_aload_nR C dX5_kill_22 rfl ?_
  refine hp_aload_nR C dX5_kill_23 rfl ?_
  refine hp_get C fl_X5_10_5 dX5_kill_24 K.isT K.f160 ?_
  refine hp_callN C K hn hb ul_X5_114_X1 ul_X5_114_X4 (kc_perish (a_fu a n) n a _ (d - 1) K T hn hfu (by omega) (by rw [hcz]; exact hf1.2.1)) (by omega) dX5_kill_27 rfl rfl (by simp [Value.category]) (fun v_27 h_27 hp => ?_)
  rw [hcz] at hp
  obtain ⟨rfl, K_27⟩ := hp
  refine hp_istore_n C dX5_kill_30 (by decide) ?_
  refine hp_aload_nR C dX5_kill_31 rfl ?_
  refine hp_aload_nR C dX5_kill_32 rfl ?_
  refine hp_bipush (v := 9) C dX5_kill_33 (by decide) ?_
  refine hp_callV (ci := 5) C ml_X5_105 im_X5_handleEnd se_X5_handleEnd rfl (by decide) (kc_he (d := d - 1) (KQ.of (a := a) K_27 k1.rs) (k1.T T) (k1.A A) hok (by omega) (by omega) hfin) (by omega) dX5_kill_35 K_27.isT rfl rfl (by simp [Value.category]) (fun v_35 h_35 hp => ?_) (fun _ _ hf => hf.elim)
  obtain ⟨rfl, κ1, K_35, g1⟩ := hp
  refine hp_iload_n C dX5_kill_38 rfl ?_
  refine hp_iret C hr rfl dX5_kill_39 ?_
  exact ⟨rfl, κ1, K_35, g1⟩
set_option maxRecDepth 20000 in
set_option maxHeartbeats 4000000 in
theorem kp_stopS {l : Launch} {G : hpG} {pr : Nat → Prop} {B : hpT} {N S : Nat} {h : hpT} {κ : kS} {a : aS} {d : Nat} (K : KR G pr B N S h κ a) {n : Nat} (T : a_T a) (hn : n < a_mk a) (h3 : ¬ a_nd a 3 n = 2) (h0 : n ≠ 0) (hp : a_pa a n < a_mk a) (hpk : a_nd a 0 (a_pa a n) = 1) (hu : ¬ a_nd a 3 n = 1) (hd : 11 ≤ d) (hR1 : hp_nx h + 1 ≤ hp_n0 G + hp_LC) (hR2 : hp_sl h + 6 ≤ hp_LS) : hp_C l G yX5_stop (.code yX5_stop cX5_stop 4 none) d [.ref (κ.1 5 0), .int (nI n)] (h) (fun _ _ => False) (fun E h' => E = "java/lang/IllegalStateException" ∧ h' = hp_mkX h) := by
  have hb := T.kb hn
  refine hp_ofV (by decide) (by simp [Value.category]) (Nat.le_of_ble_eq_true rfl) (fun M C hr hx el => ?_)
  refine hp_aload_nR C dX5_stop_0 rfl ?_
  refine hp_iload_n C dX5_stop_1 rfl ?_
  refine hp_callV (ci := 5) C ml_X5_109 im_X5_nodeAt se_X5_nodeAt rfl (by decide) (kw_node (d := d - 1) K T hn h3 (by omega)) (by omega) dX5_stop_2 K.isT rfl rfl (by simp [Value.category]) (fun v_2 h_2 hp => ?_) (fun _ _ hf => hf.elim)
  obtain ⟨rfl, e_2⟩ := hp
  rw [e_2]
  refine hp_astore_n (r := some _) C dX5_stop_5 (by decide) ?_
  refine hp_aload_nR C dX5_stop_6 rfl ?_
  refine hp_callS C ml_X5_118 sm_X5_ownerOf (kw_owner (d := d - 1) K T hn h0) (by omega) dX5_stop_7 rfl rfl (by simp [Value.category]) (fun v_7 h_7 hp => ?_) (fun _ _ hf => hf.elim)
  obtain ⟨rfl, e_7⟩ := hp
  rw [e_7]
  refine hp_astore_n (r := some _) C dX5_stop_10 (by decide) ?_
  refine hp_aload_nR C dX5_stop_11 rfl ?_
  refine kg_N C K hn hb (by decide) fl_X5_113_2 fl_X5_113_4 dX5_stop_12 (K.f68 hn) ?_
  refine hp_iconst (v := 1) C dX5_stop_15 (by decide) ?_
  refine hp_icmp_ne (tgt := 23) C dX5_stop_16 (by decide) (fun _ => ?_) (fun z_9 => absurd z_9 (fun z => hu ((a_ofI_eq (x := a_nd a 3 n) (y := 1) (by have := T.r3 hn; omega) (by omega)).mp z)))
  refine hp_iconst (v := 0) C dX5_stop_23 (by decide) ?_
  exact hp_callS C ml_X5_48 sm_X5_wantState (kw_sn (d := d - 1) (by omega) hR1 hR2) (by omega) dX5_stop_24 rfl rfl (by simp [Value.category]) (fun _ _ hf => hf.elim) (fun E_1 h_1 hq => hp_out C hx hq)
set_option maxRecDepth 20000 in
set_option maxHeartbeats 4000000 in
theorem kp_stop {l : Launch} {G : hpG} {pr : Nat → Prop} {B : hpT} {N S : Nat} {h : hpT} {κ : kS} {a : aS} {d : Nat} (K : KR G pr B N S h κ a) {n : Nat} (T : a_T a) (hn : n < a_mk a) (h3 : ¬ a_nd a 3 n = 2) (h0 : n ≠ 0) (hp : a_pa a n < a_mk a) (hpk : a_nd a 0 (a_pa a n) = 1) (hm : n ∈ a_rw a (a_pa a n)) (hu : a_nd a 3 n = 1) (hl : (a_ev (a_rl (a_fu a n) (a_pa a n) n (a_ix n (a_rw a (a_pa a n))) a)).length < 2 ^ 30) (hd : 45 ≤ d) : hp_C l G yX5_stop (.code yX5_stop cX5_stop 4 none) d [.ref (κ.1 5 0), .int (nI n)] (h) (fun v h' => v = none ∧ ∃ μ', KR G pr B N S h' (κ.1, μ', κ.2.2) (a_rl (a_fu a n) (a_pa a n) n (a_ix n (a_rw a (a_pa a n))) a)) (fun _ _ => False) := by
  have hb := T.kb hn
  have r2 := T.r2 hn
  have hfu : (9 : Int) ≤ (a_fu a n : Int) + a_nd a 2 n := by
    have e : a_fu a n = (9 - a_nd a 2 n).toNat := rfl
    omega
  have hfu9 : a_fu a n ≤ 9 := by
    have e : a_fu a n = (9 - a_nd a 2 n).toNat := rfl
    omega
  have hix := a_ix_ok hm
  refine hp_ofV (by decide) (by simp [Value.category]) (Nat.le_of_ble_eq_true rfl) (fun M C hr hx el => ?_)
  refine hp_aload_nR C dX5_stop_0 rfl ?_
  refine hp_iload_n C dX5_stop_1 rfl ?_
  refine hp_callV (ci := 5) C ml_X5_109 im_X5_nodeAt se_X5_nodeAt rfl (by decide) (kw_node (d := d - 1) K T hn h3 (by omega)) (by omega) dX5_stop_2 K.isT rfl rfl (by simp [Value.category]) (fun v_2 h_2 hp => ?_) (fun _ _ hf => hf.elim)
  obtain ⟨rfl, e_2⟩ := hp
  rw [e_2]
  refine hp_astore_n (r := some _) C dX5_stop_5 (by decide) ?_
  refine hp_aload_nR C dX5_stop_6 rfl ?_
  refine hp_callS C ml_X5_118 sm_X5_ownerOf (kw_owner (d := d - 1) K T hn h0) (by omega) dX5_stop_7 rfl rfl (by simp [Value.category]) (fun v_7 h_7 hp => ?_) (fun _ _ hf => hf.elim)
  obtain ⟨rfl, e_7⟩ := hp
  rw [e_7]
  refine hp_astore_n (r := some _) C dX5_stop_10 (by decide) ?_
  refine hp_aload_nR C dX5_stop_11 rfl ?_
  refine kg_N C K hn hb (by decide) fl_X5_113_2 fl_X5_113_4 dX5_stop_12 (K.f68 hn) ?_
  refine hp_iconst (v := 1) C dX5_stop_15 (by decide) ?_
  refine hp_icmp_ne (tgt := 23) C dX5_stop_16 (by decide) (fun z_9 => absurd z_9 (fun z => z (by rw [hu]; decide))) (fun _ => ?_)
  refine hp_iconst (v := 1) C dX5_stop_19 (by decide) ?_
  refine hp_goto (tgt := 24) C dX5_stop_20 (by decide) ?_
  refine hp_callS C ml_X5_48 sm_X5_wantState (kw_st (d := d - 1)) (by omega) dX5_stop_24 rfl rfl (by simp [Value.category]) (fun v_24 h_24 hp => ?_) (fun _ _ hf => hf.elim)
  obtain ⟨rfl, e_24⟩ := hp
  rw [e_24]
  refine hp_aload_nR C dX5_stop_27 rfl ?_
  refine hp_aload_nR C dX5_stop_28 rfl ?_
  refine hp_aload_nR C dX5_stop_29 rfl ?_
  refine hp_get C fl_X5_10_5 dX5_stop_30 K.isT K.f160 ?_
  refine hp_callV (ci := 2) C ml_X5_122 im_X1_release se_X1_release rfl (by decide) (kc_release (d := d - 1) (f := a_fu a n) (c := n) (t := a_ix n (a_rw a (a_pa a n))) (γ := κ.1) (μ := κ.2.1) (ρ := κ.2.2) K T hp hpk hix.1 hix.2.1 hfu (by omega) hl) (by omega) dX5_stop_33 (K.isK hp hpk) rfl rfl (by simp [Value.category]) (fun v_33 h_33 hp => ?_) (fun _ _ hf => hf.elim)
  obtain ⟨rfl, μ1, K_33⟩ := hp
  refine hp_vret C hr dX5_stop_36 ?_
  exact ⟨rfl, μ1, K_33⟩
set_option maxRecDepth 20000 in
set_option maxHeartbeats 4000000 in
theorem kp_againS {l : Launch} {G : hpG} {pr : Nat → Prop} {B : hpT} {N S : Nat} {h : hpT} {κ : kS} {a : aS} {d : Nat} (K : KR G pr B N S h κ a) {n : Nat} (T : a_T a) (hn : n < a_mk a) (h3 : ¬ a_nd a 3 n = 2) (h0 : n ≠ 0) (hp : a_pa a n < a_mk a) (hpk : a_nd a 0 (a_pa a n) = 1) (hu : a_nd a 3 n = 1) (hd : 11 ≤ d) (hR1 : hp_nx h + 1 ≤ hp_n0 G + hp_LC) (hR2 : hp_sl h + 6 ≤ hp_LS) : hp_C l G yX5_again (.code yX5_again cX5_again 4 (some .boolean)) d [.ref (κ.1 5 0), .int (nI n)] (h) (fun _ _ => False) (fun E h' => E = "java/lang/IllegalStateException" ∧ h' = hp_mkX h) := by
  have hb := T.kb hn
  refine hp_ofV (by decide) (by simp [Value.category]) (Nat.le_of_ble_eq_true rfl) (fun M C hr hx el => ?_)
  refine hp_aload_nR C dX5_again_0 rfl ?_
  refine hp_iload_n C dX5_again_1 rfl ?_
  refine hp_callV (ci := 5) C ml_X5_109 im_X5_nodeAt se_X5_nodeAt rfl (by decide) (kw_node (d := d - 1) K T hn h3 (by omega)) (by omega) dX5_again_2 K.isT rfl rfl (by simp [Value.category]) (fun v_2 h_2 hp => ?_) (fun _ _ hf => hf.elim)
  obtain ⟨rfl, e_2⟩ := hp
  rw [e_2]
  refine hp_astore_n (r := some _) C dX5_again_5 (by decide) ?_
  refine hp_aload_nR C dX5_again_6 rfl ?_
  refine hp_callS C ml_X5_118 sm_X5_ownerOf (kw_owner (d := d - 1) K T hn h0) (by omega) dX5_again_7 rfl rfl (by simp [Value.category]) (fun v_7 h_7 hp => ?_) (fun _ _ hf => hf.elim)
  obtain ⟨rfl, e_7⟩ := hp
  rw [e_7]
  refine hp_astore_n (r := some _) C dX5_again_10 (by decide) ?_
  refine hp_aload_nR C dX5_again_11 rfl ?_
  refine kg_N C K hn hb (by decide) fl_X5_113_2 fl_X5_113_4 dX5_again_12 (K.f68 hn) ?_
  refine hp_iconst (v := 1) C dX5_again_15 (by decide) ?_
  refine hp_icmp_eq (tgt := 31) C dX5_again_16 (by decide) (fun _ => ?_) (fun z_9 => absurd (by rw [hu]; decide) z_9)
  refine hp_iconst (v := 0) C dX5_again_31 (by decide) ?_
  exact hp_callS C ml_X5_48 sm_X5_wantState (kw_sn (d := d - 1) (by omega) hR1 hR2) (by omega) dX5_again_32 rfl rfl (by simp [Value.category]) (fun _ _ hf => hf.elim) (fun E_1 h_1 hq => hp_out C hx hq)
set_option maxRecDepth 20000 in
set_option maxHeartbeats 4000000 in
theorem kp_againP {l : Launch} {G : hpG} {pr : Nat → Prop} {B : hpT} {N S : Nat} {h : hpT} {κ : kS} {a : aS} {d : Nat} (K : KR G pr B N S h κ a) {n : Nat} (T : a_T a) (hn : n < a_mk a) (h3 : ¬ a_nd a 3 n = 2) (h0 : n ≠ 0) (hp : a_pa a n < a_mk a) (hpk : a_nd a 0 (a_pa a n) = 1) (hu : ¬ a_nd a 3 n = 1) (hq : ¬ a_nd a 3 (a_pa a n) = 1) (hd : 11 ≤ d) (hR1 : hp_nx h + 1 ≤ hp_n0 G + hp_LC) (hR2 : hp_sl h + 6 ≤ hp_LS) : hp_C l G yX5_again (.code yX5_again cX5_again 4 (some .boolean)) d [.ref (κ.1 5 0), .int (nI n)] (h) (fun _ _ => False) (fun E h' => E = "java/lang/IllegalStateException" ∧ h' = hp_mkX h) := by
  have hb := T.kb hn
  refine hp_ofV (by decide) (by simp [Value.category]) (Nat.le_of_ble_eq_true rfl) (fun M C hr hx el => ?_)
  refine hp_aload_nR C dX5_again_0 rfl ?_
  refine hp_iload_n C dX5_again_1 rfl ?_
  refine hp_callV (ci := 5) C ml_X5_109 im_X5_nodeAt se_X5_nodeAt rfl (by decide) (kw_node (d := d - 1) K T hn h3 (by omega)) (by omega) dX5_again_2 K.isT rfl rfl (by simp [Value.category]) (fun v_2 h_2 hp => ?_) (fun _ _ hf => hf.elim)
  obtain ⟨rfl, e_2⟩ := hp
  rw [e_2]
  refine hp_astore_n (r := some _) C dX5_again_5 (by decide) ?_
  refine hp_aload_nR C dX5_again_6 rfl ?_
  refine hp_callS C ml_X5_118 sm_X5_ownerOf (kw_owner (d := d - 1) K T hn h0) (by omega) dX5_again_7 rfl rfl (by simp [Value.category]) (fun v_7 h_7 hp => ?_) (fun _ _ hf => hf.elim)
  obtain ⟨rfl, e_7⟩ := hp
  rw [e_7]
  refine hp_astore_n (r := some _) C dX5_again_10 (by decide) ?_
  refine hp_aload_nR C dX5_again_11 rfl ?_
  refine kg_N C K hn hb (by decide) fl_X5_113_2 fl_X5_113_4 dX5_again_12 (K.f68 hn) ?_
  refine hp_iconst (v := 1) C dX5_again_15 (by decide) ?_
  refine hp_icmp_eq (tgt := 31) C dX5_again_16 (by decide) (fun z_9 => absurd z_9 (fun z => hu ((a_ofI_eq (x := a_nd a 3 n) (y := 1) (by have := T.r3 hn; omega) (by omega)).mp z))) (fun _ => ?_)
  refine hp_aload_nR C dX5_again_19 rfl ?_
  refine hp_get C fl_X5_45_2 dX5_again_20 (K.isK hp hpk) (K.f68 hp) ?_
  refine hp_iconst (v := 1) C dX5_again_23 (by decide) ?_
  refine hp_icmp_ne (tgt := 31) C dX5_again_24 (by decide) (fun _ => ?_) (fun z_9 => absurd z_9 (fun z => hq ((a_ofI_eq (x := a_nd a 3 (a_pa a n)) (y := 1) (by have := T.r3 hp; omega) (by omega)).mp z)))
  refine hp_iconst (v := 0) C dX5_again_31 (by decide) ?_
  exact hp_callS C ml_X5_48 sm_X5_wantState (kw_sn (d := d - 1) (by omega) hR1 hR2) (by omega) dX5_again_32 rfl rfl (by simp [Value.category]) (fun _ _ hf => hf.elim) (fun E_1 h_1 hq => hp_out C hx hq)
set_option maxRecDepth 20000 in
set_option maxHeartbeats 4000000 in
theorem kp_again {l : Launch} {G : hpG} {pr : Nat → Prop} {B : hpT} {N S : Nat} {h : hpT} {κ : kS} {a : aS} {d : Nat} (K : KR G pr B N S h κ a) {n : Nat} (T : a_T a) (hn : n < a_mk a) (h3 : ¬ a_nd a 3 n = 2) (h0 : n ≠ 0) (hp : a_pa a n < a_mk a) (hpk : a_nd a 0 (a_pa a n) = 1) (hu : ¬ a_nd a 3 n = 1) (hq : a_nd a 3 (a_pa a n) = 1) (hl : (a_ev (a_go (a_fu a n) n a).2).length < 2 ^ 30) (hd : 45 ≤ d) : hp_C l G yX5_again (.code yX5_again cX5_again 4 (some .boolean)) d [.ref (κ.1 5 0), .int (nI n)] (h) (fun v h' => v = some (.int (if (a_go (a_fu a n) n a).1 = true then 1 else 0)) ∧ ∃ ρ', KR G pr B N S h' (κ.1, κ.2.1, ρ') (a_go (a_fu a n) n a).2) (fun _ _ => False) := by
  have hb := T.kb hn
  have r2 := T.r2 hn
  have hfu : (9 : Int) ≤ (a_fu a n : Int) + a_nd a 2 n := by
    have e : a_fu a n = (9 - a_nd a 2 n).toNat := rfl
    omega
  have hfu9 : a_fu a n ≤ 9 := by
    have e : a_fu a n = (9 - a_nd a 2 n).toNat := rfl
    omega
  refine hp_ofV (by decide) (by simp [Value.category]) (Nat.le_of_ble_eq_true rfl) (fun M C hr hx el => ?_)
  refine hp_aload_nR C dX5_again_0 rfl ?_
  refine hp_iload_n C dX5_again_1 rfl ?_
  refine hp_callV (ci := 5) C ml_X5_109 im_X5_nodeAt se_X5_nodeAt rfl (by decide) (kw_node (d := d - 1) K T hn h3 (by omega)) (by omega) dX5_again_2 K.isT rfl rfl (by simp [Value.category]) (fun v_2 h_2 hp => ?_) (fun _ _ hf => hf.elim)
  obtain ⟨rfl, e_2⟩ := hp
  rw [e_2]
  refine hp_astore_n (r := some _) C dX5_again_5 (by decide) ?_
  refine hp_aload_nR C dX5_again_6 rfl ?_
  refine hp_callS C ml_X5_118 sm_X5_ownerOf (kw_owner (d := d - 1) K T hn h0) (by omega) dX5_again_7 rfl rfl (by simp [Value.category]) (fun v_7 h_7 hp => ?_) (fun _ _ hf => hf.elim)
  obtain ⟨rfl, e_7⟩ := hp
  rw [e_7]
  refine hp_astore_n (r := some _) C dX5_again_10 (by decide) ?_
  refine hp_aload_nR C dX5_again_11 rfl ?_
  refine kg_N C K hn hb (by decide) fl_X5_113_2 fl_X5_113_4 dX5_again_12 (K.f68 hn) ?_
  refine hp_iconst (v := 1) C dX5_again_15 (by decide) ?_
  refine hp_icmp_eq (tgt := 31) C dX5_again_16 (by decide) (fun z_9 => absurd z_9 (fun z => hu ((a_ofI_eq (x := a_nd a 3 n) (y := 1) (by have := T.r3 hn; omega) (by omega)).mp z))) (fun _ => ?_)
  refine hp_aload_nR C dX5_again_19 rfl ?_
  refine hp_get C fl_X5_45_2 dX5_again_20 (K.isK hp hpk) (K.f68 hp) ?_
  refine hp_iconst (v := 1) C dX5_again_23 (by decide) ?_
  refine hp_icmp_ne (tgt := 31) C dX5_again_24 (by decide) (fun z_9 => absurd z_9 (fun z => z (by rw [hq]; decide))) (fun _ => ?_)
  refine hp_iconst (v := 1) C dX5_again_27 (by decide) ?_
  refine hp_goto (tgt := 32) C dX5_again_28 (by decide) ?_
  refine hp_callS C ml_X5_48 sm_X5_wantState (kw_st (d := d - 1)) (by omega) dX5_again_32 rfl rfl (by simp [Value.category]) (fun v_32 h_32 hp => ?_) (fun _ _ hf => hf.elim)
  obtain ⟨rfl, e_32⟩ := hp
  rw [e_32]
  refine hp_aload_nR C dX5_again_35 rfl ?_
  refine hp_aload_nR C dX5_again_36 rfl ?_
  refine hp_get C fl_X5_10_5 dX5_again_37 K.isT K.f160 ?_
  refine hp_callN C K hn hb ul_X5_126_X1 ul_X5_126_X4 (kc_rise (a_fu a n) n a _ κ.2.2 (d - 1) (γ := κ.1) (μ := κ.2.1) K T hn hfu (by omega) hl) (by omega) dX5_again_40 rfl rfl (by simp [Value.category]) (fun v_40 h_40 hp => ?_)
  obtain ⟨rfl, ρ1, K_40⟩ := hp
  refine hp_iret C hr (by split <;> decide) dX5_again_43 ?_
  exact ⟨rfl, ρ1, K_40⟩
set_option maxRecDepth 20000 in
set_option maxHeartbeats 4000000 in
theorem kp_removeS {l : Launch} {G : hpG} {pr : Nat → Prop} {B : hpT} {N S : Nat} {h : hpT} {κ : kS} {a : aS} {d : Nat} (K : KR G pr B N S h κ a) {n : Nat} (T : a_T a) (hn : n < a_mk a) (h3 : ¬ a_nd a 3 n = 2) (h0 : n ≠ 0) (hp : a_pa a n < a_mk a) (hpk : a_nd a 0 (a_pa a n) = 1) (hu : a_nd a 3 n = 1) (hd : 11 ≤ d) (hR1 : hp_nx h + 1 ≤ hp_n0 G + hp_LC) (hR2 : hp_sl h + 6 ≤ hp_LS) : hp_C l G yX5_remove (.code yX5_remove cX5_remove 4 (some .int)) d [.ref (κ.1 5 0), .int (nI n)] (h) (fun _ _ => False) (fun E h' => E = "java/lang/IllegalStateException" ∧ h' = hp_mkX h) := by
  have hb := T.kb hn
  refine hp_ofV (by decide) (by simp [Value.category]) (Nat.le_of_ble_eq_true rfl) (fun M C hr hx el => ?_)
  refine hp_aload_nR C dX5_remove_0 rfl ?_
  refine hp_iload_n C dX5_remove_1 rfl ?_
  refine hp_callV (ci := 5) C ml_X5_109 im_X5_nodeAt se_X5_nodeAt rfl (by decide) (kw_node (d := d - 1) K T hn h3 (by omega)) (by omega) dX5_remove_2 K.isT rfl rfl (by simp [Value.category]) (fun v_2 h_2 hp => ?_) (fun _ _ hf => hf.elim)
  obtain ⟨rfl, e_2⟩ := hp
  rw [e_2]
  refine hp_astore_n (r := some _) C dX5_remove_5 (by decide) ?_
  refine hp_aload_nR C dX5_remove_6 rfl ?_
  refine hp_callS C ml_X5_118 sm_X5_ownerOf (kw_owner (d := d - 1) K T hn h0) (by omega) dX5_remove_7 rfl rfl (by simp [Value.category]) (fun v_7 h_7 hp => ?_) (fun _ _ hf => hf.elim)
  obtain ⟨rfl, e_7⟩ := hp
  rw [e_7]
  refine hp_astore_n (r := some _) C dX5_remove_10 (by decide) ?_
  refine hp_aload_nR C dX5_remove_11 rfl ?_
  refine kg_N C K hn hb (by decide) fl_X5_113_2 fl_X5_113_4 dX5_remove_12 (K.f68 hn) ?_
  refine hp_iconst (v := 1) C dX5_remove_15 (by decide) ?_
  refine hp_icmp_eq (tgt := 23) C dX5_remove_16 (by decide) (fun _ => ?_) (fun z_9 => absurd (by rw [hu]; decide) z_9)
  refine hp_iconst (v := 0) C dX5_remove_23 (by decide) ?_
  exact hp_callS C ml_X5_48 sm_X5_wantState (kw_sn (d := d - 1) (by omega) hR1 hR2) (by omega) dX5_remove_24 rfl rfl (by simp [Value.category]) (fun _ _ hf => hf.elim) (fun E_1 h_1 hq => hp_out C hx hq)
set_option maxRecDepth 20000 in
set_option maxHeartbeats 4000000 in
theorem kp_remove {l : Launch} {G : hpG} {pr : Nat → Prop} {B : hpT} {N S : Nat} {h : hpT} {κ : kS} {a : aS} {d : Nat} (K : KR G pr B N S h κ a) {n : Nat} (T : a_T a) (hn : n < a_mk a) (h3 : ¬ a_nd a 3 n = 2) (h0 : n ≠ 0) (hp : a_pa a n < a_mk a) (hpk : a_nd a 0 (a_pa a n) = 1) (hm : n ∈ a_rw a (a_pa a n)) (hu : ¬ a_nd a 3 n = 1) (hl : (a_ev a).length < 2 ^ 30) (hd : 45 ≤ d) : hp_C l G yX5_remove (.code yX5_remove cX5_remove 4 (some .int)) d [.ref (κ.1 5 0), .int (nI n)] (h) (fun v h' => v = some (.int (nI (a_dis (a_fu a n) (a_pa a n) n (a_ix n (a_rw a (a_pa a n))) a).1)) ∧ ∃ μ', KR G pr B N S h' (κ.1, μ', κ.2.2) (a_dis (a_fu a n) (a_pa a n) n (a_ix n (a_rw a (a_pa a n))) a).2) (fun _ _ => False) := by
  have hb := T.kb hn
  have r2 := T.r2 hn
  have hfu : (9 : Int) ≤ (a_fu a n : Int) + a_nd a 2 n := by
    have e : a_fu a n = (9 - a_nd a 2 n).toNat := rfl
    omega
  have hfu9 : a_fu a n ≤ 9 := by
    have e : a_fu a n = (9 - a_nd a 2 n).toNat := rfl
    omega
  have hix := a_ix_ok hm
  refine hp_ofV (by decide) (by simp [Value.category]) (Nat.le_of_ble_eq_true rfl) (fun M C hr hx el => ?_)
  refine hp_aload_nR C dX5_remove_0 rfl ?_
  refine hp_iload_n C dX5_remove_1 rfl ?_
  refine hp_callV (ci := 5) C ml_X5_109 im_X5_nodeAt se_X5_nodeAt rfl (by decide) (kw_node (d := d - 1) K T hn h3 (by omega)) (by omega) dX5_remove_2 K.isT rfl rfl (by simp [Value.category]) (fun v_2 h_2 hp => ?_) (fun _ _ hf => hf.elim)
  obtain ⟨rfl, e_2⟩ := hp
  rw [e_2]
  refine hp_astore_n (r := some _) C dX5_remove_5 (by decide) ?_
  refine hp_aload_nR C dX5_remove_6 rfl ?_
  refine hp_callS C ml_X5_118 sm_X5_ownerOf (kw_owner (d := d - 1) K T hn h0) (by omega) dX5_remove_7 rfl rfl (by simp [Value.category]) (fun v_7 h_7 hp => ?_) (fun _ _ hf => hf.elim)
  obtain ⟨rfl, e_7⟩ := hp
  rw [e_7]
  refine hp_astore_n (r := some _) C dX5_remove_10 (by decide) ?_
  refine hp_aload_nR C dX5_remove_11 rfl ?_
  refine kg_N C K hn hb (by decide) fl_X5_113_2 fl_X5_113_4 dX5_remove_12 (K.f68 hn) ?_
  refine hp_iconst (v := 1) C dX5_remove_15 (by decide) ?_
  refine hp_icmp_eq (tgt := 23) C dX5_remove_16 (by decide) (fun z_9 => absurd z_9 (fun z => hu ((a_ofI_eq (x := a_nd a 3 n) (y := 1) (by have := T.r3 hn; omega) (by omega)).mp z))) (fun _ => ?_)
  refine hp_iconst (v := 1) C dX5_remove_19 (by decide) ?_
  refine hp_goto (tgt := 24) C dX5_remove_20 (by decide) ?_
  refine hp_callS C ml_X5_48 sm_X5_wantState (kw_st (d := d - 1)) (by omega) dX5_remove_24 rfl rfl (by simp [Value.category]) (fun v_24 h_24 hp => ?_) (fun _ _ hf => hf.elim)
  obtain ⟨rfl, e_24⟩ := hp
  rw [e_24]
  refine hp_aload_nR C dX5_remove_27 rfl ?_
  refine hp_aload_nR C dX5_remove_28 rfl ?_
  refine hp_aload_nR C dX5_remove_29 rfl ?_
  refine hp_get C fl_X5_10_5 dX5_remove_30 K.isT K.f160 ?_
  refine hp_callV (ci := 2) C ml_X5_89 im_X1_dismiss se_X1_dismiss rfl (by decide) (kc_dismiss (d := d - 1) (f := a_fu a n) (c := n) (t := a_ix n (a_rw a (a_pa a n))) (γ := κ.1) (μ := κ.2.1) (ρ := κ.2.2) K T hp hpk hix.1 hix.2.1 hfu (by omega) hl) (by omega) dX5_remove_33 (K.isK hp hpk) rfl rfl (by simp [Value.category]) (fun v_33 h_33 hp => ?_) (fun _ _ hf => hf.elim)
  obtain ⟨rfl, μ1, K_33⟩ := hp
  refine hp_iret C hr rfl dX5_remove_36 ?_
  exact ⟨rfl, μ1, K_33⟩
set_option maxRecDepth 20000 in
set_option maxHeartbeats 4000000 in
theorem kp_eventX {l : Launch} {G : hpG} {pr : Nat → Prop} {B : hpT} {N S : Nat} {h : hpT} {κ : kS} {a : aS} {d : Nat} (K : KR G pr B N S h κ a) {i x : Int32} (hb : ¬ (0 ≤ x.toInt ∧ x.toInt ≤ 3)) (hd : 8 ≤ d) (hR1 : hp_nx h + 1 ≤ hp_n0 G + hp_LC) (hR2 : hp_sl h + 6 ≤ hp_LS) : hp_C l G yX5_event (.code yX5_event cX5_event 3 (some .int)) d [.ref (κ.1 5 0), .int i, .int x] (h) (fun _ _ => False) (fun E h' => E = "java/lang/IllegalArgumentException" ∧ h' = hp_mkX h) := by
  have q0 : (0 : Int32).toInt = 0 := by decide
  have q1 : (3 : Int32).toInt = 3 := by decide
  refine hp_ofV (by decide) (by simp [Value.category]) (Nat.le_of_ble_eq_true rfl) (fun M C hr hx el => ?_)
  refine hp_iload_n C dX5_event_0 rfl ?_
  refine hp_iconst (v := 0) C dX5_event_1 (by decide) ?_
  refine hp_iconst (v := 3) C dX5_event_2 (by decide) ?_
  exact hp_callS C ml_X5_65 sm_X5_wantWithin (kw_out (d := d - 1) (by omega) (by omega) hR1 hR2) (by omega) dX5_event_3 rfl rfl (by simp [Value.category]) (fun _ _ hf => hf.elim) (fun E_1 h_1 hq => hp_out C hx hq)
set_option maxRecDepth 20000 in
set_option maxHeartbeats 4000000 in
theorem kp_event {l : Launch} {G : hpG} {pr : Nat → Prop} {B : hpT} {N S : Nat} {h : hpT} {κ : kS} {a : aS} {d : Nat} (K : KR G pr B N S h κ a) {i : Int32} {j : Nat} (hj : j < 4) (hl : (a_ev a).length < 2 ^ 30) (hd : 8 ≤ d) : hp_C l G yX5_event (.code yX5_event cX5_event 3 (some .int)) d [.ref (κ.1 5 0), .int i, .int (nI j)] (h) (fun v h' => v = some (.int (a_evt a i j)) ∧ h' = h) (fun _ _ => False) := by
  have q0 : (0 : Int32).toInt = 0 := by decide
  have q1 : (3 : Int32).toInt = 3 := by decide
  refine hp_ofV (by decide) (by simp [Value.category]) (Nat.le_of_ble_eq_true rfl) (fun M C hr hx el => ?_)
  refine hp_iload_n C dX5_event_0 rfl ?_
  refine hp_iconst (v := 0) C dX5_event_1 (by decide) ?_
  refine hp_iconst (v := 3) C dX5_event_2 (by decide) ?_
  refine hp_callS C ml_X5_65 sm_X5_wantWithin (kw_in (d := d - 1) (by rw [nI_toInt (by omega)]; omega) (by rw [nI_toInt (by omega)]; omega)) (by omega) dX5_event_3 rfl rfl (by simp [Value.category]) (fun v_3 h_3 hp => ?_) (fun _ _ hf => hf.elim)
  obtain ⟨rfl, e_3⟩ := hp
  rw [e_3]
  refine hp_aload_nR C dX5_event_6 rfl ?_
  refine hp_get C fl_X5_10_5 dX5_event_7 K.isT K.f160 ?_
  refine hp_iload_n C dX5_event_10 rfl ?_
  refine hp_iload_n C dX5_event_11 rfl ?_
  refine hp_callV (ci := 1) C ml_X5_168 im_X0_told se_X0_told rfl (by decide) (kc_told (d := d - 1) K hj hl) (by omega) dX5_event_12 K.isJ rfl rfl (by simp [Value.category]) (fun v_12 h_12 hp => ?_) (fun _ _ hf => hf.elim)
  obtain ⟨rfl, e_12⟩ := hp
  rw [e_12]
  refine hp_iret C hr rfl dX5_event_15 ?_
  exact ⟨rfl, rfl⟩
