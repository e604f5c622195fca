/-! ===== the public methods at the fresh state ===== -/
/-- cells from a on are as they were; few are new -/
def hp_frm (a : Nat) (h h' : hpT) : Prop := hp_nx h ≤ hp_nx h' ∧ hp_nx h' ≤ hp_nx h + 10 ∧ hp_sl h' ≤ hp_sl h + 100 ∧ ∀ b, a ≤ b → b < hp_nx h → hp_kd h' b = hp_kd h b ∧ hp_ln h' b = hp_ln h b ∧ (∀ f, hp_fl h' f b = hp_fl h f b) ∧ hp_ar h' b = hp_ar h b
theorem kt_off_lt (f : Nat) : kt_off f < 12 := by
  unfold kt_off
  (repeat' split) <;> omega
theorem kt_frm {G : hpG} {h : hpT} {k : Nat} (s s' : ktS) : hp_frm (k + 12) (kt_w G h k s) (kt_w G h k s') := by
  refine ⟨Nat.le_refl _, Nat.le_add_right _ _, Nat.le_add_right _ _, fun b h1 h2 => ⟨rfl, rfl, fun f => ?_, ?_⟩⟩
  · have := kt_off_lt f
    rw [kt_w_fl, kt_w_fl, if_neg (by omega), if_neg (by omega)]
  · funext i
    rw [kt_w_ar, kt_w_ar, if_neg (by omega), if_neg (by omega)]
theorem hp_frm.rf {a : Nat} {h : hpT} : hp_frm a h h := ⟨Nat.le_refl _, Nat.le_add_right _ _, Nat.le_add_right _ _, fun _ _ _ => ⟨rfl, rfl, fun _ => rfl, rfl⟩⟩
theorem hp_frm_X {a : Nat} {h : hpT} : hp_frm a h (hp_mkX h) := ⟨Nat.le_succ _, by show hp_nx h + 1 ≤ _; omega, by show hp_sl h + 6 ≤ _; omega, fun b _ h2 => ⟨va_up_ne _ _ (Nat.ne_of_lt h2), rfl, fun _ => rfl, rfl⟩⟩
theorem kt_inc {i : Int32} (h : i.toInt < 1000000) : (i + Int32.ofInt 1).toInt = i.toInt + 1 := by
  have h1 : (Int32.ofInt 1).toInt = 1 := by decide
  have h2 := Int32.le_toInt i
  rw [Int32.toInt_add, h1]
  exact Int.bmod_eq_of_le (by omega) (by omega)
def ktc_sw (w hg : Int32) : Int32 := if w.toInt < 0 ∨ hg.toInt < w.toInt then 1 else 0
def kta_ab (w : Int32) : Int32 := if w = 0 then -1 else if w = 4 then 1 else if w = 7 then -1 else 0
def kta_to (w : Int32) : Int32 := if w = 1 then 1 else 0
set_option maxRecDepth 20000 in
set_option maxHeartbeats 4000000 in
theorem ktm_sz {l : Launch} {G : hpG} {h : hpT} {k d : Nat} (sh : kt_sh G h k) (rm : hp_nx h + 100 ≤ hp_n0 G + hp_LC ∧ hp_sl h + 20000 ≤ hp_LS)  : hp_C l G yJx4a65c_size_8abf5 (.code yJx4a65c_size_8abf5 cJx4a65c_size_8abf5 1 (some .int)) d [.ref (k + 9)] (kt_w G h k kt_s0) (fun v h' => v = some (.int 0) ∧ h' = kt_w G h k kt_s0) (fun _ _ => False) := by
  refine hp_ofV (by decide) (by simp [Value.category]) (Nat.le_of_ble_eq_true rfl) (fun M C hr hx el => ?_)
  refine hp_aload_nR C dJx4a65c_size_8abf5_0 rfl ?_
  refine kt_get (v := .int 0) C sh 9 fl_Jx4a65c_48_0 (by decide) rfl dJx4a65c_size_8abf5_1 ?_
  refine hp_iret C hr (by decide) dJx4a65c_size_8abf5_4 ?_
  exact ⟨rfl, rfl⟩
set_option maxRecDepth 20000 in
set_option maxHeartbeats 4000000 in
theorem ktm_nb {l : Launch} {G : hpG} {h : hpT} {k d : Nat} (sh : kt_sh G h k) (rm : hp_nx h + 100 ≤ hp_n0 G + hp_LC ∧ hp_sl h + 20000 ≤ hp_LS) {b : Int32} : hp_C l G yX3_notBefore (.code yX3_notBefore cX3_notBefore 4 (some .int)) d [.ref (k + 10), .int b] (kt_w G h k kt_s0) (fun v h' => v = some (.int 0) ∧ h' = kt_w G h k kt_s0) (fun _ _ => False) := by
  refine hp_ofV (by decide) (by simp [Value.category]) (Nat.le_of_ble_eq_true rfl) (fun M C hr hx el => ?_)
  refine hp_iconst (v := 0) C dX3_notBefore_0 (by decide) ?_
  refine hp_istore_n C dX3_notBefore_1 (by decide) ?_
  refine hp_aload_nR C dX3_notBefore_2 rfl ?_
  refine kt_get (v := .int 0) C sh 10 fl_X3_15_3 (by decide) rfl dX3_notBefore_3 ?_
  refine hp_iconst (v := 1) C dX3_notBefore_6 (by decide) ?_
  refine hp_isub C dX3_notBefore_7 ?_
  refine hp_istore_n C dX3_notBefore_8 (by decide) ?_
  refine hp_iload_n C dX3_notBefore_9 rfl ?_
  refine hp_if_lt (tgt := 32) C dX3_notBefore_10 (by decide) (fun _ => ?_) (fun z_9 => absurd z_9 (by decide))
  refine hp_iload_n C dX3_notBefore_32 rfl ?_
  refine hp_iret C hr rfl dX3_notBefore_33 ?_
  exact ⟨rfl, rfl⟩
set_option maxRecDepth 20000 in
set_option maxHeartbeats 4000000 in
theorem ktm_rr {l : Launch} {G : hpG} {h : hpT} {k d : Nat} (sh : kt_sh G h k) (rm : hp_nx h + 100 ≤ hp_n0 G + hp_LC ∧ hp_sl h + 20000 ≤ hp_LS) (hd : 1 ≤ d) : hp_C l G yX1_recentRestarts (.code yX1_recentRestarts cX1_recentRestarts 2 (some .int)) d [.ref (k + 8), .int 0] (kt_w G h k kt_s0) (fun v h' => v = some (.int 0) ∧ h' = kt_w G h k kt_s0) (fun _ _ => False) := by
  refine hp_ofV (by decide) (by simp [Value.category]) (Nat.le_of_ble_eq_true rfl) (fun M C hr hx el => ?_)
  refine hp_aload_nR C dX1_recentRestarts_0 rfl ?_
  refine kt_get (v := .ref (k + 10)) C sh 8 fl_X1_23_2 (by decide) rfl dX1_recentRestarts_1 ?_
  refine hp_iload_n C dX1_recentRestarts_4 rfl ?_
  refine hp_aload_nR C dX1_recentRestarts_5 rfl ?_
  refine kt_get (v := .int 5) C sh 8 fl_X1_34_2 (by decide) rfl dX1_recentRestarts_6 ?_
  refine hp_isub C dX1_recentRestarts_9 ?_
  refine hp_callV (ci := 3) C ml_X1_80 im_X3_notBefore se_X3_notBefore rfl (by decide) (ktm_nb (d := d - 1) sh rm) (by omega) dX1_recentRestarts_10 (sh.o 10 (by decide) rfl) rfl rfl (by simp [Value.category]) (fun v_1 h_1 hp => ?_) (fun _ _ hf => hf.elim)
  obtain ⟨rfl, rfl⟩ := hp
  refine hp_iret C hr (by decide) dX1_recentRestarts_13 ?_
  exact ⟨rfl, rfl⟩
theorem kt_same : kt_put kt_s0 97 0 = kt_s0 := by
  refine Prod.ext (funext fun f => ?_) rfl
  show va_up kt_s0.1 97 0 f = kt_s0.1 f
  by_cases e : f = 97
  · rw [e, va_up_self]
    rfl
  · rw [va_up_ne _ _ e]
set_option maxRecDepth 20000 in
set_option maxHeartbeats 4000000 in
theorem ktm_cl {l : Launch} {G : hpG} {h : hpT} {k d : Nat} (sh : kt_sh G h k) (rm : hp_nx h + 100 ≤ hp_n0 G + hp_LC ∧ hp_sl h + 20000 ≤ hp_LS)  : hp_C l G yX3_clear (.code yX3_clear cX3_clear 1 none) d [.ref (k + 10)] (kt_w G h k kt_s0) (fun v h' => v = none ∧ h' = kt_w G h k kt_s0) (fun _ _ => False) := by
  refine hp_ofV (by decide) (by simp [Value.category]) (Nat.le_of_ble_eq_true rfl) (fun M C hr hx el => ?_)
  refine hp_aload_nR C dX3_clear_0 rfl ?_
  refine hp_iconst (v := 0) C dX3_clear_1 (by decide) ?_
  refine kt_pt C sh 10 fl_X3_15_3 (by decide) (fun _ => rfl) rfl rfl rfl dX3_clear_2 ?_
  refine hp_vret C hr dX3_clear_5 ?_
  exact ⟨rfl, congrArg (kt_w G h k) kt_same⟩
set_option maxRecDepth 20000 in
set_option maxHeartbeats 4000000 in
theorem ktm_rf {l : Launch} {G : hpG} {h : hpT} {k d : Nat} (sh : kt_sh G h k) (rm : hp_nx h + 100 ≤ hp_n0 G + hp_LC ∧ hp_sl h + 20000 ≤ hp_LS) (hd : 1 ≤ d) : hp_C l G yX1_riseFrom (.code yX1_riseFrom cX1_riseFrom 5 (some (.object "KeeperTree$Node"))) d [.ref (k + 8), .int 0, .ref (k + 1)] (kt_w G h k kt_s0) (fun v h' => v = some .null ∧ h' = kt_w G h k kt_s0) (fun _ _ => False) := by
  refine hp_ofV (by decide) (by simp [Value.category]) (Nat.le_of_ble_eq_true rfl) (fun M C hr hx el => ?_)
  refine hp_iconst (v := 0) C dX1_riseFrom_0 (by decide) ?_
  refine hp_iload_n C dX1_riseFrom_1 rfl ?_
  refine hp_mmax (v := 0) C mx_X1_106 (by omega) (by simp [Value.category]) dX1_riseFrom_2 (by decide) ?_
  refine hp_istore_n C dX1_riseFrom_5 (by decide) ?_
  refine hp_iload_n C dX1_riseFrom_6 rfl ?_
  refine hp_aload_nR C dX1_riseFrom_7 rfl ?_
  refine kt_get (v := .ref (k + 9)) C sh 8 fl_X1_14_2 (by decide) rfl dX1_riseFrom_8 ?_
  refine hp_callV (ci := 0) C ml_X1_64 im_Jx4a65c_size_8abf5 se_Jx4a65c_size_8abf5 rfl (by decide) (ktm_sz (d := d - 1) sh rm) (by omega) dX1_riseFrom_11 (sh.o 9 (by decide) rfl) rfl rfl (by simp [Value.category]) (fun v_1 h_1 hp => ?_) (fun _ _ hf => hf.elim)
  obtain ⟨rfl, rfl⟩ := hp
  refine hp_icmp_ge (tgt := 48) C dX1_riseFrom_14 (by decide) (fun _ => ?_) (fun z_9 => absurd z_9 (by decide))
  refine hp_null C dX1_riseFrom_48 ?_
  refine hp_aret (r := none) C hr (Or.inl ⟨_, rfl⟩) dX1_riseFrom_49 ?_
  exact ⟨rfl, rfl⟩
set_option maxRecDepth 20000 in
set_option maxHeartbeats 4000000 in
theorem ktm_te {l : Launch} {G : hpG} {h : hpT} {k d : Nat} (sh : kt_sh G h k) (rm : hp_nx h + 100 ≤ hp_n0 G + hp_LC ∧ hp_sl h + 20000 ≤ hp_LS) {a b c : Int32} : hp_C l G yX0_tell (.code yX0_tell cX0_tell 4 none) d [.ref (k + 1), .int a, .int b, .int c] (kt_w G h k (kt_put kt_s0 68 1)) (fun v h' => v = none ∧ ∃ s', h' = kt_w G h k s') (fun _ _ => False) := by
  refine hp_ofV (by decide) (by simp [Value.category]) (Nat.le_of_ble_eq_true rfl) (fun M C hr hx el => ?_)
  refine hp_aload_nR C dX0_tell_0 rfl ?_
  refine kt_get (v := .int 0) C sh 1 fl_X0_20_1 (by decide) rfl dX0_tell_1 ?_
  refine hp_sipush (v := 600) C dX0_tell_4 (by decide) ?_
  refine hp_icmp_ge (tgt := 61) C dX0_tell_7 (by decide) (fun z_9 => absurd z_9 (by decide)) (fun _ => ?_)
  refine hp_aload_nR C dX0_tell_10 rfl ?_
  refine kt_get (v := .ref (k + 2)) C sh 1 fl_X0_13_1 (by decide) rfl dX0_tell_11 ?_
  refine hp_iconst (v := 0) C dX0_tell_14 (by decide) ?_
  refine kt_col C sh 0 dX0_tell_15 rfl (by unfold vp_in; decide) ?_
  refine hp_aload_nR C dX0_tell_16 rfl ?_
  refine kt_get (v := .int 0) C sh 1 fl_X0_20_1 (by decide) rfl dX0_tell_17 ?_
  refine hp_iload_n C dX0_tell_20 rfl ?_
  refine kt_ast C sh 3 (by decide) dX0_tell_21 (by unfold vp_in; decide) ?_
  refine hp_aload_nR C dX0_tell_22 rfl ?_
  refine kt_get (v := .ref (k + 2)) C sh 1 fl_X0_13_1 (by decide) rfl dX0_tell_23 ?_
  refine hp_iconst (v := 1) C dX0_tell_26 (by decide) ?_
  refine kt_col C sh 1 dX0_tell_27 rfl (by unfold vp_in; decide) ?_
  refine hp_aload_nR C dX0_tell_28 rfl ?_
  refine kt_get (v := .int 0) C sh 1 fl_X0_20_1 (by decide) rfl dX0_tell_29 ?_
  refine hp_iload_n C dX0_tell_32 rfl ?_
  refine kt_ast C sh 4 (by decide) dX0_tell_33 (by unfold vp_in; decide) ?_
  refine hp_aload_nR C dX0_tell_34 rfl ?_
  refine kt_get (v := .ref (k + 2)) C sh 1 fl_X0_13_1 (by decide) rfl dX0_tell_35 ?_
  refine hp_iconst (v := 2) C dX0_tell_38 (by decide) ?_
  refine kt_col C sh 2 dX0_tell_39 rfl (by unfold vp_in; decide) ?_
  refine hp_aload_nR C dX0_tell_40 rfl ?_
  refine kt_get (v := .int 0) C sh 1 fl_X0_20_1 (by decide) rfl dX0_tell_41 ?_
  refine hp_aload_nR C dX0_tell_44 rfl ?_
  refine kt_get (v := .int 0) C sh 1 fl_X0_16_1 (by decide) rfl dX0_tell_45 ?_
  refine kt_ast C sh 5 (by decide) dX0_tell_48 (by unfold vp_in; decide) ?_
  refine hp_aload_nR C dX0_tell_49 rfl ?_
  refine kt_get (v := .ref (k + 2)) C sh 1 fl_X0_13_1 (by decide) rfl dX0_tell_50 ?_
  refine hp_iconst (v := 3) C dX0_tell_53 (by decide) ?_
  refine kt_col C sh 3 dX0_tell_54 rfl (by unfold vp_in; decide) ?_
  refine hp_aload_nR C dX0_tell_55 rfl ?_
  refine kt_get (v := .int 0) C sh 1 fl_X0_20_1 (by decide) rfl dX0_tell_56 ?_
  refine hp_iload_n C dX0_tell_59 rfl ?_
  refine kt_ast C sh 6 (by decide) dX0_tell_60 (by unfold vp_in; decide) ?_
  refine hp_aload_nR C dX0_tell_61 rfl ?_
  refine hp_dup C dX0_tell_62 rfl ?_
  refine kt_get (v := .int 0) C sh 1 fl_X0_20_1 (by decide) rfl dX0_tell_63 ?_
  refine hp_iconst (v := 1) C dX0_tell_66 (by decide) ?_
  refine hp_iadd C dX0_tell_67 ?_
  refine kt_pt C sh 1 fl_X0_20_1 (by decide) (fun _ => rfl) rfl rfl rfl dX0_tell_68 ?_
  refine hp_vret C hr dX0_tell_71 ?_
  exact ⟨rfl, _, rfl⟩
set_option maxRecDepth 20000 in
set_option maxHeartbeats 4000000 in
theorem ktm_se {l : Launch} {G : hpG} {h : hpT} {k d : Nat} (sh : kt_sh G h k) (rm : hp_nx h + 100 ≤ hp_n0 G + hp_LC ∧ hp_sl h + 20000 ≤ hp_LS) (hd : 1 ≤ d) : hp_C l G yX2_settle (.code yX2_settle cX2_settle 3 (some .boolean)) d [.ref (k + 8), .int 0, .ref (k + 1)] (kt_w G h k kt_s0) (fun v h' => v = some (.int 1) ∧ ∃ s', h' = kt_w G h k s') (fun _ _ => False) := by
  refine hp_ofV (by decide) (by simp [Value.category]) (Nat.le_of_ble_eq_true rfl) (fun M C hr hx el => ?_)
  refine hp_aload_nR C dX2_settle_0 rfl ?_
  refine hp_iload_n C dX2_settle_1 rfl ?_
  refine hp_if_eq (tgt := 9) C dX2_settle_2 (by decide) (fun _ => ?_) (fun z_9 => absurd z_9 (by decide))
  refine hp_iconst (v := 1) C dX2_settle_9 (by decide) ?_
  refine kt_pt C sh 8 fl_X2_9_2 (by decide) (fun _ => rfl) rfl rfl rfl dX2_settle_10 ?_
  refine hp_aload_nR C dX2_settle_13 rfl ?_
  refine hp_iload_n C dX2_settle_14 rfl ?_
  refine hp_if_eq (tgt := 22) C dX2_settle_15 (by decide) (fun _ => ?_) (fun z_9 => absurd z_9 (by decide))
  refine hp_iconst (v := 1) C dX2_settle_22 (by decide) ?_
  refine hp_aload_nR C dX2_settle_23 rfl ?_
  refine kt_get (v := .int 0) C sh 8 fl_X2_15_2 (by decide) rfl dX2_settle_24 ?_
  refine hp_iconst (v := 0) C dX2_settle_27 (by decide) ?_
  refine hp_callV (ci := 1) C ml_X2_31 im_X0_tell se_X0_tell rfl (by decide) (ktm_te (d := d - 1) sh rm) (by omega) dX2_settle_28 (sh.o 1 (by decide) rfl) rfl rfl (by simp [Value.category]) (fun v_1 h_1 hp => ?_) (fun _ _ hf => hf.elim)
  obtain ⟨rfl, s_1, rfl⟩ := hp
  refine hp_iload_n C dX2_settle_31 rfl ?_
  refine hp_if_ne (tgt := 39) C dX2_settle_32 (by decide) (fun z_9 => absurd z_9 (by decide)) (fun _ => ?_)
  refine hp_iconst (v := 1) C dX2_settle_35 (by decide) ?_
  refine hp_goto (tgt := 40) C dX2_settle_36 (by decide) ?_
  refine hp_iret C hr (by decide) dX2_settle_40 ?_
  exact ⟨rfl, _, rfl⟩
set_option maxRecDepth 20000 in
set_option maxHeartbeats 4000000 in
theorem ktm_ri {l : Launch} {G : hpG} {h : hpT} {k d : Nat} (sh : kt_sh G h k) (rm : hp_nx h + 100 ≤ hp_n0 G + hp_LC ∧ hp_sl h + 20000 ≤ hp_LS) (hd : 3 ≤ d) : hp_C l G yX1_rise (.code yX1_rise cX1_rise 3 (some .boolean)) d [.ref (k + 8), .ref (k + 1)] (kt_w G h k kt_s0) (fun v h' => v = some (.int 1) ∧ ∃ s', h' = kt_w G h k s') (fun _ _ => False) := by
  refine hp_ofV (by decide) (by simp [Value.category]) (Nat.le_of_ble_eq_true rfl) (fun M C hr hx el => ?_)
  refine hp_aload_nR C dX1_rise_0 rfl ?_
  refine kt_get (v := .ref (k + 10)) C sh 8 fl_X1_23_2 (by decide) rfl dX1_rise_1 ?_
  refine hp_callV (ci := 3) C ml_X1_37 im_X3_clear se_X3_clear rfl (by decide) (ktm_cl (d := d - 1) sh rm) (by omega) dX1_rise_4 (sh.o 10 (by decide) rfl) rfl rfl (by simp [Value.category]) (fun v_1 h_1 hp => ?_) (fun _ _ hf => hf.elim)
  obtain ⟨rfl, rfl⟩ := hp
  refine hp_aload_nR C dX1_rise_7 rfl ?_
  refine hp_iconst (v := 0) C dX1_rise_8 (by decide) ?_
  refine hp_aload_nR C dX1_rise_9 rfl ?_
  refine hp_callV (ci := 2) C ml_X1_40 im_X1_riseFrom se_X1_riseFrom rfl (by decide) (ktm_rf (d := d - 1) sh rm (by omega)) (by omega) dX1_rise_10 (sh.o 8 (by decide) rfl) rfl rfl (by simp [Value.category]) (fun v_1 h_1 hp => ?_) (fun _ _ hf => hf.elim)
  obtain ⟨rfl, rfl⟩ := hp
  refine hp_ifnull (r := none) (tgt := 20) C dX1_rise_13 (by decide) (fun _ => ?_) (fun _ hx_ => by cases hx_)
  refine hp_iconst (v := 0) C dX1_rise_20 (by decide) ?_
  refine hp_istore_n C dX1_rise_21 (by decide) ?_
  refine hp_iload_n C dX1_rise_22 rfl ?_
  refine hp_if_eq (tgt := 31) C dX1_rise_23 (by decide) (fun _ => ?_) (fun z_9 => absurd z_9 (by decide))
  refine hp_aload_nR C dX1_rise_31 rfl ?_
  refine hp_iload_n C dX1_rise_32 rfl ?_
  refine hp_aload_nR C dX1_rise_33 rfl ?_
  refine hp_callU C 2 ul_X1_48_X1 rfl (by decide) (ktm_se (d := d - 1) sh rm (by omega)) (by omega) dX1_rise_34 (sh.o 8 (by decide) rfl) rfl rfl (by simp [Value.category]) (fun v_1 h_1 hp => ?_)
  obtain ⟨rfl, s_1, rfl⟩ := hp
  refine hp_iret C hr (by decide) dX1_rise_37 ?_
  exact ⟨rfl, _, rfl⟩
set_option maxRecDepth 20000 in
set_option maxHeartbeats 4000000 in
theorem ktp_first {l : Launch} {G : hpG} {h : hpT} {k d : Nat} (sh : kt_sh G h k) (rm : hp_nx h + 100 ≤ hp_n0 G + hp_LC ∧ hp_sl h + 20000 ≤ hp_LS) {a r t : Int32} (hd : 12 ≤ d) : hp_C l G yX5_first (.code yX5_first cX5_first 4 none) d [.ref k, .int a, .int r, .int t] (kt_w G h k kt_s0) (fun v h' => ktc_bd a r t = 0 ∧ v = none ∧ hp_frm (k + 12) (kt_w G h k kt_s0) h') (kt_X (ktc_bd a r t) (kt_w G h k kt_s0)) := by
  refine hp_ofV (by decide) (by simp [Value.category]) (Nat.le_of_ble_eq_true rfl) (fun M C hr hx el => ?_)
  refine hp_iload_n C dX5_first_0 rfl ?_
  refine hp_iload_n C dX5_first_1 rfl ?_
  refine hp_iload_n C dX5_first_2 rfl ?_
  refine hp_callS C ml_X5_41 sm_X5_wantBounds (ktm_bd (d := d - 1) (by omega) rm) (by omega) dX5_first_3 rfl rfl (by simp [Value.category]) (fun v_1 h_1 hp => ?_) (fun E_1 h_1 hq => hp_out C hx (kt_to hq (fun q_9 => by simp only [kt_sq, if_true, if_false, *])))
  obtain ⟨e_3, rfl, rfl⟩ := hp
  refine hp_aload_nR C dX5_first_6 rfl ?_
  refine kt_get (v := .ref (k + 8)) C sh 0 fl_X5_27_5 (by decide) rfl dX5_first_7 ?_
  refine kt_get (v := .int 0) C sh 8 fl_X5_45_2 (by decide) rfl dX5_first_10 ?_
  refine hp_iconst (v := 1) C dX5_first_13 (by decide) ?_
  refine hp_icmp_eq (tgt := 21) C dX5_first_14 (by decide) (fun z_9 => absurd z_9 (by decide)) (fun _ => ?_)
  refine hp_iconst (v := 1) C dX5_first_17 (by decide) ?_
  refine hp_goto (tgt := 22) C dX5_first_18 (by decide) ?_
  refine hp_callS C ml_X5_48 sm_X5_wantState (ktm_st (d := d - 1) (by omega) rm) (by omega) dX5_first_22 rfl rfl (by simp [Value.category]) (fun v_1 h_1 hp => ?_) (fun E_1 h_1 hq => hp_out C hx (kt_to hq (fun q_9 => absurd (by decide) q_9)))
  obtain ⟨e_22, rfl, rfl⟩ := hp
  refine hp_aload_nR C dX5_first_25 rfl ?_
  refine kt_get (v := .ref (k + 8)) C sh 0 fl_X5_27_5 (by decide) rfl dX5_first_26 ?_
  refine hp_iload_n C dX5_first_29 rfl ?_
  refine kt_pt C sh 8 fl_X5_52_2 (by decide) (fun _ => rfl) rfl rfl rfl dX5_first_30 ?_
  refine hp_aload_nR C dX5_first_33 rfl ?_
  refine kt_get (v := .ref (k + 8)) C sh 0 fl_X5_27_5 (by decide) rfl dX5_first_34 ?_
  refine hp_iload_n C dX5_first_37 rfl ?_
  refine kt_pt C sh 8 fl_X5_55_2 (by decide) (fun _ => rfl) rfl rfl rfl dX5_first_38 ?_
  refine hp_aload_nR C dX5_first_41 rfl ?_
  refine kt_get (v := .ref (k + 8)) C sh 0 fl_X5_27_5 (by decide) rfl dX5_first_42 ?_
  refine hp_iload_n C dX5_first_45 rfl ?_
  refine kt_pt C sh 8 fl_X5_58_2 (by decide) (fun _ => rfl) rfl rfl rfl dX5_first_46 ?_
  refine hp_vret C hr dX5_first_49 ?_
  exact ⟨e_3, rfl, kt_frm _ _⟩
set_option maxRecDepth 20000 in
set_option maxHeartbeats 4000000 in
theorem ktp_failing {l : Launch} {G : hpG} {h : hpT} {k d : Nat} (sh : kt_sh G h k) (rm : hp_nx h + 100 ≤ hp_n0 G + hp_LC ∧ hp_sl h + 20000 ≤ hp_LS) {n f : Int32} (hd : 12 ≤ d) : hp_C l G yX5_failing (.code yX5_failing cX5_failing 5 (some .int)) d [.ref k, .int n, .int f] (kt_w G h k kt_s0) (fun v h' => kt_sq (ktc_no n) 1 = 0 ∧ v = none ∧ hp_frm (k + 12) (kt_w G h k kt_s0) h') (kt_X (kt_sq (ktc_no n) 1) (kt_w G h k kt_s0)) := by
  refine hp_ofV (by decide) (by simp [Value.category]) (Nat.le_of_ble_eq_true rfl) (fun M C hr hx el => ?_)
  refine hp_aload_nR C dX5_failing_0 rfl ?_
  refine hp_iload_n C dX5_failing_1 rfl ?_
  refine hp_callV (ci := 5) C ml_X5_94 im_X5_workerAt se_X5_workerAt rfl (by decide) (ktm_wo (d := d - 1) sh rm (by omega)) (by omega) dX5_failing_2 (sh.o 0 (by decide) rfl) rfl rfl (by simp [Value.category]) (fun v_1 h_1 hp => ?_) (fun E_1 h_1 hq => hp_out C hx (kt_to hq (fun q_9 => by simp only [kt_sq, if_true, if_false, *])))
  obtain ⟨e_2, rfl, rfl⟩ := hp
  exact absurd e_2 (by intro q_8; unfold kt_sq at q_8; split at q_8 <;> first | exact absurd q_8 (by decide) | contradiction)
set_option maxRecDepth 20000 in
set_option maxHeartbeats 4000000 in
theorem ktp_begin {l : Launch} {G : hpG} {h : hpT} {k d : Nat} (sh : kt_sh G h k) (rm : hp_nx h + 100 ≤ hp_n0 G + hp_LC ∧ hp_sl h + 20000 ≤ hp_LS) (hd : 12 ≤ d) : hp_C l G yX5_begin (.code yX5_begin cX5_begin 1 (some .boolean)) d [.ref k] (kt_w G h k kt_s0) (fun v h' => (0 : Int32) = 0 ∧ v = some (.int 1) ∧ hp_frm (k + 12) (kt_w G h k kt_s0) h') (kt_X ((0 : Int32)) (kt_w G h k kt_s0)) := by
  refine hp_ofV (by decide) (by simp [Value.category]) (Nat.le_of_ble_eq_true rfl) (fun M C hr hx el => ?_)
  refine hp_aload_nR C dX5_begin_0 rfl ?_
  refine kt_get (v := .ref (k + 8)) C sh 0 fl_X5_27_5 (by decide) rfl dX5_begin_1 ?_
  refine kt_get (v := .int 0) C sh 8 fl_X5_45_2 (by decide) rfl dX5_begin_4 ?_
  refine hp_iconst (v := 1) C dX5_begin_7 (by decide) ?_
  refine hp_icmp_eq (tgt := 15) C dX5_begin_8 (by decide) (fun z_9 => absurd z_9 (by decide)) (fun _ => ?_)
  refine hp_iconst (v := 1) C dX5_begin_11 (by decide) ?_
  refine hp_goto (tgt := 16) C dX5_begin_12 (by decide) ?_
  refine hp_callS C ml_X5_48 sm_X5_wantState (ktm_st (d := d - 1) (by omega) rm) (by omega) dX5_begin_16 rfl rfl (by simp [Value.category]) (fun v_1 h_1 hp => ?_) (fun E_1 h_1 hq => hp_out C hx (kt_to hq (fun q_9 => absurd (by decide) q_9)))
  obtain ⟨e_16, rfl, rfl⟩ := hp
  refine hp_aload_nR C dX5_begin_19 rfl ?_
  refine kt_get (v := .ref (k + 8)) C sh 0 fl_X5_27_5 (by decide) rfl dX5_begin_20 ?_
  refine hp_aload_nR C dX5_begin_23 rfl ?_
  refine kt_get (v := .ref (k + 1)) C sh 0 fl_X5_10_5 (by decide) rfl dX5_begin_24 ?_
  refine hp_callV (ci := 2) C ml_X5_76 im_X1_rise se_X1_rise rfl (by decide) (ktm_ri (d := d - 1) sh rm (by omega)) (by omega) dX5_begin_27 (sh.o 8 (by decide) rfl) rfl rfl (by simp [Value.category]) (fun v_1 h_1 hp => ?_) (fun _ _ hf => hf.elim)
  obtain ⟨rfl, s_1, rfl⟩ := hp
  refine hp_iret C hr (by decide) dX5_begin_30 ?_
  exact ⟨rfl, rfl, kt_frm _ _⟩
set_option maxRecDepth 20000 in
set_option maxHeartbeats 4000000 in
theorem ktp_ends {l : Launch} {G : hpG} {h : hpT} {k d : Nat} (sh : kt_sh G h k) (rm : hp_nx h + 100 ≤ hp_n0 G + hp_LC ∧ hp_sl h + 20000 ≤ hp_LS) {n f : Int32} (hd : 12 ≤ d) : hp_C l G yX5_ends (.code yX5_ends cX5_ends 4 none) d [.ref k, .int n, .int f] (kt_w G h k kt_s0) (fun v h' => kt_sq (ktc_no n) 1 = 0 ∧ v = none ∧ hp_frm (k + 12) (kt_w G h k kt_s0) h') (kt_X (kt_sq (ktc_no n) 1) (kt_w G h k kt_s0)) := by
  refine hp_ofV (by decide) (by simp [Value.category]) (Nat.le_of_ble_eq_true rfl) (fun M C hr hx el => ?_)
  refine hp_aload_nR C dX5_ends_0 rfl ?_
  refine hp_iload_n C dX5_ends_1 rfl ?_
  refine hp_callV (ci := 5) C ml_X5_94 im_X5_workerAt se_X5_workerAt rfl (by decide) (ktm_wo (d := d - 1) sh rm (by omega)) (by omega) dX5_ends_2 (sh.o 0 (by decide) rfl) rfl rfl (by simp [Value.category]) (fun v_1 h_1 hp => ?_) (fun E_1 h_1 hq => hp_out C hx (kt_to hq (fun q_9 => by simp only [kt_sq, if_true, if_false, *])))
  obtain ⟨e_2, rfl, rfl⟩ := hp
  exact absurd e_2 (by intro q_8; unfold kt_sq at q_8; split at q_8 <;> first | exact absurd q_8 (by decide) | contradiction)
set_option maxRecDepth 20000 in
set_option maxHeartbeats 4000000 in
theorem ktp_kill {l : Launch} {G : hpG} {h : hpT} {k d : Nat} (sh : kt_sh G h k) (rm : hp_nx h + 100 ≤ hp_n0 G + hp_LC ∧ hp_sl h + 20000 ≤ hp_LS) {n : Int32} (hd : 12 ≤ d) : hp_C l G yX5_kill (.code yX5_kill cX5_kill 4 (some .int)) d [.ref k, .int n] (kt_w G h k kt_s0) (fun v h' => kt_sq (ktc_no n) (ktc_st 0) = 0 ∧ v = none ∧ hp_frm (k + 12) (kt_w G h k kt_s0) h') (kt_X (kt_sq (ktc_no n) (ktc_st 0)) (kt_w G h k kt_s0)) := by
  refine hp_ofV (by decide) (by simp [Value.category]) (Nat.le_of_ble_eq_true rfl) (fun M C hr hx el => ?_)
  refine hp_aload_nR C dX5_kill_0 rfl ?_
  refine hp_iload_n C dX5_kill_1 rfl ?_
  refine hp_callV (ci := 5) C ml_X5_109 im_X5_nodeAt se_X5_nodeAt rfl (by decide) (ktm_no (d := d - 1) sh rm (by omega)) (by omega) dX5_kill_2 (sh.o 0 (by decide) rfl) rfl rfl (by simp [Value.category]) (fun v_1 h_1 hp => ?_) (fun E_1 h_1 hq => hp_out C hx (kt_to hq (fun q_9 => by simp only [kt_sq, if_true, if_false, *])))
  obtain ⟨e_2, rfl, rfl⟩ := hp
  refine hp_astore_n (r := some _) C dX5_kill_5 (by decide) ?_
  refine hp_aload_nR C dX5_kill_6 rfl ?_
  refine kt_get (v := .int 0) C sh 8 fl_X5_113_2 (by decide) rfl dX5_kill_7 ?_
  refine hp_iconst (v := 1) C dX5_kill_10 (by decide) ?_
  refine hp_icmp_ne (tgt := 18) C dX5_kill_11 (by decide) (fun _ => ?_) (fun z_9 => absurd z_9 (by decide))
  refine hp_iconst (v := 0) C dX5_kill_18 (by decide) ?_
  refine hp_callS C ml_X5_48 sm_X5_wantState (ktm_st (d := d - 1) (by omega) rm) (by omega) dX5_kill_19 rfl rfl (by simp [Value.category]) (fun v_1 h_1 hp => ?_) (fun E_1 h_1 hq => hp_out C hx (kt_to hq (fun q_9 => by simp only [kt_sq, if_true, if_false, *])))
  obtain ⟨e_19, rfl, rfl⟩ := hp
  exact absurd e_19 (by decide)
set_option maxRecDepth 20000 in
set_option maxHeartbeats 4000000 in
theorem ktp_stop {l : Launch} {G : hpG} {h : hpT} {k d : Nat} (sh : kt_sh G h k) (rm : hp_nx h + 100 ≤ hp_n0 G + hp_LC ∧ hp_sl h + 20000 ≤ hp_LS) {n : Int32} (hd : 12 ≤ d) : hp_C l G yX5_stop (.code yX5_stop cX5_stop 4 none) d [.ref k, .int n] (kt_w G h k kt_s0) (fun v h' => kt_sq (ktc_no n) 1 = 0 ∧ v = none ∧ hp_frm (k + 12) (kt_w G h k kt_s0) h') (kt_X (kt_sq (ktc_no n) 1) (kt_w G h k kt_s0)) := by
  refine hp_ofV (by decide) (by simp [Value.category]) (Nat.le_of_ble_eq_true rfl) (fun M C hr hx el => ?_)
  refine hp_aload_nR C dX5_stop_0 rfl ?_
  refine hp_iload_n C dX5_stop_1 rfl ?_
  refine hp_callV (ci := 5) C ml_X5_109 im_X5_nodeAt se_X5_nodeAt rfl (by decide) (ktm_no (d := d - 1) sh rm (by omega)) (by omega) dX5_stop_2 (sh.o 0 (by decide) rfl) rfl rfl (by simp [Value.category]) (fun v_1 h_1 hp => ?_) (fun E_1 h_1 hq => hp_out C hx (kt_to hq (fun q_9 => by simp only [kt_sq, if_true, if_false, *])))
  obtain ⟨e_2, rfl, rfl⟩ := hp
  refine hp_astore_n (r := some _) C dX5_stop_5 (by decide) ?_
  refine hp_aload_nR C dX5_stop_6 rfl ?_
  refine hp_callS C ml_X5_118 sm_X5_ownerOf (ktm_ow (d := d - 1) sh rm (by omega)) (by omega) dX5_stop_7 rfl rfl (by simp [Value.category]) (fun v_1 h_1 hp => ?_) (fun E_1 h_1 hq => hp_out C hx (kt_to hq (fun q_9 => by simp only [kt_sq, if_true, if_false, *])))
  obtain ⟨e_7, rfl, rfl⟩ := hp
  exact absurd e_7 (by decide)
set_option maxRecDepth 20000 in
set_option maxHeartbeats 4000000 in
theorem ktp_again {l : Launch} {G : hpG} {h : hpT} {k d : Nat} (sh : kt_sh G h k) (rm : hp_nx h + 100 ≤ hp_n0 G + hp_LC ∧ hp_sl h + 20000 ≤ hp_LS) {n : Int32} (hd : 12 ≤ d) : hp_C l G yX5_again (.code yX5_again cX5_again 4 (some .boolean)) d [.ref k, .int n] (kt_w G h k kt_s0) (fun v h' => kt_sq (ktc_no n) 1 = 0 ∧ v = none ∧ hp_frm (k + 12) (kt_w G h k kt_s0) h') (kt_X (kt_sq (ktc_no n) 1) (kt_w G h k kt_s0)) := by
  refine hp_ofV (by decide) (by simp [Value.category]) (Nat.le_of_ble_eq_true rfl) (fun M C hr hx el => ?_)
  refine hp_aload_nR C dX5_again_0 rfl ?_
  refine hp_iload_n C dX5_again_1 rfl ?_
  refine hp_callV (ci := 5) C ml_X5_109 im_X5_nodeAt se_X5_nodeAt rfl (by decide) (ktm_no (d := d - 1) sh rm (by omega)) (by omega) dX5_again_2 (sh.o 0 (by decide) rfl) rfl rfl (by simp [Value.category]) (fun v_1 h_1 hp => ?_) (fun E_1 h_1 hq => hp_out C hx (kt_to hq (fun q_9 => by simp only [kt_sq, if_true, if_false, *])))
  obtain ⟨e_2, rfl, rfl⟩ := hp
  refine hp_astore_n (r := some _) C dX5_again_5 (by decide) ?_
  refine hp_aload_nR C dX5_again_6 rfl ?_
  refine hp_callS C ml_X5_118 sm_X5_ownerOf (ktm_ow (d := d - 1) sh rm (by omega)) (by omega) dX5_again_7 rfl rfl (by simp [Value.category]) (fun v_1 h_1 hp => ?_) (fun E_1 h_1 hq => hp_out C hx (kt_to hq (fun q_9 => by simp only [kt_sq, if_true, if_false, *])))
  obtain ⟨e_7, rfl, rfl⟩ := hp
  exact absurd e_7 (by decide)
set_option maxRecDepth 20000 in
set_option maxHeartbeats 4000000 in
theorem ktp_remove {l : Launch} {G : hpG} {h : hpT} {k d : Nat} (sh : kt_sh G h k) (rm : hp_nx h + 100 ≤ hp_n0 G + hp_LC ∧ hp_sl h + 20000 ≤ hp_LS) {n : Int32} (hd : 12 ≤ d) : hp_C l G yX5_remove (.code yX5_remove cX5_remove 4 (some .int)) d [.ref k, .int n] (kt_w G h k kt_s0) (fun v h' => kt_sq (ktc_no n) 1 = 0 ∧ v = none ∧ hp_frm (k + 12) (kt_w G h k kt_s0) h') (kt_X (kt_sq (ktc_no n) 1) (kt_w G h k kt_s0)) := by
  refine hp_ofV (by decide) (by simp [Value.category]) (Nat.le_of_ble_eq_true rfl) (fun M C hr hx el => ?_)
  refine hp_aload_nR C dX5_remove_0 rfl ?_
  refine hp_iload_n C dX5_remove_1 rfl ?_
  refine hp_callV (ci := 5) C ml_X5_109 im_X5_nodeAt se_X5_nodeAt rfl (by decide) (ktm_no (d := d - 1) sh rm (by omega)) (by omega) dX5_remove_2 (sh.o 0 (by decide) rfl) rfl rfl (by simp [Value.category]) (fun v_1 h_1 hp => ?_) (fun E_1 h_1 hq => hp_out C hx (kt_to hq (fun q_9 => by simp only [kt_sq, if_true, if_false, *])))
  obtain ⟨e_2, rfl, rfl⟩ := hp
  refine hp_astore_n (r := some _) C dX5_remove_5 (by decide) ?_
  refine hp_aload_nR C dX5_remove_6 rfl ?_
  refine hp_callS C ml_X5_118 sm_X5_ownerOf (ktm_ow (d := d - 1) sh rm (by omega)) (by omega) dX5_remove_7 rfl rfl (by simp [Value.category]) (fun v_1 h_1 hp => ?_) (fun E_1 h_1 hq => hp_out C hx (kt_to hq (fun q_9 => by simp only [kt_sq, if_true, if_false, *])))
  obtain ⟨e_7, rfl, rfl⟩ := hp
  exact absurd e_7 (by decide)
set_option maxRecDepth 20000 in
set_option maxHeartbeats 4000000 in
theorem ktp_pass {l : Launch} {G : hpG} {h : hpT} {k d : Nat} (sh : kt_sh G h k) (rm : hp_nx h + 100 ≤ hp_n0 G + hp_LC ∧ hp_sl h + 20000 ≤ hp_LS) {n : Int32} (hd : 12 ≤ d) : hp_C l G yX5_pass (.code yX5_pass cX5_pass 2 (some .int)) d [.ref k, .int n] (kt_w G h k kt_s0) (fun v h' => ktc_in n 0 10000 = 0 ∧ v = some (.int (0 + n)) ∧ hp_frm (k + 12) (kt_w G h k kt_s0) h') (kt_X (ktc_in n 0 10000) (kt_w G h k kt_s0)) := by
  refine hp_ofV (by decide) (by simp [Value.category]) (Nat.le_of_ble_eq_true rfl) (fun M C hr hx el => ?_)
  refine hp_iload_n C dX5_pass_0 rfl ?_
  refine hp_iconst (v := 0) C dX5_pass_1 (by decide) ?_
  refine hp_sipush (v := 10000) C dX5_pass_2 (by decide) ?_
  refine hp_callS C ml_X5_65 sm_X5_wantWithin (ktm_in (d := d - 1) (by omega) rm) (by omega) dX5_pass_5 rfl rfl (by simp [Value.category]) (fun v_1 h_1 hp => ?_) (fun E_1 h_1 hq => hp_out C hx (kt_to hq (fun q_9 => by simp only [kt_sq, if_true, if_false, *])))
  obtain ⟨e_5, rfl, rfl⟩ := hp
  refine hp_aload_nR C dX5_pass_8 rfl ?_
  refine kt_get (v := .ref (k + 1)) C sh 0 fl_X5_10_5 (by decide) rfl dX5_pass_9 ?_
  refine hp_dup C dX5_pass_12 rfl ?_
  refine kt_get (v := .int 0) C sh 1 fl_X5_127_1 (by decide) rfl dX5_pass_13 ?_
  refine hp_iload_n C dX5_pass_16 rfl ?_
  refine hp_iadd C dX5_pass_17 ?_
  refine kt_pt C sh 1 fl_X5_127_1 (by decide) (fun _ => rfl) rfl rfl rfl dX5_pass_18 ?_
  refine hp_aload_nR C dX5_pass_21 rfl ?_
  refine kt_get (v := .ref (k + 1)) C sh 0 fl_X5_10_5 (by decide) rfl dX5_pass_22 ?_
  refine kt_get (v := .int _) C sh 1 fl_X5_127_1 (by decide) rfl dX5_pass_25 ?_
  refine hp_iret C hr rfl dX5_pass_28 ?_
  exact ⟨e_5, rfl, kt_frm _ _⟩
set_option maxRecDepth 20000 in
set_option maxHeartbeats 4000000 in
theorem ktp_state {l : Launch} {G : hpG} {h : hpT} {k d : Nat} (sh : kt_sh G h k) (rm : hp_nx h + 100 ≤ hp_n0 G + hp_LC ∧ hp_sl h + 20000 ≤ hp_LS) {n : Int32} (hd : 12 ≤ d) : hp_C l G yX5_state (.code yX5_state cX5_state 2 (some .int)) d [.ref k, .int n] (kt_w G h k kt_s0) (fun v h' => ktc_no n = 0 ∧ v = some (.int 0) ∧ hp_frm (k + 12) (kt_w G h k kt_s0) h') (kt_X (ktc_no n) (kt_w G h k kt_s0)) := by
  refine hp_ofV (by decide) (by simp [Value.category]) (Nat.le_of_ble_eq_true rfl) (fun M C hr hx el => ?_)
  refine hp_aload_nR C dX5_state_0 rfl ?_
  refine hp_iload_n C dX5_state_1 rfl ?_
  refine hp_callV (ci := 5) C ml_X5_130 im_X5_madeNode se_X5_madeNode rfl (by decide) (ktm_mn (d := d - 1) sh rm (by omega)) (by omega) dX5_state_2 (sh.o 0 (by decide) rfl) rfl rfl (by simp [Value.category]) (fun v_1 h_1 hp => ?_) (fun E_1 h_1 hq => hp_out C hx (kt_to hq (fun q_9 => by simp only [kt_sq, if_true, if_false, *])))
  obtain ⟨e_2, rfl, rfl⟩ := hp
  refine kt_get (v := .int 0) C sh 8 fl_X5_113_2 (by decide) rfl dX5_state_5 ?_
  refine hp_iret C hr (by decide) dX5_state_8 ?_
  exact ⟨e_2, rfl, hp_frm.rf⟩
set_option maxRecDepth 20000 in
set_option maxHeartbeats 4000000 in
theorem ktp_about {l : Launch} {G : hpG} {h : hpT} {k d : Nat} (sh : kt_sh G h k) (rm : hp_nx h + 100 ≤ hp_n0 G + hp_LC ∧ hp_sl h + 20000 ≤ hp_LS) {n w : Int32} (hd : 12 ≤ d) : hp_C l G yX5_about (.code yX5_about cX5_about 5 (some .int)) d [.ref k, .int n, .int w] (kt_w G h k kt_s0) (fun v h' => kt_sq (ktc_no n) (ktc_sw w 7) = 0 ∧ v = some (.int (kta_ab w)) ∧ hp_frm (k + 12) (kt_w G h k kt_s0) h') (kt_X (kt_sq (ktc_no n) (ktc_sw w 7)) (kt_w G h k kt_s0)) := by
  refine hp_ofV (by decide) (by simp [Value.category]) (Nat.le_of_ble_eq_true rfl) (fun M C hr hx el => ?_)
  refine hp_aload_nR C dX5_about_0 rfl ?_
  refine hp_iload_n C dX5_about_1 rfl ?_
  refine hp_callV (ci := 5) C ml_X5_109 im_X5_nodeAt se_X5_nodeAt rfl (by decide) (ktm_no (d := d - 1) sh rm (by omega)) (by omega) dX5_about_2 (sh.o 0 (by decide) rfl) rfl rfl (by simp [Value.category]) (fun v_1 h_1 hp => ?_) (fun E_1 h_1 hq => hp_out C hx (kt_to hq (fun q_9 => by simp only [kt_sq, if_true, if_false, *])))
  obtain ⟨e_2, rfl, rfl⟩ := hp
  refine hp_astore_n (r := some _) C dX5_about_5 (by decide) ?_
  refine hp_iload_n C dX5_about_6 rfl ?_
  by_cases q_o : (w).toInt < 0 ∨ 7 < (w).toInt
  · refine hp_tableOut (tgt := 193) C dX5_about_7 q_o (by decide) ?_
    refine hp_athrow C tl_A (by omega) dX5_about_193 dX5_about_196 dX5_about_197 dX5_about_200 hx (by simp [Value.category]) (by have q1 := rm.1; have q2 := rm.2; simp only [hp_put, hp_set, hp_mk, hp_mkA, hp_mkX, kt_w, hp_nx, hp_sl] at *; omega) (by have q1 := rm.1; have q2 := rm.2; simp only [hp_put, hp_set, hp_mk, hp_mkA, hp_mkX, kt_w, hp_nx, hp_sl] at *; omega) ?_
    exact ⟨rfl, Or.inl ⟨by unfold kt_sq ktc_sw; rw [if_pos e_2]; exact if_pos q_o, rfl⟩⟩
  have q_1 : 0 ≤ (w).toInt ∧ (w).toInt ≤ 7 := by omega
  have q_2 : (w) = 0 ∨ (w) = 1 ∨ (w) = 2 ∨ (w) = 3 ∨ (w) = 4 ∨ (w) = 5 ∨ (w) = 6 ∨ (w) = 7 := by
    have q_3 : (w).toInt = 0 ∨ (w).toInt = 1 ∨ (w).toInt = 2 ∨ (w).toInt = 3 ∨ (w).toInt = 4 ∨ (w).toInt = 5 ∨ (w).toInt = 6 ∨ (w).toInt = 7 := by omega
    rcases q_3 with q_3 | q_3 | q_3 | q_3 | q_3 | q_3 | q_3 | q_3 <;> first | exact Or.inl (Int32.toInt_inj.mp (q_3.trans (by decide))) | exact Or.inr (Or.inl (Int32.toInt_inj.mp (q_3.trans (by decide)))) | exact Or.inr (Or.inr (Or.inl (Int32.toInt_inj.mp (q_3.trans (by decide))))) | exact Or.inr (Or.inr (Or.inr (Or.inl (Int32.toInt_inj.mp (q_3.trans (by decide)))))) | exact Or.inr (Or.inr (Or.inr (Or.inr (Or.inl (Int32.toInt_inj.mp (q_3.trans (by decide))))))) | exact Or.inr (Or.inr (Or.inr (Or.inr (Or.inr (Or.inl (Int32.toInt_inj.mp (q_3.trans (by decide)))))))) | exact Or.inr (Or.inr (Or.inr (Or.inr (Or.inr (Or.inr (Or.inl (Int32.toInt_inj.mp (q_3.trans (by decide))))))))) | exact Or.inr (Or.inr (Or.inr (Or.inr (Or.inr (Or.inr (Or.inr ((Int32.toInt_inj.mp (q_3.trans (by decide))))))))))
  rcases q_2 with rfl | rfl | rfl | rfl | rfl | rfl | rfl | rfl
  · refine hp_tableIn (tgt := 52) C dX5_about_7 (by decide) (by decide) rfl (by decide) ?_
    refine hp_aload_nR C dX5_about_52 rfl ?_
    refine kt_get (v := .null) C sh 8 fl_X5_133_2 (by decide) rfl dX5_about_53 ?_
    refine hp_ifnonnull (r := none) (tgt := 63) C dX5_about_56 (by decide) (fun _ hx_ => by cases hx_) (fun _ => ?_)
    refine hp_iconst (v := (-1)) C dX5_about_59 (by decide) ?_
    refine hp_goto (tgt := 70) C dX5_about_60 (by decide) ?_
    refine hp_iret C hr (by decide) dX5_about_70 ?_
    exact ⟨by unfold kt_sq; rw [if_pos e_2]; decide, rfl, hp_frm.rf⟩
  · refine hp_tableIn (tgt := 71) C dX5_about_7 (by decide) (by decide) rfl (by decide) ?_
    refine hp_aload_nR C dX5_about_71 rfl ?_
    refine kt_get (v := .null) C sh 8 fl_X5_133_2 (by decide) rfl dX5_about_72 ?_
    refine hp_ifnonnull (r := none) (tgt := 82) C dX5_about_75 (by decide) (fun _ hx_ => by cases hx_) (fun _ => ?_)
    refine hp_iconst (v := 0) C dX5_about_78 (by decide) ?_
    refine hp_goto (tgt := 90) C dX5_about_79 (by decide) ?_
    refine hp_iret C hr (by decide) dX5_about_90 ?_
    exact ⟨by unfold kt_sq; rw [if_pos e_2]; decide, rfl, hp_frm.rf⟩
  · refine hp_tableIn (tgt := 91) C dX5_about_7 (by decide) (by decide) rfl (by decide) ?_
    refine hp_aload_nR C dX5_about_91 rfl ?_
    refine kt_get (v := .int 0) C sh 8 fl_X5_140_2 (by decide) rfl dX5_about_92 ?_
    refine hp_iret C hr (by decide) dX5_about_95 ?_
    exact ⟨by unfold kt_sq; rw [if_pos e_2]; decide, rfl, hp_frm.rf⟩
  · refine hp_tableIn (tgt := 96) C dX5_about_7 (by decide) (by decide) rfl (by decide) ?_
    refine hp_aload_nR C dX5_about_96 rfl ?_
    refine kt_get (v := .int 0) C sh 8 fl_X5_143_2 (by decide) rfl dX5_about_97 ?_
    refine hp_iret C hr (by decide) dX5_about_100 ?_
    exact ⟨by unfold kt_sq; rw [if_pos e_2]; decide, rfl, hp_frm.rf⟩
  · refine hp_tableIn (tgt := 101) C dX5_about_7 (by decide) (by decide) rfl (by decide) ?_
    refine hp_aload_nR C dX5_about_101 rfl ?_
    refine hp_instY C 2 cl_X5_22 (by decide) rfl (by decide) dX5_about_102 (sh.o 8 (by decide) rfl) ?_
    refine hp_if_eq (tgt := 112) C dX5_about_105 (by decide) (fun z_9 => absurd z_9 (by decide)) (fun _ => ?_)
    refine hp_iconst (v := 1) C dX5_about_108 (by decide) ?_
    refine hp_goto (tgt := 113) C dX5_about_109 (by decide) ?_
    refine hp_iret C hr (by decide) dX5_about_113 ?_
    exact ⟨by unfold kt_sq; rw [if_pos e_2]; decide, rfl, hp_frm.rf⟩
  · refine hp_tableIn (tgt := 114) C dX5_about_7 (by decide) (by decide) rfl (by decide) ?_
    refine hp_aload_nR C dX5_about_114 rfl ?_
    refine hp_instY C 2 cl_X5_22 (by decide) rfl (by decide) dX5_about_115 (sh.o 8 (by decide) rfl) ?_
    refine hp_if_eq (tgt := 138) C dX5_about_118 (by decide) (fun z_9 => absurd z_9 (by decide)) (fun _ => ?_)
    refine hp_aload_nR C dX5_about_121 rfl ?_
    refine hp_castY C 2 cl_X5_22 (by decide) rfl (by decide) dX5_about_122 (sh.o 8 (by decide) rfl) ?_
    refine hp_astore (r := some _) C dX5_about_125 (by decide) ?_
    refine hp_aloadR C dX5_about_127 rfl ?_
    refine kt_get (v := .ref (k + 9)) C sh 8 fl_X5_146_2 (by decide) rfl dX5_about_129 ?_
    refine hp_callV (ci := 0) C ml_X5_150 im_Jx4a65c_size_8abf5 se_Jx4a65c_size_8abf5 rfl (by decide) (ktm_sz (d := d - 1) sh rm) (by omega) dX5_about_132 (sh.o 9 (by decide) rfl) rfl rfl (by simp [Value.category]) (fun v_1 h_1 hp => ?_) (fun _ _ hf => hf.elim)
    obtain ⟨rfl, rfl⟩ := hp
    refine hp_goto (tgt := 139) C dX5_about_135 (by decide) ?_
    refine hp_iret C hr (by decide) dX5_about_139 ?_
    exact ⟨by unfold kt_sq; rw [if_pos e_2]; decide, rfl, hp_frm.rf⟩
  · refine hp_tableIn (tgt := 140) C dX5_about_7 (by decide) (by decide) rfl (by decide) ?_
    refine hp_aload_nR C dX5_about_140 rfl ?_
    refine hp_instY C 2 cl_X5_22 (by decide) rfl (by decide) dX5_about_141 (sh.o 8 (by decide) rfl) ?_
    refine hp_if_eq (tgt := 168) C dX5_about_144 (by decide) (fun z_9 => absurd z_9 (by decide)) (fun _ => ?_)
    refine hp_aload_nR C dX5_about_147 rfl ?_
    refine hp_castY C 2 cl_X5_22 (by decide) rfl (by decide) dX5_about_148 (sh.o 8 (by decide) rfl) ?_
    refine hp_astore (r := some _) C dX5_about_151 (by decide) ?_
    refine hp_aloadR C dX5_about_153 rfl ?_
    refine hp_aload_nR C dX5_about_155 rfl ?_
    refine kt_get (v := .ref (k + 1)) C sh 0 fl_X5_10_5 (by decide) rfl dX5_about_156 ?_
    refine kt_get (v := .int 0) C sh 1 fl_X5_127_1 (by decide) rfl dX5_about_159 ?_
    refine hp_callV (ci := 2) C ml_X5_156 im_X1_recentRestarts se_X1_recentRestarts rfl (by decide) (ktm_rr (d := d - 1) sh rm (by omega)) (by omega) dX5_about_162 (sh.o 8 (by decide) rfl) rfl rfl (by simp [Value.category]) (fun v_1 h_1 hp => ?_) (fun _ _ hf => hf.elim)
    obtain ⟨rfl, rfl⟩ := hp
    refine hp_goto (tgt := 169) C dX5_about_165 (by decide) ?_
    refine hp_iret C hr (by decide) dX5_about_169 ?_
    exact ⟨by unfold kt_sq; rw [if_pos e_2]; decide, rfl, hp_frm.rf⟩
  · refine hp_tableIn (tgt := 170) C dX5_about_7 (by decide) (by decide) rfl (by decide) ?_
    refine hp_aload_nR C dX5_about_170 rfl ?_
    refine hp_instNo C 2 cl_X5_83 (by decide) rfl (by decide) dX5_about_171 (sh.o 8 (by decide) rfl) ?_
    refine hp_if_eq (tgt := 191) C dX5_about_174 (by decide) (fun _ => ?_) (fun z_9 => absurd z_9 (by decide))
    refine hp_iconst (v := (-1)) C dX5_about_191 (by decide) ?_
    refine hp_iret C hr (by decide) dX5_about_192 ?_
    exact ⟨by unfold kt_sq; rw [if_pos e_2]; decide, rfl, hp_frm.rf⟩
set_option maxRecDepth 20000 in
set_option maxHeartbeats 4000000 in
theorem ktp_child {l : Launch} {G : hpG} {h : hpT} {k d : Nat} (sh : kt_sh G h k) (rm : hp_nx h + 100 ≤ hp_n0 G + hp_LC ∧ hp_sl h + 20000 ≤ hp_LS) {n i : Int32} (hd : 12 ≤ d) : hp_C l G yX5_child (.code yX5_child cX5_child 4 (some .int)) d [.ref k, .int n, .int i] (kt_w G h k kt_s0) (fun v h' => ktc_no n = 0 ∧ v = some (.int (-1)) ∧ hp_frm (k + 12) (kt_w G h k kt_s0) h') (kt_X (ktc_no n) (kt_w G h k kt_s0)) := by
  refine hp_ofV (by decide) (by simp [Value.category]) (Nat.le_of_ble_eq_true rfl) (fun M C hr hx el => ?_)
  refine hp_aload_nR C dX5_child_0 rfl ?_
  refine hp_iload_n C dX5_child_1 rfl ?_
  refine hp_callV (ci := 5) C ml_X5_61 im_X5_keeperAt se_X5_keeperAt rfl (by decide) (ktm_ke (d := d - 1) sh rm (by omega)) (by omega) dX5_child_2 (sh.o 0 (by decide) rfl) rfl rfl (by simp [Value.category]) (fun v_1 h_1 hp => ?_) (fun E_1 h_1 hq => hp_out C hx (kt_to hq (fun q_9 => by simp only [kt_sq, if_true, if_false, *])))
  obtain ⟨e_2, rfl, rfl⟩ := hp
  refine hp_astore_n (r := some _) C dX5_child_5 (by decide) ?_
  refine hp_iload_n C dX5_child_6 rfl ?_
  refine hp_if_lt (tgt := 38) C dX5_child_7 (by decide) (fun c_7 => ?_) (fun c_7 => ?_)
  · refine hp_iconst (v := (-1)) C dX5_child_38 (by decide) ?_
    refine hp_iret C hr (by decide) dX5_child_39 ?_
    exact ⟨e_2, rfl, hp_frm.rf⟩
  · refine hp_iload_n C dX5_child_10 rfl ?_
    refine hp_aload_nR C dX5_child_11 rfl ?_
    refine kt_get (v := .ref (k + 9)) C sh 8 fl_X5_146_2 (by decide) rfl dX5_child_12 ?_
    refine hp_callV (ci := 0) C ml_X5_150 im_Jx4a65c_size_8abf5 se_Jx4a65c_size_8abf5 rfl (by decide) (ktm_sz (d := d - 1) sh rm) (by omega) dX5_child_15 (sh.o 9 (by decide) rfl) rfl rfl (by simp [Value.category]) (fun v_1 h_1 hp => ?_) (fun _ _ hf => hf.elim)
    obtain ⟨rfl, rfl⟩ := hp
    refine hp_icmp_ge (tgt := 38) C dX5_child_18 (by decide) (fun c_18 => ?_) (fun c_18 => ?_)
    · refine hp_iconst (v := (-1)) C dX5_child_38 (by decide) ?_
      refine hp_iret C hr (by decide) dX5_child_39 ?_
      exact ⟨e_2, rfl, hp_frm.rf⟩
    · exact absurd (kt_le2 c_18) (fun q_7 => c_7 q_7)
set_option maxRecDepth 20000 in
set_option maxHeartbeats 4000000 in
theorem ktm_to {l : Launch} {G : hpG} {h : hpT} {k d : Nat} (sh : kt_sh G h k) (rm : hp_nx h + 100 ≤ hp_n0 G + hp_LC ∧ hp_sl h + 20000 ≤ hp_LS) {i c : Int32} : hp_C l G yX0_told (.code yX0_told cX0_told 4 (some .int)) d [.ref (k + 1), .int i, .int c] (kt_w G h k kt_s0) (fun v h' => v = some (.int (-1)) ∧ h' = kt_w G h k kt_s0) (fun _ _ => False) := by
  refine hp_ofV (by decide) (by simp [Value.category]) (Nat.le_of_ble_eq_true rfl) (fun M C hr hx el => ?_)
  refine hp_iload_n C dX0_told_0 rfl ?_
  refine hp_if_lt (tgt := 32) C dX0_told_1 (by decide) (fun c_1 => ?_) (fun c_1 => ?_)
  · refine hp_iconst (v := 0) C dX0_told_32 (by decide) ?_
    refine hp_istore_n C dX0_told_33 (by decide) ?_
    refine hp_iload_n C dX0_told_34 rfl ?_
    refine hp_if_eq (tgt := 49) C dX0_told_35 (by decide) (fun _ => ?_) (fun z_9 => absurd z_9 (by decide))
    refine hp_iconst (v := (-1)) C dX0_told_49 (by decide) ?_
    refine hp_iret C hr (by decide) dX0_told_50 ?_
    exact ⟨rfl, rfl⟩
  · refine hp_iload_n C dX0_told_4 rfl ?_
    refine hp_aload_nR C dX0_told_5 rfl ?_
    refine kt_get (v := .int 0) C sh 1 fl_X0_20_1 (by decide) rfl dX0_told_6 ?_
    refine hp_icmp_ge (tgt := 32) C dX0_told_9 (by decide) (fun c_9 => ?_) (fun c_9 => ?_)
    · refine hp_iconst (v := 0) C dX0_told_32 (by decide) ?_
      refine hp_istore_n C dX0_told_33 (by decide) ?_
      refine hp_iload_n C dX0_told_34 rfl ?_
      refine hp_if_eq (tgt := 49) C dX0_told_35 (by decide) (fun _ => ?_) (fun z_9 => absurd z_9 (by decide))
      refine hp_iconst (v := (-1)) C dX0_told_49 (by decide) ?_
      refine hp_iret C hr (by decide) dX0_told_50 ?_
      exact ⟨rfl, rfl⟩
    · exact absurd (kt_le2 c_9) (fun q_7 => c_1 q_7)
set_option maxRecDepth 20000 in
set_option maxHeartbeats 4000000 in
theorem ktp_event {l : Launch} {G : hpG} {h : hpT} {k d : Nat} (sh : kt_sh G h k) (rm : hp_nx h + 100 ≤ hp_n0 G + hp_LC ∧ hp_sl h + 20000 ≤ hp_LS) {i w : Int32} (hd : 12 ≤ d) : hp_C l G yX5_event (.code yX5_event cX5_event 3 (some .int)) d [.ref k, .int i, .int w] (kt_w G h k kt_s0) (fun v h' => ktc_in w 0 3 = 0 ∧ v = some (.int (-1)) ∧ hp_frm (k + 12) (kt_w G h k kt_s0) h') (kt_X (ktc_in w 0 3) (kt_w G h k kt_s0)) := by
  refine hp_ofV (by decide) (by simp [Value.category]) (Nat.le_of_ble_eq_true rfl) (fun M C hr hx el => ?_)
  refine hp_iload_n C dX5_event_0 rfl ?_
  refine hp_iconst (v := 0) C dX5_event_1 (by decide) ?_
  refine hp_iconst (v := 3) C dX5_event_2 (by decide) ?_
  refine hp_callS C ml_X5_65 sm_X5_wantWithin (ktm_in (d := d - 1) (by omega) rm) (by omega) dX5_event_3 rfl rfl (by simp [Value.category]) (fun v_1 h_1 hp => ?_) (fun E_1 h_1 hq => hp_out C hx (kt_to hq (fun q_9 => by simp only [kt_sq, if_true, if_false, *])))
  obtain ⟨e_3, rfl, rfl⟩ := hp
  refine hp_aload_nR C dX5_event_6 rfl ?_
  refine kt_get (v := .ref (k + 1)) C sh 0 fl_X5_10_5 (by decide) rfl dX5_event_7 ?_
  refine hp_iload_n C dX5_event_10 rfl ?_
  refine hp_iload_n C dX5_event_11 rfl ?_
  refine hp_callV (ci := 1) C ml_X5_168 im_X0_told se_X0_told rfl (by decide) (ktm_to (d := d - 1) sh rm) (by omega) dX5_event_12 (sh.o 1 (by decide) rfl) rfl rfl (by simp [Value.category]) (fun v_1 h_1 hp => ?_) (fun _ _ hf => hf.elim)
  obtain ⟨rfl, rfl⟩ := hp
  refine hp_iret C hr (by decide) dX5_event_15 ?_
  exact ⟨e_3, rfl, hp_frm.rf⟩
set_option maxHeartbeats 4000000 in
theorem ktl_ci {M : hpM} {G : hpG} {d : Nat} {h0 h : hpT} {k : Nat} (sh : kt_sh G h k) (C : hp_F M G yX5_countIn cX5_countIn 5 d h0) (hr : (hp_mt M).sig.returnType = some .int) {b : Int32} (hb : ¬ (0 : Int32) = b) {X : String → hpT → Prop} : ∀ (n : Nat) (lo : Nat → Option Value) (i : Int32), n ≤ 80 → i.toInt = 80 - (n : Int) → lo 0 = some (.ref k) → lo 1 = some (.int b) → lo 2 = some (.int 0) → lo 3 = some (.int i) → hp_V M G 5 (hp_Q M G h0 (fun v h' => v = some (.int 0) ∧ h' = kt_w G h k kt_s0) X) (kt_w G h k kt_s0) 4 lo [] := by
  intro n
  induction n with
  | zero =>
    intro lo i hn hi e0 e1 e2 e3
    refine hp_iload_n C dX5_countIn_4 e3 ?_
    refine hp_bipush (v := 80) C dX5_countIn_5 (by decide) ?_
    refine hp_icmp_ge (tgt := 41) C dX5_countIn_7 (by decide) (fun c_7 => ?_) (fun c_7 => ?_)
    · refine hp_iload_n C dX5_countIn_41 e2 ?_
      refine hp_iret C hr (by decide) dX5_countIn_42 ?_
      exact ⟨rfl, rfl⟩
    · exact absurd (Int32.lt_iff_toInt_lt.mp (kt_le2 c_7)) (by have q_1 : (80 : Int32).toInt = 80 := (by decide); omega)
  | succ n ih =>
    intro lo i hn hi e0 e1 e2 e3
    refine hp_iload_n C dX5_countIn_4 e3 ?_
    refine hp_bipush (v := 80) C dX5_countIn_5 (by decide) ?_
    refine hp_icmp_ge (tgt := 41) C dX5_countIn_7 (by decide) (fun c_7 => ?_) (fun c_7 => ?_)
    · exact absurd (Int32.le_iff_toInt_le.mp c_7) (by have q_1 : (80 : Int32).toInt = 80 := (by decide); omega)
    · refine hp_aload_nR C dX5_countIn_10 e0 ?_
      refine kt_get (v := .ref (k + 7)) C sh 0 fl_X5_18_5 (by decide) rfl dX5_countIn_11 ?_
      refine hp_iload_n C dX5_countIn_14 e3 ?_
      refine kt_nod C sh dX5_countIn_15 (by rw [vp_in_iff]; omega) ?_
      by_cases q_n : i.toNatClampNeg = 0
      · rw [if_pos q_n]
        refine hp_astore (r := some _) C dX5_countIn_16 (by decide) ?_
        refine hp_aloadR C dX5_countIn_18 rfl ?_
        refine hp_ifnull (r := some _) (tgt := 35) C dX5_countIn_20 (by decide) (fun hx_ => by cases hx_) (fun _ _ => ?_)
        refine hp_aloadR C dX5_countIn_23 rfl ?_
        refine kt_get (v := .int 0) C sh 8 fl_X5_113_2 (by decide) rfl dX5_countIn_25 ?_
        refine hp_iload_n C dX5_countIn_28 e1 ?_
        refine hp_icmp_ne (tgt := 35) C dX5_countIn_29 (by decide) (fun c_29 => ?_) (fun c_29 => ?_)
        · refine hp_iinc C dX5_countIn_35 e3 (by decide) rfl ?_
          refine hp_goto (tgt := 4) C dX5_countIn_38 (by decide) ?_
          exact ih _ _ (by omega) (by rw [kt_inc (by omega)]; omega) e0 e1 e2 rfl
        · exact absurd c_29 (by first | exact hb | exact not_not_intro hb)
      · rw [if_neg q_n]
        refine hp_astore (r := none) C dX5_countIn_16 (by decide) ?_
        refine hp_aload (r := none) C dX5_countIn_18 rfl ?_
        refine hp_ifnull (r := none) (tgt := 35) C dX5_countIn_20 (by decide) (fun _ => ?_) (fun _ hx_ => by cases hx_)
        refine hp_iinc C dX5_countIn_35 e3 (by decide) rfl ?_
        refine hp_goto (tgt := 4) C dX5_countIn_38 (by decide) ?_
        exact ih _ _ (by omega) (by rw [kt_inc (by omega)]; omega) e0 e1 e2 rfl
set_option maxRecDepth 20000 in
set_option maxHeartbeats 4000000 in
theorem ktm_ci {l : Launch} {G : hpG} {h : hpT} {k d : Nat} (sh : kt_sh G h k) (rm : hp_nx h + 100 ≤ hp_n0 G + hp_LC ∧ hp_sl h + 20000 ≤ hp_LS) {b : Int32} (hb : ¬ (0 : Int32) = b) : hp_C l G yX5_countIn (.code yX5_countIn cX5_countIn 5 (some .int)) d [.ref k, .int b] (kt_w G h k kt_s0) (fun v h' => v = some (.int 0) ∧ h' = kt_w G h k kt_s0) (fun _ _ => False) := by
  refine hp_ofV (by decide) (by simp [Value.category]) (Nat.le_of_ble_eq_true rfl) (fun M C hr hx el => ?_)
  refine hp_iconst (v := 0) C dX5_countIn_0 (by decide) ?_
  refine hp_istore_n C dX5_countIn_1 (by decide) ?_
  refine hp_iconst (v := 0) C dX5_countIn_2 (by decide) ?_
  refine hp_istore_n C dX5_countIn_3 (by decide) ?_
  exact ktl_ci sh C hr hb 80 _ 0 (by omega) (by decide) rfl rfl rfl rfl
set_option maxRecDepth 20000 in
set_option maxHeartbeats 4000000 in
theorem ktp_total {l : Launch} {G : hpG} {h : hpT} {k d : Nat} (sh : kt_sh G h k) (rm : hp_nx h + 100 ≤ hp_n0 G + hp_LC ∧ hp_sl h + 20000 ≤ hp_LS) {w : Int32} (hd : 12 ≤ d) : hp_C l G yX5_total (.code yX5_total cX5_total 2 (some .int)) d [.ref k, .int w] (kt_w G h k kt_s0) (fun v h' => ktc_sw w 6 = 0 ∧ v = some (.int (kta_to w)) ∧ hp_frm (k + 12) (kt_w G h k kt_s0) h') (kt_X (ktc_sw w 6) (kt_w G h k kt_s0)) := by
  refine hp_ofV (by decide) (by simp [Value.category]) (Nat.le_of_ble_eq_true rfl) (fun M C hr hx el => ?_)
  refine hp_iload_n C dX5_total_0 rfl ?_
  by_cases q_o : (w).toInt < 0 ∨ 6 < (w).toInt
  · refine hp_tableOut (tgt := 87) C dX5_total_1 q_o (by decide) ?_
    refine hp_athrow C tl_A (by omega) dX5_total_87 dX5_total_90 dX5_total_91 dX5_total_94 hx (by simp [Value.category]) (by have q1 := rm.1; have q2 := rm.2; simp only [hp_put, hp_set, hp_mk, hp_mkA, hp_mkX, kt_w, hp_nx, hp_sl] at *; omega) (by have q1 := rm.1; have q2 := rm.2; simp only [hp_put, hp_set, hp_mk, hp_mkA, hp_mkX, kt_w, hp_nx, hp_sl] at *; omega) ?_
    exact ⟨rfl, Or.inl ⟨by unfold ktc_sw; exact if_pos q_o, rfl⟩⟩
  have q_1 : 0 ≤ (w).toInt ∧ (w).toInt ≤ 6 := by omega
  have q_2 : (w) = 0 ∨ (w) = 1 ∨ (w) = 2 ∨ (w) = 3 ∨ (w) = 4 ∨ (w) = 5 ∨ (w) = 6 := by
    have q_3 : (w).toInt = 0 ∨ (w).toInt = 1 ∨ (w).toInt = 2 ∨ (w).toInt = 3 ∨ (w).toInt = 4 ∨ (w).toInt = 5 ∨ (w).toInt = 6 := by omega
    rcases q_3 with q_3 | q_3 | q_3 | q_3 | q_3 | q_3 | q_3 <;> first | exact Or.inl (Int32.toInt_inj.mp (q_3.trans (by decide))) | exact Or.inr (Or.inl (Int32.toInt_inj.mp (q_3.trans (by decide)))) | exact Or.inr (Or.inr (Or.inl (Int32.toInt_inj.mp (q_3.trans (by decide))))) | exact Or.inr (Or.inr (Or.inr (Or.inl (Int32.toInt_inj.mp (q_3.trans (by decide)))))) | exact Or.inr (Or.inr (Or.inr (Or.inr (Or.inl (Int32.toInt_inj.mp (q_3.trans (by decide))))))) | exact Or.inr (Or.inr (Or.inr (Or.inr (Or.inr (Or.inl (Int32.toInt_inj.mp (q_3.trans (by decide)))))))) | exact Or.inr (Or.inr (Or.inr (Or.inr (Or.inr (Or.inr ((Int32.toInt_inj.mp (q_3.trans (by decide)))))))))
  rcases q_2 with rfl | rfl | rfl | rfl | rfl | rfl | rfl
  · refine hp_tableIn (tgt := 44) C dX5_total_1 (by decide) (by decide) rfl (by decide) ?_
    refine hp_aload_nR C dX5_total_44 rfl ?_
    refine kt_get (v := .ref (k + 1)) C sh 0 fl_X5_10_5 (by decide) rfl dX5_total_45 ?_
    refine kt_get (v := .int 0) C sh 1 fl_X5_127_1 (by decide) rfl dX5_total_48 ?_
    refine hp_iret C hr (by decide) dX5_total_51 ?_
    exact ⟨by decide, rfl, hp_frm.rf⟩
  · refine hp_tableIn (tgt := 52) C dX5_total_1 (by decide) (by decide) rfl (by decide) ?_
    refine hp_aload_nR C dX5_total_52 rfl ?_
    refine kt_get (v := .int 1) C sh 0 fl_X5_31_5 (by decide) rfl dX5_total_53 ?_
    refine hp_iret C hr (by decide) dX5_total_56 ?_
    exact ⟨by decide, rfl, hp_frm.rf⟩
  · refine hp_tableIn (tgt := 57) C dX5_total_1 (by decide) (by decide) rfl (by decide) ?_
    refine hp_aload_nR C dX5_total_57 rfl ?_
    refine hp_iconst (v := 1) C dX5_total_58 (by decide) ?_
    refine hp_callV (ci := 5) C ml_X5_172 im_X5_countIn se_X5_countIn rfl (by decide) (ktm_ci (d := d - 1) sh rm (by decide)) (by omega) dX5_total_59 (sh.o 0 (by decide) rfl) rfl rfl (by simp [Value.category]) (fun v_1 h_1 hp => ?_) (fun _ _ hf => hf.elim)
    obtain ⟨rfl, rfl⟩ := hp
    refine hp_iret C hr (by decide) dX5_total_62 ?_
    exact ⟨by decide, rfl, hp_frm.rf⟩
  · refine hp_tableIn (tgt := 63) C dX5_total_1 (by decide) (by decide) rfl (by decide) ?_
    refine hp_aload_nR C dX5_total_63 rfl ?_
    refine hp_iconst (v := 2) C dX5_total_64 (by decide) ?_
    refine hp_callV (ci := 5) C ml_X5_172 im_X5_countIn se_X5_countIn rfl (by decide) (ktm_ci (d := d - 1) sh rm (by decide)) (by omega) dX5_total_65 (sh.o 0 (by decide) rfl) rfl rfl (by simp [Value.category]) (fun v_1 h_1 hp => ?_) (fun _ _ hf => hf.elim)
    obtain ⟨rfl, rfl⟩ := hp
    refine hp_iret C hr (by decide) dX5_total_68 ?_
    exact ⟨by decide, rfl, hp_frm.rf⟩
  · refine hp_tableIn (tgt := 69) C dX5_total_1 (by decide) (by decide) rfl (by decide) ?_
    refine hp_aload_nR C dX5_total_69 rfl ?_
    refine kt_get (v := .ref (k + 1)) C sh 0 fl_X5_10_5 (by decide) rfl dX5_total_70 ?_
    refine kt_get (v := .int 0) C sh 1 fl_X5_175_1 (by decide) rfl dX5_total_73 ?_
    refine hp_iret C hr (by decide) dX5_total_76 ?_
    exact ⟨by decide, rfl, hp_frm.rf⟩
  · refine hp_tableIn (tgt := 77) C dX5_total_1 (by decide) (by decide) rfl (by decide) ?_
    refine hp_aload_nR C dX5_total_77 rfl ?_
    refine kt_get (v := .int 0) C sh 0 fl_X5_35_5 (by decide) rfl dX5_total_78 ?_
    refine hp_iret C hr (by decide) dX5_total_81 ?_
    exact ⟨by decide, rfl, hp_frm.rf⟩
  · refine hp_tableIn (tgt := 82) C dX5_total_1 (by decide) (by decide) rfl (by decide) ?_
    refine hp_aload_nR C dX5_total_82 rfl ?_
    refine kt_get (v := .int 0) C sh 0 fl_X5_38_5 (by decide) rfl dX5_total_83 ?_
    refine hp_iret C hr (by decide) dX5_total_86 ?_
    exact ⟨by decide, rfl, hp_frm.rf⟩
