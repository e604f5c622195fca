/-! ===== keeper and worker ===== -/
set_option maxRecDepth 20000 in
set_option maxHeartbeats 4000000 in
theorem kp_keeperX {l : Launch} {G : hpG} {pr : Nat → Prop} {B : hpT} {N S : Nat} {h : hpT} {κ : kS} {a : aS} {d : Nat} (K : KR G pr B N S h κ a) {x kn sg r t : Int32} (T : a_T a) (hbad : ∀ n, n < a_mk a → x = nI n → a_nd a 0 n = 1 → a_nd a 3 n = 2) (hd : 11 ≤ d) (hR1 : hp_nx h + 1 ≤ hp_n0 G + hp_LC) (hR2 : hp_sl h + 6 ≤ hp_LS) : hp_C l G yX5_keeper (.code yX5_keeper cX5_keeper 8 (some .int)) d [.ref (κ.1 5 0), .int x, .int kn, .int sg, .int r, .int t] (h) (fun _ _ => False) (fun E h' => E = "java/lang/IllegalArgumentException" ∧ h' = hp_mkX h) := by
  refine hp_ofV (by decide) (by simp [Value.category]) (Nat.le_of_ble_eq_true rfl) (fun M C hr hx el => ?_)
  refine hp_aload_nR C dX5_keeper_0 rfl ?_
  refine hp_iload_n C dX5_keeper_1 rfl ?_
  exact hp_callV (ci := 5) C ml_X5_61 im_X5_keeperAt se_X5_keeperAt rfl (by decide) (kw_keeperX (d := d - 1) K T hbad (by omega) hR1 hR2) (by omega) dX5_keeper_2 K.isT rfl rfl (by simp [Value.category]) (fun _ _ hf => hf.elim) (fun E_1 h_1 hq => hp_out C hx hq)
set_option maxRecDepth 20000 in
set_option maxHeartbeats 4000000 in
theorem kp_keeperY {l : Launch} {G : hpG} {pr : Nat → Prop} {B : hpT} {N S : Nat} {h : hpT} {κ : kS} {a : aS} {d : Nat} (K : KR G pr B N S h κ a) {p : Nat} (T : a_T a) (hp : p < a_mk a) (h3 : ¬ a_nd a 3 p = 2) (hpk : a_nd a 0 p = 1) {kn sg r t : Int32} (hz : ¬ ((0 ≤ kn.toInt ∧ kn.toInt ≤ 2) ∧ (0 ≤ sg.toInt ∧ sg.toInt ≤ 2) ∧ (0 ≤ r.toInt ∧ r.toInt ≤ 50) ∧ (1 ≤ t.toInt ∧ t.toInt ≤ 1000))) (hd : 11 ≤ d) (hR1 : hp_nx h + 1 ≤ hp_n0 G + hp_LC) (hR2 : hp_sl h + 6 ≤ hp_LS) : hp_C l G yX5_keeper (.code yX5_keeper cX5_keeper 8 (some .int)) d [.ref (κ.1 5 0), .int (nI p), .int kn, .int sg, .int r, .int t] (h) (fun _ _ => False) (fun E h' => E = "java/lang/IllegalArgumentException" ∧ h' = hp_mkX h) := by
  have q0 : (0 : Int32).toInt = 0 := by decide
  have qm : (-1 : Int32).toInt = -1 := by decide
  have q2 : (2 : Int32).toInt = 2 := by decide
  have q50 : (50 : Int32).toInt = 50 := by decide
  have q100 : (100 : Int32).toInt = 100 := by decide
  have q1000 : (1000 : Int32).toInt = 1000 := by decide
  refine hp_ofV (by decide) (by simp [Value.category]) (Nat.le_of_ble_eq_true rfl) (fun M C hr hx el => ?_)
  by_cases hb : (0 ≤ sg.toInt ∧ sg.toInt ≤ 2) ∧ (0 ≤ r.toInt ∧ r.toInt ≤ 50) ∧ (1 ≤ t.toInt ∧ t.toInt ≤ 1000)
  · refine hp_aload_nR C dX5_keeper_0 rfl ?_
    refine hp_iload_n C dX5_keeper_1 rfl ?_
    refine hp_callV (ci := 5) C ml_X5_61 im_X5_keeperAt se_X5_keeperAt rfl (by decide) (kw_keeper (d := d - 1) K T hp h3 hpk (by omega)) (by omega) dX5_keeper_2 K.isT rfl rfl (by simp [Value.category]) (fun v_2 h_2 hp => ?_) (fun _ _ hf => hf.elim)
    obtain ⟨rfl, e_2⟩ := hp
    rw [e_2]
    refine hp_astore (r := some _) C dX5_keeper_5 (by decide) ?_
    refine hp_iload_n C dX5_keeper_7 rfl ?_
    refine hp_iconst (v := 0) C dX5_keeper_8 (by decide) ?_
    refine hp_iconst (v := 2) C dX5_keeper_9 (by decide) ?_
    exact hp_callS C ml_X5_65 sm_X5_wantWithin (kw_out (d := d - 1) (by rw [q0, q2]; exact fun z => hz ⟨z, hb⟩) (by omega) hR1 hR2) (by omega) dX5_keeper_10 rfl rfl (by simp [Value.category]) (fun _ _ hf => hf.elim) (fun E_1 h_1 hq => hp_out C hx hq)
  · by_cases hk : (0 ≤ kn.toInt ∧ kn.toInt ≤ 2)
    · refine hp_aload_nR C dX5_keeper_0 rfl ?_
      refine hp_iload_n C dX5_keeper_1 rfl ?_
      refine hp_callV (ci := 5) C ml_X5_61 im_X5_keeperAt se_X5_keeperAt rfl (by decide) (kw_keeper (d := d - 1) K T hp h3 hpk (by omega)) (by omega) dX5_keeper_2 K.isT rfl rfl (by simp [Value.category]) (fun v_2 h_2 hp => ?_) (fun _ _ hf => hf.elim)
      obtain ⟨rfl, e_2⟩ := hp
      rw [e_2]
      refine hp_astore (r := some _) C dX5_keeper_5 (by decide) ?_
      refine hp_iload_n C dX5_keeper_7 rfl ?_
      refine hp_iconst (v := 0) C dX5_keeper_8 (by decide) ?_
      refine hp_iconst (v := 2) C dX5_keeper_9 (by decide) ?_
      refine hp_callS C ml_X5_65 sm_X5_wantWithin (kw_in (d := d - 1) (by omega) (by omega)) (by omega) dX5_keeper_10 rfl rfl (by simp [Value.category]) (fun v_10 h_10 hp => ?_) (fun _ _ hf => hf.elim)
      obtain ⟨rfl, e_10⟩ := hp
      rw [e_10]
      refine hp_iload_n C dX5_keeper_13 rfl ?_
      refine hp_iload C dX5_keeper_14 rfl ?_
      refine hp_iload C dX5_keeper_16 rfl ?_
      exact hp_callS C ml_X5_41 sm_X5_wantBounds (kw_bn (d := d - 1) hb (by omega) hR1 hR2) (by omega) dX5_keeper_18 rfl rfl (by simp [Value.category]) (fun _ _ hf => hf.elim) (fun E_1 h_1 hq => hp_out C hx hq)
    · refine hp_aload_nR C dX5_keeper_0 rfl ?_
      refine hp_iload_n C dX5_keeper_1 rfl ?_
      refine hp_callV (ci := 5) C ml_X5_61 im_X5_keeperAt se_X5_keeperAt rfl (by decide) (kw_keeper (d := d - 1) K T hp h3 hpk (by omega)) (by omega) dX5_keeper_2 K.isT rfl rfl (by simp [Value.category]) (fun v_2 h_2 hp => ?_) (fun _ _ hf => hf.elim)
      obtain ⟨rfl, e_2⟩ := hp
      rw [e_2]
      refine hp_astore (r := some _) C dX5_keeper_5 (by decide) ?_
      refine hp_iload_n C dX5_keeper_7 rfl ?_
      refine hp_iconst (v := 0) C dX5_keeper_8 (by decide) ?_
      refine hp_iconst (v := 2) C dX5_keeper_9 (by decide) ?_
      exact hp_callS C ml_X5_65 sm_X5_wantWithin (kw_out (d := d - 1) (by rw [q0, q2]; exact hk) (by omega) hR1 hR2) (by omega) dX5_keeper_10 rfl rfl (by simp [Value.category]) (fun _ _ hf => hf.elim) (fun E_1 h_1 hq => hp_out C hx hq)
set_option maxRecDepth 20000 in
set_option maxHeartbeats 4000000 in
theorem kp_keeperS {l : Launch} {G : hpG} {pr : Nat → Prop} {B : hpT} {N S : Nat} {h : hpT} {κ : kS} {a : aS} {d : Nat} (K : KR G pr B N S h κ a) {p : Nat} (T : a_T a) (hp : p < a_mk a) (h3 : ¬ a_nd a 3 p = 2) (hpk : a_nd a 0 p = 1) {kn sg r t : Int32} (hk : (0 ≤ kn.toInt ∧ kn.toInt ≤ 2)) (hb : (0 ≤ sg.toInt ∧ sg.toInt ≤ 2) ∧ (0 ≤ r.toInt ∧ r.toInt ≤ 50) ∧ (1 ≤ t.toInt ∧ t.toInt ≤ 1000)) (hro : ¬ (a_mk a < 80 ∧ a_nd a 2 p < 8)) (hd : 11 ≤ d) (hR1 : hp_nx h + 1 ≤ hp_n0 G + hp_LC) (hR2 : hp_sl h + 6 ≤ hp_LS) : hp_C l G yX5_keeper (.code yX5_keeper cX5_keeper 8 (some .int)) d [.ref (κ.1 5 0), .int (nI p), .int kn, .int sg, .int r, .int t] (h) (fun _ _ => False) (fun E h' => E = "java/lang/IllegalStateException" ∧ h' = hp_mkX h) := by
  have q0 : (0 : Int32).toInt = 0 := by decide
  have qm : (-1 : Int32).toInt = -1 := by decide
  have q2 : (2 : Int32).toInt = 2 := by decide
  have q50 : (50 : Int32).toInt = 50 := by decide
  have q100 : (100 : Int32).toInt = 100 := by decide
  have q1000 : (1000 : Int32).toInt = 1000 := by decide
  refine hp_ofV (by decide) (by simp [Value.category]) (Nat.le_of_ble_eq_true rfl) (fun M C hr hx el => ?_)
  refine hp_aload_nR C dX5_keeper_0 rfl ?_
  refine hp_iload_n C dX5_keeper_1 rfl ?_
  refine hp_callV (ci := 5) C ml_X5_61 im_X5_keeperAt se_X5_keeperAt rfl (by decide) (kw_keeper (d := d - 1) K T hp h3 hpk (by omega)) (by omega) dX5_keeper_2 K.isT rfl rfl (by simp [Value.category]) (fun v_2 h_2 hp => ?_) (fun _ _ hf => hf.elim)
  obtain ⟨rfl, e_2⟩ := hp
  rw [e_2]
  refine hp_astore (r := some _) C dX5_keeper_5 (by decide) ?_
  refine hp_iload_n C dX5_keeper_7 rfl ?_
  refine hp_iconst (v := 0) C dX5_keeper_8 (by decide) ?_
  refine hp_iconst (v := 2) C dX5_keeper_9 (by decide) ?_
  refine hp_callS C ml_X5_65 sm_X5_wantWithin (kw_in (d := d - 1) (by omega) (by omega)) (by omega) dX5_keeper_10 rfl rfl (by simp [Value.category]) (fun v_10 h_10 hp => ?_) (fun _ _ hf => hf.elim)
  obtain ⟨rfl, e_10⟩ := hp
  rw [e_10]
  refine hp_iload_n C dX5_keeper_13 rfl ?_
  refine hp_iload C dX5_keeper_14 rfl ?_
  refine hp_iload C dX5_keeper_16 rfl ?_
  refine hp_callS C ml_X5_41 sm_X5_wantBounds (kw_bd (d := d - 1) hb.1 hb.2.1 hb.2.2 (by omega)) (by omega) dX5_keeper_18 rfl rfl (by simp [Value.category]) (fun v_18 h_18 hp => ?_) (fun _ _ hf => hf.elim)
  obtain ⟨rfl, e_18⟩ := hp
  rw [e_18]
  refine hp_aload_nR C dX5_keeper_21 rfl ?_
  refine hp_aloadR C dX5_keeper_22 rfl ?_
  refine hp_callV (ci := 5) C ml_X5_68 im_X5_hasRoomBelow se_X5_hasRoomBelow rfl (by decide) (kw_room (d := d - 1) K T hp hpk) (by omega) dX5_keeper_24 K.isT rfl rfl (by simp [Value.category]) (fun v_24 h_24 hp_ => ?_) (fun _ _ hf => hf.elim)
  rw [if_neg hro] at hp_
  obtain ⟨rfl, e_24⟩ := hp_
  rw [e_24]
  exact hp_callS C ml_X5_48 sm_X5_wantState (kw_sn (d := d - 1) (by omega) hR1 hR2) (by omega) dX5_keeper_27 rfl rfl (by simp [Value.category]) (fun _ _ hf => hf.elim) (fun E_1 h_1 hq => hp_out C hx hq)
/-- keeper: the state behind it -/
def a_kpr (p : Nat) (v : Nat → Int) (a : aS) : aS := if a_nd a 3 p = 1 then (a_go (a_fu (a_add p v a) (a_mk a)) (a_mk a) (a_add p v a)).2 else a_add p v a
/-- worker: the answer, and the state behind it -/
def a_wkr (p : Nat) (v : Nat → Int) (a : aS) : Int32 × aS := if a_nd a 3 p = 1 then (if (a_go (a_fu (a_add p v a) (a_mk a)) (a_mk a) (a_add p v a)).1 = true then (nI (a_mk a), (a_go (a_fu (a_add p v a) (a_mk a)) (a_mk a) (a_add p v a)).2) else (-1, (a_dis (a_fu (a_add p v a) (a_mk a)) p (a_mk a) (a_ix (a_mk a) (a_rw (a_go (a_fu (a_add p v a) (a_mk a)) (a_mk a) (a_add p v a)).2 p)) (a_go (a_fu (a_add p v a) (a_mk a)) (a_mk a) (a_add p v a)).2).2)) else (nI (a_mk a), a_add p v a)
set_option maxRecDepth 20000 in
set_option maxHeartbeats 4000000 in
theorem kp_keeper {l : Launch} {G : hpG} {pr : Nat → Prop} {B : hpT} {N S : Nat} {h : hpT} {κ : kS} {a : aS} {d : Nat} (K : KR G pr B N S h κ a) {p : Nat} (T : a_T a) (hp : p < a_mk a) (h3 : ¬ a_nd a 3 p = 2) (hpk : a_nd a 0 p = 1) {kn sg r t : Int32} (hk : (0 ≤ kn.toInt ∧ kn.toInt ≤ 2)) (hb : (0 ≤ sg.toInt ∧ sg.toInt ≤ 2) ∧ (0 ≤ r.toInt ∧ r.toInt ≤ 50) ∧ (1 ≤ t.toInt ∧ t.toInt ≤ 1000)) (hro : a_mk a < 80 ∧ a_nd a 2 p < 8) (hR1 : hp_nx h + 50 ≤ hp_n0 G + hp_LC) (hR2 : hp_sl h + 9000 ≤ hp_LS) (hl : (a_ev (a_kpr p (a_vK p (a_nd a 2 p) kn.toInt sg.toInt r.toInt t.toInt) a)).length < 2 ^ 30) (hd : 45 ≤ d) : hp_C l G yX5_keeper (.code yX5_keeper cX5_keeper 8 (some .int)) d [.ref (κ.1 5 0), .int (nI p), .int kn, .int sg, .int r, .int t] (h) (fun v h' => v = some (.int (nI (a_mk a))) ∧ ∃ κ', KR G pr B (N + 5) (S + 160) h' κ' (a_kpr p (a_vK p (a_nd a 2 p) kn.toInt sg.toInt r.toInt t.toInt) a) ∧ κ'.1 5 = κ.1 5) (fun _ _ => False) := by
  have q0 : (0 : Int32).toInt = 0 := by decide
  have qm : (-1 : Int32).toInt = -1 := by decide
  have q2 : (2 : Int32).toInt = 2 := by decide
  have q50 : (50 : Int32).toInt = 50 := by decide
  have q100 : (100 : Int32).toInt = 100 := by decide
  have q1000 : (1000 : Int32).toInt = 1000 := by decide
  have h80 := hro.1
  have h8 := hro.2
  have hn0 : hp_n0 G ≤ hp_nx h := by have := K.isT.1; have := K.isT.2.1; omega
  unfold a_kpr at hl ⊢
  refine hp_ofV (by decide) (by simp [Value.category]) (Nat.le_of_ble_eq_true rfl) (fun M C hr hx el => ?_)
  refine hp_aload_nR C dX5_keeper_0 rfl ?_
  refine hp_iload_n C dX5_keeper_1 rfl ?_
  refine hp_callV (ci := 5) C ml_X5_61 im_X5_keeperAt se_X5_keeperAt rfl (by decide) (kw_keeper (d := d - 1) K T hp h3 hpk (by omega)) (by omega) dX5_keeper_2 K.isT rfl rfl (by simp [Value.category]) (fun v_2 h_2 hp => ?_) (fun _ _ hf => hf.elim)
  obtain ⟨rfl, e_2⟩ := hp
  rw [e_2]
  refine hp_astore (r := some _) C dX5_keeper_5 (by decide) ?_
  refine hp_iload_n C dX5_keeper_7 rfl ?_
  refine hp_iconst (v := 0) C dX5_keeper_8 (by decide) ?_
  refine hp_iconst (v := 2) C dX5_keeper_9 (by decide) ?_
  refine hp_callS C ml_X5_65 sm_X5_wantWithin (kw_in (d := d - 1) (by omega) (by omega)) (by omega) dX5_keeper_10 rfl rfl (by simp [Value.category]) (fun v_10 h_10 hp => ?_) (fun _ _ hf => hf.elim)
  obtain ⟨rfl, e_10⟩ := hp
  rw [e_10]
  refine hp_iload_n C dX5_keeper_13 rfl ?_
  refine hp_iload C dX5_keeper_14 rfl ?_
  refine hp_iload C dX5_keeper_16 rfl ?_
  refine hp_callS C ml_X5_41 sm_X5_wantBounds (kw_bd (d := d - 1) hb.1 hb.2.1 hb.2.2 (by omega)) (by omega) dX5_keeper_18 rfl rfl (by simp [Value.category]) (fun v_18 h_18 hp => ?_) (fun _ _ hf => hf.elim)
  obtain ⟨rfl, e_18⟩ := hp
  rw [e_18]
  refine hp_aload_nR C dX5_keeper_21 rfl ?_
  refine hp_aloadR C dX5_keeper_22 rfl ?_
  refine hp_callV (ci := 5) C ml_X5_68 im_X5_hasRoomBelow se_X5_hasRoomBelow rfl (by decide) (kw_room (d := d - 1) K T hp hpk) (by omega) dX5_keeper_24 K.isT rfl rfl (by simp [Value.category]) (fun v_24 h_24 hp_ => ?_) (fun _ _ hf => hf.elim)
  rw [if_pos hro] at hp_
  obtain ⟨rfl, e_24⟩ := hp_
  rw [e_24]
  refine hp_callS C ml_X5_48 sm_X5_wantState (kw_st (d := d - 1)) (by omega) dX5_keeper_27 rfl rfl (by simp [Value.category]) (fun v_27 h_27 hp => ?_) (fun _ _ hf => hf.elim)
  obtain ⟨rfl, e_27⟩ := hp
  rw [e_27]
  refine hp_new C nl_X5_22 dX5_keeper_30 (by omega) (by omega) ?_
  refine hp_dup C dX5_keeper_33 rfl ?_
  refine hp_aload_nR C dX5_keeper_34 rfl ?_
  refine hp_get C fl_X5_31_5 dX5_keeper_35 (K.isT.mk 2 10) ((va_up_ne _ _ (Nat.ne_of_lt K.isT.2.1)).trans K.f163) ?_
  refine hp_aloadR C dX5_keeper_38 rfl ?_
  refine hp_iload_n C dX5_keeper_40 rfl ?_
  refine hp_iload_n C dX5_keeper_41 rfl ?_
  refine hp_iload C dX5_keeper_42 rfl ?_
  refine hp_iload C dX5_keeper_44 rfl ?_
  refine hp_callI C ml_X5_24 im_X1_init rfl (kc_keJ (d := d - 1) (by omega) (hp_isN hn0 2 10) ((K.isK hp hpk).mk 2 10) ((va_up_ne _ _ (Nat.ne_of_lt (K.isK hp hpk).2.1)).trans (K.f66 hp)) ⟨by show hp_nx h + 1 + 40 ≤ _; omega, by show hp_sl h + 10 + 8000 ≤ _; omega⟩) (by omega) dX5_keeper_46 rfl rfl (by simp [Value.category]) (fun v_1 h_1 hp_ => ?_)
  obtain ⟨rfl, e_1⟩ := hp_
  rw [e_1]
  refine hp_astore (r := some _) C dX5_keeper_49 (by decide) ?_
  refine hp_aload_nR C dX5_keeper_51 rfl ?_
  refine hp_aloadR C dX5_keeper_52 rfl ?_
  refine hp_aloadR C dX5_keeper_54 rfl ?_
  have hfg : hp_fg 0 h (kc_Keep G (hp_mk h 2 10) (hp_nx h) (nI (a_mk a)) (some (κ.1 0 p)) (Int32.ofInt (a_nd a 2 p) + 1) kn sg r t) := (hp_fg.rf.mk 2 10).keep G _ _ _ _ _ _ _ (Nat.le_refl _)
  have F64 : hp_fl (kc_Keep G (hp_mk h 2 10) (hp_nx h) (nI (a_mk a)) (some (κ.1 0 p)) (Int32.ofInt (a_nd a 2 p) + 1) kn sg r t) 64 (hp_nx h) = .int (nI (a_mk a)) := kc_Keep_f64 (Nat.lt_succ_self _)
  have Fi : hp_is G (kc_Keep G (hp_mk h 2 10) (hp_nx h) (nI (a_mk a)) (some (κ.1 0 p)) (Int32.ofInt (a_nd a 2 p) + 1) kn sg r t) (hp_nx h) 2 := ⟨hn0, by show hp_nx h < hp_nx h + 4; omega, (kc_Keep_kd _).trans (by show va_up (va_up (va_up (va_up (hp_kd h) (hp_nx h) 2) (hp_nx h + 1) 0) (hp_nx h + 1 + 1) 3) (hp_nx h + 1 + 2) 10 (hp_nx h) = 2; rw [va_up_ne _ _ (by omega), va_up_ne _ _ (by omega), va_up_ne _ _ (by omega), va_up_self])⟩
  have Fn : hp_nx (kc_Keep G (hp_mk h 2 10) (hp_nx h) (nI (a_mk a)) (some (κ.1 0 p)) (Int32.ofInt (a_nd a 2 p) + 1) kn sg r t) = hp_nx h + 4 := rfl
  have Fs : hp_sl (kc_Keep G (hp_mk h 2 10) (hp_nx h) (nI (a_mk a)) (some (κ.1 0 p)) (Int32.ofInt (a_nd a 2 p) + 1) kn sg r t) = hp_sl h + 23 := rfl
  generalize hH2 : (kc_Keep G (hp_mk h 2 10) (hp_nx h) (nI (a_mk a)) (some (κ.1 0 p)) (Int32.ofInt (a_nd a 2 p) + 1) kn sg r t) = h2 at *
  have old : ∀ b, b < hp_nx h → hp_kd h2 b = hp_kd h b ∧ hp_ln h2 b = hp_ln h b ∧ (∀ f, hp_fl h2 f b = hp_fl h f b) ∧ hp_ar h2 b = hp_ar h b := fun b hb => hfg.2 b (Nat.zero_le _) hb
  have iso : ∀ b k, hp_is G h b k → hp_is G h2 b k := fun b k z => ⟨z.1, by have := z.2.1; omega, (old b z.2.1).1.trans z.2.2⟩
  have flo : ∀ b, b < hp_nx h → ∀ f v, hp_fl h f b = v → hp_fl h2 f b = v := fun b hb f v z => ((old b hb).2.2.1 f).trans z
  have he : (a_rw a p = [] ∧ κ.1 2 p = hp_dE G) ∨ (k_is G pr h (κ.1 2 p) 13 ∧ (a_rw a p).length ≤ hp_ln h (κ.1 2 p)) := K.isE hp hpk
  have hel : hp_els G h2 (hp_ar h2 (κ.1 2 p)) (a_rw a p).length := fun i hi => by
    obtain ⟨hc, -, -⟩ := T.rc hp (k_rc T hp hi)
    have ea : hp_ar h2 (κ.1 2 p) i = .ref (κ.1 0 ((a_rw a p).getD i 0)) := by
      rw [(old _ (K.isE2 hp hpk hi).1.1.2.1).2.2.2]
      exact K.elt hp hpk hi
    rcases T.kb hc with hb_ | hb_
    · exact Or.inr ⟨_, 4, _, ea, iso _ _ (K.isW hc hb_), by decide, rfl, by decide⟩
    · exact Or.inr ⟨_, 2, _, ea, iso _ _ (K.isK hc hb_), by decide, rfl, by decide⟩
  have hE2 : ((a_rw a p).length = 0 ∧ κ.1 2 p = hp_dE G) ∨ (hp_is G h2 (κ.1 2 p) 13 ∧ (a_rw a p).length ≤ hp_ln h2 (κ.1 2 p)) := by
    rcases he with z | z
    · exact Or.inl ⟨by rw [z.1]; rfl, z.2⟩
    · exact Or.inr ⟨iso _ _ z.1.1, by rw [(old _ z.1.1.2.1).2.1]; exact z.2⟩
  have hqe : κ.1 2 p ≠ κ.1 5 7 := fun z => by
    rcases he with e | e
    · have z1 := K.isM.1.1
      rw [← z, e.2] at z1
      have := hp_dlt C
      omega
    · have z2 := e.1.1.2.2
      have z1 := K.isM.1.2.2
      rw [z, z1] at z2
      cases z2
  refine hp_callV (ci := 5) C ml_X5_72 im_X5_join se_X5_join rfl (by decide) (kj_join (d := d - 1) (mc := κ.2.1 p) (ci := 2) (iso _ _ K.isT) (flo _ K.isT.2.1 _ _ K.f161) (iso _ _ K.isM.1) ((old _ K.isM.1.2.1).2.1.trans K.isM.2) h80 F64 (iso _ _ (K.isK hp hpk)) (flo _ (K.isK hp hpk).2.1 _ _ (K.f69 hp hpk)) (flo _ K.isT.2.1 _ _ K.f163) (iso _ _ (K.isL hp hpk)) (flo _ (K.isL hp hpk).2.1 _ _ (K.f0 hp hpk)) (flo _ (K.isL hp hpk).2.1 _ _ (K.f1 hp hpk)) (flo _ (K.isL hp hpk).2.1 _ _ (K.f2 hp hpk)) hE2 hqe hel (T.rl hp) Fi (by decide) rfl (by decide) (by decide) fl_X5_167_2 rfl ⟨by omega, by omega⟩ (by omega)) (by omega) dX5_keeper_56 (iso _ _ K.isT) rfl rfl (by simp [Value.category]) (fun v_2 h_2 hp_ => ?_) (fun _ _ hf => hf.elim)
  obtain ⟨rfl, h3_, A_, e_2⟩ := hp_
  rw [e_2]
  rw [← hH2] at A_
  obtain ⟨κ1, K1, g0, g5, gx⟩ := K.mkK T (hp_dlt C) hp hpk h80 A_
  generalize hp_put h3_ 163 (κ.1 5 0) (.int (nI (a_mk a + 1))) = H1 at K1 ⊢
  clear A_ hel hE2 hqe iso flo old hH2 Fi F64 hfg
  have T1 : a_T (a_add p (a_vK p (a_nd a 2 p) kn.toInt sg.toInt r.toInt t.toInt) a) := a_add_T T hp hpk h80 h8 (Or.inr rfl) rfl rfl rfl hk hb.1 hb.2.1 ⟨by have := hb.2.2.1; show 0 ≤ t.toInt; omega, hb.2.2.2⟩ (by show (-1 : Int) ≤ 0 ∧ (0 : Int) ≤ 1000; omega) (by show (0 : Int) ≤ 0 ∧ (0 : Int) ≤ 100; omega) (by show (0 : Int) ≤ 0 ∧ (0 : Int) ≤ 100; omega) (by show (0 : Int) ≤ 0 ∧ (0 : Int) ≤ 50; omega)
  have e3p : a_nd (a_add p (a_vK p (a_nd a 2 p) kn.toInt sg.toInt r.toInt t.toInt) a) 3 p = a_nd a 3 p := if_neg (Nat.ne_of_lt hp)
  have hnn : ∀ f, a_nd (a_add p (a_vK p (a_nd a 2 p) kn.toInt sg.toInt r.toInt t.toInt) a) f (a_mk a) = (a_vK p (a_nd a 2 p) kn.toInt sg.toInt r.toInt t.toInt) f := fun f => if_pos rfl
  have hnk : a_nd (a_add p (a_vK p (a_nd a 2 p) kn.toInt sg.toInt r.toInt t.toInt) a) 0 (a_mk a) = 1 := hnn 0
  have hn1 : a_mk a < a_mk (a_add p (a_vK p (a_nd a 2 p) kn.toInt sg.toInt r.toInt t.toInt) a) := Nat.lt_succ_self _
  have hp1 : p < a_mk (a_add p (a_vK p (a_nd a 2 p) kn.toInt sg.toInt r.toInt t.toInt) a) := Nat.lt_succ_of_lt hp
  have hpk1 : a_nd (a_add p (a_vK p (a_nd a 2 p) kn.toInt sg.toInt r.toInt t.toInt) a) 0 p = 1 := (if_neg (Nat.ne_of_lt hp)).trans hpk
  have r3 := T.r3 hp
  have r2 := T1.r2 hn1
  have hfu : (9 : Int) ≤ (a_fu (a_add p (a_vK p (a_nd a 2 p) kn.toInt sg.toInt r.toInt t.toInt) a) (a_mk a) : Int) + a_nd (a_add p (a_vK p (a_nd a 2 p) kn.toInt sg.toInt r.toInt t.toInt) a) 2 (a_mk a) := by
    have e : a_fu (a_add p (a_vK p (a_nd a 2 p) kn.toInt sg.toInt r.toInt t.toInt) a) (a_mk a) = (9 - a_nd (a_add p (a_vK p (a_nd a 2 p) kn.toInt sg.toInt r.toInt t.toInt) a) 2 (a_mk a)).toNat := rfl
    omega
  have hfu9 : a_fu (a_add p (a_vK p (a_nd a 2 p) kn.toInt sg.toInt r.toInt t.toInt) a) (a_mk a) ≤ 9 := by
    have e : a_fu (a_add p (a_vK p (a_nd a 2 p) kn.toInt sg.toInt r.toInt t.toInt) a) (a_mk a) = (9 - a_nd (a_add p (a_vK p (a_nd a 2 p) kn.toInt sg.toInt r.toInt t.toInt) a) 2 (a_mk a)).toNat := rfl
    omega
  generalize ha1 : a_add p (a_vK p (a_nd a 2 p) kn.toInt sg.toInt r.toInt t.toInt) a = a1 at *
  refine hp_aloadR C dX5_keeper_59 (show (_ : Option Value) = some (Value.ref (κ1.1 0 p)) from by rw [g0 p hp]; rfl) ?_
  refine hp_get C fl_X5_45_2 dX5_keeper_61 (K1.isK hp1 hpk1) (K1.f68 hp1) ?_
  refine hp_iconst (v := 1) C dX5_keeper_64 (by decide) ?_
  refine hp_icmp_ne (tgt := 78) C dX5_keeper_65 (by decide) (fun c_65 => ?_) (fun c_65 => ?_)
  · have hu : ¬ a_nd a 3 p = 1 := fun e => c_65 (by rw [e3p, e]; decide)
    rw [if_neg hu]
    refine hp_aloadR C dX5_keeper_78 (show (_ : Option Value) = some (Value.ref (κ1.1 0 (a_mk a))) from by rw [gx]; rfl) ?_
    refine hp_get C fl_X5_80_2 dX5_keeper_80 (K1.isK hn1 hnk) (K1.f64 hn1) ?_
    refine hp_iret C hr rfl dX5_keeper_83 ?_
    exact ⟨rfl, κ1, K1, g5⟩
  · have hu : a_nd a 3 p = 1 := by
      rw [← e3p]
      exact (a_ofI_eq (x := a_nd a1 3 p) (y := 1) (by rw [e3p]; omega) (by omega)).mp c_65
    rw [if_pos hu] at hl ⊢
    refine hp_aloadR C dX5_keeper_68 (show (_ : Option Value) = some (Value.ref (κ1.1 0 (a_mk a))) from by rw [gx]; rfl) ?_
    refine hp_aload_nR C dX5_keeper_70 (show (_ : Option Value) = some (Value.ref (κ1.1 5 0)) from by rw [g5]; rfl) ?_
    refine hp_get C fl_X5_10_5 dX5_keeper_71 K1.isT K1.f160 ?_
    refine hp_callV (ci := 2) C ml_X5_76 im_X1_rise se_X1_rise rfl (by decide) ((kc_rise (a_fu a1 (a_mk a)) (a_mk a) a1 _ κ1.2.2 (d - 1) (γ := κ1.1) (μ := κ1.2.1) K1 T1 hn1 hfu (by omega) hl).1 hnk) (by omega) dX5_keeper_74 (K1.isK hn1 hnk) rfl rfl (by simp [Value.category]) (fun v_74 h_74 hp_ => ?_) (fun _ _ hf => hf.elim)
    obtain ⟨rfl, ρ1, K_74⟩ := hp_
    refine hp_pop C dX5_keeper_77 rfl ?_
    refine hp_aloadR C dX5_keeper_78 (show (_ : Option Value) = some (Value.ref (κ1.1 0 (a_mk a))) from by rw [gx]; rfl) ?_
    refine hp_get C fl_X5_80_2 dX5_keeper_80 (K_74.isK (by rw [(a_go_kp _ _ _).mk]; exact hn1) (by rw [(a_go_kp _ _ _).nd]; exact hnk)) (K_74.f64 (by rw [(a_go_kp _ _ _).mk]; exact hn1)) ?_
    refine hp_iret C hr rfl dX5_keeper_83 ?_
    exact ⟨rfl, (κ1.1, κ1.2.1, ρ1), K_74, g5⟩
set_option maxRecDepth 20000 in
set_option maxHeartbeats 4000000 in
theorem kp_workerX {l : Launch} {G : hpG} {pr : Nat → Prop} {B : hpT} {N S : Nat} {h : hpT} {κ : kS} {a : aS} {d : Nat} (K : KR G pr B N S h κ a) {x kn pa st sp fa : Int32} (T : a_T a) (hbad : ∀ n, n < a_mk a → x = nI n → a_nd a 0 n = 1 → a_nd a 3 n = 2) (hd : 11 ≤ d) (hR1 : hp_nx h + 1 ≤ hp_n0 G + hp_LC) (hR2 : hp_sl h + 6 ≤ hp_LS) : hp_C l G yX5_worker (.code yX5_worker cX5_worker 9 (some .int)) d [.ref (κ.1 5 0), .int x, .int kn, .int pa, .int st, .int sp, .int fa] (h) (fun _ _ => False) (fun E h' => E = "java/lang/IllegalArgumentException" ∧ h' = hp_mkX h) := by
  refine hp_ofV (by decide) (by simp [Value.category]) (Nat.le_of_ble_eq_true rfl) (fun M C hr hx el => ?_)
  refine hp_aload_nR C dX5_worker_0 rfl ?_
  refine hp_iload_n C dX5_worker_1 rfl ?_
  exact hp_callV (ci := 5) C ml_X5_61 im_X5_keeperAt se_X5_keeperAt rfl (by decide) (kw_keeperX (d := d - 1) K T hbad (by omega) hR1 hR2) (by omega) dX5_worker_2 K.isT rfl rfl (by simp [Value.category]) (fun _ _ hf => hf.elim) (fun E_1 h_1 hq => hp_out C hx hq)
set_option maxRecDepth 20000 in
set_option maxHeartbeats 4000000 in
theorem kp_workerY {l : Launch} {G : hpG} {pr : Nat → Prop} {B : hpT} {N S : Nat} {h : hpT} {κ : kS} {a : aS} {d : Nat} (K : KR G pr B N S h κ a) {p : Nat} (T : a_T a) (hp : p < a_mk a) (h3 : ¬ a_nd a 3 p = 2) (hpk : a_nd a 0 p = 1) {kn pa st sp fa : Int32} (hz : ¬ ((0 ≤ kn.toInt ∧ kn.toInt ≤ 2) ∧ (-1 ≤ pa.toInt ∧ pa.toInt ≤ 1000) ∧ (0 ≤ st.toInt ∧ st.toInt ≤ 100) ∧ (0 ≤ sp.toInt ∧ sp.toInt ≤ 100) ∧ (0 ≤ fa.toInt ∧ fa.toInt ≤ 50))) (hd : 11 ≤ d) (hR1 : hp_nx h + 1 ≤ hp_n0 G + hp_LC) (hR2 : hp_sl h + 6 ≤ hp_LS) : hp_C l G yX5_worker (.code yX5_worker cX5_worker 9 (some .int)) d [.ref (κ.1 5 0), .int (nI p), .int kn, .int pa, .int st, .int sp, .int fa] (h) (fun _ _ => False) (fun E h' => E = "java/lang/IllegalArgumentException" ∧ h' = hp_mkX h) := by
  have q0 : (0 : Int32).toInt = 0 := by decide
  have qm : (-1 : Int32).toInt = -1 := by decide
  have q2 : (2 : Int32).toInt = 2 := by decide
  have q50 : (50 : Int32).toInt = 50 := by decide
  have q100 : (100 : Int32).toInt = 100 := by decide
  have q1000 : (1000 : Int32).toInt = 1000 := by decide
  refine hp_ofV (by decide) (by simp [Value.category]) (Nat.le_of_ble_eq_true rfl) (fun M C hr hx el => ?_)
  by_cases hk : ¬ (0 ≤ kn.toInt ∧ kn.toInt ≤ 2)
  · refine hp_aload_nR C dX5_worker_0 rfl ?_
    refine hp_iload_n C dX5_worker_1 rfl ?_
    refine hp_callV (ci := 5) C ml_X5_61 im_X5_keeperAt se_X5_keeperAt rfl (by decide) (kw_keeper (d := d - 1) K T hp h3 hpk (by omega)) (by omega) dX5_worker_2 K.isT rfl rfl (by simp [Value.category]) (fun v_2 h_2 hp => ?_) (fun _ _ hf => hf.elim)
    obtain ⟨rfl, e_2⟩ := hp
    rw [e_2]
    refine hp_astore (r := some _) C dX5_worker_5 (by decide) ?_
    refine hp_iload_n C dX5_worker_7 rfl ?_
    refine hp_iconst (v := 0) C dX5_worker_8 (by decide) ?_
    refine hp_iconst (v := 2) C dX5_worker_9 (by decide) ?_
    exact hp_callS C ml_X5_65 sm_X5_wantWithin (kw_out (d := d - 1) (by rw [q0, q2]; exact hk) (by omega) hR1 hR2) (by omega) dX5_worker_10 rfl rfl (by simp [Value.category]) (fun _ _ hf => hf.elim) (fun E_1 h_1 hq => hp_out C hx hq)
  have hk := Classical.not_not.mp hk
  by_cases c1 : ¬ (-1 ≤ pa.toInt ∧ pa.toInt ≤ 1000)
  · refine hp_aload_nR C dX5_worker_0 rfl ?_
    refine hp_iload_n C dX5_worker_1 rfl ?_
    refine hp_callV (ci := 5) C ml_X5_61 im_X5_keeperAt se_X5_keeperAt rfl (by decide) (kw_keeper (d := d - 1) K T hp h3 hpk (by omega)) (by omega) dX5_worker_2 K.isT rfl rfl (by simp [Value.category]) (fun v_2 h_2 hp => ?_) (fun _ _ hf => hf.elim)
    obtain ⟨rfl, e_2⟩ := hp
    rw [e_2]
    refine hp_astore (r := some _) C dX5_worker_5 (by decide) ?_
    refine hp_iload_n C dX5_worker_7 rfl ?_
    refine hp_iconst (v := 0) C dX5_worker_8 (by decide) ?_
    refine hp_iconst (v := 2) C dX5_worker_9 (by decide) ?_
    refine hp_callS C ml_X5_65 sm_X5_wantWithin (kw_in (d := d - 1) (by omega) (by omega)) (by omega) dX5_worker_10 rfl rfl (by simp [Value.category]) (fun v_10 h_10 hp => ?_) (fun _ _ hf => hf.elim)
    obtain ⟨rfl, e_10⟩ := hp
    rw [e_10]
    refine hp_iload_n C dX5_worker_13 rfl ?_
    refine hp_iconst (v := (-1)) C dX5_worker_14 (by decide) ?_
    refine hp_sipush (v := 1000) C dX5_worker_15 (by decide) ?_
    exact hp_callS C ml_X5_65 sm_X5_wantWithin (kw_out (d := d - 1) (by rw [qm, q1000]; exact c1) (by omega) hR1 hR2) (by omega) dX5_worker_18 rfl rfl (by simp [Value.category]) (fun _ _ hf => hf.elim) (fun E_1 h_1 hq => hp_out C hx hq)
  have c1 := Classical.not_not.mp c1
  by_cases c2 : ¬ (0 ≤ st.toInt ∧ st.toInt ≤ 100)
  · refine hp_aload_nR C dX5_worker_0 rfl ?_
    refine hp_iload_n C dX5_worker_1 rfl ?_
    refine hp_callV (ci := 5) C ml_X5_61 im_X5_keeperAt se_X5_keeperAt rfl (by decide) (kw_keeper (d := d - 1) K T hp h3 hpk (by omega)) (by omega) dX5_worker_2 K.isT rfl rfl (by simp [Value.category]) (fun v_2 h_2 hp => ?_) (fun _ _ hf => hf.elim)
    obtain ⟨rfl, e_2⟩ := hp
    rw [e_2]
    refine hp_astore (r := some _) C dX5_worker_5 (by decide) ?_
    refine hp_iload_n C dX5_worker_7 rfl ?_
    refine hp_iconst (v := 0) C dX5_worker_8 (by decide) ?_
    refine hp_iconst (v := 2) C dX5_worker_9 (by decide) ?_
    refine hp_callS C ml_X5_65 sm_X5_wantWithin (kw_in (d := d - 1) (by omega) (by omega)) (by omega) dX5_worker_10 rfl rfl (by simp [Value.category]) (fun v_10 h_10 hp => ?_) (fun _ _ hf => hf.elim)
    obtain ⟨rfl, e_10⟩ := hp
    rw [e_10]
    refine hp_iload_n C dX5_worker_13 rfl ?_
    refine hp_iconst (v := (-1)) C dX5_worker_14 (by decide) ?_
    refine hp_sipush (v := 1000) C dX5_worker_15 (by decide) ?_
    refine hp_callS C ml_X5_65 sm_X5_wantWithin (kw_in (d := d - 1) (by omega) (by omega)) (by omega) dX5_worker_18 rfl rfl (by simp [Value.category]) (fun v_18 h_18 hp => ?_) (fun _ _ hf => hf.elim)
    obtain ⟨rfl, e_18⟩ := hp
    rw [e_18]
    refine hp_iload C dX5_worker_21 rfl ?_
    refine hp_iconst (v := 0) C dX5_worker_23 (by decide) ?_
    refine hp_bipush (v := 100) C dX5_worker_24 (by decide) ?_
    exact hp_callS C ml_X5_65 sm_X5_wantWithin (kw_out (d := d - 1) (by rw [q0, q100]; exact c2) (by omega) hR1 hR2) (by omega) dX5_worker_26 rfl rfl (by simp [Value.category]) (fun _ _ hf => hf.elim) (fun E_1 h_1 hq => hp_out C hx hq)
  have c2 := Classical.not_not.mp c2
  by_cases c3 : ¬ (0 ≤ sp.toInt ∧ sp.toInt ≤ 100)
  · refine hp_aload_nR C dX5_worker_0 rfl ?_
    refine hp_iload_n C dX5_worker_1 rfl ?_
    refine hp_callV (ci := 5) C ml_X5_61 im_X5_keeperAt se_X5_keeperAt rfl (by decide) (kw_keeper (d := d - 1) K T hp h3 hpk (by omega)) (by omega) dX5_worker_2 K.isT rfl rfl (by simp [Value.category]) (fun v_2 h_2 hp => ?_) (fun _ _ hf => hf.elim)
    obtain ⟨rfl, e_2⟩ := hp
    rw [e_2]
    refine hp_astore (r := some _) C dX5_worker_5 (by decide) ?_
    refine hp_iload_n C dX5_worker_7 rfl ?_
    refine hp_iconst (v := 0) C dX5_worker_8 (by decide) ?_
    refine hp_iconst (v := 2) C dX5_worker_9 (by decide) ?_
    refine hp_callS C ml_X5_65 sm_X5_wantWithin (kw_in (d := d - 1) (by omega) (by omega)) (by omega) dX5_worker_10 rfl rfl (by simp [Value.category]) (fun v_10 h_10 hp => ?_) (fun _ _ hf => hf.elim)
    obtain ⟨rfl, e_10⟩ := hp
    rw [e_10]
    refine hp_iload_n C dX5_worker_13 rfl ?_
    refine hp_iconst (v := (-1)) C dX5_worker_14 (by decide) ?_
    refine hp_sipush (v := 1000) C dX5_worker_15 (by decide) ?_
    refine hp_callS C ml_X5_65 sm_X5_wantWithin (kw_in (d := d - 1) (by omega) (by omega)) (by omega) dX5_worker_18 rfl rfl (by simp [Value.category]) (fun v_18 h_18 hp => ?_) (fun _ _ hf => hf.elim)
    obtain ⟨rfl, e_18⟩ := hp
    rw [e_18]
    refine hp_iload C dX5_worker_21 rfl ?_
    refine hp_iconst (v := 0) C dX5_worker_23 (by decide) ?_
    refine hp_bipush (v := 100) C dX5_worker_24 (by decide) ?_
    refine hp_callS C ml_X5_65 sm_X5_wantWithin (kw_in (d := d - 1) (by omega) (by omega)) (by omega) dX5_worker_26 rfl rfl (by simp [Value.category]) (fun v_26 h_26 hp => ?_) (fun _ _ hf => hf.elim)
    obtain ⟨rfl, e_26⟩ := hp
    rw [e_26]
    refine hp_iload C dX5_worker_29 rfl ?_
    refine hp_iconst (v := 0) C dX5_worker_31 (by decide) ?_
    refine hp_bipush (v := 100) C dX5_worker_32 (by decide) ?_
    exact hp_callS C ml_X5_65 sm_X5_wantWithin (kw_out (d := d - 1) (by rw [q0, q100]; exact c3) (by omega) hR1 hR2) (by omega) dX5_worker_34 rfl rfl (by simp [Value.category]) (fun _ _ hf => hf.elim) (fun E_1 h_1 hq => hp_out C hx hq)
  have c3 := Classical.not_not.mp c3
  by_cases c4 : ¬ (0 ≤ fa.toInt ∧ fa.toInt ≤ 50)
  · refine hp_aload_nR C dX5_worker_0 rfl ?_
    refine hp_iload_n C dX5_worker_1 rfl ?_
    refine hp_callV (ci := 5) C ml_X5_61 im_X5_keeperAt se_X5_keeperAt rfl (by decide) (kw_keeper (d := d - 1) K T hp h3 hpk (by omega)) (by omega) dX5_worker_2 K.isT rfl rfl (by simp [Value.category]) (fun v_2 h_2 hp => ?_) (fun _ _ hf => hf.elim)
    obtain ⟨rfl, e_2⟩ := hp
    rw [e_2]
    refine hp_astore (r := some _) C dX5_worker_5 (by decide) ?_
    refine hp_iload_n C dX5_worker_7 rfl ?_
    refine hp_iconst (v := 0) C dX5_worker_8 (by decide) ?_
    refine hp_iconst (v := 2) C dX5_worker_9 (by decide) ?_
    refine hp_callS C ml_X5_65 sm_X5_wantWithin (kw_in (d := d - 1) (by omega) (by omega)) (by omega) dX5_worker_10 rfl rfl (by simp [Value.category]) (fun v_10 h_10 hp => ?_) (fun _ _ hf => hf.elim)
    obtain ⟨rfl, e_10⟩ := hp
    rw [e_10]
    refine hp_iload_n C dX5_worker_13 rfl ?_
    refine hp_iconst (v := (-1)) C dX5_worker_14 (by decide) ?_
    refine hp_sipush (v := 1000) C dX5_worker_15 (by decide) ?_
    refine hp_callS C ml_X5_65 sm_X5_wantWithin (kw_in (d := d - 1) (by omega) (by omega)) (by omega) dX5_worker_18 rfl rfl (by simp [Value.category]) (fun v_18 h_18 hp => ?_) (fun _ _ hf => hf.elim)
    obtain ⟨rfl, e_18⟩ := hp
    rw [e_18]
    refine hp_iload C dX5_worker_21 rfl ?_
    refine hp_iconst (v := 0) C dX5_worker_23 (by decide) ?_
    refine hp_bipush (v := 100) C dX5_worker_24 (by decide) ?_
    refine hp_callS C ml_X5_65 sm_X5_wantWithin (kw_in (d := d - 1) (by omega) (by omega)) (by omega) dX5_worker_26 rfl rfl (by simp [Value.category]) (fun v_26 h_26 hp => ?_) (fun _ _ hf => hf.elim)
    obtain ⟨rfl, e_26⟩ := hp
    rw [e_26]
    refine hp_iload C dX5_worker_29 rfl ?_
    refine hp_iconst (v := 0) C dX5_worker_31 (by decide) ?_
    refine hp_bipush (v := 100) C dX5_worker_32 (by decide) ?_
    refine hp_callS C ml_X5_65 sm_X5_wantWithin (kw_in (d := d - 1) (by omega) (by omega)) (by omega) dX5_worker_34 rfl rfl (by simp [Value.category]) (fun v_34 h_34 hp => ?_) (fun _ _ hf => hf.elim)
    obtain ⟨rfl, e_34⟩ := hp
    rw [e_34]
    refine hp_iload C dX5_worker_37 rfl ?_
    refine hp_iconst (v := 0) C dX5_worker_39 (by decide) ?_
    refine hp_bipush (v := 50) C dX5_worker_40 (by decide) ?_
    exact hp_callS C ml_X5_65 sm_X5_wantWithin (kw_out (d := d - 1) (by rw [q0, q50]; exact c4) (by omega) hR1 hR2) (by omega) dX5_worker_42 rfl rfl (by simp [Value.category]) (fun _ _ hf => hf.elim) (fun E_1 h_1 hq => hp_out C hx hq)
  have c4 := Classical.not_not.mp c4
  exact absurd ⟨hk, c1, c2, c3, c4⟩ hz
set_option maxRecDepth 20000 in
set_option maxHeartbeats 4000000 in
theorem kp_workerS {l : Launch} {G : hpG} {pr : Nat → Prop} {B : hpT} {N S : Nat} {h : hpT} {κ : kS} {a : aS} {d : Nat} (K : KR G pr B N S h κ a) {p : Nat} (T : a_T a) (hp : p < a_mk a) (h3 : ¬ a_nd a 3 p = 2) (hpk : a_nd a 0 p = 1) {kn pa st sp fa : Int32} (hk : (0 ≤ kn.toInt ∧ kn.toInt ≤ 2)) (hb : (-1 ≤ pa.toInt ∧ pa.toInt ≤ 1000) ∧ (0 ≤ st.toInt ∧ st.toInt ≤ 100) ∧ (0 ≤ sp.toInt ∧ sp.toInt ≤ 100) ∧ (0 ≤ fa.toInt ∧ fa.toInt ≤ 50)) (hro : ¬ (a_mk a < 80 ∧ a_nd a 2 p < 8)) (hd : 11 ≤ d) (hR1 : hp_nx h + 1 ≤ hp_n0 G + hp_LC) (hR2 : hp_sl h + 6 ≤ hp_LS) : hp_C l G yX5_worker (.code yX5_worker cX5_worker 9 (some .int)) d [.ref (κ.1 5 0), .int (nI p), .int kn, .int pa, .int st, .int sp, .int fa] (h) (fun _ _ => False) (fun E h' => E = "java/lang/IllegalStateException" ∧ h' = hp_mkX h) := by
  have q0 : (0 : Int32).toInt = 0 := by decide
  have qm : (-1 : Int32).toInt = -1 := by decide
  have q2 : (2 : Int32).toInt = 2 := by decide
  have q50 : (50 : Int32).toInt = 50 := by decide
  have q100 : (100 : Int32).toInt = 100 := by decide
  have q1000 : (1000 : Int32).toInt = 1000 := by decide
  obtain ⟨b1, b2, b3, b4⟩ := id hb
  refine hp_ofV (by decide) (by simp [Value.category]) (Nat.le_of_ble_eq_true rfl) (fun M C hr hx el => ?_)
  refine hp_aload_nR C dX5_worker_0 rfl ?_
  refine hp_iload_n C dX5_worker_1 rfl ?_
  refine hp_callV (ci := 5) C ml_X5_61 im_X5_keeperAt se_X5_keeperAt rfl (by decide) (kw_keeper (d := d - 1) K T hp h3 hpk (by omega)) (by omega) dX5_worker_2 K.isT rfl rfl (by simp [Value.category]) (fun v_2 h_2 hp => ?_) (fun _ _ hf => hf.elim)
  obtain ⟨rfl, e_2⟩ := hp
  rw [e_2]
  refine hp_astore (r := some _) C dX5_worker_5 (by decide) ?_
  refine hp_iload_n C dX5_worker_7 rfl ?_
  refine hp_iconst (v := 0) C dX5_worker_8 (by decide) ?_
  refine hp_iconst (v := 2) C dX5_worker_9 (by decide) ?_
  refine hp_callS C ml_X5_65 sm_X5_wantWithin (kw_in (d := d - 1) (by omega) (by omega)) (by omega) dX5_worker_10 rfl rfl (by simp [Value.category]) (fun v_10 h_10 hp => ?_) (fun _ _ hf => hf.elim)
  obtain ⟨rfl, e_10⟩ := hp
  rw [e_10]
  refine hp_iload_n C dX5_worker_13 rfl ?_
  refine hp_iconst (v := (-1)) C dX5_worker_14 (by decide) ?_
  refine hp_sipush (v := 1000) C dX5_worker_15 (by decide) ?_
  refine hp_callS C ml_X5_65 sm_X5_wantWithin (kw_in (d := d - 1) (by omega) (by omega)) (by omega) dX5_worker_18 rfl rfl (by simp [Value.category]) (fun v_18 h_18 hp => ?_) (fun _ _ hf => hf.elim)
  obtain ⟨rfl, e_18⟩ := hp
  rw [e_18]
  refine hp_iload C dX5_worker_21 rfl ?_
  refine hp_iconst (v := 0) C dX5_worker_23 (by decide) ?_
  refine hp_bipush (v := 100) C dX5_worker_24 (by decide) ?_
  refine hp_callS C ml_X5_65 sm_X5_wantWithin (kw_in (d := d - 1) (by omega) (by omega)) (by omega) dX5_worker_26 rfl rfl (by simp [Value.category]) (fun v_26 h_26 hp => ?_) (fun _ _ hf => hf.elim)
  obtain ⟨rfl, e_26⟩ := hp
  rw [e_26]
  refine hp_iload C dX5_worker_29 rfl ?_
  refine hp_iconst (v := 0) C dX5_worker_31 (by decide) ?_
  refine hp_bipush (v := 100) C dX5_worker_32 (by decide) ?_
  refine hp_callS C ml_X5_65 sm_X5_wantWithin (kw_in (d := d - 1) (by omega) (by omega)) (by omega) dX5_worker_34 rfl rfl (by simp [Value.category]) (fun v_34 h_34 hp => ?_) (fun _ _ hf => hf.elim)
  obtain ⟨rfl, e_34⟩ := hp
  rw [e_34]
  refine hp_iload C dX5_worker_37 rfl ?_
  refine hp_iconst (v := 0) C dX5_worker_39 (by decide) ?_
  refine hp_bipush (v := 50) C dX5_worker_40 (by decide) ?_
  refine hp_callS C ml_X5_65 sm_X5_wantWithin (kw_in (d := d - 1) (by omega) (by omega)) (by omega) dX5_worker_42 rfl rfl (by simp [Value.category]) (fun v_42 h_42 hp => ?_) (fun _ _ hf => hf.elim)
  obtain ⟨rfl, e_42⟩ := hp
  rw [e_42]
  refine hp_aload_nR C dX5_worker_45 rfl ?_
  refine hp_aloadR C dX5_worker_46 rfl ?_
  refine hp_callV (ci := 5) C ml_X5_68 im_X5_hasRoomBelow se_X5_hasRoomBelow rfl (by decide) (kw_room (d := d - 1) K T hp hpk) (by omega) dX5_worker_48 K.isT rfl rfl (by simp [Value.category]) (fun v_48 h_48 hp_ => ?_) (fun _ _ hf => hf.elim)
  rw [if_neg hro] at hp_
  obtain ⟨rfl, e_48⟩ := hp_
  rw [e_48]
  exact hp_callS C ml_X5_48 sm_X5_wantState (kw_sn (d := d - 1) (by omega) hR1 hR2) (by omega) dX5_worker_51 rfl rfl (by simp [Value.category]) (fun _ _ hf => hf.elim) (fun E_1 h_1 hq => hp_out C hx hq)
set_option maxRecDepth 20000 in
set_option maxHeartbeats 4000000 in
theorem kp_worker {l : Launch} {G : hpG} {pr : Nat → Prop} {B : hpT} {N S : Nat} {h : hpT} {κ : kS} {a : aS} {d : Nat} (K : KR G pr B N S h κ a) {p : Nat} (T : a_T a) (hp : p < a_mk a) (h3 : ¬ a_nd a 3 p = 2) (hpk : a_nd a 0 p = 1) {kn pa st sp fa : Int32} (hk : (0 ≤ kn.toInt ∧ kn.toInt ≤ 2)) (hb : (-1 ≤ pa.toInt ∧ pa.toInt ≤ 1000) ∧ (0 ≤ st.toInt ∧ st.toInt ≤ 100) ∧ (0 ≤ sp.toInt ∧ sp.toInt ≤ 100) ∧ (0 ≤ fa.toInt ∧ fa.toInt ≤ 50)) (hro : a_mk a < 80 ∧ a_nd a 2 p < 8) (hR1 : hp_nx h + 50 ≤ hp_n0 G + hp_LC) (hR2 : hp_sl h + 9000 ≤ hp_LS) (hl : (a_ev (a_wkr p (a_vW p (a_nd a 2 p) kn.toInt pa.toInt st.toInt sp.toInt fa.toInt) a).2).length < 2 ^ 30) (hd : 45 ≤ d) : hp_C l G yX5_worker (.code yX5_worker cX5_worker 9 (some .int)) d [.ref (κ.1 5 0), .int (nI p), .int kn, .int pa, .int st, .int sp, .int fa] (h) (fun v h' => v = some (.int (a_wkr p (a_vW p (a_nd a 2 p) kn.toInt pa.toInt st.toInt sp.toInt fa.toInt) a).1) ∧ ∃ κ', KR G pr B (N + 5) (S + 160) h' κ' (a_wkr p (a_vW p (a_nd a 2 p) kn.toInt pa.toInt st.toInt sp.toInt fa.toInt) a).2 ∧ κ'.1 5 = κ.1 5) (fun _ _ => False) := by
  have q0 : (0 : Int32).toInt = 0 := by decide
  have qm : (-1 : Int32).toInt = -1 := by decide
  have q2 : (2 : Int32).toInt = 2 := by decide
  have q50 : (50 : Int32).toInt = 50 := by decide
  have q100 : (100 : Int32).toInt = 100 := by decide
  have q1000 : (1000 : Int32).toInt = 1000 := by decide
  obtain ⟨b1, b2, b3, b4⟩ := id hb
  have h80 := hro.1
  have h8 := hro.2
  have hn0 : hp_n0 G ≤ hp_nx h := by have := K.isT.1; have := K.isT.2.1; omega
  have hlx : a_nd a 3 p = 1 → (a_ev (a_add p (a_vW p (a_nd a 2 p) kn.toInt pa.toInt st.toInt sp.toInt fa.toInt) a)).length < 2 ^ 30 := fun hu => by
    have kg := a_go_kp (a_fu (a_add p (a_vW p (a_nd a 2 p) kn.toInt pa.toInt st.toInt sp.toInt fa.toInt) a) (a_mk a)) (a_mk a) (a_add p (a_vW p (a_nd a 2 p) kn.toInt pa.toInt st.toInt sp.toInt fa.toInt) a)
    unfold a_wkr at hl
    rw [if_pos hu] at hl
    split at hl
    · exact Nat.lt_of_le_of_lt kg.ev hl
    · exact Nat.lt_of_le_of_lt (Nat.le_trans kg.ev (a_dis_k2 _ _ _ _ _).ev) hl
  unfold a_wkr at hl ⊢
  refine hp_ofV (by decide) (by simp [Value.category]) (Nat.le_of_ble_eq_true rfl) (fun M C hr hx el => ?_)
  refine hp_aload_nR C dX5_worker_0 rfl ?_
  refine hp_iload_n C dX5_worker_1 rfl ?_
  refine hp_callV (ci := 5) C ml_X5_61 im_X5_keeperAt se_X5_keeperAt rfl (by decide) (kw_keeper (d := d - 1) K T hp h3 hpk (by omega)) (by omega) dX5_worker_2 K.isT rfl rfl (by simp [Value.category]) (fun v_2 h_2 hp => ?_) (fun _ _ hf => hf.elim)
  obtain ⟨rfl, e_2⟩ := hp
  rw [e_2]
  refine hp_astore (r := some _) C dX5_worker_5 (by decide) ?_
  refine hp_iload_n C dX5_worker_7 rfl ?_
  refine hp_iconst (v := 0) C dX5_worker_8 (by decide) ?_
  refine hp_iconst (v := 2) C dX5_worker_9 (by decide) ?_
  refine hp_callS C ml_X5_65 sm_X5_wantWithin (kw_in (d := d - 1) (by omega) (by omega)) (by omega) dX5_worker_10 rfl rfl (by simp [Value.category]) (fun v_10 h_10 hp => ?_) (fun _ _ hf => hf.elim)
  obtain ⟨rfl, e_10⟩ := hp
  rw [e_10]
  refine hp_iload_n C dX5_worker_13 rfl ?_
  refine hp_iconst (v := (-1)) C dX5_worker_14 (by decide) ?_
  refine hp_sipush (v := 1000) C dX5_worker_15 (by decide) ?_
  refine hp_callS C ml_X5_65 sm_X5_wantWithin (kw_in (d := d - 1) (by omega) (by omega)) (by omega) dX5_worker_18 rfl rfl (by simp [Value.category]) (fun v_18 h_18 hp => ?_) (fun _ _ hf => hf.elim)
  obtain ⟨rfl, e_18⟩ := hp
  rw [e_18]
  refine hp_iload C dX5_worker_21 rfl ?_
  refine hp_iconst (v := 0) C dX5_worker_23 (by decide) ?_
  refine hp_bipush (v := 100) C dX5_worker_24 (by decide) ?_
  refine hp_callS C ml_X5_65 sm_X5_wantWithin (kw_in (d := d - 1) (by omega) (by omega)) (by omega) dX5_worker_26 rfl rfl (by simp [Value.category]) (fun v_26 h_26 hp => ?_) (fun _ _ hf => hf.elim)
  obtain ⟨rfl, e_26⟩ := hp
  rw [e_26]
  refine hp_iload C dX5_worker_29 rfl ?_
  refine hp_iconst (v := 0) C dX5_worker_31 (by decide) ?_
  refine hp_bipush (v := 100) C dX5_worker_32 (by decide) ?_
  refine hp_callS C ml_X5_65 sm_X5_wantWithin (kw_in (d := d - 1) (by omega) (by omega)) (by omega) dX5_worker_34 rfl rfl (by simp [Value.category]) (fun v_34 h_34 hp => ?_) (fun _ _ hf => hf.elim)
  obtain ⟨rfl, e_34⟩ := hp
  rw [e_34]
  refine hp_iload C dX5_worker_37 rfl ?_
  refine hp_iconst (v := 0) C dX5_worker_39 (by decide) ?_
  refine hp_bipush (v := 50) C dX5_worker_40 (by decide) ?_
  refine hp_callS C ml_X5_65 sm_X5_wantWithin (kw_in (d := d - 1) (by omega) (by omega)) (by omega) dX5_worker_42 rfl rfl (by simp [Value.category]) (fun v_42 h_42 hp => ?_) (fun _ _ hf => hf.elim)
  obtain ⟨rfl, e_42⟩ := hp
  rw [e_42]
  refine hp_aload_nR C dX5_worker_45 rfl ?_
  refine hp_aloadR C dX5_worker_46 rfl ?_
  refine hp_callV (ci := 5) C ml_X5_68 im_X5_hasRoomBelow se_X5_hasRoomBelow rfl (by decide) (kw_room (d := d - 1) K T hp hpk) (by omega) dX5_worker_48 K.isT rfl rfl (by simp [Value.category]) (fun v_48 h_48 hp_ => ?_) (fun _ _ hf => hf.elim)
  rw [if_pos hro] at hp_
  obtain ⟨rfl, e_48⟩ := hp_
  rw [e_48]
  refine hp_callS C ml_X5_48 sm_X5_wantState (kw_st (d := d - 1)) (by omega) dX5_worker_51 rfl rfl (by simp [Value.category]) (fun v_51 h_51 hp => ?_) (fun _ _ hf => hf.elim)
  obtain ⟨rfl, e_51⟩ := hp
  rw [e_51]
  refine hp_new C nl_X5_83 dX5_worker_54 (by omega) (by omega) ?_
  refine hp_dup C dX5_worker_57 rfl ?_
  refine hp_aload_nR C dX5_worker_58 rfl ?_
  refine hp_get C fl_X5_31_5 dX5_worker_59 (K.isT.mk 4 9) ((va_up_ne _ _ (Nat.ne_of_lt K.isT.2.1)).trans K.f163) ?_
  refine hp_aloadR C dX5_worker_62 rfl ?_
  refine hp_iload_n C dX5_worker_64 rfl ?_
  refine hp_iload_n C dX5_worker_65 rfl ?_
  refine hp_iload C dX5_worker_66 rfl ?_
  refine hp_iload C dX5_worker_68 rfl ?_
  refine hp_iload C dX5_worker_70 rfl ?_
  refine hp_callI C ml_X5_85 im_X4_init rfl (kc_woJ (d := d - 1) (by omega) (hp_isN hn0 4 9) ((K.isK hp hpk).mk 4 9) ((va_up_ne _ _ (Nat.ne_of_lt (K.isK hp hpk).2.1)).trans (K.f66 hp))) (by omega) dX5_worker_72 rfl rfl (by simp [Value.category]) (fun v_1 h_1 hp_ => ?_)
  obtain ⟨rfl, e_1⟩ := hp_
  rw [e_1]
  refine hp_astore (r := some _) C dX5_worker_75 (by decide) ?_
  refine hp_aload_nR C dX5_worker_77 rfl ?_
  refine hp_aloadR C dX5_worker_78 rfl ?_
  refine hp_aloadR C dX5_worker_80 rfl ?_
  have hfg : hp_fg 0 h (kc_Work (hp_mk h 4 9) (hp_nx h) (nI (a_mk a)) (some (κ.1 0 p)) (Int32.ofInt (a_nd a 2 p) + 1) kn pa st sp fa) := (hp_fg.rf.mk 4 9).work _ _ _ _ _ _ _ _ (Nat.le_refl _)
  have F64 : hp_fl (kc_Work (hp_mk h 4 9) (hp_nx h) (nI (a_mk a)) (some (κ.1 0 p)) (Int32.ofInt (a_nd a 2 p) + 1) kn pa st sp fa) 64 (hp_nx h) = .int (nI (a_mk a)) := kc_Work_f64
  have Fi : hp_is G (kc_Work (hp_mk h 4 9) (hp_nx h) (nI (a_mk a)) (some (κ.1 0 p)) (Int32.ofInt (a_nd a 2 p) + 1) kn pa st sp fa) (hp_nx h) 4 := ⟨hn0, by show hp_nx h < hp_nx h + 1; omega, va_up_self _ _ _⟩
  have Fn : hp_nx (kc_Work (hp_mk h 4 9) (hp_nx h) (nI (a_mk a)) (some (κ.1 0 p)) (Int32.ofInt (a_nd a 2 p) + 1) kn pa st sp fa) = hp_nx h + 1 := rfl
  have Fs : hp_sl (kc_Work (hp_mk h 4 9) (hp_nx h) (nI (a_mk a)) (some (κ.1 0 p)) (Int32.ofInt (a_nd a 2 p) + 1) kn pa st sp fa) = hp_sl h + 9 := rfl
  generalize hH2 : (kc_Work (hp_mk h 4 9) (hp_nx h) (nI (a_mk a)) (some (κ.1 0 p)) (Int32.ofInt (a_nd a 2 p) + 1) kn pa st sp fa) = h2 at *
  have old : ∀ b, b < hp_nx h → hp_kd h2 b = hp_kd h b ∧ hp_ln h2 b = hp_ln h b ∧ (∀ f, hp_fl h2 f b = hp_fl h f b) ∧ hp_ar h2 b = hp_ar h b := fun b hb => hfg.2 b (Nat.zero_le _) hb
  have iso : ∀ b k, hp_is G h b k → hp_is G h2 b k := fun b k z => ⟨z.1, by have := z.2.1; omega, (old b z.2.1).1.trans z.2.2⟩
  have flo : ∀ b, b < hp_nx h → ∀ f v, hp_fl h f b = v → hp_fl h2 f b = v := fun b hb f v z => ((old b hb).2.2.1 f).trans z
  have he : (a_rw a p = [] ∧ κ.1 2 p = hp_dE G) ∨ (k_is G pr h (κ.1 2 p) 13 ∧ (a_rw a p).length ≤ hp_ln h (κ.1 2 p)) := K.isE hp hpk
  have hel : hp_els G h2 (hp_ar h2 (κ.1 2 p)) (a_rw a p).length := fun i hi => by
    obtain ⟨hc, -, -⟩ := T.rc hp (k_rc T hp hi)
    have ea : hp_ar h2 (κ.1 2 p) i = .ref (κ.1 0 ((a_rw a p).getD i 0)) := by
      rw [(old _ (K.isE2 hp hpk hi).1.1.2.1).2.2.2]
      exact K.elt hp hpk hi
    rcases T.kb hc with hb_ | hb_
    · exact Or.inr ⟨_, 4, _, ea, iso _ _ (K.isW hc hb_), by decide, rfl, by decide⟩
    · exact Or.inr ⟨_, 2, _, ea, iso _ _ (K.isK hc hb_), by decide, rfl, by decide⟩
  have hE2 : ((a_rw a p).length = 0 ∧ κ.1 2 p = hp_dE G) ∨ (hp_is G h2 (κ.1 2 p) 13 ∧ (a_rw a p).length ≤ hp_ln h2 (κ.1 2 p)) := by
    rcases he with z | z
    · exact Or.inl ⟨by rw [z.1]; rfl, z.2⟩
    · exact Or.inr ⟨iso _ _ z.1.1, by rw [(old _ z.1.1.2.1).2.1]; exact z.2⟩
  have hqe : κ.1 2 p ≠ κ.1 5 7 := fun z => by
    rcases he with e | e
    · have z1 := K.isM.1.1
      rw [← z, e.2] at z1
      have := hp_dlt C
      omega
    · have z2 := e.1.1.2.2
      have z1 := K.isM.1.2.2
      rw [z, z1] at z2
      cases z2
  refine hp_callV (ci := 5) C ml_X5_72 im_X5_join se_X5_join rfl (by decide) (kj_join (d := d - 1) (mc := κ.2.1 p) (ci := 4) (iso _ _ K.isT) (flo _ K.isT.2.1 _ _ K.f161) (iso _ _ K.isM.1) ((old _ K.isM.1.2.1).2.1.trans K.isM.2) h80 F64 (iso _ _ (K.isK hp hpk)) (flo _ (K.isK hp hpk).2.1 _ _ (K.f69 hp hpk)) (flo _ K.isT.2.1 _ _ K.f163) (iso _ _ (K.isL hp hpk)) (flo _ (K.isL hp hpk).2.1 _ _ (K.f0 hp hpk)) (flo _ (K.isL hp hpk).2.1 _ _ (K.f1 hp hpk)) (flo _ (K.isL hp hpk).2.1 _ _ (K.f2 hp hpk)) hE2 hqe hel (T.rl hp) Fi (by decide) rfl (by decide) (by decide) fl_X5_167_4 rfl ⟨by omega, by omega⟩ (by omega)) (by omega) dX5_worker_82 (iso _ _ K.isT) rfl rfl (by simp [Value.category]) (fun v_2 h_2 hp_ => ?_) (fun _ _ hf => hf.elim)
  obtain ⟨rfl, h3_, A_, e_2⟩ := hp_
  rw [e_2]
  rw [← hH2] at A_
  obtain ⟨κ1, K1, g0, g5, gx⟩ := K.mkW T (hp_dlt C) hp hpk h80 A_
  generalize hp_put h3_ 163 (κ.1 5 0) (.int (nI (a_mk a + 1))) = H1 at K1 ⊢
  clear A_ hel hE2 hqe iso flo old hH2 Fi F64 hfg
  have T1 : a_T (a_add p (a_vW p (a_nd a 2 p) kn.toInt pa.toInt st.toInt sp.toInt fa.toInt) a) := a_add_T T hp hpk h80 h8 (Or.inl rfl) rfl rfl rfl hk (by show (0 : Int) ≤ 0 ∧ (0 : Int) ≤ 2; omega) (by show (0 : Int) ≤ 0 ∧ (0 : Int) ≤ 50; omega) (by show (0 : Int) ≤ 0 ∧ (0 : Int) ≤ 1000; omega) hb.1 hb.2.1 hb.2.2.1 hb.2.2.2
  have e3p : a_nd (a_add p (a_vW p (a_nd a 2 p) kn.toInt pa.toInt st.toInt sp.toInt fa.toInt) a) 3 p = a_nd a 3 p := if_neg (Nat.ne_of_lt hp)
  have hnn : ∀ f, a_nd (a_add p (a_vW p (a_nd a 2 p) kn.toInt pa.toInt st.toInt sp.toInt fa.toInt) a) f (a_mk a) = (a_vW p (a_nd a 2 p) kn.toInt pa.toInt st.toInt sp.toInt fa.toInt) f := fun f => if_pos rfl
  have hnk : a_nd (a_add p (a_vW p (a_nd a 2 p) kn.toInt pa.toInt st.toInt sp.toInt fa.toInt) a) 0 (a_mk a) = 0 := hnn 0
  have hn1 : a_mk a < a_mk (a_add p (a_vW p (a_nd a 2 p) kn.toInt pa.toInt st.toInt sp.toInt fa.toInt) a) := Nat.lt_succ_self _
  have hp1 : p < a_mk (a_add p (a_vW p (a_nd a 2 p) kn.toInt pa.toInt st.toInt sp.toInt fa.toInt) a) := Nat.lt_succ_of_lt hp
  have hpk1 : a_nd (a_add p (a_vW p (a_nd a 2 p) kn.toInt pa.toInt st.toInt sp.toInt fa.toInt) a) 0 p = 1 := (if_neg (Nat.ne_of_lt hp)).trans hpk
  have r3 := T.r3 hp
  have r2 := T1.r2 hn1
  have hfu : (9 : Int) ≤ (a_fu (a_add p (a_vW p (a_nd a 2 p) kn.toInt pa.toInt st.toInt sp.toInt fa.toInt) a) (a_mk a) : Int) + a_nd (a_add p (a_vW p (a_nd a 2 p) kn.toInt pa.toInt st.toInt sp.toInt fa.toInt) a) 2 (a_mk a) := by
    have e : a_fu (a_add p (a_vW p (a_nd a 2 p) kn.toInt pa.toInt st.toInt sp.toInt fa.toInt) a) (a_mk a) = (9 - a_nd (a_add p (a_vW p (a_nd a 2 p) kn.toInt pa.toInt st.toInt sp.toInt fa.toInt) a) 2 (a_mk a)).toNat := rfl
    omega
  have hfu9 : a_fu (a_add p (a_vW p (a_nd a 2 p) kn.toInt pa.toInt st.toInt sp.toInt fa.toInt) a) (a_mk a) ≤ 9 := by
    have e : a_fu (a_add p (a_vW p (a_nd a 2 p) kn.toInt pa.toInt st.toInt sp.toInt fa.toInt) a) (a_mk a) = (9 - a_nd (a_add p (a_vW p (a_nd a 2 p) kn.toInt pa.toInt st.toInt sp.toInt fa.toInt) a) 2 (a_mk a)).toNat := rfl
    omega
  generalize ha1 : a_add p (a_vW p (a_nd a 2 p) kn.toInt pa.toInt st.toInt sp.toInt fa.toInt) a = a1 at *
  refine hp_aloadR C dX5_worker_85 (show (_ : Option Value) = some (Value.ref (κ1.1 0 p)) from by rw [g0 p hp]; rfl) ?_
  refine hp_get C fl_X5_45_2 dX5_worker_87 (K1.isK hp1 hpk1) (K1.f68 hp1) ?_
  refine hp_iconst (v := 1) C dX5_worker_90 (by decide) ?_
  refine hp_icmp_ne (tgt := 120) C dX5_worker_91 (by decide) (fun c_91 => ?_) (fun c_91 => ?_)
  · have hu : ¬ a_nd a 3 p = 1 := fun e => c_91 (by rw [e3p, e]; decide)
    rw [if_neg hu]
    refine hp_aloadR C dX5_worker_120 (show (_ : Option Value) = some (Value.ref (κ1.1 0 (a_mk a))) from by rw [gx]; rfl) ?_
    refine hp_get C fl_X5_93_4 dX5_worker_122 (K1.isW hn1 hnk) (K1.f64 hn1) ?_
    refine hp_iret C hr (by first | rfl | decide) dX5_worker_125 ?_
    exact ⟨rfl, κ1, K1, g5⟩
  · have hu : a_nd a 3 p = 1 := by
      rw [← e3p]
      exact (a_ofI_eq (x := a_nd a1 3 p) (y := 1) (by rw [e3p]; omega) (by omega)).mp c_91
    rw [if_pos hu] at hl ⊢
    have kg := a_go_kp (a_fu a1 (a_mk a)) (a_mk a) a1
    have hRW := kc_riseW (l := M.2.1) (d := d - 1) (q := a_fu a1 (a_mk a) - 1) K1 T1 hn1 hnk (hlx hu) (by omega)
    rw [show a_fu a1 (a_mk a) - 1 + 1 = a_fu a1 (a_mk a) by omega] at hRW
    refine hp_aloadR C dX5_worker_94 (show (_ : Option Value) = some (Value.ref (κ1.1 0 (a_mk a))) from by rw [gx]; rfl) ?_
    refine hp_aload_nR C dX5_worker_96 (show (_ : Option Value) = some (Value.ref (κ1.1 5 0)) from by rw [g5]; rfl) ?_
    refine hp_get C fl_X5_10_5 dX5_worker_97 K1.isT K1.f160 ?_
    refine hp_callV (ci := 4) C ml_X5_88 im_X4_rise se_X4_rise rfl (by decide) hRW (by omega) dX5_worker_100 (K1.isW hn1 hnk) rfl rfl (by simp [Value.category]) (fun v_100 h_100 hp_ => ?_) (fun _ _ hf => hf.elim)
    obtain ⟨rfl, ρ1, K_100⟩ := hp_
    refine hp_if_ne (tgt := 120) C dX5_worker_103 (by decide) (fun c_103 => ?_) (fun c_103 => ?_)
    · have hg : (a_go (a_fu a1 (a_mk a)) (a_mk a) a1).1 = true := Classical.byContradiction (fun z => c_103 (if_neg z))
      rw [if_pos hg]
      refine hp_aloadR C dX5_worker_120 (show (_ : Option Value) = some (Value.ref (κ1.1 0 (a_mk a))) from by rw [gx]; rfl) ?_
      refine hp_get C fl_X5_93_4 dX5_worker_122 (K_100.isW (by rw [kg.mk]; exact hn1) (by rw [kg.nd]; exact hnk)) (K_100.f64 (by rw [kg.mk]; exact hn1)) ?_
      refine hp_iret C hr (by first | rfl | decide) dX5_worker_125 ?_
      exact ⟨rfl, (κ1.1, κ1.2.1, ρ1), K_100, g5⟩
    · have hg : ¬ (a_go (a_fu a1 (a_mk a)) (a_mk a) a1).1 = true := fun z => absurd (c_103.symm.trans (if_pos z)) (by decide)
      rw [if_neg hg] at hl ⊢
      have hmp : a_mk a ∈ a_rw (a_go (a_fu a1 (a_mk a)) (a_mk a) a1).2 p := by
        rw [kg.rw', ← ha1]
        show a_mk a ∈ va_up (va_up (a_rw a) (a_mk a) []) p (a_rw a p ++ [a_mk a]) p
        rw [va_up_self]
        exact List.mem_append_right _ (List.mem_singleton.mpr rfl)
      have hix := a_ix_ok hmp
      have hl2 : (a_ev (a_go (a_fu a1 (a_mk a)) (a_mk a) a1).2).length < 2 ^ 30 := Nat.lt_of_le_of_lt (a_dis_k2 _ _ _ _ _).ev hl
      refine hp_aloadR C dX5_worker_106 (show (_ : Option Value) = some (Value.ref (κ1.1 0 p)) from by rw [g0 p hp]; rfl) ?_
      refine hp_aloadR C dX5_worker_108 (show (_ : Option Value) = some (Value.ref (κ1.1 0 (a_mk a))) from by rw [gx]; rfl) ?_
      refine hp_aload_nR C dX5_worker_110 (show (_ : Option Value) = some (Value.ref (κ1.1 5 0)) from by rw [g5]; rfl) ?_
      refine hp_get C fl_X5_10_5 dX5_worker_111 K_100.isT K_100.f160 ?_
      refine hp_callV (ci := 2) C ml_X5_89 im_X1_dismiss se_X1_dismiss rfl (by decide) (kc_dismiss (d := d - 1) (f := a_fu a1 (a_mk a)) (c := a_mk a) (t := a_ix (a_mk a) (a_rw (a_go (a_fu a1 (a_mk a)) (a_mk a) a1).2 p)) (γ := κ1.1) (μ := κ1.2.1) (ρ := ρ1) K_100 (kg.T T1) (by rw [kg.mk]; exact hp1) (by rw [kg.nd]; exact hpk1) hix.1 hix.2.1 (by rw [kg.nd]; exact hfu) (by omega) hl2) (by omega) dX5_worker_114 (K_100.isK (by rw [kg.mk]; exact hp1) (by rw [kg.nd]; exact hpk1)) rfl rfl (by simp [Value.category]) (fun v_114 h_114 hp_ => ?_) (fun _ _ hf => hf.elim)
      obtain ⟨rfl, μ1, K_114⟩ := hp_
      refine hp_pop C dX5_worker_117 rfl ?_
      refine hp_iconst (v := (-1)) C dX5_worker_118 (by decide) ?_
      refine hp_iret C hr (by first | rfl | decide) dX5_worker_119 ?_
      exact ⟨rfl, (κ1.1, μ1, ρ1), K_114, g5⟩
