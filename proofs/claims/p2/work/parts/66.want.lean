/-! ===== what the public methods ask first ===== -/
theorem k_ofr {x : Int32} {m : Nat} (h0 : 0 ≤ x.toInt) (h1 : x.toInt < m) : ∃ n, n < m ∧ x = nI n := by
  refine ⟨x.toInt.toNat, by omega, Int32.toInt_inj.mp ?_⟩
  have := Int32.toInt_lt x
  rw [nI_toInt (by omega)]
  omega
/-- no node that is not gone -/
def a_bad (a : aS) (x : Int32) : Prop := ∀ n, n < a_mk a → x = nI n → a_nd a 3 n = 2
set_option maxRecDepth 20000 in
set_option maxHeartbeats 4000000 in
theorem kw_in {l : Launch} {G : hpG} {h : hpT} {d : Nat} {v l1 l2 : Int32} (h1 : l1.toInt ≤ v.toInt) (h2 : v.toInt ≤ l2.toInt) : hp_C l G yX5_wantWithin (.code yX5_wantWithin cX5_wantWithin 3 none) d [.int v, .int l1, .int l2] (h) (fun v h' => v = none ∧ h' = h) (fun _ _ => False) := by
  refine hp_ofV (by decide) (by simp [Value.category]) (Nat.le_of_ble_eq_true rfl) (fun M C hr hx el => ?_)
  refine hp_iload_n C dX5_wantWithin_0 rfl ?_
  refine hp_iload_n C dX5_wantWithin_1 rfl ?_
  refine hp_icmp_lt (tgt := 10) C dX5_wantWithin_2 (by decide) (fun z_9 => absurd z_9 (by rw [Int32.lt_iff_toInt_lt]; omega)) (fun _ => ?_)
  refine hp_iload_n C dX5_wantWithin_5 rfl ?_
  refine hp_iload_n C dX5_wantWithin_6 rfl ?_
  refine hp_icmp_le (tgt := 18) C dX5_wantWithin_7 (by decide) (fun _ => ?_) (fun z_9 => absurd (Int32.le_iff_toInt_le.mpr h2) z_9)
  refine hp_vret C hr dX5_wantWithin_18 ?_
  exact ⟨rfl, rfl⟩
set_option maxRecDepth 20000 in
set_option maxHeartbeats 4000000 in
theorem kw_out {l : Launch} {G : hpG} {h : hpT} {d : Nat} {v l1 l2 : Int32} (h1 : ¬ (l1.toInt ≤ v.toInt ∧ v.toInt ≤ l2.toInt)) (hd : 6 ≤ d) (hR1 : hp_nx h + 1 ≤ hp_n0 G + hp_LC) (hR2 : hp_sl h + 6 ≤ hp_LS) : hp_C l G yX5_wantWithin (.code yX5_wantWithin cX5_wantWithin 3 none) d [.int v, .int l1, .int l2] (h) (fun _ _ => False) (fun E h' => E = "java/lang/IllegalArgumentException" ∧ h' = hp_mkX h) := by
  refine hp_ofV (by decide) (by simp [Value.category]) (Nat.le_of_ble_eq_true rfl) (fun M C hr hx el => ?_)
  refine hp_iload_n C dX5_wantWithin_0 rfl ?_
  refine hp_iload_n C dX5_wantWithin_1 rfl ?_
  refine hp_icmp_lt (tgt := 10) C dX5_wantWithin_2 (by decide) (fun c_2 => ?_) (fun c_2 => ?_)
  · refine hp_athrow C tl_A (by omega) dX5_wantWithin_10 dX5_wantWithin_13 dX5_wantWithin_14 dX5_wantWithin_17 hx (by simp [Value.category]) hR1 hR2 ?_
    exact ⟨rfl, rfl⟩
  · refine hp_iload_n C dX5_wantWithin_5 rfl ?_
    refine hp_iload_n C dX5_wantWithin_6 rfl ?_
    refine hp_icmp_le (tgt := 18) C dX5_wantWithin_7 (by decide) (fun c_7 => ?_) (fun c_7 => ?_)
    · refine hp_vret C hr dX5_wantWithin_18 ?_
      exact absurd ⟨by have := (not_congr Int32.lt_iff_toInt_lt).mp c_2; omega, Int32.le_iff_toInt_le.mp c_7⟩ h1
    · refine hp_athrow C tl_A (by omega) dX5_wantWithin_10 dX5_wantWithin_13 dX5_wantWithin_14 dX5_wantWithin_17 hx (by simp [Value.category]) hR1 hR2 ?_
      exact ⟨rfl, rfl⟩
set_option maxRecDepth 20000 in
set_option maxHeartbeats 4000000 in
theorem kw_st {l : Launch} {G : hpG} {h : hpT} {d : Nat} : hp_C l G yX5_wantState (.code yX5_wantState cX5_wantState 1 none) d [.int 1] (h) (fun v h' => v = none ∧ h' = h) (fun _ _ => False) := by
  refine hp_ofV (by decide) (by simp [Value.category]) (Nat.le_of_ble_eq_true rfl) (fun M C hr hx el => ?_)
  refine hp_iload_n C dX5_wantState_0 rfl ?_
  refine hp_if_ne (tgt := 12) C dX5_wantState_1 (by decide) (fun _ => ?_) (fun z_9 => absurd z_9 (by decide))
  refine hp_vret C hr dX5_wantState_12 ?_
  exact ⟨rfl, rfl⟩
set_option maxRecDepth 20000 in
set_option maxHeartbeats 4000000 in
theorem kw_sn {l : Launch} {G : hpG} {h : hpT} {d : Nat} (hd : 6 ≤ d) (hR1 : hp_nx h + 1 ≤ hp_n0 G + hp_LC) (hR2 : hp_sl h + 6 ≤ hp_LS) : hp_C l G yX5_wantState (.code yX5_wantState cX5_wantState 1 none) d [.int 0] (h) (fun _ _ => False) (fun E h' => E = "java/lang/IllegalStateException" ∧ h' = hp_mkX h) := by
  refine hp_ofV (by decide) (by simp [Value.category]) (Nat.le_of_ble_eq_true rfl) (fun M C hr hx el => ?_)
  refine hp_iload_n C dX5_wantState_0 rfl ?_
  refine hp_if_ne (tgt := 12) C dX5_wantState_1 (by decide) (fun z_9 => absurd z_9 (by decide)) (fun _ => ?_)
  refine hp_athrow C tl_S (by omega) dX5_wantState_4 dX5_wantState_7 dX5_wantState_8 dX5_wantState_11 hx (by simp [Value.category]) hR1 hR2 ?_
  exact ⟨rfl, rfl⟩
set_option maxRecDepth 20000 in
set_option maxHeartbeats 4000000 in
theorem kw_bd {l : Launch} {G : hpG} {h : hpT} {d : Nat} {x r t : Int32} (b1 : 0 ≤ x.toInt ∧ x.toInt ≤ 2) (b2 : 0 ≤ r.toInt ∧ r.toInt ≤ 50) (b3 : 1 ≤ t.toInt ∧ t.toInt ≤ 1000) (hd : 1 ≤ d) : hp_C l G yX5_wantBounds (.code yX5_wantBounds cX5_wantBounds 3 none) d [.int x, .int r, .int t] (h) (fun v h' => v = none ∧ h' = h) (fun _ _ => False) := by
  have q0 : (0 : Int32).toInt = 0 := by decide
  have q1 : (1 : Int32).toInt = 1 := by decide
  have q2 : (2 : Int32).toInt = 2 := by decide
  have q50 : (50 : Int32).toInt = 50 := by decide
  have q1000 : (1000 : Int32).toInt = 1000 := by decide
  refine hp_ofV (by decide) (by simp [Value.category]) (Nat.le_of_ble_eq_true rfl) (fun M C hr hx el => ?_)
  refine hp_iload_n C dX5_wantBounds_0 rfl ?_
  refine hp_iconst (v := 0) C dX5_wantBounds_1 (by decide) ?_
  refine hp_iconst (v := 2) C dX5_wantBounds_2 (by decide) ?_
  refine hp_callS C ml_X5_65 sm_X5_wantWithin (kw_in (d := d - 1) (by omega) (by omega)) (by omega) dX5_wantBounds_3 rfl rfl (by simp [Value.category]) (fun v_3 h_3 hp => ?_) (fun _ _ hf => hf.elim)
  obtain ⟨rfl, e_3⟩ := hp
  rw [e_3]
  refine hp_iload_n C dX5_wantBounds_6 rfl ?_
  refine hp_iconst (v := 0) C dX5_wantBounds_7 (by decide) ?_
  refine hp_bipush (v := 50) C dX5_wantBounds_8 (by decide) ?_
  refine hp_callS C ml_X5_65 sm_X5_wantWithin (kw_in (d := d - 1) (by omega) (by omega)) (by omega) dX5_wantBounds_10 rfl rfl (by simp [Value.category]) (fun v_10 h_10 hp => ?_) (fun _ _ hf => hf.elim)
  obtain ⟨rfl, e_10⟩ := hp
  rw [e_10]
  refine hp_iload_n C dX5_wantBounds_13 rfl ?_
  refine hp_iconst (v := 1) C dX5_wantBounds_14 (by decide) ?_
  refine hp_sipush (v := 1000) C dX5_wantBounds_15 (by decide) ?_
  refine hp_callS C ml_X5_65 sm_X5_wantWithin (kw_in (d := d - 1) (by omega) (by omega)) (by omega) dX5_wantBounds_18 rfl rfl (by simp [Value.category]) (fun v_18 h_18 hp => ?_) (fun _ _ hf => hf.elim)
  obtain ⟨rfl, e_18⟩ := hp
  rw [e_18]
  refine hp_vret C hr dX5_wantBounds_21 ?_
  exact ⟨rfl, rfl⟩
set_option maxRecDepth 20000 in
set_option maxHeartbeats 4000000 in
theorem kw_bn {l : Launch} {G : hpG} {h : hpT} {d : Nat} {x r t : Int32} (hb : ¬ ((0 ≤ x.toInt ∧ x.toInt ≤ 2) ∧ (0 ≤ r.toInt ∧ r.toInt ≤ 50) ∧ (1 ≤ t.toInt ∧ t.toInt ≤ 1000))) (hd : 7 ≤ d) (hR1 : hp_nx h + 1 ≤ hp_n0 G + hp_LC) (hR2 : hp_sl h + 6 ≤ hp_LS) : hp_C l G yX5_wantBounds (.code yX5_wantBounds cX5_wantBounds 3 none) d [.int x, .int r, .int t] (h) (fun _ _ => False) (fun E h' => E = "java/lang/IllegalArgumentException" ∧ h' = hp_mkX h) := by
  have q0 : (0 : Int32).toInt = 0 := by decide
  have q1 : (1 : Int32).toInt = 1 := by decide
  have q2 : (2 : Int32).toInt = 2 := by decide
  have q50 : (50 : Int32).toInt = 50 := by decide
  have q1000 : (1000 : Int32).toInt = 1000 := by decide
  refine hp_ofV (by decide) (by simp [Value.category]) (Nat.le_of_ble_eq_true rfl) (fun M C hr hx el => ?_)
  by_cases b1 : 0 ≤ x.toInt ∧ x.toInt ≤ 2
  · by_cases b2 : 0 ≤ r.toInt ∧ r.toInt ≤ 50
    · by_cases b3 : 1 ≤ t.toInt ∧ t.toInt ≤ 1000
      · exact absurd ⟨b1, b2, b3⟩ hb
      · refine hp_iload_n C dX5_wantBounds_0 rfl ?_
        refine hp_iconst (v := 0) C dX5_wantBounds_1 (by decide) ?_
        refine hp_iconst (v := 2) C dX5_wantBounds_2 (by decide) ?_
        refine hp_callS C ml_X5_65 sm_X5_wantWithin (kw_in (d := d - 1) (by omega) (by omega)) (by omega) dX5_wantBounds_3 rfl rfl (by simp [Value.category]) (fun v_3 h_3 hp => ?_) (fun _ _ hf => hf.elim)
        obtain ⟨rfl, e_3⟩ := hp
        rw [e_3]
        refine hp_iload_n C dX5_wantBounds_6 rfl ?_
        refine hp_iconst (v := 0) C dX5_wantBounds_7 (by decide) ?_
        refine hp_bipush (v := 50) C dX5_wantBounds_8 (by decide) ?_
        refine hp_callS C ml_X5_65 sm_X5_wantWithin (kw_in (d := d - 1) (by omega) (by omega)) (by omega) dX5_wantBounds_10 rfl rfl (by simp [Value.category]) (fun v_10 h_10 hp => ?_) (fun _ _ hf => hf.elim)
        obtain ⟨rfl, e_10⟩ := hp
        rw [e_10]
        refine hp_iload_n C dX5_wantBounds_13 rfl ?_
        refine hp_iconst (v := 1) C dX5_wantBounds_14 (by decide) ?_
        refine hp_sipush (v := 1000) C dX5_wantBounds_15 (by decide) ?_
        exact hp_callS C ml_X5_65 sm_X5_wantWithin (kw_out (d := d - 1) (by omega) (by omega) hR1 hR2) (by omega) dX5_wantBounds_18 rfl rfl (by simp [Value.category]) (fun _ _ hf => hf.elim) (fun E_1 h_1 hq => hp_out C hx hq)
    · refine hp_iload_n C dX5_wantBounds_0 rfl ?_
      refine hp_iconst (v := 0) C dX5_wantBounds_1 (by decide) ?_
      refine hp_iconst (v := 2) C dX5_wantBounds_2 (by decide) ?_
      refine hp_callS C ml_X5_65 sm_X5_wantWithin (kw_in (d := d - 1) (by omega) (by omega)) (by omega) dX5_wantBounds_3 rfl rfl (by simp [Value.category]) (fun v_3 h_3 hp => ?_) (fun _ _ hf => hf.elim)
      obtain ⟨rfl, e_3⟩ := hp
      rw [e_3]
      refine hp_iload_n C dX5_wantBounds_6 rfl ?_
      refine hp_iconst (v := 0) C dX5_wantBounds_7 (by decide) ?_
      refine hp_bipush (v := 50) C dX5_wantBounds_8 (by decide) ?_
      exact hp_callS C ml_X5_65 sm_X5_wantWithin (kw_out (d := d - 1) (by omega) (by omega) hR1 hR2) (by omega) dX5_wantBounds_10 rfl rfl (by simp [Value.category]) (fun _ _ hf => hf.elim) (fun E_1 h_1 hq => hp_out C hx hq)
  · refine hp_iload_n C dX5_wantBounds_0 rfl ?_
    refine hp_iconst (v := 0) C dX5_wantBounds_1 (by decide) ?_
    refine hp_iconst (v := 2) C dX5_wantBounds_2 (by decide) ?_
    exact hp_callS C ml_X5_65 sm_X5_wantWithin (kw_out (d := d - 1) (by omega) (by omega) hR1 hR2) (by omega) dX5_wantBounds_3 rfl rfl (by simp [Value.category]) (fun _ _ hf => hf.elim) (fun E_1 h_1 hq => hp_out C hx hq)
set_option maxRecDepth 20000 in
set_option maxHeartbeats 4000000 in
theorem kw_made {l : Launch} {G : hpG} {pr : Nat → Prop} {B : hpT} {N S : Nat} {h : hpT} {κ : kS} {a : aS} {d : Nat} (K : KR G pr B N S h κ a) {n : Nat} (T : a_T a) (hn : n < a_mk a) (hd : 1 ≤ d) : hp_C l G yX5_madeNode (.code yX5_madeNode cX5_madeNode 3 (some (.object "KeeperTree$Node"))) d [.ref (κ.1 5 0), .int (nI n)] (h) (fun v h' => v = some (.ref (κ.1 0 n)) ∧ h' = h) (fun _ _ => False) := by
  have q0 : (0 : Int32).toInt = 0 := by decide
  have q79 : (79 : Int32).toInt = 79 := by decide
  have m80 := T.1.2
  refine hp_ofV (by decide) (by simp [Value.category]) (Nat.le_of_ble_eq_true rfl) (fun M C hr hx el => ?_)
  refine hp_iload_n C dX5_madeNode_0 rfl ?_
  refine hp_iconst (v := 0) C dX5_madeNode_1 (by decide) ?_
  refine hp_bipush (v := 79) C dX5_madeNode_2 (by decide) ?_
  refine hp_callS C ml_X5_65 sm_X5_wantWithin (kw_in (d := d - 1) (by rw [nI_toInt (by omega)]; omega) (by rw [nI_toInt (by omega)]; omega)) (by omega) dX5_madeNode_4 rfl rfl (by simp [Value.category]) (fun v_4 h_4 hp => ?_) (fun _ _ hf => hf.elim)
  obtain ⟨rfl, e_4⟩ := hp
  rw [e_4]
  refine hp_aload_nR C dX5_madeNode_7 rfl ?_
  refine hp_get C fl_X5_18_5 dX5_madeNode_8 K.isT K.f161 ?_
  refine hp_iload_n C dX5_madeNode_11 rfl ?_
  refine hp_aald (v := .ref (κ.1 0 n)) C 4 rfl rfl (by decide) dX5_madeNode_12 K.isM.1 (by rw [K.isM.2]; exact nI_in (by omega) (by omega)) ((congrArg (hp_ar h (κ.1 5 7)) (nI_clamp (by omega))).trans ((K.nod (by omega)).trans (by rw [if_pos hn]; rfl))) ?_
  refine hp_astore_n (r := some _) C dX5_madeNode_13 (by decide) ?_
  refine hp_aload_nR C dX5_madeNode_14 rfl ?_
  refine hp_ifnonnull (r := some _) (tgt := 26) C dX5_madeNode_15 (by decide) (fun _ _ => ?_) (fun hx_ => by cases hx_)
  refine hp_aload_nR C dX5_madeNode_26 rfl ?_
  refine hp_aret (r := some _) C hr (Or.inl ⟨_, rfl⟩) dX5_madeNode_27 ?_
  exact ⟨rfl, rfl⟩
set_option maxRecDepth 20000 in
set_option maxHeartbeats 4000000 in
theorem kw_madeX {l : Launch} {G : hpG} {pr : Nat → Prop} {B : hpT} {N S : Nat} {h : hpT} {κ : kS} {a : aS} {d : Nat} (K : KR G pr B N S h κ a) {x : Int32} (T : a_T a) (hb : ¬ (0 ≤ x.toInt ∧ x.toInt < a_mk a)) (hd : 7 ≤ d) (hR1 : hp_nx h + 1 ≤ hp_n0 G + hp_LC) (hR2 : hp_sl h + 6 ≤ hp_LS) : hp_C l G yX5_madeNode (.code yX5_madeNode cX5_madeNode 3 (some (.object "KeeperTree$Node"))) d [.ref (κ.1 5 0), .int x] (h) (fun _ _ => False) (fun E h' => E = "java/lang/IllegalArgumentException" ∧ h' = hp_mkX h) := by
  have q0 : (0 : Int32).toInt = 0 := by decide
  have q79 : (79 : Int32).toInt = 79 := by decide
  have m80 := T.1.2
  refine hp_ofV (by decide) (by simp [Value.category]) (Nat.le_of_ble_eq_true rfl) (fun M C hr hx el => ?_)
  by_cases b1 : 0 ≤ x.toInt ∧ x.toInt ≤ 79
  · refine hp_iload_n C dX5_madeNode_0 rfl ?_
    refine hp_iconst (v := 0) C dX5_madeNode_1 (by decide) ?_
    refine hp_bipush (v := 79) C dX5_madeNode_2 (by decide) ?_
    refine hp_callS C ml_X5_65 sm_X5_wantWithin (kw_in (d := d - 1) (by omega) (by omega)) (by omega) dX5_madeNode_4 rfl rfl (by simp [Value.category]) (fun v_4 h_4 hp => ?_) (fun _ _ hf => hf.elim)
    obtain ⟨rfl, e_4⟩ := hp
    rw [e_4]
    refine hp_aload_nR C dX5_madeNode_7 rfl ?_
    refine hp_get C fl_X5_18_5 dX5_madeNode_8 K.isT K.f161 ?_
    refine hp_iload_n C dX5_madeNode_11 rfl ?_
    refine hp_aald (v := .null) C 4 rfl rfl (by decide) dX5_madeNode_12 K.isM.1 (by rw [K.isM.2]; exact vp_in_iff.mpr (by omega)) ((K.nod (i := x.toInt.toNat) (by omega)).trans (by rw [if_neg (by omega)]; rfl)) ?_
    refine hp_astore_n (r := none) C dX5_madeNode_13 (by decide) ?_
    refine hp_aload_n (r := none) C dX5_madeNode_14 rfl ?_
    refine hp_ifnonnull (r := none) (tgt := 26) C dX5_madeNode_15 (by decide) (fun _ hx_ => by cases hx_) (fun _ => ?_)
    refine hp_athrow C tl_A (by omega) dX5_madeNode_18 dX5_madeNode_21 dX5_madeNode_22 dX5_madeNode_25 hx (by simp [Value.category]) hR1 hR2 ?_
    exact ⟨rfl, rfl⟩
  · refine hp_iload_n C dX5_madeNode_0 rfl ?_
    refine hp_iconst (v := 0) C dX5_madeNode_1 (by decide) ?_
    refine hp_bipush (v := 79) C dX5_madeNode_2 (by decide) ?_
    exact hp_callS C ml_X5_65 sm_X5_wantWithin (kw_out (d := d - 1) (by omega) (by omega) hR1 hR2) (by omega) dX5_madeNode_4 rfl rfl (by simp [Value.category]) (fun _ _ hf => hf.elim) (fun E_1 h_1 hq => hp_out C hx hq)
set_option maxRecDepth 20000 in
set_option maxHeartbeats 4000000 in
theorem kw_node {l : Launch} {G : hpG} {pr : Nat → Prop} {B : hpT} {N S : Nat} {h : hpT} {κ : kS} {a : aS} {d : Nat} (K : KR G pr B N S h κ a) {n : Nat} (T : a_T a) (hn : n < a_mk a) (h3 : ¬ a_nd a 3 n = 2) (hd : 2 ≤ d) : hp_C l G yX5_nodeAt (.code yX5_nodeAt cX5_nodeAt 3 (some (.object "KeeperTree$Node"))) d [.ref (κ.1 5 0), .int (nI n)] (h) (fun v h' => v = some (.ref (κ.1 0 n)) ∧ h' = h) (fun _ _ => False) := by
  have hb := T.kb hn
  refine hp_ofV (by decide) (by simp [Value.category]) (Nat.le_of_ble_eq_true rfl) (fun M C hr hx el => ?_)
  refine hp_aload_nR C dX5_nodeAt_0 rfl ?_
  refine hp_iload_n C dX5_nodeAt_1 rfl ?_
  refine hp_callV (ci := 5) C ml_X5_130 im_X5_madeNode se_X5_madeNode rfl (by decide) (kw_made (d := d - 1) K T hn (by omega)) (by omega) dX5_nodeAt_2 K.isT rfl rfl (by simp [Value.category]) (fun v_2 h_2 hp => ?_) (fun _ _ hf => hf.elim)
  obtain ⟨rfl, e_2⟩ := hp
  rw [e_2]
  refine hp_astore_n (r := some _) C dX5_nodeAt_5 (by decide) ?_
  refine hp_aload_nR C dX5_nodeAt_6 rfl ?_
  refine kg_N C K hn hb (by decide) fl_X5_113_2 fl_X5_113_4 dX5_nodeAt_7 (K.f68 hn) ?_
  refine hp_iconst (v := 2) C dX5_nodeAt_10 (by decide) ?_
  refine hp_icmp_ne (tgt := 22) C dX5_nodeAt_11 (by decide) (fun _ => ?_) (fun z_9 => absurd z_9 (fun z => h3 ((a_ofI_eq (x := a_nd a 3 n) (y := 2) (by have := T.r3 hn; omega) (by omega)).mp z)))
  refine hp_aload_nR C dX5_nodeAt_22 rfl ?_
  refine hp_aret (r := some _) C hr (Or.inl ⟨_, rfl⟩) dX5_nodeAt_23 ?_
  exact ⟨rfl, rfl⟩
set_option maxRecDepth 20000 in
set_option maxHeartbeats 4000000 in
theorem kw_nodeX {l : Launch} {G : hpG} {pr : Nat → Prop} {B : hpT} {N S : Nat} {h : hpT} {κ : kS} {a : aS} {d : Nat} (K : KR G pr B N S h κ a) {x : Int32} (T : a_T a) (hbad : a_bad a x) (hd : 8 ≤ d) (hR1 : hp_nx h + 1 ≤ hp_n0 G + hp_LC) (hR2 : hp_sl h + 6 ≤ hp_LS) : hp_C l G yX5_nodeAt (.code yX5_nodeAt cX5_nodeAt 3 (some (.object "KeeperTree$Node"))) d [.ref (κ.1 5 0), .int x] (h) (fun _ _ => False) (fun E h' => E = "java/lang/IllegalArgumentException" ∧ h' = hp_mkX h) := by
  refine hp_ofV (by decide) (by simp [Value.category]) (Nat.le_of_ble_eq_true rfl) (fun M C hr hx el => ?_)
  by_cases b1 : 0 ≤ x.toInt ∧ x.toInt < a_mk a
  · obtain ⟨n, hn, rfl⟩ := k_ofr b1.1 b1.2
    have h3 := hbad n hn rfl
    have hb := T.kb hn
    refine hp_aload_nR C dX5_nodeAt_0 rfl ?_
    refine hp_iload_n C dX5_nodeAt_1 rfl ?_
    refine hp_callV (ci := 5) C ml_X5_130 im_X5_madeNode se_X5_madeNode rfl (by decide) (kw_made (d := d - 1) K T hn (by omega)) (by omega) dX5_nodeAt_2 K.isT rfl rfl (by simp [Value.category]) (fun v_2 h_2 hp => ?_) (fun _ _ hf => hf.elim)
    obtain ⟨rfl, e_2⟩ := hp
    rw [e_2]
    refine hp_astore_n (r := some _) C dX5_nodeAt_5 (by decide) ?_
    refine hp_aload_nR C dX5_nodeAt_6 rfl ?_
    refine kg_N C K hn hb (by decide) fl_X5_113_2 fl_X5_113_4 dX5_nodeAt_7 (K.f68 hn) ?_
    refine hp_iconst (v := 2) C dX5_nodeAt_10 (by decide) ?_
    refine hp_icmp_ne (tgt := 22) C dX5_nodeAt_11 (by decide) (fun z_9 => absurd z_9 (by rw [h3]; decide)) (fun _ => ?_)
    refine hp_athrow C tl_A (by omega) dX5_nodeAt_14 dX5_nodeAt_17 dX5_nodeAt_18 dX5_nodeAt_21 hx (by simp [Value.category]) hR1 hR2 ?_
    exact ⟨rfl, rfl⟩
  · refine hp_aload_nR C dX5_nodeAt_0 rfl ?_
    refine hp_iload_n C dX5_nodeAt_1 rfl ?_
    exact hp_callV (ci := 5) C ml_X5_130 im_X5_madeNode se_X5_madeNode rfl (by decide) (kw_madeX (d := d - 1) K T b1 (by omega) hR1 hR2) (by omega) dX5_nodeAt_2 K.isT rfl rfl (by simp [Value.category]) (fun _ _ hf => hf.elim) (fun E_1 h_1 hq => hp_out C hx hq)
set_option maxRecDepth 20000 in
set_option maxHeartbeats 4000000 in
theorem kw_keeper {l : Launch} {G : hpG} {pr : Nat → Prop} {B : hpT} {N S : Nat} {h : hpT} {κ : kS} {a : aS} {d : Nat} (K : KR G pr B N S h κ a) {n : Nat} (T : a_T a) (hn : n < a_mk a) (h3 : ¬ a_nd a 3 n = 2) (hk : a_nd a 0 n = 1) (hd : 3 ≤ d) : hp_C l G yX5_keeperAt (.code yX5_keeperAt cX5_keeperAt 4 (some (.object "KeeperTree$Keeper"))) d [.ref (κ.1 5 0), .int (nI n)] (h) (fun v h' => v = some (.ref (κ.1 0 n)) ∧ h' = h) (fun _ _ => False) := by
  refine hp_ofV (by decide) (by simp [Value.category]) (Nat.le_of_ble_eq_true rfl) (fun M C hr hx el => ?_)
  refine hp_aload_nR C dX5_keeperAt_0 rfl ?_
  refine hp_iload_n C dX5_keeperAt_1 rfl ?_
  refine hp_callV (ci := 5) C ml_X5_109 im_X5_nodeAt se_X5_nodeAt rfl (by decide) (kw_node (d := d - 1) K T hn h3 (by omega)) (by omega) dX5_keeperAt_2 K.isT rfl rfl (by simp [Value.category]) (fun v_2 h_2 hp => ?_) (fun _ _ hf => hf.elim)
  obtain ⟨rfl, e_2⟩ := hp
  rw [e_2]
  refine hp_astore_n (r := some _) C dX5_keeperAt_5 (by decide) ?_
  refine hp_aload_nR C dX5_keeperAt_6 rfl ?_
  refine hp_instY C 2 cl_X5_22 (by decide) rfl (by decide) dX5_keeperAt_7 (K.isK hn hk) ?_
  refine hp_if_eq (tgt := 20) C dX5_keeperAt_10 (by decide) (fun z_9 => absurd z_9 (by decide)) (fun _ => ?_)
  refine hp_aload_nR C dX5_keeperAt_13 rfl ?_
  refine hp_castY C 2 cl_X5_22 (by decide) rfl (by decide) dX5_keeperAt_14 (K.isK hn hk) ?_
  refine hp_astore_n (r := some _) C dX5_keeperAt_17 (by decide) ?_
  refine hp_aload_nR C dX5_keeperAt_18 rfl ?_
  refine hp_aret (r := some _) C hr (Or.inl ⟨_, rfl⟩) dX5_keeperAt_19 ?_
  exact ⟨rfl, rfl⟩
set_option maxRecDepth 20000 in
set_option maxHeartbeats 4000000 in
theorem kw_keeperX {l : Launch} {G : hpG} {pr : Nat → Prop} {B : hpT} {N S : Nat} {h : hpT} {κ : kS} {a : aS} {d : Nat} (K : KR G pr B N S h κ a) {x : Int32} (T : a_T a) (hbad : ∀ n, n < a_mk a → x = nI n → a_nd a 0 n = 1 → a_nd a 3 n = 2) (hd : 9 ≤ d) (hR1 : hp_nx h + 1 ≤ hp_n0 G + hp_LC) (hR2 : hp_sl h + 6 ≤ hp_LS) : hp_C l G yX5_keeperAt (.code yX5_keeperAt cX5_keeperAt 4 (some (.object "KeeperTree$Keeper"))) d [.ref (κ.1 5 0), .int x] (h) (fun _ _ => False) (fun E h' => E = "java/lang/IllegalArgumentException" ∧ h' = hp_mkX h) := by
  refine hp_ofV (by decide) (by simp [Value.category]) (Nat.le_of_ble_eq_true rfl) (fun M C hr hx el => ?_)
  by_cases b1 : a_bad a x
  · refine hp_aload_nR C dX5_keeperAt_0 rfl ?_
    refine hp_iload_n C dX5_keeperAt_1 rfl ?_
    exact hp_callV (ci := 5) C ml_X5_109 im_X5_nodeAt se_X5_nodeAt rfl (by decide) (kw_nodeX (d := d - 1) K T b1 (by omega) hR1 hR2) (by omega) dX5_keeperAt_2 K.isT rfl rfl (by simp [Value.category]) (fun _ _ hf => hf.elim) (fun E_1 h_1 hq => hp_out C hx hq)
  · have hex : ∃ n, n < a_mk a ∧ x = nI n ∧ ¬ a_nd a 3 n = 2 := Classical.byContradiction (fun z => b1 (fun n h1 h2 => Classical.byContradiction (fun h3 => z ⟨n, h1, h2, h3⟩)))
    obtain ⟨n, hn, rfl, h3⟩ := hex
    have hk : a_nd a 0 n = 0 := by
      rcases T.kb hn with q | q
      · exact q
      · exact absurd (hbad n hn rfl q) h3
    refine hp_aload_nR C dX5_keeperAt_0 rfl ?_
    refine hp_iload_n C dX5_keeperAt_1 rfl ?_
    refine hp_callV (ci := 5) C ml_X5_109 im_X5_nodeAt se_X5_nodeAt rfl (by decide) (kw_node (d := d - 1) K T hn h3 (by omega)) (by omega) dX5_keeperAt_2 K.isT rfl rfl (by simp [Value.category]) (fun v_2 h_2 hp => ?_) (fun _ _ hf => hf.elim)
    obtain ⟨rfl, e_2⟩ := hp
    rw [e_2]
    refine hp_astore_n (r := some _) C dX5_keeperAt_5 (by decide) ?_
    refine hp_aload_nR C dX5_keeperAt_6 rfl ?_
    refine hp_instNo C 4 cl_X5_22 (by decide) rfl (by decide) dX5_keeperAt_7 (K.isW hn hk) ?_
    refine hp_if_eq (tgt := 20) C dX5_keeperAt_10 (by decide) (fun _ => ?_) (fun z_9 => absurd z_9 (by decide))
    refine hp_athrow C tl_A (by omega) dX5_keeperAt_20 dX5_keeperAt_23 dX5_keeperAt_24 dX5_keeperAt_27 hx (by simp [Value.category]) hR1 hR2 ?_
    exact ⟨rfl, rfl⟩
set_option maxRecDepth 20000 in
set_option maxHeartbeats 4000000 in
theorem kw_worker {l : Launch} {G : hpG} {pr : Nat → Prop} {B : hpT} {N S : Nat} {h : hpT} {κ : kS} {a : aS} {d : Nat} (K : KR G pr B N S h κ a) {n : Nat} (T : a_T a) (hn : n < a_mk a) (h3 : ¬ a_nd a 3 n = 2) (hk : a_nd a 0 n = 0) (hd : 3 ≤ d) : hp_C l G yX5_workerAt (.code yX5_workerAt cX5_workerAt 4 (some (.object "KeeperTree$Worker"))) d [.ref (κ.1 5 0), .int (nI n)] (h) (fun v h' => v = some (.ref (κ.1 0 n)) ∧ h' = h) (fun _ _ => False) := by
  refine hp_ofV (by decide) (by simp [Value.category]) (Nat.le_of_ble_eq_true rfl) (fun M C hr hx el => ?_)
  refine hp_aload_nR C dX5_workerAt_0 rfl ?_
  refine hp_iload_n C dX5_workerAt_1 rfl ?_
  refine hp_callV (ci := 5) C ml_X5_109 im_X5_nodeAt se_X5_nodeAt rfl (by decide) (kw_node (d := d - 1) K T hn h3 (by omega)) (by omega) dX5_workerAt_2 K.isT rfl rfl (by simp [Value.category]) (fun v_2 h_2 hp => ?_) (fun _ _ hf => hf.elim)
  obtain ⟨rfl, e_2⟩ := hp
  rw [e_2]
  refine hp_astore_n (r := some _) C dX5_workerAt_5 (by decide) ?_
  refine hp_aload_nR C dX5_workerAt_6 rfl ?_
  refine hp_instY C 4 cl_X5_83 (by decide) rfl (by decide) dX5_workerAt_7 (K.isW hn hk) ?_
  refine hp_if_eq (tgt := 20) C dX5_workerAt_10 (by decide) (fun z_9 => absurd z_9 (by decide)) (fun _ => ?_)
  refine hp_aload_nR C dX5_workerAt_13 rfl ?_
  refine hp_castY C 4 cl_X5_83 (by decide) rfl (by decide) dX5_workerAt_14 (K.isW hn hk) ?_
  refine hp_astore_n (r := some _) C dX5_workerAt_17 (by decide) ?_
  refine hp_aload_nR C dX5_workerAt_18 rfl ?_
  refine hp_aret (r := some _) C hr (Or.inl ⟨_, rfl⟩) dX5_workerAt_19 ?_
  exact ⟨rfl, rfl⟩
set_option maxRecDepth 20000 in
set_option maxHeartbeats 4000000 in
theorem kw_workerX {l : Launch} {G : hpG} {pr : Nat → Prop} {B : hpT} {N S : Nat} {h : hpT} {κ : kS} {a : aS} {d : Nat} (K : KR G pr B N S h κ a) {x : Int32} (T : a_T a) (hbad : ∀ n, n < a_mk a → x = nI n → a_nd a 0 n = 0 → a_nd a 3 n = 2) (hd : 9 ≤ d) (hR1 : hp_nx h + 1 ≤ hp_n0 G + hp_LC) (hR2 : hp_sl h + 6 ≤ hp_LS) : hp_C l G yX5_workerAt (.code yX5_workerAt cX5_workerAt 4 (some (.object "KeeperTree$Worker"))) d [.ref (κ.1 5 0), .int x] (h) (fun _ _ => False) (fun E h' => E = "java/lang/IllegalArgumentException" ∧ h' = hp_mkX h) := by
  refine hp_ofV (by decide) (by simp [Value.category]) (Nat.le_of_ble_eq_true rfl) (fun M C hr hx el => ?_)
  by_cases b1 : a_bad a x
  · refine hp_aload_nR C dX5_workerAt_0 rfl ?_
    refine hp_iload_n C dX5_workerAt_1 rfl ?_
    exact hp_callV (ci := 5) C ml_X5_109 im_X5_nodeAt se_X5_nodeAt rfl (by decide) (kw_nodeX (d := d - 1) K T b1 (by omega) hR1 hR2) (by omega) dX5_workerAt_2 K.isT rfl rfl (by simp [Value.category]) (fun _ _ hf => hf.elim) (fun E_1 h_1 hq => hp_out C hx hq)
  · have hex : ∃ n, n < a_mk a ∧ x = nI n ∧ ¬ a_nd a 3 n = 2 := Classical.byContradiction (fun z => b1 (fun n h1 h2 => Classical.byContradiction (fun h3 => z ⟨n, h1, h2, h3⟩)))
    obtain ⟨n, hn, rfl, h3⟩ := hex
    have hk : a_nd a 0 n = 1 := by
      rcases T.kb hn with q | q
      · exact absurd (hbad n hn rfl q) h3
      · exact q
    refine hp_aload_nR C dX5_workerAt_0 rfl ?_
    refine hp_iload_n C dX5_workerAt_1 rfl ?_
    refine hp_callV (ci := 5) C ml_X5_109 im_X5_nodeAt se_X5_nodeAt rfl (by decide) (kw_node (d := d - 1) K T hn h3 (by omega)) (by omega) dX5_workerAt_2 K.isT rfl rfl (by simp [Value.category]) (fun v_2 h_2 hp => ?_) (fun _ _ hf => hf.elim)
    obtain ⟨rfl, e_2⟩ := hp
    rw [e_2]
    refine hp_astore_n (r := some _) C dX5_workerAt_5 (by decide) ?_
    refine hp_aload_nR C dX5_workerAt_6 rfl ?_
    refine hp_instNo C 2 cl_X5_83 (by decide) rfl (by decide) dX5_workerAt_7 (K.isK hn hk) ?_
    refine hp_if_eq (tgt := 20) C dX5_workerAt_10 (by decide) (fun _ => ?_) (fun z_9 => absurd z_9 (by decide))
    refine hp_athrow C tl_A (by omega) dX5_workerAt_20 dX5_workerAt_23 dX5_workerAt_24 dX5_workerAt_27 hx (by simp [Value.category]) hR1 hR2 ?_
    exact ⟨rfl, rfl⟩
set_option maxRecDepth 20000 in
set_option maxHeartbeats 4000000 in
theorem kw_owner {l : Launch} {G : hpG} {pr : Nat → Prop} {B : hpT} {N S : Nat} {h : hpT} {κ : kS} {a : aS} {d : Nat} (K : KR G pr B N S h κ a) {n : Nat} (T : a_T a) (hn : n < a_mk a) (h0 : n ≠ 0) : hp_C l G yX5_ownerOf (.code yX5_ownerOf cX5_ownerOf 1 (some (.object "KeeperTree$Keeper"))) d [.ref (κ.1 0 n)] (h) (fun v h' => v = some (.ref (κ.1 0 (a_pa a n))) ∧ h' = h) (fun _ _ => False) := by
  have hb := T.kb hn
  refine hp_ofV (by decide) (by simp [Value.category]) (Nat.le_of_ble_eq_true rfl) (fun M C hr hx el => ?_)
  refine hp_aload_nR C dX5_ownerOf_0 rfl ?_
  refine kg_N (v := .ref (κ.1 0 (a_pa a n))) C K hn hb (by decide) fl_X5_133_2 fl_X5_133_4 dX5_ownerOf_1 ((K.f65 hn).trans (by rw [if_neg h0]; rfl)) ?_
  refine hp_ifnonnull (r := some _) (tgt := 15) C dX5_ownerOf_4 (by decide) (fun _ _ => ?_) (fun hx_ => by cases hx_)
  refine hp_aload_nR C dX5_ownerOf_15 rfl ?_
  refine kg_N (v := .ref (κ.1 0 (a_pa a n))) C K hn hb (by decide) fl_X5_133_2 fl_X5_133_4 dX5_ownerOf_16 ((K.f65 hn).trans (by rw [if_neg h0]; rfl)) ?_
  refine hp_aret (r := some _) C hr (Or.inl ⟨_, rfl⟩) dX5_ownerOf_19 ?_
  exact ⟨rfl, rfl⟩
set_option maxRecDepth 20000 in
set_option maxHeartbeats 4000000 in
theorem kw_ownerX {l : Launch} {G : hpG} {pr : Nat → Prop} {B : hpT} {N S : Nat} {h : hpT} {κ : kS} {a : aS} {d : Nat} (K : KR G pr B N S h κ a) (T : a_T a) (hd : 6 ≤ d) (hR1 : hp_nx h + 1 ≤ hp_n0 G + hp_LC) (hR2 : hp_sl h + 6 ≤ hp_LS) : hp_C l G yX5_ownerOf (.code yX5_ownerOf cX5_ownerOf 1 (some (.object "KeeperTree$Keeper"))) d [.ref (κ.1 0 0)] (h) (fun _ _ => False) (fun E h' => E = "java/lang/IllegalArgumentException" ∧ h' = hp_mkX h) := by
  have hn : 0 < a_mk a := T.1.1
  have hb := T.kb hn
  refine hp_ofV (by decide) (by simp [Value.category]) (Nat.le_of_ble_eq_true rfl) (fun M C hr hx el => ?_)
  refine hp_aload_nR C dX5_ownerOf_0 rfl ?_
  refine kg_N (v := .null) C K hn hb (by decide) fl_X5_133_2 fl_X5_133_4 dX5_ownerOf_1 ((K.f65 hn).trans (by rw [if_pos rfl]; rfl)) ?_
  refine hp_ifnonnull (r := none) (tgt := 15) C dX5_ownerOf_4 (by decide) (fun _ hx_ => by cases hx_) (fun _ => ?_)
  refine hp_athrow C tl_A (by omega) dX5_ownerOf_7 dX5_ownerOf_10 dX5_ownerOf_11 dX5_ownerOf_14 hx (by simp [Value.category]) hR1 hR2 ?_
  exact ⟨rfl, rfl⟩
set_option maxRecDepth 20000 in
set_option maxHeartbeats 4000000 in
theorem kw_room {l : Launch} {G : hpG} {pr : Nat → Prop} {B : hpT} {N S : Nat} {h : hpT} {κ : kS} {a : aS} {d : Nat} (K : KR G pr B N S h κ a) {n : Nat} (T : a_T a) (hn : n < a_mk a) (hk : a_nd a 0 n = 1) : hp_C l G yX5_hasRoomBelow (.code yX5_hasRoomBelow cX5_hasRoomBelow 2 (some .boolean)) d [.ref (κ.1 5 0), .ref (κ.1 0 n)] (h) (fun v h' => v = some (.int (if a_mk a < 80 ∧ a_nd a 2 n < 8 then 1 else 0)) ∧ h' = h) (fun _ _ => False) := by
  have r2 := T.r2 hn
  have m80 := T.1.2
  refine hp_ofV (by decide) (by simp [Value.category]) (Nat.le_of_ble_eq_true rfl) (fun M C hr hx el => ?_)
  refine hp_aload_nR C dX5_hasRoomBelow_0 rfl ?_
  refine hp_get C fl_X5_31_5 dX5_hasRoomBelow_1 K.isT K.f163 ?_
  refine hp_bipush (v := 80) C dX5_hasRoomBelow_4 (by decide) ?_
  refine hp_icmp_ge (tgt := 22) C dX5_hasRoomBelow_6 (by decide) (fun c_6 => ?_) (fun c_6 => ?_)
  · refine hp_iconst (v := 0) C dX5_hasRoomBelow_22 (by decide) ?_
    refine hp_iret C hr (by decide) dX5_hasRoomBelow_23 ?_
    exact ⟨by rw [if_neg (by have := (nI_leI (a := 80) (b := a_mk a) (by omega) (by omega)).mp c_6; omega)], rfl⟩
  · refine hp_aload_nR C dX5_hasRoomBelow_9 rfl ?_
    refine hp_get C fl_X5_180_2 dX5_hasRoomBelow_10 (K.isK hn hk) (K.f66 hn) ?_
    refine hp_bipush (v := 8) C dX5_hasRoomBelow_13 (by decide) ?_
    refine hp_icmp_ge (tgt := 22) C dX5_hasRoomBelow_15 (by decide) (fun c_15 => ?_) (fun c_15 => ?_)
    · refine hp_iconst (v := 0) C dX5_hasRoomBelow_22 (by decide) ?_
      refine hp_iret C hr (by decide) dX5_hasRoomBelow_23 ?_
      exact ⟨by rw [if_neg (by have := (a_ofI_le (x := 8) (y := a_nd a 2 n) (by omega) (by omega)).mp c_15; omega)], rfl⟩
    · refine hp_iconst (v := 1) C dX5_hasRoomBelow_18 (by decide) ?_
      refine hp_goto (tgt := 23) C dX5_hasRoomBelow_19 (by decide) ?_
      refine hp_iret C hr (by decide) dX5_hasRoomBelow_23 ?_
      exact ⟨by rw [if_pos (by have q1 := (not_congr (nI_leI (a := 80) (b := a_mk a) (by omega) (by omega))).mp c_6; have q2 := (not_congr (a_ofI_le (x := 8) (y := a_nd a 2 n) (by omega) (by omega))).mp c_15; omega)], rfl⟩
