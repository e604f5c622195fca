/-! ===== the class's small methods, with its first keeper alone ===== -/
def kt_s0 : ktS := ((fun f => if f = 163 then 1 else if f = 72 then 1 else if f = 73 then 5 else 0), fun _ _ => 0)
/-- thrown: 1 for IllegalArgumentException, 2 for IllegalStateException -/
def kt_X (c : Int32) (h : hpT) : String → hpT → Prop := fun E h' => h' = hp_mkX h ∧ ((c = 1 ∧ E = "java/lang/IllegalArgumentException") ∨ (c = 2 ∧ E = "java/lang/IllegalStateException"))
theorem kt_to {c c' : Int32} {h h1 : hpT} {E : String} (hq : kt_X c' h E h1) (e : ¬ c' = 0 → c = c') : kt_X c h E h1 := by
  obtain ⟨q1, q2⟩ := hq
  have hz : ¬ c' = 0 := by rcases q2 with ⟨z, -⟩ | ⟨z, -⟩ <;> (rw [z]; decide)
  rw [e hz]
  exact ⟨q1, q2⟩
/-- one after the other: the first that throws -/
def kt_sq (a b : Int32) : Int32 := if a = 0 then b else a
def ktc_in (x lw hg : Int32) : Int32 := if mo_inn x lw hg = 0 then 1 else 0
def ktc_bd (a r t : Int32) : Int32 := kt_sq (ktc_in a 0 2) (kt_sq (ktc_in r 0 50) (ktc_in t 1 1000))
def ktc_st (b : Int32) : Int32 := if b = 0 then 2 else 0
def ktc_no (n : Int32) : Int32 := kt_sq (ktc_in n 0 79) (if n.toNatClampNeg = 0 then 0 else 1)
theorem kt_le1 {a b : Int32} (h : a ≤ b) : ¬ b < a := by
  rw [Int32.lt_iff_toInt_lt]
  rw [Int32.le_iff_toInt_le] at h
  omega
theorem kt_le2 {a b : Int32} (h : ¬ a ≤ b) : b < a := by
  rw [Int32.lt_iff_toInt_lt]
  rw [Int32.le_iff_toInt_le] at h
  omega
theorem kt_79 {n : Int32} (e : ktc_in n 0 79 = 0) : vp_in n 80 := by
  unfold ktc_in mo_inn at e
  rw [vp_in_iff]
  by_cases a : n < 0
  · rw [if_pos a, if_pos rfl] at e
    exact absurd e (by decide)
  · by_cases b : (79 : Int32) < n
    · rw [if_neg a, if_pos b, if_pos rfl] at e
      exact absurd e (by decide)
    · rw [Int32.lt_iff_toInt_lt] at a b
      have e1 : (79 : Int32).toInt = 79 := by decide
      rw [Int32.toInt_zero] at a
      omega
set_option maxRecDepth 20000 in
set_option maxHeartbeats 4000000 in
theorem ktm_in {l : Launch} {G : hpG} {h : hpT} {d : Nat} {x lw hg : Int32} (hd : 6 ≤ d) (rm : hp_nx h + 100 ≤ hp_n0 G + hp_LC ∧ hp_sl h + 20000 ≤ hp_LS) : hp_C l G yX5_wantWithin (.code yX5_wantWithin cX5_wantWithin 3 none) d [.int x, .int lw, .int hg] (h) (fun v h' => ktc_in x lw hg = 0 ∧ v = none ∧ h' = h) (kt_X (ktc_in x lw hg) (h)) := by
  refine hp_ofV (by decide) (by simp [Value.category]) (Nat.le_of_ble_eq_true rfl) (fun M C hr hx el => ?_)
  refine hp_iload_n C dX5_wantWithin_0 rfl ?_
  refine hp_iload_n C dX5_wantWithin_1 rfl ?_
  refine hp_icmp_lt (tgt := 10) C dX5_wantWithin_2 (by decide) (fun c_2 => ?_) (fun c_2 => ?_)
  · refine hp_athrow C tl_A (by omega) dX5_wantWithin_10 dX5_wantWithin_13 dX5_wantWithin_14 dX5_wantWithin_17 hx (by simp [Value.category]) (by have q1 := rm.1; have q2 := rm.2; simp only [hp_put, hp_set, hp_mk, hp_mkA, hp_mkX, kt_w, hp_nx, hp_sl] at *; omega) (by have q1 := rm.1; have q2 := rm.2; simp only [hp_put, hp_set, hp_mk, hp_mkA, hp_mkX, kt_w, hp_nx, hp_sl] at *; omega) ?_
    exact ⟨rfl, Or.inl ⟨by unfold ktc_in mo_inn; rw [if_pos c_2]; rfl, rfl⟩⟩
  · refine hp_iload_n C dX5_wantWithin_5 rfl ?_
    refine hp_iload_n C dX5_wantWithin_6 rfl ?_
    refine hp_icmp_le (tgt := 18) C dX5_wantWithin_7 (by decide) (fun c_7 => ?_) (fun c_7 => ?_)
    · refine hp_vret C hr dX5_wantWithin_18 ?_
      exact ⟨by unfold ktc_in mo_inn; rw [if_neg c_2, if_neg (kt_le1 c_7)]; rfl, rfl, rfl⟩
    · refine hp_athrow C tl_A (by omega) dX5_wantWithin_10 dX5_wantWithin_13 dX5_wantWithin_14 dX5_wantWithin_17 hx (by simp [Value.category]) (by have q1 := rm.1; have q2 := rm.2; simp only [hp_put, hp_set, hp_mk, hp_mkA, hp_mkX, kt_w, hp_nx, hp_sl] at *; omega) (by have q1 := rm.1; have q2 := rm.2; simp only [hp_put, hp_set, hp_mk, hp_mkA, hp_mkX, kt_w, hp_nx, hp_sl] at *; omega) ?_
      exact ⟨rfl, Or.inl ⟨by unfold ktc_in mo_inn; rw [if_neg c_2, if_pos (kt_le2 c_7)]; rfl, rfl⟩⟩
set_option maxRecDepth 20000 in
set_option maxHeartbeats 4000000 in
theorem ktm_bd {l : Launch} {G : hpG} {h : hpT} {d : Nat} {a r t : Int32} (hd : 7 ≤ d) (rm : hp_nx h + 100 ≤ hp_n0 G + hp_LC ∧ hp_sl h + 20000 ≤ hp_LS) : hp_C l G yX5_wantBounds (.code yX5_wantBounds cX5_wantBounds 3 none) d [.int a, .int r, .int t] (h) (fun v h' => ktc_bd a r t = 0 ∧ v = none ∧ h' = h) (kt_X (ktc_bd a r t) (h)) := by
  refine hp_ofV (by decide) (by simp [Value.category]) (Nat.le_of_ble_eq_true rfl) (fun M C hr hx el => ?_)
  refine hp_iload_n C dX5_wantBounds_0 rfl ?_
  refine hp_iconst (v := 0) C dX5_wantBounds_1 (by decide) ?_
  refine hp_iconst (v := 2) C dX5_wantBounds_2 (by decide) ?_
  refine hp_callS C ml_X5_65 sm_X5_wantWithin (ktm_in (d := d - 1) (by omega) rm) (by omega) dX5_wantBounds_3 rfl rfl (by simp [Value.category]) (fun v_1 h_1 hp => ?_) (fun E_1 h_1 hq => hp_out C hx (kt_to hq (fun q_9 => by simp only [ktc_bd, kt_sq, if_true, if_false, *])))
  obtain ⟨e_3, rfl, rfl⟩ := hp
  refine hp_iload_n C dX5_wantBounds_6 rfl ?_
  refine hp_iconst (v := 0) C dX5_wantBounds_7 (by decide) ?_
  refine hp_bipush (v := 50) C dX5_wantBounds_8 (by decide) ?_
  refine hp_callS C ml_X5_65 sm_X5_wantWithin (ktm_in (d := d - 1) (by omega) rm) (by omega) dX5_wantBounds_10 rfl rfl (by simp [Value.category]) (fun v_1 h_1 hp => ?_) (fun E_1 h_1 hq => hp_out C hx (kt_to hq (fun q_9 => by simp only [ktc_bd, kt_sq, if_true, if_false, *])))
  obtain ⟨e_10, rfl, rfl⟩ := hp
  refine hp_iload_n C dX5_wantBounds_13 rfl ?_
  refine hp_iconst (v := 1) C dX5_wantBounds_14 (by decide) ?_
  refine hp_sipush (v := 1000) C dX5_wantBounds_15 (by decide) ?_
  refine hp_callS C ml_X5_65 sm_X5_wantWithin (ktm_in (d := d - 1) (by omega) rm) (by omega) dX5_wantBounds_18 rfl rfl (by simp [Value.category]) (fun v_1 h_1 hp => ?_) (fun E_1 h_1 hq => hp_out C hx (kt_to hq (fun q_9 => by simp only [ktc_bd, kt_sq, if_true, if_false, *])))
  obtain ⟨e_18, rfl, rfl⟩ := hp
  refine hp_vret C hr dX5_wantBounds_21 ?_
  exact ⟨by simp only [ktc_bd, kt_sq, *, if_true, if_false], rfl, rfl⟩
set_option maxRecDepth 20000 in
set_option maxHeartbeats 4000000 in
theorem ktm_st {l : Launch} {G : hpG} {h : hpT} {d : Nat} {b : Int32} (hd : 6 ≤ d) (rm : hp_nx h + 100 ≤ hp_n0 G + hp_LC ∧ hp_sl h + 20000 ≤ hp_LS) : hp_C l G yX5_wantState (.code yX5_wantState cX5_wantState 1 none) d [.int b] (h) (fun v h' => ktc_st b = 0 ∧ v = none ∧ h' = h) (kt_X (ktc_st b) (h)) := by
  refine hp_ofV (by decide) (by simp [Value.category]) (Nat.le_of_ble_eq_true rfl) (fun M C hr hx el => ?_)
  refine hp_iload_n C dX5_wantState_0 rfl ?_
  refine hp_if_ne (tgt := 12) C dX5_wantState_1 (by decide) (fun c_1 => ?_) (fun c_1 => ?_)
  · refine hp_vret C hr dX5_wantState_12 ?_
    exact ⟨by simp only [ktc_st, *, if_true, if_false], rfl, rfl⟩
  · refine hp_athrow C tl_S (by omega) dX5_wantState_4 dX5_wantState_7 dX5_wantState_8 dX5_wantState_11 hx (by simp [Value.category]) (by have q1 := rm.1; have q2 := rm.2; simp only [hp_put, hp_set, hp_mk, hp_mkA, hp_mkX, kt_w, hp_nx, hp_sl] at *; omega) (by have q1 := rm.1; have q2 := rm.2; simp only [hp_put, hp_set, hp_mk, hp_mkA, hp_mkX, kt_w, hp_nx, hp_sl] at *; omega) ?_
    exact ⟨rfl, Or.inr ⟨by simp only [ktc_st, *, if_true, if_false], rfl⟩⟩
set_option maxRecDepth 20000 in
set_option maxHeartbeats 4000000 in
theorem ktm_mn {l : Launch} {G : hpG} {h : hpT} {k d : Nat} (sh : kt_sh G h k) (rm : hp_nx h + 100 ≤ hp_n0 G + hp_LC ∧ hp_sl h + 20000 ≤ hp_LS) {n : Int32} (hd : 7 ≤ d) : hp_C l G yX5_madeNode (.code yX5_madeNode cX5_madeNode 3 (some (.object "KeeperTree$Node"))) d [.ref k, .int n] (kt_w G h k kt_s0) (fun v h' => ktc_no n = 0 ∧ v = some (.ref (k + 8)) ∧ h' = kt_w G h k kt_s0) (kt_X (ktc_no n) (kt_w G h k kt_s0)) := by
  refine hp_ofV (by decide) (by simp [Value.category]) (Nat.le_of_ble_eq_true rfl) (fun M C hr hx el => ?_)
  refine hp_iload_n C dX5_madeNode_0 rfl ?_
  refine hp_iconst (v := 0) C dX5_madeNode_1 (by decide) ?_
  refine hp_bipush (v := 79) C dX5_madeNode_2 (by decide) ?_
  refine hp_callS C ml_X5_65 sm_X5_wantWithin (ktm_in (d := d - 1) (by omega) rm) (by omega) dX5_madeNode_4 rfl rfl (by simp [Value.category]) (fun v_1 h_1 hp => ?_) (fun E_1 h_1 hq => hp_out C hx (kt_to hq (fun q_9 => by simp only [ktc_no, kt_sq, if_true, if_false, *])))
  obtain ⟨e_4, rfl, rfl⟩ := hp
  refine hp_aload_nR C dX5_madeNode_7 rfl ?_
  refine kt_get (v := .ref (k + 7)) C sh 0 fl_X5_18_5 (by decide) rfl dX5_madeNode_8 ?_
  refine hp_iload_n C dX5_madeNode_11 rfl ?_
  refine kt_nod C sh dX5_madeNode_12 (by exact kt_79 e_4) ?_
  by_cases q_n : n.toNatClampNeg = 0
  · rw [if_pos q_n]
    refine hp_astore_n (r := some _) C dX5_madeNode_13 (by decide) ?_
    refine hp_aload_nR C dX5_madeNode_14 rfl ?_
    refine hp_ifnonnull (r := some _) (tgt := 26) C dX5_madeNode_15 (by decide) (fun _ _ => ?_) (fun hx_ => by cases hx_)
    refine hp_aload_nR C dX5_madeNode_26 rfl ?_
    refine hp_aret (r := some _) C hr (Or.inl ⟨_, rfl⟩) dX5_madeNode_27 ?_
    exact ⟨by simp only [ktc_no, kt_sq, *, if_true, if_false], rfl, rfl⟩
  · rw [if_neg q_n]
    refine hp_astore_n (r := none) C dX5_madeNode_13 (by decide) ?_
    refine hp_aload_n (r := none) C dX5_madeNode_14 rfl ?_
    refine hp_ifnonnull (r := none) (tgt := 26) C dX5_madeNode_15 (by decide) (fun _ hx_ => by cases hx_) (fun _ => ?_)
    refine hp_athrow C tl_A (by omega) dX5_madeNode_18 dX5_madeNode_21 dX5_madeNode_22 dX5_madeNode_25 hx (by simp [Value.category]) (by have q1 := rm.1; have q2 := rm.2; simp only [hp_put, hp_set, hp_mk, hp_mkA, hp_mkX, kt_w, hp_nx, hp_sl] at *; omega) (by have q1 := rm.1; have q2 := rm.2; simp only [hp_put, hp_set, hp_mk, hp_mkA, hp_mkX, kt_w, hp_nx, hp_sl] at *; omega) ?_
    exact ⟨rfl, Or.inl ⟨by simp only [ktc_no, kt_sq, *, if_true, if_false], rfl⟩⟩
set_option maxRecDepth 20000 in
set_option maxHeartbeats 4000000 in
theorem ktm_no {l : Launch} {G : hpG} {h : hpT} {k d : Nat} (sh : kt_sh G h k) (rm : hp_nx h + 100 ≤ hp_n0 G + hp_LC ∧ hp_sl h + 20000 ≤ hp_LS) {n : Int32} (hd : 8 ≤ d) : hp_C l G yX5_nodeAt (.code yX5_nodeAt cX5_nodeAt 3 (some (.object "KeeperTree$Node"))) d [.ref k, .int n] (kt_w G h k kt_s0) (fun v h' => ktc_no n = 0 ∧ v = some (.ref (k + 8)) ∧ h' = kt_w G h k kt_s0) (kt_X (ktc_no n) (kt_w G h k kt_s0)) := by
  refine hp_ofV (by decide) (by simp [Value.category]) (Nat.le_of_ble_eq_true rfl) (fun M C hr hx el => ?_)
  refine hp_aload_nR C dX5_nodeAt_0 rfl ?_
  refine hp_iload_n C dX5_nodeAt_1 rfl ?_
  refine hp_callV (ci := 5) C ml_X5_130 im_X5_madeNode se_X5_madeNode rfl (by decide) (ktm_mn (d := d - 1) sh rm (by omega)) (by omega) dX5_nodeAt_2 (sh.o 0 (by decide) rfl) rfl rfl (by simp [Value.category]) (fun v_1 h_1 hp => ?_) (fun E_1 h_1 hq => hp_out C hx (kt_to hq (fun q_9 => by simp only [kt_sq, if_true, if_false, *])))
  obtain ⟨e_2, rfl, rfl⟩ := hp
  refine hp_astore_n (r := some _) C dX5_nodeAt_5 (by decide) ?_
  refine hp_aload_nR C dX5_nodeAt_6 rfl ?_
  refine kt_get (v := .int 0) C sh 8 fl_X5_113_2 (by decide) rfl dX5_nodeAt_7 ?_
  refine hp_iconst (v := 2) C dX5_nodeAt_10 (by decide) ?_
  refine hp_icmp_ne (tgt := 22) C dX5_nodeAt_11 (by decide) (fun _ => ?_) (fun z_9 => absurd z_9 (by decide))
  refine hp_aload_nR C dX5_nodeAt_22 rfl ?_
  refine hp_aret (r := some _) C hr (Or.inl ⟨_, rfl⟩) dX5_nodeAt_23 ?_
  exact ⟨e_2, rfl, rfl⟩
set_option maxRecDepth 20000 in
set_option maxHeartbeats 4000000 in
theorem ktm_ke {l : Launch} {G : hpG} {h : hpT} {k d : Nat} (sh : kt_sh G h k) (rm : hp_nx h + 100 ≤ hp_n0 G + hp_LC ∧ hp_sl h + 20000 ≤ hp_LS) {n : Int32} (hd : 9 ≤ d) : hp_C l G yX5_keeperAt (.code yX5_keeperAt cX5_keeperAt 4 (some (.object "KeeperTree$Keeper"))) d [.ref k, .int n] (kt_w G h k kt_s0) (fun v h' => ktc_no n = 0 ∧ v = some (.ref (k + 8)) ∧ h' = kt_w G h k kt_s0) (kt_X (ktc_no n) (kt_w G h k kt_s0)) := by
  refine hp_ofV (by decide) (by simp [Value.category]) (Nat.le_of_ble_eq_true rfl) (fun M C hr hx el => ?_)
  refine hp_aload_nR C dX5_keeperAt_0 rfl ?_
  refine hp_iload_n C dX5_keeperAt_1 rfl ?_
  refine hp_callV (ci := 5) C ml_X5_109 im_X5_nodeAt se_X5_nodeAt rfl (by decide) (ktm_no (d := d - 1) sh rm (by omega)) (by omega) dX5_keeperAt_2 (sh.o 0 (by decide) rfl) rfl rfl (by simp [Value.category]) (fun v_1 h_1 hp => ?_) (fun E_1 h_1 hq => hp_out C hx (kt_to hq (fun q_9 => by simp only [kt_sq, if_true, if_false, *])))
  obtain ⟨e_2, rfl, rfl⟩ := hp
  refine hp_astore_n (r := some _) C dX5_keeperAt_5 (by decide) ?_
  refine hp_aload_nR C dX5_keeperAt_6 rfl ?_
  refine hp_instY C 2 cl_X5_22 (by decide) rfl (by decide) dX5_keeperAt_7 (sh.o 8 (by decide) rfl) ?_
  refine hp_if_eq (tgt := 20) C dX5_keeperAt_10 (by decide) (fun z_9 => absurd z_9 (by decide)) (fun _ => ?_)
  refine hp_aload_nR C dX5_keeperAt_13 rfl ?_
  refine hp_castY C 2 cl_X5_22 (by decide) rfl (by decide) dX5_keeperAt_14 (sh.o 8 (by decide) rfl) ?_
  refine hp_astore_n (r := some _) C dX5_keeperAt_17 (by decide) ?_
  refine hp_aload_nR C dX5_keeperAt_18 rfl ?_
  refine hp_aret (r := some _) C hr (Or.inl ⟨_, rfl⟩) dX5_keeperAt_19 ?_
  exact ⟨e_2, rfl, rfl⟩
set_option maxRecDepth 20000 in
set_option maxHeartbeats 4000000 in
theorem ktm_wo {l : Launch} {G : hpG} {h : hpT} {k d : Nat} (sh : kt_sh G h k) (rm : hp_nx h + 100 ≤ hp_n0 G + hp_LC ∧ hp_sl h + 20000 ≤ hp_LS) {n : Int32} (hd : 9 ≤ d) : hp_C l G yX5_workerAt (.code yX5_workerAt cX5_workerAt 4 (some (.object "KeeperTree$Worker"))) d [.ref k, .int n] (kt_w G h k kt_s0) (fun v h' => kt_sq (ktc_no n) 1 = 0 ∧ v = none ∧ h' = kt_w G h k kt_s0) (kt_X (kt_sq (ktc_no n) 1) (kt_w G h k kt_s0)) := by
  refine hp_ofV (by decide) (by simp [Value.category]) (Nat.le_of_ble_eq_true rfl) (fun M C hr hx el => ?_)
  refine hp_aload_nR C dX5_workerAt_0 rfl ?_
  refine hp_iload_n C dX5_workerAt_1 rfl ?_
  refine hp_callV (ci := 5) C ml_X5_109 im_X5_nodeAt se_X5_nodeAt rfl (by decide) (ktm_no (d := d - 1) sh rm (by omega)) (by omega) dX5_workerAt_2 (sh.o 0 (by decide) rfl) rfl rfl (by simp [Value.category]) (fun v_1 h_1 hp => ?_) (fun E_1 h_1 hq => hp_out C hx (kt_to hq (fun q_9 => by simp only [kt_sq, if_true, if_false, *])))
  obtain ⟨e_2, rfl, rfl⟩ := hp
  refine hp_astore_n (r := some _) C dX5_workerAt_5 (by decide) ?_
  refine hp_aload_nR C dX5_workerAt_6 rfl ?_
  refine hp_instNo C 2 cl_X5_83 (by decide) rfl (by decide) dX5_workerAt_7 (sh.o 8 (by decide) rfl) ?_
  refine hp_if_eq (tgt := 20) C dX5_workerAt_10 (by decide) (fun _ => ?_) (fun z_9 => absurd z_9 (by decide))
  refine hp_athrow C tl_A (by omega) dX5_workerAt_20 dX5_workerAt_23 dX5_workerAt_24 dX5_workerAt_27 hx (by simp [Value.category]) (by have q1 := rm.1; have q2 := rm.2; simp only [hp_put, hp_set, hp_mk, hp_mkA, hp_mkX, kt_w, hp_nx, hp_sl] at *; omega) (by have q1 := rm.1; have q2 := rm.2; simp only [hp_put, hp_set, hp_mk, hp_mkA, hp_mkX, kt_w, hp_nx, hp_sl] at *; omega) ?_
  exact ⟨rfl, Or.inl ⟨by simp only [kt_sq, *, if_true, if_false], rfl⟩⟩
set_option maxRecDepth 20000 in
set_option maxHeartbeats 4000000 in
theorem ktm_ow {l : Launch} {G : hpG} {h : hpT} {k d : Nat} (sh : kt_sh G h k) (rm : hp_nx h + 100 ≤ hp_n0 G + hp_LC ∧ hp_sl h + 20000 ≤ hp_LS) (hd : 6 ≤ d) : hp_C l G yX5_ownerOf (.code yX5_ownerOf cX5_ownerOf 1 (some (.object "KeeperTree$Keeper"))) d [.ref (k + 8)] (kt_w G h k kt_s0) (fun v h' => (1 : Int32) = 0 ∧ v = none ∧ h' = kt_w G h k kt_s0) (kt_X ((1 : Int32)) (kt_w G h k kt_s0)) := by
  refine hp_ofV (by decide) (by simp [Value.category]) (Nat.le_of_ble_eq_true rfl) (fun M C hr hx el => ?_)
  refine hp_aload_nR C dX5_ownerOf_0 rfl ?_
  refine kt_get (v := .null) C sh 8 fl_X5_133_2 (by decide) rfl dX5_ownerOf_1 ?_
  refine hp_ifnonnull (r := none) (tgt := 15) C dX5_ownerOf_4 (by decide) (fun _ hx_ => by cases hx_) (fun _ => ?_)
  refine hp_athrow C tl_A (by omega) dX5_ownerOf_7 dX5_ownerOf_10 dX5_ownerOf_11 dX5_ownerOf_14 hx (by simp [Value.category]) (by have q1 := rm.1; have q2 := rm.2; simp only [hp_put, hp_set, hp_mk, hp_mkA, hp_mkX, kt_w, hp_nx, hp_sl] at *; omega) (by have q1 := rm.1; have q2 := rm.2; simp only [hp_put, hp_set, hp_mk, hp_mkA, hp_mkX, kt_w, hp_nx, hp_sl] at *; omega) ?_
  exact ⟨rfl, Or.inl ⟨by simp only [kt_sq, *, if_true, if_false], rfl⟩⟩
set_option maxRecDepth 20000 in
set_option maxHeartbeats 4000000 in
theorem ktm_ro {l : Launch} {G : hpG} {h : hpT} {k d : Nat} (sh : kt_sh G h k) (rm : hp_nx h + 100 ≤ hp_n0 G + hp_LC ∧ hp_sl h + 20000 ≤ hp_LS)  : hp_C l G yX5_hasRoomBelow (.code yX5_hasRoomBelow cX5_hasRoomBelow 2 (some .boolean)) d [.ref k, .ref (k + 8)] (kt_w G h k kt_s0) (fun v h' => (0 : Int32) = 0 ∧ v = some (.int 1) ∧ h' = kt_w G h k kt_s0) (kt_X ((0 : Int32)) (kt_w G h k kt_s0)) := by
  refine hp_ofV (by decide) (by simp [Value.category]) (Nat.le_of_ble_eq_true rfl) (fun M C hr hx el => ?_)
  refine hp_aload_nR C dX5_hasRoomBelow_0 rfl ?_
  refine kt_get (v := .int 1) C sh 0 fl_X5_31_5 (by decide) rfl dX5_hasRoomBelow_1 ?_
  refine hp_bipush (v := 80) C dX5_hasRoomBelow_4 (by decide) ?_
  refine hp_icmp_ge (tgt := 22) C dX5_hasRoomBelow_6 (by decide) (fun z_9 => absurd z_9 (by decide)) (fun _ => ?_)
  refine hp_aload_nR C dX5_hasRoomBelow_9 rfl ?_
  refine kt_get (v := .int 0) C sh 8 fl_X5_180_2 (by decide) rfl dX5_hasRoomBelow_10 ?_
  refine hp_bipush (v := 8) C dX5_hasRoomBelow_13 (by decide) ?_
  refine hp_icmp_ge (tgt := 22) C dX5_hasRoomBelow_15 (by decide) (fun z_9 => absurd z_9 (by decide)) (fun _ => ?_)
  refine hp_iconst (v := 1) C dX5_hasRoomBelow_18 (by decide) ?_
  refine hp_goto (tgt := 23) C dX5_hasRoomBelow_19 (by decide) ?_
  refine hp_iret C hr (by decide) dX5_hasRoomBelow_23 ?_
  exact ⟨rfl, rfl, rfl⟩
