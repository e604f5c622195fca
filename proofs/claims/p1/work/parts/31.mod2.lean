/-! ===== the reference's methods at the fresh state ===== -/
theorem mf_ok : mo_ok mo_s0 := ⟨1, rfl, by decide, by decide⟩
theorem mf_N {n : Int32} (hn : ¬ n = 0) : mo_isN mo_s0 n = 0 := by
  unfold mo_isN
  by_cases a : n < 0
  · rw [if_pos a]
  · rw [if_neg a, if_pos]
    show (1 : Int32) ≤ n
    rw [Int32.le_iff_toInt_le]
    rw [Int32.lt_iff_toInt_lt, Int32.toInt_zero] at a
    have h1 : (1 : Int32).toInt = 1 := by decide
    have h2 : n.toInt ≠ 0 := fun e => hn (Int32.toInt_inj.mp (e.trans (by decide)))
    omega
theorem mf_K {n : Int32} (hn : ¬ n = 0) : mo_isK mo_s0 n = 0 := by unfold mo_isK; rw [if_pos (mf_N hn)]
theorem mf_W (n : Int32) : mo_isW mo_s0 n = 0 := by
  by_cases hn : n = 0
  · subst hn; decide
  · unfold mo_isW; rw [if_pos (mf_N hn)]
/-- what a call leaves: the code of what it threw, and its answer where it threw nothing -/
def mf_V (h : hpT) (m : Nat) (c : Int32) : Option Value → hpT → Prop := fun v h' => v = none ∧ ∃ s' : moS, h' = mo_w h m s' ∧ s'.1 0 = c
def mf_I (h : hpT) (m : Nat) (c r : Int32) : Option Value → hpT → Prop := fun v h' => ∃ (s' : moS) (x : Int32), v = some (.int x) ∧ h' = mo_w h m s' ∧ s'.1 0 = c ∧ (c = 0 → x = r)
def mo_s1 : moS := mo_pt mo_s0 0 0
set_option maxRecDepth 20000 in
set_option maxHeartbeats 4000000 in
theorem mf_ends {l : Launch} {G : hpG} {h : hpT} {m d : Nat} (sh : mo_sh G h m) (hd : 8 ≤ d) {n f : Int32} : hp_C l G yX6_ends (.code yX6_ends cX6_ends 3 none) d [.ref m, .int n, .int f] (mo_w h m mo_s0) (mf_V h m 1) (fun _ _ => False) := by
  refine hp_ofV (by decide) (by simp [Value.category]) (Nat.le_of_ble_eq_true rfl) (fun M C hr hx el => ?_)
  refine hp_aload_nR C dX6_ends_0 rfl ?_
  refine hp_aload_nR C dX6_ends_1 rfl ?_
  refine hp_iload_n C dX6_ends_2 rfl ?_
  refine hp_callV (ci := 6) C ml_X6_134 im_X6_isWorker se_X6_isWorker rfl (by decide) (mo_isWorker (d := d - 1) sh mf_ok (by omega)) (by omega) dX6_ends_3 sh.o rfl rfl (by simp [Value.category]) (fun v_1 h_1 hp => ?_) (fun _ _ hf => hf.elim)
  obtain ⟨rfl, rfl⟩ := hp
  rw [mf_W]
  refine hp_if_eq (tgt := 19) C dX6_ends_6 (by decide) (fun _ => ?_) (fun z_9 => absurd z_9 (by decide))
  refine hp_iconst (v := 1) C dX6_ends_19 (by decide) ?_
  refine hp_goto (tgt := 38) C dX6_ends_20 (by decide) ?_
  refine hp_callV (ci := 6) C ml_X6_125 im_X6_refuses se_X6_refuses rfl (by decide) (mo_refuses (d := d - 1) sh) (by omega) dX6_ends_38 sh.o rfl rfl (by simp [Value.category]) (fun v_1 h_1 hp => ?_) (fun _ _ hf => hf.elim)
  obtain ⟨rfl, rfl⟩ := hp
  refine hp_if_eq (tgt := 45) C dX6_ends_41 (by decide) (fun z_9 => absurd z_9 (by decide)) (fun _ => ?_)
  refine hp_vret C hr dX6_ends_44 ?_
  exact ⟨rfl, _, rfl, rfl⟩
set_option maxRecDepth 20000 in
set_option maxHeartbeats 4000000 in
theorem mf_stop {l : Launch} {G : hpG} {h : hpT} {m d : Nat} (sh : mo_sh G h m) (hd : 8 ≤ d) {n : Int32} : hp_C l G yX6_stop (.code yX6_stop cX6_stop 2 none) d [.ref m, .int n] (mo_w h m mo_s0) (mf_V h m 1) (fun _ _ => False) := by
  refine hp_ofV (by decide) (by simp [Value.category]) (Nat.le_of_ble_eq_true rfl) (fun M C hr hx el => ?_)
  by_cases hn : n = 0
  · subst hn
    refine hp_aload_nR C dX6_stop_0 rfl ?_
    refine hp_aload_nR C dX6_stop_1 rfl ?_
    refine hp_iload_n C dX6_stop_2 rfl ?_
    refine hp_callV (ci := 6) C ml_X6_75 im_X6_isNode se_X6_isNode rfl (by decide) (mo_isNode (d := d - 1) sh mf_ok) (by omega) dX6_stop_3 sh.o rfl rfl (by simp [Value.category]) (fun v_1 h_1 hp => ?_) (fun _ _ hf => hf.elim)
    obtain ⟨rfl, rfl⟩ := hp
    refine hp_if_eq (tgt := 13) C dX6_stop_6 (by decide) (fun z_9 => absurd z_9 (by decide)) (fun _ => ?_)
    refine hp_iload_n C dX6_stop_9 rfl ?_
    refine hp_if_ne (tgt := 17) C dX6_stop_10 (by decide) (fun z_9 => absurd z_9 (by decide)) (fun _ => ?_)
    refine hp_iconst (v := 1) C dX6_stop_13 (by decide) ?_
    refine hp_goto (tgt := 32) C dX6_stop_14 (by decide) ?_
    refine hp_callV (ci := 6) C ml_X6_125 im_X6_refuses se_X6_refuses rfl (by decide) (mo_refuses (d := d - 1) sh) (by omega) dX6_stop_32 sh.o rfl rfl (by simp [Value.category]) (fun v_1 h_1 hp => ?_) (fun _ _ hf => hf.elim)
    obtain ⟨rfl, rfl⟩ := hp
    refine hp_if_eq (tgt := 39) C dX6_stop_35 (by decide) (fun z_9 => absurd z_9 (by decide)) (fun _ => ?_)
    refine hp_vret C hr dX6_stop_38 ?_
    exact ⟨rfl, _, rfl, rfl⟩
  · refine hp_aload_nR C dX6_stop_0 rfl ?_
    refine hp_aload_nR C dX6_stop_1 rfl ?_
    refine hp_iload_n C dX6_stop_2 rfl ?_
    refine hp_callV (ci := 6) C ml_X6_75 im_X6_isNode se_X6_isNode rfl (by decide) (mo_isNode (d := d - 1) sh mf_ok) (by omega) dX6_stop_3 sh.o rfl rfl (by simp [Value.category]) (fun v_1 h_1 hp => ?_) (fun _ _ hf => hf.elim)
    obtain ⟨rfl, rfl⟩ := hp
    rw [mf_N hn]
    refine hp_if_eq (tgt := 13) C dX6_stop_6 (by decide) (fun _ => ?_) (fun z_9 => absurd z_9 (by decide))
    refine hp_iconst (v := 1) C dX6_stop_13 (by decide) ?_
    refine hp_goto (tgt := 32) C dX6_stop_14 (by decide) ?_
    refine hp_callV (ci := 6) C ml_X6_125 im_X6_refuses se_X6_refuses rfl (by decide) (mo_refuses (d := d - 1) sh) (by omega) dX6_stop_32 sh.o rfl rfl (by simp [Value.category]) (fun v_1 h_1 hp => ?_) (fun _ _ hf => hf.elim)
    obtain ⟨rfl, rfl⟩ := hp
    refine hp_if_eq (tgt := 39) C dX6_stop_35 (by decide) (fun z_9 => absurd z_9 (by decide)) (fun _ => ?_)
    refine hp_vret C hr dX6_stop_38 ?_
    exact ⟨rfl, _, rfl, rfl⟩
set_option maxRecDepth 20000 in
set_option maxHeartbeats 4000000 in
theorem mf_again {l : Launch} {G : hpG} {h : hpT} {m d : Nat} (sh : mo_sh G h m) (hd : 8 ≤ d) {n : Int32} : hp_C l G yX6_again (.code yX6_again cX6_again 2 (some .boolean)) d [.ref m, .int n] (mo_w h m mo_s0) (mf_I h m 1 0) (fun _ _ => False) := by
  refine hp_ofV (by decide) (by simp [Value.category]) (Nat.le_of_ble_eq_true rfl) (fun M C hr hx el => ?_)
  by_cases hn : n = 0
  · subst hn
    refine hp_aload_nR C dX6_again_0 rfl ?_
    refine hp_aload_nR C dX6_again_1 rfl ?_
    refine hp_iload_n C dX6_again_2 rfl ?_
    refine hp_callV (ci := 6) C ml_X6_75 im_X6_isNode se_X6_isNode rfl (by decide) (mo_isNode (d := d - 1) sh mf_ok) (by omega) dX6_again_3 sh.o rfl rfl (by simp [Value.category]) (fun v_1 h_1 hp => ?_) (fun _ _ hf => hf.elim)
    obtain ⟨rfl, rfl⟩ := hp
    refine hp_if_eq (tgt := 13) C dX6_again_6 (by decide) (fun z_9 => absurd z_9 (by decide)) (fun _ => ?_)
    refine hp_iload_n C dX6_again_9 rfl ?_
    refine hp_if_ne (tgt := 17) C dX6_again_10 (by decide) (fun z_9 => absurd z_9 (by decide)) (fun _ => ?_)
    refine hp_iconst (v := 1) C dX6_again_13 (by decide) ?_
    refine hp_goto (tgt := 47) C dX6_again_14 (by decide) ?_
    refine hp_callV (ci := 6) C ml_X6_125 im_X6_refuses se_X6_refuses rfl (by decide) (mo_refuses (d := d - 1) sh) (by omega) dX6_again_47 sh.o rfl rfl (by simp [Value.category]) (fun v_1 h_1 hp => ?_) (fun _ _ hf => hf.elim)
    obtain ⟨rfl, rfl⟩ := hp
    refine hp_if_ne (tgt := 65) C dX6_again_50 (by decide) (fun _ => ?_) (fun z_9 => absurd z_9 (by decide))
    refine hp_iconst (v := 0) C dX6_again_65 (by decide) ?_
    refine hp_iret C hr rfl dX6_again_66 ?_
    exact ⟨_, _, rfl, rfl, rfl, fun z_8 => absurd z_8 (by decide)⟩
  · refine hp_aload_nR C dX6_again_0 rfl ?_
    refine hp_aload_nR C dX6_again_1 rfl ?_
    refine hp_iload_n C dX6_again_2 rfl ?_
    refine hp_callV (ci := 6) C ml_X6_75 im_X6_isNode se_X6_isNode rfl (by decide) (mo_isNode (d := d - 1) sh mf_ok) (by omega) dX6_again_3 sh.o rfl rfl (by simp [Value.category]) (fun v_1 h_1 hp => ?_) (fun _ _ hf => hf.elim)
    obtain ⟨rfl, rfl⟩ := hp
    rw [mf_N hn]
    refine hp_if_eq (tgt := 13) C dX6_again_6 (by decide) (fun _ => ?_) (fun z_9 => absurd z_9 (by decide))
    refine hp_iconst (v := 1) C dX6_again_13 (by decide) ?_
    refine hp_goto (tgt := 47) C dX6_again_14 (by decide) ?_
    refine hp_callV (ci := 6) C ml_X6_125 im_X6_refuses se_X6_refuses rfl (by decide) (mo_refuses (d := d - 1) sh) (by omega) dX6_again_47 sh.o rfl rfl (by simp [Value.category]) (fun v_1 h_1 hp => ?_) (fun _ _ hf => hf.elim)
    obtain ⟨rfl, rfl⟩ := hp
    refine hp_if_ne (tgt := 65) C dX6_again_50 (by decide) (fun _ => ?_) (fun z_9 => absurd z_9 (by decide))
    refine hp_iconst (v := 0) C dX6_again_65 (by decide) ?_
    refine hp_iret C hr rfl dX6_again_66 ?_
    exact ⟨_, _, rfl, rfl, rfl, fun z_8 => absurd z_8 (by decide)⟩
set_option maxRecDepth 20000 in
set_option maxHeartbeats 4000000 in
theorem mf_remove {l : Launch} {G : hpG} {h : hpT} {m d : Nat} (sh : mo_sh G h m) (hd : 8 ≤ d) {n : Int32} : hp_C l G yX6_remove (.code yX6_remove cX6_remove 2 (some .int)) d [.ref m, .int n] (mo_w h m mo_s0) (mf_I h m 1 0) (fun _ _ => False) := by
  refine hp_ofV (by decide) (by simp [Value.category]) (Nat.le_of_ble_eq_true rfl) (fun M C hr hx el => ?_)
  by_cases hn : n = 0
  · subst hn
    refine hp_aload_nR C dX6_remove_0 rfl ?_
    refine hp_aload_nR C dX6_remove_1 rfl ?_
    refine hp_iload_n C dX6_remove_2 rfl ?_
    refine hp_callV (ci := 6) C ml_X6_75 im_X6_isNode se_X6_isNode rfl (by decide) (mo_isNode (d := d - 1) sh mf_ok) (by omega) dX6_remove_3 sh.o rfl rfl (by simp [Value.category]) (fun v_1 h_1 hp => ?_) (fun _ _ hf => hf.elim)
    obtain ⟨rfl, rfl⟩ := hp
    refine hp_if_eq (tgt := 13) C dX6_remove_6 (by decide) (fun z_9 => absurd z_9 (by decide)) (fun _ => ?_)
    refine hp_iload_n C dX6_remove_9 rfl ?_
    refine hp_if_ne (tgt := 17) C dX6_remove_10 (by decide) (fun z_9 => absurd z_9 (by decide)) (fun _ => ?_)
    refine hp_iconst (v := 1) C dX6_remove_13 (by decide) ?_
    refine hp_goto (tgt := 32) C dX6_remove_14 (by decide) ?_
    refine hp_callV (ci := 6) C ml_X6_125 im_X6_refuses se_X6_refuses rfl (by decide) (mo_refuses (d := d - 1) sh) (by omega) dX6_remove_32 sh.o rfl rfl (by simp [Value.category]) (fun v_1 h_1 hp => ?_) (fun _ _ hf => hf.elim)
    obtain ⟨rfl, rfl⟩ := hp
    refine hp_if_eq (tgt := 42) C dX6_remove_35 (by decide) (fun z_9 => absurd z_9 (by decide)) (fun _ => ?_)
    refine hp_iconst (v := 0) C dX6_remove_38 (by decide) ?_
    refine hp_goto (tgt := 47) C dX6_remove_39 (by decide) ?_
    refine hp_iret C hr rfl dX6_remove_47 ?_
    exact ⟨_, _, rfl, rfl, rfl, fun z_8 => absurd z_8 (by decide)⟩
  · refine hp_aload_nR C dX6_remove_0 rfl ?_
    refine hp_aload_nR C dX6_remove_1 rfl ?_
    refine hp_iload_n C dX6_remove_2 rfl ?_
    refine hp_callV (ci := 6) C ml_X6_75 im_X6_isNode se_X6_isNode rfl (by decide) (mo_isNode (d := d - 1) sh mf_ok) (by omega) dX6_remove_3 sh.o rfl rfl (by simp [Value.category]) (fun v_1 h_1 hp => ?_) (fun _ _ hf => hf.elim)
    obtain ⟨rfl, rfl⟩ := hp
    rw [mf_N hn]
    refine hp_if_eq (tgt := 13) C dX6_remove_6 (by decide) (fun _ => ?_) (fun z_9 => absurd z_9 (by decide))
    refine hp_iconst (v := 1) C dX6_remove_13 (by decide) ?_
    refine hp_goto (tgt := 32) C dX6_remove_14 (by decide) ?_
    refine hp_callV (ci := 6) C ml_X6_125 im_X6_refuses se_X6_refuses rfl (by decide) (mo_refuses (d := d - 1) sh) (by omega) dX6_remove_32 sh.o rfl rfl (by simp [Value.category]) (fun v_1 h_1 hp => ?_) (fun _ _ hf => hf.elim)
    obtain ⟨rfl, rfl⟩ := hp
    refine hp_if_eq (tgt := 42) C dX6_remove_35 (by decide) (fun z_9 => absurd z_9 (by decide)) (fun _ => ?_)
    refine hp_iconst (v := 0) C dX6_remove_38 (by decide) ?_
    refine hp_goto (tgt := 47) C dX6_remove_39 (by decide) ?_
    refine hp_iret C hr rfl dX6_remove_47 ?_
    exact ⟨_, _, rfl, rfl, rfl, fun z_8 => absurd z_8 (by decide)⟩
set_option maxRecDepth 20000 in
set_option maxHeartbeats 4000000 in
theorem mf_kill {l : Launch} {G : hpG} {h : hpT} {m d : Nat} (sh : mo_sh G h m) (hd : 8 ≤ d) {n : Int32} : hp_C l G yX6_kill (.code yX6_kill cX6_kill 3 (some .int)) d [.ref m, .int n] (mo_w h m mo_s0) (mf_I h m (if n = 0 then 2 else 1) 0) (fun _ _ => False) := by
  refine hp_ofV (by decide) (by simp [Value.category]) (Nat.le_of_ble_eq_true rfl) (fun M C hr hx el => ?_)
  by_cases hn : n = 0
  · subst hn
    refine hp_aload_nR C dX6_kill_0 rfl ?_
    refine hp_aload_nR C dX6_kill_1 rfl ?_
    refine hp_iload_n C dX6_kill_2 rfl ?_
    refine hp_callV (ci := 6) C ml_X6_75 im_X6_isNode se_X6_isNode rfl (by decide) (mo_isNode (d := d - 1) sh mf_ok) (by omega) dX6_kill_3 sh.o rfl rfl (by simp [Value.category]) (fun v_1 h_1 hp => ?_) (fun _ _ hf => hf.elim)
    obtain ⟨rfl, rfl⟩ := hp
    refine hp_if_ne (tgt := 13) C dX6_kill_6 (by decide) (fun _ => ?_) (fun z_9 => absurd z_9 (by decide))
    refine hp_aload_nR C dX6_kill_13 rfl ?_
    refine mo_getA C sh fl_X6_20_6 rfl (by decide) dX6_kill_14 ?_
    refine hp_iload_n C dX6_kill_17 rfl ?_
    refine mo_aldv (v := 0) C sh rfl (by decide) rfl dX6_kill_18 (by unfold vp_in; decide) ?_
    refine hp_iconst (v := 1) C dX6_kill_19 (by decide) ?_
    refine hp_icmp_eq (tgt := 27) C dX6_kill_20 (by decide) (fun z_9 => absurd z_9 (by decide)) (fun _ => ?_)
    refine hp_iconst (v := 2) C dX6_kill_23 (by decide) ?_
    refine hp_goto (tgt := 28) C dX6_kill_24 (by decide) ?_
    refine hp_callV (ci := 6) C ml_X6_125 im_X6_refuses se_X6_refuses rfl (by decide) (mo_refuses (d := d - 1) sh) (by omega) dX6_kill_28 sh.o rfl rfl (by simp [Value.category]) (fun v_1 h_1 hp => ?_) (fun _ _ hf => hf.elim)
    obtain ⟨rfl, rfl⟩ := hp
    refine hp_if_eq (tgt := 36) C dX6_kill_31 (by decide) (fun z_9 => absurd z_9 (by decide)) (fun _ => ?_)
    refine hp_iconst (v := 0) C dX6_kill_34 (by decide) ?_
    refine hp_iret C hr rfl dX6_kill_35 ?_
    exact ⟨_, _, rfl, rfl, rfl, fun z_8 => absurd z_8 (by decide)⟩
  · refine hp_aload_nR C dX6_kill_0 rfl ?_
    refine hp_aload_nR C dX6_kill_1 rfl ?_
    refine hp_iload_n C dX6_kill_2 rfl ?_
    refine hp_callV (ci := 6) C ml_X6_75 im_X6_isNode se_X6_isNode rfl (by decide) (mo_isNode (d := d - 1) sh mf_ok) (by omega) dX6_kill_3 sh.o rfl rfl (by simp [Value.category]) (fun v_1 h_1 hp => ?_) (fun _ _ hf => hf.elim)
    obtain ⟨rfl, rfl⟩ := hp
    rw [mf_N hn]
    refine hp_if_ne (tgt := 13) C dX6_kill_6 (by decide) (fun z_9 => absurd z_9 (by decide)) (fun _ => ?_)
    refine hp_iconst (v := 1) C dX6_kill_9 (by decide) ?_
    refine hp_goto (tgt := 28) C dX6_kill_10 (by decide) ?_
    refine hp_callV (ci := 6) C ml_X6_125 im_X6_refuses se_X6_refuses rfl (by decide) (mo_refuses (d := d - 1) sh) (by omega) dX6_kill_28 sh.o rfl rfl (by simp [Value.category]) (fun v_1 h_1 hp => ?_) (fun _ _ hf => hf.elim)
    obtain ⟨rfl, rfl⟩ := hp
    refine hp_if_eq (tgt := 36) C dX6_kill_31 (by decide) (fun z_9 => absurd z_9 (by decide)) (fun _ => ?_)
    refine hp_iconst (v := 0) C dX6_kill_34 (by decide) ?_
    refine hp_iret C hr rfl dX6_kill_35 ?_
    rw [if_neg hn]; exact ⟨_, _, rfl, rfl, rfl, fun z_8 => absurd z_8 (by decide)⟩
set_option maxRecDepth 20000 in
set_option maxHeartbeats 4000000 in
theorem mf_starts {l : Launch} {G : hpG} {h : hpT} {m d : Nat} (sh : mo_sh G h m) (hd : 2 ≤ d)  : hp_C l G yX6_starts (.code yX6_starts cX6_starts 6 (some .boolean)) d [.ref m, .int 0] (mo_w h m mo_s1) (fun v h' => v = some (.int 1) ∧ ∃ s' : moS, h' = mo_w h m s' ∧ s'.1 0 = 0) (fun _ _ => False) := by
  refine hp_ofV (by decide) (by simp [Value.category]) (Nat.le_of_ble_eq_true rfl) (fun M C hr hx el => ?_)
  refine hp_iconst (v := 0) C dX6_starts_0 (by decide) ?_
  refine hp_istore_n C dX6_starts_1 (by decide) ?_
  refine hp_aload_nR C dX6_starts_2 rfl ?_
  refine mo_getA C sh fl_X6_62_6 rfl (by decide) dX6_starts_3 ?_
  refine hp_iconst (v := 0) C dX6_starts_6 (by decide) ?_
  refine hp_iload_n C dX6_starts_7 rfl ?_
  refine mo_ast C sh rfl (by decide) dX6_starts_8 (by unfold vp_in; decide) ?_
  refine hp_aload_nR C dX6_starts_9 rfl ?_
  refine mo_getA C sh fl_X6_65_6 rfl (by decide) dX6_starts_10 ?_
  refine hp_iconst (v := 0) C dX6_starts_13 (by decide) ?_
  refine hp_iconst (v := 0) C dX6_starts_14 (by decide) ?_
  refine mo_ast C sh rfl (by decide) dX6_starts_15 (by unfold vp_in; decide) ?_
  refine hp_iconst (v := (-1)) C dX6_starts_16 (by decide) ?_
  refine hp_istore_n C dX6_starts_17 (by decide) ?_
  refine hp_iload_n C dX6_starts_18 rfl ?_
  refine hp_if_lt (tgt := 279) C dX6_starts_19 (by decide) (fun z_9 => absurd z_9 (by decide)) (fun _ => ?_)
  refine hp_aload_nR C dX6_starts_22 rfl ?_
  refine mo_getA C sh fl_X6_62_6 rfl (by decide) dX6_starts_23 ?_
  refine hp_iload_n C dX6_starts_26 rfl ?_
  refine mo_aldv (v := 0) C sh rfl (by decide) rfl dX6_starts_27 (by unfold vp_in; decide) ?_
  refine hp_istore C dX6_starts_28 (by decide) ?_
  refine hp_iconst (v := 1) C dX6_starts_30 (by decide) ?_
  refine hp_istore C dX6_starts_31 (by decide) ?_
  refine hp_aload_nR C dX6_starts_33 rfl ?_
  refine mo_getA C sh fl_X6_7_6 rfl (by decide) dX6_starts_34 ?_
  refine hp_iload C dX6_starts_37 rfl ?_
  refine mo_zldv (v := 1) C sh rfl dX6_starts_39 (by unfold vp_in; decide) ?_
  refine hp_if_ne (tgt := 97) C dX6_starts_40 (by decide) (fun _ => ?_) (fun z_9 => absurd z_9 (by decide))
  refine hp_iload_n C dX6_starts_97 rfl ?_
  refine hp_if_ne (tgt := 114) C dX6_starts_98 (by decide) (fun _ => ?_) (fun z_9 => absurd z_9 (by decide))
  refine hp_aload_nR C dX6_starts_114 rfl ?_
  refine mo_getA C sh fl_X6_56_6 rfl (by decide) dX6_starts_115 ?_
  refine hp_iload C dX6_starts_118 rfl ?_
  refine hp_aload_nR C dX6_starts_120 rfl ?_
  refine mo_getA C sh fl_X6_65_6 rfl (by decide) dX6_starts_121 ?_
  refine hp_iload_n C dX6_starts_124 rfl ?_
  refine mo_aldv (v := 0) C sh rfl (by decide) rfl dX6_starts_125 (by unfold vp_in; decide) ?_
  refine hp_if_ne (tgt := 133) C dX6_starts_126 (by decide) (fun z_9 => absurd z_9 (by decide)) (fun _ => ?_)
  refine hp_iconst (v := 0) C dX6_starts_129 (by decide) ?_
  refine hp_goto (tgt := 140) C dX6_starts_130 (by decide) ?_
  refine mo_ast C sh rfl (by decide) dX6_starts_140 (by unfold vp_in; decide) ?_
  refine hp_aload_nR C dX6_starts_141 rfl ?_
  refine mo_getA C sh fl_X6_65_6 rfl (by decide) dX6_starts_142 ?_
  refine hp_iload_n C dX6_starts_145 rfl ?_
  refine mo_aldv (v := 0) C sh rfl (by decide) rfl dX6_starts_146 (by unfold vp_in; decide) ?_
  refine hp_aload_nR C dX6_starts_147 rfl ?_
  refine mo_getA C sh fl_X6_50_6 rfl (by decide) dX6_starts_148 ?_
  refine hp_iload C dX6_starts_151 rfl ?_
  refine mo_aldv (v := 0) C sh rfl (by decide) rfl dX6_starts_153 (by unfold vp_in; decide) ?_
  refine hp_icmp_ne (tgt := 161) C dX6_starts_154 (by decide) (fun z_9 => absurd z_9 (by decide)) (fun _ => ?_)
  refine hp_iconst (v := 1) C dX6_starts_157 (by decide) ?_
  refine hp_goto (tgt := 162) C dX6_starts_158 (by decide) ?_
  refine hp_istore C dX6_starts_162 (by decide) ?_
  refine hp_iload C dX6_starts_164 rfl ?_
  refine hp_if_eq (tgt := 173) C dX6_starts_166 (by decide) (fun z_9 => absurd z_9 (by decide)) (fun _ => ?_)
  refine hp_iconst (v := 1) C dX6_starts_169 (by decide) ?_
  refine hp_goto (tgt := 174) C dX6_starts_170 (by decide) ?_
  refine hp_istore_n C dX6_starts_174 (by decide) ?_
  refine hp_iload C dX6_starts_175 rfl ?_
  refine hp_if_ne (tgt := 224) C dX6_starts_177 (by decide) (fun _ => ?_) (fun z_9 => absurd z_9 (by decide))
  refine hp_iload C dX6_starts_224 rfl ?_
  refine hp_if_eq (tgt := 263) C dX6_starts_226 (by decide) (fun z_9 => absurd z_9 (by decide)) (fun _ => ?_)
  refine hp_aload_nR C dX6_starts_229 rfl ?_
  refine mo_getA C sh fl_X6_20_6 rfl (by decide) dX6_starts_230 ?_
  refine hp_iload C dX6_starts_233 rfl ?_
  refine hp_iload_n C dX6_starts_235 rfl ?_
  refine hp_iconst (v := 1) C dX6_starts_236 (by decide) ?_
  refine hp_icmp_ne (tgt := 244) C dX6_starts_237 (by decide) (fun z_9 => absurd z_9 (by decide)) (fun _ => ?_)
  refine hp_iconst (v := 1) C dX6_starts_240 (by decide) ?_
  refine hp_goto (tgt := 245) C dX6_starts_241 (by decide) ?_
  refine mo_ast C sh rfl (by decide) dX6_starts_245 (by unfold vp_in; decide) ?_
  refine hp_aload_nR C dX6_starts_246 rfl ?_
  refine hp_iload_n C dX6_starts_247 rfl ?_
  refine hp_iconst (v := 1) C dX6_starts_248 (by decide) ?_
  refine hp_icmp_ne (tgt := 256) C dX6_starts_249 (by decide) (fun z_9 => absurd z_9 (by decide)) (fun _ => ?_)
  refine hp_iconst (v := 1) C dX6_starts_252 (by decide) ?_
  refine hp_goto (tgt := 257) C dX6_starts_253 (by decide) ?_
  refine hp_iload C dX6_starts_257 rfl ?_
  refine hp_iconst (v := 0) C dX6_starts_259 (by decide) ?_
  refine hp_callV (ci := 6) C ml_X6_89 im_X6_note se_X6_note rfl (by decide) (mo_noteC (d := d - 1) sh (by unfold mo_evk; decide)) (by omega) dX6_starts_260 sh.o rfl rfl (by simp [Value.category]) (fun v_1 h_1 hp => ?_) (fun _ _ hf => hf.elim)
  obtain ⟨rfl, rfl⟩ := hp
  refine hp_iload_n C dX6_starts_263 rfl ?_
  refine hp_iload C dX6_starts_264 rfl ?_
  refine hp_if_eq (tgt := 273) C dX6_starts_266 (by decide) (fun z_9 => absurd z_9 (by decide)) (fun _ => ?_)
  refine hp_iconst (v := (-1)) C dX6_starts_269 (by decide) ?_
  refine hp_goto (tgt := 274) C dX6_starts_270 (by decide) ?_
  refine hp_iadd C dX6_starts_274 ?_
  refine hp_istore_n C dX6_starts_275 (by decide) ?_
  refine hp_goto (tgt := 18) C dX6_starts_276 (by decide) ?_
  refine hp_iload_n C dX6_starts_18 rfl ?_
  refine hp_if_lt (tgt := 279) C dX6_starts_19 (by decide) (fun _ => ?_) (fun z_9 => absurd z_9 (by decide))
  refine hp_iload_n C dX6_starts_279 rfl ?_
  refine hp_iconst (v := 1) C dX6_starts_280 (by decide) ?_
  refine hp_icmp_ne (tgt := 288) C dX6_starts_281 (by decide) (fun z_9 => absurd z_9 (by decide)) (fun _ => ?_)
  refine hp_iconst (v := 1) C dX6_starts_284 (by decide) ?_
  refine hp_goto (tgt := 289) C dX6_starts_285 (by decide) ?_
  refine hp_iret C hr rfl dX6_starts_289 ?_
  exact ⟨rfl, _, rfl, rfl⟩
set_option maxRecDepth 20000 in
set_option maxHeartbeats 4000000 in
theorem mf_begin {l : Launch} {G : hpG} {h : hpT} {m d : Nat} (sh : mo_sh G h m) (hd : 8 ≤ d)  : hp_C l G yX6_begin (.code yX6_begin cX6_begin 1 (some .boolean)) d [.ref m] (mo_w h m mo_s0) (mf_I h m 0 1) (fun _ _ => False) := by
  refine hp_ofV (by decide) (by simp [Value.category]) (Nat.le_of_ble_eq_true rfl) (fun M C hr hx el => ?_)
  refine hp_aload_nR C dX6_begin_0 rfl ?_
  refine hp_aload_nR C dX6_begin_1 rfl ?_
  refine mo_getA C sh fl_X6_20_6 rfl (by decide) dX6_begin_2 ?_
  refine hp_iconst (v := 0) C dX6_begin_5 (by decide) ?_
  refine mo_aldv (v := 0) C sh rfl (by decide) rfl dX6_begin_6 (by unfold vp_in; decide) ?_
  refine hp_iconst (v := 1) C dX6_begin_7 (by decide) ?_
  refine hp_icmp_ne (tgt := 15) C dX6_begin_8 (by decide) (fun _ => ?_) (fun z_9 => absurd z_9 (by decide))
  refine hp_iconst (v := 0) C dX6_begin_15 (by decide) ?_
  refine hp_callV (ci := 6) C ml_X6_125 im_X6_refuses se_X6_refuses rfl (by decide) (mo_refuses (d := d - 1) sh) (by omega) dX6_begin_16 sh.o rfl rfl (by simp [Value.category]) (fun v_1 h_1 hp => ?_) (fun _ _ hf => hf.elim)
  obtain ⟨rfl, rfl⟩ := hp
  refine hp_if_ne (tgt := 34) C dX6_begin_19 (by decide) (fun z_9 => absurd z_9 (by decide)) (fun _ => ?_)
  refine hp_aload_nR C dX6_begin_22 rfl ?_
  refine hp_iconst (v := 0) C dX6_begin_23 (by decide) ?_
  refine hp_callV (ci := 6) C ml_X6_115 im_X6_starts se_X6_starts rfl (by decide) (mf_starts (d := d - 1) sh (by omega)) (by omega) dX6_begin_24 sh.o rfl rfl (by simp [Value.category]) (fun v_1 h_1 hp => ?_) (fun _ _ hf => hf.elim)
  obtain ⟨rfl, s_1, rfl, e_s⟩ := hp
  refine hp_if_eq (tgt := 34) C dX6_begin_27 (by decide) (fun z_9 => absurd z_9 (by decide)) (fun _ => ?_)
  refine hp_iconst (v := 1) C dX6_begin_30 (by decide) ?_
  refine hp_goto (tgt := 35) C dX6_begin_31 (by decide) ?_
  refine hp_iret C hr rfl dX6_begin_35 ?_
  exact ⟨_, _, rfl, rfl, e_s, fun _ => rfl⟩
def mf_ch (b c : Int32) : moS := mo_up (mo_up (mo_up (mo_up (mo_up (mo_up (mo_pt mo_s1 1 (1 + 1)) 2 (1 : Int32).toNatClampNeg c) 3 (1 : Int32).toNatClampNeg 0) 4 (1 : Int32).toNatClampNeg (0 + 1)) 6 (1 : Int32).toNatClampNeg b) 14 (80 * 0 + 0 : Int32).toNatClampNeg 1) 15 (0 : Int32).toNatClampNeg (0 + 1)
def mfc_ke (n b a r t : Int32) : Int32 := if n = 0 then (if mo_inn b 0 2 = 0 then 1 else if mo_isKp a r t = 0 then 1 else 0) else 1
def mfc_wo (n b p s e f : Int32) : Int32 := if n = 0 then (if mo_inn b 0 2 = 0 then 1 else if mo_inn p (-1) 1000 = 0 then 1 else if mo_inn s 0 100 = 0 then 1 else if mo_inn e 0 100 = 0 then 1 else if mo_inn f 0 50 = 0 then 1 else 0) else 1
def mfc_ab (n w : Int32) : Int32 := if n = 0 then (if mo_inn w 0 7 = 0 then 1 else 0) else 1
def mfc_to (w : Int32) : Int32 := if mo_inn w 0 6 = 0 then 1 else 0
theorem mf_range {w : Int32} {hg : Int32} (hw : ¬ mo_inn w 0 hg = 0) : 0 ≤ w.toInt ∧ w.toInt ≤ hg.toInt := by
  unfold mo_inn at hw
  by_cases a : w < 0
  · exact absurd (if_pos a) hw
  · by_cases b : hg < w
    · exact absurd (by rw [if_neg a, if_pos b]) hw
    · rw [Int32.lt_iff_toInt_lt] at a b
      rw [Int32.toInt_zero] at a
      omega
set_option maxRecDepth 20000 in
set_option maxHeartbeats 4000000 in
theorem mf_chI0 {l : Launch} {G : hpG} {h : hpT} {m d : Nat} (sh : mo_sh G h m) (hd : 2 ≤ d) {b : Int32} : hp_C l G yX6_child (.code yX6_child cX6_child 5 (some .int)) d [.ref m, .int 0, .int b, .int 0] (mo_w h m mo_s1) (fun v h' => v = some (.int 1) ∧ h' = mo_w h m (mf_ch b 0)) (fun _ _ => False) := by
  refine hp_ofV (by decide) (by simp [Value.category]) (Nat.le_of_ble_eq_true rfl) (fun M C hr hx el => ?_)
  refine hp_aload_nR C dX6_child_0 rfl ?_
  refine mo_getS C sh fl_X6_68_6 rfl (by decide) (v := 1) rfl dX6_child_1 ?_
  refine hp_istore C dX6_child_4 (by decide) ?_
  refine hp_aload_nR C dX6_child_6 rfl ?_
  refine hp_dup C dX6_child_7 rfl ?_
  refine mo_getS C sh fl_X6_68_6 rfl (by decide) (v := 1) rfl dX6_child_8 ?_
  refine hp_iconst (v := 1) C dX6_child_11 (by decide) ?_
  refine hp_iadd C dX6_child_12 ?_
  refine mo_putS C sh fl_X6_68_6 rfl (by decide) rfl rfl rfl dX6_child_13 ?_
  refine hp_aload_nR C dX6_child_16 rfl ?_
  refine mo_getA C sh fl_X6_7_6 rfl (by decide) dX6_child_17 ?_
  refine hp_iload C dX6_child_20 rfl ?_
  refine hp_iload_n C dX6_child_22 rfl ?_
  refine mo_zst C sh rfl dX6_child_23 (by unfold vp_in; decide) ?_
  refine hp_aload_nR C dX6_child_24 rfl ?_
  refine mo_getA C sh fl_X6_13_6 rfl (by decide) dX6_child_25 ?_
  refine hp_iload C dX6_child_28 rfl ?_
  refine hp_iload_n C dX6_child_30 rfl ?_
  refine mo_ast C sh rfl (by decide) dX6_child_31 (by unfold vp_in; decide) ?_
  refine hp_aload_nR C dX6_child_32 rfl ?_
  refine mo_getA C sh fl_X6_17_6 rfl (by decide) dX6_child_33 ?_
  refine hp_iload C dX6_child_36 rfl ?_
  refine hp_aload_nR C dX6_child_38 rfl ?_
  refine mo_getA C sh fl_X6_17_6 rfl (by decide) dX6_child_39 ?_
  refine hp_iload_n C dX6_child_42 rfl ?_
  refine mo_aldv (v := 0) C sh rfl (by decide) rfl dX6_child_43 (by unfold vp_in; decide) ?_
  refine hp_iconst (v := 1) C dX6_child_44 (by decide) ?_
  refine hp_iadd C dX6_child_45 ?_
  refine mo_ast C sh rfl (by decide) dX6_child_46 (by unfold vp_in; decide) ?_
  refine hp_aload_nR C dX6_child_47 rfl ?_
  refine mo_getA C sh fl_X6_23_6 rfl (by decide) dX6_child_48 ?_
  refine hp_iload C dX6_child_51 rfl ?_
  refine hp_iload_n C dX6_child_53 rfl ?_
  refine mo_ast C sh rfl (by decide) dX6_child_54 (by unfold vp_in; decide) ?_
  refine hp_aload_nR C dX6_child_55 rfl ?_
  refine mo_getA C sh fl_X6_47_6 rfl (by decide) dX6_child_56 ?_
  refine hp_bipush (v := 80) C dX6_child_59 (by decide) ?_
  refine hp_iload_n C dX6_child_61 rfl ?_
  refine hp_imul C dX6_child_62 ?_
  refine hp_aload_nR C dX6_child_63 rfl ?_
  refine mo_getA C sh fl_X6_50_6 rfl (by decide) dX6_child_64 ?_
  refine hp_iload_n C dX6_child_67 rfl ?_
  refine mo_aldv (v := 0) C sh rfl (by decide) rfl dX6_child_68 (by unfold vp_in; decide) ?_
  refine hp_iadd C dX6_child_69 ?_
  refine hp_iload C dX6_child_70 rfl ?_
  refine mo_ast C sh rfl (by decide) dX6_child_72 (by unfold vp_in; decide) ?_
  refine hp_aload_nR C dX6_child_73 rfl ?_
  refine mo_getA C sh fl_X6_50_6 rfl (by decide) dX6_child_74 ?_
  refine hp_iload_n C dX6_child_77 rfl ?_
  refine hp_dup2 C dX6_child_78 rfl rfl ?_
  refine mo_aldv (v := 0) C sh rfl (by decide) rfl dX6_child_79 (by unfold vp_in; decide) ?_
  refine hp_iconst (v := 1) C dX6_child_80 (by decide) ?_
  refine hp_iadd C dX6_child_81 ?_
  refine mo_ast C sh rfl (by decide) dX6_child_82 (by unfold vp_in; decide) ?_
  refine hp_iload C dX6_child_83 rfl ?_
  refine hp_iret C hr rfl dX6_child_85 ?_
  exact ⟨rfl, rfl⟩
set_option maxRecDepth 20000 in
set_option maxHeartbeats 4000000 in
theorem mf_chI1 {l : Launch} {G : hpG} {h : hpT} {m d : Nat} (sh : mo_sh G h m) (hd : 2 ≤ d) {b : Int32} : hp_C l G yX6_child (.code yX6_child cX6_child 5 (some .int)) d [.ref m, .int 0, .int b, .int 1] (mo_w h m mo_s1) (fun v h' => v = some (.int 1) ∧ h' = mo_w h m (mf_ch b 1)) (fun _ _ => False) := by
  refine hp_ofV (by decide) (by simp [Value.category]) (Nat.le_of_ble_eq_true rfl) (fun M C hr hx el => ?_)
  refine hp_aload_nR C dX6_child_0 rfl ?_
  refine mo_getS C sh fl_X6_68_6 rfl (by decide) (v := 1) rfl dX6_child_1 ?_
  refine hp_istore C dX6_child_4 (by decide) ?_
  refine hp_aload_nR C dX6_child_6 rfl ?_
  refine hp_dup C dX6_child_7 rfl ?_
  refine mo_getS C sh fl_X6_68_6 rfl (by decide) (v := 1) rfl dX6_child_8 ?_
  refine hp_iconst (v := 1) C dX6_child_11 (by decide) ?_
  refine hp_iadd C dX6_child_12 ?_
  refine mo_putS C sh fl_X6_68_6 rfl (by decide) rfl rfl rfl dX6_child_13 ?_
  refine hp_aload_nR C dX6_child_16 rfl ?_
  refine mo_getA C sh fl_X6_7_6 rfl (by decide) dX6_child_17 ?_
  refine hp_iload C dX6_child_20 rfl ?_
  refine hp_iload_n C dX6_child_22 rfl ?_
  refine mo_zst C sh rfl dX6_child_23 (by unfold vp_in; decide) ?_
  refine hp_aload_nR C dX6_child_24 rfl ?_
  refine mo_getA C sh fl_X6_13_6 rfl (by decide) dX6_child_25 ?_
  refine hp_iload C dX6_child_28 rfl ?_
  refine hp_iload_n C dX6_child_30 rfl ?_
  refine mo_ast C sh rfl (by decide) dX6_child_31 (by unfold vp_in; decide) ?_
  refine hp_aload_nR C dX6_child_32 rfl ?_
  refine mo_getA C sh fl_X6_17_6 rfl (by decide) dX6_child_33 ?_
  refine hp_iload C dX6_child_36 rfl ?_
  refine hp_aload_nR C dX6_child_38 rfl ?_
  refine mo_getA C sh fl_X6_17_6 rfl (by decide) dX6_child_39 ?_
  refine hp_iload_n C dX6_child_42 rfl ?_
  refine mo_aldv (v := 0) C sh rfl (by decide) rfl dX6_child_43 (by unfold vp_in; decide) ?_
  refine hp_iconst (v := 1) C dX6_child_44 (by decide) ?_
  refine hp_iadd C dX6_child_45 ?_
  refine mo_ast C sh rfl (by decide) dX6_child_46 (by unfold vp_in; decide) ?_
  refine hp_aload_nR C dX6_child_47 rfl ?_
  refine mo_getA C sh fl_X6_23_6 rfl (by decide) dX6_child_48 ?_
  refine hp_iload C dX6_child_51 rfl ?_
  refine hp_iload_n C dX6_child_53 rfl ?_
  refine mo_ast C sh rfl (by decide) dX6_child_54 (by unfold vp_in; decide) ?_
  refine hp_aload_nR C dX6_child_55 rfl ?_
  refine mo_getA C sh fl_X6_47_6 rfl (by decide) dX6_child_56 ?_
  refine hp_bipush (v := 80) C dX6_child_59 (by decide) ?_
  refine hp_iload_n C dX6_child_61 rfl ?_
  refine hp_imul C dX6_child_62 ?_
  refine hp_aload_nR C dX6_child_63 rfl ?_
  refine mo_getA C sh fl_X6_50_6 rfl (by decide) dX6_child_64 ?_
  refine hp_iload_n C dX6_child_67 rfl ?_
  refine mo_aldv (v := 0) C sh rfl (by decide) rfl dX6_child_68 (by unfold vp_in; decide) ?_
  refine hp_iadd C dX6_child_69 ?_
  refine hp_iload C dX6_child_70 rfl ?_
  refine mo_ast C sh rfl (by decide) dX6_child_72 (by unfold vp_in; decide) ?_
  refine hp_aload_nR C dX6_child_73 rfl ?_
  refine mo_getA C sh fl_X6_50_6 rfl (by decide) dX6_child_74 ?_
  refine hp_iload_n C dX6_child_77 rfl ?_
  refine hp_dup2 C dX6_child_78 rfl rfl ?_
  refine mo_aldv (v := 0) C sh rfl (by decide) rfl dX6_child_79 (by unfold vp_in; decide) ?_
  refine hp_iconst (v := 1) C dX6_child_80 (by decide) ?_
  refine hp_iadd C dX6_child_81 ?_
  refine mo_ast C sh rfl (by decide) dX6_child_82 (by unfold vp_in; decide) ?_
  refine hp_iload C dX6_child_83 rfl ?_
  refine hp_iret C hr rfl dX6_child_85 ?_
  exact ⟨rfl, rfl⟩
set_option maxRecDepth 20000 in
set_option maxHeartbeats 4000000 in
theorem mf_keeper {l : Launch} {G : hpG} {h : hpT} {m d : Nat} (sh : mo_sh G h m) (hd : 8 ≤ d) {n b a r t : Int32} : hp_C l G yX6_keeper (.code yX6_keeper cX6_keeper 8 (some .int)) d [.ref m, .int n, .int b, .int a, .int r, .int t] (mo_w h m mo_s0) (mf_I h m (mfc_ke n b a r t) 1) (fun _ _ => False) := by
  refine hp_ofV (by decide) (by simp [Value.category]) (Nat.le_of_ble_eq_true rfl) (fun M C hr hx el => ?_)
  by_cases hn : n = 0
  · subst hn
    refine hp_aload_nR C dX6_keeper_0 rfl ?_
    refine hp_iload_n C dX6_keeper_1 rfl ?_
    refine hp_callV (ci := 6) C ml_X6_128 im_X6_isKeeper se_X6_isKeeper rfl (by decide) (mo_isKeeper (d := d - 1) sh mf_ok (by omega)) (by omega) dX6_keeper_2 sh.o rfl rfl (by simp [Value.category]) (fun v_1 h_1 hp => ?_) (fun _ _ hf => hf.elim)
    obtain ⟨rfl, rfl⟩ := hp
    refine hp_if_eq (tgt := 32) C dX6_keeper_5 (by decide) (fun z_9 => absurd z_9 (by decide)) (fun _ => ?_)
    refine hp_iload_n C dX6_keeper_8 rfl ?_
    refine hp_iconst (v := 0) C dX6_keeper_9 (by decide) ?_
    refine hp_iconst (v := 2) C dX6_keeper_10 (by decide) ?_
    refine hp_callS C ml_X6_118 sm_X6_in (mo_in (d := d - 1)) (by omega) dX6_keeper_11 rfl rfl (by simp [Value.category]) (fun v_1 h_1 hp => ?_) (fun _ _ hf => hf.elim)
    obtain ⟨rfl, rfl⟩ := hp
    refine hp_if_eq (tgt := 32) C dX6_keeper_14 (by decide) (fun c_14 => ?_) (fun c_14 => ?_)
    · refine hp_iconst (v := 0) C dX6_keeper_32 (by decide) ?_
      refine hp_istore C dX6_keeper_33 (by decide) ?_
      refine hp_aload_nR C dX6_keeper_35 rfl ?_
      refine hp_iload C dX6_keeper_36 rfl ?_
      refine hp_if_ne (tgt := 45) C dX6_keeper_38 (by decide) (fun z_9 => absurd z_9 (by decide)) (fun _ => ?_)
      refine hp_iconst (v := 1) C dX6_keeper_41 (by decide) ?_
      refine hp_goto (tgt := 70) C dX6_keeper_42 (by decide) ?_
      refine hp_callV (ci := 6) C ml_X6_125 im_X6_refuses se_X6_refuses rfl (by decide) (mo_refuses (d := d - 1) sh) (by omega) dX6_keeper_70 sh.o rfl rfl (by simp [Value.category]) (fun v_1 h_1 hp => ?_) (fun _ _ hf => hf.elim)
      obtain ⟨rfl, rfl⟩ := hp
      refine hp_if_eq (tgt := 78) C dX6_keeper_73 (by decide) (fun z_9 => absurd z_9 (by decide)) (fun _ => ?_)
      refine hp_iconst (v := 0) C dX6_keeper_76 (by decide) ?_
      refine hp_iret C hr rfl dX6_keeper_77 ?_
      have q_7 : mfc_ke 0 b a r t = 1 := by simp only [mfc_ke, *, if_true, if_false]
      rw [q_7]
      exact ⟨_, _, rfl, rfl, rfl, fun z_8 => absurd z_8 (by decide)⟩
    · refine hp_iload_n C dX6_keeper_17 rfl ?_
      refine hp_iload C dX6_keeper_18 rfl ?_
      refine hp_iload C dX6_keeper_20 rfl ?_
      refine hp_callS C ml_X6_122 sm_X6_isKeeping (mo_isKeeping (d := d - 1) (by omega)) (by omega) dX6_keeper_22 rfl rfl (by simp [Value.category]) (fun v_1 h_1 hp => ?_) (fun _ _ hf => hf.elim)
      obtain ⟨rfl, rfl⟩ := hp
      refine hp_if_eq (tgt := 32) C dX6_keeper_25 (by decide) (fun c_25 => ?_) (fun c_25 => ?_)
      · refine hp_iconst (v := 0) C dX6_keeper_32 (by decide) ?_
        refine hp_istore C dX6_keeper_33 (by decide) ?_
        refine hp_aload_nR C dX6_keeper_35 rfl ?_
        refine hp_iload C dX6_keeper_36 rfl ?_
        refine hp_if_ne (tgt := 45) C dX6_keeper_38 (by decide) (fun z_9 => absurd z_9 (by decide)) (fun _ => ?_)
        refine hp_iconst (v := 1) C dX6_keeper_41 (by decide) ?_
        refine hp_goto (tgt := 70) C dX6_keeper_42 (by decide) ?_
        refine hp_callV (ci := 6) C ml_X6_125 im_X6_refuses se_X6_refuses rfl (by decide) (mo_refuses (d := d - 1) sh) (by omega) dX6_keeper_70 sh.o rfl rfl (by simp [Value.category]) (fun v_1 h_1 hp => ?_) (fun _ _ hf => hf.elim)
        obtain ⟨rfl, rfl⟩ := hp
        refine hp_if_eq (tgt := 78) C dX6_keeper_73 (by decide) (fun z_9 => absurd z_9 (by decide)) (fun _ => ?_)
        refine hp_iconst (v := 0) C dX6_keeper_76 (by decide) ?_
        refine hp_iret C hr rfl dX6_keeper_77 ?_
        have q_7 : mfc_ke 0 b a r t = 1 := by simp only [mfc_ke, *, if_true, if_false]
        rw [q_7]
        exact ⟨_, _, rfl, rfl, rfl, fun z_8 => absurd z_8 (by decide)⟩
      · refine hp_iconst (v := 1) C dX6_keeper_28 (by decide) ?_
        refine hp_goto (tgt := 33) C dX6_keeper_29 (by decide) ?_
        refine hp_istore C dX6_keeper_33 (by decide) ?_
        refine hp_aload_nR C dX6_keeper_35 rfl ?_
        refine hp_iload C dX6_keeper_36 rfl ?_
        refine hp_if_ne (tgt := 45) C dX6_keeper_38 (by decide) (fun _ => ?_) (fun z_9 => absurd z_9 (by decide))
        refine hp_aload_nR C dX6_keeper_45 rfl ?_
        refine mo_getS C sh fl_X6_68_6 rfl (by decide) (v := 1) rfl dX6_keeper_46 ?_
        refine hp_bipush (v := 80) C dX6_keeper_49 (by decide) ?_
        refine hp_icmp_eq (tgt := 65) C dX6_keeper_51 (by decide) (fun z_9 => absurd z_9 (by decide)) (fun _ => ?_)
        refine hp_aload_nR C dX6_keeper_54 rfl ?_
        refine mo_getA C sh fl_X6_17_6 rfl (by decide) dX6_keeper_55 ?_
        refine hp_iload_n C dX6_keeper_58 rfl ?_
        refine mo_aldv (v := 0) C sh rfl (by decide) rfl dX6_keeper_59 (by unfold vp_in; decide) ?_
        refine hp_bipush (v := 8) C dX6_keeper_60 (by decide) ?_
        refine hp_icmp_ne (tgt := 69) C dX6_keeper_62 (by decide) (fun _ => ?_) (fun z_9 => absurd z_9 (by decide))
        refine hp_iconst (v := 0) C dX6_keeper_69 (by decide) ?_
        refine hp_callV (ci := 6) C ml_X6_125 im_X6_refuses se_X6_refuses rfl (by decide) (mo_refuses (d := d - 1) sh) (by omega) dX6_keeper_70 sh.o rfl rfl (by simp [Value.category]) (fun v_1 h_1 hp => ?_) (fun _ _ hf => hf.elim)
        obtain ⟨rfl, rfl⟩ := hp
        refine hp_if_eq (tgt := 78) C dX6_keeper_73 (by decide) (fun _ => ?_) (fun z_9 => absurd z_9 (by decide))
        refine hp_aload_nR C dX6_keeper_78 rfl ?_
        refine hp_iload_n C dX6_keeper_79 rfl ?_
        refine hp_iload_n C dX6_keeper_80 rfl ?_
        refine hp_iconst (v := 1) C dX6_keeper_81 (by decide) ?_
        refine hp_callV (ci := 6) C ml_X6_131 im_X6_child se_X6_child rfl (by decide) (mf_chI1 (d := d - 1) sh (by omega)) (by omega) dX6_keeper_82 sh.o rfl rfl (by simp [Value.category]) (fun v_1 h_1 hp => ?_) (fun _ _ hf => hf.elim)
        obtain ⟨rfl, rfl⟩ := hp
        refine hp_istore C dX6_keeper_85 (by decide) ?_
        refine hp_aload_nR C dX6_keeper_87 rfl ?_
        refine mo_getA C sh fl_X6_26_6 rfl (by decide) dX6_keeper_88 ?_
        refine hp_iload C dX6_keeper_91 rfl ?_
        refine hp_iload_n C dX6_keeper_93 rfl ?_
        refine mo_ast C sh rfl (by decide) dX6_keeper_94 (by unfold vp_in; decide) ?_
        refine hp_aload_nR C dX6_keeper_95 rfl ?_
        refine mo_getA C sh fl_X6_29_6 rfl (by decide) dX6_keeper_96 ?_
        refine hp_iload C dX6_keeper_99 rfl ?_
        refine hp_iload C dX6_keeper_101 rfl ?_
        refine mo_ast C sh rfl (by decide) dX6_keeper_103 (by unfold vp_in; decide) ?_
        refine hp_aload_nR C dX6_keeper_104 rfl ?_
        refine mo_getA C sh fl_X6_32_6 rfl (by decide) dX6_keeper_105 ?_
        refine hp_iload C dX6_keeper_108 rfl ?_
        refine hp_iload C dX6_keeper_110 rfl ?_
        refine mo_ast C sh rfl (by decide) dX6_keeper_112 (by unfold vp_in; decide) ?_
        refine hp_aload_nR C dX6_keeper_113 rfl ?_
        refine mo_getA C sh fl_X6_20_6 rfl (by decide) dX6_keeper_114 ?_
        refine hp_iload_n C dX6_keeper_117 rfl ?_
        refine mo_aldv (v := 0) C sh rfl (by decide) rfl dX6_keeper_118 (by unfold vp_in; decide) ?_
        refine hp_iconst (v := 1) C dX6_keeper_119 (by decide) ?_
        refine hp_icmp_ne (tgt := 130) C dX6_keeper_120 (by decide) (fun _ => ?_) (fun z_9 => absurd z_9 (by decide))
        refine hp_iload C dX6_keeper_130 rfl ?_
        refine hp_iret C hr rfl dX6_keeper_132 ?_
        have q_7 : mfc_ke 0 b a r t = 0 := by simp only [mfc_ke, *, if_true, if_false]
        rw [q_7]
        exact ⟨_, _, rfl, rfl, rfl, fun _ => rfl⟩
  · refine hp_aload_nR C dX6_keeper_0 rfl ?_
    refine hp_iload_n C dX6_keeper_1 rfl ?_
    refine hp_callV (ci := 6) C ml_X6_128 im_X6_isKeeper se_X6_isKeeper rfl (by decide) (mo_isKeeper (d := d - 1) sh mf_ok (by omega)) (by omega) dX6_keeper_2 sh.o rfl rfl (by simp [Value.category]) (fun v_1 h_1 hp => ?_) (fun _ _ hf => hf.elim)
    obtain ⟨rfl, rfl⟩ := hp
    rw [mf_K hn]
    refine hp_if_eq (tgt := 32) C dX6_keeper_5 (by decide) (fun _ => ?_) (fun z_9 => absurd z_9 (by decide))
    refine hp_iconst (v := 0) C dX6_keeper_32 (by decide) ?_
    refine hp_istore C dX6_keeper_33 (by decide) ?_
    refine hp_aload_nR C dX6_keeper_35 rfl ?_
    refine hp_iload C dX6_keeper_36 rfl ?_
    refine hp_if_ne (tgt := 45) C dX6_keeper_38 (by decide) (fun z_9 => absurd z_9 (by decide)) (fun _ => ?_)
    refine hp_iconst (v := 1) C dX6_keeper_41 (by decide) ?_
    refine hp_goto (tgt := 70) C dX6_keeper_42 (by decide) ?_
    refine hp_callV (ci := 6) C ml_X6_125 im_X6_refuses se_X6_refuses rfl (by decide) (mo_refuses (d := d - 1) sh) (by omega) dX6_keeper_70 sh.o rfl rfl (by simp [Value.category]) (fun v_1 h_1 hp => ?_) (fun _ _ hf => hf.elim)
    obtain ⟨rfl, rfl⟩ := hp
    refine hp_if_eq (tgt := 78) C dX6_keeper_73 (by decide) (fun z_9 => absurd z_9 (by decide)) (fun _ => ?_)
    refine hp_iconst (v := 0) C dX6_keeper_76 (by decide) ?_
    refine hp_iret C hr rfl dX6_keeper_77 ?_
    have q_7 : mfc_ke n b a r t = 1 := by unfold mfc_ke; exact if_neg hn
    rw [q_7]
    exact ⟨_, _, rfl, rfl, rfl, fun z_8 => absurd z_8 (by decide)⟩
set_option maxRecDepth 20000 in
set_option maxHeartbeats 4000000 in
theorem mf_worker {l : Launch} {G : hpG} {h : hpT} {m d : Nat} (sh : mo_sh G h m) (hd : 8 ≤ d) {n b p s e f : Int32} : hp_C l G yX6_worker (.code yX6_worker cX6_worker 9 (some .int)) d [.ref m, .int n, .int b, .int p, .int s, .int e, .int f] (mo_w h m mo_s0) (mf_I h m (mfc_wo n b p s e f) 1) (fun _ _ => False) := by
  refine hp_ofV (by decide) (by simp [Value.category]) (Nat.le_of_ble_eq_true rfl) (fun M C hr hx el => ?_)
  by_cases hn : n = 0
  · subst hn
    refine hp_aload_nR C dX6_worker_0 rfl ?_
    refine hp_iload_n C dX6_worker_1 rfl ?_
    refine hp_callV (ci := 6) C ml_X6_128 im_X6_isKeeper se_X6_isKeeper rfl (by decide) (mo_isKeeper (d := d - 1) sh mf_ok (by omega)) (by omega) dX6_worker_2 sh.o rfl rfl (by simp [Value.category]) (fun v_1 h_1 hp => ?_) (fun _ _ hf => hf.elim)
    obtain ⟨rfl, rfl⟩ := hp
    refine hp_if_eq (tgt := 65) C dX6_worker_5 (by decide) (fun z_9 => absurd z_9 (by decide)) (fun _ => ?_)
    refine hp_iload_n C dX6_worker_8 rfl ?_
    refine hp_iconst (v := 0) C dX6_worker_9 (by decide) ?_
    refine hp_iconst (v := 2) C dX6_worker_10 (by decide) ?_
    refine hp_callS C ml_X6_118 sm_X6_in (mo_in (d := d - 1)) (by omega) dX6_worker_11 rfl rfl (by simp [Value.category]) (fun v_1 h_1 hp => ?_) (fun _ _ hf => hf.elim)
    obtain ⟨rfl, rfl⟩ := hp
    refine hp_if_eq (tgt := 65) C dX6_worker_14 (by decide) (fun c_14 => ?_) (fun c_14 => ?_)
    · refine hp_iconst (v := 0) C dX6_worker_65 (by decide) ?_
      refine hp_istore C dX6_worker_66 (by decide) ?_
      refine hp_aload_nR C dX6_worker_68 rfl ?_
      refine hp_iload C dX6_worker_69 rfl ?_
      refine hp_if_ne (tgt := 78) C dX6_worker_71 (by decide) (fun z_9 => absurd z_9 (by decide)) (fun _ => ?_)
      refine hp_iconst (v := 1) C dX6_worker_74 (by decide) ?_
      refine hp_goto (tgt := 103) C dX6_worker_75 (by decide) ?_
      refine hp_callV (ci := 6) C ml_X6_125 im_X6_refuses se_X6_refuses rfl (by decide) (mo_refuses (d := d - 1) sh) (by omega) dX6_worker_103 sh.o rfl rfl (by simp [Value.category]) (fun v_1 h_1 hp => ?_) (fun _ _ hf => hf.elim)
      obtain ⟨rfl, rfl⟩ := hp
      refine hp_if_eq (tgt := 111) C dX6_worker_106 (by decide) (fun z_9 => absurd z_9 (by decide)) (fun _ => ?_)
      refine hp_iconst (v := 0) C dX6_worker_109 (by decide) ?_
      refine hp_iret C hr rfl dX6_worker_110 ?_
      have q_7 : mfc_wo 0 b p s e f = 1 := by simp only [mfc_wo, *, if_true, if_false]
      rw [q_7]
      exact ⟨_, _, rfl, rfl, rfl, fun z_8 => absurd z_8 (by decide)⟩
    · refine hp_iload_n C dX6_worker_17 rfl ?_
      refine hp_iconst (v := (-1)) C dX6_worker_18 (by decide) ?_
      refine hp_sipush (v := 1000) C dX6_worker_19 (by decide) ?_
      refine hp_callS C ml_X6_118 sm_X6_in (mo_in (d := d - 1)) (by omega) dX6_worker_22 rfl rfl (by simp [Value.category]) (fun v_1 h_1 hp => ?_) (fun _ _ hf => hf.elim)
      obtain ⟨rfl, rfl⟩ := hp
      refine hp_if_eq (tgt := 65) C dX6_worker_25 (by decide) (fun c_25 => ?_) (fun c_25 => ?_)
      · refine hp_iconst (v := 0) C dX6_worker_65 (by decide) ?_
        refine hp_istore C dX6_worker_66 (by decide) ?_
        refine hp_aload_nR C dX6_worker_68 rfl ?_
        refine hp_iload C dX6_worker_69 rfl ?_
        refine hp_if_ne (tgt := 78) C dX6_worker_71 (by decide) (fun z_9 => absurd z_9 (by decide)) (fun _ => ?_)
        refine hp_iconst (v := 1) C dX6_worker_74 (by decide) ?_
        refine hp_goto (tgt := 103) C dX6_worker_75 (by decide) ?_
        refine hp_callV (ci := 6) C ml_X6_125 im_X6_refuses se_X6_refuses rfl (by decide) (mo_refuses (d := d - 1) sh) (by omega) dX6_worker_103 sh.o rfl rfl (by simp [Value.category]) (fun v_1 h_1 hp => ?_) (fun _ _ hf => hf.elim)
        obtain ⟨rfl, rfl⟩ := hp
        refine hp_if_eq (tgt := 111) C dX6_worker_106 (by decide) (fun z_9 => absurd z_9 (by decide)) (fun _ => ?_)
        refine hp_iconst (v := 0) C dX6_worker_109 (by decide) ?_
        refine hp_iret C hr rfl dX6_worker_110 ?_
        have q_7 : mfc_wo 0 b p s e f = 1 := by simp only [mfc_wo, *, if_true, if_false]
        rw [q_7]
        exact ⟨_, _, rfl, rfl, rfl, fun z_8 => absurd z_8 (by decide)⟩
      · refine hp_iload C dX6_worker_28 rfl ?_
        refine hp_iconst (v := 0) C dX6_worker_30 (by decide) ?_
        refine hp_bipush (v := 100) C dX6_worker_31 (by decide) ?_
        refine hp_callS C ml_X6_118 sm_X6_in (mo_in (d := d - 1)) (by omega) dX6_worker_33 rfl rfl (by simp [Value.category]) (fun v_1 h_1 hp => ?_) (fun _ _ hf => hf.elim)
        obtain ⟨rfl, rfl⟩ := hp
        refine hp_if_eq (tgt := 65) C dX6_worker_36 (by decide) (fun c_36 => ?_) (fun c_36 => ?_)
        · refine hp_iconst (v := 0) C dX6_worker_65 (by decide) ?_
          refine hp_istore C dX6_worker_66 (by decide) ?_
          refine hp_aload_nR C dX6_worker_68 rfl ?_
          refine hp_iload C dX6_worker_69 rfl ?_
          refine hp_if_ne (tgt := 78) C dX6_worker_71 (by decide) (fun z_9 => absurd z_9 (by decide)) (fun _ => ?_)
          refine hp_iconst (v := 1) C dX6_worker_74 (by decide) ?_
          refine hp_goto (tgt := 103) C dX6_worker_75 (by decide) ?_
          refine hp_callV (ci := 6) C ml_X6_125 im_X6_refuses se_X6_refuses rfl (by decide) (mo_refuses (d := d - 1) sh) (by omega) dX6_worker_103 sh.o rfl rfl (by simp [Value.category]) (fun v_1 h_1 hp => ?_) (fun _ _ hf => hf.elim)
          obtain ⟨rfl, rfl⟩ := hp
          refine hp_if_eq (tgt := 111) C dX6_worker_106 (by decide) (fun z_9 => absurd z_9 (by decide)) (fun _ => ?_)
          refine hp_iconst (v := 0) C dX6_worker_109 (by decide) ?_
          refine hp_iret C hr rfl dX6_worker_110 ?_
          have q_7 : mfc_wo 0 b p s e f = 1 := by simp only [mfc_wo, *, if_true, if_false]
          rw [q_7]
          exact ⟨_, _, rfl, rfl, rfl, fun z_8 => absurd z_8 (by decide)⟩
        · refine hp_iload C dX6_worker_39 rfl ?_
          refine hp_iconst (v := 0) C dX6_worker_41 (by decide) ?_
          refine hp_bipush (v := 100) C dX6_worker_42 (by decide) ?_
          refine hp_callS C ml_X6_118 sm_X6_in (mo_in (d := d - 1)) (by omega) dX6_worker_44 rfl rfl (by simp [Value.category]) (fun v_1 h_1 hp => ?_) (fun _ _ hf => hf.elim)
          obtain ⟨rfl, rfl⟩ := hp
          refine hp_if_eq (tgt := 65) C dX6_worker_47 (by decide) (fun c_47 => ?_) (fun c_47 => ?_)
          · refine hp_iconst (v := 0) C dX6_worker_65 (by decide) ?_
            refine hp_istore C dX6_worker_66 (by decide) ?_
            refine hp_aload_nR C dX6_worker_68 rfl ?_
            refine hp_iload C dX6_worker_69 rfl ?_
            refine hp_if_ne (tgt := 78) C dX6_worker_71 (by decide) (fun z_9 => absurd z_9 (by decide)) (fun _ => ?_)
            refine hp_iconst (v := 1) C dX6_worker_74 (by decide) ?_
            refine hp_goto (tgt := 103) C dX6_worker_75 (by decide) ?_
            refine hp_callV (ci := 6) C ml_X6_125 im_X6_refuses se_X6_refuses rfl (by decide) (mo_refuses (d := d - 1) sh) (by omega) dX6_worker_103 sh.o rfl rfl (by simp [Value.category]) (fun v_1 h_1 hp => ?_) (fun _ _ hf => hf.elim)
            obtain ⟨rfl, rfl⟩ := hp
            refine hp_if_eq (tgt := 111) C dX6_worker_106 (by decide) (fun z_9 => absurd z_9 (by decide)) (fun _ => ?_)
            refine hp_iconst (v := 0) C dX6_worker_109 (by decide) ?_
            refine hp_iret C hr rfl dX6_worker_110 ?_
            have q_7 : mfc_wo 0 b p s e f = 1 := by simp only [mfc_wo, *, if_true, if_false]
            rw [q_7]
            exact ⟨_, _, rfl, rfl, rfl, fun z_8 => absurd z_8 (by decide)⟩
          · refine hp_iload C dX6_worker_50 rfl ?_
            refine hp_iconst (v := 0) C dX6_worker_52 (by decide) ?_
            refine hp_bipush (v := 50) C dX6_worker_53 (by decide) ?_
            refine hp_callS C ml_X6_118 sm_X6_in (mo_in (d := d - 1)) (by omega) dX6_worker_55 rfl rfl (by simp [Value.category]) (fun v_1 h_1 hp => ?_) (fun _ _ hf => hf.elim)
            obtain ⟨rfl, rfl⟩ := hp
            refine hp_if_eq (tgt := 65) C dX6_worker_58 (by decide) (fun c_58 => ?_) (fun c_58 => ?_)
            · refine hp_iconst (v := 0) C dX6_worker_65 (by decide) ?_
              refine hp_istore C dX6_worker_66 (by decide) ?_
              refine hp_aload_nR C dX6_worker_68 rfl ?_
              refine hp_iload C dX6_worker_69 rfl ?_
              refine hp_if_ne (tgt := 78) C dX6_worker_71 (by decide) (fun z_9 => absurd z_9 (by decide)) (fun _ => ?_)
              refine hp_iconst (v := 1) C dX6_worker_74 (by decide) ?_
              refine hp_goto (tgt := 103) C dX6_worker_75 (by decide) ?_
              refine hp_callV (ci := 6) C ml_X6_125 im_X6_refuses se_X6_refuses rfl (by decide) (mo_refuses (d := d - 1) sh) (by omega) dX6_worker_103 sh.o rfl rfl (by simp [Value.category]) (fun v_1 h_1 hp => ?_) (fun _ _ hf => hf.elim)
              obtain ⟨rfl, rfl⟩ := hp
              refine hp_if_eq (tgt := 111) C dX6_worker_106 (by decide) (fun z_9 => absurd z_9 (by decide)) (fun _ => ?_)
              refine hp_iconst (v := 0) C dX6_worker_109 (by decide) ?_
              refine hp_iret C hr rfl dX6_worker_110 ?_
              have q_7 : mfc_wo 0 b p s e f = 1 := by simp only [mfc_wo, *, if_true, if_false]
              rw [q_7]
              exact ⟨_, _, rfl, rfl, rfl, fun z_8 => absurd z_8 (by decide)⟩
            · refine hp_iconst (v := 1) C dX6_worker_61 (by decide) ?_
              refine hp_goto (tgt := 66) C dX6_worker_62 (by decide) ?_
              refine hp_istore C dX6_worker_66 (by decide) ?_
              refine hp_aload_nR C dX6_worker_68 rfl ?_
              refine hp_iload C dX6_worker_69 rfl ?_
              refine hp_if_ne (tgt := 78) C dX6_worker_71 (by decide) (fun _ => ?_) (fun z_9 => absurd z_9 (by decide))
              refine hp_aload_nR C dX6_worker_78 rfl ?_
              refine mo_getS C sh fl_X6_68_6 rfl (by decide) (v := 1) rfl dX6_worker_79 ?_
              refine hp_bipush (v := 80) C dX6_worker_82 (by decide) ?_
              refine hp_icmp_eq (tgt := 98) C dX6_worker_84 (by decide) (fun z_9 => absurd z_9 (by decide)) (fun _ => ?_)
              refine hp_aload_nR C dX6_worker_87 rfl ?_
              refine mo_getA C sh fl_X6_17_6 rfl (by decide) dX6_worker_88 ?_
              refine hp_iload_n C dX6_worker_91 rfl ?_
              refine mo_aldv (v := 0) C sh rfl (by decide) rfl dX6_worker_92 (by unfold vp_in; decide) ?_
              refine hp_bipush (v := 8) C dX6_worker_93 (by decide) ?_
              refine hp_icmp_ne (tgt := 102) C dX6_worker_95 (by decide) (fun _ => ?_) (fun z_9 => absurd z_9 (by decide))
              refine hp_iconst (v := 0) C dX6_worker_102 (by decide) ?_
              refine hp_callV (ci := 6) C ml_X6_125 im_X6_refuses se_X6_refuses rfl (by decide) (mo_refuses (d := d - 1) sh) (by omega) dX6_worker_103 sh.o rfl rfl (by simp [Value.category]) (fun v_1 h_1 hp => ?_) (fun _ _ hf => hf.elim)
              obtain ⟨rfl, rfl⟩ := hp
              refine hp_if_eq (tgt := 111) C dX6_worker_106 (by decide) (fun _ => ?_) (fun z_9 => absurd z_9 (by decide))
              refine hp_aload_nR C dX6_worker_111 rfl ?_
              refine hp_iload_n C dX6_worker_112 rfl ?_
              refine hp_iload_n C dX6_worker_113 rfl ?_
              refine hp_iconst (v := 0) C dX6_worker_114 (by decide) ?_
              refine hp_callV (ci := 6) C ml_X6_131 im_X6_child se_X6_child rfl (by decide) (mf_chI0 (d := d - 1) sh (by omega)) (by omega) dX6_worker_115 sh.o rfl rfl (by simp [Value.category]) (fun v_1 h_1 hp => ?_) (fun _ _ hf => hf.elim)
              obtain ⟨rfl, rfl⟩ := hp
              refine hp_istore C dX6_worker_118 (by decide) ?_
              refine hp_aload_nR C dX6_worker_120 rfl ?_
              refine mo_getA C sh fl_X6_35_6 rfl (by decide) dX6_worker_121 ?_
              refine hp_iload C dX6_worker_124 rfl ?_
              refine hp_iload_n C dX6_worker_126 rfl ?_
              refine mo_ast C sh rfl (by decide) dX6_worker_127 (by unfold vp_in; decide) ?_
              refine hp_aload_nR C dX6_worker_128 rfl ?_
              refine mo_getA C sh fl_X6_38_6 rfl (by decide) dX6_worker_129 ?_
              refine hp_iload C dX6_worker_132 rfl ?_
              refine hp_iload C dX6_worker_134 rfl ?_
              refine mo_ast C sh rfl (by decide) dX6_worker_136 (by unfold vp_in; decide) ?_
              refine hp_aload_nR C dX6_worker_137 rfl ?_
              refine mo_getA C sh fl_X6_41_6 rfl (by decide) dX6_worker_138 ?_
              refine hp_iload C dX6_worker_141 rfl ?_
              refine hp_iload C dX6_worker_143 rfl ?_
              refine mo_ast C sh rfl (by decide) dX6_worker_145 (by unfold vp_in; decide) ?_
              refine hp_aload_nR C dX6_worker_146 rfl ?_
              refine mo_getA C sh fl_X6_44_6 rfl (by decide) dX6_worker_147 ?_
              refine hp_iload C dX6_worker_150 rfl ?_
              refine hp_iload C dX6_worker_152 rfl ?_
              refine mo_ast C sh rfl (by decide) dX6_worker_154 (by unfold vp_in; decide) ?_
              refine hp_aload_nR C dX6_worker_155 rfl ?_
              refine mo_getA C sh fl_X6_20_6 rfl (by decide) dX6_worker_156 ?_
              refine hp_iload_n C dX6_worker_159 rfl ?_
              refine mo_aldv (v := 0) C sh rfl (by decide) rfl dX6_worker_160 (by unfold vp_in; decide) ?_
              refine hp_iconst (v := 1) C dX6_worker_161 (by decide) ?_
              refine hp_icmp_ne (tgt := 183) C dX6_worker_162 (by decide) (fun _ => ?_) (fun z_9 => absurd z_9 (by decide))
              refine hp_iload C dX6_worker_183 rfl ?_
              refine hp_iret C hr rfl dX6_worker_185 ?_
              have q_7 : mfc_wo 0 b p s e f = 0 := by simp only [mfc_wo, *, if_true, if_false]
              rw [q_7]
              exact ⟨_, _, rfl, rfl, rfl, fun _ => rfl⟩
  · refine hp_aload_nR C dX6_worker_0 rfl ?_
    refine hp_iload_n C dX6_worker_1 rfl ?_
    refine hp_callV (ci := 6) C ml_X6_128 im_X6_isKeeper se_X6_isKeeper rfl (by decide) (mo_isKeeper (d := d - 1) sh mf_ok (by omega)) (by omega) dX6_worker_2 sh.o rfl rfl (by simp [Value.category]) (fun v_1 h_1 hp => ?_) (fun _ _ hf => hf.elim)
    obtain ⟨rfl, rfl⟩ := hp
    rw [mf_K hn]
    refine hp_if_eq (tgt := 65) C dX6_worker_5 (by decide) (fun _ => ?_) (fun z_9 => absurd z_9 (by decide))
    refine hp_iconst (v := 0) C dX6_worker_65 (by decide) ?_
    refine hp_istore C dX6_worker_66 (by decide) ?_
    refine hp_aload_nR C dX6_worker_68 rfl ?_
    refine hp_iload C dX6_worker_69 rfl ?_
    refine hp_if_ne (tgt := 78) C dX6_worker_71 (by decide) (fun z_9 => absurd z_9 (by decide)) (fun _ => ?_)
    refine hp_iconst (v := 1) C dX6_worker_74 (by decide) ?_
    refine hp_goto (tgt := 103) C dX6_worker_75 (by decide) ?_
    refine hp_callV (ci := 6) C ml_X6_125 im_X6_refuses se_X6_refuses rfl (by decide) (mo_refuses (d := d - 1) sh) (by omega) dX6_worker_103 sh.o rfl rfl (by simp [Value.category]) (fun v_1 h_1 hp => ?_) (fun _ _ hf => hf.elim)
    obtain ⟨rfl, rfl⟩ := hp
    refine hp_if_eq (tgt := 111) C dX6_worker_106 (by decide) (fun z_9 => absurd z_9 (by decide)) (fun _ => ?_)
    refine hp_iconst (v := 0) C dX6_worker_109 (by decide) ?_
    refine hp_iret C hr rfl dX6_worker_110 ?_
    have q_7 : mfc_wo n b p s e f = 1 := by unfold mfc_wo; exact if_neg hn
    rw [q_7]
    exact ⟨_, _, rfl, rfl, rfl, fun z_8 => absurd z_8 (by decide)⟩
set_option maxRecDepth 20000 in
set_option maxHeartbeats 4000000 in
theorem mf_about {l : Launch} {G : hpG} {h : hpT} {m d : Nat} (sh : mo_sh G h m) (hd : 8 ≤ d) {n w : Int32} : hp_C l G yX6_about (.code yX6_about cX6_about 5 (some .int)) d [.ref m, .int n, .int w] (mo_w h m mo_s0) (mf_I h m (mfc_ab n w) (kta_ab w)) (fun _ _ => False) := by
  refine hp_ofV (by decide) (by simp [Value.category]) (Nat.le_of_ble_eq_true rfl) (fun M C hr hx el => ?_)
  by_cases hn : n = 0
  · subst hn
    by_cases hw : mo_inn w 0 7 = 0
    · refine hp_aload_nR C dX6_about_0 rfl ?_
      refine hp_aload_nR C dX6_about_1 rfl ?_
      refine hp_iload_n C dX6_about_2 rfl ?_
      refine hp_callV (ci := 6) C ml_X6_75 im_X6_isNode se_X6_isNode rfl (by decide) (mo_isNode (d := d - 1) sh mf_ok) (by omega) dX6_about_3 sh.o rfl rfl (by simp [Value.category]) (fun v_1 h_1 hp => ?_) (fun _ _ hf => hf.elim)
      obtain ⟨rfl, rfl⟩ := hp
      refine hp_if_eq (tgt := 19) C dX6_about_6 (by decide) (fun z_9 => absurd z_9 (by decide)) (fun _ => ?_)
      refine hp_iload_n C dX6_about_9 rfl ?_
      refine hp_iconst (v := 0) C dX6_about_10 (by decide) ?_
      refine hp_bipush (v := 7) C dX6_about_11 (by decide) ?_
      refine hp_callS C ml_X6_118 sm_X6_in (mo_in (d := d - 1)) (by omega) dX6_about_13 rfl rfl (by simp [Value.category]) (fun v_1 h_1 hp => ?_) (fun _ _ hf => hf.elim)
      obtain ⟨rfl, rfl⟩ := hp
      rw [hw]
      refine hp_if_ne (tgt := 23) C dX6_about_16 (by decide) (fun z_9 => absurd z_9 (by decide)) (fun _ => ?_)
      refine hp_iconst (v := 1) C dX6_about_19 (by decide) ?_
      refine hp_goto (tgt := 24) C dX6_about_20 (by decide) ?_
      refine hp_callV (ci := 6) C ml_X6_125 im_X6_refuses se_X6_refuses rfl (by decide) (mo_refuses (d := d - 1) sh) (by omega) dX6_about_24 sh.o rfl rfl (by simp [Value.category]) (fun v_1 h_1 hp => ?_) (fun _ _ hf => hf.elim)
      obtain ⟨rfl, rfl⟩ := hp
      refine hp_if_eq (tgt := 32) C dX6_about_27 (by decide) (fun z_9 => absurd z_9 (by decide)) (fun _ => ?_)
      refine hp_iconst (v := 0) C dX6_about_30 (by decide) ?_
      refine hp_iret C hr rfl dX6_about_31 ?_
      have q_7 : mfc_ab 0 w = 1 := by simp only [mfc_ab, hw, if_true]
      rw [q_7]
      exact ⟨_, _, rfl, rfl, rfl, fun z_8 => absurd z_8 (by decide)⟩
    obtain ⟨q_1, q_2⟩ := mf_range hw
    have q_0 : (7 : Int32).toInt = 7 := (by decide)
    have q_3 : w.toInt = 0 ∨ w.toInt = 1 ∨ w.toInt = 2 ∨ w.toInt = 3 ∨ w.toInt = 4 ∨ w.toInt = 5 ∨ w.toInt = 6 ∨ w.toInt = 7 := by omega
    have q_4 : w = 0 ∨ w = 1 ∨ w = 2 ∨ w = 3 ∨ w = 4 ∨ w = 5 ∨ w = 6 ∨ w = 7 := by
      rcases q_3 with q_3 | q_3 | q_3 | q_3 | q_3 | q_3 | q_3 | q_3 <;> first | exact Or.inl (Int32.toInt_inj.mp (q_3.trans (by decide))) | exact Or.inr (Or.inl (Int32.toInt_inj.mp (q_3.trans (by decide)))) | exact Or.inr (Or.inr (Or.inl (Int32.toInt_inj.mp (q_3.trans (by decide))))) | exact Or.inr (Or.inr (Or.inr (Or.inl (Int32.toInt_inj.mp (q_3.trans (by decide)))))) | exact Or.inr (Or.inr (Or.inr (Or.inr (Or.inl (Int32.toInt_inj.mp (q_3.trans (by decide))))))) | exact Or.inr (Or.inr (Or.inr (Or.inr (Or.inr (Or.inl (Int32.toInt_inj.mp (q_3.trans (by decide)))))))) | exact Or.inr (Or.inr (Or.inr (Or.inr (Or.inr (Or.inr (Or.inl (Int32.toInt_inj.mp (q_3.trans (by decide))))))))) | exact Or.inr (Or.inr (Or.inr (Or.inr (Or.inr (Or.inr (Or.inr ((Int32.toInt_inj.mp (q_3.trans (by decide))))))))))
    rcases q_4 with rfl | rfl | rfl | rfl | rfl | rfl | rfl | rfl
    · refine hp_aload_nR C dX6_about_0 rfl ?_
      refine hp_aload_nR C dX6_about_1 rfl ?_
      refine hp_iload_n C dX6_about_2 rfl ?_
      refine hp_callV (ci := 6) C ml_X6_75 im_X6_isNode se_X6_isNode rfl (by decide) (mo_isNode (d := d - 1) sh mf_ok) (by omega) dX6_about_3 sh.o rfl rfl (by simp [Value.category]) (fun v_1 h_1 hp => ?_) (fun _ _ hf => hf.elim)
      obtain ⟨rfl, rfl⟩ := hp
      refine hp_if_eq (tgt := 19) C dX6_about_6 (by decide) (fun z_9 => absurd z_9 (by decide)) (fun _ => ?_)
      refine hp_iload_n C dX6_about_9 rfl ?_
      refine hp_iconst (v := 0) C dX6_about_10 (by decide) ?_
      refine hp_bipush (v := 7) C dX6_about_11 (by decide) ?_
      refine hp_callS C ml_X6_118 sm_X6_in (mo_in (d := d - 1)) (by omega) dX6_about_13 rfl rfl (by simp [Value.category]) (fun v_1 h_1 hp => ?_) (fun _ _ hf => hf.elim)
      obtain ⟨rfl, rfl⟩ := hp
      refine hp_if_ne (tgt := 23) C dX6_about_16 (by decide) (fun _ => ?_) (fun z_9 => absurd z_9 (by decide))
      refine hp_iconst (v := 0) C dX6_about_23 (by decide) ?_
      refine hp_callV (ci := 6) C ml_X6_125 im_X6_refuses se_X6_refuses rfl (by decide) (mo_refuses (d := d - 1) sh) (by omega) dX6_about_24 sh.o rfl rfl (by simp [Value.category]) (fun v_1 h_1 hp => ?_) (fun _ _ hf => hf.elim)
      obtain ⟨rfl, rfl⟩ := hp
      refine hp_if_eq (tgt := 32) C dX6_about_27 (by decide) (fun _ => ?_) (fun z_9 => absurd z_9 (by decide))
      refine hp_iconst (v := 0) C dX6_about_32 (by decide) ?_
      refine hp_istore_n C dX6_about_33 (by decide) ?_
      refine hp_iload_n C dX6_about_34 rfl ?_
      refine hp_tableIn (tgt := 76) C dX6_about_35 (by decide) (by decide) rfl (by decide) ?_
      refine hp_aload_nR C dX6_about_76 rfl ?_
      refine mo_getA C sh fl_X6_13_6 rfl (by decide) dX6_about_77 ?_
      refine hp_iload_n C dX6_about_80 rfl ?_
      refine mo_aldv (v := -1) C sh rfl (by decide) rfl dX6_about_81 (by unfold vp_in; decide) ?_
      refine hp_iret C hr rfl dX6_about_82 ?_
      exact ⟨_, _, rfl, rfl, by decide, fun _ => rfl⟩
    · refine hp_aload_nR C dX6_about_0 rfl ?_
      refine hp_aload_nR C dX6_about_1 rfl ?_
      refine hp_iload_n C dX6_about_2 rfl ?_
      refine hp_callV (ci := 6) C ml_X6_75 im_X6_isNode se_X6_isNode rfl (by decide) (mo_isNode (d := d - 1) sh mf_ok) (by omega) dX6_about_3 sh.o rfl rfl (by simp [Value.category]) (fun v_1 h_1 hp => ?_) (fun _ _ hf => hf.elim)
      obtain ⟨rfl, rfl⟩ := hp
      refine hp_if_eq (tgt := 19) C dX6_about_6 (by decide) (fun z_9 => absurd z_9 (by decide)) (fun _ => ?_)
      refine hp_iload_n C dX6_about_9 rfl ?_
      refine hp_iconst (v := 0) C dX6_about_10 (by decide) ?_
      refine hp_bipush (v := 7) C dX6_about_11 (by decide) ?_
      refine hp_callS C ml_X6_118 sm_X6_in (mo_in (d := d - 1)) (by omega) dX6_about_13 rfl rfl (by simp [Value.category]) (fun v_1 h_1 hp => ?_) (fun _ _ hf => hf.elim)
      obtain ⟨rfl, rfl⟩ := hp
      refine hp_if_ne (tgt := 23) C dX6_about_16 (by decide) (fun _ => ?_) (fun z_9 => absurd z_9 (by decide))
      refine hp_iconst (v := 0) C dX6_about_23 (by decide) ?_
      refine hp_callV (ci := 6) C ml_X6_125 im_X6_refuses se_X6_refuses rfl (by decide) (mo_refuses (d := d - 1) sh) (by omega) dX6_about_24 sh.o rfl rfl (by simp [Value.category]) (fun v_1 h_1 hp => ?_) (fun _ _ hf => hf.elim)
      obtain ⟨rfl, rfl⟩ := hp
      refine hp_if_eq (tgt := 32) C dX6_about_27 (by decide) (fun _ => ?_) (fun z_9 => absurd z_9 (by decide))
      refine hp_iconst (v := 0) C dX6_about_32 (by decide) ?_
      refine hp_istore_n C dX6_about_33 (by decide) ?_
      refine hp_iload_n C dX6_about_34 rfl ?_
      refine hp_tableIn (tgt := 83) C dX6_about_35 (by decide) (by decide) rfl (by decide) ?_
      refine hp_iload_n C dX6_about_83 rfl ?_
      refine hp_if_ne (tgt := 91) C dX6_about_84 (by decide) (fun z_9 => absurd z_9 (by decide)) (fun _ => ?_)
      refine hp_iconst (v := 0) C dX6_about_87 (by decide) ?_
      refine hp_goto (tgt := 96) C dX6_about_88 (by decide) ?_
      refine hp_iret C hr rfl dX6_about_96 ?_
      exact ⟨_, _, rfl, rfl, by decide, fun _ => rfl⟩
    · refine hp_aload_nR C dX6_about_0 rfl ?_
      refine hp_aload_nR C dX6_about_1 rfl ?_
      refine hp_iload_n C dX6_about_2 rfl ?_
      refine hp_callV (ci := 6) C ml_X6_75 im_X6_isNode se_X6_isNode rfl (by decide) (mo_isNode (d := d - 1) sh mf_ok) (by omega) dX6_about_3 sh.o rfl rfl (by simp [Value.category]) (fun v_1 h_1 hp => ?_) (fun _ _ hf => hf.elim)
      obtain ⟨rfl, rfl⟩ := hp
      refine hp_if_eq (tgt := 19) C dX6_about_6 (by decide) (fun z_9 => absurd z_9 (by decide)) (fun _ => ?_)
      refine hp_iload_n C dX6_about_9 rfl ?_
      refine hp_iconst (v := 0) C dX6_about_10 (by decide) ?_
      refine hp_bipush (v := 7) C dX6_about_11 (by decide) ?_
      refine hp_callS C ml_X6_118 sm_X6_in (mo_in (d := d - 1)) (by omega) dX6_about_13 rfl rfl (by simp [Value.category]) (fun v_1 h_1 hp => ?_) (fun _ _ hf => hf.elim)
      obtain ⟨rfl, rfl⟩ := hp
      refine hp_if_ne (tgt := 23) C dX6_about_16 (by decide) (fun _ => ?_) (fun z_9 => absurd z_9 (by decide))
      refine hp_iconst (v := 0) C dX6_about_23 (by decide) ?_
      refine hp_callV (ci := 6) C ml_X6_125 im_X6_refuses se_X6_refuses rfl (by decide) (mo_refuses (d := d - 1) sh) (by omega) dX6_about_24 sh.o rfl rfl (by simp [Value.category]) (fun v_1 h_1 hp => ?_) (fun _ _ hf => hf.elim)
      obtain ⟨rfl, rfl⟩ := hp
      refine hp_if_eq (tgt := 32) C dX6_about_27 (by decide) (fun _ => ?_) (fun z_9 => absurd z_9 (by decide))
      refine hp_iconst (v := 0) C dX6_about_32 (by decide) ?_
      refine hp_istore_n C dX6_about_33 (by decide) ?_
      refine hp_iload_n C dX6_about_34 rfl ?_
      refine hp_tableIn (tgt := 97) C dX6_about_35 (by decide) (by decide) rfl (by decide) ?_
      refine hp_aload_nR C dX6_about_97 rfl ?_
      refine mo_getA C sh fl_X6_17_6 rfl (by decide) dX6_about_98 ?_
      refine hp_iload_n C dX6_about_101 rfl ?_
      refine mo_aldv (v := 0) C sh rfl (by decide) rfl dX6_about_102 (by unfold vp_in; decide) ?_
      refine hp_iret C hr rfl dX6_about_103 ?_
      exact ⟨_, _, rfl, rfl, by decide, fun _ => rfl⟩
    · refine hp_aload_nR C dX6_about_0 rfl ?_
      refine hp_aload_nR C dX6_about_1 rfl ?_
      refine hp_iload_n C dX6_about_2 rfl ?_
      refine hp_callV (ci := 6) C ml_X6_75 im_X6_isNode se_X6_isNode rfl (by decide) (mo_isNode (d := d - 1) sh mf_ok) (by omega) dX6_about_3 sh.o rfl rfl (by simp [Value.category]) (fun v_1 h_1 hp => ?_) (fun _ _ hf => hf.elim)
      obtain ⟨rfl, rfl⟩ := hp
      refine hp_if_eq (tgt := 19) C dX6_about_6 (by decide) (fun z_9 => absurd z_9 (by decide)) (fun _ => ?_)
      refine hp_iload_n C dX6_about_9 rfl ?_
      refine hp_iconst (v := 0) C dX6_about_10 (by decide) ?_
      refine hp_bipush (v := 7) C dX6_about_11 (by decide) ?_
      refine hp_callS C ml_X6_118 sm_X6_in (mo_in (d := d - 1)) (by omega) dX6_about_13 rfl rfl (by simp [Value.category]) (fun v_1 h_1 hp => ?_) (fun _ _ hf => hf.elim)
      obtain ⟨rfl, rfl⟩ := hp
      refine hp_if_ne (tgt := 23) C dX6_about_16 (by decide) (fun _ => ?_) (fun z_9 => absurd z_9 (by decide))
      refine hp_iconst (v := 0) C dX6_about_23 (by decide) ?_
      refine hp_callV (ci := 6) C ml_X6_125 im_X6_refuses se_X6_refuses rfl (by decide) (mo_refuses (d := d - 1) sh) (by omega) dX6_about_24 sh.o rfl rfl (by simp [Value.category]) (fun v_1 h_1 hp => ?_) (fun _ _ hf => hf.elim)
      obtain ⟨rfl, rfl⟩ := hp
      refine hp_if_eq (tgt := 32) C dX6_about_27 (by decide) (fun _ => ?_) (fun z_9 => absurd z_9 (by decide))
      refine hp_iconst (v := 0) C dX6_about_32 (by decide) ?_
      refine hp_istore_n C dX6_about_33 (by decide) ?_
      refine hp_iload_n C dX6_about_34 rfl ?_
      refine hp_tableIn (tgt := 104) C dX6_about_35 (by decide) (by decide) rfl (by decide) ?_
      refine hp_aload_nR C dX6_about_104 rfl ?_
      refine mo_getA C sh fl_X6_23_6 rfl (by decide) dX6_about_105 ?_
      refine hp_iload_n C dX6_about_108 rfl ?_
      refine mo_aldv (v := 0) C sh rfl (by decide) rfl dX6_about_109 (by unfold vp_in; decide) ?_
      refine hp_iret C hr rfl dX6_about_110 ?_
      exact ⟨_, _, rfl, rfl, by decide, fun _ => rfl⟩
    · refine hp_aload_nR C dX6_about_0 rfl ?_
      refine hp_aload_nR C dX6_about_1 rfl ?_
      refine hp_iload_n C dX6_about_2 rfl ?_
      refine hp_callV (ci := 6) C ml_X6_75 im_X6_isNode se_X6_isNode rfl (by decide) (mo_isNode (d := d - 1) sh mf_ok) (by omega) dX6_about_3 sh.o rfl rfl (by simp [Value.category]) (fun v_1 h_1 hp => ?_) (fun _ _ hf => hf.elim)
      obtain ⟨rfl, rfl⟩ := hp
      refine hp_if_eq (tgt := 19) C dX6_about_6 (by decide) (fun z_9 => absurd z_9 (by decide)) (fun _ => ?_)
      refine hp_iload_n C dX6_about_9 rfl ?_
      refine hp_iconst (v := 0) C dX6_about_10 (by decide) ?_
      refine hp_bipush (v := 7) C dX6_about_11 (by decide) ?_
      refine hp_callS C ml_X6_118 sm_X6_in (mo_in (d := d - 1)) (by omega) dX6_about_13 rfl rfl (by simp [Value.category]) (fun v_1 h_1 hp => ?_) (fun _ _ hf => hf.elim)
      obtain ⟨rfl, rfl⟩ := hp
      refine hp_if_ne (tgt := 23) C dX6_about_16 (by decide) (fun _ => ?_) (fun z_9 => absurd z_9 (by decide))
      refine hp_iconst (v := 0) C dX6_about_23 (by decide) ?_
      refine hp_callV (ci := 6) C ml_X6_125 im_X6_refuses se_X6_refuses rfl (by decide) (mo_refuses (d := d - 1) sh) (by omega) dX6_about_24 sh.o rfl rfl (by simp [Value.category]) (fun v_1 h_1 hp => ?_) (fun _ _ hf => hf.elim)
      obtain ⟨rfl, rfl⟩ := hp
      refine hp_if_eq (tgt := 32) C dX6_about_27 (by decide) (fun _ => ?_) (fun z_9 => absurd z_9 (by decide))
      refine hp_iconst (v := 0) C dX6_about_32 (by decide) ?_
      refine hp_istore_n C dX6_about_33 (by decide) ?_
      refine hp_iload_n C dX6_about_34 rfl ?_
      refine hp_tableIn (tgt := 111) C dX6_about_35 (by decide) (by decide) rfl (by decide) ?_
      refine hp_aload_nR C dX6_about_111 rfl ?_
      refine mo_getA C sh fl_X6_7_6 rfl (by decide) dX6_about_112 ?_
      refine hp_iload_n C dX6_about_115 rfl ?_
      refine mo_zldv (v := 1) C sh rfl dX6_about_116 (by unfold vp_in; decide) ?_
      refine hp_if_eq (tgt := 124) C dX6_about_117 (by decide) (fun z_9 => absurd z_9 (by decide)) (fun _ => ?_)
      refine hp_iconst (v := 1) C dX6_about_120 (by decide) ?_
      refine hp_goto (tgt := 125) C dX6_about_121 (by decide) ?_
      refine hp_iret C hr rfl dX6_about_125 ?_
      exact ⟨_, _, rfl, rfl, by decide, fun _ => rfl⟩
    · refine hp_aload_nR C dX6_about_0 rfl ?_
      refine hp_aload_nR C dX6_about_1 rfl ?_
      refine hp_iload_n C dX6_about_2 rfl ?_
      refine hp_callV (ci := 6) C ml_X6_75 im_X6_isNode se_X6_isNode rfl (by decide) (mo_isNode (d := d - 1) sh mf_ok) (by omega) dX6_about_3 sh.o rfl rfl (by simp [Value.category]) (fun v_1 h_1 hp => ?_) (fun _ _ hf => hf.elim)
      obtain ⟨rfl, rfl⟩ := hp
      refine hp_if_eq (tgt := 19) C dX6_about_6 (by decide) (fun z_9 => absurd z_9 (by decide)) (fun _ => ?_)
      refine hp_iload_n C dX6_about_9 rfl ?_
      refine hp_iconst (v := 0) C dX6_about_10 (by decide) ?_
      refine hp_bipush (v := 7) C dX6_about_11 (by decide) ?_
      refine hp_callS C ml_X6_118 sm_X6_in (mo_in (d := d - 1)) (by omega) dX6_about_13 rfl rfl (by simp [Value.category]) (fun v_1 h_1 hp => ?_) (fun _ _ hf => hf.elim)
      obtain ⟨rfl, rfl⟩ := hp
      refine hp_if_ne (tgt := 23) C dX6_about_16 (by decide) (fun _ => ?_) (fun z_9 => absurd z_9 (by decide))
      refine hp_iconst (v := 0) C dX6_about_23 (by decide) ?_
      refine hp_callV (ci := 6) C ml_X6_125 im_X6_refuses se_X6_refuses rfl (by decide) (mo_refuses (d := d - 1) sh) (by omega) dX6_about_24 sh.o rfl rfl (by simp [Value.category]) (fun v_1 h_1 hp => ?_) (fun _ _ hf => hf.elim)
      obtain ⟨rfl, rfl⟩ := hp
      refine hp_if_eq (tgt := 32) C dX6_about_27 (by decide) (fun _ => ?_) (fun z_9 => absurd z_9 (by decide))
      refine hp_iconst (v := 0) C dX6_about_32 (by decide) ?_
      refine hp_istore_n C dX6_about_33 (by decide) ?_
      refine hp_iload_n C dX6_about_34 rfl ?_
      refine hp_tableIn (tgt := 126) C dX6_about_35 (by decide) (by decide) rfl (by decide) ?_
      refine hp_aload_nR C dX6_about_126 rfl ?_
      refine mo_getA C sh fl_X6_7_6 rfl (by decide) dX6_about_127 ?_
      refine hp_iload_n C dX6_about_130 rfl ?_
      refine mo_zldv (v := 1) C sh rfl dX6_about_131 (by unfold vp_in; decide) ?_
      refine hp_if_eq (tgt := 144) C dX6_about_132 (by decide) (fun z_9 => absurd z_9 (by decide)) (fun _ => ?_)
      refine hp_aload_nR C dX6_about_135 rfl ?_
      refine mo_getA C sh fl_X6_50_6 rfl (by decide) dX6_about_136 ?_
      refine hp_iload_n C dX6_about_139 rfl ?_
      refine mo_aldv (v := 0) C sh rfl (by decide) rfl dX6_about_140 (by unfold vp_in; decide) ?_
      refine hp_goto (tgt := 145) C dX6_about_141 (by decide) ?_
      refine hp_iret C hr rfl dX6_about_145 ?_
      exact ⟨_, _, rfl, rfl, by decide, fun _ => rfl⟩
    · refine hp_aload_nR C dX6_about_0 rfl ?_
      refine hp_aload_nR C dX6_about_1 rfl ?_
      refine hp_iload_n C dX6_about_2 rfl ?_
      refine hp_callV (ci := 6) C ml_X6_75 im_X6_isNode se_X6_isNode rfl (by decide) (mo_isNode (d := d - 1) sh mf_ok) (by omega) dX6_about_3 sh.o rfl rfl (by simp [Value.category]) (fun v_1 h_1 hp => ?_) (fun _ _ hf => hf.elim)
      obtain ⟨rfl, rfl⟩ := hp
      refine hp_if_eq (tgt := 19) C dX6_about_6 (by decide) (fun z_9 => absurd z_9 (by decide)) (fun _ => ?_)
      refine hp_iload_n C dX6_about_9 rfl ?_
      refine hp_iconst (v := 0) C dX6_about_10 (by decide) ?_
      refine hp_bipush (v := 7) C dX6_about_11 (by decide) ?_
      refine hp_callS C ml_X6_118 sm_X6_in (mo_in (d := d - 1)) (by omega) dX6_about_13 rfl rfl (by simp [Value.category]) (fun v_1 h_1 hp => ?_) (fun _ _ hf => hf.elim)
      obtain ⟨rfl, rfl⟩ := hp
      refine hp_if_ne (tgt := 23) C dX6_about_16 (by decide) (fun _ => ?_) (fun z_9 => absurd z_9 (by decide))
      refine hp_iconst (v := 0) C dX6_about_23 (by decide) ?_
      refine hp_callV (ci := 6) C ml_X6_125 im_X6_refuses se_X6_refuses rfl (by decide) (mo_refuses (d := d - 1) sh) (by omega) dX6_about_24 sh.o rfl rfl (by simp [Value.category]) (fun v_1 h_1 hp => ?_) (fun _ _ hf => hf.elim)
      obtain ⟨rfl, rfl⟩ := hp
      refine hp_if_eq (tgt := 32) C dX6_about_27 (by decide) (fun _ => ?_) (fun z_9 => absurd z_9 (by decide))
      refine hp_iconst (v := 0) C dX6_about_32 (by decide) ?_
      refine hp_istore_n C dX6_about_33 (by decide) ?_
      refine hp_iload_n C dX6_about_34 rfl ?_
      refine hp_tableIn (tgt := 146) C dX6_about_35 (by decide) (by decide) rfl (by decide) ?_
      refine hp_iconst (v := 0) C dX6_about_146 (by decide) ?_
      refine hp_istore C dX6_about_147 (by decide) ?_
      refine hp_iload C dX6_about_149 rfl ?_
      refine hp_aload_nR C dX6_about_151 rfl ?_
      refine mo_getA C sh fl_X6_56_6 rfl (by decide) dX6_about_152 ?_
      refine hp_iload_n C dX6_about_155 rfl ?_
      refine mo_aldv (v := 0) C sh rfl (by decide) rfl dX6_about_156 (by unfold vp_in; decide) ?_
      refine hp_icmp_ge (tgt := 200) C dX6_about_157 (by decide) (fun _ => ?_) (fun z_9 => absurd z_9 (by decide))
      refine hp_aload_nR C dX6_about_200 rfl ?_
      refine mo_getA C sh fl_X6_7_6 rfl (by decide) dX6_about_201 ?_
      refine hp_iload_n C dX6_about_204 rfl ?_
      refine mo_zldv (v := 1) C sh rfl dX6_about_205 (by unfold vp_in; decide) ?_
      refine hp_if_eq (tgt := 213) C dX6_about_206 (by decide) (fun z_9 => absurd z_9 (by decide)) (fun _ => ?_)
      refine hp_iload_n C dX6_about_209 rfl ?_
      refine hp_goto (tgt := 214) C dX6_about_210 (by decide) ?_
      refine hp_iret C hr rfl dX6_about_214 ?_
      exact ⟨_, _, rfl, rfl, by decide, fun _ => rfl⟩
    · refine hp_aload_nR C dX6_about_0 rfl ?_
      refine hp_aload_nR C dX6_about_1 rfl ?_
      refine hp_iload_n C dX6_about_2 rfl ?_
      refine hp_callV (ci := 6) C ml_X6_75 im_X6_isNode se_X6_isNode rfl (by decide) (mo_isNode (d := d - 1) sh mf_ok) (by omega) dX6_about_3 sh.o rfl rfl (by simp [Value.category]) (fun v_1 h_1 hp => ?_) (fun _ _ hf => hf.elim)
      obtain ⟨rfl, rfl⟩ := hp
      refine hp_if_eq (tgt := 19) C dX6_about_6 (by decide) (fun z_9 => absurd z_9 (by decide)) (fun _ => ?_)
      refine hp_iload_n C dX6_about_9 rfl ?_
      refine hp_iconst (v := 0) C dX6_about_10 (by decide) ?_
      refine hp_bipush (v := 7) C dX6_about_11 (by decide) ?_
      refine hp_callS C ml_X6_118 sm_X6_in (mo_in (d := d - 1)) (by omega) dX6_about_13 rfl rfl (by simp [Value.category]) (fun v_1 h_1 hp => ?_) (fun _ _ hf => hf.elim)
      obtain ⟨rfl, rfl⟩ := hp
      refine hp_if_ne (tgt := 23) C dX6_about_16 (by decide) (fun _ => ?_) (fun z_9 => absurd z_9 (by decide))
      refine hp_iconst (v := 0) C dX6_about_23 (by decide) ?_
      refine hp_callV (ci := 6) C ml_X6_125 im_X6_refuses se_X6_refuses rfl (by decide) (mo_refuses (d := d - 1) sh) (by omega) dX6_about_24 sh.o rfl rfl (by simp [Value.category]) (fun v_1 h_1 hp => ?_) (fun _ _ hf => hf.elim)
      obtain ⟨rfl, rfl⟩ := hp
      refine hp_if_eq (tgt := 32) C dX6_about_27 (by decide) (fun _ => ?_) (fun z_9 => absurd z_9 (by decide))
      refine hp_iconst (v := 0) C dX6_about_32 (by decide) ?_
      refine hp_istore_n C dX6_about_33 (by decide) ?_
      refine hp_iload_n C dX6_about_34 rfl ?_
      refine hp_tableOut (tgt := 215) C dX6_about_35 (by decide) (by decide) ?_
      refine hp_aload_nR C dX6_about_215 rfl ?_
      refine mo_getA C sh fl_X6_7_6 rfl (by decide) dX6_about_216 ?_
      refine hp_iload_n C dX6_about_219 rfl ?_
      refine mo_zldv (v := 1) C sh rfl dX6_about_220 (by unfold vp_in; decide) ?_
      refine hp_if_eq (tgt := 228) C dX6_about_221 (by decide) (fun z_9 => absurd z_9 (by decide)) (fun _ => ?_)
      refine hp_iconst (v := (-1)) C dX6_about_224 (by decide) ?_
      refine hp_goto (tgt := 234) C dX6_about_225 (by decide) ?_
      refine hp_iret C hr rfl dX6_about_234 ?_
      exact ⟨_, _, rfl, rfl, by decide, fun _ => rfl⟩
  · refine hp_aload_nR C dX6_about_0 rfl ?_
    refine hp_aload_nR C dX6_about_1 rfl ?_
    refine hp_iload_n C dX6_about_2 rfl ?_
    refine hp_callV (ci := 6) C ml_X6_75 im_X6_isNode se_X6_isNode rfl (by decide) (mo_isNode (d := d - 1) sh mf_ok) (by omega) dX6_about_3 sh.o rfl rfl (by simp [Value.category]) (fun v_1 h_1 hp => ?_) (fun _ _ hf => hf.elim)
    obtain ⟨rfl, rfl⟩ := hp
    rw [mf_N hn]
    refine hp_if_eq (tgt := 19) C dX6_about_6 (by decide) (fun _ => ?_) (fun z_9 => absurd z_9 (by decide))
    refine hp_iconst (v := 1) C dX6_about_19 (by decide) ?_
    refine hp_goto (tgt := 24) C dX6_about_20 (by decide) ?_
    refine hp_callV (ci := 6) C ml_X6_125 im_X6_refuses se_X6_refuses rfl (by decide) (mo_refuses (d := d - 1) sh) (by omega) dX6_about_24 sh.o rfl rfl (by simp [Value.category]) (fun v_1 h_1 hp => ?_) (fun _ _ hf => hf.elim)
    obtain ⟨rfl, rfl⟩ := hp
    refine hp_if_eq (tgt := 32) C dX6_about_27 (by decide) (fun z_9 => absurd z_9 (by decide)) (fun _ => ?_)
    refine hp_iconst (v := 0) C dX6_about_30 (by decide) ?_
    refine hp_iret C hr rfl dX6_about_31 ?_
    have q_7 : mfc_ab n w = 1 := by unfold mfc_ab; exact if_neg hn
    rw [q_7]
    exact ⟨_, _, rfl, rfl, rfl, fun z_8 => absurd z_8 (by decide)⟩
set_option maxRecDepth 20000 in
set_option maxHeartbeats 4000000 in
theorem mf_total {l : Launch} {G : hpG} {h : hpT} {m d : Nat} (sh : mo_sh G h m) (hd : 8 ≤ d) {w : Int32} : hp_C l G yX6_total (.code yX6_total cX6_total 5 (some .int)) d [.ref m, .int w] (mo_w h m mo_s0) (mf_I h m (mfc_to w) (kta_to w)) (fun _ _ => False) := by
  refine hp_ofV (by decide) (by simp [Value.category]) (Nat.le_of_ble_eq_true rfl) (fun M C hr hx el => ?_)
  by_cases hw : mo_inn w 0 6 = 0
  · refine hp_aload_nR C dX6_total_0 rfl ?_
    refine hp_iload_n C dX6_total_1 rfl ?_
    refine hp_iconst (v := 0) C dX6_total_2 (by decide) ?_
    refine hp_bipush (v := 6) C dX6_total_3 (by decide) ?_
    refine hp_callS C ml_X6_118 sm_X6_in (mo_in (d := d - 1)) (by omega) dX6_total_5 rfl rfl (by simp [Value.category]) (fun v_1 h_1 hp => ?_) (fun _ _ hf => hf.elim)
    obtain ⟨rfl, rfl⟩ := hp
    rw [hw]
    refine hp_if_ne (tgt := 15) C dX6_total_8 (by decide) (fun z_9 => absurd z_9 (by decide)) (fun _ => ?_)
    refine hp_iconst (v := 1) C dX6_total_11 (by decide) ?_
    refine hp_goto (tgt := 16) C dX6_total_12 (by decide) ?_
    refine hp_callV (ci := 6) C ml_X6_125 im_X6_refuses se_X6_refuses rfl (by decide) (mo_refuses (d := d - 1) sh) (by omega) dX6_total_16 sh.o rfl rfl (by simp [Value.category]) (fun v_1 h_1 hp => ?_) (fun _ _ hf => hf.elim)
    obtain ⟨rfl, rfl⟩ := hp
    refine hp_if_eq (tgt := 24) C dX6_total_19 (by decide) (fun z_9 => absurd z_9 (by decide)) (fun _ => ?_)
    refine hp_iconst (v := 0) C dX6_total_22 (by decide) ?_
    refine hp_iret C hr rfl dX6_total_23 ?_
    have q_7 : mfc_to w = 1 := by simp only [mfc_to, hw, if_true]
    rw [q_7]
    exact ⟨_, _, rfl, rfl, rfl, fun z_8 => absurd z_8 (by decide)⟩
  obtain ⟨q_1, q_2⟩ := mf_range hw
  have q_0 : (6 : Int32).toInt = 6 := (by decide)
  have q_3 : w.toInt = 0 ∨ w.toInt = 1 ∨ w.toInt = 2 ∨ w.toInt = 3 ∨ w.toInt = 4 ∨ w.toInt = 5 ∨ w.toInt = 6 := by omega
  have q_4 : w = 0 ∨ w = 1 ∨ w = 2 ∨ w = 3 ∨ w = 4 ∨ w = 5 ∨ w = 6 := by
    rcases q_3 with q_3 | q_3 | q_3 | q_3 | q_3 | q_3 | q_3 <;> first | exact Or.inl (Int32.toInt_inj.mp (q_3.trans (by decide))) | exact Or.inr (Or.inl (Int32.toInt_inj.mp (q_3.trans (by decide)))) | exact Or.inr (Or.inr (Or.inl (Int32.toInt_inj.mp (q_3.trans (by decide))))) | exact Or.inr (Or.inr (Or.inr (Or.inl (Int32.toInt_inj.mp (q_3.trans (by decide)))))) | exact Or.inr (Or.inr (Or.inr (Or.inr (Or.inl (Int32.toInt_inj.mp (q_3.trans (by decide))))))) | exact Or.inr (Or.inr (Or.inr (Or.inr (Or.inr (Or.inl (Int32.toInt_inj.mp (q_3.trans (by decide)))))))) | exact Or.inr (Or.inr (Or.inr (Or.inr (Or.inr (Or.inr ((Int32.toInt_inj.mp (q_3.trans (by decide)))))))))
  rcases q_4 with rfl | rfl | rfl | rfl | rfl | rfl | rfl
  · refine hp_aload_nR C dX6_total_0 rfl ?_
    refine hp_iload_n C dX6_total_1 rfl ?_
    refine hp_iconst (v := 0) C dX6_total_2 (by decide) ?_
    refine hp_bipush (v := 6) C dX6_total_3 (by decide) ?_
    refine hp_callS C ml_X6_118 sm_X6_in (mo_in (d := d - 1)) (by omega) dX6_total_5 rfl rfl (by simp [Value.category]) (fun v_1 h_1 hp => ?_) (fun _ _ hf => hf.elim)
    obtain ⟨rfl, rfl⟩ := hp
    refine hp_if_ne (tgt := 15) C dX6_total_8 (by decide) (fun _ => ?_) (fun z_9 => absurd z_9 (by decide))
    refine hp_iconst (v := 0) C dX6_total_15 (by decide) ?_
    refine hp_callV (ci := 6) C ml_X6_125 im_X6_refuses se_X6_refuses rfl (by decide) (mo_refuses (d := d - 1) sh) (by omega) dX6_total_16 sh.o rfl rfl (by simp [Value.category]) (fun v_1 h_1 hp => ?_) (fun _ _ hf => hf.elim)
    obtain ⟨rfl, rfl⟩ := hp
    refine hp_if_eq (tgt := 24) C dX6_total_19 (by decide) (fun _ => ?_) (fun z_9 => absurd z_9 (by decide))
    refine hp_iconst (v := 0) C dX6_total_24 (by decide) ?_
    refine hp_istore_n C dX6_total_25 (by decide) ?_
    refine hp_iconst (v := 0) C dX6_total_26 (by decide) ?_
    refine hp_istore_n C dX6_total_27 (by decide) ?_
    refine hp_iconst (v := 0) C dX6_total_28 (by decide) ?_
    refine hp_istore C dX6_total_29 (by decide) ?_
    refine hp_iload C dX6_total_31 rfl ?_
    refine hp_aload_nR C dX6_total_33 rfl ?_
    refine mo_getS C sh fl_X6_68_6 rfl (by decide) (v := 1) rfl dX6_total_34 ?_
    refine hp_icmp_ge (tgt := 84) C dX6_total_37 (by decide) (fun z_9 => absurd z_9 (by decide)) (fun _ => ?_)
    refine hp_iload_n C dX6_total_40 rfl ?_
    refine hp_aload_nR C dX6_total_41 rfl ?_
    refine mo_getA C sh fl_X6_20_6 rfl (by decide) dX6_total_42 ?_
    refine hp_iload C dX6_total_45 rfl ?_
    refine mo_aldv (v := 0) C sh rfl (by decide) rfl dX6_total_47 (by unfold vp_in; decide) ?_
    refine hp_iconst (v := 1) C dX6_total_48 (by decide) ?_
    refine hp_icmp_ne (tgt := 56) C dX6_total_49 (by decide) (fun _ => ?_) (fun z_9 => absurd z_9 (by decide))
    refine hp_iconst (v := 0) C dX6_total_56 (by decide) ?_
    refine hp_iadd C dX6_total_57 ?_
    refine hp_istore_n C dX6_total_58 (by decide) ?_
    refine hp_iload_n C dX6_total_59 rfl ?_
    refine hp_aload_nR C dX6_total_60 rfl ?_
    refine mo_getA C sh fl_X6_20_6 rfl (by decide) dX6_total_61 ?_
    refine hp_iload C dX6_total_64 rfl ?_
    refine mo_aldv (v := 0) C sh rfl (by decide) rfl dX6_total_66 (by unfold vp_in; decide) ?_
    refine hp_iconst (v := 2) C dX6_total_67 (by decide) ?_
    refine hp_icmp_ne (tgt := 75) C dX6_total_68 (by decide) (fun _ => ?_) (fun z_9 => absurd z_9 (by decide))
    refine hp_iconst (v := 0) C dX6_total_75 (by decide) ?_
    refine hp_iadd C dX6_total_76 ?_
    refine hp_istore_n C dX6_total_77 (by decide) ?_
    refine hp_iinc C dX6_total_78 rfl (by decide) rfl ?_
    refine hp_goto (tgt := 31) C dX6_total_81 (by decide) ?_
    refine hp_iload C dX6_total_31 rfl ?_
    refine hp_aload_nR C dX6_total_33 rfl ?_
    refine mo_getS C sh fl_X6_68_6 rfl (by decide) (v := 1) rfl dX6_total_34 ?_
    refine hp_icmp_ge (tgt := 84) C dX6_total_37 (by decide) (fun _ => ?_) (fun z_9 => absurd z_9 (by decide))
    refine hp_iload_n C dX6_total_84 rfl ?_
    refine hp_tableIn (tgt := 124) C dX6_total_85 (by decide) (by decide) rfl (by decide) ?_
    refine hp_aload_nR C dX6_total_124 rfl ?_
    refine mo_getS C sh fl_X6_82_6 rfl (by decide) (v := 0) rfl dX6_total_125 ?_
    refine hp_iret C hr rfl dX6_total_128 ?_
    exact ⟨_, _, rfl, rfl, by decide, fun _ => rfl⟩
  · refine hp_aload_nR C dX6_total_0 rfl ?_
    refine hp_iload_n C dX6_total_1 rfl ?_
    refine hp_iconst (v := 0) C dX6_total_2 (by decide) ?_
    refine hp_bipush (v := 6) C dX6_total_3 (by decide) ?_
    refine hp_callS C ml_X6_118 sm_X6_in (mo_in (d := d - 1)) (by omega) dX6_total_5 rfl rfl (by simp [Value.category]) (fun v_1 h_1 hp => ?_) (fun _ _ hf => hf.elim)
    obtain ⟨rfl, rfl⟩ := hp
    refine hp_if_ne (tgt := 15) C dX6_total_8 (by decide) (fun _ => ?_) (fun z_9 => absurd z_9 (by decide))
    refine hp_iconst (v := 0) C dX6_total_15 (by decide) ?_
    refine hp_callV (ci := 6) C ml_X6_125 im_X6_refuses se_X6_refuses rfl (by decide) (mo_refuses (d := d - 1) sh) (by omega) dX6_total_16 sh.o rfl rfl (by simp [Value.category]) (fun v_1 h_1 hp => ?_) (fun _ _ hf => hf.elim)
    obtain ⟨rfl, rfl⟩ := hp
    refine hp_if_eq (tgt := 24) C dX6_total_19 (by decide) (fun _ => ?_) (fun z_9 => absurd z_9 (by decide))
    refine hp_iconst (v := 0) C dX6_total_24 (by decide) ?_
    refine hp_istore_n C dX6_total_25 (by decide) ?_
    refine hp_iconst (v := 0) C dX6_total_26 (by decide) ?_
    refine hp_istore_n C dX6_total_27 (by decide) ?_
    refine hp_iconst (v := 0) C dX6_total_28 (by decide) ?_
    refine hp_istore C dX6_total_29 (by decide) ?_
    refine hp_iload C dX6_total_31 rfl ?_
    refine hp_aload_nR C dX6_total_33 rfl ?_
    refine mo_getS C sh fl_X6_68_6 rfl (by decide) (v := 1) rfl dX6_total_34 ?_
    refine hp_icmp_ge (tgt := 84) C dX6_total_37 (by decide) (fun z_9 => absurd z_9 (by decide)) (fun _ => ?_)
    refine hp_iload_n C dX6_total_40 rfl ?_
    refine hp_aload_nR C dX6_total_41 rfl ?_
    refine mo_getA C sh fl_X6_20_6 rfl (by decide) dX6_total_42 ?_
    refine hp_iload C dX6_total_45 rfl ?_
    refine mo_aldv (v := 0) C sh rfl (by decide) rfl dX6_total_47 (by unfold vp_in; decide) ?_
    refine hp_iconst (v := 1) C dX6_total_48 (by decide) ?_
    refine hp_icmp_ne (tgt := 56) C dX6_total_49 (by decide) (fun _ => ?_) (fun z_9 => absurd z_9 (by decide))
    refine hp_iconst (v := 0) C dX6_total_56 (by decide) ?_
    refine hp_iadd C dX6_total_57 ?_
    refine hp_istore_n C dX6_total_58 (by decide) ?_
    refine hp_iload_n C dX6_total_59 rfl ?_
    refine hp_aload_nR C dX6_total_60 rfl ?_
    refine mo_getA C sh fl_X6_20_6 rfl (by decide) dX6_total_61 ?_
    refine hp_iload C dX6_total_64 rfl ?_
    refine mo_aldv (v := 0) C sh rfl (by decide) rfl dX6_total_66 (by unfold vp_in; decide) ?_
    refine hp_iconst (v := 2) C dX6_total_67 (by decide) ?_
    refine hp_icmp_ne (tgt := 75) C dX6_total_68 (by decide) (fun _ => ?_) (fun z_9 => absurd z_9 (by decide))
    refine hp_iconst (v := 0) C dX6_total_75 (by decide) ?_
    refine hp_iadd C dX6_total_76 ?_
    refine hp_istore_n C dX6_total_77 (by decide) ?_
    refine hp_iinc C dX6_total_78 rfl (by decide) rfl ?_
    refine hp_goto (tgt := 31) C dX6_total_81 (by decide) ?_
    refine hp_iload C dX6_total_31 rfl ?_
    refine hp_aload_nR C dX6_total_33 rfl ?_
    refine mo_getS C sh fl_X6_68_6 rfl (by decide) (v := 1) rfl dX6_total_34 ?_
    refine hp_icmp_ge (tgt := 84) C dX6_total_37 (by decide) (fun _ => ?_) (fun z_9 => absurd z_9 (by decide))
    refine hp_iload_n C dX6_total_84 rfl ?_
    refine hp_tableIn (tgt := 129) C dX6_total_85 (by decide) (by decide) rfl (by decide) ?_
    refine hp_aload_nR C dX6_total_129 rfl ?_
    refine mo_getS C sh fl_X6_68_6 rfl (by decide) (v := 1) rfl dX6_total_130 ?_
    refine hp_iret C hr rfl dX6_total_133 ?_
    exact ⟨_, _, rfl, rfl, by decide, fun _ => rfl⟩
  · refine hp_aload_nR C dX6_total_0 rfl ?_
    refine hp_iload_n C dX6_total_1 rfl ?_
    refine hp_iconst (v := 0) C dX6_total_2 (by decide) ?_
    refine hp_bipush (v := 6) C dX6_total_3 (by decide) ?_
    refine hp_callS C ml_X6_118 sm_X6_in (mo_in (d := d - 1)) (by omega) dX6_total_5 rfl rfl (by simp [Value.category]) (fun v_1 h_1 hp => ?_) (fun _ _ hf => hf.elim)
    obtain ⟨rfl, rfl⟩ := hp
    refine hp_if_ne (tgt := 15) C dX6_total_8 (by decide) (fun _ => ?_) (fun z_9 => absurd z_9 (by decide))
    refine hp_iconst (v := 0) C dX6_total_15 (by decide) ?_
    refine hp_callV (ci := 6) C ml_X6_125 im_X6_refuses se_X6_refuses rfl (by decide) (mo_refuses (d := d - 1) sh) (by omega) dX6_total_16 sh.o rfl rfl (by simp [Value.category]) (fun v_1 h_1 hp => ?_) (fun _ _ hf => hf.elim)
    obtain ⟨rfl, rfl⟩ := hp
    refine hp_if_eq (tgt := 24) C dX6_total_19 (by decide) (fun _ => ?_) (fun z_9 => absurd z_9 (by decide))
    refine hp_iconst (v := 0) C dX6_total_24 (by decide) ?_
    refine hp_istore_n C dX6_total_25 (by decide) ?_
    refine hp_iconst (v := 0) C dX6_total_26 (by decide) ?_
    refine hp_istore_n C dX6_total_27 (by decide) ?_
    refine hp_iconst (v := 0) C dX6_total_28 (by decide) ?_
    refine hp_istore C dX6_total_29 (by decide) ?_
    refine hp_iload C dX6_total_31 rfl ?_
    refine hp_aload_nR C dX6_total_33 rfl ?_
    refine mo_getS C sh fl_X6_68_6 rfl (by decide) (v := 1) rfl dX6_total_34 ?_
    refine hp_icmp_ge (tgt := 84) C dX6_total_37 (by decide) (fun z_9 => absurd z_9 (by decide)) (fun _ => ?_)
    refine hp_iload_n C dX6_total_40 rfl ?_
    refine hp_aload_nR C dX6_total_41 rfl ?_
    refine mo_getA C sh fl_X6_20_6 rfl (by decide) dX6_total_42 ?_
    refine hp_iload C dX6_total_45 rfl ?_
    refine mo_aldv (v := 0) C sh rfl (by decide) rfl dX6_total_47 (by unfold vp_in; decide) ?_
    refine hp_iconst (v := 1) C dX6_total_48 (by decide) ?_
    refine hp_icmp_ne (tgt := 56) C dX6_total_49 (by decide) (fun _ => ?_) (fun z_9 => absurd z_9 (by decide))
    refine hp_iconst (v := 0) C dX6_total_56 (by decide) ?_
    refine hp_iadd C dX6_total_57 ?_
    refine hp_istore_n C dX6_total_58 (by decide) ?_
    refine hp_iload_n C dX6_total_59 rfl ?_
    refine hp_aload_nR C dX6_total_60 rfl ?_
    refine mo_getA C sh fl_X6_20_6 rfl (by decide) dX6_total_61 ?_
    refine hp_iload C dX6_total_64 rfl ?_
    refine mo_aldv (v := 0) C sh rfl (by decide) rfl dX6_total_66 (by unfold vp_in; decide) ?_
    refine hp_iconst (v := 2) C dX6_total_67 (by decide) ?_
    refine hp_icmp_ne (tgt := 75) C dX6_total_68 (by decide) (fun _ => ?_) (fun z_9 => absurd z_9 (by decide))
    refine hp_iconst (v := 0) C dX6_total_75 (by decide) ?_
    refine hp_iadd C dX6_total_76 ?_
    refine hp_istore_n C dX6_total_77 (by decide) ?_
    refine hp_iinc C dX6_total_78 rfl (by decide) rfl ?_
    refine hp_goto (tgt := 31) C dX6_total_81 (by decide) ?_
    refine hp_iload C dX6_total_31 rfl ?_
    refine hp_aload_nR C dX6_total_33 rfl ?_
    refine mo_getS C sh fl_X6_68_6 rfl (by decide) (v := 1) rfl dX6_total_34 ?_
    refine hp_icmp_ge (tgt := 84) C dX6_total_37 (by decide) (fun _ => ?_) (fun z_9 => absurd z_9 (by decide))
    refine hp_iload_n C dX6_total_84 rfl ?_
    refine hp_tableIn (tgt := 134) C dX6_total_85 (by decide) (by decide) rfl (by decide) ?_
    refine hp_iload_n C dX6_total_134 rfl ?_
    refine hp_iret C hr rfl dX6_total_135 ?_
    exact ⟨_, _, rfl, rfl, by decide, fun _ => rfl⟩
  · refine hp_aload_nR C dX6_total_0 rfl ?_
    refine hp_iload_n C dX6_total_1 rfl ?_
    refine hp_iconst (v := 0) C dX6_total_2 (by decide) ?_
    refine hp_bipush (v := 6) C dX6_total_3 (by decide) ?_
    refine hp_callS C ml_X6_118 sm_X6_in (mo_in (d := d - 1)) (by omega) dX6_total_5 rfl rfl (by simp [Value.category]) (fun v_1 h_1 hp => ?_) (fun _ _ hf => hf.elim)
    obtain ⟨rfl, rfl⟩ := hp
    refine hp_if_ne (tgt := 15) C dX6_total_8 (by decide) (fun _ => ?_) (fun z_9 => absurd z_9 (by decide))
    refine hp_iconst (v := 0) C dX6_total_15 (by decide) ?_
    refine hp_callV (ci := 6) C ml_X6_125 im_X6_refuses se_X6_refuses rfl (by decide) (mo_refuses (d := d - 1) sh) (by omega) dX6_total_16 sh.o rfl rfl (by simp [Value.category]) (fun v_1 h_1 hp => ?_) (fun _ _ hf => hf.elim)
    obtain ⟨rfl, rfl⟩ := hp
    refine hp_if_eq (tgt := 24) C dX6_total_19 (by decide) (fun _ => ?_) (fun z_9 => absurd z_9 (by decide))
    refine hp_iconst (v := 0) C dX6_total_24 (by decide) ?_
    refine hp_istore_n C dX6_total_25 (by decide) ?_
    refine hp_iconst (v := 0) C dX6_total_26 (by decide) ?_
    refine hp_istore_n C dX6_total_27 (by decide) ?_
    refine hp_iconst (v := 0) C dX6_total_28 (by decide) ?_
    refine hp_istore C dX6_total_29 (by decide) ?_
    refine hp_iload C dX6_total_31 rfl ?_
    refine hp_aload_nR C dX6_total_33 rfl ?_
    refine mo_getS C sh fl_X6_68_6 rfl (by decide) (v := 1) rfl dX6_total_34 ?_
    refine hp_icmp_ge (tgt := 84) C dX6_total_37 (by decide) (fun z_9 => absurd z_9 (by decide)) (fun _ => ?_)
    refine hp_iload_n C dX6_total_40 rfl ?_
    refine hp_aload_nR C dX6_total_41 rfl ?_
    refine mo_getA C sh fl_X6_20_6 rfl (by decide) dX6_total_42 ?_
    refine hp_iload C dX6_total_45 rfl ?_
    refine mo_aldv (v := 0) C sh rfl (by decide) rfl dX6_total_47 (by unfold vp_in; decide) ?_
    refine hp_iconst (v := 1) C dX6_total_48 (by decide) ?_
    refine hp_icmp_ne (tgt := 56) C dX6_total_49 (by decide) (fun _ => ?_) (fun z_9 => absurd z_9 (by decide))
    refine hp_iconst (v := 0) C dX6_total_56 (by decide) ?_
    refine hp_iadd C dX6_total_57 ?_
    refine hp_istore_n C dX6_total_58 (by decide) ?_
    refine hp_iload_n C dX6_total_59 rfl ?_
    refine hp_aload_nR C dX6_total_60 rfl ?_
    refine mo_getA C sh fl_X6_20_6 rfl (by decide) dX6_total_61 ?_
    refine hp_iload C dX6_total_64 rfl ?_
    refine mo_aldv (v := 0) C sh rfl (by decide) rfl dX6_total_66 (by unfold vp_in; decide) ?_
    refine hp_iconst (v := 2) C dX6_total_67 (by decide) ?_
    refine hp_icmp_ne (tgt := 75) C dX6_total_68 (by decide) (fun _ => ?_) (fun z_9 => absurd z_9 (by decide))
    refine hp_iconst (v := 0) C dX6_total_75 (by decide) ?_
    refine hp_iadd C dX6_total_76 ?_
    refine hp_istore_n C dX6_total_77 (by decide) ?_
    refine hp_iinc C dX6_total_78 rfl (by decide) rfl ?_
    refine hp_goto (tgt := 31) C dX6_total_81 (by decide) ?_
    refine hp_iload C dX6_total_31 rfl ?_
    refine hp_aload_nR C dX6_total_33 rfl ?_
    refine mo_getS C sh fl_X6_68_6 rfl (by decide) (v := 1) rfl dX6_total_34 ?_
    refine hp_icmp_ge (tgt := 84) C dX6_total_37 (by decide) (fun _ => ?_) (fun z_9 => absurd z_9 (by decide))
    refine hp_iload_n C dX6_total_84 rfl ?_
    refine hp_tableIn (tgt := 136) C dX6_total_85 (by decide) (by decide) rfl (by decide) ?_
    refine hp_iload_n C dX6_total_136 rfl ?_
    refine hp_iret C hr rfl dX6_total_137 ?_
    exact ⟨_, _, rfl, rfl, by decide, fun _ => rfl⟩
  · refine hp_aload_nR C dX6_total_0 rfl ?_
    refine hp_iload_n C dX6_total_1 rfl ?_
    refine hp_iconst (v := 0) C dX6_total_2 (by decide) ?_
    refine hp_bipush (v := 6) C dX6_total_3 (by decide) ?_
    refine hp_callS C ml_X6_118 sm_X6_in (mo_in (d := d - 1)) (by omega) dX6_total_5 rfl rfl (by simp [Value.category]) (fun v_1 h_1 hp => ?_) (fun _ _ hf => hf.elim)
    obtain ⟨rfl, rfl⟩ := hp
    refine hp_if_ne (tgt := 15) C dX6_total_8 (by decide) (fun _ => ?_) (fun z_9 => absurd z_9 (by decide))
    refine hp_iconst (v := 0) C dX6_total_15 (by decide) ?_
    refine hp_callV (ci := 6) C ml_X6_125 im_X6_refuses se_X6_refuses rfl (by decide) (mo_refuses (d := d - 1) sh) (by omega) dX6_total_16 sh.o rfl rfl (by simp [Value.category]) (fun v_1 h_1 hp => ?_) (fun _ _ hf => hf.elim)
    obtain ⟨rfl, rfl⟩ := hp
    refine hp_if_eq (tgt := 24) C dX6_total_19 (by decide) (fun _ => ?_) (fun z_9 => absurd z_9 (by decide))
    refine hp_iconst (v := 0) C dX6_total_24 (by decide) ?_
    refine hp_istore_n C dX6_total_25 (by decide) ?_
    refine hp_iconst (v := 0) C dX6_total_26 (by decide) ?_
    refine hp_istore_n C dX6_total_27 (by decide) ?_
    refine hp_iconst (v := 0) C dX6_total_28 (by decide) ?_
    refine hp_istore C dX6_total_29 (by decide) ?_
    refine hp_iload C dX6_total_31 rfl ?_
    refine hp_aload_nR C dX6_total_33 rfl ?_
    refine mo_getS C sh fl_X6_68_6 rfl (by decide) (v := 1) rfl dX6_total_34 ?_
    refine hp_icmp_ge (tgt := 84) C dX6_total_37 (by decide) (fun z_9 => absurd z_9 (by decide)) (fun _ => ?_)
    refine hp_iload_n C dX6_total_40 rfl ?_
    refine hp_aload_nR C dX6_total_41 rfl ?_
    refine mo_getA C sh fl_X6_20_6 rfl (by decide) dX6_total_42 ?_
    refine hp_iload C dX6_total_45 rfl ?_
    refine mo_aldv (v := 0) C sh rfl (by decide) rfl dX6_total_47 (by unfold vp_in; decide) ?_
    refine hp_iconst (v := 1) C dX6_total_48 (by decide) ?_
    refine hp_icmp_ne (tgt := 56) C dX6_total_49 (by decide) (fun _ => ?_) (fun z_9 => absurd z_9 (by decide))
    refine hp_iconst (v := 0) C dX6_total_56 (by decide) ?_
    refine hp_iadd C dX6_total_57 ?_
    refine hp_istore_n C dX6_total_58 (by decide) ?_
    refine hp_iload_n C dX6_total_59 rfl ?_
    refine hp_aload_nR C dX6_total_60 rfl ?_
    refine mo_getA C sh fl_X6_20_6 rfl (by decide) dX6_total_61 ?_
    refine hp_iload C dX6_total_64 rfl ?_
    refine mo_aldv (v := 0) C sh rfl (by decide) rfl dX6_total_66 (by unfold vp_in; decide) ?_
    refine hp_iconst (v := 2) C dX6_total_67 (by decide) ?_
    refine hp_icmp_ne (tgt := 75) C dX6_total_68 (by decide) (fun _ => ?_) (fun z_9 => absurd z_9 (by decide))
    refine hp_iconst (v := 0) C dX6_total_75 (by decide) ?_
    refine hp_iadd C dX6_total_76 ?_
    refine hp_istore_n C dX6_total_77 (by decide) ?_
    refine hp_iinc C dX6_total_78 rfl (by decide) rfl ?_
    refine hp_goto (tgt := 31) C dX6_total_81 (by decide) ?_
    refine hp_iload C dX6_total_31 rfl ?_
    refine hp_aload_nR C dX6_total_33 rfl ?_
    refine mo_getS C sh fl_X6_68_6 rfl (by decide) (v := 1) rfl dX6_total_34 ?_
    refine hp_icmp_ge (tgt := 84) C dX6_total_37 (by decide) (fun _ => ?_) (fun z_9 => absurd z_9 (by decide))
    refine hp_iload_n C dX6_total_84 rfl ?_
    refine hp_tableIn (tgt := 138) C dX6_total_85 (by decide) (by decide) rfl (by decide) ?_
    refine hp_aload_nR C dX6_total_138 rfl ?_
    refine mo_getS C sh fl_X6_79_6 rfl (by decide) (v := 0) rfl dX6_total_139 ?_
    refine hp_iret C hr rfl dX6_total_142 ?_
    exact ⟨_, _, rfl, rfl, by decide, fun _ => rfl⟩
  · refine hp_aload_nR C dX6_total_0 rfl ?_
    refine hp_iload_n C dX6_total_1 rfl ?_
    refine hp_iconst (v := 0) C dX6_total_2 (by decide) ?_
    refine hp_bipush (v := 6) C dX6_total_3 (by decide) ?_
    refine hp_callS C ml_X6_118 sm_X6_in (mo_in (d := d - 1)) (by omega) dX6_total_5 rfl rfl (by simp [Value.category]) (fun v_1 h_1 hp => ?_) (fun _ _ hf => hf.elim)
    obtain ⟨rfl, rfl⟩ := hp
    refine hp_if_ne (tgt := 15) C dX6_total_8 (by decide) (fun _ => ?_) (fun z_9 => absurd z_9 (by decide))
    refine hp_iconst (v := 0) C dX6_total_15 (by decide) ?_
    refine hp_callV (ci := 6) C ml_X6_125 im_X6_refuses se_X6_refuses rfl (by decide) (mo_refuses (d := d - 1) sh) (by omega) dX6_total_16 sh.o rfl rfl (by simp [Value.category]) (fun v_1 h_1 hp => ?_) (fun _ _ hf => hf.elim)
    obtain ⟨rfl, rfl⟩ := hp
    refine hp_if_eq (tgt := 24) C dX6_total_19 (by decide) (fun _ => ?_) (fun z_9 => absurd z_9 (by decide))
    refine hp_iconst (v := 0) C dX6_total_24 (by decide) ?_
    refine hp_istore_n C dX6_total_25 (by decide) ?_
    refine hp_iconst (v := 0) C dX6_total_26 (by decide) ?_
    refine hp_istore_n C dX6_total_27 (by decide) ?_
    refine hp_iconst (v := 0) C dX6_total_28 (by decide) ?_
    refine hp_istore C dX6_total_29 (by decide) ?_
    refine hp_iload C dX6_total_31 rfl ?_
    refine hp_aload_nR C dX6_total_33 rfl ?_
    refine mo_getS C sh fl_X6_68_6 rfl (by decide) (v := 1) rfl dX6_total_34 ?_
    refine hp_icmp_ge (tgt := 84) C dX6_total_37 (by decide) (fun z_9 => absurd z_9 (by decide)) (fun _ => ?_)
    refine hp_iload_n C dX6_total_40 rfl ?_
    refine hp_aload_nR C dX6_total_41 rfl ?_
    refine mo_getA C sh fl_X6_20_6 rfl (by decide) dX6_total_42 ?_
    refine hp_iload C dX6_total_45 rfl ?_
    refine mo_aldv (v := 0) C sh rfl (by decide) rfl dX6_total_47 (by unfold vp_in; decide) ?_
    refine hp_iconst (v := 1) C dX6_total_48 (by decide) ?_
    refine hp_icmp_ne (tgt := 56) C dX6_total_49 (by decide) (fun _ => ?_) (fun z_9 => absurd z_9 (by decide))
    refine hp_iconst (v := 0) C dX6_total_56 (by decide) ?_
    refine hp_iadd C dX6_total_57 ?_
    refine hp_istore_n C dX6_total_58 (by decide) ?_
    refine hp_iload_n C dX6_total_59 rfl ?_
    refine hp_aload_nR C dX6_total_60 rfl ?_
    refine mo_getA C sh fl_X6_20_6 rfl (by decide) dX6_total_61 ?_
    refine hp_iload C dX6_total_64 rfl ?_
    refine mo_aldv (v := 0) C sh rfl (by decide) rfl dX6_total_66 (by unfold vp_in; decide) ?_
    refine hp_iconst (v := 2) C dX6_total_67 (by decide) ?_
    refine hp_icmp_ne (tgt := 75) C dX6_total_68 (by decide) (fun _ => ?_) (fun z_9 => absurd z_9 (by decide))
    refine hp_iconst (v := 0) C dX6_total_75 (by decide) ?_
    refine hp_iadd C dX6_total_76 ?_
    refine hp_istore_n C dX6_total_77 (by decide) ?_
    refine hp_iinc C dX6_total_78 rfl (by decide) rfl ?_
    refine hp_goto (tgt := 31) C dX6_total_81 (by decide) ?_
    refine hp_iload C dX6_total_31 rfl ?_
    refine hp_aload_nR C dX6_total_33 rfl ?_
    refine mo_getS C sh fl_X6_68_6 rfl (by decide) (v := 1) rfl dX6_total_34 ?_
    refine hp_icmp_ge (tgt := 84) C dX6_total_37 (by decide) (fun _ => ?_) (fun z_9 => absurd z_9 (by decide))
    refine hp_iload_n C dX6_total_84 rfl ?_
    refine hp_tableIn (tgt := 143) C dX6_total_85 (by decide) (by decide) rfl (by decide) ?_
    refine hp_aload_nR C dX6_total_143 rfl ?_
    refine mo_getS C sh fl_X6_100_6 rfl (by decide) (v := 0) rfl dX6_total_144 ?_
    refine hp_iret C hr rfl dX6_total_147 ?_
    exact ⟨_, _, rfl, rfl, by decide, fun _ => rfl⟩
  · refine hp_aload_nR C dX6_total_0 rfl ?_
    refine hp_iload_n C dX6_total_1 rfl ?_
    refine hp_iconst (v := 0) C dX6_total_2 (by decide) ?_
    refine hp_bipush (v := 6) C dX6_total_3 (by decide) ?_
    refine hp_callS C ml_X6_118 sm_X6_in (mo_in (d := d - 1)) (by omega) dX6_total_5 rfl rfl (by simp [Value.category]) (fun v_1 h_1 hp => ?_) (fun _ _ hf => hf.elim)
    obtain ⟨rfl, rfl⟩ := hp
    refine hp_if_ne (tgt := 15) C dX6_total_8 (by decide) (fun _ => ?_) (fun z_9 => absurd z_9 (by decide))
    refine hp_iconst (v := 0) C dX6_total_15 (by decide) ?_
    refine hp_callV (ci := 6) C ml_X6_125 im_X6_refuses se_X6_refuses rfl (by decide) (mo_refuses (d := d - 1) sh) (by omega) dX6_total_16 sh.o rfl rfl (by simp [Value.category]) (fun v_1 h_1 hp => ?_) (fun _ _ hf => hf.elim)
    obtain ⟨rfl, rfl⟩ := hp
    refine hp_if_eq (tgt := 24) C dX6_total_19 (by decide) (fun _ => ?_) (fun z_9 => absurd z_9 (by decide))
    refine hp_iconst (v := 0) C dX6_total_24 (by decide) ?_
    refine hp_istore_n C dX6_total_25 (by decide) ?_
    refine hp_iconst (v := 0) C dX6_total_26 (by decide) ?_
    refine hp_istore_n C dX6_total_27 (by decide) ?_
    refine hp_iconst (v := 0) C dX6_total_28 (by decide) ?_
    refine hp_istore C dX6_total_29 (by decide) ?_
    refine hp_iload C dX6_total_31 rfl ?_
    refine hp_aload_nR C dX6_total_33 rfl ?_
    refine mo_getS C sh fl_X6_68_6 rfl (by decide) (v := 1) rfl dX6_total_34 ?_
    refine hp_icmp_ge (tgt := 84) C dX6_total_37 (by decide) (fun z_9 => absurd z_9 (by decide)) (fun _ => ?_)
    refine hp_iload_n C dX6_total_40 rfl ?_
    refine hp_aload_nR C dX6_total_41 rfl ?_
    refine mo_getA C sh fl_X6_20_6 rfl (by decide) dX6_total_42 ?_
    refine hp_iload C dX6_total_45 rfl ?_
    refine mo_aldv (v := 0) C sh rfl (by decide) rfl dX6_total_47 (by unfold vp_in; decide) ?_
    refine hp_iconst (v := 1) C dX6_total_48 (by decide) ?_
    refine hp_icmp_ne (tgt := 56) C dX6_total_49 (by decide) (fun _ => ?_) (fun z_9 => absurd z_9 (by decide))
    refine hp_iconst (v := 0) C dX6_total_56 (by decide) ?_
    refine hp_iadd C dX6_total_57 ?_
    refine hp_istore_n C dX6_total_58 (by decide) ?_
    refine hp_iload_n C dX6_total_59 rfl ?_
    refine hp_aload_nR C dX6_total_60 rfl ?_
    refine mo_getA C sh fl_X6_20_6 rfl (by decide) dX6_total_61 ?_
    refine hp_iload C dX6_total_64 rfl ?_
    refine mo_aldv (v := 0) C sh rfl (by decide) rfl dX6_total_66 (by unfold vp_in; decide) ?_
    refine hp_iconst (v := 2) C dX6_total_67 (by decide) ?_
    refine hp_icmp_ne (tgt := 75) C dX6_total_68 (by decide) (fun _ => ?_) (fun z_9 => absurd z_9 (by decide))
    refine hp_iconst (v := 0) C dX6_total_75 (by decide) ?_
    refine hp_iadd C dX6_total_76 ?_
    refine hp_istore_n C dX6_total_77 (by decide) ?_
    refine hp_iinc C dX6_total_78 rfl (by decide) rfl ?_
    refine hp_goto (tgt := 31) C dX6_total_81 (by decide) ?_
    refine hp_iload C dX6_total_31 rfl ?_
    refine hp_aload_nR C dX6_total_33 rfl ?_
    refine mo_getS C sh fl_X6_68_6 rfl (by decide) (v := 1) rfl dX6_total_34 ?_
    refine hp_icmp_ge (tgt := 84) C dX6_total_37 (by decide) (fun _ => ?_) (fun z_9 => absurd z_9 (by decide))
    refine hp_iload_n C dX6_total_84 rfl ?_
    refine hp_tableOut (tgt := 148) C dX6_total_85 (by decide) (by decide) ?_
    refine hp_aload_nR C dX6_total_148 rfl ?_
    refine mo_getS C sh fl_X6_112_6 rfl (by decide) (v := 0) rfl dX6_total_149 ?_
    refine hp_iret C hr rfl dX6_total_152 ?_
    exact ⟨_, _, rfl, rfl, by decide, fun _ => rfl⟩

set_option maxRecDepth 20000 in
set_option maxHeartbeats 4000000 in
theorem mf_child {l : Launch} {G : hpG} {h : hpT} {m d : Nat} (sh : mo_sh G h m) (hd : 8 ≤ d) {n i : Int32} : hp_C l G yX6_child_ (.code yX6_child_ cX6_child_ 3 (some .int)) d [.ref m, .int n, .int i] (mo_w h m mo_s0) (mf_I h m (if n = 0 then 0 else 1) (-1)) (fun _ _ => False) := by
  refine hp_ofV (by decide) (by simp [Value.category]) (Nat.le_of_ble_eq_true rfl) (fun M C hr hx el => ?_)
  by_cases hn : n = 0
  · subst hn
    refine hp_aload_nR C dX6_child__0 rfl ?_
    refine hp_aload_nR C dX6_child__1 rfl ?_
    refine hp_iload_n C dX6_child__2 rfl ?_
    refine hp_callV (ci := 6) C ml_X6_128 im_X6_isKeeper se_X6_isKeeper rfl (by decide) (mo_isKeeper (d := d - 1) sh mf_ok (by omega)) (by omega) dX6_child__3 sh.o rfl rfl (by simp [Value.category]) (fun v_1 h_1 hp => ?_) (fun _ _ hf => hf.elim)
    obtain ⟨rfl, rfl⟩ := hp
    refine hp_if_ne (tgt := 13) C dX6_child__6 (by decide) (fun _ => ?_) (fun z_9 => absurd z_9 (by decide))
    refine hp_iconst (v := 0) C dX6_child__13 (by decide) ?_
    refine hp_callV (ci := 6) C ml_X6_125 im_X6_refuses se_X6_refuses rfl (by decide) (mo_refuses (d := d - 1) sh) (by omega) dX6_child__14 sh.o rfl rfl (by simp [Value.category]) (fun v_1 h_1 hp => ?_) (fun _ _ hf => hf.elim)
    obtain ⟨rfl, rfl⟩ := hp
    refine hp_if_eq (tgt := 22) C dX6_child__17 (by decide) (fun _ => ?_) (fun z_9 => absurd z_9 (by decide))
    refine hp_iload_n C dX6_child__22 rfl ?_
    refine hp_if_lt (tgt := 50) C dX6_child__23 (by decide) (fun c_23 => ?_) (fun c_23 => ?_)
    · refine hp_iconst (v := (-1)) C dX6_child__50 (by decide) ?_
      refine hp_iret C hr rfl dX6_child__51 ?_
      exact ⟨_, _, rfl, rfl, rfl, fun _ => rfl⟩
    · refine hp_iload_n C dX6_child__26 rfl ?_
      refine hp_aload_nR C dX6_child__27 rfl ?_
      refine mo_getA C sh fl_X6_50_6 rfl (by decide) dX6_child__28 ?_
      refine hp_iload_n C dX6_child__31 rfl ?_
      refine mo_aldv (v := 0) C sh rfl (by decide) rfl dX6_child__32 (by unfold vp_in; decide) ?_
      refine hp_icmp_ge (tgt := 50) C dX6_child__33 (by decide) (fun c_33 => ?_) (fun c_33 => ?_)
      · refine hp_iconst (v := (-1)) C dX6_child__50 (by decide) ?_
        refine hp_iret C hr rfl dX6_child__51 ?_
        exact ⟨_, _, rfl, rfl, rfl, fun _ => rfl⟩
      · exact absurd (kt_le2 c_33) (fun q_7 => c_23 q_7)
  · refine hp_aload_nR C dX6_child__0 rfl ?_
    refine hp_aload_nR C dX6_child__1 rfl ?_
    refine hp_iload_n C dX6_child__2 rfl ?_
    refine hp_callV (ci := 6) C ml_X6_128 im_X6_isKeeper se_X6_isKeeper rfl (by decide) (mo_isKeeper (d := d - 1) sh mf_ok (by omega)) (by omega) dX6_child__3 sh.o rfl rfl (by simp [Value.category]) (fun v_1 h_1 hp => ?_) (fun _ _ hf => hf.elim)
    obtain ⟨rfl, rfl⟩ := hp
    rw [mf_K hn]
    refine hp_if_ne (tgt := 13) C dX6_child__6 (by decide) (fun z_9 => absurd z_9 (by decide)) (fun _ => ?_)
    refine hp_iconst (v := 1) C dX6_child__9 (by decide) ?_
    refine hp_goto (tgt := 14) C dX6_child__10 (by decide) ?_
    refine hp_callV (ci := 6) C ml_X6_125 im_X6_refuses se_X6_refuses rfl (by decide) (mo_refuses (d := d - 1) sh) (by omega) dX6_child__14 sh.o rfl rfl (by simp [Value.category]) (fun v_1 h_1 hp => ?_) (fun _ _ hf => hf.elim)
    obtain ⟨rfl, rfl⟩ := hp
    refine hp_if_eq (tgt := 22) C dX6_child__17 (by decide) (fun z_9 => absurd z_9 (by decide)) (fun _ => ?_)
    refine hp_iconst (v := 0) C dX6_child__20 (by decide) ?_
    refine hp_iret C hr rfl dX6_child__21 ?_
    rw [if_neg hn]
    exact ⟨_, _, rfl, rfl, rfl, fun z_8 => absurd z_8 (by decide)⟩
