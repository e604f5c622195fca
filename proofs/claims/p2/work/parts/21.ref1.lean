set_option maxRecDepth 20000 in
set_option maxHeartbeats 4000000 in
theorem mo_thrown {l : Launch} {G : hpG} {h : hpT} {m d : Nat} {s : moS} (sh : mo_sh G h m)  : hp_C l G yX6_thrown (.code yX6_thrown cX6_thrown 1 (some .int)) d [.ref m] (mo_w h m s) (fun v h' => v = some (.int (s.1 0)) ∧ h' = mo_w h m (s)) (fun _ _ => False) := by
  refine hp_ofV (by decide) (by simp [Value.category]) (Nat.le_of_ble_eq_true rfl) (fun M C hr hx el => ?_)
  refine hp_aload_nR C dX6_thrown_0 rfl ?_
  refine mo_getS C sh fl_X6_72_6 rfl (by decide) (v := s.1 0) rfl dX6_thrown_1 ?_
  refine hp_iret C hr rfl dX6_thrown_4 ?_
  exact ⟨rfl, rfl⟩
def mo_ref (c : Int32) : Int32 := if c ≤ 0 then 0 else 1
set_option maxRecDepth 20000 in
set_option maxHeartbeats 4000000 in
theorem mo_refuses {l : Launch} {G : hpG} {h : hpT} {m d : Nat} {s : moS} (sh : mo_sh G h m) {c : Int32} : hp_C l G yX6_refuses (.code yX6_refuses cX6_refuses 2 (some .boolean)) d [.ref m, .int c] (mo_w h m s) (fun v h' => v = some (.int (mo_ref c)) ∧ h' = mo_w h m (mo_pt s 0 c)) (fun _ _ => False) := by
  refine hp_ofV (by decide) (by simp [Value.category]) (Nat.le_of_ble_eq_true rfl) (fun M C hr hx el => ?_)
  refine hp_aload_nR C dX6_refuses_0 rfl ?_
  refine hp_iload_n C dX6_refuses_1 rfl ?_
  refine mo_putS C sh fl_X6_72_6 rfl (by decide) rfl rfl rfl dX6_refuses_2 ?_
  refine hp_iload_n C dX6_refuses_5 rfl ?_
  refine hp_if_le (tgt := 13) C dX6_refuses_6 (by decide) (fun c_6 => ?_) (fun c_6 => ?_)
  · refine hp_iconst (v := 0) C dX6_refuses_13 (by decide) ?_
    refine hp_iret C hr (by decide) dX6_refuses_14 ?_
    exact ⟨by simp only [mo_ref, c_6, if_true, if_false], rfl⟩
  · refine hp_iconst (v := 1) C dX6_refuses_9 (by decide) ?_
    refine hp_goto (tgt := 14) C dX6_refuses_10 (by decide) ?_
    refine hp_iret C hr (by decide) dX6_refuses_14 ?_
    exact ⟨by simp only [mo_ref, c_6, if_true, if_false], rfl⟩
/-- in range: the number of nodes made -/
def mo_ok (s : moS) : Prop := ∃ k : Nat, s.1 1 = nI k ∧ 1 ≤ k ∧ k ≤ 80
theorem mo_ok.inn {s : moS} (x : mo_ok s) {n : Int32} (h1 : ¬ n < 0) (h2 : ¬ s.1 1 ≤ n) : vp_in n 80 := by
  obtain ⟨k, e, -, hk⟩ := x
  rw [e] at h2
  rw [vp_in_iff]
  have := nI_toInt (n := k) (by omega)
  rw [Int32.le_iff_toInt_le, this] at h2
  rw [Int32.lt_iff_toInt_lt, Int32.toInt_zero] at h1
  omega
def mo_isN (s : moS) (n : Int32) : Int32 := if n < 0 then 0 else if s.1 1 ≤ n then 0 else if s.2 5 n.toNatClampNeg = 2 then 0 else 1
set_option maxRecDepth 20000 in
set_option maxHeartbeats 4000000 in
theorem mo_isNode {l : Launch} {G : hpG} {h : hpT} {m d : Nat} {s : moS} (sh : mo_sh G h m) {n : Int32} (ok : mo_ok s) : hp_C l G yX6_isNode (.code yX6_isNode cX6_isNode 2 (some .boolean)) d [.ref m, .int n] (mo_w h m s) (fun v h' => v = some (.int (mo_isN s n)) ∧ h' = mo_w h m (s)) (fun _ _ => False) := by
  refine hp_ofV (by decide) (by simp [Value.category]) (Nat.le_of_ble_eq_true rfl) (fun M C hr hx el => ?_)
  refine hp_iload_n C dX6_isNode_0 rfl ?_
  refine hp_if_lt (tgt := 26) C dX6_isNode_1 (by decide) (fun c_1 => ?_) (fun c_1 => ?_)
  · refine hp_iconst (v := 0) C dX6_isNode_26 (by decide) ?_
    refine hp_iret C hr (by decide) dX6_isNode_27 ?_
    exact ⟨by simp only [mo_isN, *, if_true, if_false], rfl⟩
  · refine hp_iload_n C dX6_isNode_4 rfl ?_
    refine hp_aload_nR C dX6_isNode_5 rfl ?_
    refine mo_getS C sh fl_X6_68_6 rfl (by decide) (v := s.1 1) rfl dX6_isNode_6 ?_
    refine hp_icmp_ge (tgt := 26) C dX6_isNode_9 (by decide) (fun c_9 => ?_) (fun c_9 => ?_)
    · refine hp_iconst (v := 0) C dX6_isNode_26 (by decide) ?_
      refine hp_iret C hr (by decide) dX6_isNode_27 ?_
      exact ⟨by simp only [mo_isN, *, if_true, if_false], rfl⟩
    · refine hp_aload_nR C dX6_isNode_12 rfl ?_
      refine mo_getA C sh fl_X6_20_6 rfl (by decide) dX6_isNode_13 ?_
      refine hp_iload_n C dX6_isNode_16 rfl ?_
      refine mo_ald C sh (f := s.2 5) rfl (by decide) rfl dX6_isNode_17 (by exact ok.inn c_1 c_9) ?_
      refine hp_iconst (v := 2) C dX6_isNode_18 (by decide) ?_
      refine hp_icmp_eq (tgt := 26) C dX6_isNode_19 (by decide) (fun c_19 => ?_) (fun c_19 => ?_)
      · refine hp_iconst (v := 0) C dX6_isNode_26 (by decide) ?_
        refine hp_iret C hr (by decide) dX6_isNode_27 ?_
        exact ⟨by simp only [mo_isN, *, if_true, if_false], rfl⟩
      · refine hp_iconst (v := 1) C dX6_isNode_22 (by decide) ?_
        refine hp_goto (tgt := 27) C dX6_isNode_23 (by decide) ?_
        refine hp_iret C hr (by decide) dX6_isNode_27 ?_
        exact ⟨by simp only [mo_isN, *, if_true, if_false], rfl⟩
def mo_inn (x lo hi : Int32) : Int32 := if x < lo then 0 else if hi < x then 0 else 1
set_option maxRecDepth 20000 in
set_option maxHeartbeats 4000000 in
theorem mo_in {l : Launch} {G : hpG} {h : hpT} {d : Nat} {x lw hg : Int32} : hp_C l G yX6_in (.code yX6_in cX6_in 3 (some .boolean)) d [.int x, .int lw, .int hg] (h) (fun v h' => v = some (.int (mo_inn x lw hg)) ∧ h' = h) (fun _ _ => False) := by
  refine hp_ofV (by decide) (by simp [Value.category]) (Nat.le_of_ble_eq_true rfl) (fun M C hr hx el => ?_)
  refine hp_iload_n C dX6_in_0 rfl ?_
  refine hp_iload_n C dX6_in_1 rfl ?_
  refine hp_icmp_lt (tgt := 14) C dX6_in_2 (by decide) (fun c_2 => ?_) (fun c_2 => ?_)
  · refine hp_iconst (v := 0) C dX6_in_14 (by decide) ?_
    refine hp_iret C hr (by decide) dX6_in_15 ?_
    exact ⟨by simp only [mo_inn, *, if_true, if_false], rfl⟩
  · refine hp_iload_n C dX6_in_5 rfl ?_
    refine hp_iload_n C dX6_in_6 rfl ?_
    refine hp_icmp_gt (tgt := 14) C dX6_in_7 (by decide) (fun c_7 => ?_) (fun c_7 => ?_)
    · refine hp_iconst (v := 0) C dX6_in_14 (by decide) ?_
      refine hp_iret C hr (by decide) dX6_in_15 ?_
      exact ⟨by simp only [mo_inn, *, if_true, if_false], rfl⟩
    · refine hp_iconst (v := 1) C dX6_in_10 (by decide) ?_
      refine hp_goto (tgt := 15) C dX6_in_11 (by decide) ?_
      refine hp_iret C hr (by decide) dX6_in_15 ?_
      exact ⟨by simp only [mo_inn, *, if_true, if_false], rfl⟩
theorem mo_isN_1 {s : moS} {n : Int32} (h : ¬ mo_isN s n = 0) : ¬ n < 0 ∧ ¬ s.1 1 ≤ n ∧ ¬ s.2 5 n.toNatClampNeg = 2 := by
  unfold mo_isN at h
  by_cases a : n < 0
  · exact absurd (by rw [if_pos a]) h
  · by_cases b : s.1 1 ≤ n
    · exact absurd (by rw [if_neg a, if_pos b]) h
    · by_cases c : s.2 5 n.toNatClampNeg = 2
      · exact absurd (by rw [if_neg a, if_neg b, if_pos c]) h
      · exact ⟨a, b, c⟩
def mo_isK (s : moS) (n : Int32) : Int32 := if mo_isN s n = 0 then 0 else if s.2 2 n.toNatClampNeg = 0 then 0 else 1
def mo_isW (s : moS) (n : Int32) : Int32 := if mo_isN s n = 0 then 0 else if s.2 2 n.toNatClampNeg = 0 then 1 else 0
set_option maxRecDepth 20000 in
set_option maxHeartbeats 4000000 in
theorem mo_isKeeper {l : Launch} {G : hpG} {h : hpT} {m d : Nat} {s : moS} (sh : mo_sh G h m) {n : Int32} (ok : mo_ok s) (hd : 1 ≤ d) : hp_C l G yX6_isKeeper (.code yX6_isKeeper cX6_isKeeper 2 (some .boolean)) d [.ref m, .int n] (mo_w h m s) (fun v h' => v = some (.int (mo_isK s n)) ∧ h' = mo_w h m (s)) (fun _ _ => False) := by
  refine hp_ofV (by decide) (by simp [Value.category]) (Nat.le_of_ble_eq_true rfl) (fun M C hr hx el => ?_)
  refine hp_aload_nR C dX6_isKeeper_0 rfl ?_
  refine hp_iload_n C dX6_isKeeper_1 rfl ?_
  refine hp_callV (ci := 6) C ml_X6_75 im_X6_isNode se_X6_isNode rfl (by decide) (mo_isNode (d := d - 1) sh (by exact ok)) (by omega) dX6_isKeeper_2 sh.o rfl rfl (by simp [Value.category]) (fun v_1 h_1 hp => ?_) (fun _ _ hf => hf.elim)
  obtain ⟨rfl, rfl⟩ := hp
  refine hp_if_eq (tgt := 21) C dX6_isKeeper_5 (by decide) (fun c_5 => ?_) (fun c_5 => ?_)
  · refine hp_iconst (v := 0) C dX6_isKeeper_21 (by decide) ?_
    refine hp_iret C hr (by decide) dX6_isKeeper_22 ?_
    exact ⟨by simp only [mo_isK, *, if_true, if_false], rfl⟩
  · refine hp_aload_nR C dX6_isKeeper_8 rfl ?_
    refine mo_getA C sh fl_X6_7_6 rfl (by decide) dX6_isKeeper_9 ?_
    refine hp_iload_n C dX6_isKeeper_12 rfl ?_
    refine mo_zld C sh (f := s.2 2) rfl dX6_isKeeper_13 (by exact ok.inn (mo_isN_1 c_5).1 (mo_isN_1 c_5).2.1) ?_
    refine hp_if_eq (tgt := 21) C dX6_isKeeper_14 (by decide) (fun c_14 => ?_) (fun c_14 => ?_)
    · refine hp_iconst (v := 0) C dX6_isKeeper_21 (by decide) ?_
      refine hp_iret C hr (by decide) dX6_isKeeper_22 ?_
      exact ⟨by simp only [mo_isK, *, if_true, if_false], rfl⟩
    · refine hp_iconst (v := 1) C dX6_isKeeper_17 (by decide) ?_
      refine hp_goto (tgt := 22) C dX6_isKeeper_18 (by decide) ?_
      refine hp_iret C hr (by decide) dX6_isKeeper_22 ?_
      exact ⟨by simp only [mo_isK, *, if_true, if_false], rfl⟩
set_option maxRecDepth 20000 in
set_option maxHeartbeats 4000000 in
theorem mo_isWorker {l : Launch} {G : hpG} {h : hpT} {m d : Nat} {s : moS} (sh : mo_sh G h m) {n : Int32} (ok : mo_ok s) (hd : 1 ≤ d) : hp_C l G yX6_isWorker (.code yX6_isWorker cX6_isWorker 2 (some .boolean)) d [.ref m, .int n] (mo_w h m s) (fun v h' => v = some (.int (mo_isW s n)) ∧ h' = mo_w h m (s)) (fun _ _ => False) := by
  refine hp_ofV (by decide) (by simp [Value.category]) (Nat.le_of_ble_eq_true rfl) (fun M C hr hx el => ?_)
  refine hp_aload_nR C dX6_isWorker_0 rfl ?_
  refine hp_iload_n C dX6_isWorker_1 rfl ?_
  refine hp_callV (ci := 6) C ml_X6_75 im_X6_isNode se_X6_isNode rfl (by decide) (mo_isNode (d := d - 1) sh (by exact ok)) (by omega) dX6_isWorker_2 sh.o rfl rfl (by simp [Value.category]) (fun v_1 h_1 hp => ?_) (fun _ _ hf => hf.elim)
  obtain ⟨rfl, rfl⟩ := hp
  refine hp_if_eq (tgt := 21) C dX6_isWorker_5 (by decide) (fun c_5 => ?_) (fun c_5 => ?_)
  · refine hp_iconst (v := 0) C dX6_isWorker_21 (by decide) ?_
    refine hp_iret C hr (by decide) dX6_isWorker_22 ?_
    exact ⟨by simp only [mo_isW, *, if_true, if_false], rfl⟩
  · refine hp_aload_nR C dX6_isWorker_8 rfl ?_
    refine mo_getA C sh fl_X6_7_6 rfl (by decide) dX6_isWorker_9 ?_
    refine hp_iload_n C dX6_isWorker_12 rfl ?_
    refine mo_zld C sh (f := s.2 2) rfl dX6_isWorker_13 (by exact ok.inn (mo_isN_1 c_5).1 (mo_isN_1 c_5).2.1) ?_
    refine hp_if_ne (tgt := 21) C dX6_isWorker_14 (by decide) (fun c_14 => ?_) (fun c_14 => ?_)
    · refine hp_iconst (v := 0) C dX6_isWorker_21 (by decide) ?_
      refine hp_iret C hr (by decide) dX6_isWorker_22 ?_
      exact ⟨by simp only [mo_isW, *, if_true, if_false], rfl⟩
    · refine hp_iconst (v := 1) C dX6_isWorker_17 (by decide) ?_
      refine hp_goto (tgt := 22) C dX6_isWorker_18 (by decide) ?_
      refine hp_iret C hr (by decide) dX6_isWorker_22 ?_
      exact ⟨by simp only [mo_isW, *, if_true, if_false], rfl⟩
