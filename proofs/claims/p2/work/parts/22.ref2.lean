/-- events told: the count is no negative number -/
def mo_evk (s : moS) : Prop := 0 ≤ (s.1 19).toInt
theorem mo_ev_in {e : Int32} (h0 : 0 ≤ e.toInt) (h1 : ¬ 600 ≤ e) {j : Int32} (hj : 0 ≤ j.toInt ∧ j.toInt < 4) : vp_in (4 * e + j) 2400 ∧ (4 * e + j).toNatClampNeg = 4 * e.toNatClampNeg + j.toNatClampNeg := by
  have h2 : e.toInt < 600 := by
    have := mt Int32.le_iff_toInt_le.mpr h1
    have e6 : (600 : Int32).toInt = 600 := by decide
    omega
  have e4 : (4 : Int32).toInt = 4 := by decide
  have m1 : (4 * e).toInt = 4 * e.toInt := by
    rw [Int32.toInt_mul, e4]
    exact Int.bmod_eq_of_le (by omega) (by omega)
  have m2 : (4 * e + j).toInt = 4 * e.toInt + j.toInt := by
    rw [Int32.toInt_add, m1]
    exact Int.bmod_eq_of_le (by omega) (by omega)
  refine ⟨vp_in_iff.mpr (by omega), ?_⟩
  have f : ∀ x : Int32, x.toNatClampNeg = x.toInt.toNat := fun _ => rfl
  rw [f, f, f, m2]
  omega
theorem mo_ev_in0 {e : Int32} (h0 : 0 ≤ e.toInt) (h1 : ¬ 600 ≤ e) : vp_in (4 * e) 2400 := by
  have := (mo_ev_in h0 h1 (j := 0) (by decide)).1
  rwa [Int32.add_zero] at this
def mo_note (s : moS) (a b c : Int32) : moS := if 600 ≤ s.1 19 then mo_pt s 19 (s.1 19 + 1) else
  mo_pt (mo_up (mo_up (mo_up (mo_up s 20 (4 * s.1 19).toNatClampNeg a) 20 (4 * s.1 19 + 1).toNatClampNeg b) 20 (4 * s.1 19 + 2).toNatClampNeg (s.1 18)) 20 (4 * s.1 19 + 3).toNatClampNeg c) 19 (s.1 19 + 1)
set_option maxRecDepth 20000 in
set_option maxHeartbeats 4000000 in
theorem mo_noteC {l : Launch} {G : hpG} {h : hpT} {m d : Nat} {s : moS} (sh : mo_sh G h m) {a b c : Int32} (ev : mo_evk s) : hp_C l G yX6_note (.code yX6_note cX6_note 4 none) d [.ref m, .int a, .int b, .int c] (mo_w h m s) (fun v h' => v = none ∧ h' = mo_w h m (mo_note s a b c)) (fun _ _ => False) := by
  refine hp_ofV (by decide) (by simp [Value.category]) (Nat.le_of_ble_eq_true rfl) (fun M C hr hx el => ?_)
  refine hp_aload_nR C dX6_note_0 rfl ?_
  refine mo_getS C sh fl_X6_79_6 rfl (by decide) (v := s.1 19) rfl dX6_note_1 ?_
  refine hp_sipush (v := 600) C dX6_note_4 (by decide) ?_
  refine hp_icmp_ge (tgt := 67) C dX6_note_7 (by decide) (fun c_7 => ?_) (fun c_7 => ?_)
  · refine hp_aload_nR C dX6_note_67 rfl ?_
    refine hp_dup C dX6_note_68 rfl ?_
    refine mo_getS C sh fl_X6_79_6 rfl (by decide) (v := s.1 19) rfl dX6_note_69 ?_
    refine hp_iconst (v := 1) C dX6_note_72 (by decide) ?_
    refine hp_iadd C dX6_note_73 ?_
    refine mo_putS C sh fl_X6_79_6 rfl (by decide) rfl rfl rfl dX6_note_74 ?_
    refine hp_vret C hr dX6_note_77 ?_
    exact ⟨rfl, by unfold mo_note; first | rw [if_pos c_7] | rw [if_neg c_7]⟩
  · refine hp_aload_nR C dX6_note_10 rfl ?_
    refine mo_getA C sh fl_X6_59_6 rfl (by decide) dX6_note_11 ?_
    refine hp_iconst (v := 4) C dX6_note_14 (by decide) ?_
    refine hp_aload_nR C dX6_note_15 rfl ?_
    refine mo_getS C sh fl_X6_79_6 rfl (by decide) (v := s.1 19) rfl dX6_note_16 ?_
    refine hp_imul C dX6_note_19 ?_
    refine hp_iload_n C dX6_note_20 rfl ?_
    refine mo_ast C sh rfl (by decide) dX6_note_21 (by exact mo_ev_in0 ev c_7) ?_
    refine hp_aload_nR C dX6_note_22 rfl ?_
    refine mo_getA C sh fl_X6_59_6 rfl (by decide) dX6_note_23 ?_
    refine hp_iconst (v := 4) C dX6_note_26 (by decide) ?_
    refine hp_aload_nR C dX6_note_27 rfl ?_
    refine mo_getS C sh fl_X6_79_6 rfl (by decide) (v := s.1 19) rfl dX6_note_28 ?_
    refine hp_imul C dX6_note_31 ?_
    refine hp_iconst (v := 1) C dX6_note_32 (by decide) ?_
    refine hp_iadd C dX6_note_33 ?_
    refine hp_iload_n C dX6_note_34 rfl ?_
    refine mo_ast C sh rfl (by decide) dX6_note_35 (by exact (mo_ev_in ev c_7 (by decide)).1) ?_
    refine hp_aload_nR C dX6_note_36 rfl ?_
    refine mo_getA C sh fl_X6_59_6 rfl (by decide) dX6_note_37 ?_
    refine hp_iconst (v := 4) C dX6_note_40 (by decide) ?_
    refine hp_aload_nR C dX6_note_41 rfl ?_
    refine mo_getS C sh fl_X6_79_6 rfl (by decide) (v := s.1 19) rfl dX6_note_42 ?_
    refine hp_imul C dX6_note_45 ?_
    refine hp_iconst (v := 2) C dX6_note_46 (by decide) ?_
    refine hp_iadd C dX6_note_47 ?_
    refine hp_aload_nR C dX6_note_48 rfl ?_
    refine mo_getS C sh fl_X6_82_6 rfl (by decide) (v := s.1 18) rfl dX6_note_49 ?_
    refine mo_ast C sh rfl (by decide) dX6_note_52 (by exact (mo_ev_in ev c_7 (by decide)).1) ?_
    refine hp_aload_nR C dX6_note_53 rfl ?_
    refine mo_getA C sh fl_X6_59_6 rfl (by decide) dX6_note_54 ?_
    refine hp_iconst (v := 4) C dX6_note_57 (by decide) ?_
    refine hp_aload_nR C dX6_note_58 rfl ?_
    refine mo_getS C sh fl_X6_79_6 rfl (by decide) (v := s.1 19) rfl dX6_note_59 ?_
    refine hp_imul C dX6_note_62 ?_
    refine hp_iconst (v := 3) C dX6_note_63 (by decide) ?_
    refine hp_iadd C dX6_note_64 ?_
    refine hp_iload_n C dX6_note_65 rfl ?_
    refine mo_ast C sh rfl (by decide) dX6_note_66 (by exact (mo_ev_in ev c_7 (by decide)).1) ?_
    refine hp_aload_nR C dX6_note_67 rfl ?_
    refine hp_dup C dX6_note_68 rfl ?_
    refine mo_getS C sh fl_X6_79_6 rfl (by decide) (v := s.1 19) rfl dX6_note_69 ?_
    refine hp_iconst (v := 1) C dX6_note_72 (by decide) ?_
    refine hp_iadd C dX6_note_73 ?_
    refine mo_putS C sh fl_X6_79_6 rfl (by decide) rfl rfl rfl dX6_note_74 ?_
    refine hp_vret C hr dX6_note_77 ?_
    exact ⟨rfl, by unfold mo_note; first | rw [if_pos c_7] | rw [if_neg c_7]⟩
def mo_isKp (a r t : Int32) : Int32 := if mo_inn a 0 2 = 0 then 0 else if mo_inn r 0 50 = 0 then 0 else if mo_inn t 1 1000 = 0 then 0 else 1
set_option maxRecDepth 20000 in
set_option maxHeartbeats 4000000 in
theorem mo_isKeeping {l : Launch} {G : hpG} {h : hpT} {d : Nat} (hd : 1 ≤ d) {a r t : Int32} : hp_C l G yX6_isKeeping (.code yX6_isKeeping cX6_isKeeping 3 (some .boolean)) d [.int a, .int r, .int t] (h) (fun v h' => v = some (.int (mo_isKp a r t)) ∧ h' = h) (fun _ _ => False) := by
  refine hp_ofV (by decide) (by simp [Value.category]) (Nat.le_of_ble_eq_true rfl) (fun M C hr hx el => ?_)
  refine hp_iload_n C dX6_isKeeping_0 rfl ?_
  refine hp_iconst (v := 0) C dX6_isKeeping_1 (by decide) ?_
  refine hp_iconst (v := 2) C dX6_isKeeping_2 (by decide) ?_
  refine hp_callS C ml_X6_118 sm_X6_in (mo_in (d := d - 1)) (by omega) dX6_isKeeping_3 rfl rfl (by simp [Value.category]) (fun v_1 h_1 hp => ?_) (fun _ _ hf => hf.elim)
  obtain ⟨rfl, rfl⟩ := hp
  refine hp_if_eq (tgt := 34) C dX6_isKeeping_6 (by decide) (fun c_6 => ?_) (fun c_6 => ?_)
  · refine hp_iconst (v := 0) C dX6_isKeeping_34 (by decide) ?_
    refine hp_iret C hr (by decide) dX6_isKeeping_35 ?_
    exact ⟨by simp only [mo_isKp, *, if_true, if_false], rfl⟩
  · refine hp_iload_n C dX6_isKeeping_9 rfl ?_
    refine hp_iconst (v := 0) C dX6_isKeeping_10 (by decide) ?_
    refine hp_bipush (v := 50) C dX6_isKeeping_11 (by decide) ?_
    refine hp_callS C ml_X6_118 sm_X6_in (mo_in (d := d - 1)) (by omega) dX6_isKeeping_13 rfl rfl (by simp [Value.category]) (fun v_1 h_1 hp => ?_) (fun _ _ hf => hf.elim)
    obtain ⟨rfl, rfl⟩ := hp
    refine hp_if_eq (tgt := 34) C dX6_isKeeping_16 (by decide) (fun c_16 => ?_) (fun c_16 => ?_)
    · refine hp_iconst (v := 0) C dX6_isKeeping_34 (by decide) ?_
      refine hp_iret C hr (by decide) dX6_isKeeping_35 ?_
      exact ⟨by simp only [mo_isKp, *, if_true, if_false], rfl⟩
    · refine hp_iload_n C dX6_isKeeping_19 rfl ?_
      refine hp_iconst (v := 1) C dX6_isKeeping_20 (by decide) ?_
      refine hp_sipush (v := 1000) C dX6_isKeeping_21 (by decide) ?_
      refine hp_callS C ml_X6_118 sm_X6_in (mo_in (d := d - 1)) (by omega) dX6_isKeeping_24 rfl rfl (by simp [Value.category]) (fun v_1 h_1 hp => ?_) (fun _ _ hf => hf.elim)
      obtain ⟨rfl, rfl⟩ := hp
      refine hp_if_eq (tgt := 34) C dX6_isKeeping_27 (by decide) (fun c_27 => ?_) (fun c_27 => ?_)
      · refine hp_iconst (v := 0) C dX6_isKeeping_34 (by decide) ?_
        refine hp_iret C hr (by decide) dX6_isKeeping_35 ?_
        exact ⟨by simp only [mo_isKp, *, if_true, if_false], rfl⟩
      · refine hp_iconst (v := 1) C dX6_isKeeping_30 (by decide) ?_
        refine hp_goto (tgt := 35) C dX6_isKeeping_31 (by decide) ?_
        refine hp_iret C hr (by decide) dX6_isKeeping_35 ?_
        exact ⟨by simp only [mo_isKp, *, if_true, if_false], rfl⟩
def mo_firC (s : moS) (a r t : Int32) : Int32 := if mo_isKp a r t = 0 then 1 else if s.2 5 (Int32.toNatClampNeg 0) = 1 then 2 else 0
def mo_fir (s : moS) (a r t : Int32) : moS := if mo_firC s a r t = 0 then mo_up (mo_up (mo_up (mo_pt s 0 0) 7 (Int32.toNatClampNeg 0) a) 8 (Int32.toNatClampNeg 0) r) 9 (Int32.toNatClampNeg 0) t else mo_pt s 0 (mo_firC s a r t)
set_option maxRecDepth 20000 in
set_option maxHeartbeats 4000000 in
theorem mo_first {l : Launch} {G : hpG} {h : hpT} {m d : Nat} {s : moS} (sh : mo_sh G h m) {a r t : Int32} (hd : 2 ≤ d) : hp_C l G yX6_first (.code yX6_first cX6_first 4 none) d [.ref m, .int a, .int r, .int t] (mo_w h m s) (fun v h' => v = none ∧ h' = mo_w h m (mo_fir s a r t)) (fun _ _ => False) := by
  refine hp_ofV (by decide) (by simp [Value.category]) (Nat.le_of_ble_eq_true rfl) (fun M C hr hx el => ?_)
  refine hp_aload_nR C dX6_first_0 rfl ?_
  refine hp_iload_n C dX6_first_1 rfl ?_
  refine hp_iload_n C dX6_first_2 rfl ?_
  refine hp_iload_n C dX6_first_3 rfl ?_
  refine hp_callS C ml_X6_122 sm_X6_isKeeping (mo_isKeeping (d := d - 1) (by omega)) (by omega) dX6_first_4 rfl rfl (by simp [Value.category]) (fun v_1 h_1 hp => ?_) (fun _ _ hf => hf.elim)
  obtain ⟨rfl, rfl⟩ := hp
  refine hp_if_ne (tgt := 14) C dX6_first_7 (by decide) (fun c_7 => ?_) (fun c_7 => ?_)
  · refine hp_aload_nR C dX6_first_14 rfl ?_
    refine mo_getA C sh fl_X6_20_6 rfl (by decide) dX6_first_15 ?_
    refine hp_iconst (v := 0) C dX6_first_18 (by decide) ?_
    refine mo_ald C sh (f := s.2 5) rfl (by decide) rfl dX6_first_19 (by unfold vp_in; decide) ?_
    refine hp_iconst (v := 1) C dX6_first_20 (by decide) ?_
    refine hp_icmp_ne (tgt := 28) C dX6_first_21 (by decide) (fun c_21 => ?_) (fun c_21 => ?_)
    · refine hp_iconst (v := 0) C dX6_first_28 (by decide) ?_
      refine hp_callV (ci := 6) C ml_X6_125 im_X6_refuses se_X6_refuses rfl (by decide) (mo_refuses (d := d - 1) sh) (by omega) dX6_first_29 sh.o rfl rfl (by simp [Value.category]) (fun v_1 h_1 hp => ?_) (fun _ _ hf => hf.elim)
      obtain ⟨rfl, rfl⟩ := hp
      refine hp_if_eq (tgt := 36) C dX6_first_32 (by decide) (fun _ => ?_) (fun z_9 => absurd z_9 (by decide))
      refine hp_aload_nR C dX6_first_36 rfl ?_
      refine mo_getA C sh fl_X6_26_6 rfl (by decide) dX6_first_37 ?_
      refine hp_iconst (v := 0) C dX6_first_40 (by decide) ?_
      refine hp_iload_n C dX6_first_41 rfl ?_
      refine mo_ast C sh rfl (by decide) dX6_first_42 (by unfold vp_in; decide) ?_
      refine hp_aload_nR C dX6_first_43 rfl ?_
      refine mo_getA C sh fl_X6_29_6 rfl (by decide) dX6_first_44 ?_
      refine hp_iconst (v := 0) C dX6_first_47 (by decide) ?_
      refine hp_iload_n C dX6_first_48 rfl ?_
      refine mo_ast C sh rfl (by decide) dX6_first_49 (by unfold vp_in; decide) ?_
      refine hp_aload_nR C dX6_first_50 rfl ?_
      refine mo_getA C sh fl_X6_32_6 rfl (by decide) dX6_first_51 ?_
      refine hp_iconst (v := 0) C dX6_first_54 (by decide) ?_
      refine hp_iload_n C dX6_first_55 rfl ?_
      refine mo_ast C sh rfl (by decide) dX6_first_56 (by unfold vp_in; decide) ?_
      refine hp_vret C hr dX6_first_57 ?_
      exact ⟨rfl, by simp only [mo_fir, mo_firC, *, if_true, if_false] <;> rfl⟩
    · refine hp_iconst (v := 2) C dX6_first_24 (by decide) ?_
      refine hp_goto (tgt := 29) C dX6_first_25 (by decide) ?_
      refine hp_callV (ci := 6) C ml_X6_125 im_X6_refuses se_X6_refuses rfl (by decide) (mo_refuses (d := d - 1) sh) (by omega) dX6_first_29 sh.o rfl rfl (by simp [Value.category]) (fun v_1 h_1 hp => ?_) (fun _ _ hf => hf.elim)
      obtain ⟨rfl, rfl⟩ := hp
      refine hp_if_eq (tgt := 36) C dX6_first_32 (by decide) (fun z_9 => absurd z_9 (by decide)) (fun _ => ?_)
      refine hp_vret C hr dX6_first_35 ?_
      exact ⟨rfl, by simp only [mo_fir, mo_firC, *, if_true, if_false] <;> rfl⟩
  · refine hp_iconst (v := 1) C dX6_first_10 (by decide) ?_
    refine hp_goto (tgt := 29) C dX6_first_11 (by decide) ?_
    refine hp_callV (ci := 6) C ml_X6_125 im_X6_refuses se_X6_refuses rfl (by decide) (mo_refuses (d := d - 1) sh) (by omega) dX6_first_29 sh.o rfl rfl (by simp [Value.category]) (fun v_1 h_1 hp => ?_) (fun _ _ hf => hf.elim)
    obtain ⟨rfl, rfl⟩ := hp
    refine hp_if_eq (tgt := 36) C dX6_first_32 (by decide) (fun z_9 => absurd z_9 (by decide)) (fun _ => ?_)
    refine hp_vret C hr dX6_first_35 ?_
    exact ⟨rfl, by simp only [mo_fir, mo_firC, *, if_true, if_false] <;> rfl⟩
def mo_faiC (s : moS) (n f : Int32) : Int32 := if mo_isW s n = 0 then 1 else if mo_inn f 0 50 = 0 then 1 else 0
theorem mo_isW_1 {s : moS} {n : Int32} (h : ¬ mo_isW s n = 0) : ¬ mo_isN s n = 0 := fun e => h (by unfold mo_isW; rw [if_pos e])
theorem mo_isK_1 {s : moS} {n : Int32} (h : ¬ mo_isK s n = 0) : ¬ mo_isN s n = 0 := fun e => h (by unfold mo_isK; rw [if_pos e])
theorem mo_okN {s : moS} (ok : mo_ok s) {n : Int32} (h : ¬ mo_isN s n = 0) : vp_in n 80 := ok.inn (mo_isN_1 h).1 (mo_isN_1 h).2.1
def mo_fai (s : moS) (n f : Int32) : moS := if mo_faiC s n f = 0 then mo_up (mo_pt s 0 0) 13 n.toNatClampNeg f else mo_pt s 0 (mo_faiC s n f)
def mo_faiR (s : moS) (n f : Int32) : Int32 := if mo_faiC s n f = 0 then s.2 13 n.toNatClampNeg else 0
set_option maxRecDepth 20000 in
set_option maxHeartbeats 4000000 in
theorem mo_failing {l : Launch} {G : hpG} {h : hpT} {m d : Nat} {s : moS} (sh : mo_sh G h m) {n f : Int32} (ok : mo_ok s) (hd : 3 ≤ d) : hp_C l G yX6_failing (.code yX6_failing cX6_failing 4 (some .int)) d [.ref m, .int n, .int f] (mo_w h m s) (fun v h' => v = some (.int (mo_faiR s n f)) ∧ h' = mo_w h m (mo_fai s n f)) (fun _ _ => False) := by
  refine hp_ofV (by decide) (by simp [Value.category]) (Nat.le_of_ble_eq_true rfl) (fun M C hr hx el => ?_)
  refine hp_aload_nR C dX6_failing_0 rfl ?_
  refine hp_aload_nR C dX6_failing_1 rfl ?_
  refine hp_iload_n C dX6_failing_2 rfl ?_
  refine hp_callV (ci := 6) C ml_X6_134 im_X6_isWorker se_X6_isWorker rfl (by decide) (mo_isWorker (d := d - 1) sh (by exact ok) (by omega)) (by omega) dX6_failing_3 sh.o rfl rfl (by simp [Value.category]) (fun v_1 h_1 hp => ?_) (fun _ _ hf => hf.elim)
  obtain ⟨rfl, rfl⟩ := hp
  refine hp_if_eq (tgt := 19) C dX6_failing_6 (by decide) (fun c_6 => ?_) (fun c_6 => ?_)
  · refine hp_iconst (v := 1) C dX6_failing_19 (by decide) ?_
    refine hp_goto (tgt := 24) C dX6_failing_20 (by decide) ?_
    refine hp_callV (ci := 6) C ml_X6_125 im_X6_refuses se_X6_refuses rfl (by decide) (mo_refuses (d := d - 1) sh) (by omega) dX6_failing_24 sh.o rfl rfl (by simp [Value.category]) (fun v_1 h_1 hp => ?_) (fun _ _ hf => hf.elim)
    obtain ⟨rfl, rfl⟩ := hp
    refine hp_if_eq (tgt := 32) C dX6_failing_27 (by decide) (fun z_9 => absurd z_9 (by decide)) (fun _ => ?_)
    refine hp_iconst (v := 0) C dX6_failing_30 (by decide) ?_
    refine hp_iret C hr rfl dX6_failing_31 ?_
    exact ⟨by simp only [mo_faiR, mo_faiC, *, if_true, if_false] <;> rfl, by simp only [mo_fai, mo_faiC, *, if_true, if_false] <;> rfl⟩
  · refine hp_iload_n C dX6_failing_9 rfl ?_
    refine hp_iconst (v := 0) C dX6_failing_10 (by decide) ?_
    refine hp_bipush (v := 50) C dX6_failing_11 (by decide) ?_
    refine hp_callS C ml_X6_118 sm_X6_in (mo_in (d := d - 1)) (by omega) dX6_failing_13 rfl rfl (by simp [Value.category]) (fun v_1 h_1 hp => ?_) (fun _ _ hf => hf.elim)
    obtain ⟨rfl, rfl⟩ := hp
    refine hp_if_ne (tgt := 23) C dX6_failing_16 (by decide) (fun c_16 => ?_) (fun c_16 => ?_)
    · refine hp_iconst (v := 0) C dX6_failing_23 (by decide) ?_
      refine hp_callV (ci := 6) C ml_X6_125 im_X6_refuses se_X6_refuses rfl (by decide) (mo_refuses (d := d - 1) sh) (by omega) dX6_failing_24 sh.o rfl rfl (by simp [Value.category]) (fun v_1 h_1 hp => ?_) (fun _ _ hf => hf.elim)
      obtain ⟨rfl, rfl⟩ := hp
      refine hp_if_eq (tgt := 32) C dX6_failing_27 (by decide) (fun _ => ?_) (fun z_9 => absurd z_9 (by decide))
      refine hp_aload_nR C dX6_failing_32 rfl ?_
      refine mo_getA C sh fl_X6_44_6 rfl (by decide) dX6_failing_33 ?_
      refine hp_iload_n C dX6_failing_36 rfl ?_
      refine mo_ald C sh (f := s.2 13) rfl (by decide) rfl dX6_failing_37 (by exact mo_okN ok (mo_isW_1 c_6)) ?_
      refine hp_istore_n C dX6_failing_38 (by decide) ?_
      refine hp_aload_nR C dX6_failing_39 rfl ?_
      refine mo_getA C sh fl_X6_44_6 rfl (by decide) dX6_failing_40 ?_
      refine hp_iload_n C dX6_failing_43 rfl ?_
      refine hp_iload_n C dX6_failing_44 rfl ?_
      refine mo_ast C sh rfl (by decide) dX6_failing_45 (by exact mo_okN ok (mo_isW_1 c_6)) ?_
      refine hp_iload_n C dX6_failing_46 rfl ?_
      refine hp_iret C hr rfl dX6_failing_47 ?_
      exact ⟨by simp only [mo_faiR, mo_faiC, *, if_true, if_false] <;> rfl, by simp only [mo_fai, mo_faiC, *, if_true, if_false] <;> rfl⟩
    · refine hp_iconst (v := 1) C dX6_failing_19 (by decide) ?_
      refine hp_goto (tgt := 24) C dX6_failing_20 (by decide) ?_
      refine hp_callV (ci := 6) C ml_X6_125 im_X6_refuses se_X6_refuses rfl (by decide) (mo_refuses (d := d - 1) sh) (by omega) dX6_failing_24 sh.o rfl rfl (by simp [Value.category]) (fun v_1 h_1 hp => ?_) (fun _ _ hf => hf.elim)
      obtain ⟨rfl, rfl⟩ := hp
      refine hp_if_eq (tgt := 32) C dX6_failing_27 (by decide) (fun z_9 => absurd z_9 (by decide)) (fun _ => ?_)
      refine hp_iconst (v := 0) C dX6_failing_30 (by decide) ?_
      refine hp_iret C hr rfl dX6_failing_31 ?_
      exact ⟨by simp only [mo_faiR, mo_faiC, *, if_true, if_false] <;> rfl, by simp only [mo_fai, mo_faiC, *, if_true, if_false] <;> rfl⟩
def mo_pasC (n : Int32) : Int32 := if mo_inn n 0 10000 = 0 then 1 else 0
def mo_pas (s : moS) (n : Int32) : moS := if mo_pasC n = 0 then mo_pt (mo_pt s 0 0) 18 (s.1 18 + n) else mo_pt s 0 (mo_pasC n)
def mo_pasR (s : moS) (n : Int32) : Int32 := if mo_pasC n = 0 then s.1 18 + n else 0
set_option maxRecDepth 20000 in
set_option maxHeartbeats 4000000 in
theorem mo_pass {l : Launch} {G : hpG} {h : hpT} {m d : Nat} {s : moS} (sh : mo_sh G h m) {n : Int32} (hd : 2 ≤ d) : hp_C l G yX6_pass (.code yX6_pass cX6_pass 2 (some .int)) d [.ref m, .int n] (mo_w h m s) (fun v h' => v = some (.int (mo_pasR s n)) ∧ h' = mo_w h m (mo_pas s n)) (fun _ _ => False) := by
  refine hp_ofV (by decide) (by simp [Value.category]) (Nat.le_of_ble_eq_true rfl) (fun M C hr hx el => ?_)
  refine hp_aload_nR C dX6_pass_0 rfl ?_
  refine hp_iload_n C dX6_pass_1 rfl ?_
  refine hp_iconst (v := 0) C dX6_pass_2 (by decide) ?_
  refine hp_sipush (v := 10000) C dX6_pass_3 (by decide) ?_
  refine hp_callS C ml_X6_118 sm_X6_in (mo_in (d := d - 1)) (by omega) dX6_pass_6 rfl rfl (by simp [Value.category]) (fun v_1 h_1 hp => ?_) (fun _ _ hf => hf.elim)
  obtain ⟨rfl, rfl⟩ := hp
  refine hp_if_ne (tgt := 16) C dX6_pass_9 (by decide) (fun c_9 => ?_) (fun c_9 => ?_)
  · refine hp_iconst (v := 0) C dX6_pass_16 (by decide) ?_
    refine hp_callV (ci := 6) C ml_X6_125 im_X6_refuses se_X6_refuses rfl (by decide) (mo_refuses (d := d - 1) sh) (by omega) dX6_pass_17 sh.o rfl rfl (by simp [Value.category]) (fun v_1 h_1 hp => ?_) (fun _ _ hf => hf.elim)
    obtain ⟨rfl, rfl⟩ := hp
    refine hp_if_eq (tgt := 25) C dX6_pass_20 (by decide) (fun _ => ?_) (fun z_9 => absurd z_9 (by decide))
    refine hp_aload_nR C dX6_pass_25 rfl ?_
    refine hp_dup C dX6_pass_26 rfl ?_
    refine mo_getS C sh fl_X6_82_6 rfl (by decide) (v := s.1 18) rfl dX6_pass_27 ?_
    refine hp_iload_n C dX6_pass_30 rfl ?_
    refine hp_iadd C dX6_pass_31 ?_
    refine mo_putS C sh fl_X6_82_6 rfl (by decide) rfl rfl rfl dX6_pass_32 ?_
    refine hp_aload_nR C dX6_pass_35 rfl ?_
    refine mo_getS C sh fl_X6_82_6 rfl (by decide) rfl dX6_pass_36 ?_
    refine hp_iret C hr rfl dX6_pass_39 ?_
    exact ⟨by simp only [mo_pasR, mo_pasC, *, if_true, if_false] <;> rfl, by simp only [mo_pas, mo_pasC, *, if_true, if_false] <;> rfl⟩
  · refine hp_iconst (v := 1) C dX6_pass_12 (by decide) ?_
    refine hp_goto (tgt := 17) C dX6_pass_13 (by decide) ?_
    refine hp_callV (ci := 6) C ml_X6_125 im_X6_refuses se_X6_refuses rfl (by decide) (mo_refuses (d := d - 1) sh) (by omega) dX6_pass_17 sh.o rfl rfl (by simp [Value.category]) (fun v_1 h_1 hp => ?_) (fun _ _ hf => hf.elim)
    obtain ⟨rfl, rfl⟩ := hp
    refine hp_if_eq (tgt := 25) C dX6_pass_20 (by decide) (fun z_9 => absurd z_9 (by decide)) (fun _ => ?_)
    refine hp_iconst (v := 0) C dX6_pass_23 (by decide) ?_
    refine hp_iret C hr rfl dX6_pass_24 ?_
    exact ⟨by simp only [mo_pasR, mo_pasC, *, if_true, if_false] <;> rfl, by simp only [mo_pas, mo_pasC, *, if_true, if_false] <;> rfl⟩
def mo_staC (s : moS) (n : Int32) : Int32 := if n < 0 then 1 else if n < s.1 1 then 0 else 1
def mo_staR (s : moS) (n : Int32) : Int32 := if mo_staC s n = 0 then s.2 5 n.toNatClampNeg else 0
set_option maxRecDepth 20000 in
set_option maxHeartbeats 4000000 in
theorem mo_state {l : Launch} {G : hpG} {h : hpT} {m d : Nat} {s : moS} (sh : mo_sh G h m) {n : Int32} (ok : mo_ok s) (hd : 1 ≤ d) : hp_C l G yX6_state (.code yX6_state cX6_state 2 (some .int)) d [.ref m, .int n] (mo_w h m s) (fun v h' => v = some (.int (mo_staR s n)) ∧ h' = mo_w h m (mo_pt s 0 (mo_staC s n))) (fun _ _ => False) := by
  refine hp_ofV (by decide) (by simp [Value.category]) (Nat.le_of_ble_eq_true rfl) (fun M C hr hx el => ?_)
  refine hp_aload_nR C dX6_state_0 rfl ?_
  refine hp_iload_n C dX6_state_1 rfl ?_
  refine hp_if_lt (tgt := 13) C dX6_state_2 (by decide) (fun c_2 => ?_) (fun c_2 => ?_)
  · refine hp_iconst (v := 1) C dX6_state_13 (by decide) ?_
    refine hp_goto (tgt := 18) C dX6_state_14 (by decide) ?_
    refine hp_callV (ci := 6) C ml_X6_125 im_X6_refuses se_X6_refuses rfl (by decide) (mo_refuses (d := d - 1) sh) (by omega) dX6_state_18 sh.o rfl rfl (by simp [Value.category]) (fun v_1 h_1 hp => ?_) (fun _ _ hf => hf.elim)
    obtain ⟨rfl, rfl⟩ := hp
    refine hp_if_eq (tgt := 28) C dX6_state_21 (by decide) (fun z_9 => absurd z_9 (by decide)) (fun _ => ?_)
    refine hp_iconst (v := 0) C dX6_state_24 (by decide) ?_
    refine hp_goto (tgt := 34) C dX6_state_25 (by decide) ?_
    refine hp_iret C hr rfl dX6_state_34 ?_
    exact ⟨by simp only [mo_staR, mo_staC, *, if_true, if_false] <;> rfl, by simp only [mo_staC, *, if_true, if_false] <;> rfl⟩
  · refine hp_iload_n C dX6_state_5 rfl ?_
    refine hp_aload_nR C dX6_state_6 rfl ?_
    refine mo_getS C sh fl_X6_68_6 rfl (by decide) (v := s.1 1) rfl dX6_state_7 ?_
    refine hp_icmp_lt (tgt := 17) C dX6_state_10 (by decide) (fun c_10 => ?_) (fun c_10 => ?_)
    · refine hp_iconst (v := 0) C dX6_state_17 (by decide) ?_
      refine hp_callV (ci := 6) C ml_X6_125 im_X6_refuses se_X6_refuses rfl (by decide) (mo_refuses (d := d - 1) sh) (by omega) dX6_state_18 sh.o rfl rfl (by simp [Value.category]) (fun v_1 h_1 hp => ?_) (fun _ _ hf => hf.elim)
      obtain ⟨rfl, rfl⟩ := hp
      refine hp_if_eq (tgt := 28) C dX6_state_21 (by decide) (fun _ => ?_) (fun z_9 => absurd z_9 (by decide))
      refine hp_aload_nR C dX6_state_28 rfl ?_
      refine mo_getA C sh fl_X6_20_6 rfl (by decide) dX6_state_29 ?_
      refine hp_iload_n C dX6_state_32 rfl ?_
      refine mo_ald C sh (f := s.2 5) rfl (by decide) rfl dX6_state_33 (by exact ok.inn c_2 (k2_nle c_10)) ?_
      refine hp_iret C hr rfl dX6_state_34 ?_
      exact ⟨by simp only [mo_staR, mo_staC, *, if_true, if_false] <;> rfl, by simp only [mo_staC, *, if_true, if_false] <;> rfl⟩
    · refine hp_iconst (v := 1) C dX6_state_13 (by decide) ?_
      refine hp_goto (tgt := 18) C dX6_state_14 (by decide) ?_
      refine hp_callV (ci := 6) C ml_X6_125 im_X6_refuses se_X6_refuses rfl (by decide) (mo_refuses (d := d - 1) sh) (by omega) dX6_state_18 sh.o rfl rfl (by simp [Value.category]) (fun v_1 h_1 hp => ?_) (fun _ _ hf => hf.elim)
      obtain ⟨rfl, rfl⟩ := hp
      refine hp_if_eq (tgt := 28) C dX6_state_21 (by decide) (fun z_9 => absurd z_9 (by decide)) (fun _ => ?_)
      refine hp_iconst (v := 0) C dX6_state_24 (by decide) ?_
      refine hp_goto (tgt := 34) C dX6_state_25 (by decide) ?_
      refine hp_iret C hr rfl dX6_state_34 ?_
      exact ⟨by simp only [mo_staR, mo_staC, *, if_true, if_false] <;> rfl, by simp only [mo_staC, *, if_true, if_false] <;> rfl⟩
def mo_evtC (w : Int32) : Int32 := if mo_inn w 0 3 = 0 then 1 else 0
def mo_evtR (s : moS) (i w : Int32) : Int32 := if mo_evtC w = 0 then (if i < 0 then -1 else if s.1 19 ≤ i then -1 else if 600 ≤ i then -1 else s.2 20 (4 * i + w).toNatClampNeg) else 0
theorem mo_inn_1 {x a b : Int32} (h : ¬ mo_inn x a b = 0) : a ≤ x ∧ x ≤ b := by
  unfold mo_inn at h
  by_cases c : x < a
  · exact absurd (by rw [if_pos c]) h
  · by_cases e : b < x
    · exact absurd (by rw [if_neg c, if_pos e]) h
    · exact ⟨k2_le c, k2_le e⟩
theorem mo_evt_in {i w : Int32} (h0 : ¬ i < 0) (h1 : ¬ 600 ≤ i) (hw : ¬ mo_inn w 0 3 = 0) : vp_in (4 * i + w) 2400 := by
  obtain ⟨a, b⟩ := mo_inn_1 hw
  rw [Int32.le_iff_toInt_le] at a b
  rw [Int32.lt_iff_toInt_lt, Int32.toInt_zero] at h0
  have e3 : (3 : Int32).toInt = 3 := by decide
  rw [Int32.toInt_zero] at a
  exact (mo_ev_in (by omega) h1 ⟨by omega, by omega⟩).1
set_option maxRecDepth 20000 in
set_option maxHeartbeats 4000000 in
theorem mo_event {l : Launch} {G : hpG} {h : hpT} {m d : Nat} {s : moS} (sh : mo_sh G h m) {i k : Int32} (hd : 2 ≤ d) : hp_C l G yX6_event (.code yX6_event cX6_event 3 (some .int)) d [.ref m, .int i, .int k] (mo_w h m s) (fun v h' => v = some (.int (mo_evtR s i k)) ∧ h' = mo_w h m (mo_pt s 0 (mo_evtC k))) (fun _ _ => False) := by
  refine hp_ofV (by decide) (by simp [Value.category]) (Nat.le_of_ble_eq_true rfl) (fun M C hr hx el => ?_)
  refine hp_aload_nR C dX6_event_0 rfl ?_
  refine hp_iload_n C dX6_event_1 rfl ?_
  refine hp_iconst (v := 0) C dX6_event_2 (by decide) ?_
  refine hp_iconst (v := 3) C dX6_event_3 (by decide) ?_
  refine hp_callS C ml_X6_118 sm_X6_in (mo_in (d := d - 1)) (by omega) dX6_event_4 rfl rfl (by simp [Value.category]) (fun v_1 h_1 hp => ?_) (fun _ _ hf => hf.elim)
  obtain ⟨rfl, rfl⟩ := hp
  refine hp_if_ne (tgt := 14) C dX6_event_7 (by decide) (fun c_7 => ?_) (fun c_7 => ?_)
  · refine hp_iconst (v := 0) C dX6_event_14 (by decide) ?_
    refine hp_callV (ci := 6) C ml_X6_125 im_X6_refuses se_X6_refuses rfl (by decide) (mo_refuses (d := d - 1) sh) (by omega) dX6_event_15 sh.o rfl rfl (by simp [Value.category]) (fun v_1 h_1 hp => ?_) (fun _ _ hf => hf.elim)
    obtain ⟨rfl, rfl⟩ := hp
    refine hp_if_eq (tgt := 23) C dX6_event_18 (by decide) (fun _ => ?_) (fun z_9 => absurd z_9 (by decide))
    refine hp_iload_n C dX6_event_23 rfl ?_
    refine hp_if_lt (tgt := 55) C dX6_event_24 (by decide) (fun c_24 => ?_) (fun c_24 => ?_)
    · refine hp_iconst (v := (-1)) C dX6_event_55 (by decide) ?_
      refine hp_iret C hr rfl dX6_event_56 ?_
      exact ⟨by simp only [mo_evtR, mo_evtC, *, if_true, if_false] <;> rfl, by simp only [mo_evtC, *, if_true, if_false] <;> rfl⟩
    · refine hp_iload_n C dX6_event_27 rfl ?_
      refine hp_aload_nR C dX6_event_28 rfl ?_
      refine mo_getS C sh fl_X6_79_6 rfl (by decide) (v := s.1 19) rfl dX6_event_29 ?_
      refine hp_icmp_ge (tgt := 55) C dX6_event_32 (by decide) (fun c_32 => ?_) (fun c_32 => ?_)
      · refine hp_iconst (v := (-1)) C dX6_event_55 (by decide) ?_
        refine hp_iret C hr rfl dX6_event_56 ?_
        exact ⟨by simp only [mo_evtR, mo_evtC, *, if_true, if_false] <;> rfl, by simp only [mo_evtC, *, if_true, if_false] <;> rfl⟩
      · refine hp_iload_n C dX6_event_35 rfl ?_
        refine hp_sipush (v := 600) C dX6_event_36 (by decide) ?_
        refine hp_icmp_ge (tgt := 55) C dX6_event_39 (by decide) (fun c_39 => ?_) (fun c_39 => ?_)
        · refine hp_iconst (v := (-1)) C dX6_event_55 (by decide) ?_
          refine hp_iret C hr rfl dX6_event_56 ?_
          exact ⟨by simp only [mo_evtR, mo_evtC, *, if_true, if_false] <;> rfl, by simp only [mo_evtC, *, if_true, if_false] <;> rfl⟩
        · refine hp_aload_nR C dX6_event_42 rfl ?_
          refine mo_getA C sh fl_X6_59_6 rfl (by decide) dX6_event_43 ?_
          refine hp_iconst (v := 4) C dX6_event_46 (by decide) ?_
          refine hp_iload_n C dX6_event_47 rfl ?_
          refine hp_imul C dX6_event_48 ?_
          refine hp_iload_n C dX6_event_49 rfl ?_
          refine hp_iadd C dX6_event_50 ?_
          refine mo_ald C sh (f := s.2 20) rfl (by decide) rfl dX6_event_51 (by exact mo_evt_in c_24 c_39 c_7) ?_
          refine hp_goto (tgt := 56) C dX6_event_52 (by decide) ?_
          refine hp_iret C hr rfl dX6_event_56 ?_
          exact ⟨by simp only [mo_evtR, mo_evtC, *, if_true, if_false] <;> rfl, by simp only [mo_evtC, *, if_true, if_false] <;> rfl⟩
  · refine hp_iconst (v := 1) C dX6_event_10 (by decide) ?_
    refine hp_goto (tgt := 15) C dX6_event_11 (by decide) ?_
    refine hp_callV (ci := 6) C ml_X6_125 im_X6_refuses se_X6_refuses rfl (by decide) (mo_refuses (d := d - 1) sh) (by omega) dX6_event_15 sh.o rfl rfl (by simp [Value.category]) (fun v_1 h_1 hp => ?_) (fun _ _ hf => hf.elim)
    obtain ⟨rfl, rfl⟩ := hp
    refine hp_if_eq (tgt := 23) C dX6_event_18 (by decide) (fun z_9 => absurd z_9 (by decide)) (fun _ => ?_)
    refine hp_iconst (v := 0) C dX6_event_21 (by decide) ?_
    refine hp_iret C hr rfl dX6_event_22 ?_
    exact ⟨by simp only [mo_evtR, mo_evtC, *, if_true, if_false] <;> rfl, by simp only [mo_evtC, *, if_true, if_false] <;> rfl⟩
