/-! ===== keeper and worker at the fresh state ===== -/
def kc_Work (h : hpT) (a : Nat) (n : Int32) (ow : Option Nat) (dp kn p b e f : Int32) : hpT := hp_put (hp_put (hp_put (hp_put (kc_Node 4 h a n ow dp kn) (hp_fd 4 5) a (.int p)) (hp_fd 4 6) a (.int b)) (hp_fd 4 7) a (.int e)) (hp_fd 4 8) a (.int f)
theorem hp_fg.work {a : Nat} {h h1 : hpT} (x : hp_fg a h h1) {u : Nat} (n : Int32) (ow : Option Nat) (dp kn p b e f : Int32) (c : hp_nx h ≤ u) : hp_fg a h (kc_Work h1 u n ow dp kn p b e f) := ((((x.node 4 n ow dp kn c).put _ _ (Or.inr c)).put _ _ (Or.inr c)).put _ _ (Or.inr c)).put _ _ (Or.inr c)
theorem hp_fg.up {a : Nat} {h h1 : hpT} (x : hp_fg 0 h h1) : hp_fg a h h1 := ⟨x.1, fun b _ h3 => x.2 b (Nat.zero_le _) h3⟩
theorem hp_fg.is {G : hpG} {h h1 : hpT} (x : hp_fg 0 h h1) {b ci : Nat} (y : hp_is G h b ci) : hp_is G h1 b ci := ⟨y.1, Nat.lt_of_lt_of_le y.2.1 x.1, ((x.2 b (Nat.zero_le _) y.2.1).1).trans y.2.2⟩
theorem hp_fg.fl {h h1 : hpT} (x : hp_fg 0 h h1) {b : Nat} (hb : b < hp_nx h) (f : Nat) {v : Value} (e : hp_fl h f b = v) : hp_fl h1 f b = v := ((x.2 b (Nat.zero_le _) hb).2.2.1 f).trans e
theorem hp_fg.ln {h h1 : hpT} (x : hp_fg 0 h h1) {b : Nat} (hb : b < hp_nx h) : hp_ln h1 b = hp_ln h b := (x.2 b (Nat.zero_le _) hb).2.1
theorem kc_Keep_num {G : hpG} {h : hpT} {a : Nat} {n : Int32} {ow : Option Nat} {dp kn sg r t : Int32} (ha : a < hp_nx h) : hp_fl (kc_Keep G h a n ow dp kn sg r t) (hp_fd 2 0) a = .int n := by
  show va_up (va_up (hp_fl (kc_Node 2 h a n ow dp kn) 64) (hp_nx h) (hp_dv 0 64)) (hp_nx h + 1) (hp_dv 3 64) a = .int n
  rw [va_up_ne _ _ (by omega), va_up_ne _ _ (by omega)]
  show va_up (hp_fl (hp_put h (hp_fd 2 4) a (.int 0)) 64) a (.int n) a = .int n
  exact va_up_self _ _ _
theorem kc_Work_num {h : hpT} {a : Nat} {n : Int32} {ow : Option Nat} {dp kn p b e f : Int32} : hp_fl (kc_Work h a n ow dp kn p b e f) (hp_fd 4 0) a = .int n := by
  show va_up (hp_fl (hp_put h (hp_fd 4 4) a (.int 0)) 64) a (.int n) a = .int n
  exact va_up_self _ _ _
set_option maxRecDepth 20000 in
set_option maxHeartbeats 4000000 in
theorem kc_woJ {l : Launch} {G : hpG} {h : hpT} {a u d : Nat} {n kn dp p b e f : Int32} (hd : 2 ≤ d) (hi : hp_is G h a 4) (ho : hp_is G h u 2) (ed : hp_fl h (hp_fd 2 2) u = .int dp) : hp_C l G yX4_init (.code yX4_init cX4_init 8 none) d [.ref a, .int n, .ref u, .int kn, .int p, .int b, .int e, .int f] (h) (fun v h' => v = none ∧ h' = kc_Work h a n (some u) (dp + 1) kn p b e f) (fun _ _ => False) := by
  refine hp_ofV (by decide) (by simp [Value.category]) (Nat.le_of_ble_eq_true rfl) (fun M C hr hx el => ?_)
  refine hp_aload_nR C dX4_init_0 rfl ?_
  refine hp_iload_n C dX4_init_1 rfl ?_
  refine hp_aload_nR C dX4_init_2 rfl ?_
  refine hp_iload_n C dX4_init_3 rfl ?_
  refine hp_callI C ml_X4_3 im_X2_init rfl (kc_noJ4 (d := d - 1) (by omega) hi ho ed) (by omega) dX4_init_4 rfl rfl (by simp [Value.category]) (fun v_1 h_1 hp => ?_)
  obtain ⟨rfl, rfl⟩ := hp
  refine hp_aload_nR C dX4_init_7 rfl ?_
  refine hp_iload C dX4_init_8 rfl ?_
  first | refine hp_putF C fl_X4_9_4 rfl rfl rfl rfl dX4_init_10 hi ?_ | refine hp_putf C fl_X4_9_4 rfl rfl rfl dX4_init_10 hi ?_
  refine hp_aload_nR C dX4_init_13 rfl ?_
  refine hp_iload C dX4_init_14 rfl ?_
  first | refine hp_putF C fl_X4_15_4 rfl rfl rfl rfl dX4_init_16 hi ?_ | refine hp_putf C fl_X4_15_4 rfl rfl rfl dX4_init_16 hi ?_
  refine hp_aload_nR C dX4_init_19 rfl ?_
  refine hp_iload C dX4_init_20 rfl ?_
  first | refine hp_putF C fl_X4_18_4 rfl rfl rfl rfl dX4_init_22 hi ?_ | refine hp_putf C fl_X4_18_4 rfl rfl rfl dX4_init_22 hi ?_
  refine hp_aload_nR C dX4_init_25 rfl ?_
  refine hp_iload C dX4_init_26 rfl ?_
  first | refine hp_putF C fl_X4_21_4 rfl rfl rfl rfl dX4_init_28 hi ?_ | refine hp_putf C fl_X4_21_4 rfl rfl rfl dX4_init_28 hi ?_
  refine hp_vret C hr dX4_init_31 ?_
  exact ⟨rfl, rfl⟩
def ktc_ke (n b a r t : Int32) : Int32 := kt_sq (ktc_no n) (kt_sq (ktc_in b 0 2) (ktc_bd a r t))
def ktc_wo (n b p s e f : Int32) : Int32 := kt_sq (ktc_no n) (kt_sq (ktc_in b 0 2) (kt_sq (ktc_in p (-1) 1000) (kt_sq (ktc_in s 0 100) (kt_sq (ktc_in e 0 100) (ktc_in f 0 50)))))
set_option maxRecDepth 20000 in
set_option maxHeartbeats 4000000 in
theorem ktp_keeper {l : Launch} {G : hpG} {h : hpT} {k d : Nat} (sh : kt_sh G h k) (rm : hp_nx h + 100 ≤ hp_n0 G + hp_LC ∧ hp_sl h + 20000 ≤ hp_LS) {n b c r t : Int32} (hd : 12 ≤ d) : hp_C l G yX5_keeper (.code yX5_keeper cX5_keeper 8 (some .int)) d [.ref k, .int n, .int b, .int c, .int r, .int t] (kt_w G h k kt_s0) (fun v h' => ktc_ke n b c r t = 0 ∧ v = some (.int 1) ∧ hp_frm (k + 12) (kt_w G h k kt_s0) h') (kt_X (ktc_ke n b c r t) (kt_w G h k kt_s0)) := by
  refine hp_ofV (by decide) (by simp [Value.category]) (Nat.le_of_ble_eq_true rfl) (fun M C hr hx el => ?_)
  refine hp_aload_nR C dX5_keeper_0 rfl ?_
  refine hp_iload_n C dX5_keeper_1 rfl ?_
  refine hp_callV (ci := 5) C ml_X5_61 im_X5_keeperAt se_X5_keeperAt rfl (by decide) (ktm_ke (d := d - 1) sh rm (by omega)) (by omega) dX5_keeper_2 (sh.o 0 (by decide) rfl) rfl rfl (by simp [Value.category]) (fun v_1 h_1 hp => ?_) (fun E_1 h_1 hq => hp_out C hx (kt_to hq (fun q_9 => by simp only [ktc_ke, kt_sq, if_true, if_false, *])))
  obtain ⟨e_2, rfl, rfl⟩ := hp
  refine hp_astore (r := some _) C dX5_keeper_5 (by decide) ?_
  refine hp_iload_n C dX5_keeper_7 rfl ?_
  refine hp_iconst (v := 0) C dX5_keeper_8 (by decide) ?_
  refine hp_iconst (v := 2) C dX5_keeper_9 (by decide) ?_
  refine hp_callS C ml_X5_65 sm_X5_wantWithin (ktm_in (d := d - 1) (by omega) rm) (by omega) dX5_keeper_10 rfl rfl (by simp [Value.category]) (fun v_1 h_1 hp => ?_) (fun E_1 h_1 hq => hp_out C hx (kt_to hq (fun q_9 => by simp only [ktc_ke, kt_sq, if_true, if_false, *])))
  obtain ⟨e_10, rfl, rfl⟩ := hp
  refine hp_iload_n C dX5_keeper_13 rfl ?_
  refine hp_iload C dX5_keeper_14 rfl ?_
  refine hp_iload C dX5_keeper_16 rfl ?_
  refine hp_callS C ml_X5_41 sm_X5_wantBounds (ktm_bd (d := d - 1) (by omega) rm) (by omega) dX5_keeper_18 rfl rfl (by simp [Value.category]) (fun v_1 h_1 hp => ?_) (fun E_1 h_1 hq => hp_out C hx (kt_to hq (fun q_9 => by simp only [ktc_ke, kt_sq, if_true, if_false, *])))
  obtain ⟨e_18, rfl, rfl⟩ := hp
  refine hp_aload_nR C dX5_keeper_21 rfl ?_
  refine hp_aloadR C dX5_keeper_22 rfl ?_
  refine hp_callV (ci := 5) C ml_X5_68 im_X5_hasRoomBelow se_X5_hasRoomBelow rfl (by decide) (ktm_ro (d := d - 1) sh rm) (by omega) dX5_keeper_24 (sh.o 0 (by decide) rfl) rfl rfl (by simp [Value.category]) (fun v_1 h_1 hp => ?_) (fun E_1 h_1 hq => hp_out C hx (kt_to hq (fun q_9 => absurd rfl q_9)))
  obtain ⟨e_24, rfl, rfl⟩ := hp
  refine hp_callS C ml_X5_48 sm_X5_wantState (ktm_st (d := d - 1) (by omega) rm) (by omega) dX5_keeper_27 rfl rfl (by simp [Value.category]) (fun v_1 h_1 hp => ?_) (fun E_1 h_1 hq => hp_out C hx (kt_to hq (fun q_9 => absurd (by decide) q_9)))
  obtain ⟨e_27, rfl, rfl⟩ := hp
  have hn : hp_n0 G ≤ hp_nx h := Nat.le_trans sh.1 (by have := sh.2.1; omega)
  have hkn : k + 12 ≤ hp_nx h := sh.2.1
  have r1 := rm.1
  have r2 := rm.2
  refine hp_new C nl_X5_22 dX5_keeper_30 (by have q1 := rm.1; have q2 := rm.2; simp only [kt_w, hp_nx, hp_sl] at *; omega) (by have q1 := rm.1; have q2 := rm.2; simp only [kt_w, hp_nx, hp_sl] at *; omega) ?_
  have F0 : hp_fg 0 (kt_w G h k kt_s0) (hp_mk (kt_w G h k kt_s0) 2 10) := hp_fg.rf.mk 2 10
  have iN : hp_is G (hp_mk (kt_w G h k kt_s0) 2 10) (hp_nx h) 2 := hp_isN (h := kt_w G h k kt_s0) hn 2 10
  have n_0 : hp_nx (hp_mk (kt_w G h k kt_s0) 2 10) = hp_nx h + 1 := rfl
  have s_0 : hp_sl (hp_mk (kt_w G h k kt_s0) 2 10) = hp_sl h + 10 := rfl
  generalize hp_mk (kt_w G h k kt_s0) 2 10 = A0 at F0 iN n_0 s_0 ⊢
  refine hp_dup C dX5_keeper_33 rfl ?_
  refine hp_aload_nR C dX5_keeper_34 rfl ?_
  refine hp_get (v := .int 1) C fl_X5_31_5 dX5_keeper_35 (F0.is (sh.o 0 (by decide) rfl)) (F0.fl (v := .int 1) (show k + 0 < hp_nx h by omega) (hp_fd 5 3) ((kt_fl (f := hp_fd 5 3) (o := 0) rfl rfl).trans rfl)) ?_
  refine hp_aloadR C dX5_keeper_38 rfl ?_
  refine hp_iload_n C dX5_keeper_40 rfl ?_
  refine hp_iload_n C dX5_keeper_41 rfl ?_
  refine hp_iload C dX5_keeper_42 rfl ?_
  refine hp_iload C dX5_keeper_44 rfl ?_
  refine hp_callI C ml_X5_24 im_X1_init rfl (kc_keJ (d := d - 1) (dp := 0) (by omega) iN (F0.is (sh.o 8 (by decide) rfl)) (F0.fl (v := .int 0) (show k + 8 < hp_nx h by omega) (hp_fd 2 2) ((kt_fl (f := hp_fd 2 2) (o := 8) rfl rfl).trans rfl)) ⟨by omega, by omega⟩) (by omega) dX5_keeper_46 rfl rfl (by simp [Value.category]) (fun v_1 h_1 hp => ?_)
  obtain ⟨rfl, hA⟩ := hp
  have F1 : hp_fg 0 (kt_w G h k kt_s0) h_1 := by rw [hA]; exact F0.keep G 1 (some (k + 8)) (0 + 1) b c r t (Nat.le_refl _)
  have iA : hp_is G h_1 (hp_nx h) 2 := by rw [hA]; exact (((iN.mk 0 3).mk 3 2).mkA 0 8 (.int 0))
  have eN : hp_fl h_1 (hp_fd 2 0) (hp_nx h) = .int 1 := by rw [hA]; exact kc_Keep_num iN.2.1
  have n_1 : hp_nx h_1 = hp_nx A0 + 3 := by rw [hA]; rfl
  have s_1 : hp_sl h_1 = hp_sl A0 + 13 := by rw [hA]; rfl
  clear hA
  have FK : hp_fg (k + 12) (kt_w G h k kt_s0) h_1 := F1.up
  refine hp_astore (r := some _) C dX5_keeper_49 (by decide) ?_
  refine hp_aload_nR C dX5_keeper_51 rfl ?_
  refine hp_aloadR C dX5_keeper_52 rfl ?_
  refine hp_aloadR C dX5_keeper_54 rfl ?_
  have g1 : hp_fl h_1 (hp_fd 5 1) (k + 0) = .ref (k + 7) := F1.fl (show k + 0 < hp_nx h by omega) _ ((kt_fl (f := (hp_fd 5 1)) (o := 0) rfl rfl).trans rfl)
  have g3 : hp_fl h_1 (hp_fd 2 5) (k + 8) = .ref (k + 9) := F1.fl (show k + 8 < hp_nx h by omega) _ ((kt_fl (f := (hp_fd 2 5)) (o := 8) rfl rfl).trans rfl)
  have g4 : hp_fl h_1 (hp_fd 5 3) (k + 0) = .int 1 := F1.fl (show k + 0 < hp_nx h by omega) _ ((kt_fl (f := (hp_fd 5 3)) (o := 0) rfl rfl).trans rfl)
  have f0 : hp_fl h_1 (hp_fd 0 0) (k + 9) = .int 0 := F1.fl (show k + 9 < hp_nx h by omega) _ ((kt_fl (f := (hp_fd 0 0)) (o := 9) rfl rfl).trans rfl)
  have f1 : hp_fl h_1 (hp_fd 0 1) (k + 9) = .ref (hp_dE G) := F1.fl (show k + 9 < hp_nx h by omega) _ ((kt_fl (f := (hp_fd 0 1)) (o := 9) rfl rfl).trans rfl)
  have f2 : hp_fl h_1 (hp_fd 0 2) (k + 9) = .int 0 := F1.fl (show k + 9 < hp_nx h by omega) _ ((kt_fl (f := (hp_fd 0 2)) (o := 9) rfl rfl).trans rfl)
  have g5 : hp_fl h_1 (hp_fd 2 4) (k + 8) = .int 0 := F1.fl (show k + 8 < hp_nx h by omega) _ ((kt_fl (f := (hp_fd 2 4)) (o := 8) rfl rfl).trans rfl)
  have i0 : hp_is G h_1 (k + 0) 5 := F1.is (sh.o 0 (by decide) rfl)
  have i7 : hp_is G h_1 (k + 7) 14 := F1.is (sh.o 7 (by decide) rfl)
  have i8 : hp_is G h_1 (k + 8) 2 := F1.is (sh.o 8 (by decide) rfl)
  have i9 : hp_is G h_1 (k + 9) 0 := F1.is (sh.o 9 (by decide) rfl)
  have lq : vp_in 1 (hp_ln h_1 (k + 7)) := by rw [F1.ln (show k + 7 < hp_nx h by omega), sh.l (o := 7) (by decide) rfl]; unfold vp_in; decide
  refine hp_callV (ci := 5) C ml_X5_72 im_X5_join se_X5_join rfl (by decide) (kc_joIK (h := h_1) (k := k + 0) (q := k + 7) (r := k + 9) (v := hp_nx h) (u := k + 8) (i := 1) (mc := 0) (md := 1) (d := d - 1) i0 i7 lq i8 i9 iA g1 eN g3 g4 f0 f1 f2 ⟨by omega, by omega⟩ (by omega)) (by omega) dX5_keeper_56 i0 rfl rfl (by simp [Value.category]) (fun v_1 h_2 hp => ?_) (fun _ _ hf => hf.elim)
  obtain ⟨rfl, hB⟩ := hp
  have F2 : hp_fg (k + 12) (kt_w G h k kt_s0) h_2 := by rw [hB]; exact FK.join (by omega) (by omega) (by omega)
  have j8 : hp_is G h_2 (k + 8) 2 := by rw [hB]; exact i8.mkA 3 10 .null
  have jA : hp_is G h_2 (hp_nx h) 2 := by rw [hB]; exact iA.mkA 3 10 .null
  have g6 : hp_fl h_2 (hp_fd 2 4) (k + 8) = .int 0 := by rw [hB]; exact g5
  have eM : hp_fl h_2 (hp_fd 2 0) (hp_nx h) = .int 1 := by rw [hB]; exact eN
  have n_2 : hp_nx h_2 = hp_nx h_1 + 1 := by rw [hB]; rfl
  have s_2 : hp_sl h_2 = hp_sl h_1 + 10 := by rw [hB]; rfl
  clear hB
  refine hp_aloadR C dX5_keeper_59 rfl ?_
  refine hp_get (v := .int 0) C fl_X5_45_2 dX5_keeper_61 j8 g6 ?_
  refine hp_iconst (v := 1) C dX5_keeper_64 (by decide) ?_
  refine hp_icmp_ne (tgt := 78) C dX5_keeper_65 (by decide) (fun _ => ?_) (fun z_9 => absurd z_9 (by decide))
  refine hp_aloadR C dX5_keeper_78 rfl ?_
  refine hp_get (v := .int 1) C fl_X5_80_2 dX5_keeper_80 jA eM ?_
  refine hp_iret C hr rfl dX5_keeper_83 ?_
  exact ⟨by simp only [ktc_ke, kt_sq, *, if_true, if_false], rfl, F2.1, (show hp_nx h_2 ≤ hp_nx h + 10 by omega), (show hp_sl h_2 ≤ hp_sl h + 100 by omega), F2.2⟩
set_option maxRecDepth 20000 in
set_option maxHeartbeats 4000000 in
theorem ktp_worker {l : Launch} {G : hpG} {h : hpT} {k d : Nat} (sh : kt_sh G h k) (rm : hp_nx h + 100 ≤ hp_n0 G + hp_LC ∧ hp_sl h + 20000 ≤ hp_LS) {n b p s e f : Int32} (hd : 12 ≤ d) : hp_C l G yX5_worker (.code yX5_worker cX5_worker 9 (some .int)) d [.ref k, .int n, .int b, .int p, .int s, .int e, .int f] (kt_w G h k kt_s0) (fun v h' => ktc_wo n b p s e f = 0 ∧ v = some (.int 1) ∧ hp_frm (k + 12) (kt_w G h k kt_s0) h') (kt_X (ktc_wo n b p s e f) (kt_w G h k kt_s0)) := by
  refine hp_ofV (by decide) (by simp [Value.category]) (Nat.le_of_ble_eq_true rfl) (fun M C hr hx el => ?_)
  refine hp_aload_nR C dX5_worker_0 rfl ?_
  refine hp_iload_n C dX5_worker_1 rfl ?_
  refine hp_callV (ci := 5) C ml_X5_61 im_X5_keeperAt se_X5_keeperAt rfl (by decide) (ktm_ke (d := d - 1) sh rm (by omega)) (by omega) dX5_worker_2 (sh.o 0 (by decide) rfl) rfl rfl (by simp [Value.category]) (fun v_1 h_1 hp => ?_) (fun E_1 h_1 hq => hp_out C hx (kt_to hq (fun q_9 => by simp only [ktc_wo, kt_sq, if_true, if_false, *])))
  obtain ⟨e_2, rfl, rfl⟩ := hp
  refine hp_astore (r := some _) C dX5_worker_5 (by decide) ?_
  refine hp_iload_n C dX5_worker_7 rfl ?_
  refine hp_iconst (v := 0) C dX5_worker_8 (by decide) ?_
  refine hp_iconst (v := 2) C dX5_worker_9 (by decide) ?_
  refine hp_callS C ml_X5_65 sm_X5_wantWithin (ktm_in (d := d - 1) (by omega) rm) (by omega) dX5_worker_10 rfl rfl (by simp [Value.category]) (fun v_1 h_1 hp => ?_) (fun E_1 h_1 hq => hp_out C hx (kt_to hq (fun q_9 => by simp only [ktc_wo, kt_sq, if_true, if_false, *])))
  obtain ⟨e_10, rfl, rfl⟩ := hp
  refine hp_iload_n C dX5_worker_13 rfl ?_
  refine hp_iconst (v := (-1)) C dX5_worker_14 (by decide) ?_
  refine hp_sipush (v := 1000) C dX5_worker_15 (by decide) ?_
  refine hp_callS C ml_X5_65 sm_X5_wantWithin (ktm_in (d := d - 1) (by omega) rm) (by omega) dX5_worker_18 rfl rfl (by simp [Value.category]) (fun v_1 h_1 hp => ?_) (fun E_1 h_1 hq => hp_out C hx (kt_to hq (fun q_9 => by simp only [ktc_wo, kt_sq, if_true, if_false, *])))
  obtain ⟨e_18, rfl, rfl⟩ := hp
  refine hp_iload C dX5_worker_21 rfl ?_
  refine hp_iconst (v := 0) C dX5_worker_23 (by decide) ?_
  refine hp_bipush (v := 100) C dX5_worker_24 (by decide) ?_
  refine hp_callS C ml_X5_65 sm_X5_wantWithin (ktm_in (d := d - 1) (by omega) rm) (by omega) dX5_worker_26 rfl rfl (by simp [Value.category]) (fun v_1 h_1 hp => ?_) (fun E_1 h_1 hq => hp_out C hx (kt_to hq (fun q_9 => by simp only [ktc_wo, kt_sq, if_true, if_false, *])))
  obtain ⟨e_26, rfl, rfl⟩ := hp
  refine hp_iload C dX5_worker_29 rfl ?_
  refine hp_iconst (v := 0) C dX5_worker_31 (by decide) ?_
  refine hp_bipush (v := 100) C dX5_worker_32 (by decide) ?_
  refine hp_callS C ml_X5_65 sm_X5_wantWithin (ktm_in (d := d - 1) (by omega) rm) (by omega) dX5_worker_34 rfl rfl (by simp [Value.category]) (fun v_1 h_1 hp => ?_) (fun E_1 h_1 hq => hp_out C hx (kt_to hq (fun q_9 => by simp only [ktc_wo, kt_sq, if_true, if_false, *])))
  obtain ⟨e_34, rfl, rfl⟩ := hp
  refine hp_iload C dX5_worker_37 rfl ?_
  refine hp_iconst (v := 0) C dX5_worker_39 (by decide) ?_
  refine hp_bipush (v := 50) C dX5_worker_40 (by decide) ?_
  refine hp_callS C ml_X5_65 sm_X5_wantWithin (ktm_in (d := d - 1) (by omega) rm) (by omega) dX5_worker_42 rfl rfl (by simp [Value.category]) (fun v_1 h_1 hp => ?_) (fun E_1 h_1 hq => hp_out C hx (kt_to hq (fun q_9 => by simp only [ktc_wo, kt_sq, if_true, if_false, *])))
  obtain ⟨e_42, rfl, rfl⟩ := hp
  refine hp_aload_nR C dX5_worker_45 rfl ?_
  refine hp_aloadR C dX5_worker_46 rfl ?_
  refine hp_callV (ci := 5) C ml_X5_68 im_X5_hasRoomBelow se_X5_hasRoomBelow rfl (by decide) (ktm_ro (d := d - 1) sh rm) (by omega) dX5_worker_48 (sh.o 0 (by decide) rfl) rfl rfl (by simp [Value.category]) (fun v_1 h_1 hp => ?_) (fun E_1 h_1 hq => hp_out C hx (kt_to hq (fun q_9 => absurd rfl q_9)))
  obtain ⟨e_48, rfl, rfl⟩ := hp
  refine hp_callS C ml_X5_48 sm_X5_wantState (ktm_st (d := d - 1) (by omega) rm) (by omega) dX5_worker_51 rfl rfl (by simp [Value.category]) (fun v_1 h_1 hp => ?_) (fun E_1 h_1 hq => hp_out C hx (kt_to hq (fun q_9 => absurd (by decide) q_9)))
  obtain ⟨e_51, rfl, rfl⟩ := hp
  have hn : hp_n0 G ≤ hp_nx h := Nat.le_trans sh.1 (by have := sh.2.1; omega)
  have hkn : k + 12 ≤ hp_nx h := sh.2.1
  have r1 := rm.1
  have r2 := rm.2
  refine hp_new C nl_X5_83 dX5_worker_54 (by have q1 := rm.1; have q2 := rm.2; simp only [kt_w, hp_nx, hp_sl] at *; omega) (by have q1 := rm.1; have q2 := rm.2; simp only [kt_w, hp_nx, hp_sl] at *; omega) ?_
  have F0 : hp_fg 0 (kt_w G h k kt_s0) (hp_mk (kt_w G h k kt_s0) 4 9) := hp_fg.rf.mk 4 9
  have iN : hp_is G (hp_mk (kt_w G h k kt_s0) 4 9) (hp_nx h) 4 := hp_isN (h := kt_w G h k kt_s0) hn 4 9
  have n_0 : hp_nx (hp_mk (kt_w G h k kt_s0) 4 9) = hp_nx h + 1 := rfl
  have s_0 : hp_sl (hp_mk (kt_w G h k kt_s0) 4 9) = hp_sl h + 9 := rfl
  generalize hp_mk (kt_w G h k kt_s0) 4 9 = A0 at F0 iN n_0 s_0 ⊢
  refine hp_dup C dX5_worker_57 rfl ?_
  refine hp_aload_nR C dX5_worker_58 rfl ?_
  refine hp_get (v := .int 1) C fl_X5_31_5 dX5_worker_59 (F0.is (sh.o 0 (by decide) rfl)) (F0.fl (v := .int 1) (show k + 0 < hp_nx h by omega) (hp_fd 5 3) ((kt_fl (f := hp_fd 5 3) (o := 0) rfl rfl).trans rfl)) ?_
  refine hp_aloadR C dX5_worker_62 rfl ?_
  refine hp_iload_n C dX5_worker_64 rfl ?_
  refine hp_iload_n C dX5_worker_65 rfl ?_
  refine hp_iload C dX5_worker_66 rfl ?_
  refine hp_iload C dX5_worker_68 rfl ?_
  refine hp_iload C dX5_worker_70 rfl ?_
  refine hp_callI C ml_X5_85 im_X4_init rfl (kc_woJ (d := d - 1) (dp := 0) (by omega) iN (F0.is (sh.o 8 (by decide) rfl)) (F0.fl (v := .int 0) (show k + 8 < hp_nx h by omega) (hp_fd 2 2) ((kt_fl (f := hp_fd 2 2) (o := 8) rfl rfl).trans rfl))) (by omega) dX5_worker_72 rfl rfl (by simp [Value.category]) (fun v_1 h_1 hp => ?_)
  obtain ⟨rfl, hA⟩ := hp
  have F1 : hp_fg 0 (kt_w G h k kt_s0) h_1 := by rw [hA]; exact F0.work 1 (some (k + 8)) (0 + 1) b p s e f (Nat.le_refl _)
  have iA : hp_is G h_1 (hp_nx h) 4 := by rw [hA]; exact iN
  have eN : hp_fl h_1 (hp_fd 4 0) (hp_nx h) = .int 1 := by rw [hA]; exact kc_Work_num
  have n_1 : hp_nx h_1 = hp_nx A0 + 0 := by rw [hA]; rfl
  have s_1 : hp_sl h_1 = hp_sl A0 + 0 := by rw [hA]; rfl
  clear hA
  have FK : hp_fg (k + 12) (kt_w G h k kt_s0) h_1 := F1.up
  refine hp_astore (r := some _) C dX5_worker_75 (by decide) ?_
  refine hp_aload_nR C dX5_worker_77 rfl ?_
  refine hp_aloadR C dX5_worker_78 rfl ?_
  refine hp_aloadR C dX5_worker_80 rfl ?_
  have g1 : hp_fl h_1 (hp_fd 5 1) (k + 0) = .ref (k + 7) := F1.fl (show k + 0 < hp_nx h by omega) _ ((kt_fl (f := (hp_fd 5 1)) (o := 0) rfl rfl).trans rfl)
  have g3 : hp_fl h_1 (hp_fd 2 5) (k + 8) = .ref (k + 9) := F1.fl (show k + 8 < hp_nx h by omega) _ ((kt_fl (f := (hp_fd 2 5)) (o := 8) rfl rfl).trans rfl)
  have g4 : hp_fl h_1 (hp_fd 5 3) (k + 0) = .int 1 := F1.fl (show k + 0 < hp_nx h by omega) _ ((kt_fl (f := (hp_fd 5 3)) (o := 0) rfl rfl).trans rfl)
  have f0 : hp_fl h_1 (hp_fd 0 0) (k + 9) = .int 0 := F1.fl (show k + 9 < hp_nx h by omega) _ ((kt_fl (f := (hp_fd 0 0)) (o := 9) rfl rfl).trans rfl)
  have f1 : hp_fl h_1 (hp_fd 0 1) (k + 9) = .ref (hp_dE G) := F1.fl (show k + 9 < hp_nx h by omega) _ ((kt_fl (f := (hp_fd 0 1)) (o := 9) rfl rfl).trans rfl)
  have f2 : hp_fl h_1 (hp_fd 0 2) (k + 9) = .int 0 := F1.fl (show k + 9 < hp_nx h by omega) _ ((kt_fl (f := (hp_fd 0 2)) (o := 9) rfl rfl).trans rfl)
  have g5 : hp_fl h_1 (hp_fd 2 4) (k + 8) = .int 0 := F1.fl (show k + 8 < hp_nx h by omega) _ ((kt_fl (f := (hp_fd 2 4)) (o := 8) rfl rfl).trans rfl)
  have i0 : hp_is G h_1 (k + 0) 5 := F1.is (sh.o 0 (by decide) rfl)
  have i7 : hp_is G h_1 (k + 7) 14 := F1.is (sh.o 7 (by decide) rfl)
  have i8 : hp_is G h_1 (k + 8) 2 := F1.is (sh.o 8 (by decide) rfl)
  have i9 : hp_is G h_1 (k + 9) 0 := F1.is (sh.o 9 (by decide) rfl)
  have lq : vp_in 1 (hp_ln h_1 (k + 7)) := by rw [F1.ln (show k + 7 < hp_nx h by omega), sh.l (o := 7) (by decide) rfl]; unfold vp_in; decide
  refine hp_callV (ci := 5) C ml_X5_72 im_X5_join se_X5_join rfl (by decide) (kc_joIW (h := h_1) (k := k + 0) (q := k + 7) (r := k + 9) (v := hp_nx h) (u := k + 8) (i := 1) (mc := 0) (md := 1) (d := d - 1) i0 i7 lq i8 i9 iA g1 eN g3 g4 f0 f1 f2 ⟨by omega, by omega⟩ (by omega)) (by omega) dX5_worker_82 i0 rfl rfl (by simp [Value.category]) (fun v_1 h_2 hp => ?_) (fun _ _ hf => hf.elim)
  obtain ⟨rfl, hB⟩ := hp
  have F2 : hp_fg (k + 12) (kt_w G h k kt_s0) h_2 := by rw [hB]; exact FK.join (by omega) (by omega) (by omega)
  have j8 : hp_is G h_2 (k + 8) 2 := by rw [hB]; exact i8.mkA 3 10 .null
  have jA : hp_is G h_2 (hp_nx h) 4 := by rw [hB]; exact iA.mkA 3 10 .null
  have g6 : hp_fl h_2 (hp_fd 2 4) (k + 8) = .int 0 := by rw [hB]; exact g5
  have eM : hp_fl h_2 (hp_fd 4 0) (hp_nx h) = .int 1 := by rw [hB]; exact eN
  have n_2 : hp_nx h_2 = hp_nx h_1 + 1 := by rw [hB]; rfl
  have s_2 : hp_sl h_2 = hp_sl h_1 + 10 := by rw [hB]; rfl
  clear hB
  refine hp_aloadR C dX5_worker_85 rfl ?_
  refine hp_get (v := .int 0) C fl_X5_45_2 dX5_worker_87 j8 g6 ?_
  refine hp_iconst (v := 1) C dX5_worker_90 (by decide) ?_
  refine hp_icmp_ne (tgt := 120) C dX5_worker_91 (by decide) (fun _ => ?_) (fun z_9 => absurd z_9 (by decide))
  refine hp_aloadR C dX5_worker_120 rfl ?_
  refine hp_get (v := .int 1) C fl_X5_93_4 dX5_worker_122 jA eM ?_
  refine hp_iret C hr rfl dX5_worker_125 ?_
  exact ⟨by simp only [ktc_wo, kt_sq, *, if_true, if_false], rfl, F2.1, (show hp_nx h_2 ≤ hp_nx h + 10 by omega), (show hp_sl h_2 ≤ hp_sl h + 100 by omega), F2.2⟩
