/-! ===== the reference: keeper, worker ===== -/
theorem a_add_R {a : aS} (T : a_T a) (AR : a_R a) {p : Nat} {v : Nat → Int} (hp : p < a_mk a) (hk : a_nd a 0 p = 1) (h3 : ¬ a_nd a 3 p = 2) (v1 : v 1 = p) (v3 : v 3 = 0) : a_R (a_add p v a) := by
  obtain ⟨x1, x2, x3, x4, x5⟩ := AR
  have m1 := T.1.1
  have hpn : p ≠ a_mk a := by omega
  have en : ∀ f n, a_nd (a_add p v a) f n = if n = a_mk a then v f else a_nd a f n := fun f n => rfl
  have em : a_mk (a_add p v a) = a_mk a + 1 := rfl
  have er : ∀ n, a_rw (a_add p v a) n = if n = p then a_rw a p ++ [a_mk a] else if n = a_mk a then [] else a_rw a n := fun n => by
    show va_up (va_up (a_rw a) (a_mk a) []) p (a_rw a p ++ [a_mk a]) n = _
    by_cases e : n = p
    · rw [e, va_up_self, if_pos rfl]
    · rw [va_up_ne _ _ e, if_neg e]
      by_cases e2 : n = a_mk a
      · rw [e2, va_up_self, if_pos rfl]
      · rw [va_up_ne _ _ e2, if_neg e2]
  refine ⟨by rw [en, if_neg (by omega)]; exact x1, by rw [en, if_neg (by omega)]; exact x2, fun n hn h0 h2 => ?_, fun n c hn hc h2 => ?_, fun n hn h8 => ?_⟩
  · by_cases e : n = a_mk a
    · have ep : a_pa (a_add p v a) n = p := by
        show (a_nd (a_add p v a) 1 n).toNat = p
        rw [en, if_pos e, v1]
        rfl
      rw [ep, er, if_pos rfl, en, if_neg hpn, en, if_neg hpn]
      exact ⟨List.mem_append_right _ (by rw [e]; exact List.mem_singleton.mpr rfl), hk, h3⟩
    · have hn' : n < a_mk a := by rw [em] at hn; omega
      rw [en, if_neg e] at h2
      obtain ⟨q1, q2, q3⟩ := x3 n hn' h0 h2
      have r1 := T.r1 hn' h0
      have ep : a_pa (a_add p v a) n = a_pa a n := by
        show (a_nd (a_add p v a) 1 n).toNat = (a_nd a 1 n).toNat
        rw [en, if_neg e]
      have hpa : a_pa a n ≠ a_mk a := by
        have : a_pa a n = (a_nd a 1 n).toNat := rfl
        omega
      have en0 : a_nd (a_add p v a) 0 (a_pa a n) = a_nd a 0 (a_pa a n) := by rw [en, if_neg hpa]
      have en3 : a_nd (a_add p v a) 3 (a_pa a n) = a_nd a 3 (a_pa a n) := by rw [en, if_neg hpa]
      rw [ep, en0, en3, er]
      refine ⟨?_, q2, q3⟩
      by_cases e2 : a_pa a n = p
      · rw [if_pos e2]
        rw [e2] at q1
        exact List.mem_append_left _ q1
      · rw [if_neg e2, if_neg hpa]
        exact q1
  · rw [er] at hc
    rw [en] at h2 ⊢
    by_cases ec : c = a_mk a
    · rw [if_pos ec, v3]
      decide
    · rw [if_neg ec]
      by_cases e : n = p
      · rw [if_pos e] at hc
        rw [if_neg (by omega)] at h2
        rcases List.mem_append.mp hc with q | q
        · exact x4 p c hp q h3
        · exact absurd (List.mem_singleton.mp q) ec
      · rw [if_neg e] at hc
        by_cases e2 : n = a_mk a
        · rw [if_pos e2] at hc; cases hc
        · rw [if_neg e2] at hc h2
          exact x4 n c (by rw [em] at hn; omega) hc h2
  · rw [em] at hn
    obtain ⟨q1, q2, q3⟩ := x5 n (by omega) h8
    refine ⟨fun f hf => by rw [en, if_neg (by omega)]; exact q1 f hf, by rw [er, if_neg (by omega), if_neg (by omega)]; exact q2, ?_⟩
    show va_up (a_rt a) (a_mk a) [] n = []
    rw [va_up_ne _ _ (by omega)]
    exact q3
theorem a_add_W {a : aS} (W : a_W a) {p : Nat} {v : Nat → Int} : a_W (a_add p v a) := fun n hn hw => by
  show va_up (a_rt a) (a_mk a) [] n = []
  by_cases e : n = a_mk a
  · rw [e, va_up_self]
  · rw [va_up_ne _ _ e]
    have hw' : (if n = a_mk a then v 0 else a_nd a 0 n) = 0 := hw
    rw [if_neg e] at hw'
    have hn' : n < a_mk a + 1 := hn
    exact W n (by omega) hw'
theorem a_v0K (p : Nat) (dp kn sg r t : Int) : va_up (va_up (va_up (a_v0 p 1 dp kn) 5 sg) 6 r) 7 t = a_vK p dp kn sg r t := by
  funext f
  unfold a_vK va_up a_v0
  split
  · next e => subst e; rfl
  · split
    · next e => subst e; rfl
    · split
      · next e => subst e; rfl
      · next h7 h6 h5 =>
        split
        · rfl
        · split
          · rfl
          · split
            · rfl
            · split
              · rfl
              · rfl
theorem a_v0W (p : Nat) (dp kn pa st sp fa : Int) : va_up (va_up (va_up (va_up (a_v0 p 0 dp kn) 8 pa) 9 st) 10 sp) 11 fa = a_vW p dp kn pa st sp fa := by
  funext f
  unfold a_vW va_up a_v0
  split
  · next e => subst e; rfl
  · split
    · next e => subst e; rfl
    · split
      · next e => subst e; rfl
      · split
        · next e => subst e; rfl
        · next h11 h10 h9 h8 =>
          split
          · next e => subst e; rfl
          · split
            · rfl
            · split
              · rfl
              · split
                · rfl
                · rfl
set_option maxRecDepth 20000 in
set_option maxHeartbeats 4000000 in
theorem mp_keeperX {l : Launch} {G : hpG} {h H : hpT} {m d : Nat} {a : aS} {z : mrZ} (sh : mo_sh G h m) (R : MR h m H a z) (T : a_T a) {x kn sg r t : Int32} (hb : ∀ n, n < a_mk a → x = nI n → a_nd a 0 n = 1 → a_nd a 3 n = 2) (hd : 7 ≤ d) : hp_C l G yX6_keeper (.code yX6_keeper cX6_keeper 8 (some .int)) d [.ref m, .int x, .int kn, .int sg, .int r, .int t] (H) (fun v h' => v = some (.int 0) ∧ MR h m h' a (z.1, z.2.1, 1, z.2.2.2)) (fun _ _ => False) := by
  refine hp_ofV (by decide) (by simp [Value.category]) (Nat.le_of_ble_eq_true rfl) (fun M C hr hx el => ?_)
  refine hp_aload_nR C dX6_keeper_0 rfl ?_
  refine hp_iload_n C dX6_keeper_1 rfl ?_
  refine hp_callV (ci := 6) C ml_X6_128 im_X6_isKeeper se_X6_isKeeper rfl (by decide) (mc_isKn (d := d - 1) sh R T hb (by omega)) (by omega) dX6_keeper_2 (R.o sh) rfl rfl (by simp [Value.category]) (fun v_2 h_2 hp => ?_) (fun _ _ hf => hf.elim)
  obtain ⟨rfl, R_2⟩ := hp
  refine hp_if_eq (tgt := 32) C dX6_keeper_5 (by decide) (fun _ => ?_) (fun z_9 => absurd z_9 (by decide))
  refine hp_iconst (v := 0) C dX6_keeper_32 (by decide) ?_
  refine hp_istore C dX6_keeper_33 (by decide) ?_
  refine hp_aload_nR C dX6_keeper_35 rfl ?_
  refine hp_iload C dX6_keeper_36 rfl ?_
  refine hp_if_ne (tgt := 45) C dX6_keeper_38 (by decide) (fun z_9 => absurd z_9 (by decide)) (fun _ => ?_)
  refine hp_iconst (v := 1) C dX6_keeper_41 (by decide) ?_
  refine hp_goto (tgt := 70) C dX6_keeper_42 (by decide) ?_
  refine hp_callV (ci := 6) C ml_X6_125 im_X6_refuses se_X6_refuses rfl (by decide) (mc_refu (d := d - 1) (c := 1) (r := 1) sh R_2 (by decide)) (by omega) dX6_keeper_70 (R_2.o sh) rfl rfl (by simp [Value.category]) (fun v_70 h_70 hp => ?_) (fun _ _ hf => hf.elim)
  obtain ⟨rfl, R_70⟩ := hp
  refine hp_if_eq (tgt := 78) C dX6_keeper_73 (by decide) (fun z_9 => absurd z_9 (by decide)) (fun _ => ?_)
  refine hp_iconst (v := 0) C dX6_keeper_76 (by decide) ?_
  refine hp_iret C hr rfl dX6_keeper_77 ?_
  exact ⟨rfl, R_70⟩
set_option maxRecDepth 20000 in
set_option maxHeartbeats 4000000 in
theorem mp_keeperY {l : Launch} {G : hpG} {h H : hpT} {m d : Nat} {a : aS} {z : mrZ} (sh : mo_sh G h m) (R : MR h m H a z) {p : Nat} (T : a_T a) (hn : p < a_mk a) (h3 : ¬ a_nd a 3 p = 2) (hk : a_nd a 0 p = 1) {kn sg r t : Int32} (hz : ¬ ((0 ≤ kn.toInt ∧ kn.toInt ≤ 2) ∧ ((0 ≤ sg.toInt ∧ sg.toInt ≤ 2) ∧ (0 ≤ r.toInt ∧ r.toInt ≤ 50) ∧ (1 ≤ t.toInt ∧ t.toInt ≤ 1000)))) (hd : 7 ≤ d) : hp_C l G yX6_keeper (.code yX6_keeper cX6_keeper 8 (some .int)) d [.ref m, .int (nI p), .int kn, .int sg, .int r, .int t] (H) (fun v h' => v = some (.int 0) ∧ MR h m h' a (z.1, z.2.1, 1, z.2.2.2)) (fun _ _ => False) := by
  have hn8 : p < 80 := Nat.lt_of_lt_of_le hn T.1.2
  have r3 := T.r3 hn
  have r2 := T.r2 hn
  have m80 := T.1.2
  refine hp_ofV (by decide) (by simp [Value.category]) (Nat.le_of_ble_eq_true rfl) (fun M C hr hx el => ?_)
  by_cases hg : 0 ≤ kn.toInt ∧ kn.toInt ≤ 2
  · have hb : ¬ ((0 ≤ sg.toInt ∧ sg.toInt ≤ 2) ∧ (0 ≤ r.toInt ∧ r.toInt ≤ 50) ∧ (1 ≤ t.toInt ∧ t.toInt ≤ 1000)) := fun c => hz ⟨hg, c⟩
    refine hp_aload_nR C dX6_keeper_0 rfl ?_
    refine hp_iload_n C dX6_keeper_1 rfl ?_
    refine hp_callV (ci := 6) C ml_X6_128 im_X6_isKeeper se_X6_isKeeper rfl (by decide) (mc_isKy (d := d - 1) sh R hn h3 hk (by omega)) (by omega) dX6_keeper_2 (R.o sh) rfl rfl (by simp [Value.category]) (fun v_2 h_2 hp => ?_) (fun _ _ hf => hf.elim)
    obtain ⟨rfl, R_2⟩ := hp
    refine hp_if_eq (tgt := 32) C dX6_keeper_5 (by decide) (fun z_9 => absurd z_9 (by decide)) (fun _ => ?_)
    refine hp_iload_n C dX6_keeper_8 rfl ?_
    refine hp_iconst (v := 0) C dX6_keeper_9 (by decide) ?_
    refine hp_iconst (v := 2) C dX6_keeper_10 (by decide) ?_
    refine hp_callS C ml_X6_118 sm_X6_in (mc_inY (d := d - 1) (by decide) (by decide) hg) (by omega) dX6_keeper_11 rfl rfl (by simp [Value.category]) (fun v_11 h_11 hp => ?_) (fun _ _ hf => hf.elim)
    obtain ⟨rfl, rfl⟩ := hp
    refine hp_if_eq (tgt := 32) C dX6_keeper_14 (by decide) (fun z_9 => absurd z_9 (by decide)) (fun _ => ?_)
    refine hp_iload_n C dX6_keeper_17 rfl ?_
    refine hp_iload C dX6_keeper_18 rfl ?_
    refine hp_iload C dX6_keeper_20 rfl ?_
    refine hp_callS C ml_X6_122 sm_X6_isKeeping (mc_kpN (d := d - 1) hb (by omega)) (by omega) dX6_keeper_22 rfl rfl (by simp [Value.category]) (fun v_22 h_22 hp => ?_) (fun _ _ hf => hf.elim)
    obtain ⟨rfl, rfl⟩ := hp
    refine hp_if_eq (tgt := 32) C dX6_keeper_25 (by decide) (fun _ => ?_) (fun z_9 => absurd z_9 (by decide))
    refine hp_iconst (v := 0) C dX6_keeper_32 (by decide) ?_
    refine hp_istore C dX6_keeper_33 (by decide) ?_
    refine hp_aload_nR C dX6_keeper_35 rfl ?_
    refine hp_iload C dX6_keeper_36 rfl ?_
    refine hp_if_ne (tgt := 45) C dX6_keeper_38 (by decide) (fun z_9 => absurd z_9 (by decide)) (fun _ => ?_)
    refine hp_iconst (v := 1) C dX6_keeper_41 (by decide) ?_
    refine hp_goto (tgt := 70) C dX6_keeper_42 (by decide) ?_
    refine hp_callV (ci := 6) C ml_X6_125 im_X6_refuses se_X6_refuses rfl (by decide) (mc_refu (d := d - 1) (c := 1) (r := 1) sh R_2 (by decide)) (by omega) dX6_keeper_70 (R_2.o sh) rfl rfl (by simp [Value.category]) (fun v_70 h_70 hp => ?_) (fun _ _ hf => hf.elim)
    obtain ⟨rfl, R_70⟩ := hp
    refine hp_if_eq (tgt := 78) C dX6_keeper_73 (by decide) (fun z_9 => absurd z_9 (by decide)) (fun _ => ?_)
    refine hp_iconst (v := 0) C dX6_keeper_76 (by decide) ?_
    refine hp_iret C hr rfl dX6_keeper_77 ?_
    exact ⟨rfl, R_70⟩
  · refine hp_aload_nR C dX6_keeper_0 rfl ?_
    refine hp_iload_n C dX6_keeper_1 rfl ?_
    refine hp_callV (ci := 6) C ml_X6_128 im_X6_isKeeper se_X6_isKeeper rfl (by decide) (mc_isKy (d := d - 1) sh R hn h3 hk (by omega)) (by omega) dX6_keeper_2 (R.o sh) rfl rfl (by simp [Value.category]) (fun v_2 h_2 hp => ?_) (fun _ _ hf => hf.elim)
    obtain ⟨rfl, R_2⟩ := hp
    refine hp_if_eq (tgt := 32) C dX6_keeper_5 (by decide) (fun z_9 => absurd z_9 (by decide)) (fun _ => ?_)
    refine hp_iload_n C dX6_keeper_8 rfl ?_
    refine hp_iconst (v := 0) C dX6_keeper_9 (by decide) ?_
    refine hp_iconst (v := 2) C dX6_keeper_10 (by decide) ?_
    refine hp_callS C ml_X6_118 sm_X6_in (mc_inN (d := d - 1) (by decide) (by decide) hg) (by omega) dX6_keeper_11 rfl rfl (by simp [Value.category]) (fun v_11 h_11 hp => ?_) (fun _ _ hf => hf.elim)
    obtain ⟨rfl, rfl⟩ := hp
    refine hp_if_eq (tgt := 32) C dX6_keeper_14 (by decide) (fun _ => ?_) (fun z_9 => absurd z_9 (by decide))
    refine hp_iconst (v := 0) C dX6_keeper_32 (by decide) ?_
    refine hp_istore C dX6_keeper_33 (by decide) ?_
    refine hp_aload_nR C dX6_keeper_35 rfl ?_
    refine hp_iload C dX6_keeper_36 rfl ?_
    refine hp_if_ne (tgt := 45) C dX6_keeper_38 (by decide) (fun z_9 => absurd z_9 (by decide)) (fun _ => ?_)
    refine hp_iconst (v := 1) C dX6_keeper_41 (by decide) ?_
    refine hp_goto (tgt := 70) C dX6_keeper_42 (by decide) ?_
    refine hp_callV (ci := 6) C ml_X6_125 im_X6_refuses se_X6_refuses rfl (by decide) (mc_refu (d := d - 1) (c := 1) (r := 1) sh R_2 (by decide)) (by omega) dX6_keeper_70 (R_2.o sh) rfl rfl (by simp [Value.category]) (fun v_70 h_70 hp => ?_) (fun _ _ hf => hf.elim)
    obtain ⟨rfl, R_70⟩ := hp
    refine hp_if_eq (tgt := 78) C dX6_keeper_73 (by decide) (fun z_9 => absurd z_9 (by decide)) (fun _ => ?_)
    refine hp_iconst (v := 0) C dX6_keeper_76 (by decide) ?_
    refine hp_iret C hr rfl dX6_keeper_77 ?_
    exact ⟨rfl, R_70⟩
set_option maxRecDepth 20000 in
set_option maxHeartbeats 4000000 in
theorem mp_keeperS {l : Launch} {G : hpG} {h H : hpT} {m d : Nat} {a : aS} {z : mrZ} (sh : mo_sh G h m) (R : MR h m H a z) {p : Nat} (T : a_T a) (hn : p < a_mk a) (h3 : ¬ a_nd a 3 p = 2) (hk : a_nd a 0 p = 1) {kn sg r t : Int32} (hg : 0 ≤ kn.toInt ∧ kn.toInt ≤ 2) (hb : ((0 ≤ sg.toInt ∧ sg.toInt ≤ 2) ∧ (0 ≤ r.toInt ∧ r.toInt ≤ 50) ∧ (1 ≤ t.toInt ∧ t.toInt ≤ 1000))) (hro : ¬ (a_mk a < 80 ∧ a_nd a 2 p < 8)) (hd : 7 ≤ d) : hp_C l G yX6_keeper (.code yX6_keeper cX6_keeper 8 (some .int)) d [.ref m, .int (nI p), .int kn, .int sg, .int r, .int t] (H) (fun v h' => v = some (.int 0) ∧ MR h m h' a (z.1, z.2.1, 2, z.2.2.2)) (fun _ _ => False) := by
  have hn8 : p < 80 := Nat.lt_of_lt_of_le hn T.1.2
  have r3 := T.r3 hn
  have r2 := T.r2 hn
  have m80 := T.1.2
  refine hp_ofV (by decide) (by simp [Value.category]) (Nat.le_of_ble_eq_true rfl) (fun M C hr hx el => ?_)
  by_cases e80 : a_mk a = 80
  · refine hp_aload_nR C dX6_keeper_0 rfl ?_
    refine hp_iload_n C dX6_keeper_1 rfl ?_
    refine hp_callV (ci := 6) C ml_X6_128 im_X6_isKeeper se_X6_isKeeper rfl (by decide) (mc_isKy (d := d - 1) sh R hn h3 hk (by omega)) (by omega) dX6_keeper_2 (R.o sh) rfl rfl (by simp [Value.category]) (fun v_2 h_2 hp => ?_) (fun _ _ hf => hf.elim)
    obtain ⟨rfl, R_2⟩ := hp
    refine hp_if_eq (tgt := 32) C dX6_keeper_5 (by decide) (fun z_9 => absurd z_9 (by decide)) (fun _ => ?_)
    refine hp_iload_n C dX6_keeper_8 rfl ?_
    refine hp_iconst (v := 0) C dX6_keeper_9 (by decide) ?_
    refine hp_iconst (v := 2) C dX6_keeper_10 (by decide) ?_
    refine hp_callS C ml_X6_118 sm_X6_in (mc_inY (d := d - 1) (by decide) (by decide) hg) (by omega) dX6_keeper_11 rfl rfl (by simp [Value.category]) (fun v_11 h_11 hp => ?_) (fun _ _ hf => hf.elim)
    obtain ⟨rfl, rfl⟩ := hp
    refine hp_if_eq (tgt := 32) C dX6_keeper_14 (by decide) (fun z_9 => absurd z_9 (by decide)) (fun _ => ?_)
    refine hp_iload_n C dX6_keeper_17 rfl ?_
    refine hp_iload C dX6_keeper_18 rfl ?_
    refine hp_iload C dX6_keeper_20 rfl ?_
    refine hp_callS C ml_X6_122 sm_X6_isKeeping (mc_kpY (d := d - 1) hb (by omega)) (by omega) dX6_keeper_22 rfl rfl (by simp [Value.category]) (fun v_22 h_22 hp => ?_) (fun _ _ hf => hf.elim)
    obtain ⟨rfl, rfl⟩ := hp
    refine hp_if_eq (tgt := 32) C dX6_keeper_25 (by decide) (fun z_9 => absurd z_9 (by decide)) (fun _ => ?_)
    refine hp_iconst (v := 1) C dX6_keeper_28 (by decide) ?_
    refine hp_goto (tgt := 33) C dX6_keeper_29 (by decide) ?_
    refine hp_istore C dX6_keeper_33 (by decide) ?_
    refine hp_aload_nR C dX6_keeper_35 rfl ?_
    refine hp_iload C dX6_keeper_36 rfl ?_
    refine hp_if_ne (tgt := 45) C dX6_keeper_38 (by decide) (fun _ => ?_) (fun z_9 => absurd z_9 (by decide))
    refine hp_aload_nR C dX6_keeper_45 rfl ?_
    refine mr_S C sh R_2 fl_X6_68_6 (Or.inr (Or.inl ⟨rfl, rfl⟩)) dX6_keeper_46 ?_
    refine hp_bipush (v := 80) C dX6_keeper_49 (by decide) ?_
    refine hp_icmp_eq (tgt := 65) C dX6_keeper_51 (by decide) (fun _ => ?_) (fun z_9 => absurd (by show nI (a_mk a) = 80; rw [e80]; rfl) z_9)
    refine hp_iconst (v := 2) C dX6_keeper_65 (by decide) ?_
    refine hp_goto (tgt := 70) C dX6_keeper_66 (by decide) ?_
    refine hp_callV (ci := 6) C ml_X6_125 im_X6_refuses se_X6_refuses rfl (by decide) (mc_refu (d := d - 1) (c := 2) (r := 1) sh R_2 (by decide)) (by omega) dX6_keeper_70 (R_2.o sh) rfl rfl (by simp [Value.category]) (fun v_70 h_70 hp => ?_) (fun _ _ hf => hf.elim)
    obtain ⟨rfl, R_70⟩ := hp
    refine hp_if_eq (tgt := 78) C dX6_keeper_73 (by decide) (fun z_9 => absurd z_9 (by decide)) (fun _ => ?_)
    refine hp_iconst (v := 0) C dX6_keeper_76 (by decide) ?_
    refine hp_iret C hr rfl dX6_keeper_77 ?_
    exact ⟨rfl, R_70⟩
  · have e8 : a_nd a 2 p = 8 := by omega
    refine hp_aload_nR C dX6_keeper_0 rfl ?_
    refine hp_iload_n C dX6_keeper_1 rfl ?_
    refine hp_callV (ci := 6) C ml_X6_128 im_X6_isKeeper se_X6_isKeeper rfl (by decide) (mc_isKy (d := d - 1) sh R hn h3 hk (by omega)) (by omega) dX6_keeper_2 (R.o sh) rfl rfl (by simp [Value.category]) (fun v_2 h_2 hp => ?_) (fun _ _ hf => hf.elim)
    obtain ⟨rfl, R_2⟩ := hp
    refine hp_if_eq (tgt := 32) C dX6_keeper_5 (by decide) (fun z_9 => absurd z_9 (by decide)) (fun _ => ?_)
    refine hp_iload_n C dX6_keeper_8 rfl ?_
    refine hp_iconst (v := 0) C dX6_keeper_9 (by decide) ?_
    refine hp_iconst (v := 2) C dX6_keeper_10 (by decide) ?_
    refine hp_callS C ml_X6_118 sm_X6_in (mc_inY (d := d - 1) (by decide) (by decide) hg) (by omega) dX6_keeper_11 rfl rfl (by simp [Value.category]) (fun v_11 h_11 hp => ?_) (fun _ _ hf => hf.elim)
    obtain ⟨rfl, rfl⟩ := hp
    refine hp_if_eq (tgt := 32) C dX6_keeper_14 (by decide) (fun z_9 => absurd z_9 (by decide)) (fun _ => ?_)
    refine hp_iload_n C dX6_keeper_17 rfl ?_
    refine hp_iload C dX6_keeper_18 rfl ?_
    refine hp_iload C dX6_keeper_20 rfl ?_
    refine hp_callS C ml_X6_122 sm_X6_isKeeping (mc_kpY (d := d - 1) hb (by omega)) (by omega) dX6_keeper_22 rfl rfl (by simp [Value.category]) (fun v_22 h_22 hp => ?_) (fun _ _ hf => hf.elim)
    obtain ⟨rfl, rfl⟩ := hp
    refine hp_if_eq (tgt := 32) C dX6_keeper_25 (by decide) (fun z_9 => absurd z_9 (by decide)) (fun _ => ?_)
    refine hp_iconst (v := 1) C dX6_keeper_28 (by decide) ?_
    refine hp_goto (tgt := 33) C dX6_keeper_29 (by decide) ?_
    refine hp_istore C dX6_keeper_33 (by decide) ?_
    refine hp_aload_nR C dX6_keeper_35 rfl ?_
    refine hp_iload C dX6_keeper_36 rfl ?_
    refine hp_if_ne (tgt := 45) C dX6_keeper_38 (by decide) (fun _ => ?_) (fun z_9 => absurd z_9 (by decide))
    refine hp_aload_nR C dX6_keeper_45 rfl ?_
    refine mr_S C sh R_2 fl_X6_68_6 (Or.inr (Or.inl ⟨rfl, rfl⟩)) dX6_keeper_46 ?_
    refine hp_bipush (v := 80) C dX6_keeper_49 (by decide) ?_
    refine hp_icmp_eq (tgt := 65) C dX6_keeper_51 (by decide) (fun z_9 => absurd z_9 (fun q => e80 ((nI_eq (b := 80) (by omega) (by omega)).mp q))) (fun _ => ?_)
    refine hp_aload_nR C dX6_keeper_54 rfl ?_
    refine mr_A C sh R_2 fl_X6_17_6 rfl (by decide) dX6_keeper_55 ?_
    refine hp_iload_n C dX6_keeper_58 rfl ?_
    refine mr_nd C sh R_2 4 2 (by decide) (by decide) rfl hn8 dX6_keeper_59 ?_
    refine hp_bipush (v := 8) C dX6_keeper_60 (by decide) ?_
    refine hp_icmp_ne (tgt := 69) C dX6_keeper_62 (by decide) (fun z_9 => absurd z_9 (fun q => q (by show Int32.ofInt (a_nd a 2 p) = 8; rw [e8]; decide))) (fun _ => ?_)
    refine hp_iconst (v := 2) C dX6_keeper_65 (by decide) ?_
    refine hp_goto (tgt := 70) C dX6_keeper_66 (by decide) ?_
    refine hp_callV (ci := 6) C ml_X6_125 im_X6_refuses se_X6_refuses rfl (by decide) (mc_refu (d := d - 1) (c := 2) (r := 1) sh R_2 (by decide)) (by omega) dX6_keeper_70 (R_2.o sh) rfl rfl (by simp [Value.category]) (fun v_70 h_70 hp => ?_) (fun _ _ hf => hf.elim)
    obtain ⟨rfl, R_70⟩ := hp
    refine hp_if_eq (tgt := 78) C dX6_keeper_73 (by decide) (fun z_9 => absurd z_9 (by decide)) (fun _ => ?_)
    refine hp_iconst (v := 0) C dX6_keeper_76 (by decide) ?_
    refine hp_iret C hr rfl dX6_keeper_77 ?_
    exact ⟨rfl, R_70⟩
set_option maxRecDepth 20000 in
set_option maxHeartbeats 4000000 in
theorem mp_keeper {l : Launch} {G : hpG} {h H : hpT} {m d : Nat} {a : aS} {z : mrZ} (sh : mo_sh G h m) (R : MR h m H a z) {p : Nat} (I : a_I a) (hn : p < a_mk a) (h3 : ¬ a_nd a 3 p = 2) (hk : a_nd a 0 p = 1) {kn sg r t : Int32} (hg : 0 ≤ kn.toInt ∧ kn.toInt ≤ 2) (hb : ((0 ≤ sg.toInt ∧ sg.toInt ≤ 2) ∧ (0 ≤ r.toInt ∧ r.toInt ≤ 50) ∧ (1 ≤ t.toInt ∧ t.toInt ≤ 1000))) (hro : a_mk a < 80 ∧ a_nd a 2 p < 8) (hv : (a_ev (a_kpr p (a_vK p (a_nd a 2 p) kn.toInt sg.toInt r.toInt t.toInt) a)).length < 2 ^ 30) (hd : 7 ≤ d) : hp_C l G yX6_keeper (.code yX6_keeper cX6_keeper 8 (some .int)) d [.ref m, .int (nI p), .int kn, .int sg, .int r, .int t] (H) (fun v h' => v = some (.int (nI (a_mk a))) ∧ ∃ z', MR h m h' (a_kpr p (a_vK p (a_nd a 2 p) kn.toInt sg.toInt r.toInt t.toInt) a) z' ∧ z'.2.2 = (0, z.2.2.2)) (fun _ _ => False) := by
  have T := I.1
  have hn8 : p < 80 := Nat.lt_of_lt_of_le hn T.1.2
  have r3 := T.r3 hn
  have r2 := T.r2 hn
  have m80 := T.1.2
  have e80 : ¬ a_mk a = 80 := by omega
  have e8 : ¬ a_nd a 2 p = 8 := by omega
  have hm8 : a_mk a < 80 := hro.1
  have hpn : p ≠ a_mk a := by omega
  refine hp_ofV (by decide) (by simp [Value.category]) (Nat.le_of_ble_eq_true rfl) (fun M C hr hx el => ?_)
  refine hp_aload_nR C dX6_keeper_0 rfl ?_
  refine hp_iload_n C dX6_keeper_1 rfl ?_
  refine hp_callV (ci := 6) C ml_X6_128 im_X6_isKeeper se_X6_isKeeper rfl (by decide) (mc_isKy (d := d - 1) sh R hn h3 hk (by omega)) (by omega) dX6_keeper_2 (R.o sh) rfl rfl (by simp [Value.category]) (fun v_2 h_2 hp => ?_) (fun _ _ hf => hf.elim)
  obtain ⟨rfl, R_2⟩ := hp
  refine hp_if_eq (tgt := 32) C dX6_keeper_5 (by decide) (fun z_9 => absurd z_9 (by decide)) (fun _ => ?_)
  refine hp_iload_n C dX6_keeper_8 rfl ?_
  refine hp_iconst (v := 0) C dX6_keeper_9 (by decide) ?_
  refine hp_iconst (v := 2) C dX6_keeper_10 (by decide) ?_
  refine hp_callS C ml_X6_118 sm_X6_in (mc_inY (d := d - 1) (by decide) (by decide) hg) (by omega) dX6_keeper_11 rfl rfl (by simp [Value.category]) (fun v_11 h_11 hp => ?_) (fun _ _ hf => hf.elim)
  obtain ⟨rfl, rfl⟩ := hp
  refine hp_if_eq (tgt := 32) C dX6_keeper_14 (by decide) (fun z_9 => absurd z_9 (by decide)) (fun _ => ?_)
  refine hp_iload_n C dX6_keeper_17 rfl ?_
  refine hp_iload C dX6_keeper_18 rfl ?_
  refine hp_iload C dX6_keeper_20 rfl ?_
  refine hp_callS C ml_X6_122 sm_X6_isKeeping (mc_kpY (d := d - 1) hb (by omega)) (by omega) dX6_keeper_22 rfl rfl (by simp [Value.category]) (fun v_22 h_22 hp => ?_) (fun _ _ hf => hf.elim)
  obtain ⟨rfl, rfl⟩ := hp
  refine hp_if_eq (tgt := 32) C dX6_keeper_25 (by decide) (fun z_9 => absurd z_9 (by decide)) (fun _ => ?_)
  refine hp_iconst (v := 1) C dX6_keeper_28 (by decide) ?_
  refine hp_goto (tgt := 33) C dX6_keeper_29 (by decide) ?_
  refine hp_istore C dX6_keeper_33 (by decide) ?_
  refine hp_aload_nR C dX6_keeper_35 rfl ?_
  refine hp_iload C dX6_keeper_36 rfl ?_
  refine hp_if_ne (tgt := 45) C dX6_keeper_38 (by decide) (fun _ => ?_) (fun z_9 => absurd z_9 (by decide))
  refine hp_aload_nR C dX6_keeper_45 rfl ?_
  refine mr_S C sh R_2 fl_X6_68_6 (Or.inr (Or.inl ⟨rfl, rfl⟩)) dX6_keeper_46 ?_
  refine hp_bipush (v := 80) C dX6_keeper_49 (by decide) ?_
  refine hp_icmp_eq (tgt := 65) C dX6_keeper_51 (by decide) (fun z_9 => absurd z_9 (fun q => e80 ((nI_eq (b := 80) (by omega) (by omega)).mp q))) (fun _ => ?_)
  refine hp_aload_nR C dX6_keeper_54 rfl ?_
  refine mr_A C sh R_2 fl_X6_17_6 rfl (by decide) dX6_keeper_55 ?_
  refine hp_iload_n C dX6_keeper_58 rfl ?_
  refine mr_nd C sh R_2 4 2 (by decide) (by decide) rfl hn8 dX6_keeper_59 ?_
  refine hp_bipush (v := 8) C dX6_keeper_60 (by decide) ?_
  refine hp_icmp_ne (tgt := 69) C dX6_keeper_62 (by decide) (fun _ => ?_) (fun z_9 => absurd z_9 (fun q => e8 ((a_ofI_eq (x := a_nd a 2 p) (y := 8) (by omega) (by omega)).mp q)))
  refine hp_iconst (v := 0) C dX6_keeper_69 (by decide) ?_
  refine hp_callV (ci := 6) C ml_X6_125 im_X6_refuses se_X6_refuses rfl (by decide) (mc_refu (d := d - 1) (c := 0) (r := 0) sh R_2 (by decide)) (by omega) dX6_keeper_70 (R_2.o sh) rfl rfl (by simp [Value.category]) (fun v_70 h_70 hp => ?_) (fun _ _ hf => hf.elim)
  obtain ⟨rfl, R_70⟩ := hp
  refine hp_if_eq (tgt := 78) C dX6_keeper_73 (by decide) (fun _ => ?_) (fun z_9 => absurd z_9 (by decide))
  refine hp_aload_nR C dX6_keeper_78 rfl ?_
  refine hp_iload_n C dX6_keeper_79 rfl ?_
  refine hp_iload_n C dX6_keeper_80 rfl ?_
  refine hp_iconst (v := 1) C dX6_keeper_81 (by decide) ?_
  refine hp_callV (ci := 6) C ml_X6_131 im_X6_child se_X6_child rfl (by decide) (mc_chi (d := d - 1) (kn := kn.toInt) (k := 1) sh R_70 T I.2.1 hn hm8 (Or.inr rfl) hg (k_i32 kn)) (by omega) dX6_keeper_82 (R_70.o sh) rfl rfl (by simp [Value.category]) (fun v_82 h_82 hp => ?_) (fun _ _ hf => hf.elim)
  obtain ⟨rfl, R_82⟩ := hp
  refine hp_istore C dX6_keeper_85 (by decide) ?_
  refine hp_aload_nR C dX6_keeper_87 rfl ?_
  refine mr_A C sh R_82 fl_X6_26_6 rfl (by decide) dX6_keeper_88 ?_
  refine hp_iload C dX6_keeper_91 rfl ?_
  refine hp_iload_n C dX6_keeper_93 rfl ?_
  refine ms_sn C sh R_82 7 5 (by decide) (by decide) (by decide) (by decide) rfl hm8 sg.toInt (by omega) (k_i32 sg) dX6_keeper_94 (fun H_94 R_94 => ?_)
  refine hp_aload_nR C dX6_keeper_95 rfl ?_
  refine mr_A C sh R_94 fl_X6_29_6 rfl (by decide) dX6_keeper_96 ?_
  refine hp_iload C dX6_keeper_99 rfl ?_
  refine hp_iload C dX6_keeper_101 rfl ?_
  refine ms_sn C sh R_94 8 6 (by decide) (by decide) (by decide) (by decide) rfl hm8 r.toInt (by omega) (k_i32 r) dX6_keeper_103 (fun H_103 R_103 => ?_)
  refine hp_aload_nR C dX6_keeper_104 rfl ?_
  refine mr_A C sh R_103 fl_X6_32_6 rfl (by decide) dX6_keeper_105 ?_
  refine hp_iload C dX6_keeper_108 rfl ?_
  refine hp_iload C dX6_keeper_110 rfl ?_
  refine ms_s7 C sh R_103 hm8 t.toInt (by omega) (show ¬ a_nd (a_sn (a_sn (a_add p (a_v0 p (1 : Int32).toInt (a_nd a 2 p) kn.toInt) a) 5 (a_mk a) sg.toInt) 6 (a_mk a) r.toInt) 3 (a_mk a) = 1 from by rw [a_add_sn, a_add_sn]; show ¬ (if a_mk a = a_mk a then _ else _) = (1 : Int); rw [if_pos rfl]; show ¬ (0 : Int) = 1; decide) (k_i32 t) dX6_keeper_112 (fun H_112 R_112 => ?_)
  rw [a_add_sn, a_add_sn, a_add_sn, show (1 : Int32).toInt = 1 by decide, a_v0K] at R_112
  have e3 : a_nd (a_add p (a_vK p (a_nd a 2 p) kn.toInt sg.toInt r.toInt t.toInt) a) 3 p = a_nd a 3 p := if_neg hpn
  refine hp_aload_nR C dX6_keeper_113 rfl ?_
  refine mr_A C sh R_112 fl_X6_20_6 rfl (by decide) dX6_keeper_114 ?_
  refine hp_iload_n C dX6_keeper_117 rfl ?_
  refine mr_nd C sh R_112 5 3 (by decide) (by decide) rfl hn8 dX6_keeper_118 ?_
  refine hp_iconst (v := 1) C dX6_keeper_119 (by decide) ?_
  refine hp_icmp_ne (tgt := 130) C dX6_keeper_120 (by decide) (fun c_120 => ?_) (fun c_120 => ?_)
  · refine hp_iload C dX6_keeper_130 rfl ?_
    refine hp_iret C hr rfl dX6_keeper_132 ?_
    have hu : ¬ a_nd a 3 p = 1 := fun e => c_120 (by rw [e3, e]; decide)
    have ek : a_kpr p (a_vK p (a_nd a 2 p) kn.toInt sg.toInt r.toInt t.toInt) a = a_add p (a_vK p (a_nd a 2 p) kn.toInt sg.toInt r.toInt t.toInt) a := by unfold a_kpr; rw [if_neg hu]
    rw [ek]
    exact ⟨rfl, _, R_112, rfl⟩
  · have h9 : (9 : Int) ≤ (a_fu (a_add p (a_vK p (a_nd a 2 p) kn.toInt sg.toInt r.toInt t.toInt) a) (a_mk a) : Nat) + a_nd (a_add p (a_vK p (a_nd a 2 p) kn.toInt sg.toInt r.toInt t.toInt) a) 2 (a_mk a) := by
      have ed : a_nd (a_add p (a_vK p (a_nd a 2 p) kn.toInt sg.toInt r.toInt t.toInt) a) 2 (a_mk a) = a_nd a 2 p + 1 := if_pos rfl
      show (9 : Int) ≤ ((9 - a_nd (a_add p (a_vK p (a_nd a 2 p) kn.toInt sg.toInt r.toInt t.toInt) a) 2 (a_mk a)).toNat : Nat) + a_nd (a_add p (a_vK p (a_nd a 2 p) kn.toInt sg.toInt r.toInt t.toInt) a) 2 (a_mk a)
      omega
    have hu : a_nd a 3 p = 1 := by
      have q := c_120
      rw [e3] at q
      exact (a_ofI_eq (x := a_nd a 3 p) (y := 1) (by omega) (by omega)).mp q
    have ek : a_kpr p (a_vK p (a_nd a 2 p) kn.toInt sg.toInt r.toInt t.toInt) a = (a_go (a_fu (a_add p (a_vK p (a_nd a 2 p) kn.toInt sg.toInt r.toInt t.toInt) a) (a_mk a)) (a_mk a) (a_add p (a_vK p (a_nd a 2 p) kn.toInt sg.toInt r.toInt t.toInt) a)).2 := by unfold a_kpr; rw [if_pos hu]
    rw [ek] at hv ⊢
    refine hp_aload_nR C dX6_keeper_123 rfl ?_
    refine hp_iload C dX6_keeper_124 rfl ?_
    refine hp_callV (ci := 6) C ml_X6_115 im_X6_starts se_X6_starts rfl (by decide) (mc_sta (d := d - 1) (f := a_fu (a_add p (a_vK p (a_nd a 2 p) kn.toInt sg.toInt r.toInt t.toInt) a) (a_mk a)) (n := a_mk a) sh R_112 (a_add_T T hn hk hm8 hro.2 (v := (a_vK p (a_nd a 2 p) kn.toInt sg.toInt r.toInt t.toInt)) (Or.inr rfl) rfl rfl rfl hg hb.1 hb.2.1 (show 0 ≤ t.toInt ∧ t.toInt ≤ 1000 by omega) (show (-1 : Int) ≤ 0 ∧ (0 : Int) ≤ 1000 by omega) (show (0 : Int) ≤ 0 ∧ (0 : Int) ≤ 100 by omega) (show (0 : Int) ≤ 0 ∧ (0 : Int) ≤ 100 by omega) (show (0 : Int) ≤ 0 ∧ (0 : Int) ≤ 50 by omega)) (a_add_W I.2.2.1) (Nat.lt_succ_self _) h9 hv (by omega)) (by omega) dX6_keeper_126 (R_112.o sh) rfl rfl (by simp [Value.category]) (fun v_126 h_126 hp => ?_) (fun _ _ hf => hf.elim)
    obtain ⟨rfl, z1, R_126, g1⟩ := hp
    refine hp_pop C dX6_keeper_129 rfl ?_
    refine hp_iload C dX6_keeper_130 rfl ?_
    refine hp_iret C hr rfl dX6_keeper_132 ?_
    exact ⟨rfl, z1, R_126, g1⟩
set_option maxRecDepth 20000 in
set_option maxHeartbeats 4000000 in
theorem mp_workerX {l : Launch} {G : hpG} {h H : hpT} {m d : Nat} {a : aS} {z : mrZ} (sh : mo_sh G h m) (R : MR h m H a z) (T : a_T a) {x kn pa st sp fa : Int32} (hb : ∀ n, n < a_mk a → x = nI n → a_nd a 0 n = 1 → a_nd a 3 n = 2) (hd : 7 ≤ d) : hp_C l G yX6_worker (.code yX6_worker cX6_worker 9 (some .int)) d [.ref m, .int x, .int kn, .int pa, .int st, .int sp, .int fa] (H) (fun v h' => v = some (.int 0) ∧ MR h m h' a (z.1, z.2.1, 1, z.2.2.2)) (fun _ _ => False) := by
  refine hp_ofV (by decide) (by simp [Value.category]) (Nat.le_of_ble_eq_true rfl) (fun M C hr hx el => ?_)
  refine hp_aload_nR C dX6_worker_0 rfl ?_
  refine hp_iload_n C dX6_worker_1 rfl ?_
  refine hp_callV (ci := 6) C ml_X6_128 im_X6_isKeeper se_X6_isKeeper rfl (by decide) (mc_isKn (d := d - 1) sh R T hb (by omega)) (by omega) dX6_worker_2 (R.o sh) rfl rfl (by simp [Value.category]) (fun v_2 h_2 hp => ?_) (fun _ _ hf => hf.elim)
  obtain ⟨rfl, R_2⟩ := hp
  refine hp_if_eq (tgt := 65) C dX6_worker_5 (by decide) (fun _ => ?_) (fun z_9 => absurd z_9 (by decide))
  refine hp_iconst (v := 0) C dX6_worker_65 (by decide) ?_
  refine hp_istore C dX6_worker_66 (by decide) ?_
  refine hp_aload_nR C dX6_worker_68 rfl ?_
  refine hp_iload C dX6_worker_69 rfl ?_
  refine hp_if_ne (tgt := 78) C dX6_worker_71 (by decide) (fun z_9 => absurd z_9 (by decide)) (fun _ => ?_)
  refine hp_iconst (v := 1) C dX6_worker_74 (by decide) ?_
  refine hp_goto (tgt := 103) C dX6_worker_75 (by decide) ?_
  refine hp_callV (ci := 6) C ml_X6_125 im_X6_refuses se_X6_refuses rfl (by decide) (mc_refu (d := d - 1) (c := 1) (r := 1) sh R_2 (by decide)) (by omega) dX6_worker_103 (R_2.o sh) rfl rfl (by simp [Value.category]) (fun v_103 h_103 hp => ?_) (fun _ _ hf => hf.elim)
  obtain ⟨rfl, R_103⟩ := hp
  refine hp_if_eq (tgt := 111) C dX6_worker_106 (by decide) (fun z_9 => absurd z_9 (by decide)) (fun _ => ?_)
  refine hp_iconst (v := 0) C dX6_worker_109 (by decide) ?_
  refine hp_iret C hr rfl dX6_worker_110 ?_
  exact ⟨rfl, R_103⟩
set_option maxRecDepth 20000 in
set_option maxHeartbeats 4000000 in
theorem mp_workerY {l : Launch} {G : hpG} {h H : hpT} {m d : Nat} {a : aS} {z : mrZ} (sh : mo_sh G h m) (R : MR h m H a z) {p : Nat} (T : a_T a) (hn : p < a_mk a) (h3 : ¬ a_nd a 3 p = 2) (hk : a_nd a 0 p = 1) {kn pa st sp fa : Int32} (hz : ¬ ((0 ≤ kn.toInt ∧ kn.toInt ≤ 2) ∧ (-1 ≤ pa.toInt ∧ pa.toInt ≤ 1000) ∧ (0 ≤ st.toInt ∧ st.toInt ≤ 100) ∧ (0 ≤ sp.toInt ∧ sp.toInt ≤ 100) ∧ (0 ≤ fa.toInt ∧ fa.toInt ≤ 50))) (hd : 7 ≤ d) : hp_C l G yX6_worker (.code yX6_worker cX6_worker 9 (some .int)) d [.ref m, .int (nI p), .int kn, .int pa, .int st, .int sp, .int fa] (H) (fun v h' => v = some (.int 0) ∧ MR h m h' a (z.1, z.2.1, 1, z.2.2.2)) (fun _ _ => False) := by
  have hn8 : p < 80 := Nat.lt_of_lt_of_le hn T.1.2
  have r3 := T.r3 hn
  have r2 := T.r2 hn
  have m80 := T.1.2
  refine hp_ofV (by decide) (by simp [Value.category]) (Nat.le_of_ble_eq_true rfl) (fun M C hr hx el => ?_)
  by_cases g0 : 0 ≤ kn.toInt ∧ kn.toInt ≤ 2
  case neg =>
    refine hp_aload_nR C dX6_worker_0 rfl ?_
    refine hp_iload_n C dX6_worker_1 rfl ?_
    refine hp_callV (ci := 6) C ml_X6_128 im_X6_isKeeper se_X6_isKeeper rfl (by decide) (mc_isKy (d := d - 1) sh R hn h3 hk (by omega)) (by omega) dX6_worker_2 (R.o sh) rfl rfl (by simp [Value.category]) (fun v_2 h_2 hp => ?_) (fun _ _ hf => hf.elim)
    obtain ⟨rfl, R_2⟩ := hp
    refine hp_if_eq (tgt := 65) C dX6_worker_5 (by decide) (fun z_9 => absurd z_9 (by decide)) (fun _ => ?_)
    refine hp_iload_n C dX6_worker_8 rfl ?_
    refine hp_iconst (v := 0) C dX6_worker_9 (by decide) ?_
    refine hp_iconst (v := 2) C dX6_worker_10 (by decide) ?_
    refine hp_callS C ml_X6_118 sm_X6_in (mc_inN (d := d - 1) (by decide) (by decide) g0) (by omega) dX6_worker_11 rfl rfl (by simp [Value.category]) (fun v_11 h_11 hp => ?_) (fun _ _ hf => hf.elim)
    obtain ⟨rfl, rfl⟩ := hp
    refine hp_if_eq (tgt := 65) C dX6_worker_14 (by decide) (fun _ => ?_) (fun z_9 => absurd z_9 (by decide))
    refine hp_iconst (v := 0) C dX6_worker_65 (by decide) ?_
    refine hp_istore C dX6_worker_66 (by decide) ?_
    refine hp_aload_nR C dX6_worker_68 rfl ?_
    refine hp_iload C dX6_worker_69 rfl ?_
    refine hp_if_ne (tgt := 78) C dX6_worker_71 (by decide) (fun z_9 => absurd z_9 (by decide)) (fun _ => ?_)
    refine hp_iconst (v := 1) C dX6_worker_74 (by decide) ?_
    refine hp_goto (tgt := 103) C dX6_worker_75 (by decide) ?_
    refine hp_callV (ci := 6) C ml_X6_125 im_X6_refuses se_X6_refuses rfl (by decide) (mc_refu (d := d - 1) (c := 1) (r := 1) sh R_2 (by decide)) (by omega) dX6_worker_103 (R_2.o sh) rfl rfl (by simp [Value.category]) (fun v_103 h_103 hp => ?_) (fun _ _ hf => hf.elim)
    obtain ⟨rfl, R_103⟩ := hp
    refine hp_if_eq (tgt := 111) C dX6_worker_106 (by decide) (fun z_9 => absurd z_9 (by decide)) (fun _ => ?_)
    refine hp_iconst (v := 0) C dX6_worker_109 (by decide) ?_
    refine hp_iret C hr rfl dX6_worker_110 ?_
    exact ⟨rfl, R_103⟩
  by_cases g1 : -1 ≤ pa.toInt ∧ pa.toInt ≤ 1000
  case neg =>
    refine hp_aload_nR C dX6_worker_0 rfl ?_
    refine hp_iload_n C dX6_worker_1 rfl ?_
    refine hp_callV (ci := 6) C ml_X6_128 im_X6_isKeeper se_X6_isKeeper rfl (by decide) (mc_isKy (d := d - 1) sh R hn h3 hk (by omega)) (by omega) dX6_worker_2 (R.o sh) rfl rfl (by simp [Value.category]) (fun v_2 h_2 hp => ?_) (fun _ _ hf => hf.elim)
    obtain ⟨rfl, R_2⟩ := hp
    refine hp_if_eq (tgt := 65) C dX6_worker_5 (by decide) (fun z_9 => absurd z_9 (by decide)) (fun _ => ?_)
    refine hp_iload_n C dX6_worker_8 rfl ?_
    refine hp_iconst (v := 0) C dX6_worker_9 (by decide) ?_
    refine hp_iconst (v := 2) C dX6_worker_10 (by decide) ?_
    refine hp_callS C ml_X6_118 sm_X6_in (mc_inY (d := d - 1) (by decide) (by decide) g0) (by omega) dX6_worker_11 rfl rfl (by simp [Value.category]) (fun v_11 h_11 hp => ?_) (fun _ _ hf => hf.elim)
    obtain ⟨rfl, rfl⟩ := hp
    refine hp_if_eq (tgt := 65) C dX6_worker_14 (by decide) (fun z_9 => absurd z_9 (by decide)) (fun _ => ?_)
    refine hp_iload_n C dX6_worker_17 rfl ?_
    refine hp_iconst (v := (-1)) C dX6_worker_18 (by decide) ?_
    refine hp_sipush (v := 1000) C dX6_worker_19 (by decide) ?_
    refine hp_callS C ml_X6_118 sm_X6_in (mc_inN (d := d - 1) (by decide) (by decide) g1) (by omega) dX6_worker_22 rfl rfl (by simp [Value.category]) (fun v_22 h_22 hp => ?_) (fun _ _ hf => hf.elim)
    obtain ⟨rfl, rfl⟩ := hp
    refine hp_if_eq (tgt := 65) C dX6_worker_25 (by decide) (fun _ => ?_) (fun z_9 => absurd z_9 (by decide))
    refine hp_iconst (v := 0) C dX6_worker_65 (by decide) ?_
    refine hp_istore C dX6_worker_66 (by decide) ?_
    refine hp_aload_nR C dX6_worker_68 rfl ?_
    refine hp_iload C dX6_worker_69 rfl ?_
    refine hp_if_ne (tgt := 78) C dX6_worker_71 (by decide) (fun z_9 => absurd z_9 (by decide)) (fun _ => ?_)
    refine hp_iconst (v := 1) C dX6_worker_74 (by decide) ?_
    refine hp_goto (tgt := 103) C dX6_worker_75 (by decide) ?_
    refine hp_callV (ci := 6) C ml_X6_125 im_X6_refuses se_X6_refuses rfl (by decide) (mc_refu (d := d - 1) (c := 1) (r := 1) sh R_2 (by decide)) (by omega) dX6_worker_103 (R_2.o sh) rfl rfl (by simp [Value.category]) (fun v_103 h_103 hp => ?_) (fun _ _ hf => hf.elim)
    obtain ⟨rfl, R_103⟩ := hp
    refine hp_if_eq (tgt := 111) C dX6_worker_106 (by decide) (fun z_9 => absurd z_9 (by decide)) (fun _ => ?_)
    refine hp_iconst (v := 0) C dX6_worker_109 (by decide) ?_
    refine hp_iret C hr rfl dX6_worker_110 ?_
    exact ⟨rfl, R_103⟩
  by_cases g2 : 0 ≤ st.toInt ∧ st.toInt ≤ 100
  case neg =>
    refine hp_aload_nR C dX6_worker_0 rfl ?_
    refine hp_iload_n C dX6_worker_1 rfl ?_
    refine hp_callV (ci := 6) C ml_X6_128 im_X6_isKeeper se_X6_isKeeper rfl (by decide) (mc_isKy (d := d - 1) sh R hn h3 hk (by omega)) (by omega) dX6_worker_2 (R.o sh) rfl rfl (by simp [Value.category]) (fun v_2 h_2 hp => ?_) (fun _ _ hf => hf.elim)
    obtain ⟨rfl, R_2⟩ := hp
    refine hp_if_eq (tgt := 65) C dX6_worker_5 (by decide) (fun z_9 => absurd z_9 (by decide)) (fun _ => ?_)
    refine hp_iload_n C dX6_worker_8 rfl ?_
    refine hp_iconst (v := 0) C dX6_worker_9 (by decide) ?_
    refine hp_iconst (v := 2) C dX6_worker_10 (by decide) ?_
    refine hp_callS C ml_X6_118 sm_X6_in (mc_inY (d := d - 1) (by decide) (by decide) g0) (by omega) dX6_worker_11 rfl rfl (by simp [Value.category]) (fun v_11 h_11 hp => ?_) (fun _ _ hf => hf.elim)
    obtain ⟨rfl, rfl⟩ := hp
    refine hp_if_eq (tgt := 65) C dX6_worker_14 (by decide) (fun z_9 => absurd z_9 (by decide)) (fun _ => ?_)
    refine hp_iload_n C dX6_worker_17 rfl ?_
    refine hp_iconst (v := (-1)) C dX6_worker_18 (by decide) ?_
    refine hp_sipush (v := 1000) C dX6_worker_19 (by decide) ?_
    refine hp_callS C ml_X6_118 sm_X6_in (mc_inY (d := d - 1) (by decide) (by decide) g1) (by omega) dX6_worker_22 rfl rfl (by simp [Value.category]) (fun v_22 h_22 hp => ?_) (fun _ _ hf => hf.elim)
    obtain ⟨rfl, rfl⟩ := hp
    refine hp_if_eq (tgt := 65) C dX6_worker_25 (by decide) (fun z_9 => absurd z_9 (by decide)) (fun _ => ?_)
    refine hp_iload C dX6_worker_28 rfl ?_
    refine hp_iconst (v := 0) C dX6_worker_30 (by decide) ?_
    refine hp_bipush (v := 100) C dX6_worker_31 (by decide) ?_
    refine hp_callS C ml_X6_118 sm_X6_in (mc_inN (d := d - 1) (by decide) (by decide) g2) (by omega) dX6_worker_33 rfl rfl (by simp [Value.category]) (fun v_33 h_33 hp => ?_) (fun _ _ hf => hf.elim)
    obtain ⟨rfl, rfl⟩ := hp
    refine hp_if_eq (tgt := 65) C dX6_worker_36 (by decide) (fun _ => ?_) (fun z_9 => absurd z_9 (by decide))
    refine hp_iconst (v := 0) C dX6_worker_65 (by decide) ?_
    refine hp_istore C dX6_worker_66 (by decide) ?_
    refine hp_aload_nR C dX6_worker_68 rfl ?_
    refine hp_iload C dX6_worker_69 rfl ?_
    refine hp_if_ne (tgt := 78) C dX6_worker_71 (by decide) (fun z_9 => absurd z_9 (by decide)) (fun _ => ?_)
    refine hp_iconst (v := 1) C dX6_worker_74 (by decide) ?_
    refine hp_goto (tgt := 103) C dX6_worker_75 (by decide) ?_
    refine hp_callV (ci := 6) C ml_X6_125 im_X6_refuses se_X6_refuses rfl (by decide) (mc_refu (d := d - 1) (c := 1) (r := 1) sh R_2 (by decide)) (by omega) dX6_worker_103 (R_2.o sh) rfl rfl (by simp [Value.category]) (fun v_103 h_103 hp => ?_) (fun _ _ hf => hf.elim)
    obtain ⟨rfl, R_103⟩ := hp
    refine hp_if_eq (tgt := 111) C dX6_worker_106 (by decide) (fun z_9 => absurd z_9 (by decide)) (fun _ => ?_)
    refine hp_iconst (v := 0) C dX6_worker_109 (by decide) ?_
    refine hp_iret C hr rfl dX6_worker_110 ?_
    exact ⟨rfl, R_103⟩
  by_cases g3 : 0 ≤ sp.toInt ∧ sp.toInt ≤ 100
  case neg =>
    refine hp_aload_nR C dX6_worker_0 rfl ?_
    refine hp_iload_n C dX6_worker_1 rfl ?_
    refine hp_callV (ci := 6) C ml_X6_128 im_X6_isKeeper se_X6_isKeeper rfl (by decide) (mc_isKy (d := d - 1) sh R hn h3 hk (by omega)) (by omega) dX6_worker_2 (R.o sh) rfl rfl (by simp [Value.category]) (fun v_2 h_2 hp => ?_) (fun _ _ hf => hf.elim)
    obtain ⟨rfl, R_2⟩ := hp
    refine hp_if_eq (tgt := 65) C dX6_worker_5 (by decide) (fun z_9 => absurd z_9 (by decide)) (fun _ => ?_)
    refine hp_iload_n C dX6_worker_8 rfl ?_
    refine hp_iconst (v := 0) C dX6_worker_9 (by decide) ?_
    refine hp_iconst (v := 2) C dX6_worker_10 (by decide) ?_
    refine hp_callS C ml_X6_118 sm_X6_in (mc_inY (d := d - 1) (by decide) (by decide) g0) (by omega) dX6_worker_11 rfl rfl (by simp [Value.category]) (fun v_11 h_11 hp => ?_) (fun _ _ hf => hf.elim)
    obtain ⟨rfl, rfl⟩ := hp
    refine hp_if_eq (tgt := 65) C dX6_worker_14 (by decide) (fun z_9 => absurd z_9 (by decide)) (fun _ => ?_)
    refine hp_iload_n C dX6_worker_17 rfl ?_
    refine hp_iconst (v := (-1)) C dX6_worker_18 (by decide) ?_
    refine hp_sipush (v := 1000) C dX6_worker_19 (by decide) ?_
    refine hp_callS C ml_X6_118 sm_X6_in (mc_inY (d := d - 1) (by decide) (by decide) g1) (by omega) dX6_worker_22 rfl rfl (by simp [Value.category]) (fun v_22 h_22 hp => ?_) (fun _ _ hf => hf.elim)
    obtain ⟨rfl, rfl⟩ := hp
    refine hp_if_eq (tgt := 65) C dX6_worker_25 (by decide) (fun z_9 => absurd z_9 (by decide)) (fun _ => ?_)
    refine hp_iload C dX6_worker_28 rfl ?_
    refine hp_iconst (v := 0) C dX6_worker_30 (by decide) ?_
    refine hp_bipush (v := 100) C dX6_worker_31 (by decide) ?_
    refine hp_callS C ml_X6_118 sm_X6_in (mc_inY (d := d - 1) (by decide) (by decide) g2) (by omega) dX6_worker_33 rfl rfl (by simp [Value.category]) (fun v_33 h_33 hp => ?_) (fun _ _ hf => hf.elim)
    obtain ⟨rfl, rfl⟩ := hp
    refine hp_if_eq (tgt := 65) C dX6_worker_36 (by decide) (fun z_9 => absurd z_9 (by decide)) (fun _ => ?_)
    refine hp_iload C dX6_worker_39 rfl ?_
    refine hp_iconst (v := 0) C dX6_worker_41 (by decide) ?_
    refine hp_bipush (v := 100) C dX6_worker_42 (by decide) ?_
    refine hp_callS C ml_X6_118 sm_X6_in (mc_inN (d := d - 1) (by decide) (by decide) g3) (by omega) dX6_worker_44 rfl rfl (by simp [Value.category]) (fun v_44 h_44 hp => ?_) (fun _ _ hf => hf.elim)
    obtain ⟨rfl, rfl⟩ := hp
    refine hp_if_eq (tgt := 65) C dX6_worker_47 (by decide) (fun _ => ?_) (fun z_9 => absurd z_9 (by decide))
    refine hp_iconst (v := 0) C dX6_worker_65 (by decide) ?_
    refine hp_istore C dX6_worker_66 (by decide) ?_
    refine hp_aload_nR C dX6_worker_68 rfl ?_
    refine hp_iload C dX6_worker_69 rfl ?_
    refine hp_if_ne (tgt := 78) C dX6_worker_71 (by decide) (fun z_9 => absurd z_9 (by decide)) (fun _ => ?_)
    refine hp_iconst (v := 1) C dX6_worker_74 (by decide) ?_
    refine hp_goto (tgt := 103) C dX6_worker_75 (by decide) ?_
    refine hp_callV (ci := 6) C ml_X6_125 im_X6_refuses se_X6_refuses rfl (by decide) (mc_refu (d := d - 1) (c := 1) (r := 1) sh R_2 (by decide)) (by omega) dX6_worker_103 (R_2.o sh) rfl rfl (by simp [Value.category]) (fun v_103 h_103 hp => ?_) (fun _ _ hf => hf.elim)
    obtain ⟨rfl, R_103⟩ := hp
    refine hp_if_eq (tgt := 111) C dX6_worker_106 (by decide) (fun z_9 => absurd z_9 (by decide)) (fun _ => ?_)
    refine hp_iconst (v := 0) C dX6_worker_109 (by decide) ?_
    refine hp_iret C hr rfl dX6_worker_110 ?_
    exact ⟨rfl, R_103⟩
  have g4 : ¬ (0 ≤ fa.toInt ∧ fa.toInt ≤ 50) := fun g => hz ⟨g0, g1, g2, g3, g⟩
  refine hp_aload_nR C dX6_worker_0 rfl ?_
  refine hp_iload_n C dX6_worker_1 rfl ?_
  refine hp_callV (ci := 6) C ml_X6_128 im_X6_isKeeper se_X6_isKeeper rfl (by decide) (mc_isKy (d := d - 1) sh R hn h3 hk (by omega)) (by omega) dX6_worker_2 (R.o sh) rfl rfl (by simp [Value.category]) (fun v_2 h_2 hp => ?_) (fun _ _ hf => hf.elim)
  obtain ⟨rfl, R_2⟩ := hp
  refine hp_if_eq (tgt := 65) C dX6_worker_5 (by decide) (fun z_9 => absurd z_9 (by decide)) (fun _ => ?_)
  refine hp_iload_n C dX6_worker_8 rfl ?_
  refine hp_iconst (v := 0) C dX6_worker_9 (by decide) ?_
  refine hp_iconst (v := 2) C dX6_worker_10 (by decide) ?_
  refine hp_callS C ml_X6_118 sm_X6_in (mc_inY (d := d - 1) (by decide) (by decide) g0) (by omega) dX6_worker_11 rfl rfl (by simp [Value.category]) (fun v_11 h_11 hp => ?_) (fun _ _ hf => hf.elim)
  obtain ⟨rfl, rfl⟩ := hp
  refine hp_if_eq (tgt := 65) C dX6_worker_14 (by decide) (fun z_9 => absurd z_9 (by decide)) (fun _ => ?_)
  refine hp_iload_n C dX6_worker_17 rfl ?_
  refine hp_iconst (v := (-1)) C dX6_worker_18 (by decide) ?_
  refine hp_sipush (v := 1000) C dX6_worker_19 (by decide) ?_
  refine hp_callS C ml_X6_118 sm_X6_in (mc_inY (d := d - 1) (by decide) (by decide) g1) (by omega) dX6_worker_22 rfl rfl (by simp [Value.category]) (fun v_22 h_22 hp => ?_) (fun _ _ hf => hf.elim)
  obtain ⟨rfl, rfl⟩ := hp
  refine hp_if_eq (tgt := 65) C dX6_worker_25 (by decide) (fun z_9 => absurd z_9 (by decide)) (fun _ => ?_)
  refine hp_iload C dX6_worker_28 rfl ?_
  refine hp_iconst (v := 0) C dX6_worker_30 (by decide) ?_
  refine hp_bipush (v := 100) C dX6_worker_31 (by decide) ?_
  refine hp_callS C ml_X6_118 sm_X6_in (mc_inY (d := d - 1) (by decide) (by decide) g2) (by omega) dX6_worker_33 rfl rfl (by simp [Value.category]) (fun v_33 h_33 hp => ?_) (fun _ _ hf => hf.elim)
  obtain ⟨rfl, rfl⟩ := hp
  refine hp_if_eq (tgt := 65) C dX6_worker_36 (by decide) (fun z_9 => absurd z_9 (by decide)) (fun _ => ?_)
  refine hp_iload C dX6_worker_39 rfl ?_
  refine hp_iconst (v := 0) C dX6_worker_41 (by decide) ?_
  refine hp_bipush (v := 100) C dX6_worker_42 (by decide) ?_
  refine hp_callS C ml_X6_118 sm_X6_in (mc_inY (d := d - 1) (by decide) (by decide) g3) (by omega) dX6_worker_44 rfl rfl (by simp [Value.category]) (fun v_44 h_44 hp => ?_) (fun _ _ hf => hf.elim)
  obtain ⟨rfl, rfl⟩ := hp
  refine hp_if_eq (tgt := 65) C dX6_worker_47 (by decide) (fun z_9 => absurd z_9 (by decide)) (fun _ => ?_)
  refine hp_iload C dX6_worker_50 rfl ?_
  refine hp_iconst (v := 0) C dX6_worker_52 (by decide) ?_
  refine hp_bipush (v := 50) C dX6_worker_53 (by decide) ?_
  refine hp_callS C ml_X6_118 sm_X6_in (mc_inN (d := d - 1) (by decide) (by decide) g4) (by omega) dX6_worker_55 rfl rfl (by simp [Value.category]) (fun v_55 h_55 hp => ?_) (fun _ _ hf => hf.elim)
  obtain ⟨rfl, rfl⟩ := hp
  refine hp_if_eq (tgt := 65) C dX6_worker_58 (by decide) (fun _ => ?_) (fun z_9 => absurd z_9 (by decide))
  refine hp_iconst (v := 0) C dX6_worker_65 (by decide) ?_
  refine hp_istore C dX6_worker_66 (by decide) ?_
  refine hp_aload_nR C dX6_worker_68 rfl ?_
  refine hp_iload C dX6_worker_69 rfl ?_
  refine hp_if_ne (tgt := 78) C dX6_worker_71 (by decide) (fun z_9 => absurd z_9 (by decide)) (fun _ => ?_)
  refine hp_iconst (v := 1) C dX6_worker_74 (by decide) ?_
  refine hp_goto (tgt := 103) C dX6_worker_75 (by decide) ?_
  refine hp_callV (ci := 6) C ml_X6_125 im_X6_refuses se_X6_refuses rfl (by decide) (mc_refu (d := d - 1) (c := 1) (r := 1) sh R_2 (by decide)) (by omega) dX6_worker_103 (R_2.o sh) rfl rfl (by simp [Value.category]) (fun v_103 h_103 hp => ?_) (fun _ _ hf => hf.elim)
  obtain ⟨rfl, R_103⟩ := hp
  refine hp_if_eq (tgt := 111) C dX6_worker_106 (by decide) (fun z_9 => absurd z_9 (by decide)) (fun _ => ?_)
  refine hp_iconst (v := 0) C dX6_worker_109 (by decide) ?_
  refine hp_iret C hr rfl dX6_worker_110 ?_
  exact ⟨rfl, R_103⟩
set_option maxRecDepth 20000 in
set_option maxHeartbeats 4000000 in
theorem mp_workerS {l : Launch} {G : hpG} {h H : hpT} {m d : Nat} {a : aS} {z : mrZ} (sh : mo_sh G h m) (R : MR h m H a z) {p : Nat} (T : a_T a) (hn : p < a_mk a) (h3 : ¬ a_nd a 3 p = 2) (hk : a_nd a 0 p = 1) {kn pa st sp fa : Int32} (hg : (0 ≤ kn.toInt ∧ kn.toInt ≤ 2)) (hb : ((-1 ≤ pa.toInt ∧ pa.toInt ≤ 1000) ∧ (0 ≤ st.toInt ∧ st.toInt ≤ 100) ∧ (0 ≤ sp.toInt ∧ sp.toInt ≤ 100) ∧ (0 ≤ fa.toInt ∧ fa.toInt ≤ 50))) (hro : ¬ (a_mk a < 80 ∧ a_nd a 2 p < 8)) (hd : 7 ≤ d) : hp_C l G yX6_worker (.code yX6_worker cX6_worker 9 (some .int)) d [.ref m, .int (nI p), .int kn, .int pa, .int st, .int sp, .int fa] (H) (fun v h' => v = some (.int 0) ∧ MR h m h' a (z.1, z.2.1, 2, z.2.2.2)) (fun _ _ => False) := by
  have hn8 : p < 80 := Nat.lt_of_lt_of_le hn T.1.2
  have r3 := T.r3 hn
  have r2 := T.r2 hn
  have m80 := T.1.2
  refine hp_ofV (by decide) (by simp [Value.category]) (Nat.le_of_ble_eq_true rfl) (fun M C hr hx el => ?_)
  by_cases e80 : a_mk a = 80
  · refine hp_aload_nR C dX6_worker_0 rfl ?_
    refine hp_iload_n C dX6_worker_1 rfl ?_
    refine hp_callV (ci := 6) C ml_X6_128 im_X6_isKeeper se_X6_isKeeper rfl (by decide) (mc_isKy (d := d - 1) sh R hn h3 hk (by omega)) (by omega) dX6_worker_2 (R.o sh) rfl rfl (by simp [Value.category]) (fun v_2 h_2 hp => ?_) (fun _ _ hf => hf.elim)
    obtain ⟨rfl, R_2⟩ := hp
    refine hp_if_eq (tgt := 65) C dX6_worker_5 (by decide) (fun z_9 => absurd z_9 (by decide)) (fun _ => ?_)
    refine hp_iload_n C dX6_worker_8 rfl ?_
    refine hp_iconst (v := 0) C dX6_worker_9 (by decide) ?_
    refine hp_iconst (v := 2) C dX6_worker_10 (by decide) ?_
    refine hp_callS C ml_X6_118 sm_X6_in (mc_inY (d := d - 1) (by decide) (by decide) hg) (by omega) dX6_worker_11 rfl rfl (by simp [Value.category]) (fun v_11 h_11 hp => ?_) (fun _ _ hf => hf.elim)
    obtain ⟨rfl, rfl⟩ := hp
    refine hp_if_eq (tgt := 65) C dX6_worker_14 (by decide) (fun z_9 => absurd z_9 (by decide)) (fun _ => ?_)
    refine hp_iload_n C dX6_worker_17 rfl ?_
    refine hp_iconst (v := (-1)) C dX6_worker_18 (by decide) ?_
    refine hp_sipush (v := 1000) C dX6_worker_19 (by decide) ?_
    refine hp_callS C ml_X6_118 sm_X6_in (mc_inY (d := d - 1) (by decide) (by decide) hb.1) (by omega) dX6_worker_22 rfl rfl (by simp [Value.category]) (fun v_22 h_22 hp => ?_) (fun _ _ hf => hf.elim)
    obtain ⟨rfl, rfl⟩ := hp
    refine hp_if_eq (tgt := 65) C dX6_worker_25 (by decide) (fun z_9 => absurd z_9 (by decide)) (fun _ => ?_)
    refine hp_iload C dX6_worker_28 rfl ?_
    refine hp_iconst (v := 0) C dX6_worker_30 (by decide) ?_
    refine hp_bipush (v := 100) C dX6_worker_31 (by decide) ?_
    refine hp_callS C ml_X6_118 sm_X6_in (mc_inY (d := d - 1) (by decide) (by decide) hb.2.1) (by omega) dX6_worker_33 rfl rfl (by simp [Value.category]) (fun v_33 h_33 hp => ?_) (fun _ _ hf => hf.elim)
    obtain ⟨rfl, rfl⟩ := hp
    refine hp_if_eq (tgt := 65) C dX6_worker_36 (by decide) (fun z_9 => absurd z_9 (by decide)) (fun _ => ?_)
    refine hp_iload C dX6_worker_39 rfl ?_
    refine hp_iconst (v := 0) C dX6_worker_41 (by decide) ?_
    refine hp_bipush (v := 100) C dX6_worker_42 (by decide) ?_
    refine hp_callS C ml_X6_118 sm_X6_in (mc_inY (d := d - 1) (by decide) (by decide) hb.2.2.1) (by omega) dX6_worker_44 rfl rfl (by simp [Value.category]) (fun v_44 h_44 hp => ?_) (fun _ _ hf => hf.elim)
    obtain ⟨rfl, rfl⟩ := hp
    refine hp_if_eq (tgt := 65) C dX6_worker_47 (by decide) (fun z_9 => absurd z_9 (by decide)) (fun _ => ?_)
    refine hp_iload C dX6_worker_50 rfl ?_
    refine hp_iconst (v := 0) C dX6_worker_52 (by decide) ?_
    refine hp_bipush (v := 50) C dX6_worker_53 (by decide) ?_
    refine hp_callS C ml_X6_118 sm_X6_in (mc_inY (d := d - 1) (by decide) (by decide) hb.2.2.2) (by omega) dX6_worker_55 rfl rfl (by simp [Value.category]) (fun v_55 h_55 hp => ?_) (fun _ _ hf => hf.elim)
    obtain ⟨rfl, rfl⟩ := hp
    refine hp_if_eq (tgt := 65) C dX6_worker_58 (by decide) (fun z_9 => absurd z_9 (by decide)) (fun _ => ?_)
    refine hp_iconst (v := 1) C dX6_worker_61 (by decide) ?_
    refine hp_goto (tgt := 66) C dX6_worker_62 (by decide) ?_
    refine hp_istore C dX6_worker_66 (by decide) ?_
    refine hp_aload_nR C dX6_worker_68 rfl ?_
    refine hp_iload C dX6_worker_69 rfl ?_
    refine hp_if_ne (tgt := 78) C dX6_worker_71 (by decide) (fun _ => ?_) (fun z_9 => absurd z_9 (by decide))
    refine hp_aload_nR C dX6_worker_78 rfl ?_
    refine mr_S C sh R_2 fl_X6_68_6 (Or.inr (Or.inl ⟨rfl, rfl⟩)) dX6_worker_79 ?_
    refine hp_bipush (v := 80) C dX6_worker_82 (by decide) ?_
    refine hp_icmp_eq (tgt := 98) C dX6_worker_84 (by decide) (fun _ => ?_) (fun z_9 => absurd (by show nI (a_mk a) = 80; rw [e80]; rfl) z_9)
    refine hp_iconst (v := 2) C dX6_worker_98 (by decide) ?_
    refine hp_goto (tgt := 103) C dX6_worker_99 (by decide) ?_
    refine hp_callV (ci := 6) C ml_X6_125 im_X6_refuses se_X6_refuses rfl (by decide) (mc_refu (d := d - 1) (c := 2) (r := 1) sh R_2 (by decide)) (by omega) dX6_worker_103 (R_2.o sh) rfl rfl (by simp [Value.category]) (fun v_103 h_103 hp => ?_) (fun _ _ hf => hf.elim)
    obtain ⟨rfl, R_103⟩ := hp
    refine hp_if_eq (tgt := 111) C dX6_worker_106 (by decide) (fun z_9 => absurd z_9 (by decide)) (fun _ => ?_)
    refine hp_iconst (v := 0) C dX6_worker_109 (by decide) ?_
    refine hp_iret C hr rfl dX6_worker_110 ?_
    exact ⟨rfl, R_103⟩
  · have e8 : a_nd a 2 p = 8 := by omega
    refine hp_aload_nR C dX6_worker_0 rfl ?_
    refine hp_iload_n C dX6_worker_1 rfl ?_
    refine hp_callV (ci := 6) C ml_X6_128 im_X6_isKeeper se_X6_isKeeper rfl (by decide) (mc_isKy (d := d - 1) sh R hn h3 hk (by omega)) (by omega) dX6_worker_2 (R.o sh) rfl rfl (by simp [Value.category]) (fun v_2 h_2 hp => ?_) (fun _ _ hf => hf.elim)
    obtain ⟨rfl, R_2⟩ := hp
    refine hp_if_eq (tgt := 65) C dX6_worker_5 (by decide) (fun z_9 => absurd z_9 (by decide)) (fun _ => ?_)
    refine hp_iload_n C dX6_worker_8 rfl ?_
    refine hp_iconst (v := 0) C dX6_worker_9 (by decide) ?_
    refine hp_iconst (v := 2) C dX6_worker_10 (by decide) ?_
    refine hp_callS C ml_X6_118 sm_X6_in (mc_inY (d := d - 1) (by decide) (by decide) hg) (by omega) dX6_worker_11 rfl rfl (by simp [Value.category]) (fun v_11 h_11 hp => ?_) (fun _ _ hf => hf.elim)
    obtain ⟨rfl, rfl⟩ := hp
    refine hp_if_eq (tgt := 65) C dX6_worker_14 (by decide) (fun z_9 => absurd z_9 (by decide)) (fun _ => ?_)
    refine hp_iload_n C dX6_worker_17 rfl ?_
    refine hp_iconst (v := (-1)) C dX6_worker_18 (by decide) ?_
    refine hp_sipush (v := 1000) C dX6_worker_19 (by decide) ?_
    refine hp_callS C ml_X6_118 sm_X6_in (mc_inY (d := d - 1) (by decide) (by decide) hb.1) (by omega) dX6_worker_22 rfl rfl (by simp [Value.category]) (fun v_22 h_22 hp => ?_) (fun _ _ hf => hf.elim)
    obtain ⟨rfl, rfl⟩ := hp
    refine hp_if_eq (tgt := 65) C dX6_worker_25 (by decide) (fun z_9 => absurd z_9 (by decide)) (fun _ => ?_)
    refine hp_iload C dX6_worker_28 rfl ?_
    refine hp_iconst (v := 0) C dX6_worker_30 (by decide) ?_
    refine hp_bipush (v := 100) C dX6_worker_31 (by decide) ?_
    refine hp_callS C ml_X6_118 sm_X6_in (mc_inY (d := d - 1) (by decide) (by decide) hb.2.1) (by omega) dX6_worker_33 rfl rfl (by simp [Value.category]) (fun v_33 h_33 hp => ?_) (fun _ _ hf => hf.elim)
    obtain ⟨rfl, rfl⟩ := hp
    refine hp_if_eq (tgt := 65) C dX6_worker_36 (by decide) (fun z_9 => absurd z_9 (by decide)) (fun _ => ?_)
    refine hp_iload C dX6_worker_39 rfl ?_
    refine hp_iconst (v := 0) C dX6_worker_41 (by decide) ?_
    refine hp_bipush (v := 100) C dX6_worker_42 (by decide) ?_
    refine hp_callS C ml_X6_118 sm_X6_in (mc_inY (d := d - 1) (by decide) (by decide) hb.2.2.1) (by omega) dX6_worker_44 rfl rfl (by simp [Value.category]) (fun v_44 h_44 hp => ?_) (fun _ _ hf => hf.elim)
    obtain ⟨rfl, rfl⟩ := hp
    refine hp_if_eq (tgt := 65) C dX6_worker_47 (by decide) (fun z_9 => absurd z_9 (by decide)) (fun _ => ?_)
    refine hp_iload C dX6_worker_50 rfl ?_
    refine hp_iconst (v := 0) C dX6_worker_52 (by decide) ?_
    refine hp_bipush (v := 50) C dX6_worker_53 (by decide) ?_
    refine hp_callS C ml_X6_118 sm_X6_in (mc_inY (d := d - 1) (by decide) (by decide) hb.2.2.2) (by omega) dX6_worker_55 rfl rfl (by simp [Value.category]) (fun v_55 h_55 hp => ?_) (fun _ _ hf => hf.elim)
    obtain ⟨rfl, rfl⟩ := hp
    refine hp_if_eq (tgt := 65) C dX6_worker_58 (by decide) (fun z_9 => absurd z_9 (by decide)) (fun _ => ?_)
    refine hp_iconst (v := 1) C dX6_worker_61 (by decide) ?_
    refine hp_goto (tgt := 66) C dX6_worker_62 (by decide) ?_
    refine hp_istore C dX6_worker_66 (by decide) ?_
    refine hp_aload_nR C dX6_worker_68 rfl ?_
    refine hp_iload C dX6_worker_69 rfl ?_
    refine hp_if_ne (tgt := 78) C dX6_worker_71 (by decide) (fun _ => ?_) (fun z_9 => absurd z_9 (by decide))
    refine hp_aload_nR C dX6_worker_78 rfl ?_
    refine mr_S C sh R_2 fl_X6_68_6 (Or.inr (Or.inl ⟨rfl, rfl⟩)) dX6_worker_79 ?_
    refine hp_bipush (v := 80) C dX6_worker_82 (by decide) ?_
    refine hp_icmp_eq (tgt := 98) C dX6_worker_84 (by decide) (fun z_9 => absurd z_9 (fun q => e80 ((nI_eq (b := 80) (by omega) (by omega)).mp q))) (fun _ => ?_)
    refine hp_aload_nR C dX6_worker_87 rfl ?_
    refine mr_A C sh R_2 fl_X6_17_6 rfl (by decide) dX6_worker_88 ?_
    refine hp_iload_n C dX6_worker_91 rfl ?_
    refine mr_nd C sh R_2 4 2 (by decide) (by decide) rfl hn8 dX6_worker_92 ?_
    refine hp_bipush (v := 8) C dX6_worker_93 (by decide) ?_
    refine hp_icmp_ne (tgt := 102) C dX6_worker_95 (by decide) (fun z_9 => absurd z_9 (fun q => q (by show Int32.ofInt (a_nd a 2 p) = 8; rw [e8]; decide))) (fun _ => ?_)
    refine hp_iconst (v := 2) C dX6_worker_98 (by decide) ?_
    refine hp_goto (tgt := 103) C dX6_worker_99 (by decide) ?_
    refine hp_callV (ci := 6) C ml_X6_125 im_X6_refuses se_X6_refuses rfl (by decide) (mc_refu (d := d - 1) (c := 2) (r := 1) sh R_2 (by decide)) (by omega) dX6_worker_103 (R_2.o sh) rfl rfl (by simp [Value.category]) (fun v_103 h_103 hp => ?_) (fun _ _ hf => hf.elim)
    obtain ⟨rfl, R_103⟩ := hp
    refine hp_if_eq (tgt := 111) C dX6_worker_106 (by decide) (fun z_9 => absurd z_9 (by decide)) (fun _ => ?_)
    refine hp_iconst (v := 0) C dX6_worker_109 (by decide) ?_
    refine hp_iret C hr rfl dX6_worker_110 ?_
    exact ⟨rfl, R_103⟩
set_option maxRecDepth 20000 in
set_option maxHeartbeats 4000000 in
theorem mp_worker {l : Launch} {G : hpG} {h H : hpT} {m d : Nat} {a : aS} {z : mrZ} (sh : mo_sh G h m) (R : MR h m H a z) {p : Nat} (I : a_I a) (hn : p < a_mk a) (h3 : ¬ a_nd a 3 p = 2) (hk : a_nd a 0 p = 1) {kn pa st sp fa : Int32} (hg : (0 ≤ kn.toInt ∧ kn.toInt ≤ 2)) (hb : ((-1 ≤ pa.toInt ∧ pa.toInt ≤ 1000) ∧ (0 ≤ st.toInt ∧ st.toInt ≤ 100) ∧ (0 ≤ sp.toInt ∧ sp.toInt ≤ 100) ∧ (0 ≤ fa.toInt ∧ fa.toInt ≤ 50))) (hro : a_mk a < 80 ∧ a_nd a 2 p < 8) (hv : (a_ev (a_wkr p (a_vW p (a_nd a 2 p) kn.toInt pa.toInt st.toInt sp.toInt fa.toInt) a).2).length < 2 ^ 30) (hd : 7 ≤ d) : hp_C l G yX6_worker (.code yX6_worker cX6_worker 9 (some .int)) d [.ref m, .int (nI p), .int kn, .int pa, .int st, .int sp, .int fa] (H) (fun v h' => v = some (.int (a_wkr p (a_vW p (a_nd a 2 p) kn.toInt pa.toInt st.toInt sp.toInt fa.toInt) a).1) ∧ ∃ z', MR h m h' (a_wkr p (a_vW p (a_nd a 2 p) kn.toInt pa.toInt st.toInt sp.toInt fa.toInt) a).2 z' ∧ z'.2.2 = (0, z.2.2.2)) (fun _ _ => False) := by
  have T := I.1
  have hn8 : p < 80 := Nat.lt_of_lt_of_le hn T.1.2
  have r3 := T.r3 hn
  have r2 := T.r2 hn
  have m80 := T.1.2
  have e80 : ¬ a_mk a = 80 := by omega
  have e8 : ¬ a_nd a 2 p = 8 := by omega
  have hm8 : a_mk a < 80 := hro.1
  have hpn : p ≠ a_mk a := by omega
  have TT := a_add_T T hn hk hm8 hro.2 (v := (a_vW p (a_nd a 2 p) kn.toInt pa.toInt st.toInt sp.toInt fa.toInt)) (Or.inl rfl) rfl rfl rfl hg (show (0 : Int) ≤ 0 ∧ (0 : Int) ≤ 2 by omega) (show (0 : Int) ≤ 0 ∧ (0 : Int) ≤ 50 by omega) (show (0 : Int) ≤ 0 ∧ (0 : Int) ≤ 1000 by omega) hb.1 hb.2.1 hb.2.2.1 hb.2.2.2
  have RR := a_add_R (v := (a_vW p (a_nd a 2 p) kn.toInt pa.toInt st.toInt sp.toInt fa.toInt)) T I.2.1 hn hk h3 rfl rfl
  have e3m : a_nd (a_add p (a_vW p (a_nd a 2 p) kn.toInt pa.toInt st.toInt sp.toInt fa.toInt) a) 3 (a_mk a) = 0 := if_pos rfl
  have e1m : a_nd (a_add p (a_vW p (a_nd a 2 p) kn.toInt pa.toInt st.toInt sp.toInt fa.toInt) a) 1 (a_mk a) = p := if_pos rfl
  have kg := a_go_gk (a_fu (a_add p (a_vW p (a_nd a 2 p) kn.toInt pa.toInt st.toInt sp.toInt fa.toInt) a) (a_mk a)) (a_mk a) (a_add p (a_vW p (a_nd a 2 p) kn.toInt pa.toInt st.toInt sp.toInt fa.toInt) a) TT RR (Nat.lt_succ_self _) (by rw [e3m]; decide)
  refine hp_ofV (by decide) (by simp [Value.category]) (Nat.le_of_ble_eq_true rfl) (fun M C hr hx el => ?_)
  refine hp_aload_nR C dX6_worker_0 rfl ?_
  refine hp_iload_n C dX6_worker_1 rfl ?_
  refine hp_callV (ci := 6) C ml_X6_128 im_X6_isKeeper se_X6_isKeeper rfl (by decide) (mc_isKy (d := d - 1) sh R hn h3 hk (by omega)) (by omega) dX6_worker_2 (R.o sh) rfl rfl (by simp [Value.category]) (fun v_2 h_2 hp => ?_) (fun _ _ hf => hf.elim)
  obtain ⟨rfl, R_2⟩ := hp
  refine hp_if_eq (tgt := 65) C dX6_worker_5 (by decide) (fun z_9 => absurd z_9 (by decide)) (fun _ => ?_)
  refine hp_iload_n C dX6_worker_8 rfl ?_
  refine hp_iconst (v := 0) C dX6_worker_9 (by decide) ?_
  refine hp_iconst (v := 2) C dX6_worker_10 (by decide) ?_
  refine hp_callS C ml_X6_118 sm_X6_in (mc_inY (d := d - 1) (by decide) (by decide) hg) (by omega) dX6_worker_11 rfl rfl (by simp [Value.category]) (fun v_11 h_11 hp => ?_) (fun _ _ hf => hf.elim)
  obtain ⟨rfl, rfl⟩ := hp
  refine hp_if_eq (tgt := 65) C dX6_worker_14 (by decide) (fun z_9 => absurd z_9 (by decide)) (fun _ => ?_)
  refine hp_iload_n C dX6_worker_17 rfl ?_
  refine hp_iconst (v := (-1)) C dX6_worker_18 (by decide) ?_
  refine hp_sipush (v := 1000) C dX6_worker_19 (by decide) ?_
  refine hp_callS C ml_X6_118 sm_X6_in (mc_inY (d := d - 1) (by decide) (by decide) hb.1) (by omega) dX6_worker_22 rfl rfl (by simp [Value.category]) (fun v_22 h_22 hp => ?_) (fun _ _ hf => hf.elim)
  obtain ⟨rfl, rfl⟩ := hp
  refine hp_if_eq (tgt := 65) C dX6_worker_25 (by decide) (fun z_9 => absurd z_9 (by decide)) (fun _ => ?_)
  refine hp_iload C dX6_worker_28 rfl ?_
  refine hp_iconst (v := 0) C dX6_worker_30 (by decide) ?_
  refine hp_bipush (v := 100) C dX6_worker_31 (by decide) ?_
  refine hp_callS C ml_X6_118 sm_X6_in (mc_inY (d := d - 1) (by decide) (by decide) hb.2.1) (by omega) dX6_worker_33 rfl rfl (by simp [Value.category]) (fun v_33 h_33 hp => ?_) (fun _ _ hf => hf.elim)
  obtain ⟨rfl, rfl⟩ := hp
  refine hp_if_eq (tgt := 65) C dX6_worker_36 (by decide) (fun z_9 => absurd z_9 (by decide)) (fun _ => ?_)
  refine hp_iload C dX6_worker_39 rfl ?_
  refine hp_iconst (v := 0) C dX6_worker_41 (by decide) ?_
  refine hp_bipush (v := 100) C dX6_worker_42 (by decide) ?_
  refine hp_callS C ml_X6_118 sm_X6_in (mc_inY (d := d - 1) (by decide) (by decide) hb.2.2.1) (by omega) dX6_worker_44 rfl rfl (by simp [Value.category]) (fun v_44 h_44 hp => ?_) (fun _ _ hf => hf.elim)
  obtain ⟨rfl, rfl⟩ := hp
  refine hp_if_eq (tgt := 65) C dX6_worker_47 (by decide) (fun z_9 => absurd z_9 (by decide)) (fun _ => ?_)
  refine hp_iload C dX6_worker_50 rfl ?_
  refine hp_iconst (v := 0) C dX6_worker_52 (by decide) ?_
  refine hp_bipush (v := 50) C dX6_worker_53 (by decide) ?_
  refine hp_callS C ml_X6_118 sm_X6_in (mc_inY (d := d - 1) (by decide) (by decide) hb.2.2.2) (by omega) dX6_worker_55 rfl rfl (by simp [Value.category]) (fun v_55 h_55 hp => ?_) (fun _ _ hf => hf.elim)
  obtain ⟨rfl, rfl⟩ := hp
  refine hp_if_eq (tgt := 65) C dX6_worker_58 (by decide) (fun z_9 => absurd z_9 (by decide)) (fun _ => ?_)
  refine hp_iconst (v := 1) C dX6_worker_61 (by decide) ?_
  refine hp_goto (tgt := 66) C dX6_worker_62 (by decide) ?_
  refine hp_istore C dX6_worker_66 (by decide) ?_
  refine hp_aload_nR C dX6_worker_68 rfl ?_
  refine hp_iload C dX6_worker_69 rfl ?_
  refine hp_if_ne (tgt := 78) C dX6_worker_71 (by decide) (fun _ => ?_) (fun z_9 => absurd z_9 (by decide))
  refine hp_aload_nR C dX6_worker_78 rfl ?_
  refine mr_S C sh R_2 fl_X6_68_6 (Or.inr (Or.inl ⟨rfl, rfl⟩)) dX6_worker_79 ?_
  refine hp_bipush (v := 80) C dX6_worker_82 (by decide) ?_
  refine hp_icmp_eq (tgt := 98) C dX6_worker_84 (by decide) (fun z_9 => absurd z_9 (fun q => e80 ((nI_eq (b := 80) (by omega) (by omega)).mp q))) (fun _ => ?_)
  refine hp_aload_nR C dX6_worker_87 rfl ?_
  refine mr_A C sh R_2 fl_X6_17_6 rfl (by decide) dX6_worker_88 ?_
  refine hp_iload_n C dX6_worker_91 rfl ?_
  refine mr_nd C sh R_2 4 2 (by decide) (by decide) rfl hn8 dX6_worker_92 ?_
  refine hp_bipush (v := 8) C dX6_worker_93 (by decide) ?_
  refine hp_icmp_ne (tgt := 102) C dX6_worker_95 (by decide) (fun _ => ?_) (fun z_9 => absurd z_9 (fun q => e8 ((a_ofI_eq (x := a_nd a 2 p) (y := 8) (by omega) (by omega)).mp q)))
  refine hp_iconst (v := 0) C dX6_worker_102 (by decide) ?_
  refine hp_callV (ci := 6) C ml_X6_125 im_X6_refuses se_X6_refuses rfl (by decide) (mc_refu (d := d - 1) (c := 0) (r := 0) sh R_2 (by decide)) (by omega) dX6_worker_103 (R_2.o sh) rfl rfl (by simp [Value.category]) (fun v_103 h_103 hp => ?_) (fun _ _ hf => hf.elim)
  obtain ⟨rfl, R_103⟩ := hp
  refine hp_if_eq (tgt := 111) C dX6_worker_106 (by decide) (fun _ => ?_) (fun z_9 => absurd z_9 (by decide))
  refine hp_aload_nR C dX6_worker_111 rfl ?_
  refine hp_iload_n C dX6_worker_112 rfl ?_
  refine hp_iload_n C dX6_worker_113 rfl ?_
  refine hp_iconst (v := 0) C dX6_worker_114 (by decide) ?_
  refine hp_callV (ci := 6) C ml_X6_131 im_X6_child se_X6_child rfl (by decide) (mc_chi (d := d - 1) (kn := kn.toInt) (k := 0) sh R_103 T I.2.1 hn hm8 (Or.inl rfl) hg (k_i32 kn)) (by omega) dX6_worker_115 (R_103.o sh) rfl rfl (by simp [Value.category]) (fun v_115 h_115 hp => ?_) (fun _ _ hf => hf.elim)
  obtain ⟨rfl, R_115⟩ := hp
  refine hp_istore C dX6_worker_118 (by decide) ?_
  refine hp_aload_nR C dX6_worker_120 rfl ?_
  refine mr_A C sh R_115 fl_X6_35_6 rfl (by decide) dX6_worker_121 ?_
  refine hp_iload C dX6_worker_124 rfl ?_
  refine hp_iload_n C dX6_worker_126 rfl ?_
  refine ms_sn C sh R_115 10 8 (by decide) (by decide) (by decide) (by decide) rfl hm8 pa.toInt (by omega) (k_i32 pa) dX6_worker_127 (fun H_127 R_127 => ?_)
  refine hp_aload_nR C dX6_worker_128 rfl ?_
  refine mr_A C sh R_127 fl_X6_38_6 rfl (by decide) dX6_worker_129 ?_
  refine hp_iload C dX6_worker_132 rfl ?_
  refine hp_iload C dX6_worker_134 rfl ?_
  refine ms_sn C sh R_127 11 9 (by decide) (by decide) (by decide) (by decide) rfl hm8 st.toInt (by omega) (k_i32 st) dX6_worker_136 (fun H_136 R_136 => ?_)
  refine hp_aload_nR C dX6_worker_137 rfl ?_
  refine mr_A C sh R_136 fl_X6_41_6 rfl (by decide) dX6_worker_138 ?_
  refine hp_iload C dX6_worker_141 rfl ?_
  refine hp_iload C dX6_worker_143 rfl ?_
  refine ms_sn C sh R_136 12 10 (by decide) (by decide) (by decide) (by decide) rfl hm8 sp.toInt (by omega) (k_i32 sp) dX6_worker_145 (fun H_145 R_145 => ?_)
  refine hp_aload_nR C dX6_worker_146 rfl ?_
  refine mr_A C sh R_145 fl_X6_44_6 rfl (by decide) dX6_worker_147 ?_
  refine hp_iload C dX6_worker_150 rfl ?_
  refine hp_iload C dX6_worker_152 rfl ?_
  refine ms_sn C sh R_145 13 11 (by decide) (by decide) (by decide) (by decide) rfl hm8 fa.toInt (by omega) (k_i32 fa) dX6_worker_154 (fun H_154 R_154 => ?_)
  rw [a_add_sn, a_add_sn, a_add_sn, a_add_sn, show (0 : Int32).toInt = 0 by decide, a_v0W] at R_154
  have e3 : a_nd (a_add p (a_vW p (a_nd a 2 p) kn.toInt pa.toInt st.toInt sp.toInt fa.toInt) a) 3 p = a_nd a 3 p := if_neg hpn
  refine hp_aload_nR C dX6_worker_155 rfl ?_
  refine mr_A C sh R_154 fl_X6_20_6 rfl (by decide) dX6_worker_156 ?_
  refine hp_iload_n C dX6_worker_159 rfl ?_
  refine mr_nd C sh R_154 5 3 (by decide) (by decide) rfl hn8 dX6_worker_160 ?_
  refine hp_iconst (v := 1) C dX6_worker_161 (by decide) ?_
  refine hp_icmp_ne (tgt := 183) C dX6_worker_162 (by decide) (fun c_162 => ?_) (fun c_162 => ?_)
  · refine hp_iload C dX6_worker_183 rfl ?_
    refine hp_iret C hr rfl dX6_worker_185 ?_
    have hu : ¬ a_nd a 3 p = 1 := fun e => c_162 (by rw [e3, e]; decide)
    have ek : a_wkr p (a_vW p (a_nd a 2 p) kn.toInt pa.toInt st.toInt sp.toInt fa.toInt) a = (nI (a_mk a), a_add p (a_vW p (a_nd a 2 p) kn.toInt pa.toInt st.toInt sp.toInt fa.toInt) a) := by unfold a_wkr; rw [if_neg hu]
    rw [ek]
    exact ⟨rfl, _, R_154, rfl⟩
  · have h9 : (9 : Int) ≤ (a_fu (a_add p (a_vW p (a_nd a 2 p) kn.toInt pa.toInt st.toInt sp.toInt fa.toInt) a) (a_mk a) : Nat) + a_nd (a_add p (a_vW p (a_nd a 2 p) kn.toInt pa.toInt st.toInt sp.toInt fa.toInt) a) 2 (a_mk a) := by
      have ed : a_nd (a_add p (a_vW p (a_nd a 2 p) kn.toInt pa.toInt st.toInt sp.toInt fa.toInt) a) 2 (a_mk a) = a_nd a 2 p + 1 := if_pos rfl
      show (9 : Int) ≤ ((9 - a_nd (a_add p (a_vW p (a_nd a 2 p) kn.toInt pa.toInt st.toInt sp.toInt fa.toInt) a) 2 (a_mk a)).toNat : Nat) + a_nd (a_add p (a_vW p (a_nd a 2 p) kn.toInt pa.toInt st.toInt sp.toInt fa.toInt) a) 2 (a_mk a)
      omega
    have hu : a_nd a 3 p = 1 := by
      have q := c_162
      rw [e3] at q
      exact (a_ofI_eq (x := a_nd a 3 p) (y := 1) (by omega) (by omega)).mp q
    have hv1 : (a_ev (a_go (a_fu (a_add p (a_vW p (a_nd a 2 p) kn.toInt pa.toInt st.toInt sp.toInt fa.toInt) a) (a_mk a)) (a_mk a) (a_add p (a_vW p (a_nd a 2 p) kn.toInt pa.toInt st.toInt sp.toInt fa.toInt) a)).2).length < 2 ^ 30 := by
      refine Nat.lt_of_le_of_lt ?_ hv
      unfold a_wkr
      rw [if_pos hu]
      split
      · exact Nat.le_refl _
      · exact (a_dis_k2 _ _ _ _ _).ev
    refine hp_aload_nR C dX6_worker_165 rfl ?_
    refine hp_iload C dX6_worker_166 rfl ?_
    refine hp_callV (ci := 6) C ml_X6_115 im_X6_starts se_X6_starts rfl (by decide) (mc_sta (d := d - 1) (f := a_fu (a_add p (a_vW p (a_nd a 2 p) kn.toInt pa.toInt st.toInt sp.toInt fa.toInt) a) (a_mk a)) (n := a_mk a) sh R_154 TT (a_add_W I.2.2.1) (Nat.lt_succ_self _) h9 hv1 (by omega)) (by omega) dX6_worker_168 (R_154.o sh) rfl rfl (by simp [Value.category]) (fun v_168 h_168 hp => ?_) (fun _ _ hf => hf.elim)
    obtain ⟨rfl, z1, R_168, g1⟩ := hp
    refine hp_if_ne (tgt := 183) C dX6_worker_171 (by decide) (fun c_171 => ?_) (fun c_171 => ?_)
    · refine hp_iload C dX6_worker_183 rfl ?_
      refine hp_iret C hr rfl dX6_worker_185 ?_
      have eg : (a_go (a_fu (a_add p (a_vW p (a_nd a 2 p) kn.toInt pa.toInt st.toInt sp.toInt fa.toInt) a) (a_mk a)) (a_mk a) (a_add p (a_vW p (a_nd a 2 p) kn.toInt pa.toInt st.toInt sp.toInt fa.toInt) a)).1 = true := by
        cases g : (a_go (a_fu (a_add p (a_vW p (a_nd a 2 p) kn.toInt pa.toInt st.toInt sp.toInt fa.toInt) a) (a_mk a)) (a_mk a) (a_add p (a_vW p (a_nd a 2 p) kn.toInt pa.toInt st.toInt sp.toInt fa.toInt) a)).1 with
        | true => rfl
        | false => exact absurd (by rw [g]; rfl) c_171
      have ek : a_wkr p (a_vW p (a_nd a 2 p) kn.toInt pa.toInt st.toInt sp.toInt fa.toInt) a = (nI (a_mk a), (a_go (a_fu (a_add p (a_vW p (a_nd a 2 p) kn.toInt pa.toInt st.toInt sp.toInt fa.toInt) a) (a_mk a)) (a_mk a) (a_add p (a_vW p (a_nd a 2 p) kn.toInt pa.toInt st.toInt sp.toInt fa.toInt) a)).2) := by
        unfold a_wkr
        rw [if_pos hu, if_pos eg]
      rw [ek]
      exact ⟨rfl, z1, R_168, g1⟩
    · have eg : ¬ (a_go (a_fu (a_add p (a_vW p (a_nd a 2 p) kn.toInt pa.toInt st.toInt sp.toInt fa.toInt) a) (a_mk a)) (a_mk a) (a_add p (a_vW p (a_nd a 2 p) kn.toInt pa.toInt st.toInt sp.toInt fa.toInt) a)).1 = true := fun g => absurd c_171 (by rw [if_pos g]; decide)
      have ek : a_wkr p (a_vW p (a_nd a 2 p) kn.toInt pa.toInt st.toInt sp.toInt fa.toInt) a = (-1, (a_dis (a_fu (a_add p (a_vW p (a_nd a 2 p) kn.toInt pa.toInt st.toInt sp.toInt fa.toInt) a) (a_mk a)) p (a_mk a) (a_ix (a_mk a) (a_rw (a_go (a_fu (a_add p (a_vW p (a_nd a 2 p) kn.toInt pa.toInt st.toInt sp.toInt fa.toInt) a) (a_mk a)) (a_mk a) (a_add p (a_vW p (a_nd a 2 p) kn.toInt pa.toInt st.toInt sp.toInt fa.toInt) a)).2 p)) (a_go (a_fu (a_add p (a_vW p (a_nd a 2 p) kn.toInt pa.toInt st.toInt sp.toInt fa.toInt) a) (a_mk a)) (a_mk a) (a_add p (a_vW p (a_nd a 2 p) kn.toInt pa.toInt st.toInt sp.toInt fa.toInt) a)).2).2) := by
        unfold a_wkr
        rw [if_pos hu, if_neg eg]
      rw [ek]
      have epa : a_pa (a_go (a_fu (a_add p (a_vW p (a_nd a 2 p) kn.toInt pa.toInt st.toInt sp.toInt fa.toInt) a) (a_mk a)) (a_mk a) (a_add p (a_vW p (a_nd a 2 p) kn.toInt pa.toInt st.toInt sp.toInt fa.toInt) a)).2 (a_mk a) = p := by
        show (a_nd (a_go (a_fu (a_add p (a_vW p (a_nd a 2 p) kn.toInt pa.toInt st.toInt sp.toInt fa.toInt) a) (a_mk a)) (a_mk a) (a_add p (a_vW p (a_nd a 2 p) kn.toInt pa.toInt st.toInt sp.toInt fa.toInt) a)).2 1 (a_mk a)).toNat = p
        rw [kg.1.nd, e1m]
        rfl
      refine hp_aload_nR C dX6_worker_174 rfl ?_
      refine hp_iload C dX6_worker_175 rfl ?_
      refine hp_callV (ci := 6) C ml_X6_103 im_X6_goes se_X6_goes rfl (by decide) (mc_goes (d := d - 1) (f := a_fu (a_add p (a_vW p (a_nd a 2 p) kn.toInt pa.toInt st.toInt sp.toInt fa.toInt) a) (a_mk a)) sh R_168 (kg.1.T TT) (RR.gk kg) (c := a_mk a) (by rw [kg.1.mk]; exact Nat.lt_succ_self _) (by omega) (by rw [kg.2.1, e3m]; decide) (by rw [kg.1.nd]; exact h9) hv1 (by omega)) (by omega) dX6_worker_177 (R_168.o sh) rfl rfl (by simp [Value.category]) (fun v_177 h_177 hp => ?_) (fun _ _ hf => hf.elim)
      obtain ⟨⟨x_177, rfl⟩, R_177⟩ := hp
      rw [epa] at R_177
      refine hp_pop C dX6_worker_180 rfl ?_
      refine hp_iconst (v := (-1)) C dX6_worker_181 (by decide) ?_
      refine hp_iret C hr rfl dX6_worker_182 ?_
      exact ⟨rfl, z1, R_177, g1⟩
