/-! ===== the reference: what its methods ask first ===== -/
theorem mc_refu {l : Launch} {G : hpG} {h H : hpT} {m d : Nat} {a : aS} {z : mrZ} (sh : mo_sh G h m) (R : MR h m H a z) {c r : Int32} (hc : mo_ref c = r) : hp_C l G yX6_refuses (.code yX6_refuses cX6_refuses 2 (some .boolean)) d [.ref m, .int c] H (fun v h' => v = some (.int r) ∧ MR h m h' a (z.1, z.2.1, c, z.2.2.2)) (fun _ _ => False) := by
  obtain ⟨s, rfl, r0, r1, r2, r3⟩ := R
  subst hc
  exact hp_Cw (mo_refuses (l := l) (d := d) (s := s) sh) (fun v h' hv => ⟨hv.1, _, hv.2, r0, r1, r2, (show va_up s.1 0 c 0 = c from va_up_self _ _ _)⟩)
theorem mc_iN {s : moS} {a : aS} {ex : Nat} (r : rb_R s a ex) {n : Nat} (hn : n < a_mk a) (h3 : ¬ a_nd a 3 n = 2) : mo_isN s (nI n) = 1 := by
  have m8 := r.1.2.2
  unfold mo_isN
  rw [if_neg (nI_pos (by omega)), r.1.1, if_neg (nI_ge hn (by omega)), nI_clamp (by omega), r.nd (f := 3) (by omega) (by omega), if_neg]
  intro e
  have sm := r.sm (f := 3) (n := n) (by omega) (by omega)
  exact h3 ((a_ofI_eq (x := a_nd a 3 n) (y := 2) (by omega) (by omega)).mp e)
theorem mc_iN0 {s : moS} {a : aS} {ex : Nat} (r : rb_R s a ex) {x : Int32} : mo_isN s x = 0 ∨ ∃ n, n < a_mk a ∧ x = nI n ∧ ¬ a_nd a 3 n = 2 := by
  have m8 := r.1.2.2
  unfold mo_isN
  by_cases c1 : x < 0
  · rw [if_pos c1]; exact Or.inl rfl
  · obtain ⟨j, hj, e⟩ := nI_of c1
    rw [if_neg c1, r.1.1]
    by_cases c2 : nI (a_mk a) ≤ x
    · rw [if_pos c2]; exact Or.inl rfl
    · rw [if_neg c2]
      rw [e, nI_leI (by omega) hj] at c2
      by_cases c3 : s.2 5 x.toNatClampNeg = 2
      · rw [if_pos c3]; exact Or.inl rfl
      · refine Or.inr ⟨j, by omega, e, fun q => c3 ?_⟩
        rw [e, nI_clamp hj, r.nd (f := 3) (by omega) (by omega), q]
        decide
theorem mc_isNy {l : Launch} {G : hpG} {h H : hpT} {m d : Nat} {a : aS} {z : mrZ} (sh : mo_sh G h m) (R : MR h m H a z) {n : Nat} (hn : n < a_mk a) (h3 : ¬ a_nd a 3 n = 2) : hp_C l G yX6_isNode (.code yX6_isNode cX6_isNode 2 (some .boolean)) d [.ref m, .int (nI n)] H (fun v h' => v = some (.int 1) ∧ MR h m h' a z) (fun _ _ => False) := by
  obtain ⟨s, rfl, r0, r1, r2, r3⟩ := R
  exact hp_Cw (mo_isNode (l := l) (d := d) (s := s) sh r0.ok) (fun v h' hv => ⟨by rw [hv.1, mc_iN r0 hn h3], s, hv.2, r0, r1, r2, r3⟩)
theorem mc_isNn {l : Launch} {G : hpG} {h H : hpT} {m d : Nat} {a : aS} {z : mrZ} (sh : mo_sh G h m) (R : MR h m H a z) {x : Int32} (hb : a_bad a x) : hp_C l G yX6_isNode (.code yX6_isNode cX6_isNode 2 (some .boolean)) d [.ref m, .int x] H (fun v h' => v = some (.int 0) ∧ MR h m h' a z) (fun _ _ => False) := by
  obtain ⟨s, rfl, r0, r1, r2, r3⟩ := R
  refine hp_Cw (mo_isNode (l := l) (d := d) (s := s) sh r0.ok) (fun v h' hv => ⟨?_, s, hv.2, r0, r1, r2, r3⟩)
  rcases mc_iN0 r0 (x := x) with e | ⟨n, q1, q2, q3⟩
  · rw [hv.1, e]
  · exact absurd (hb n q1 q2) q3
theorem mc_isWy {l : Launch} {G : hpG} {h H : hpT} {m d : Nat} {a : aS} {z : mrZ} (sh : mo_sh G h m) (R : MR h m H a z) {n : Nat} (hn : n < a_mk a) (h3 : ¬ a_nd a 3 n = 2) (hk : a_nd a 0 n = 0) (hd : 1 ≤ d) : hp_C l G yX6_isWorker (.code yX6_isWorker cX6_isWorker 2 (some .boolean)) d [.ref m, .int (nI n)] H (fun v h' => v = some (.int 1) ∧ MR h m h' a z) (fun _ _ => False) := by
  obtain ⟨s, rfl, r0, r1, r2, r3⟩ := R
  refine hp_Cw (mo_isWorker (l := l) (d := d) (s := s) sh r0.ok hd) (fun v h' hv => ⟨?_, s, hv.2, r0, r1, r2, r3⟩)
  have m8 := r0.1.2.2
  rw [hv.1]
  unfold mo_isW
  have e0 : s.2 2 n = 0 := by
    have := r0.nd (f := 0) (n := n) (by omega) (by omega)
    rw [hk] at this
    exact this
  rw [mc_iN r0 hn h3, if_neg (by decide), nI_clamp (by omega), if_pos e0]
theorem mc_isWn {l : Launch} {G : hpG} {h H : hpT} {m d : Nat} {a : aS} {z : mrZ} (sh : mo_sh G h m) (R : MR h m H a z) (T : a_T a) {x : Int32} (hb : ∀ n, n < a_mk a → x = nI n → a_nd a 0 n = 0 → a_nd a 3 n = 2) (hd : 1 ≤ d) : hp_C l G yX6_isWorker (.code yX6_isWorker cX6_isWorker 2 (some .boolean)) d [.ref m, .int x] H (fun v h' => v = some (.int 0) ∧ MR h m h' a z) (fun _ _ => False) := by
  obtain ⟨s, rfl, r0, r1, r2, r3⟩ := R
  refine hp_Cw (mo_isWorker (l := l) (d := d) (s := s) sh r0.ok hd) (fun v h' hv => ⟨?_, s, hv.2, r0, r1, r2, r3⟩)
  have m8 := r0.1.2.2
  rw [hv.1]
  unfold mo_isW
  rcases mc_iN0 r0 (x := x) with e | ⟨n, q1, q2, q3⟩
  · rw [if_pos e]
  · rcases T.kb q1 with hk | hk
    · exact absurd (hb n q1 q2 hk) q3
    · have e0 : ¬ s.2 2 n = 0 := by
        have := r0.nd (f := 0) (n := n) (by omega) (by omega)
        rw [hk] at this
        rw [this]
        decide
      rw [q2, mc_iN r0 q1 q3, if_neg (by decide), nI_clamp (by omega), if_neg e0]
theorem mc_isKy {l : Launch} {G : hpG} {h H : hpT} {m d : Nat} {a : aS} {z : mrZ} (sh : mo_sh G h m) (R : MR h m H a z) {n : Nat} (hn : n < a_mk a) (h3 : ¬ a_nd a 3 n = 2) (hk : a_nd a 0 n = 1) (hd : 1 ≤ d) : hp_C l G yX6_isKeeper (.code yX6_isKeeper cX6_isKeeper 2 (some .boolean)) d [.ref m, .int (nI n)] H (fun v h' => v = some (.int 1) ∧ MR h m h' a z) (fun _ _ => False) := by
  obtain ⟨s, rfl, r0, r1, r2, r3⟩ := R
  refine hp_Cw (mo_isKeeper (l := l) (d := d) (s := s) sh r0.ok hd) (fun v h' hv => ⟨?_, s, hv.2, r0, r1, r2, r3⟩)
  have m8 := r0.1.2.2
  rw [hv.1]
  unfold mo_isK
  have e0 : ¬ s.2 2 n = 0 := by
    have := r0.nd (f := 0) (n := n) (by omega) (by omega)
    rw [hk] at this
    rw [this]
    decide
  rw [mc_iN r0 hn h3, if_neg (by decide), nI_clamp (by omega), if_neg e0]
theorem mc_isKn {l : Launch} {G : hpG} {h H : hpT} {m d : Nat} {a : aS} {z : mrZ} (sh : mo_sh G h m) (R : MR h m H a z) (T : a_T a) {x : Int32} (hb : ∀ n, n < a_mk a → x = nI n → a_nd a 0 n = 1 → a_nd a 3 n = 2) (hd : 1 ≤ d) : hp_C l G yX6_isKeeper (.code yX6_isKeeper cX6_isKeeper 2 (some .boolean)) d [.ref m, .int x] H (fun v h' => v = some (.int 0) ∧ MR h m h' a z) (fun _ _ => False) := by
  obtain ⟨s, rfl, r0, r1, r2, r3⟩ := R
  refine hp_Cw (mo_isKeeper (l := l) (d := d) (s := s) sh r0.ok hd) (fun v h' hv => ⟨?_, s, hv.2, r0, r1, r2, r3⟩)
  have m8 := r0.1.2.2
  rw [hv.1]
  unfold mo_isK
  rcases mc_iN0 r0 (x := x) with e | ⟨n, q1, q2, q3⟩
  · rw [if_pos e]
  · rcases T.kb q1 with hk | hk
    · have e0 : s.2 2 n = 0 := by
        have := r0.nd (f := 0) (n := n) (by omega) (by omega)
        rw [hk] at this
        exact this
      rw [q2, mc_iN r0 q1 q3, if_neg (by decide), nI_clamp (by omega), if_pos e0]
    · exact absurd (hb n q1 q2 hk) q3
/-- is x within lo and hi: yes -/
theorem mc_inY {l : Launch} {G : hpG} {h : hpT} {d : Nat} {x lw hg : Int32} {L U : Int} (hl : lw.toInt = L) (hh : hg.toInt = U) (hx : L ≤ x.toInt ∧ x.toInt ≤ U) : hp_C l G yX6_in (.code yX6_in cX6_in 3 (some .boolean)) d [.int x, .int lw, .int hg] h (fun v h' => v = some (.int 1) ∧ h' = h) (fun _ _ => False) :=
  hp_Cw mo_in (fun v h' hv => ⟨by rw [hv.1]; unfold mo_inn; rw [if_neg (by rw [Int32.lt_iff_toInt_lt]; omega), if_neg (by rw [Int32.lt_iff_toInt_lt]; omega)], hv.2⟩)
theorem mc_inN {l : Launch} {G : hpG} {h : hpT} {d : Nat} {x lw hg : Int32} {L U : Int} (hl : lw.toInt = L) (hh : hg.toInt = U) (hx : ¬ (L ≤ x.toInt ∧ x.toInt ≤ U)) : hp_C l G yX6_in (.code yX6_in cX6_in 3 (some .boolean)) d [.int x, .int lw, .int hg] h (fun v h' => v = some (.int 0) ∧ h' = h) (fun _ _ => False) :=
  hp_Cw mo_in (fun v h' hv => ⟨by
    rw [hv.1]
    unfold mo_inn
    by_cases c : x < lw
    · rw [if_pos c]
    · rw [if_neg c]
      rw [Int32.lt_iff_toInt_lt] at c
      rw [if_pos (by rw [Int32.lt_iff_toInt_lt]; omega)], hv.2⟩)
/-- keeper n's t is set while it is down -/
theorem rb_R.s7 {s : moS} {a : aS} {ex : Nat} (x : rb_R s a ex) {n : Nat} {v : Int} (hn : n < 80) (hv : a_sm v) (h3 : ¬ a_nd a 3 n = 1) : rb_R (mo_up s 9 n (Int32.ofInt v)) (a_sn a 7 n v) ex := by
  obtain ⟨x1, x2, x3, x4, x5, x6, x7, x8, x9⟩ := x
  have ne : ∀ k, k ≠ 9 → (mo_up s 9 n (Int32.ofInt v)).2 k = s.2 k := fun k hk => va_up_ne _ _ hk
  have nn : ∀ g, g ≠ 7 → a_nd (a_sn a 7 n v) g = a_nd a g := fun g hg => va_up_ne _ _ hg
  refine ⟨x1, x2, x3, x4, x5, fun g q hg hq => ?_, fun q hq => ?_, fun i hi q hq => ?_, fun q hq => ?_⟩
  · show va_up s.2 9 (va_up (s.2 9) n (Int32.ofInt v)) (g + 2) q = Int32.ofInt (va_up (a_nd a) 7 (va_up (a_nd a 7) n v) g q) ∧ a_sm (va_up (a_nd a) 7 (va_up (a_nd a 7) n v) g q)
    by_cases e : g = 7
    · subst e
      rw [va_up_self, va_up_self]
      by_cases e2 : q = n
      · subst e2
        rw [va_up_self, va_up_self]
        exact ⟨rfl, hv⟩
      · rw [va_up_ne _ _ e2, va_up_ne _ _ e2]
        exact x6 7 q hg hq
    · rw [va_up_ne _ _ e, va_up_ne _ _ (show g + 2 ≠ 9 by omega)]
      exact x6 g q hg hq
  · rw [ne 15 (by omega), ne 14 (by omega)]
    exact x7 q hq
  · rw [ne 20 (by omega)]
    exact x8 i hi q hq
  · obtain ⟨p, y1, y2, y3, y4, dr, y5, y6⟩ := x9 q hq
    refine ⟨p, ?_⟩
    unfold rb_t
    rw [ne 17 (by omega), ne 16 (by omega), nn 3 (by omega)]
    refine ⟨y1, y2, y3, y4, dr, y5, fun e => ?_⟩
    have hqn : q ≠ n := fun c => h3 (by rw [← c]; exact e)
    have e7 : a_nd (a_sn a 7 n v) 7 q = a_nd a 7 q := by
      show va_up (a_nd a) 7 (va_up (a_nd a 7) n v) 7 q = _
      rw [va_up_self, va_up_ne _ _ hqn]
    rw [e7]
    exact y6 e
theorem ms_s7 {M : hpM} {G : hpG} {y : MethodName} {cc : ByteArray} {nL d : Nat} {h0 h H : hpT} {Q : State → Prop} {pc : Nat} {lo : Nat → Option Value} {st : List Value} {m : Nat} {a : aS} {z : mrZ} {n : Nat} (C : hp_F M G y cc nL d h0) (x : mo_sh G h m) (R : MR h m H a z) (hn : n < 80) {v : Int32} (q : Int) (hq : a_sm q) (h3 : ¬ a_nd a 3 n = 1) (ev : v = Int32.ofInt q) (dd : decode cc pc = .ok (.iastore, 1)) (kk : ∀ H', MR h m H' (a_sn a 7 n q) z → hp_V M G nL Q H' (pc + 1) lo st) : hp_V M G nL Q H pc lo (.int v :: .int (nI n) :: .ref (mo_arr m 9) :: st) := by
  subst ev
  obtain ⟨s, rfl, r, r1, r2, r3⟩ := R
  refine mo_ast C x rfl (by decide) dd (nI_in hn (by decide)) ?_
  rw [nI_clamp (by omega)]
  exact kk _ ⟨_, rfl, r.s7 hn hq h3, (show va_up s.2 9 (va_up (s.2 9) n (Int32.ofInt q)) 23 = z.1 from (va_up_ne _ _ (by decide)).trans r1), (show va_up s.2 9 (va_up (s.2 9) n (Int32.ofInt q)) 24 = z.2.1 from (va_up_ne _ _ (by decide)).trans r2), r3⟩
theorem k_i32 (x : Int32) : x = Int32.ofInt x.toInt := (Int32.ofInt_toInt x).symm
set_option maxRecDepth 20000 in
set_option maxHeartbeats 4000000 in
theorem mp_killX {l : Launch} {G : hpG} {h H : hpT} {m d : Nat} {a : aS} {z : mrZ} (sh : mo_sh G h m) (R : MR h m H a z) {x : Int32} (hb : a_bad a x) (hd : 6 ≤ d) : hp_C l G yX6_kill (.code yX6_kill cX6_kill 3 (some .int)) d [.ref m, .int x] (H) (fun v h' => v = some (.int 0) ∧ MR h m h' a (z.1, z.2.1, 1, z.2.2.2)) (fun _ _ => False) := by
  refine hp_ofV (by decide) (by simp [Value.category]) (Nat.le_of_ble_eq_true rfl) (fun M C hr hx el => ?_)
  refine hp_aload_nR C dX6_kill_0 rfl ?_
  refine hp_aload_nR C dX6_kill_1 rfl ?_
  refine hp_iload_n C dX6_kill_2 rfl ?_
  refine hp_callV (ci := 6) C ml_X6_75 im_X6_isNode se_X6_isNode rfl (by decide) (mc_isNn (d := d - 1) sh R hb) (by omega) dX6_kill_3 (R.o sh) rfl rfl (by simp [Value.category]) (fun v_3 h_3 hp => ?_) (fun _ _ hf => hf.elim)
  obtain ⟨rfl, R_3⟩ := hp
  refine hp_if_ne (tgt := 13) C dX6_kill_6 (by decide) (fun z_9 => absurd z_9 (by decide)) (fun _ => ?_)
  refine hp_iconst (v := 1) C dX6_kill_9 (by decide) ?_
  refine hp_goto (tgt := 28) C dX6_kill_10 (by decide) ?_
  refine hp_callV (ci := 6) C ml_X6_125 im_X6_refuses se_X6_refuses rfl (by decide) (mc_refu (d := d - 1) (c := 1) (r := 1) sh R_3 (by decide)) (by omega) dX6_kill_28 (R_3.o sh) rfl rfl (by simp [Value.category]) (fun v_28 h_28 hp => ?_) (fun _ _ hf => hf.elim)
  obtain ⟨rfl, R_28⟩ := hp
  refine hp_if_eq (tgt := 36) C dX6_kill_31 (by decide) (fun z_9 => absurd z_9 (by decide)) (fun _ => ?_)
  refine hp_iconst (v := 0) C dX6_kill_34 (by decide) ?_
  refine hp_iret C hr rfl dX6_kill_35 ?_
  exact ⟨rfl, R_28⟩
set_option maxRecDepth 20000 in
set_option maxHeartbeats 4000000 in
theorem mp_killS {l : Launch} {G : hpG} {h H : hpT} {m d : Nat} {a : aS} {z : mrZ} (sh : mo_sh G h m) (R : MR h m H a z) {n : Nat} (T : a_T a) (hn : n < a_mk a) (h3 : ¬ a_nd a 3 n = 2) (hu : ¬ a_nd a 3 n = 1) (hd : 6 ≤ d) : hp_C l G yX6_kill (.code yX6_kill cX6_kill 3 (some .int)) d [.ref m, .int (nI n)] (H) (fun v h' => v = some (.int 0) ∧ MR h m h' a (z.1, z.2.1, 2, z.2.2.2)) (fun _ _ => False) := by
  have hn8 : n < 80 := Nat.lt_of_lt_of_le hn T.1.2
  have r3 := T.r3 hn
  refine hp_ofV (by decide) (by simp [Value.category]) (Nat.le_of_ble_eq_true rfl) (fun M C hr hx el => ?_)
  refine hp_aload_nR C dX6_kill_0 rfl ?_
  refine hp_aload_nR C dX6_kill_1 rfl ?_
  refine hp_iload_n C dX6_kill_2 rfl ?_
  refine hp_callV (ci := 6) C ml_X6_75 im_X6_isNode se_X6_isNode rfl (by decide) (mc_isNy (d := d - 1) sh R hn h3) (by omega) dX6_kill_3 (R.o sh) rfl rfl (by simp [Value.category]) (fun v_3 h_3 hp => ?_) (fun _ _ hf => hf.elim)
  obtain ⟨rfl, R_3⟩ := hp
  refine hp_if_ne (tgt := 13) C dX6_kill_6 (by decide) (fun _ => ?_) (fun z_9 => absurd z_9 (by decide))
  refine hp_aload_nR C dX6_kill_13 rfl ?_
  refine mr_A C sh R_3 fl_X6_20_6 rfl (by decide) dX6_kill_14 ?_
  refine hp_iload_n C dX6_kill_17 rfl ?_
  refine mr_nd C sh R_3 5 3 (by decide) (by decide) rfl hn8 dX6_kill_18 ?_
  refine hp_iconst (v := 1) C dX6_kill_19 (by decide) ?_
  refine hp_icmp_eq (tgt := 27) C dX6_kill_20 (by decide) (fun z_9 => absurd z_9 (fun q => hu ((a_ofI_eq (x := a_nd a 3 n) (y := 1) (by omega) (by omega)).mp q))) (fun _ => ?_)
  refine hp_iconst (v := 2) C dX6_kill_23 (by decide) ?_
  refine hp_goto (tgt := 28) C dX6_kill_24 (by decide) ?_
  refine hp_callV (ci := 6) C ml_X6_125 im_X6_refuses se_X6_refuses rfl (by decide) (mc_refu (d := d - 1) (c := 2) (r := 1) sh R_3 (by decide)) (by omega) dX6_kill_28 (R_3.o sh) rfl rfl (by simp [Value.category]) (fun v_28 h_28 hp => ?_) (fun _ _ hf => hf.elim)
  obtain ⟨rfl, R_28⟩ := hp
  refine hp_if_eq (tgt := 36) C dX6_kill_31 (by decide) (fun z_9 => absurd z_9 (by decide)) (fun _ => ?_)
  refine hp_iconst (v := 0) C dX6_kill_34 (by decide) ?_
  refine hp_iret C hr rfl dX6_kill_35 ?_
  exact ⟨rfl, R_28⟩
set_option maxRecDepth 20000 in
set_option maxHeartbeats 4000000 in
theorem mp_kill {l : Launch} {G : hpG} {h H : hpT} {m d : Nat} {a : aS} {z : mrZ} (sh : mo_sh G h m) (R : MR h m H a z) (hz : z.2.2.2 = 80) {n : Nat} (I : a_I a) (hn : n < a_mk a) (h3 : ¬ a_nd a 3 n = 2) (hu : a_nd a 3 n = 1) (hq : a_hq 9 n 9 (a_ce true (a_fu a n) n a).2) (htm : a_tm (a_hd 9 n 9 (a_ce true (a_fu a n) n a).2) < 2 ^ 30) (hv : (a_ev (a_hd 9 n 9 (a_ce true (a_fu a n) n a).2)).length < 2 ^ 30) (hd : 6 ≤ d) : hp_C l G yX6_kill (.code yX6_kill cX6_kill 3 (some .int)) d [.ref m, .int (nI n)] (H) (fun v h' => v = some (.int (nI (a_ce true (a_fu a n) n a).1)) ∧ ∃ z', MR h m h' (a_hd 9 n 9 (a_ce true (a_fu a n) n a).2) z' ∧ z'.2.2 = (0, 80)) (fun _ _ => False) := by
  have T := I.1
  have kg := a_ce_gk true (a_fu a n) n a I.1 hn h3
  have hn8 : n < 80 := Nat.lt_of_lt_of_le hn T.1.2
  have r3 := T.r3 hn
  refine hp_ofV (by decide) (by simp [Value.category]) (Nat.le_of_ble_eq_true rfl) (fun M C hr hx el => ?_)
  refine hp_aload_nR C dX6_kill_0 rfl ?_
  refine hp_aload_nR C dX6_kill_1 rfl ?_
  refine hp_iload_n C dX6_kill_2 rfl ?_
  refine hp_callV (ci := 6) C ml_X6_75 im_X6_isNode se_X6_isNode rfl (by decide) (mc_isNy (d := d - 1) sh R hn h3) (by omega) dX6_kill_3 (R.o sh) rfl rfl (by simp [Value.category]) (fun v_3 h_3 hp => ?_) (fun _ _ hf => hf.elim)
  obtain ⟨rfl, R_3⟩ := hp
  refine hp_if_ne (tgt := 13) C dX6_kill_6 (by decide) (fun _ => ?_) (fun z_9 => absurd z_9 (by decide))
  refine hp_aload_nR C dX6_kill_13 rfl ?_
  refine mr_A C sh R_3 fl_X6_20_6 rfl (by decide) dX6_kill_14 ?_
  refine hp_iload_n C dX6_kill_17 rfl ?_
  refine mr_nd C sh R_3 5 3 (by decide) (by decide) rfl hn8 dX6_kill_18 ?_
  refine hp_iconst (v := 1) C dX6_kill_19 (by decide) ?_
  refine hp_icmp_eq (tgt := 27) C dX6_kill_20 (by decide) (fun _ => ?_) (fun z_9 => absurd (show Int32.ofInt (a_nd a 3 n) = 1 by rw [hu]; decide) z_9)
  refine hp_iconst (v := 0) C dX6_kill_27 (by decide) ?_
  refine hp_callV (ci := 6) C ml_X6_125 im_X6_refuses se_X6_refuses rfl (by decide) (mc_refu (d := d - 1) (c := 0) (r := 0) sh R_3 (by decide)) (by omega) dX6_kill_28 (R_3.o sh) rfl rfl (by simp [Value.category]) (fun v_28 h_28 hp => ?_) (fun _ _ hf => hf.elim)
  obtain ⟨rfl, R_28⟩ := hp
  refine hp_if_eq (tgt := 36) C dX6_kill_31 (by decide) (fun _ => ?_) (fun z_9 => absurd z_9 (by decide))
  refine hp_aload_nR C dX6_kill_36 rfl ?_
  refine hp_iload_n C dX6_kill_37 rfl ?_
  refine hp_iconst (v := 0) C dX6_kill_38 (by decide) ?_
  refine hp_iconst (v := 1) C dX6_kill_39 (by decide) ?_
  refine hp_callV (ci := 6) C ml_X6_92 im_X6_ceases se_X6_ceases rfl (by decide) (mc_cea (d := d - 1) (k := true) (f := a_fu a n) (fr := 0) sh R_28 I.1 hn (by have := I.1.r2 hn; show (9 : Int) ≤ ((9 - a_nd a 2 n).toNat : Nat) + a_nd a 2 n; omega) (by have := I.1.r2 hn; omega) (Nat.lt_of_le_of_lt (a_hd_le 9 n 9 _).2.1 hv) (by omega)) (by omega) dX6_kill_40 (R_28.o sh) rfl rfl (by simp [Value.category]) (fun v_40 h_40 hp => ?_) (fun _ _ hf => hf.elim)
  obtain ⟨rfl, z1, R_40, -, g1⟩ := hp
  refine hp_istore_n C dX6_kill_43 (by decide) ?_
  refine hp_aload_nR C dX6_kill_44 rfl ?_
  refine hp_iload_n C dX6_kill_45 rfl ?_
  refine hp_bipush (v := 9) C dX6_kill_46 (by decide) ?_
  refine hp_callV (ci := 6) C ml_X6_137 im_X6_handles se_X6_handles rfl (by decide) (mc_han (d := d - 1) (c := n) (y := 9) sh R_40 (by rw [g1]; exact hz) (I.gk kg) (by rw [kg.1.mk]; exact hn) (by rw [kg.2.1]; exact h3) hq (by decide) htm hv (by omega)) (by omega) dX6_kill_48 (R_40.o sh) rfl rfl (by simp [Value.category]) (fun v_48 h_48 hp => ?_) (fun _ _ hf => hf.elim)
  obtain ⟨rfl, z2, R_48, g2⟩ := hp
  refine hp_iload_n C dX6_kill_51 rfl ?_
  refine hp_iret C hr rfl dX6_kill_52 ?_
  exact ⟨rfl, z2, R_48, g2.trans (g1.trans (Prod.ext rfl hz))⟩
set_option maxRecDepth 20000 in
set_option maxHeartbeats 4000000 in
theorem mp_endsX {l : Launch} {G : hpG} {h H : hpT} {m d : Nat} {a : aS} {z : mrZ} (sh : mo_sh G h m) (R : MR h m H a z) (T : a_T a) {x g : Int32} (hb : ∀ n, n < a_mk a → x = nI n → a_nd a 0 n = 0 → a_nd a 3 n = 2) (hd : 7 ≤ d) : hp_C l G yX6_ends (.code yX6_ends cX6_ends 3 none) d [.ref m, .int x, .int g] (H) (fun v h' => v = none ∧ MR h m h' a (z.1, z.2.1, 1, z.2.2.2)) (fun _ _ => False) := by
  refine hp_ofV (by decide) (by simp [Value.category]) (Nat.le_of_ble_eq_true rfl) (fun M C hr hx el => ?_)
  refine hp_aload_nR C dX6_ends_0 rfl ?_
  refine hp_aload_nR C dX6_ends_1 rfl ?_
  refine hp_iload_n C dX6_ends_2 rfl ?_
  refine hp_callV (ci := 6) C ml_X6_134 im_X6_isWorker se_X6_isWorker rfl (by decide) (mc_isWn (d := d - 1) sh R T hb (by omega)) (by omega) dX6_ends_3 (R.o sh) rfl rfl (by simp [Value.category]) (fun v_3 h_3 hp => ?_) (fun _ _ hf => hf.elim)
  obtain ⟨rfl, R_3⟩ := hp
  refine hp_if_eq (tgt := 19) C dX6_ends_6 (by decide) (fun _ => ?_) (fun z_9 => absurd z_9 (by decide))
  refine hp_iconst (v := 1) C dX6_ends_19 (by decide) ?_
  refine hp_goto (tgt := 38) C dX6_ends_20 (by decide) ?_
  refine hp_callV (ci := 6) C ml_X6_125 im_X6_refuses se_X6_refuses rfl (by decide) (mc_refu (d := d - 1) (c := 1) (r := 1) sh R_3 (by decide)) (by omega) dX6_ends_38 (R_3.o sh) rfl rfl (by simp [Value.category]) (fun v_38 h_38 hp => ?_) (fun _ _ hf => hf.elim)
  obtain ⟨rfl, R_38⟩ := hp
  refine hp_if_eq (tgt := 45) C dX6_ends_41 (by decide) (fun z_9 => absurd z_9 (by decide)) (fun _ => ?_)
  refine hp_vret C hr dX6_ends_44 ?_
  exact ⟨rfl, R_38⟩
set_option maxRecDepth 20000 in
set_option maxHeartbeats 4000000 in
theorem mp_endsY {l : Launch} {G : hpG} {h H : hpT} {m d : Nat} {a : aS} {z : mrZ} (sh : mo_sh G h m) (R : MR h m H a z) {n : Nat} (T : a_T a) (hn : n < a_mk a) (h3 : ¬ a_nd a 3 n = 2) (hk : a_nd a 0 n = 0) {g : Int32} (hg : ¬ (0 ≤ g.toInt ∧ g.toInt ≤ 9)) (hd : 7 ≤ d) : hp_C l G yX6_ends (.code yX6_ends cX6_ends 3 none) d [.ref m, .int (nI n), .int g] (H) (fun v h' => v = none ∧ MR h m h' a (z.1, z.2.1, 1, z.2.2.2)) (fun _ _ => False) := by
  have hn8 : n < 80 := Nat.lt_of_lt_of_le hn T.1.2
  have r3 := T.r3 hn
  refine hp_ofV (by decide) (by simp [Value.category]) (Nat.le_of_ble_eq_true rfl) (fun M C hr hx el => ?_)
  refine hp_aload_nR C dX6_ends_0 rfl ?_
  refine hp_aload_nR C dX6_ends_1 rfl ?_
  refine hp_iload_n C dX6_ends_2 rfl ?_
  refine hp_callV (ci := 6) C ml_X6_134 im_X6_isWorker se_X6_isWorker rfl (by decide) (mc_isWy (d := d - 1) sh R hn h3 hk (by omega)) (by omega) dX6_ends_3 (R.o sh) rfl rfl (by simp [Value.category]) (fun v_3 h_3 hp => ?_) (fun _ _ hf => hf.elim)
  obtain ⟨rfl, R_3⟩ := hp
  refine hp_if_eq (tgt := 19) C dX6_ends_6 (by decide) (fun z_9 => absurd z_9 (by decide)) (fun _ => ?_)
  refine hp_iload_n C dX6_ends_9 rfl ?_
  refine hp_iconst (v := 0) C dX6_ends_10 (by decide) ?_
  refine hp_bipush (v := 9) C dX6_ends_11 (by decide) ?_
  refine hp_callS C ml_X6_118 sm_X6_in (mc_inN (d := d - 1) (by decide) (by decide) hg) (by omega) dX6_ends_13 rfl rfl (by simp [Value.category]) (fun v_13 h_13 hp => ?_) (fun _ _ hf => hf.elim)
  obtain ⟨rfl, rfl⟩ := hp
  refine hp_if_ne (tgt := 23) C dX6_ends_16 (by decide) (fun z_9 => absurd z_9 (by decide)) (fun _ => ?_)
  refine hp_iconst (v := 1) C dX6_ends_19 (by decide) ?_
  refine hp_goto (tgt := 38) C dX6_ends_20 (by decide) ?_
  refine hp_callV (ci := 6) C ml_X6_125 im_X6_refuses se_X6_refuses rfl (by decide) (mc_refu (d := d - 1) (c := 1) (r := 1) sh R_3 (by decide)) (by omega) dX6_ends_38 (R_3.o sh) rfl rfl (by simp [Value.category]) (fun v_38 h_38 hp => ?_) (fun _ _ hf => hf.elim)
  obtain ⟨rfl, R_38⟩ := hp
  refine hp_if_eq (tgt := 45) C dX6_ends_41 (by decide) (fun z_9 => absurd z_9 (by decide)) (fun _ => ?_)
  refine hp_vret C hr dX6_ends_44 ?_
  exact ⟨rfl, R_38⟩
set_option maxRecDepth 20000 in
set_option maxHeartbeats 4000000 in
theorem mp_endsS {l : Launch} {G : hpG} {h H : hpT} {m d : Nat} {a : aS} {z : mrZ} (sh : mo_sh G h m) (R : MR h m H a z) {n : Nat} (T : a_T a) (hn : n < a_mk a) (h3 : ¬ a_nd a 3 n = 2) (hk : a_nd a 0 n = 0) {g : Int32} (hg : 0 ≤ g.toInt ∧ g.toInt ≤ 9) (hu : ¬ a_nd a 3 n = 1) (hd : 7 ≤ d) : hp_C l G yX6_ends (.code yX6_ends cX6_ends 3 none) d [.ref m, .int (nI n), .int g] (H) (fun v h' => v = none ∧ MR h m h' a (z.1, z.2.1, 2, z.2.2.2)) (fun _ _ => False) := by
  have hn8 : n < 80 := Nat.lt_of_lt_of_le hn T.1.2
  have r3 := T.r3 hn
  refine hp_ofV (by decide) (by simp [Value.category]) (Nat.le_of_ble_eq_true rfl) (fun M C hr hx el => ?_)
  refine hp_aload_nR C dX6_ends_0 rfl ?_
  refine hp_aload_nR C dX6_ends_1 rfl ?_
  refine hp_iload_n C dX6_ends_2 rfl ?_
  refine hp_callV (ci := 6) C ml_X6_134 im_X6_isWorker se_X6_isWorker rfl (by decide) (mc_isWy (d := d - 1) sh R hn h3 hk (by omega)) (by omega) dX6_ends_3 (R.o sh) rfl rfl (by simp [Value.category]) (fun v_3 h_3 hp => ?_) (fun _ _ hf => hf.elim)
  obtain ⟨rfl, R_3⟩ := hp
  refine hp_if_eq (tgt := 19) C dX6_ends_6 (by decide) (fun z_9 => absurd z_9 (by decide)) (fun _ => ?_)
  refine hp_iload_n C dX6_ends_9 rfl ?_
  refine hp_iconst (v := 0) C dX6_ends_10 (by decide) ?_
  refine hp_bipush (v := 9) C dX6_ends_11 (by decide) ?_
  refine hp_callS C ml_X6_118 sm_X6_in (mc_inY (d := d - 1) (by decide) (by decide) hg) (by omega) dX6_ends_13 rfl rfl (by simp [Value.category]) (fun v_13 h_13 hp => ?_) (fun _ _ hf => hf.elim)
  obtain ⟨rfl, rfl⟩ := hp
  refine hp_if_ne (tgt := 23) C dX6_ends_16 (by decide) (fun _ => ?_) (fun z_9 => absurd z_9 (by decide))
  refine hp_aload_nR C dX6_ends_23 rfl ?_
  refine mr_A C sh R_3 fl_X6_20_6 rfl (by decide) dX6_ends_24 ?_
  refine hp_iload_n C dX6_ends_27 rfl ?_
  refine mr_nd C sh R_3 5 3 (by decide) (by decide) rfl hn8 dX6_ends_28 ?_
  refine hp_iconst (v := 1) C dX6_ends_29 (by decide) ?_
  refine hp_icmp_eq (tgt := 37) C dX6_ends_30 (by decide) (fun z_9 => absurd z_9 (fun q => hu ((a_ofI_eq (x := a_nd a 3 n) (y := 1) (by omega) (by omega)).mp q))) (fun _ => ?_)
  refine hp_iconst (v := 2) C dX6_ends_33 (by decide) ?_
  refine hp_goto (tgt := 38) C dX6_ends_34 (by decide) ?_
  refine hp_callV (ci := 6) C ml_X6_125 im_X6_refuses se_X6_refuses rfl (by decide) (mc_refu (d := d - 1) (c := 2) (r := 1) sh R_3 (by decide)) (by omega) dX6_ends_38 (R_3.o sh) rfl rfl (by simp [Value.category]) (fun v_38 h_38 hp => ?_) (fun _ _ hf => hf.elim)
  obtain ⟨rfl, R_38⟩ := hp
  refine hp_if_eq (tgt := 45) C dX6_ends_41 (by decide) (fun z_9 => absurd z_9 (by decide)) (fun _ => ?_)
  refine hp_vret C hr dX6_ends_44 ?_
  exact ⟨rfl, R_38⟩
set_option maxRecDepth 20000 in
set_option maxHeartbeats 4000000 in
theorem mp_ends {l : Launch} {G : hpG} {h H : hpT} {m d : Nat} {a : aS} {z : mrZ} (sh : mo_sh G h m) (R : MR h m H a z) (hz : z.2.2.2 = 80) {n y : Nat} (I : a_I a) (hn : n < a_mk a) (h3 : ¬ a_nd a 3 n = 2) (hk : a_nd a 0 n = 0) (hg : y ≤ 9) (hu : a_nd a 3 n = 1) (hq : a_hq 9 n y (a_no (a_sn a 3 n 0) 5 n y)) (htm : a_tm (a_hd 9 n y (a_no (a_sn a 3 n 0) 5 n y)) < 2 ^ 30) (hv : (a_ev (a_hd 9 n y (a_no (a_sn a 3 n 0) 5 n y))).length < 2 ^ 30) (hd : 7 ≤ d) : hp_C l G yX6_ends (.code yX6_ends cX6_ends 3 none) d [.ref m, .int (nI n), .int (nI y)] (H) (fun v h' => v = none ∧ ∃ z', MR h m h' (a_hd 9 n y (a_no (a_sn a 3 n 0) 5 n y)) z' ∧ z'.2.2 = (0, 80)) (fun _ _ => False) := by
  have T := I.1
  have kg : a_gk a (a_no (a_sn a 3 n 0) 5 n y) := (a_gk.sn3 a hn h3 (by omega)).tr (a_gk.no _ _ _ _)
  have hn8 : n < 80 := Nat.lt_of_lt_of_le hn T.1.2
  have r3 := T.r3 hn
  refine hp_ofV (by decide) (by simp [Value.category]) (Nat.le_of_ble_eq_true rfl) (fun M C hr hx el => ?_)
  refine hp_aload_nR C dX6_ends_0 rfl ?_
  refine hp_aload_nR C dX6_ends_1 rfl ?_
  refine hp_iload_n C dX6_ends_2 rfl ?_
  refine hp_callV (ci := 6) C ml_X6_134 im_X6_isWorker se_X6_isWorker rfl (by decide) (mc_isWy (d := d - 1) sh R hn h3 hk (by omega)) (by omega) dX6_ends_3 (R.o sh) rfl rfl (by simp [Value.category]) (fun v_3 h_3 hp => ?_) (fun _ _ hf => hf.elim)
  obtain ⟨rfl, R_3⟩ := hp
  refine hp_if_eq (tgt := 19) C dX6_ends_6 (by decide) (fun z_9 => absurd z_9 (by decide)) (fun _ => ?_)
  refine hp_iload_n C dX6_ends_9 rfl ?_
  refine hp_iconst (v := 0) C dX6_ends_10 (by decide) ?_
  refine hp_bipush (v := 9) C dX6_ends_11 (by decide) ?_
  refine hp_callS C ml_X6_118 sm_X6_in (mc_inY (d := d - 1) (by decide) (by decide) (show (0 : Int) ≤ (nI y).toInt ∧ (nI y).toInt ≤ 9 by rw [nI_toInt (by omega)]; omega)) (by omega) dX6_ends_13 rfl rfl (by simp [Value.category]) (fun v_13 h_13 hp => ?_) (fun _ _ hf => hf.elim)
  obtain ⟨rfl, rfl⟩ := hp
  refine hp_if_ne (tgt := 23) C dX6_ends_16 (by decide) (fun _ => ?_) (fun z_9 => absurd z_9 (by decide))
  refine hp_aload_nR C dX6_ends_23 rfl ?_
  refine mr_A C sh R_3 fl_X6_20_6 rfl (by decide) dX6_ends_24 ?_
  refine hp_iload_n C dX6_ends_27 rfl ?_
  refine mr_nd C sh R_3 5 3 (by decide) (by decide) rfl hn8 dX6_ends_28 ?_
  refine hp_iconst (v := 1) C dX6_ends_29 (by decide) ?_
  refine hp_icmp_eq (tgt := 37) C dX6_ends_30 (by decide) (fun _ => ?_) (fun z_9 => absurd (show Int32.ofInt (a_nd a 3 n) = 1 by rw [hu]; decide) z_9)
  refine hp_iconst (v := 0) C dX6_ends_37 (by decide) ?_
  refine hp_callV (ci := 6) C ml_X6_125 im_X6_refuses se_X6_refuses rfl (by decide) (mc_refu (d := d - 1) (c := 0) (r := 0) sh R_3 (by decide)) (by omega) dX6_ends_38 (R_3.o sh) rfl rfl (by simp [Value.category]) (fun v_38 h_38 hp => ?_) (fun _ _ hf => hf.elim)
  obtain ⟨rfl, R_38⟩ := hp
  refine hp_if_eq (tgt := 45) C dX6_ends_41 (by decide) (fun _ => ?_) (fun z_9 => absurd z_9 (by decide))
  refine hp_aload_nR C dX6_ends_45 rfl ?_
  refine hp_iconst (v := 5) C dX6_ends_46 (by decide) ?_
  refine hp_iload_n C dX6_ends_47 rfl ?_
  refine hp_iload_n C dX6_ends_48 rfl ?_
  refine hp_callV (ci := 6) C ml_X6_89 im_X6_note se_X6_note rfl (by decide) (mc_note (d := d - 1) (w := 5) (n := n) (r := y) sh R_38 (Nat.lt_of_le_of_lt (Nat.le_trans (a_gk.no a 5 n y).1.ev (a_hd_le 9 n y (a_no (a_sn a 3 n 0) 5 n y)).2.1) hv)) (by omega) dX6_ends_49 (R_38.o sh) rfl rfl (by simp [Value.category]) (fun v_49 h_49 hp => ?_) (fun _ _ hf => hf.elim)
  obtain ⟨rfl, R_49⟩ := hp
  refine hp_aload_nR C dX6_ends_52 rfl ?_
  refine mr_A C sh R_49 fl_X6_20_6 rfl (by decide) dX6_ends_53 ?_
  refine hp_iload_n C dX6_ends_56 rfl ?_
  refine hp_iconst (v := 0) C dX6_ends_57 (by decide) ?_
  refine ms_st C sh R_49 hn8 0 (by omega) (fun z_7 => by cases z_7) (by decide) dX6_ends_58 (fun H_58 R_58 => ?_)
  refine hp_aload_nR C dX6_ends_59 rfl ?_
  refine hp_iload_n C dX6_ends_60 rfl ?_
  refine hp_iload_n C dX6_ends_61 rfl ?_
  refine hp_callV (ci := 6) C ml_X6_137 im_X6_handles se_X6_handles rfl (by decide) (mc_han (d := d - 1) (c := n) (y := y) (a := (a_no (a_sn a 3 n 0) 5 n y)) sh R_58 hz (I.gk kg) hn (by rw [kg.2.1]; exact h3) hq (by omega) htm hv (by omega)) (by omega) dX6_ends_62 (R_58.o sh) rfl rfl (by simp [Value.category]) (fun v_62 h_62 hp => ?_) (fun _ _ hf => hf.elim)
  obtain ⟨rfl, z2, R_62, g2⟩ := hp
  refine hp_vret C hr dX6_ends_65 ?_
  exact ⟨rfl, z2, R_62, g2.trans (Prod.ext rfl hz)⟩
set_option maxRecDepth 20000 in
set_option maxHeartbeats 4000000 in
theorem mp_stopX {l : Launch} {G : hpG} {h H : hpT} {m d : Nat} {a : aS} {z : mrZ} (sh : mo_sh G h m) (R : MR h m H a z) {x : Int32} (hb : a_bad a x) (hd : 6 ≤ d) : hp_C l G yX6_stop (.code yX6_stop cX6_stop 2 none) d [.ref m, .int x] (H) (fun v h' => v = none ∧ MR h m h' a (z.1, z.2.1, 1, z.2.2.2)) (fun _ _ => False) := by
  refine hp_ofV (by decide) (by simp [Value.category]) (Nat.le_of_ble_eq_true rfl) (fun M C hr hx el => ?_)
  refine hp_aload_nR C dX6_stop_0 rfl ?_
  refine hp_aload_nR C dX6_stop_1 rfl ?_
  refine hp_iload_n C dX6_stop_2 rfl ?_
  refine hp_callV (ci := 6) C ml_X6_75 im_X6_isNode se_X6_isNode rfl (by decide) (mc_isNn (d := d - 1) sh R hb) (by omega) dX6_stop_3 (R.o sh) rfl rfl (by simp [Value.category]) (fun v_3 h_3 hp => ?_) (fun _ _ hf => hf.elim)
  obtain ⟨rfl, R_3⟩ := hp
  refine hp_if_eq (tgt := 13) C dX6_stop_6 (by decide) (fun _ => ?_) (fun z_9 => absurd z_9 (by decide))
  refine hp_iconst (v := 1) C dX6_stop_13 (by decide) ?_
  refine hp_goto (tgt := 32) C dX6_stop_14 (by decide) ?_
  refine hp_callV (ci := 6) C ml_X6_125 im_X6_refuses se_X6_refuses rfl (by decide) (mc_refu (d := d - 1) (c := 1) (r := 1) sh R_3 (by decide)) (by omega) dX6_stop_32 (R_3.o sh) rfl rfl (by simp [Value.category]) (fun v_32 h_32 hp => ?_) (fun _ _ hf => hf.elim)
  obtain ⟨rfl, R_32⟩ := hp
  refine hp_if_eq (tgt := 39) C dX6_stop_35 (by decide) (fun z_9 => absurd z_9 (by decide)) (fun _ => ?_)
  refine hp_vret C hr dX6_stop_38 ?_
  exact ⟨rfl, R_32⟩
set_option maxRecDepth 20000 in
set_option maxHeartbeats 4000000 in
theorem mp_stopY {l : Launch} {G : hpG} {h H : hpT} {m d : Nat} {a : aS} {z : mrZ} (sh : mo_sh G h m) (R : MR h m H a z) (T : a_T a) (h3 : ¬ a_nd a 3 0 = 2) (hd : 6 ≤ d) : hp_C l G yX6_stop (.code yX6_stop cX6_stop 2 none) d [.ref m, .int (nI 0)] (H) (fun v h' => v = none ∧ MR h m h' a (z.1, z.2.1, 1, z.2.2.2)) (fun _ _ => False) := by
  refine hp_ofV (by decide) (by simp [Value.category]) (Nat.le_of_ble_eq_true rfl) (fun M C hr hx el => ?_)
  refine hp_aload_nR C dX6_stop_0 rfl ?_
  refine hp_aload_nR C dX6_stop_1 rfl ?_
  refine hp_iload_n C dX6_stop_2 rfl ?_
  refine hp_callV (ci := 6) C ml_X6_75 im_X6_isNode se_X6_isNode rfl (by decide) (mc_isNy (d := d - 1) sh R T.1.1 h3) (by omega) dX6_stop_3 (R.o sh) rfl rfl (by simp [Value.category]) (fun v_3 h_3 hp => ?_) (fun _ _ hf => hf.elim)
  obtain ⟨rfl, R_3⟩ := hp
  refine hp_if_eq (tgt := 13) C dX6_stop_6 (by decide) (fun z_9 => absurd z_9 (by decide)) (fun _ => ?_)
  refine hp_iload_n C dX6_stop_9 rfl ?_
  refine hp_if_ne (tgt := 17) C dX6_stop_10 (by decide) (fun z_9 => absurd z_9 (fun q => q (by decide))) (fun _ => ?_)
  refine hp_iconst (v := 1) C dX6_stop_13 (by decide) ?_
  refine hp_goto (tgt := 32) C dX6_stop_14 (by decide) ?_
  refine hp_callV (ci := 6) C ml_X6_125 im_X6_refuses se_X6_refuses rfl (by decide) (mc_refu (d := d - 1) (c := 1) (r := 1) sh R_3 (by decide)) (by omega) dX6_stop_32 (R_3.o sh) rfl rfl (by simp [Value.category]) (fun v_32 h_32 hp => ?_) (fun _ _ hf => hf.elim)
  obtain ⟨rfl, R_32⟩ := hp
  refine hp_if_eq (tgt := 39) C dX6_stop_35 (by decide) (fun z_9 => absurd z_9 (by decide)) (fun _ => ?_)
  refine hp_vret C hr dX6_stop_38 ?_
  exact ⟨rfl, R_32⟩
set_option maxRecDepth 20000 in
set_option maxHeartbeats 4000000 in
theorem mp_againX {l : Launch} {G : hpG} {h H : hpT} {m d : Nat} {a : aS} {z : mrZ} (sh : mo_sh G h m) (R : MR h m H a z) {x : Int32} (hb : a_bad a x) (hd : 6 ≤ d) : hp_C l G yX6_again (.code yX6_again cX6_again 2 (some .boolean)) d [.ref m, .int x] (H) (fun v h' => v = some (.int 0) ∧ MR h m h' a (z.1, z.2.1, 1, z.2.2.2)) (fun _ _ => False) := by
  refine hp_ofV (by decide) (by simp [Value.category]) (Nat.le_of_ble_eq_true rfl) (fun M C hr hx el => ?_)
  refine hp_aload_nR C dX6_again_0 rfl ?_
  refine hp_aload_nR C dX6_again_1 rfl ?_
  refine hp_iload_n C dX6_again_2 rfl ?_
  refine hp_callV (ci := 6) C ml_X6_75 im_X6_isNode se_X6_isNode rfl (by decide) (mc_isNn (d := d - 1) sh R hb) (by omega) dX6_again_3 (R.o sh) rfl rfl (by simp [Value.category]) (fun v_3 h_3 hp => ?_) (fun _ _ hf => hf.elim)
  obtain ⟨rfl, R_3⟩ := hp
  refine hp_if_eq (tgt := 13) C dX6_again_6 (by decide) (fun _ => ?_) (fun z_9 => absurd z_9 (by decide))
  refine hp_iconst (v := 1) C dX6_again_13 (by decide) ?_
  refine hp_goto (tgt := 47) C dX6_again_14 (by decide) ?_
  refine hp_callV (ci := 6) C ml_X6_125 im_X6_refuses se_X6_refuses rfl (by decide) (mc_refu (d := d - 1) (c := 1) (r := 1) sh R_3 (by decide)) (by omega) dX6_again_47 (R_3.o sh) rfl rfl (by simp [Value.category]) (fun v_47 h_47 hp => ?_) (fun _ _ hf => hf.elim)
  obtain ⟨rfl, R_47⟩ := hp
  refine hp_if_ne (tgt := 65) C dX6_again_50 (by decide) (fun _ => ?_) (fun z_9 => absurd z_9 (by decide))
  refine hp_iconst (v := 0) C dX6_again_65 (by decide) ?_
  refine hp_iret C hr rfl dX6_again_66 ?_
  exact ⟨rfl, R_47⟩
set_option maxRecDepth 20000 in
set_option maxHeartbeats 4000000 in
theorem mp_againY {l : Launch} {G : hpG} {h H : hpT} {m d : Nat} {a : aS} {z : mrZ} (sh : mo_sh G h m) (R : MR h m H a z) (T : a_T a) (h3 : ¬ a_nd a 3 0 = 2) (hd : 6 ≤ d) : hp_C l G yX6_again (.code yX6_again cX6_again 2 (some .boolean)) d [.ref m, .int (nI 0)] (H) (fun v h' => v = some (.int 0) ∧ MR h m h' a (z.1, z.2.1, 1, z.2.2.2)) (fun _ _ => False) := by
  refine hp_ofV (by decide) (by simp [Value.category]) (Nat.le_of_ble_eq_true rfl) (fun M C hr hx el => ?_)
  refine hp_aload_nR C dX6_again_0 rfl ?_
  refine hp_aload_nR C dX6_again_1 rfl ?_
  refine hp_iload_n C dX6_again_2 rfl ?_
  refine hp_callV (ci := 6) C ml_X6_75 im_X6_isNode se_X6_isNode rfl (by decide) (mc_isNy (d := d - 1) sh R T.1.1 h3) (by omega) dX6_again_3 (R.o sh) rfl rfl (by simp [Value.category]) (fun v_3 h_3 hp => ?_) (fun _ _ hf => hf.elim)
  obtain ⟨rfl, R_3⟩ := hp
  refine hp_if_eq (tgt := 13) C dX6_again_6 (by decide) (fun z_9 => absurd z_9 (by decide)) (fun _ => ?_)
  refine hp_iload_n C dX6_again_9 rfl ?_
  refine hp_if_ne (tgt := 17) C dX6_again_10 (by decide) (fun z_9 => absurd z_9 (fun q => q (by decide))) (fun _ => ?_)
  refine hp_iconst (v := 1) C dX6_again_13 (by decide) ?_
  refine hp_goto (tgt := 47) C dX6_again_14 (by decide) ?_
  refine hp_callV (ci := 6) C ml_X6_125 im_X6_refuses se_X6_refuses rfl (by decide) (mc_refu (d := d - 1) (c := 1) (r := 1) sh R_3 (by decide)) (by omega) dX6_again_47 (R_3.o sh) rfl rfl (by simp [Value.category]) (fun v_47 h_47 hp => ?_) (fun _ _ hf => hf.elim)
  obtain ⟨rfl, R_47⟩ := hp
  refine hp_if_ne (tgt := 65) C dX6_again_50 (by decide) (fun _ => ?_) (fun z_9 => absurd z_9 (by decide))
  refine hp_iconst (v := 0) C dX6_again_65 (by decide) ?_
  refine hp_iret C hr rfl dX6_again_66 ?_
  exact ⟨rfl, R_47⟩
set_option maxRecDepth 20000 in
set_option maxHeartbeats 4000000 in
theorem mp_removeX {l : Launch} {G : hpG} {h H : hpT} {m d : Nat} {a : aS} {z : mrZ} (sh : mo_sh G h m) (R : MR h m H a z) {x : Int32} (hb : a_bad a x) (hd : 6 ≤ d) : hp_C l G yX6_remove (.code yX6_remove cX6_remove 2 (some .int)) d [.ref m, .int x] (H) (fun v h' => v = some (.int 0) ∧ MR h m h' a (z.1, z.2.1, 1, z.2.2.2)) (fun _ _ => False) := by
  refine hp_ofV (by decide) (by simp [Value.category]) (Nat.le_of_ble_eq_true rfl) (fun M C hr hx el => ?_)
  refine hp_aload_nR C dX6_remove_0 rfl ?_
  refine hp_aload_nR C dX6_remove_1 rfl ?_
  refine hp_iload_n C dX6_remove_2 rfl ?_
  refine hp_callV (ci := 6) C ml_X6_75 im_X6_isNode se_X6_isNode rfl (by decide) (mc_isNn (d := d - 1) sh R hb) (by omega) dX6_remove_3 (R.o sh) rfl rfl (by simp [Value.category]) (fun v_3 h_3 hp => ?_) (fun _ _ hf => hf.elim)
  obtain ⟨rfl, R_3⟩ := hp
  refine hp_if_eq (tgt := 13) C dX6_remove_6 (by decide) (fun _ => ?_) (fun z_9 => absurd z_9 (by decide))
  refine hp_iconst (v := 1) C dX6_remove_13 (by decide) ?_
  refine hp_goto (tgt := 32) C dX6_remove_14 (by decide) ?_
  refine hp_callV (ci := 6) C ml_X6_125 im_X6_refuses se_X6_refuses rfl (by decide) (mc_refu (d := d - 1) (c := 1) (r := 1) sh R_3 (by decide)) (by omega) dX6_remove_32 (R_3.o sh) rfl rfl (by simp [Value.category]) (fun v_32 h_32 hp => ?_) (fun _ _ hf => hf.elim)
  obtain ⟨rfl, R_32⟩ := hp
  refine hp_if_eq (tgt := 42) C dX6_remove_35 (by decide) (fun z_9 => absurd z_9 (by decide)) (fun _ => ?_)
  refine hp_iconst (v := 0) C dX6_remove_38 (by decide) ?_
  refine hp_goto (tgt := 47) C dX6_remove_39 (by decide) ?_
  refine hp_iret C hr rfl dX6_remove_47 ?_
  exact ⟨rfl, R_32⟩
set_option maxRecDepth 20000 in
set_option maxHeartbeats 4000000 in
theorem mp_removeY {l : Launch} {G : hpG} {h H : hpT} {m d : Nat} {a : aS} {z : mrZ} (sh : mo_sh G h m) (R : MR h m H a z) (T : a_T a) (h3 : ¬ a_nd a 3 0 = 2) (hd : 6 ≤ d) : hp_C l G yX6_remove (.code yX6_remove cX6_remove 2 (some .int)) d [.ref m, .int (nI 0)] (H) (fun v h' => v = some (.int 0) ∧ MR h m h' a (z.1, z.2.1, 1, z.2.2.2)) (fun _ _ => False) := by
  refine hp_ofV (by decide) (by simp [Value.category]) (Nat.le_of_ble_eq_true rfl) (fun M C hr hx el => ?_)
  refine hp_aload_nR C dX6_remove_0 rfl ?_
  refine hp_aload_nR C dX6_remove_1 rfl ?_
  refine hp_iload_n C dX6_remove_2 rfl ?_
  refine hp_callV (ci := 6) C ml_X6_75 im_X6_isNode se_X6_isNode rfl (by decide) (mc_isNy (d := d - 1) sh R T.1.1 h3) (by omega) dX6_remove_3 (R.o sh) rfl rfl (by simp [Value.category]) (fun v_3 h_3 hp => ?_) (fun _ _ hf => hf.elim)
  obtain ⟨rfl, R_3⟩ := hp
  refine hp_if_eq (tgt := 13) C dX6_remove_6 (by decide) (fun z_9 => absurd z_9 (by decide)) (fun _ => ?_)
  refine hp_iload_n C dX6_remove_9 rfl ?_
  refine hp_if_ne (tgt := 17) C dX6_remove_10 (by decide) (fun z_9 => absurd z_9 (fun q => q (by decide))) (fun _ => ?_)
  refine hp_iconst (v := 1) C dX6_remove_13 (by decide) ?_
  refine hp_goto (tgt := 32) C dX6_remove_14 (by decide) ?_
  refine hp_callV (ci := 6) C ml_X6_125 im_X6_refuses se_X6_refuses rfl (by decide) (mc_refu (d := d - 1) (c := 1) (r := 1) sh R_3 (by decide)) (by omega) dX6_remove_32 (R_3.o sh) rfl rfl (by simp [Value.category]) (fun v_32 h_32 hp => ?_) (fun _ _ hf => hf.elim)
  obtain ⟨rfl, R_32⟩ := hp
  refine hp_if_eq (tgt := 42) C dX6_remove_35 (by decide) (fun z_9 => absurd z_9 (by decide)) (fun _ => ?_)
  refine hp_iconst (v := 0) C dX6_remove_38 (by decide) ?_
  refine hp_goto (tgt := 47) C dX6_remove_39 (by decide) ?_
  refine hp_iret C hr rfl dX6_remove_47 ?_
  exact ⟨rfl, R_32⟩
set_option maxRecDepth 20000 in
set_option maxHeartbeats 4000000 in
theorem mp_stopS {l : Launch} {G : hpG} {h H : hpT} {m d : Nat} {a : aS} {z : mrZ} (sh : mo_sh G h m) (R : MR h m H a z) {n : Nat} (T : a_T a) (hn : n < a_mk a) (h3 : ¬ a_nd a 3 n = 2) (h0 : n ≠ 0) (hu : ¬ a_nd a 3 n = 1) (hd : 6 ≤ d) : hp_C l G yX6_stop (.code yX6_stop cX6_stop 2 none) d [.ref m, .int (nI n)] (H) (fun v h' => v = none ∧ MR h m h' a (z.1, z.2.1, 2, z.2.2.2)) (fun _ _ => False) := by
  have hn8 : n < 80 := Nat.lt_of_lt_of_le hn T.1.2
  have r3 := T.r3 hn
  refine hp_ofV (by decide) (by simp [Value.category]) (Nat.le_of_ble_eq_true rfl) (fun M C hr hx el => ?_)
  refine hp_aload_nR C dX6_stop_0 rfl ?_
  refine hp_aload_nR C dX6_stop_1 rfl ?_
  refine hp_iload_n C dX6_stop_2 rfl ?_
  refine hp_callV (ci := 6) C ml_X6_75 im_X6_isNode se_X6_isNode rfl (by decide) (mc_isNy (d := d - 1) sh R hn h3) (by omega) dX6_stop_3 (R.o sh) rfl rfl (by simp [Value.category]) (fun v_3 h_3 hp => ?_) (fun _ _ hf => hf.elim)
  obtain ⟨rfl, R_3⟩ := hp
  refine hp_if_eq (tgt := 13) C dX6_stop_6 (by decide) (fun z_9 => absurd z_9 (by decide)) (fun _ => ?_)
  refine hp_iload_n C dX6_stop_9 rfl ?_
  refine hp_if_ne (tgt := 17) C dX6_stop_10 (by decide) (fun _ => ?_) (fun z_9 => absurd z_9 (nI_ne0 (by omega) (by omega)))
  refine hp_aload_nR C dX6_stop_17 rfl ?_
  refine mr_A C sh R_3 fl_X6_20_6 rfl (by decide) dX6_stop_18 ?_
  refine hp_iload_n C dX6_stop_21 rfl ?_
  refine mr_nd C sh R_3 5 3 (by decide) (by decide) rfl hn8 dX6_stop_22 ?_
  refine hp_iconst (v := 1) C dX6_stop_23 (by decide) ?_
  refine hp_icmp_eq (tgt := 31) C dX6_stop_24 (by decide) (fun z_9 => absurd z_9 (fun q => hu ((a_ofI_eq (x := a_nd a 3 n) (y := 1) (by omega) (by omega)).mp q))) (fun _ => ?_)
  refine hp_iconst (v := 2) C dX6_stop_27 (by decide) ?_
  refine hp_goto (tgt := 32) C dX6_stop_28 (by decide) ?_
  refine hp_callV (ci := 6) C ml_X6_125 im_X6_refuses se_X6_refuses rfl (by decide) (mc_refu (d := d - 1) (c := 2) (r := 1) sh R_3 (by decide)) (by omega) dX6_stop_32 (R_3.o sh) rfl rfl (by simp [Value.category]) (fun v_32 h_32 hp => ?_) (fun _ _ hf => hf.elim)
  obtain ⟨rfl, R_32⟩ := hp
  refine hp_if_eq (tgt := 39) C dX6_stop_35 (by decide) (fun z_9 => absurd z_9 (by decide)) (fun _ => ?_)
  refine hp_vret C hr dX6_stop_38 ?_
  exact ⟨rfl, R_32⟩
set_option maxRecDepth 20000 in
set_option maxHeartbeats 4000000 in
theorem mp_removeS {l : Launch} {G : hpG} {h H : hpT} {m d : Nat} {a : aS} {z : mrZ} (sh : mo_sh G h m) (R : MR h m H a z) {n : Nat} (T : a_T a) (hn : n < a_mk a) (h3 : ¬ a_nd a 3 n = 2) (h0 : n ≠ 0) (hu : a_nd a 3 n = 1) (hd : 6 ≤ d) : hp_C l G yX6_remove (.code yX6_remove cX6_remove 2 (some .int)) d [.ref m, .int (nI n)] (H) (fun v h' => v = some (.int 0) ∧ MR h m h' a (z.1, z.2.1, 2, z.2.2.2)) (fun _ _ => False) := by
  have hn8 : n < 80 := Nat.lt_of_lt_of_le hn T.1.2
  have r3 := T.r3 hn
  refine hp_ofV (by decide) (by simp [Value.category]) (Nat.le_of_ble_eq_true rfl) (fun M C hr hx el => ?_)
  refine hp_aload_nR C dX6_remove_0 rfl ?_
  refine hp_aload_nR C dX6_remove_1 rfl ?_
  refine hp_iload_n C dX6_remove_2 rfl ?_
  refine hp_callV (ci := 6) C ml_X6_75 im_X6_isNode se_X6_isNode rfl (by decide) (mc_isNy (d := d - 1) sh R hn h3) (by omega) dX6_remove_3 (R.o sh) rfl rfl (by simp [Value.category]) (fun v_3 h_3 hp => ?_) (fun _ _ hf => hf.elim)
  obtain ⟨rfl, R_3⟩ := hp
  refine hp_if_eq (tgt := 13) C dX6_remove_6 (by decide) (fun z_9 => absurd z_9 (by decide)) (fun _ => ?_)
  refine hp_iload_n C dX6_remove_9 rfl ?_
  refine hp_if_ne (tgt := 17) C dX6_remove_10 (by decide) (fun _ => ?_) (fun z_9 => absurd z_9 (nI_ne0 (by omega) (by omega)))
  refine hp_aload_nR C dX6_remove_17 rfl ?_
  refine mr_A C sh R_3 fl_X6_20_6 rfl (by decide) dX6_remove_18 ?_
  refine hp_iload_n C dX6_remove_21 rfl ?_
  refine mr_nd C sh R_3 5 3 (by decide) (by decide) rfl hn8 dX6_remove_22 ?_
  refine hp_iconst (v := 1) C dX6_remove_23 (by decide) ?_
  refine hp_icmp_ne (tgt := 31) C dX6_remove_24 (by decide) (fun z_9 => absurd z_9 (fun q => q (show Int32.ofInt (a_nd a 3 n) = 1 by rw [hu]; decide))) (fun _ => ?_)
  refine hp_iconst (v := 2) C dX6_remove_27 (by decide) ?_
  refine hp_goto (tgt := 32) C dX6_remove_28 (by decide) ?_
  refine hp_callV (ci := 6) C ml_X6_125 im_X6_refuses se_X6_refuses rfl (by decide) (mc_refu (d := d - 1) (c := 2) (r := 1) sh R_3 (by decide)) (by omega) dX6_remove_32 (R_3.o sh) rfl rfl (by simp [Value.category]) (fun v_32 h_32 hp => ?_) (fun _ _ hf => hf.elim)
  obtain ⟨rfl, R_32⟩ := hp
  refine hp_if_eq (tgt := 42) C dX6_remove_35 (by decide) (fun z_9 => absurd z_9 (by decide)) (fun _ => ?_)
  refine hp_iconst (v := 0) C dX6_remove_38 (by decide) ?_
  refine hp_goto (tgt := 47) C dX6_remove_39 (by decide) ?_
  refine hp_iret C hr rfl dX6_remove_47 ?_
  exact ⟨rfl, R_32⟩
/-! ===== the reference: stop, again, remove, begin, first, failing, pass, state, event, child ===== -/
set_option maxRecDepth 20000 in
set_option maxHeartbeats 4000000 in
theorem mp_stop {l : Launch} {G : hpG} {h H : hpT} {m d : Nat} {a : aS} {z : mrZ} (sh : mo_sh G h m) (R : MR h m H a z) {n : Nat} (I : a_I a) (hn : n < a_mk a) (h3 : ¬ a_nd a 3 n = 2) (h0 : n ≠ 0) (hu : a_nd a 3 n = 1) (hv : (a_ev (a_rl (a_fu a n) (a_pa a n) n (a_ix n (a_rw a (a_pa a n))) a)).length < 2 ^ 30) (hd : 6 ≤ d) : hp_C l G yX6_stop (.code yX6_stop cX6_stop 2 none) d [.ref m, .int (nI n)] (H) (fun v h' => v = none ∧ ∃ z', MR h m h' (a_rl (a_fu a n) (a_pa a n) n (a_ix n (a_rw a (a_pa a n))) a) z' ∧ z'.2.2 = (0, z.2.2.2)) (fun _ _ => False) := by
  have kg := a_ce_gk false (a_fu a n) n a I.1 hn h3
  have r4 := I.1.r4 hn
  have hv3 : (a_ev (a_ce false (a_fu a n) n a).2).length < 2 ^ 30 := by
    refine Nat.lt_of_le_of_lt ?_ hv
    unfold a_rl
    split
    · exact (a_dis_k2 _ _ n _ _).ev
    · exact Nat.le_refl _
  have epa : a_pa (a_ce false (a_fu a n) n a).2 n = a_pa a n := by
    show (a_nd (a_ce false (a_fu a n) n a).2 1 n).toNat = (a_nd a 1 n).toNat
    rw [kg.1.nd]
  have erw : a_rw (a_ce false (a_fu a n) n a).2 = a_rw a := kg.1.rw'
  have T := I.1
  have hn8 : n < 80 := Nat.lt_of_lt_of_le hn T.1.2
  have r3 := T.r3 hn
  refine hp_ofV (by decide) (by simp [Value.category]) (Nat.le_of_ble_eq_true rfl) (fun M C hr hx el => ?_)
  refine hp_aload_nR C dX6_stop_0 rfl ?_
  refine hp_aload_nR C dX6_stop_1 rfl ?_
  refine hp_iload_n C dX6_stop_2 rfl ?_
  refine hp_callV (ci := 6) C ml_X6_75 im_X6_isNode se_X6_isNode rfl (by decide) (mc_isNy (d := d - 1) sh R hn h3) (by omega) dX6_stop_3 (R.o sh) rfl rfl (by simp [Value.category]) (fun v_3 h_3 hp => ?_) (fun _ _ hf => hf.elim)
  obtain ⟨rfl, R_3⟩ := hp
  refine hp_if_eq (tgt := 13) C dX6_stop_6 (by decide) (fun z_9 => absurd z_9 (by decide)) (fun _ => ?_)
  refine hp_iload_n C dX6_stop_9 rfl ?_
  refine hp_if_ne (tgt := 17) C dX6_stop_10 (by decide) (fun _ => ?_) (fun z_9 => absurd z_9 (nI_ne0 (by omega) (by omega)))
  refine hp_aload_nR C dX6_stop_17 rfl ?_
  refine mr_A C sh R_3 fl_X6_20_6 rfl (by decide) dX6_stop_18 ?_
  refine hp_iload_n C dX6_stop_21 rfl ?_
  refine mr_nd C sh R_3 5 3 (by decide) (by decide) rfl hn8 dX6_stop_22 ?_
  refine hp_iconst (v := 1) C dX6_stop_23 (by decide) ?_
  refine hp_icmp_eq (tgt := 31) C dX6_stop_24 (by decide) (fun _ => ?_) (fun z_9 => absurd (show Int32.ofInt (a_nd a 3 n) = 1 by rw [hu]; decide) z_9)
  refine hp_iconst (v := 0) C dX6_stop_31 (by decide) ?_
  refine hp_callV (ci := 6) C ml_X6_125 im_X6_refuses se_X6_refuses rfl (by decide) (mc_refu (d := d - 1) (c := 0) (r := 0) sh R_3 (by decide)) (by omega) dX6_stop_32 (R_3.o sh) rfl rfl (by simp [Value.category]) (fun v_32 h_32 hp => ?_) (fun _ _ hf => hf.elim)
  obtain ⟨rfl, R_32⟩ := hp
  refine hp_if_eq (tgt := 39) C dX6_stop_35 (by decide) (fun _ => ?_) (fun z_9 => absurd z_9 (by decide))
  refine hp_aload_nR C dX6_stop_39 rfl ?_
  refine hp_iload_n C dX6_stop_40 rfl ?_
  refine hp_iconst (v := 0) C dX6_stop_41 (by decide) ?_
  refine hp_iconst (v := 0) C dX6_stop_42 (by decide) ?_
  refine hp_callV (ci := 6) C ml_X6_92 im_X6_ceases se_X6_ceases rfl (by decide) (mc_cea (d := d - 1) (k := false) (f := a_fu a n) (fr := 0) sh R_32 I.1 hn (by have := I.1.r2 hn; show (9 : Int) ≤ ((9 - a_nd a 2 n).toNat : Nat) + a_nd a 2 n; omega) (by have := I.1.r2 hn; omega) hv3 (by omega)) (by omega) dX6_stop_43 (R_32.o sh) rfl rfl (by simp [Value.category]) (fun v_43 h_43 hp => ?_) (fun _ _ hf => hf.elim)
  obtain ⟨rfl, z1, R_43, -, g1⟩ := hp
  refine hp_pop C dX6_stop_46 rfl ?_
  refine hp_aload_nR C dX6_stop_47 rfl ?_
  refine mr_A C sh R_43 fl_X6_23_6 rfl (by decide) dX6_stop_48 ?_
  refine hp_iload_n C dX6_stop_51 rfl ?_
  refine mr_nd C sh R_43 6 4 (by decide) (by decide) rfl hn8 dX6_stop_52 ?_
  refine hp_iconst (v := 2) C dX6_stop_53 (by decide) ?_
  refine hp_icmp_ne (tgt := 63) C dX6_stop_54 (by decide) (fun c_54 => ?_) (fun c_54 => ?_)
  · refine hp_vret C hr dX6_stop_63 ?_
    have h4 : ¬ a_nd a 4 n = 2 := fun e => c_54 (by rw [kg.1.nd, e]; decide)
    have el : a_rl (a_fu a n) (a_pa a n) n (a_ix n (a_rw a (a_pa a n))) a = (a_ce false (a_fu a n) n a).2 := by unfold a_rl; rw [if_neg h4]
    rw [el]
    exact ⟨rfl, z1, R_43, g1⟩
  · have h4 : a_nd a 4 n = 2 := by
      have := (a_ofI_eq (x := a_nd (a_ce false (a_fu a n) n a).2 4 n) (y := 2) (by rw [kg.1.nd]; omega) (by omega)).mp c_54
      rwa [kg.1.nd] at this
    have el : a_rl (a_fu a n) (a_pa a n) n (a_ix n (a_rw a (a_pa a n))) a = (a_dis (a_fu a n) (a_pa a n) n (a_ix n (a_rw a (a_pa a n))) (a_ce false (a_fu a n) n a).2).2 := by unfold a_rl; rw [if_pos h4]
    refine hp_aload_nR C dX6_stop_57 rfl ?_
    refine hp_iload_n C dX6_stop_58 rfl ?_
    refine hp_callV (ci := 6) C ml_X6_103 im_X6_goes se_X6_goes rfl (by decide) (mc_goes (d := d - 1) (f := a_fu a n) sh R_43 (I.gk kg).1 (I.gk kg).2.1 (c := n) (by rw [kg.1.mk]; exact hn) h0 (by rw [kg.2.1]; exact h3) (by rw [kg.1.nd]; exact (by have := I.1.r2 hn; show (9 : Int) ≤ ((9 - a_nd a 2 n).toNat : Nat) + a_nd a 2 n; omega)) hv3 (by omega)) (by omega) dX6_stop_59 (R_43.o sh) rfl rfl (by simp [Value.category]) (fun v_59 h_59 hp => ?_) (fun _ _ hf => hf.elim)
    obtain ⟨⟨x_59, rfl⟩, R_59⟩ := hp
    rw [epa, erw] at R_59
    refine hp_pop C dX6_stop_62 rfl ?_
    refine hp_vret C hr dX6_stop_63 ?_
    rw [el]
    exact ⟨rfl, z1, R_59, g1⟩
set_option maxRecDepth 20000 in
set_option maxHeartbeats 4000000 in
theorem mp_againS {l : Launch} {G : hpG} {h H : hpT} {m d : Nat} {a : aS} {z : mrZ} (sh : mo_sh G h m) (R : MR h m H a z) {n : Nat} (T : a_T a) (hn : n < a_mk a) (h3 : ¬ a_nd a 3 n = 2) (h0 : n ≠ 0) (hu : a_nd a 3 n = 1) (hd : 6 ≤ d) : hp_C l G yX6_again (.code yX6_again cX6_again 2 (some .boolean)) d [.ref m, .int (nI n)] (H) (fun v h' => v = some (.int 0) ∧ MR h m h' a (z.1, z.2.1, 2, z.2.2.2)) (fun _ _ => False) := by
  have hn8 : n < 80 := Nat.lt_of_lt_of_le hn T.1.2
  have r3 := T.r3 hn
  refine hp_ofV (by decide) (by simp [Value.category]) (Nat.le_of_ble_eq_true rfl) (fun M C hr hx el => ?_)
  refine hp_aload_nR C dX6_again_0 rfl ?_
  refine hp_aload_nR C dX6_again_1 rfl ?_
  refine hp_iload_n C dX6_again_2 rfl ?_
  refine hp_callV (ci := 6) C ml_X6_75 im_X6_isNode se_X6_isNode rfl (by decide) (mc_isNy (d := d - 1) sh R hn h3) (by omega) dX6_again_3 (R.o sh) rfl rfl (by simp [Value.category]) (fun v_3 h_3 hp => ?_) (fun _ _ hf => hf.elim)
  obtain ⟨rfl, R_3⟩ := hp
  refine hp_if_eq (tgt := 13) C dX6_again_6 (by decide) (fun z_9 => absurd z_9 (by decide)) (fun _ => ?_)
  refine hp_iload_n C dX6_again_9 rfl ?_
  refine hp_if_ne (tgt := 17) C dX6_again_10 (by decide) (fun _ => ?_) (fun z_9 => absurd z_9 (nI_ne0 (by omega) (by omega)))
  refine hp_aload_nR C dX6_again_17 rfl ?_
  refine mr_A C sh R_3 fl_X6_20_6 rfl (by decide) dX6_again_18 ?_
  refine hp_iload_n C dX6_again_21 rfl ?_
  refine mr_nd C sh R_3 5 3 (by decide) (by decide) rfl hn8 dX6_again_22 ?_
  refine hp_iconst (v := 1) C dX6_again_23 (by decide) ?_
  refine hp_icmp_eq (tgt := 42) C dX6_again_24 (by decide) (fun _ => ?_) (fun z_9 => absurd (show Int32.ofInt (a_nd a 3 n) = 1 by rw [hu]; decide) z_9)
  refine hp_iconst (v := 2) C dX6_again_42 (by decide) ?_
  refine hp_goto (tgt := 47) C dX6_again_43 (by decide) ?_
  refine hp_callV (ci := 6) C ml_X6_125 im_X6_refuses se_X6_refuses rfl (by decide) (mc_refu (d := d - 1) (c := 2) (r := 1) sh R_3 (by decide)) (by omega) dX6_again_47 (R_3.o sh) rfl rfl (by simp [Value.category]) (fun v_47 h_47 hp => ?_) (fun _ _ hf => hf.elim)
  obtain ⟨rfl, R_47⟩ := hp
  refine hp_if_ne (tgt := 65) C dX6_again_50 (by decide) (fun _ => ?_) (fun z_9 => absurd z_9 (by decide))
  refine hp_iconst (v := 0) C dX6_again_65 (by decide) ?_
  refine hp_iret C hr rfl dX6_again_66 ?_
  exact ⟨rfl, R_47⟩
set_option maxRecDepth 20000 in
set_option maxHeartbeats 4000000 in
theorem mp_againP {l : Launch} {G : hpG} {h H : hpT} {m d : Nat} {a : aS} {z : mrZ} (sh : mo_sh G h m) (R : MR h m H a z) {n : Nat} (T : a_T a) (hn : n < a_mk a) (h3 : ¬ a_nd a 3 n = 2) (h0 : n ≠ 0) (hu : ¬ a_nd a 3 n = 1) (hq : ¬ a_nd a 3 (a_pa a n) = 1) (hd : 6 ≤ d) : hp_C l G yX6_again (.code yX6_again cX6_again 2 (some .boolean)) d [.ref m, .int (nI n)] (H) (fun v h' => v = some (.int 0) ∧ MR h m h' a (z.1, z.2.1, 2, z.2.2.2)) (fun _ _ => False) := by
  have hn8 : n < 80 := Nat.lt_of_lt_of_le hn T.1.2
  have r3 := T.r3 hn
  have r1 := T.r1 hn h0
  have hp8 : a_pa a n < 80 := by
    have e : a_pa a n = (a_nd a 1 n).toNat := rfl
    omega
  refine hp_ofV (by decide) (by simp [Value.category]) (Nat.le_of_ble_eq_true rfl) (fun M C hr hx el => ?_)
  refine hp_aload_nR C dX6_again_0 rfl ?_
  refine hp_aload_nR C dX6_again_1 rfl ?_
  refine hp_iload_n C dX6_again_2 rfl ?_
  refine hp_callV (ci := 6) C ml_X6_75 im_X6_isNode se_X6_isNode rfl (by decide) (mc_isNy (d := d - 1) sh R hn h3) (by omega) dX6_again_3 (R.o sh) rfl rfl (by simp [Value.category]) (fun v_3 h_3 hp => ?_) (fun _ _ hf => hf.elim)
  obtain ⟨rfl, R_3⟩ := hp
  refine hp_if_eq (tgt := 13) C dX6_again_6 (by decide) (fun z_9 => absurd z_9 (by decide)) (fun _ => ?_)
  refine hp_iload_n C dX6_again_9 rfl ?_
  refine hp_if_ne (tgt := 17) C dX6_again_10 (by decide) (fun _ => ?_) (fun z_9 => absurd z_9 (nI_ne0 (by omega) (by omega)))
  refine hp_aload_nR C dX6_again_17 rfl ?_
  refine mr_A C sh R_3 fl_X6_20_6 rfl (by decide) dX6_again_18 ?_
  refine hp_iload_n C dX6_again_21 rfl ?_
  refine mr_nd C sh R_3 5 3 (by decide) (by decide) rfl hn8 dX6_again_22 ?_
  refine hp_iconst (v := 1) C dX6_again_23 (by decide) ?_
  refine hp_icmp_eq (tgt := 42) C dX6_again_24 (by decide) (fun z_9 => absurd z_9 (fun q => hu ((a_ofI_eq (x := a_nd a 3 n) (y := 1) (by omega) (by omega)).mp q))) (fun _ => ?_)
  refine hp_aload_nR C dX6_again_27 rfl ?_
  refine mr_A C sh R_3 fl_X6_20_6 rfl (by decide) dX6_again_28 ?_
  refine hp_aload_nR C dX6_again_31 rfl ?_
  refine mr_A C sh R_3 fl_X6_13_6 rfl (by decide) dX6_again_32 ?_
  refine hp_iload_n C dX6_again_35 rfl ?_
  refine mr_nd C sh R_3 3 1 (by decide) (by decide) rfl hn8 dX6_again_36 ?_
  rw [show Int32.ofInt (a_nd a 1 n) = nI (a_pa a n) from a_ofN r1.1]
  refine mr_nd C sh R_3 5 3 (by decide) (by decide) rfl hp8 dX6_again_37 ?_
  refine hp_iconst (v := 1) C dX6_again_38 (by decide) ?_
  refine hp_icmp_eq (tgt := 46) C dX6_again_39 (by decide) (fun z_9 => absurd z_9 (fun q => hq ((a_ofI_eq (x := a_nd a 3 (a_pa a n)) (y := 1) (by have := T.r3 (n := a_pa a n) (by have e : a_pa a n = (a_nd a 1 n).toNat := rfl; omega); omega) (by omega)).mp q))) (fun _ => ?_)
  refine hp_iconst (v := 2) C dX6_again_42 (by decide) ?_
  refine hp_goto (tgt := 47) C dX6_again_43 (by decide) ?_
  refine hp_callV (ci := 6) C ml_X6_125 im_X6_refuses se_X6_refuses rfl (by decide) (mc_refu (d := d - 1) (c := 2) (r := 1) sh R_3 (by decide)) (by omega) dX6_again_47 (R_3.o sh) rfl rfl (by simp [Value.category]) (fun v_47 h_47 hp => ?_) (fun _ _ hf => hf.elim)
  obtain ⟨rfl, R_47⟩ := hp
  refine hp_if_ne (tgt := 65) C dX6_again_50 (by decide) (fun _ => ?_) (fun z_9 => absurd z_9 (by decide))
  refine hp_iconst (v := 0) C dX6_again_65 (by decide) ?_
  refine hp_iret C hr rfl dX6_again_66 ?_
  exact ⟨rfl, R_47⟩
set_option maxRecDepth 20000 in
set_option maxHeartbeats 4000000 in
theorem mp_again {l : Launch} {G : hpG} {h H : hpT} {m d : Nat} {a : aS} {z : mrZ} (sh : mo_sh G h m) (R : MR h m H a z) {n : Nat} (I : a_I a) (hn : n < a_mk a) (h3 : ¬ a_nd a 3 n = 2) (h0 : n ≠ 0) (hu : ¬ a_nd a 3 n = 1) (hq : a_nd a 3 (a_pa a n) = 1) (hv : (a_ev (a_go (a_fu a n) n a).2).length < 2 ^ 30) (hd : 6 ≤ d) : hp_C l G yX6_again (.code yX6_again cX6_again 2 (some .boolean)) d [.ref m, .int (nI n)] (H) (fun v h' => v = some (.int (if (a_go (a_fu a n) n a).1 = true then 1 else 0)) ∧ ∃ z', MR h m h' (a_go (a_fu a n) n a).2 z' ∧ z'.2.2 = (0, z.2.2.2)) (fun _ _ => False) := by
  have T := I.1
  have hn8 : n < 80 := Nat.lt_of_lt_of_le hn T.1.2
  have r3 := T.r3 hn
  have r1 := T.r1 hn h0
  have hp8 : a_pa a n < 80 := by
    have e : a_pa a n = (a_nd a 1 n).toNat := rfl
    omega
  refine hp_ofV (by decide) (by simp [Value.category]) (Nat.le_of_ble_eq_true rfl) (fun M C hr hx el => ?_)
  refine hp_aload_nR C dX6_again_0 rfl ?_
  refine hp_aload_nR C dX6_again_1 rfl ?_
  refine hp_iload_n C dX6_again_2 rfl ?_
  refine hp_callV (ci := 6) C ml_X6_75 im_X6_isNode se_X6_isNode rfl (by decide) (mc_isNy (d := d - 1) sh R hn h3) (by omega) dX6_again_3 (R.o sh) rfl rfl (by simp [Value.category]) (fun v_3 h_3 hp => ?_) (fun _ _ hf => hf.elim)
  obtain ⟨rfl, R_3⟩ := hp
  refine hp_if_eq (tgt := 13) C dX6_again_6 (by decide) (fun z_9 => absurd z_9 (by decide)) (fun _ => ?_)
  refine hp_iload_n C dX6_again_9 rfl ?_
  refine hp_if_ne (tgt := 17) C dX6_again_10 (by decide) (fun _ => ?_) (fun z_9 => absurd z_9 (nI_ne0 (by omega) (by omega)))
  refine hp_aload_nR C dX6_again_17 rfl ?_
  refine mr_A C sh R_3 fl_X6_20_6 rfl (by decide) dX6_again_18 ?_
  refine hp_iload_n C dX6_again_21 rfl ?_
  refine mr_nd C sh R_3 5 3 (by decide) (by decide) rfl hn8 dX6_again_22 ?_
  refine hp_iconst (v := 1) C dX6_again_23 (by decide) ?_
  refine hp_icmp_eq (tgt := 42) C dX6_again_24 (by decide) (fun z_9 => absurd z_9 (fun q => hu ((a_ofI_eq (x := a_nd a 3 n) (y := 1) (by omega) (by omega)).mp q))) (fun _ => ?_)
  refine hp_aload_nR C dX6_again_27 rfl ?_
  refine mr_A C sh R_3 fl_X6_20_6 rfl (by decide) dX6_again_28 ?_
  refine hp_aload_nR C dX6_again_31 rfl ?_
  refine mr_A C sh R_3 fl_X6_13_6 rfl (by decide) dX6_again_32 ?_
  refine hp_iload_n C dX6_again_35 rfl ?_
  refine mr_nd C sh R_3 3 1 (by decide) (by decide) rfl hn8 dX6_again_36 ?_
  rw [show Int32.ofInt (a_nd a 1 n) = nI (a_pa a n) from a_ofN r1.1]
  refine mr_nd C sh R_3 5 3 (by decide) (by decide) rfl hp8 dX6_again_37 ?_
  refine hp_iconst (v := 1) C dX6_again_38 (by decide) ?_
  refine hp_icmp_eq (tgt := 46) C dX6_again_39 (by decide) (fun _ => ?_) (fun z_9 => absurd (show Int32.ofInt (a_nd a 3 (a_pa a n)) = 1 by rw [hq]; decide) z_9)
  refine hp_iconst (v := 0) C dX6_again_46 (by decide) ?_
  refine hp_callV (ci := 6) C ml_X6_125 im_X6_refuses se_X6_refuses rfl (by decide) (mc_refu (d := d - 1) (c := 0) (r := 0) sh R_3 (by decide)) (by omega) dX6_again_47 (R_3.o sh) rfl rfl (by simp [Value.category]) (fun v_47 h_47 hp => ?_) (fun _ _ hf => hf.elim)
  obtain ⟨rfl, R_47⟩ := hp
  refine hp_if_ne (tgt := 65) C dX6_again_50 (by decide) (fun z_9 => absurd z_9 (by decide)) (fun _ => ?_)
  refine hp_aload_nR C dX6_again_53 rfl ?_
  refine hp_iload_n C dX6_again_54 rfl ?_
  refine hp_callV (ci := 6) C ml_X6_115 im_X6_starts se_X6_starts rfl (by decide) (mc_sta (d := d - 1) (f := a_fu a n) sh R_47 I.1 I.2.2.1 hn (by have := I.1.r2 hn; show (9 : Int) ≤ ((9 - a_nd a 2 n).toNat : Nat) + a_nd a 2 n; omega) hv (by omega)) (by omega) dX6_again_55 (R_47.o sh) rfl rfl (by simp [Value.category]) (fun v_55 h_55 hp => ?_) (fun _ _ hf => hf.elim)
  obtain ⟨rfl, z1, R_55, g1⟩ := hp
  refine hp_if_eq (tgt := 65) C dX6_again_58 (by decide) (fun c_58 => ?_) (fun c_58 => ?_)
  · refine hp_iconst (v := 0) C dX6_again_65 (by decide) ?_
    refine hp_iret C hr rfl dX6_again_66 ?_
    exact ⟨by rw [show (a_go (a_fu a n) n a).1 = false by
      cases g : (a_go (a_fu a n) n a).1 with
      | true => exact absurd (c_58) (by rw [g]; decide)
      | false => rfl]; rfl, z1, R_55, g1⟩
  · refine hp_iconst (v := 1) C dX6_again_61 (by decide) ?_
    refine hp_goto (tgt := 66) C dX6_again_62 (by decide) ?_
    refine hp_iret C hr rfl dX6_again_66 ?_
    exact ⟨by rw [show (a_go (a_fu a n) n a).1 = true by
      cases g : (a_go (a_fu a n) n a).1 with
      | false => exact absurd (by rw [g]; rfl) (c_58)
      | true => rfl]; rfl, z1, R_55, g1⟩
set_option maxRecDepth 20000 in
set_option maxHeartbeats 4000000 in
theorem mp_remove {l : Launch} {G : hpG} {h H : hpT} {m d : Nat} {a : aS} {z : mrZ} (sh : mo_sh G h m) (R : MR h m H a z) {n : Nat} (I : a_I a) (hn : n < a_mk a) (h3 : ¬ a_nd a 3 n = 2) (h0 : n ≠ 0) (hu : ¬ a_nd a 3 n = 1) (hv : (a_ev a).length < 2 ^ 30) (hd : 6 ≤ d) : hp_C l G yX6_remove (.code yX6_remove cX6_remove 2 (some .int)) d [.ref m, .int (nI n)] (H) (fun v h' => (∃ x, v = some (.int x)) ∧ MR h m h' (a_dis (a_fu a n) (a_pa a n) n (a_ix n (a_rw a (a_pa a n))) a).2 (z.1, z.2.1, 0, z.2.2.2)) (fun _ _ => False) := by
  have T := I.1
  have hn8 : n < 80 := Nat.lt_of_lt_of_le hn T.1.2
  have r3 := T.r3 hn
  refine hp_ofV (by decide) (by simp [Value.category]) (Nat.le_of_ble_eq_true rfl) (fun M C hr hx el => ?_)
  refine hp_aload_nR C dX6_remove_0 rfl ?_
  refine hp_aload_nR C dX6_remove_1 rfl ?_
  refine hp_iload_n C dX6_remove_2 rfl ?_
  refine hp_callV (ci := 6) C ml_X6_75 im_X6_isNode se_X6_isNode rfl (by decide) (mc_isNy (d := d - 1) sh R hn h3) (by omega) dX6_remove_3 (R.o sh) rfl rfl (by simp [Value.category]) (fun v_3 h_3 hp => ?_) (fun _ _ hf => hf.elim)
  obtain ⟨rfl, R_3⟩ := hp
  refine hp_if_eq (tgt := 13) C dX6_remove_6 (by decide) (fun z_9 => absurd z_9 (by decide)) (fun _ => ?_)
  refine hp_iload_n C dX6_remove_9 rfl ?_
  refine hp_if_ne (tgt := 17) C dX6_remove_10 (by decide) (fun _ => ?_) (fun z_9 => absurd z_9 (nI_ne0 (by omega) (by omega)))
  refine hp_aload_nR C dX6_remove_17 rfl ?_
  refine mr_A C sh R_3 fl_X6_20_6 rfl (by decide) dX6_remove_18 ?_
  refine hp_iload_n C dX6_remove_21 rfl ?_
  refine mr_nd C sh R_3 5 3 (by decide) (by decide) rfl hn8 dX6_remove_22 ?_
  refine hp_iconst (v := 1) C dX6_remove_23 (by decide) ?_
  refine hp_icmp_ne (tgt := 31) C dX6_remove_24 (by decide) (fun _ => ?_) (fun z_9 => absurd z_9 (fun q => hu ((a_ofI_eq (x := a_nd a 3 n) (y := 1) (by omega) (by omega)).mp q)))
  refine hp_iconst (v := 0) C dX6_remove_31 (by decide) ?_
  refine hp_callV (ci := 6) C ml_X6_125 im_X6_refuses se_X6_refuses rfl (by decide) (mc_refu (d := d - 1) (c := 0) (r := 0) sh R_3 (by decide)) (by omega) dX6_remove_32 (R_3.o sh) rfl rfl (by simp [Value.category]) (fun v_32 h_32 hp => ?_) (fun _ _ hf => hf.elim)
  obtain ⟨rfl, R_32⟩ := hp
  refine hp_if_eq (tgt := 42) C dX6_remove_35 (by decide) (fun _ => ?_) (fun z_9 => absurd z_9 (by decide))
  refine hp_aload_nR C dX6_remove_42 rfl ?_
  refine hp_iload_n C dX6_remove_43 rfl ?_
  refine hp_callV (ci := 6) C ml_X6_103 im_X6_goes se_X6_goes rfl (by decide) (mc_goes (d := d - 1) (f := a_fu a n) sh R_32 I.1 I.2.1 hn h0 h3 (by have := I.1.r2 hn; show (9 : Int) ≤ ((9 - a_nd a 2 n).toNat : Nat) + a_nd a 2 n; omega) hv (by omega)) (by omega) dX6_remove_44 (R_32.o sh) rfl rfl (by simp [Value.category]) (fun v_44 h_44 hp => ?_) (fun _ _ hf => hf.elim)
  obtain ⟨⟨x_44, rfl⟩, R_44⟩ := hp
  refine hp_iret C hr rfl dX6_remove_47 ?_
  exact ⟨⟨_, rfl⟩, R_44⟩
set_option maxRecDepth 20000 in
set_option maxHeartbeats 4000000 in
theorem mp_begin {l : Launch} {G : hpG} {h H : hpT} {m d : Nat} {a : aS} {z : mrZ} (sh : mo_sh G h m) (R : MR h m H a z) (I : a_I a) (hu : ¬ a_nd a 3 0 = 1) (hv : (a_ev (a_go 9 0 a).2).length < 2 ^ 30) (hd : 6 ≤ d) : hp_C l G yX6_begin (.code yX6_begin cX6_begin 1 (some .boolean)) d [.ref m] (H) (fun v h' => v = some (.int (if (a_go 9 0 a).1 = true then 1 else 0)) ∧ ∃ z', MR h m h' (a_go 9 0 a).2 z' ∧ z'.2.2 = (0, z.2.2.2)) (fun _ _ => False) := by
  have r3 := I.1.r3 (n := 0) I.1.1.1
  refine hp_ofV (by decide) (by simp [Value.category]) (Nat.le_of_ble_eq_true rfl) (fun M C hr hx el => ?_)
  refine hp_aload_nR C dX6_begin_0 rfl ?_
  refine hp_aload_nR C dX6_begin_1 rfl ?_
  refine mr_A C sh R fl_X6_20_6 rfl (by decide) dX6_begin_2 ?_
  refine hp_iconst (v := 0) C dX6_begin_5 (by decide) ?_
  refine mr_nd (n := 0) C sh R 5 3 (by decide) (by decide) rfl (by decide) dX6_begin_6 ?_
  refine hp_iconst (v := 1) C dX6_begin_7 (by decide) ?_
  refine hp_icmp_ne (tgt := 15) C dX6_begin_8 (by decide) (fun _ => ?_) (fun z_9 => absurd z_9 (fun q => hu ((a_ofI_eq (x := a_nd a 3 0) (y := 1) (by omega) (by omega)).mp q)))
  refine hp_iconst (v := 0) C dX6_begin_15 (by decide) ?_
  refine hp_callV (ci := 6) C ml_X6_125 im_X6_refuses se_X6_refuses rfl (by decide) (mc_refu (d := d - 1) (c := 0) (r := 0) sh R (by decide)) (by omega) dX6_begin_16 (R.o sh) rfl rfl (by simp [Value.category]) (fun v_16 h_16 hp => ?_) (fun _ _ hf => hf.elim)
  obtain ⟨rfl, R_16⟩ := hp
  refine hp_if_ne (tgt := 34) C dX6_begin_19 (by decide) (fun z_9 => absurd z_9 (by decide)) (fun _ => ?_)
  refine hp_aload_nR C dX6_begin_22 rfl ?_
  refine hp_iconst (v := 0) C dX6_begin_23 (by decide) ?_
  refine hp_callV (ci := 6) C ml_X6_115 im_X6_starts se_X6_starts rfl (by decide) (mc_sta (d := d - 1) (f := 9) (n := 0) sh R_16 I.1 I.2.2.1 I.1.1.1 (by rw [I.2.1.1]; decide) hv (by omega)) (by omega) dX6_begin_24 (R_16.o sh) rfl rfl (by simp [Value.category]) (fun v_24 h_24 hp => ?_) (fun _ _ hf => hf.elim)
  obtain ⟨rfl, z1, R_24, g1⟩ := hp
  refine hp_if_eq (tgt := 34) C dX6_begin_27 (by decide) (fun c_27 => ?_) (fun c_27 => ?_)
  · refine hp_iconst (v := 0) C dX6_begin_34 (by decide) ?_
    refine hp_iret C hr rfl dX6_begin_35 ?_
    exact ⟨by rw [show (a_go 9 0 a).1 = false by
      cases g : (a_go 9 0 a).1 with
      | true => exact absurd (c_27) (by rw [g]; decide)
      | false => rfl]; rfl, z1, R_24, g1⟩
  · refine hp_iconst (v := 1) C dX6_begin_30 (by decide) ?_
    refine hp_goto (tgt := 35) C dX6_begin_31 (by decide) ?_
    refine hp_iret C hr rfl dX6_begin_35 ?_
    exact ⟨by rw [show (a_go 9 0 a).1 = true by
      cases g : (a_go 9 0 a).1 with
      | false => exact absurd (by rw [g]; rfl) (c_27)
      | true => rfl]; rfl, z1, R_24, g1⟩
