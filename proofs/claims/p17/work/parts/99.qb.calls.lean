/-! ===== every call, on both sides ===== -/
/-- the state behind i calls -/
def a_Y (i : Nat) (a : aS) : Prop := a_Z 80 i a ∧ ¬ a_nd a 3 0 = 2
theorem a_Y.st {i : Nat} {a : aS} (y : a_Y i a) : a_Y (i + 1) a := ⟨y.1.st, y.2⟩
/-- the reference has moved on to b, and says c -/
def LR (m : Nat) (H : hpT) (b : aS) (c : Int32) (h : hpT) : Prop := ∃ z, MR H m h b z ∧ z.2.2 = (c, 80)
theorem lw_nd (a : aS) (x : Int32) : (∃ n, n < a_mk a ∧ x = nI n ∧ ¬ a_nd a 3 n = 2) ∨ a_bad a x := by
  by_cases h : ∃ n, n < a_mk a ∧ x = nI n ∧ ¬ a_nd a 3 n = 2
  · exact Or.inl h
  · exact Or.inr (fun n hn e => Classical.byContradiction (fun g => h ⟨n, hn, e, g⟩))
theorem lw_ndk (a : aS) (x : Int32) (v : Int) : (∃ n, n < a_mk a ∧ x = nI n ∧ a_nd a 0 n = v ∧ ¬ a_nd a 3 n = 2) ∨ (∀ n, n < a_mk a → x = nI n → a_nd a 0 n = v → a_nd a 3 n = 2) := by
  by_cases h : ∃ n, n < a_mk a ∧ x = nI n ∧ a_nd a 0 n = v ∧ ¬ a_nd a 3 n = 2
  · exact Or.inl h
  · exact Or.inr (fun n hn e k => Classical.byContradiction (fun g => h ⟨n, hn, e, k, g⟩))
theorem lw_nI {x : Int32} (h : 0 ≤ x.toInt) : ∃ n : Nat, x = nI n ∧ x.toInt = n := ⟨x.toInt.toNat, by rw [← a_ofN h, Int32.ofInt_toInt], (Int.toNat_of_nonneg h).symm⟩
theorem lw_e {z : mrZ} {c c0 : Int32} (h : z.2.2 = (c0, 80)) : (c, z.2.2.2) = (c, 80) := by rw [h]
theorem lw_e2 {z z' : mrZ} {c0 : Int32} (h : z.2.2 = (c0, 80)) (h' : z'.2.2 = (0, z.2.2.2)) : z'.2.2 = (0, 80) := by rw [h', h]
set_option maxRecDepth 20000 in
set_option maxHeartbeats 4000000 in
theorem lj_first {n0 : Nat} {a : aS} (Z : a_Y n0 a) (hi : n0 < 512) (x r t : Int32) : ∃ (b : aS) (c : Int32), a_Y (n0 + 1) b ∧ (∀ {l : Launch} {G : hpG} {m k N S d : Nat} {H : hpT}, LK G m k N S H H a → lw_rm G N S → 45 ≤ d → hp_C l G yX5_first (.code yX5_first cX5_first 4 none) d [.ref k, .int x, .int r, .int t] H (fun v h' => c = 0 ∧ v = none ∧ LK G m k (N + 5) (S + 160) H h' b) (LX G m k (N + 5) (S + 160) H b c)) ∧ (∀ {l : Launch} {G : hpG} {m d : Nat} {c0 : Int32} {H : hpT}, LM G m c0 H a → 45 ≤ d → hp_C l G yX6_first (.code yX6_first cX6_first 4 none) d [.ref m, .int x, .int r, .int t] H (fun v h' => v = none ∧ LR m H b c h') (fun _ _ => False)) := by
  have I := Z.1.1
  have T := I.1
  by_cases hb : ((0 ≤ x.toInt ∧ x.toInt ≤ 2) ∧ (0 ≤ r.toInt ∧ r.toInt ≤ 50) ∧ (1 ≤ t.toInt ∧ t.toInt ≤ 1000))
  · by_cases hu : a_nd a 3 0 = 1
    · refine ⟨a, 2, Z.st, fun {l G m k N S d H} x1 rm hd => ?_, fun {l G m d c0 H} x2 hd => ?_⟩
      · obtain ⟨κ, K, rfl⟩ := x1
        obtain ⟨q1, q2⟩ := lw_rmK K rm Z.1 (Nat.le_of_lt hi)
        exact hp_Cww (kp_firstS K T I.2.1.2.1 hb hu (by omega) (by omega) (by omega)) (fun _ _ hf => hf.elim) (fun E h' hx => LX.of2 K hx)
      · obtain ⟨sh, z, R, ez⟩ := x2
        exact hp_Cww (mp_firstS sh R hb hu (by omega)) (fun v h' hp => ⟨hp.1, _, hp.2, lw_e ez⟩) (fun _ _ hf => hf)
    · refine ⟨a_sn (a_sn (a_sn a 5 0 x.toInt) 6 0 r.toInt) 7 0 t.toInt, 0, ⟨Z.1.fst hb, by rw [a_nd_sne _ _ _ (show (3 : Nat) ≠ 7 by decide), a_nd_sne _ _ _ (show (3 : Nat) ≠ 6 by decide), a_nd_sne _ _ _ (show (3 : Nat) ≠ 5 by decide)]; exact Z.2⟩, fun {l G m k N S d H} x1 rm hd => ?_, fun {l G m d c0 H} x2 hd => ?_⟩
      · obtain ⟨κ, K, rfl⟩ := x1
        obtain ⟨q1, q2⟩ := lw_rmK K rm Z.1 (Nat.le_of_lt hi)
        exact hp_Cww (kp_first K T I.2.1.2.1 hb hu (by omega)) (fun v h' hp => ⟨rfl, hp.1, LK.of hp.2 rfl rfl⟩) (fun _ _ hf => hf.elim)
      · obtain ⟨sh, z, R, ez⟩ := x2
        exact hp_Cww (mp_first sh R T hb hu (by omega)) (fun v h' hp => ⟨hp.1, _, hp.2, lw_e ez⟩) (fun _ _ hf => hf)
  · refine ⟨a, 1, Z.st, fun {l G m k N S d H} x1 rm hd => ?_, fun {l G m d c0 H} x2 hd => ?_⟩
    · obtain ⟨κ, K, rfl⟩ := x1
      obtain ⟨q1, q2⟩ := lw_rmK K rm Z.1 (Nat.le_of_lt hi)
      exact hp_Cww (kp_firstX K hb (by omega) (by omega) (by omega)) (fun _ _ hf => hf.elim) (fun E h' hx => LX.of1 K hx)
    · obtain ⟨sh, z, R, ez⟩ := x2
      exact hp_Cww (mp_firstX sh R hb (by omega)) (fun v h' hp => ⟨hp.1, _, hp.2, lw_e ez⟩) (fun _ _ hf => hf)
set_option maxRecDepth 20000 in
set_option maxHeartbeats 4000000 in
theorem lj_keeper {n0 : Nat} {a : aS} (Z : a_Y n0 a) (hi : n0 < 512) (x kn sg r t : Int32) : ∃ (b : aS) (c w : Int32), a_Y (n0 + 1) b ∧ (∀ {l : Launch} {G : hpG} {m k N S d : Nat} {H : hpT}, LK G m k N S H H a → lw_rm G N S → 45 ≤ d → hp_C l G yX5_keeper (.code yX5_keeper cX5_keeper 8 (some .int)) d [.ref k, .int x, .int kn, .int sg, .int r, .int t] H (fun v h' => c = 0 ∧ v = some (.int w) ∧ LK G m k (N + 5) (S + 160) H h' b) (LX G m k (N + 5) (S + 160) H b c)) ∧ (∀ {l : Launch} {G : hpG} {m d : Nat} {c0 : Int32} {H : hpT}, LM G m c0 H a → 45 ≤ d → hp_C l G yX6_keeper (.code yX6_keeper cX6_keeper 8 (some .int)) d [.ref m, .int x, .int kn, .int sg, .int r, .int t] H (fun v h' => (∃ y, v = some (.int y) ∧ (c = 0 → y = w)) ∧ LR m H b c h') (fun _ _ => False)) := by
  have I := Z.1.1
  have T := I.1
  rcases lw_ndk a x 1 with ⟨n, hn, rfl, hk, h3⟩ | hbad
  · by_cases hz : ((0 ≤ kn.toInt ∧ kn.toInt ≤ 2) ∧ (0 ≤ sg.toInt ∧ sg.toInt ≤ 2) ∧ (0 ≤ r.toInt ∧ r.toInt ≤ 50) ∧ (1 ≤ t.toInt ∧ t.toInt ≤ 1000))
    · by_cases hro : a_mk a < 80 ∧ a_nd a 2 n < 8
      · have T1 : a_T (a_add n (a_vK n (a_nd a 2 n) kn.toInt sg.toInt r.toInt t.toInt) a) := a_add_T T hn hk hro.1 hro.2 (Or.inr rfl) rfl rfl rfl hz.1 hz.2.1 hz.2.2.1 ⟨by have := hz.2.2.2.1; show 0 ≤ t.toInt; omega, hz.2.2.2.2⟩ (by show (-1 : Int) ≤ 0 ∧ (0 : Int) ≤ 1000; omega) (by show (0 : Int) ≤ 0 ∧ (0 : Int) ≤ 100; omega) (by show (0 : Int) ≤ 0 ∧ (0 : Int) ≤ 100; omega) (by show (0 : Int) ≤ 0 ∧ (0 : Int) ≤ 50; omega)
        have S1 := (Z.1.kpr hn hk h3 hro.1 T1 rfl rfl rfl (by show (0 : Int) ≤ 50; omega)).sm (Nat.succ_le_of_lt hi)
        refine ⟨a_kpr n (a_vK n (a_nd a 2 n) kn.toInt sg.toInt r.toInt t.toInt) a, 0, nI (a_mk a), ⟨Z.1.kpr hn hk h3 hro.1 T1 rfl rfl rfl (by show (0 : Int) ≤ 50; omega), a_kpr_r0 I Z.1.2.1 hn hk hro.1 T1 rfl rfl rfl (by show (0 : Int) ≤ 50; omega) Z.2⟩, fun {l G m k N S d H} x1 rm hd => ?_, fun {l G m d c0 H} x2 hd => ?_⟩
        · obtain ⟨κ, K, rfl⟩ := x1
          obtain ⟨q1, q2⟩ := lw_rmK K rm Z.1 (Nat.le_of_lt hi)
          exact hp_Cww (kp_keeper K T hn h3 hk hz.1 hz.2 hro q1 q2 S1.2.1 (by omega)) (fun v h' hp => by obtain ⟨e0, κ', K1, e1⟩ := hp; exact ⟨rfl, e0, κ', KR.mono K1 (by rw [a_kpr_rs]; omega) (by rw [a_kpr_rs]; omega), congrFun e1 0⟩) (fun _ _ hf => hf.elim)
        · obtain ⟨sh, z, R, ez⟩ := x2
          exact hp_Cww (mp_keeper sh R I hn h3 hk hz.1 hz.2 hro S1.2.1 (by omega)) (fun v h' hp => by obtain ⟨e0, z1, R1, e1⟩ := hp; exact ⟨⟨_, e0, fun _ => rfl⟩, z1, R1, lw_e2 ez e1⟩) (fun _ _ hf => hf)
      · refine ⟨a, 2, 0, Z.st, fun {l G m k N S d H} x1 rm hd => ?_, fun {l G m d c0 H} x2 hd => ?_⟩
        · obtain ⟨κ, K, rfl⟩ := x1
          obtain ⟨q1, q2⟩ := lw_rmK K rm Z.1 (Nat.le_of_lt hi)
          exact hp_Cww (kp_keeperS K T hn h3 hk hz.1 hz.2 hro (by omega) (by omega) (by omega)) (fun _ _ hf => hf.elim) (fun E h' hx => LX.of2 K hx)
        · obtain ⟨sh, z, R, ez⟩ := x2
          exact hp_Cww (mp_keeperS sh R T hn h3 hk hz.1 hz.2 hro (by omega)) (fun v h' hp => ⟨⟨_, hp.1, fun z_1 => absurd z_1 (by decide)⟩, _, hp.2, lw_e ez⟩) (fun _ _ hf => hf)
    · refine ⟨a, 1, 0, Z.st, fun {l G m k N S d H} x1 rm hd => ?_, fun {l G m d c0 H} x2 hd => ?_⟩
      · obtain ⟨κ, K, rfl⟩ := x1
        obtain ⟨q1, q2⟩ := lw_rmK K rm Z.1 (Nat.le_of_lt hi)
        exact hp_Cww (kp_keeperY K T hn h3 hk hz (by omega) (by omega) (by omega)) (fun _ _ hf => hf.elim) (fun E h' hx => LX.of1 K hx)
      · obtain ⟨sh, z, R, ez⟩ := x2
        exact hp_Cww (mp_keeperY sh R T hn h3 hk hz (by omega)) (fun v h' hp => ⟨⟨_, hp.1, fun z_1 => absurd z_1 (by decide)⟩, _, hp.2, lw_e ez⟩) (fun _ _ hf => hf)
  · refine ⟨a, 1, 0, Z.st, fun {l G m k N S d H} x1 rm hd => ?_, fun {l G m d c0 H} x2 hd => ?_⟩
    · obtain ⟨κ, K, rfl⟩ := x1
      obtain ⟨q1, q2⟩ := lw_rmK K rm Z.1 (Nat.le_of_lt hi)
      exact hp_Cww (kp_keeperX K T hbad (by omega) (by omega) (by omega)) (fun _ _ hf => hf.elim) (fun E h' hx => LX.of1 K hx)
    · obtain ⟨sh, z, R, ez⟩ := x2
      exact hp_Cww (mp_keeperX sh R T hbad (by omega)) (fun v h' hp => ⟨⟨_, hp.1, fun z_1 => absurd z_1 (by decide)⟩, _, hp.2, lw_e ez⟩) (fun _ _ hf => hf)
set_option maxRecDepth 20000 in
set_option maxHeartbeats 4000000 in
theorem lj_worker {n0 : Nat} {a : aS} (Z : a_Y n0 a) (hi : n0 < 512) (x kn pa st sp fa : Int32) : ∃ (b : aS) (c w : Int32), a_Y (n0 + 1) b ∧ (∀ {l : Launch} {G : hpG} {m k N S d : Nat} {H : hpT}, LK G m k N S H H a → lw_rm G N S → 45 ≤ d → hp_C l G yX5_worker (.code yX5_worker cX5_worker 9 (some .int)) d [.ref k, .int x, .int kn, .int pa, .int st, .int sp, .int fa] H (fun v h' => c = 0 ∧ v = some (.int w) ∧ LK G m k (N + 5) (S + 160) H h' b) (LX G m k (N + 5) (S + 160) H b c)) ∧ (∀ {l : Launch} {G : hpG} {m d : Nat} {c0 : Int32} {H : hpT}, LM G m c0 H a → 45 ≤ d → hp_C l G yX6_worker (.code yX6_worker cX6_worker 9 (some .int)) d [.ref m, .int x, .int kn, .int pa, .int st, .int sp, .int fa] H (fun v h' => (∃ y, v = some (.int y) ∧ (c = 0 → y = w)) ∧ LR m H b c h') (fun _ _ => False)) := by
  have I := Z.1.1
  have T := I.1
  rcases lw_ndk a x 1 with ⟨n, hn, rfl, hk, h3⟩ | hbad
  · by_cases hz : ((0 ≤ kn.toInt ∧ kn.toInt ≤ 2) ∧ (-1 ≤ pa.toInt ∧ pa.toInt ≤ 1000) ∧ (0 ≤ st.toInt ∧ st.toInt ≤ 100) ∧ (0 ≤ sp.toInt ∧ sp.toInt ≤ 100) ∧ (0 ≤ fa.toInt ∧ fa.toInt ≤ 50))
    · by_cases hro : a_mk a < 80 ∧ a_nd a 2 n < 8
      · have T1 : a_T (a_add n (a_vW n (a_nd a 2 n) kn.toInt pa.toInt st.toInt sp.toInt fa.toInt) a) := a_add_T T hn hk hro.1 hro.2 (Or.inl rfl) rfl rfl rfl hz.1 (by show (0 : Int) ≤ 0 ∧ (0 : Int) ≤ 2; omega) (by show (0 : Int) ≤ 0 ∧ (0 : Int) ≤ 50; omega) (by show (0 : Int) ≤ 0 ∧ (0 : Int) ≤ 1000; omega) hz.2.1 hz.2.2.1 hz.2.2.2.1 hz.2.2.2.2
        have S1 := (Z.1.wkr hn hk h3 hro.1 T1 rfl rfl rfl (by have := hz.2.2.2.2.2; show fa.toInt ≤ 50; omega)).sm (Nat.succ_le_of_lt hi)
        refine ⟨(a_wkr n (a_vW n (a_nd a 2 n) kn.toInt pa.toInt st.toInt sp.toInt fa.toInt) a).2, 0, (a_wkr n (a_vW n (a_nd a 2 n) kn.toInt pa.toInt st.toInt sp.toInt fa.toInt) a).1, ⟨Z.1.wkr hn hk h3 hro.1 T1 rfl rfl rfl (by have := hz.2.2.2.2.2; show fa.toInt ≤ 50; omega), a_wkr_r0 I Z.1.2.1 hn hk hro.1 T1 rfl rfl rfl (by have := hz.2.2.2.2.2; show fa.toInt ≤ 50; omega) Z.2⟩, fun {l G m k N S d H} x1 rm hd => ?_, fun {l G m d c0 H} x2 hd => ?_⟩
        · obtain ⟨κ, K, rfl⟩ := x1
          obtain ⟨q1, q2⟩ := lw_rmK K rm Z.1 (Nat.le_of_lt hi)
          exact hp_Cww (kp_worker K T hn h3 hk hz.1 hz.2 hro q1 q2 S1.2.1 (by omega)) (fun v h' hp => by obtain ⟨e0, κ', K1, e1⟩ := hp; exact ⟨rfl, e0, κ', KR.mono K1 (by rw [a_wkr_rs]; omega) (by rw [a_wkr_rs]; omega), congrFun e1 0⟩) (fun _ _ hf => hf.elim)
        · obtain ⟨sh, z, R, ez⟩ := x2
          exact hp_Cww (mp_worker sh R I hn h3 hk hz.1 hz.2 hro S1.2.1 (by omega)) (fun v h' hp => by obtain ⟨e0, z1, R1, e1⟩ := hp; exact ⟨⟨_, e0, fun _ => rfl⟩, z1, R1, lw_e2 ez e1⟩) (fun _ _ hf => hf)
      · refine ⟨a, 2, 0, Z.st, fun {l G m k N S d H} x1 rm hd => ?_, fun {l G m d c0 H} x2 hd => ?_⟩
        · obtain ⟨κ, K, rfl⟩ := x1
          obtain ⟨q1, q2⟩ := lw_rmK K rm Z.1 (Nat.le_of_lt hi)
          exact hp_Cww (kp_workerS K T hn h3 hk hz.1 hz.2 hro (by omega) (by omega) (by omega)) (fun _ _ hf => hf.elim) (fun E h' hx => LX.of2 K hx)
        · obtain ⟨sh, z, R, ez⟩ := x2
          exact hp_Cww (mp_workerS sh R T hn h3 hk hz.1 hz.2 hro (by omega)) (fun v h' hp => ⟨⟨_, hp.1, fun z_1 => absurd z_1 (by decide)⟩, _, hp.2, lw_e ez⟩) (fun _ _ hf => hf)
    · refine ⟨a, 1, 0, Z.st, fun {l G m k N S d H} x1 rm hd => ?_, fun {l G m d c0 H} x2 hd => ?_⟩
      · obtain ⟨κ, K, rfl⟩ := x1
        obtain ⟨q1, q2⟩ := lw_rmK K rm Z.1 (Nat.le_of_lt hi)
        exact hp_Cww (kp_workerY K T hn h3 hk hz (by omega) (by omega) (by omega)) (fun _ _ hf => hf.elim) (fun E h' hx => LX.of1 K hx)
      · obtain ⟨sh, z, R, ez⟩ := x2
        exact hp_Cww (mp_workerY sh R T hn h3 hk hz (by omega)) (fun v h' hp => ⟨⟨_, hp.1, fun z_1 => absurd z_1 (by decide)⟩, _, hp.2, lw_e ez⟩) (fun _ _ hf => hf)
  · refine ⟨a, 1, 0, Z.st, fun {l G m k N S d H} x1 rm hd => ?_, fun {l G m d c0 H} x2 hd => ?_⟩
    · obtain ⟨κ, K, rfl⟩ := x1
      obtain ⟨q1, q2⟩ := lw_rmK K rm Z.1 (Nat.le_of_lt hi)
      exact hp_Cww (kp_workerX K T hbad (by omega) (by omega) (by omega)) (fun _ _ hf => hf.elim) (fun E h' hx => LX.of1 K hx)
    · obtain ⟨sh, z, R, ez⟩ := x2
      exact hp_Cww (mp_workerX sh R T hbad (by omega)) (fun v h' hp => ⟨⟨_, hp.1, fun z_1 => absurd z_1 (by decide)⟩, _, hp.2, lw_e ez⟩) (fun _ _ hf => hf)
set_option maxRecDepth 20000 in
set_option maxHeartbeats 4000000 in
theorem lj_failing {n0 : Nat} {a : aS} (Z : a_Y n0 a) (hi : n0 < 512) (x g : Int32) : ∃ (b : aS) (c w : Int32), a_Y (n0 + 1) b ∧ (∀ {l : Launch} {G : hpG} {m k N S d : Nat} {H : hpT}, LK G m k N S H H a → lw_rm G N S → 45 ≤ d → hp_C l G yX5_failing (.code yX5_failing cX5_failing 5 (some .int)) d [.ref k, .int x, .int g] H (fun v h' => c = 0 ∧ v = some (.int w) ∧ LK G m k (N + 5) (S + 160) H h' b) (fun E h' => E = "java/lang/IllegalArgumentException" ∧ c = 1 ∧ LK G m k (N + 5) (S + 160) H h' b)) ∧ (∀ {l : Launch} {G : hpG} {m d : Nat} {c0 : Int32} {H : hpT}, LM G m c0 H a → 45 ≤ d → hp_C l G yX6_failing (.code yX6_failing cX6_failing 4 (some .int)) d [.ref m, .int x, .int g] H (fun v h' => (∃ y, v = some (.int y) ∧ (c = 0 → y = w)) ∧ LR m H b c h') (fun _ _ => False)) := by
  have I := Z.1.1
  have T := I.1
  rcases lw_ndk a x 0 with ⟨n, hn, rfl, hk, h3⟩ | hbad
  · by_cases hg : 0 ≤ g.toInt ∧ g.toInt ≤ 50
    · refine ⟨a_sn a 11 n g.toInt, 0, Int32.ofInt (a_nd a 11 n), ⟨Z.1.fail hn hg, by rw [a_nd_sne _ _ _ (show (3 : Nat) ≠ 11 by decide)]; exact Z.2⟩, fun {l G m k N S d H} x1 rm hd => ?_, fun {l G m d c0 H} x2 hd => ?_⟩
      · obtain ⟨κ, K, rfl⟩ := x1
        obtain ⟨q1, q2⟩ := lw_rmK K rm Z.1 (Nat.le_of_lt hi)
        exact hp_Cww (kp_failing K T hn h3 hk hg (by omega)) (fun v h' hp => ⟨rfl, hp.1, LK.of hp.2 rfl rfl⟩) (fun _ _ hf => hf.elim)
      · obtain ⟨sh, z, R, ez⟩ := x2
        exact hp_Cww (mp_failing sh R T hn h3 hk hg (by omega)) (fun v h' hp => ⟨⟨_, hp.1, fun _ => rfl⟩, _, hp.2, lw_e ez⟩) (fun _ _ hf => hf)
    · refine ⟨a, 1, 0, Z.st, fun {l G m k N S d H} x1 rm hd => ?_, fun {l G m d c0 H} x2 hd => ?_⟩
      · obtain ⟨κ, K, rfl⟩ := x1
        obtain ⟨q1, q2⟩ := lw_rmK K rm Z.1 (Nat.le_of_lt hi)
        exact hp_Cww (kp_failingY K T hn h3 hk hg (by omega) (by omega) (by omega)) (fun _ _ hf => hf.elim) (fun E h' hx => ⟨hx.1, rfl, κ, by rw [hx.2]; exact K.mkX.mono (by omega) (by omega), rfl⟩)
      · obtain ⟨sh, z, R, ez⟩ := x2
        exact hp_Cww (mp_failingY sh R T hn h3 hk hg (by omega)) (fun v h' hp => ⟨⟨_, hp.1, fun z_1 => absurd z_1 (by decide)⟩, _, hp.2, lw_e ez⟩) (fun _ _ hf => hf)
  · refine ⟨a, 1, 0, Z.st, fun {l G m k N S d H} x1 rm hd => ?_, fun {l G m d c0 H} x2 hd => ?_⟩
    · obtain ⟨κ, K, rfl⟩ := x1
      obtain ⟨q1, q2⟩ := lw_rmK K rm Z.1 (Nat.le_of_lt hi)
      exact hp_Cww (kp_failingX K T hbad (by omega) (by omega) (by omega)) (fun _ _ hf => hf.elim) (fun E h' hx => ⟨hx.1, rfl, κ, by rw [hx.2]; exact K.mkX.mono (by omega) (by omega), rfl⟩)
    · obtain ⟨sh, z, R, ez⟩ := x2
      exact hp_Cww (mp_failingX sh R T hbad (by omega)) (fun v h' hp => ⟨⟨_, hp.1, fun z_1 => absurd z_1 (by decide)⟩, _, hp.2, lw_e ez⟩) (fun _ _ hf => hf)
set_option maxRecDepth 20000 in
set_option maxHeartbeats 4000000 in
theorem lj_begin {n0 : Nat} {a : aS} (Z : a_Y n0 a) (hi : n0 < 512) : ∃ (b : aS) (c w : Int32), a_Y (n0 + 1) b ∧ (∀ {l : Launch} {G : hpG} {m k N S d : Nat} {H : hpT}, LK G m k N S H H a → lw_rm G N S → 45 ≤ d → hp_C l G yX5_begin (.code yX5_begin cX5_begin 1 (some .boolean)) d [.ref k] H (fun v h' => c = 0 ∧ v = some (.int w) ∧ LK G m k (N + 5) (S + 160) H h' b) (fun E h' => E = "java/lang/IllegalStateException" ∧ c = 1 ∧ LK G m k (N + 5) (S + 160) H h' b)) ∧ (∀ {l : Launch} {G : hpG} {m d : Nat} {c0 : Int32} {H : hpT}, LM G m c0 H a → 45 ≤ d → hp_C l G yX6_begin (.code yX6_begin cX6_begin 1 (some .boolean)) d [.ref m] H (fun v h' => (∃ y, v = some (.int y) ∧ (c = 0 → y = w)) ∧ LR m H b c h') (fun _ _ => False)) := by
  have I := Z.1.1
  have T := I.1
  by_cases hu : a_nd a 3 0 = 1
  · refine ⟨a, 1, 0, Z.st, fun {l G m k N S d H} x1 rm hd => ?_, fun {l G m d c0 H} x2 hd => ?_⟩
    · obtain ⟨κ, K, rfl⟩ := x1
      obtain ⟨q1, q2⟩ := lw_rmK K rm Z.1 (Nat.le_of_lt hi)
      exact hp_Cww (kp_beginS K T I.2.1.2.1 hu (by omega) (by omega) (by omega)) (fun _ _ hf => hf.elim) (fun E h' hx => ⟨hx.1, rfl, κ, by rw [hx.2]; exact K.mkX.mono (by omega) (by omega), rfl⟩)
    · obtain ⟨sh, z, R, ez⟩ := x2
      exact hp_Cww (mp_beginS sh R hu (by omega)) (fun v h' hp => ⟨⟨_, hp.1, fun z_1 => absurd z_1 (by decide)⟩, _, hp.2, lw_e ez⟩) (fun _ _ hf => hf)
  · have hn : 0 < a_mk a := T.1.1
    have h9 : (9 : Int) ≤ (9 : Nat) + a_nd a 2 0 := by rw [I.2.1.1]; decide
    have Z1 := Z.1.go (f := 9) (n := 0) (Nat.le_refl _) hn Z.2 hu h9 (Or.inl rfl)
    have S1 := Z1.sm (Nat.succ_le_of_lt hi)
    refine ⟨(a_go 9 0 a).2, 0, if (a_go 9 0 a).1 = true then 1 else 0, ⟨Z1, by rw [(a_go_gk 9 0 a I.1 I.2.1 hn Z.2).2.1]; exact Z.2⟩, fun {l G m k N S d H} x1 rm hd => ?_, fun {l G m d c0 H} x2 hd => ?_⟩
    · obtain ⟨κ, K, rfl⟩ := x1
      obtain ⟨q1, q2⟩ := lw_rmK K rm Z.1 (Nat.le_of_lt hi)
      exact hp_Cww (kp_begin K T I.2.1.2.1 I.2.1.1 hu S1.2.1 (by omega)) (fun v h' hp => by obtain ⟨e0, ρ', K1⟩ := hp; exact ⟨rfl, e0, LK.of K1 (a_go_kp 9 0 a).rs rfl⟩) (fun _ _ hf => hf.elim)
    · obtain ⟨sh, z, R, ez⟩ := x2
      exact hp_Cww (mp_begin sh R I hu S1.2.1 (by omega)) (fun v h' hp => by obtain ⟨e0, z1, R1, e1⟩ := hp; exact ⟨⟨_, e0, fun _ => rfl⟩, z1, R1, lw_e2 ez e1⟩) (fun _ _ hf => hf)
set_option maxRecDepth 20000 in
set_option maxHeartbeats 4000000 in
theorem lj_ends {n0 : Nat} {a : aS} (Z : a_Y n0 a) (hi : n0 < 512) (x g : Int32) : ∃ (b : aS) (c : Int32), a_Y (n0 + 1) b ∧ (∀ {l : Launch} {G : hpG} {m k N S d : Nat} {H : hpT}, LK G m k N S H H a → lw_rm G N S → 45 ≤ d → hp_C l G yX5_ends (.code yX5_ends cX5_ends 4 none) d [.ref k, .int x, .int g] H (fun v h' => c = 0 ∧ v = none ∧ LK G m k (N + 5) (S + 160) H h' b) (LX G m k (N + 5) (S + 160) H b c)) ∧ (∀ {l : Launch} {G : hpG} {m d : Nat} {c0 : Int32} {H : hpT}, LM G m c0 H a → 45 ≤ d → hp_C l G yX6_ends (.code yX6_ends cX6_ends 3 none) d [.ref m, .int x, .int g] H (fun v h' => v = none ∧ LR m H b c h') (fun _ _ => False)) := by
  have I := Z.1.1
  have T := I.1
  rcases lw_ndk a x 0 with ⟨n, hn, rfl, hk, h3⟩ | hbad
  · by_cases hg : 0 ≤ g.toInt ∧ g.toInt ≤ 9
    · by_cases hu : a_nd a 3 n = 1
      · obtain ⟨y, rfl, ey⟩ := lw_nI hg.1
        obtain ⟨⟨v1, v2⟩, Z1⟩ := Z.1.ends (y := y) (Nat.le_refl _) hn hk hu
        have S1 := Z1.sm (Nat.succ_le_of_lt hi)
        refine ⟨a_hd 9 n y (a_no (a_sn a 3 n 0) 5 n y), 0, ⟨Z1, a_ends_r0 I Z.1.2.1 hn hk hu Z.2⟩, fun {l G m k N S d H} x1 rm hd => ?_, fun {l G m d c0 H} x2 hd => ?_⟩
        · obtain ⟨κ, K, rfl⟩ := x1
          obtain ⟨q1, q2⟩ := lw_rmK K rm Z.1 (Nat.le_of_lt hi)
          exact hp_Cww (kp_ends K T hn h3 hk I.2.2.2 (by omega) hu v2 (lw_fin rm Z1 (Nat.succ_le_of_lt hi)) (by omega)) (fun v h' hp => by obtain ⟨e0, κ', K1, e1⟩ := hp; exact ⟨rfl, e0, κ', KR.mono K1 (by omega) (by omega), congrFun (e1 5 (by decide)) 0⟩) (fun _ _ hf => hf.elim)
        · obtain ⟨sh, z, R, ez⟩ := x2
          exact hp_Cww (mp_ends sh R (by rw [ez]) I hn h3 hk (by omega) hu v1 S1.1 S1.2.1 (by omega)) (fun v h' hp => by obtain ⟨e0, z1, R1, e1⟩ := hp; exact ⟨e0, z1, R1, e1⟩) (fun _ _ hf => hf)
      · refine ⟨a, 2, Z.st, fun {l G m k N S d H} x1 rm hd => ?_, fun {l G m d c0 H} x2 hd => ?_⟩
        · obtain ⟨κ, K, rfl⟩ := x1
          obtain ⟨q1, q2⟩ := lw_rmK K rm Z.1 (Nat.le_of_lt hi)
          exact hp_Cww (kp_endsS K T hn h3 hk hg hu (by omega) (by omega) (by omega)) (fun _ _ hf => hf.elim) (fun E h' hx => LX.of2 K hx)
        · obtain ⟨sh, z, R, ez⟩ := x2
          exact hp_Cww (mp_endsS sh R T hn h3 hk hg hu (by omega)) (fun v h' hp => ⟨hp.1, _, hp.2, lw_e ez⟩) (fun _ _ hf => hf)
    · refine ⟨a, 1, Z.st, fun {l G m k N S d H} x1 rm hd => ?_, fun {l G m d c0 H} x2 hd => ?_⟩
      · obtain ⟨κ, K, rfl⟩ := x1
        obtain ⟨q1, q2⟩ := lw_rmK K rm Z.1 (Nat.le_of_lt hi)
        exact hp_Cww (kp_endsY K T hn h3 hk hg (by omega) (by omega) (by omega)) (fun _ _ hf => hf.elim) (fun E h' hx => LX.of1 K hx)
      · obtain ⟨sh, z, R, ez⟩ := x2
        exact hp_Cww (mp_endsY sh R T hn h3 hk hg (by omega)) (fun v h' hp => ⟨hp.1, _, hp.2, lw_e ez⟩) (fun _ _ hf => hf)
  · refine ⟨a, 1, Z.st, fun {l G m k N S d H} x1 rm hd => ?_, fun {l G m d c0 H} x2 hd => ?_⟩
    · obtain ⟨κ, K, rfl⟩ := x1
      obtain ⟨q1, q2⟩ := lw_rmK K rm Z.1 (Nat.le_of_lt hi)
      exact hp_Cww (kp_endsX K T hbad (by omega) (by omega) (by omega)) (fun _ _ hf => hf.elim) (fun E h' hx => LX.of1 K hx)
    · obtain ⟨sh, z, R, ez⟩ := x2
      exact hp_Cww (mp_endsX sh R T hbad (by omega)) (fun v h' hp => ⟨hp.1, _, hp.2, lw_e ez⟩) (fun _ _ hf => hf)
set_option maxRecDepth 20000 in
set_option maxHeartbeats 4000000 in
theorem lj_kill {n0 : Nat} {a : aS} (Z : a_Y n0 a) (hi : n0 < 512) (x : Int32) : ∃ (b : aS) (c w : Int32), a_Y (n0 + 1) b ∧ (∀ {l : Launch} {G : hpG} {m k N S d : Nat} {H : hpT}, LK G m k N S H H a → lw_rm G N S → 45 ≤ d → hp_C l G yX5_kill (.code yX5_kill cX5_kill 4 (some .int)) d [.ref k, .int x] H (fun v h' => c = 0 ∧ v = some (.int w) ∧ LK G m k (N + 5) (S + 160) H h' b) (LX G m k (N + 5) (S + 160) H b c)) ∧ (∀ {l : Launch} {G : hpG} {m d : Nat} {c0 : Int32} {H : hpT}, LM G m c0 H a → 45 ≤ d → hp_C l G yX6_kill (.code yX6_kill cX6_kill 3 (some .int)) d [.ref m, .int x] H (fun v h' => (∃ y, v = some (.int y) ∧ (c = 0 → y = w)) ∧ LR m H b c h') (fun _ _ => False)) := by
  have I := Z.1.1
  have T := I.1
  rcases lw_nd a x with ⟨n, hn, rfl, h3⟩ | hbad
  · by_cases hu : a_nd a 3 n = 1
    · obtain ⟨⟨v1, v2⟩, Z1⟩ := Z.1.kill (Nat.le_refl _) hn hu
      have S1 := Z1.sm (Nat.succ_le_of_lt hi)
      refine ⟨a_hd 9 n 9 (a_ce true (a_fu a n) n a).2, 0, nI (a_ce true (a_fu a n) n a).1, ⟨Z1, a_kill_r0 I Z.1.2.1 hn hu Z.2⟩, fun {l G m k N S d H} x1 rm hd => ?_, fun {l G m d c0 H} x2 hd => ?_⟩
      · obtain ⟨κ, K, rfl⟩ := x1
        obtain ⟨q1, q2⟩ := lw_rmK K rm Z.1 (Nat.le_of_lt hi)
        exact hp_Cww (kp_kill K T hn h3 I.2.2.2 hu v2 (lw_fin rm Z1 (Nat.succ_le_of_lt hi)) (by omega)) (fun v h' hp => by obtain ⟨e0, κ', K1, e1⟩ := hp; exact ⟨rfl, e0, κ', KR.mono K1 (by omega) (by omega), congrFun (e1 5 (by decide)) 0⟩) (fun _ _ hf => hf.elim)
      · obtain ⟨sh, z, R, ez⟩ := x2
        exact hp_Cww (mp_kill sh R (by rw [ez]) I hn h3 hu v1 S1.1 S1.2.1 (by omega)) (fun v h' hp => by obtain ⟨e0, z1, R1, e1⟩ := hp; exact ⟨⟨_, e0, fun _ => rfl⟩, z1, R1, e1⟩) (fun _ _ hf => hf)
    · refine ⟨a, 2, 0, Z.st, fun {l G m k N S d H} x1 rm hd => ?_, fun {l G m d c0 H} x2 hd => ?_⟩
      · obtain ⟨κ, K, rfl⟩ := x1
        obtain ⟨q1, q2⟩ := lw_rmK K rm Z.1 (Nat.le_of_lt hi)
        exact hp_Cww (kp_killS K T hn h3 hu (by omega) (by omega) (by omega)) (fun _ _ hf => hf.elim) (fun E h' hx => LX.of2 K hx)
      · obtain ⟨sh, z, R, ez⟩ := x2
        exact hp_Cww (mp_killS sh R T hn h3 hu (by omega)) (fun v h' hp => ⟨⟨_, hp.1, fun z_1 => absurd z_1 (by decide)⟩, _, hp.2, lw_e ez⟩) (fun _ _ hf => hf)
  · refine ⟨a, 1, 0, Z.st, fun {l G m k N S d H} x1 rm hd => ?_, fun {l G m d c0 H} x2 hd => ?_⟩
    · obtain ⟨κ, K, rfl⟩ := x1
      obtain ⟨q1, q2⟩ := lw_rmK K rm Z.1 (Nat.le_of_lt hi)
      exact hp_Cww (kp_killX K T hbad (by omega) (by omega) (by omega)) (fun _ _ hf => hf.elim) (fun E h' hx => LX.of1 K hx)
    · obtain ⟨sh, z, R, ez⟩ := x2
      exact hp_Cww (mp_killX sh R hbad (by omega)) (fun v h' hp => ⟨⟨_, hp.1, fun z_1 => absurd z_1 (by decide)⟩, _, hp.2, lw_e ez⟩) (fun _ _ hf => hf)
set_option maxRecDepth 20000 in
set_option maxHeartbeats 4000000 in
theorem lj_stop {n0 : Nat} {a : aS} (Z : a_Y n0 a) (hi : n0 < 512) (x : Int32) : ∃ (b : aS) (c : Int32), a_Y (n0 + 1) b ∧ (∀ {l : Launch} {G : hpG} {m k N S d : Nat} {H : hpT}, LK G m k N S H H a → lw_rm G N S → 45 ≤ d → hp_C l G yX5_stop (.code yX5_stop cX5_stop 4 none) d [.ref k, .int x] H (fun v h' => c = 0 ∧ v = none ∧ LK G m k (N + 5) (S + 160) H h' b) (LX G m k (N + 5) (S + 160) H b c)) ∧ (∀ {l : Launch} {G : hpG} {m d : Nat} {c0 : Int32} {H : hpT}, LM G m c0 H a → 45 ≤ d → hp_C l G yX6_stop (.code yX6_stop cX6_stop 2 none) d [.ref m, .int x] H (fun v h' => v = none ∧ LR m H b c h') (fun _ _ => False)) := by
  have I := Z.1.1
  have T := I.1
  rcases lw_nd a x with ⟨n, hn, rfl, h3⟩ | hbad
  · by_cases h0 : n = 0
    · subst h0
      refine ⟨a, 1, Z.st, fun {l G m k N S d H} x1 rm hd => ?_, fun {l G m d c0 H} x2 hd => ?_⟩
      · obtain ⟨κ, K, rfl⟩ := x1
        obtain ⟨q1, q2⟩ := lw_rmK K rm Z.1 (Nat.le_of_lt hi)
        exact hp_Cww (kp_stopY K T h3 (by omega) (by omega) (by omega)) (fun _ _ hf => hf.elim) (fun E h' hx => LX.of1 K hx)
      · obtain ⟨sh, z, R, ez⟩ := x2
        exact hp_Cww (mp_stopY sh R T h3 (by omega)) (fun v h' hp => ⟨hp.1, _, hp.2, lw_e ez⟩) (fun _ _ hf => hf)
    · obtain ⟨p1, p2, p3⟩ := lw_pa I hn h0 h3
      by_cases hu : a_nd a 3 n = 1
      · have Z1 := Z.1.stop hn h0 hu
        have S1 := Z1.sm (Nat.succ_le_of_lt hi)
        refine ⟨a_rl (a_fu a n) (a_pa a n) n (a_ix n (a_rw a (a_pa a n))) a, 0, ⟨Z1, a_stop_r0 I Z.1.2.1 hn h0 h3 Z.2⟩, fun {l G m k N S d H} x1 rm hd => ?_, fun {l G m d c0 H} x2 hd => ?_⟩
        · obtain ⟨κ, K, rfl⟩ := x1
          obtain ⟨q1, q2⟩ := lw_rmK K rm Z.1 (Nat.le_of_lt hi)
          exact hp_Cww (kp_stop K T hn h3 h0 p1 p2 p3 hu S1.2.1 (by omega)) (fun v h' hp => by obtain ⟨e0, μ', K1⟩ := hp; exact ⟨rfl, e0, LK.of K1 (a_rl_k2 _ _ _ _ a).rs rfl⟩) (fun _ _ hf => hf.elim)
        · obtain ⟨sh, z, R, ez⟩ := x2
          exact hp_Cww (mp_stop sh R I hn h3 h0 hu S1.2.1 (by omega)) (fun v h' hp => by obtain ⟨e0, z1, R1, e1⟩ := hp; exact ⟨e0, z1, R1, lw_e2 ez e1⟩) (fun _ _ hf => hf)
      · refine ⟨a, 2, Z.st, fun {l G m k N S d H} x1 rm hd => ?_, fun {l G m d c0 H} x2 hd => ?_⟩
        · obtain ⟨κ, K, rfl⟩ := x1
          obtain ⟨q1, q2⟩ := lw_rmK K rm Z.1 (Nat.le_of_lt hi)
          exact hp_Cww (kp_stopS K T hn h3 h0 p1 p2 hu (by omega) (by omega) (by omega)) (fun _ _ hf => hf.elim) (fun E h' hx => LX.of2 K hx)
        · obtain ⟨sh, z, R, ez⟩ := x2
          exact hp_Cww (mp_stopS sh R T hn h3 h0 hu (by omega)) (fun v h' hp => ⟨hp.1, _, hp.2, lw_e ez⟩) (fun _ _ hf => hf)
  · refine ⟨a, 1, Z.st, fun {l G m k N S d H} x1 rm hd => ?_, fun {l G m d c0 H} x2 hd => ?_⟩
    · obtain ⟨κ, K, rfl⟩ := x1
      obtain ⟨q1, q2⟩ := lw_rmK K rm Z.1 (Nat.le_of_lt hi)
      exact hp_Cww (kp_stopX K T hbad (by omega) (by omega) (by omega)) (fun _ _ hf => hf.elim) (fun E h' hx => LX.of1 K hx)
    · obtain ⟨sh, z, R, ez⟩ := x2
      exact hp_Cww (mp_stopX sh R hbad (by omega)) (fun v h' hp => ⟨hp.1, _, hp.2, lw_e ez⟩) (fun _ _ hf => hf)
set_option maxRecDepth 20000 in
set_option maxHeartbeats 4000000 in
theorem lj_again {n0 : Nat} {a : aS} (Z : a_Y n0 a) (hi : n0 < 512) (x : Int32) : ∃ (b : aS) (c w : Int32), a_Y (n0 + 1) b ∧ (∀ {l : Launch} {G : hpG} {m k N S d : Nat} {H : hpT}, LK G m k N S H H a → lw_rm G N S → 45 ≤ d → hp_C l G yX5_again (.code yX5_again cX5_again 4 (some .boolean)) d [.ref k, .int x] H (fun v h' => c = 0 ∧ v = some (.int w) ∧ LK G m k (N + 5) (S + 160) H h' b) (LX G m k (N + 5) (S + 160) H b c)) ∧ (∀ {l : Launch} {G : hpG} {m d : Nat} {c0 : Int32} {H : hpT}, LM G m c0 H a → 45 ≤ d → hp_C l G yX6_again (.code yX6_again cX6_again 2 (some .boolean)) d [.ref m, .int x] H (fun v h' => (∃ y, v = some (.int y) ∧ (c = 0 → y = w)) ∧ LR m H b c h') (fun _ _ => False)) := by
  have I := Z.1.1
  have T := I.1
  rcases lw_nd a x with ⟨n, hn, rfl, h3⟩ | hbad
  · by_cases h0 : n = 0
    · subst h0
      refine ⟨a, 1, 0, Z.st, fun {l G m k N S d H} x1 rm hd => ?_, fun {l G m d c0 H} x2 hd => ?_⟩
      · obtain ⟨κ, K, rfl⟩ := x1
        obtain ⟨q1, q2⟩ := lw_rmK K rm Z.1 (Nat.le_of_lt hi)
        exact hp_Cww (kp_againY K T h3 (by omega) (by omega) (by omega)) (fun _ _ hf => hf.elim) (fun E h' hx => LX.of1 K hx)
      · obtain ⟨sh, z, R, ez⟩ := x2
        exact hp_Cww (mp_againY sh R T h3 (by omega)) (fun v h' hp => ⟨⟨_, hp.1, fun z_1 => absurd z_1 (by decide)⟩, _, hp.2, lw_e ez⟩) (fun _ _ hf => hf)
    · obtain ⟨p1, p2, p3⟩ := lw_pa I hn h0 h3
      by_cases hu : a_nd a 3 n = 1
      · refine ⟨a, 2, 0, Z.st, fun {l G m k N S d H} x1 rm hd => ?_, fun {l G m d c0 H} x2 hd => ?_⟩
        · obtain ⟨κ, K, rfl⟩ := x1
          obtain ⟨q1, q2⟩ := lw_rmK K rm Z.1 (Nat.le_of_lt hi)
          exact hp_Cww (kp_againS K T hn h3 h0 p1 p2 hu (by omega) (by omega) (by omega)) (fun _ _ hf => hf.elim) (fun E h' hx => LX.of2 K hx)
        · obtain ⟨sh, z, R, ez⟩ := x2
          exact hp_Cww (mp_againS sh R T hn h3 h0 hu (by omega)) (fun v h' hp => ⟨⟨_, hp.1, fun z_1 => absurd z_1 (by decide)⟩, _, hp.2, lw_e ez⟩) (fun _ _ hf => hf)
      · by_cases hq : a_nd a 3 (a_pa a n) = 1
        · have r2 := T.r2 hn
          have efu : a_fu a n = (9 - a_nd a 2 n).toNat := rfl
          have Z1 := Z.1.go (f := a_fu a n) (by omega) hn h3 hu (by omega) (Or.inr hq)
          have S1 := Z1.sm (Nat.succ_le_of_lt hi)
          refine ⟨(a_go (a_fu a n) n a).2, 0, if (a_go (a_fu a n) n a).1 = true then 1 else 0, ⟨Z1, by rw [(a_go_gk _ n a I.1 I.2.1 hn h3).2.1]; exact Z.2⟩, fun {l G m k N S d H} x1 rm hd => ?_, fun {l G m d c0 H} x2 hd => ?_⟩
          · obtain ⟨κ, K, rfl⟩ := x1
            obtain ⟨q1, q2⟩ := lw_rmK K rm Z.1 (Nat.le_of_lt hi)
            exact hp_Cww (kp_again K T hn h3 h0 p1 p2 hu hq S1.2.1 (by omega)) (fun v h' hp => by obtain ⟨e0, ρ', K1⟩ := hp; exact ⟨rfl, e0, LK.of K1 (a_go_kp _ n a).rs rfl⟩) (fun _ _ hf => hf.elim)
          · obtain ⟨sh, z, R, ez⟩ := x2
            exact hp_Cww (mp_again sh R I hn h3 h0 hu hq S1.2.1 (by omega)) (fun v h' hp => by obtain ⟨e0, z1, R1, e1⟩ := hp; exact ⟨⟨_, e0, fun _ => rfl⟩, z1, R1, lw_e2 ez e1⟩) (fun _ _ hf => hf)
        · refine ⟨a, 2, 0, Z.st, fun {l G m k N S d H} x1 rm hd => ?_, fun {l G m d c0 H} x2 hd => ?_⟩
          · obtain ⟨κ, K, rfl⟩ := x1
            obtain ⟨q1, q2⟩ := lw_rmK K rm Z.1 (Nat.le_of_lt hi)
            exact hp_Cww (kp_againP K T hn h3 h0 p1 p2 hu hq (by omega) (by omega) (by omega)) (fun _ _ hf => hf.elim) (fun E h' hx => LX.of2 K hx)
          · obtain ⟨sh, z, R, ez⟩ := x2
            exact hp_Cww (mp_againP sh R T hn h3 h0 hu hq (by omega)) (fun v h' hp => ⟨⟨_, hp.1, fun z_1 => absurd z_1 (by decide)⟩, _, hp.2, lw_e ez⟩) (fun _ _ hf => hf)
  · refine ⟨a, 1, 0, Z.st, fun {l G m k N S d H} x1 rm hd => ?_, fun {l G m d c0 H} x2 hd => ?_⟩
    · obtain ⟨κ, K, rfl⟩ := x1
      obtain ⟨q1, q2⟩ := lw_rmK K rm Z.1 (Nat.le_of_lt hi)
      exact hp_Cww (kp_againX K T hbad (by omega) (by omega) (by omega)) (fun _ _ hf => hf.elim) (fun E h' hx => LX.of1 K hx)
    · obtain ⟨sh, z, R, ez⟩ := x2
      exact hp_Cww (mp_againX sh R hbad (by omega)) (fun v h' hp => ⟨⟨_, hp.1, fun z_1 => absurd z_1 (by decide)⟩, _, hp.2, lw_e ez⟩) (fun _ _ hf => hf)
set_option maxRecDepth 20000 in
set_option maxHeartbeats 4000000 in
theorem lj_remove {n0 : Nat} {a : aS} (Z : a_Y n0 a) (hi : n0 < 512) (x : Int32) : ∃ (b : aS) (c w : Int32), a_Y (n0 + 1) b ∧ (∀ {l : Launch} {G : hpG} {m k N S d : Nat} {H : hpT}, LK G m k N S H H a → lw_rm G N S → 45 ≤ d → hp_C l G yX5_remove (.code yX5_remove cX5_remove 4 (some .int)) d [.ref k, .int x] H (fun v h' => c = 0 ∧ v = some (.int w) ∧ LK G m k (N + 5) (S + 160) H h' b) (LX G m k (N + 5) (S + 160) H b c)) ∧ (∀ {l : Launch} {G : hpG} {m d : Nat} {c0 : Int32} {H : hpT}, LM G m c0 H a → 45 ≤ d → hp_C l G yX6_remove (.code yX6_remove cX6_remove 2 (some .int)) d [.ref m, .int x] H (fun v h' => (∃ y, v = some (.int y) ∧ (c = 0 → y = w)) ∧ LR m H b c h') (fun _ _ => False)) := by
  have I := Z.1.1
  have T := I.1
  rcases lw_nd a x with ⟨n, hn, rfl, h3⟩ | hbad
  · by_cases h0 : n = 0
    · subst h0
      refine ⟨a, 1, 0, Z.st, fun {l G m k N S d H} x1 rm hd => ?_, fun {l G m d c0 H} x2 hd => ?_⟩
      · obtain ⟨κ, K, rfl⟩ := x1
        obtain ⟨q1, q2⟩ := lw_rmK K rm Z.1 (Nat.le_of_lt hi)
        exact hp_Cww (kp_removeY K T h3 (by omega) (by omega) (by omega)) (fun _ _ hf => hf.elim) (fun E h' hx => LX.of1 K hx)
      · obtain ⟨sh, z, R, ez⟩ := x2
        exact hp_Cww (mp_removeY sh R T h3 (by omega)) (fun v h' hp => ⟨⟨_, hp.1, fun z_1 => absurd z_1 (by decide)⟩, _, hp.2, lw_e ez⟩) (fun _ _ hf => hf)
    · obtain ⟨p1, p2, p3⟩ := lw_pa I hn h0 h3
      by_cases hu : a_nd a 3 n = 1
      · refine ⟨a, 2, 0, Z.st, fun {l G m k N S d H} x1 rm hd => ?_, fun {l G m d c0 H} x2 hd => ?_⟩
        · obtain ⟨κ, K, rfl⟩ := x1
          obtain ⟨q1, q2⟩ := lw_rmK K rm Z.1 (Nat.le_of_lt hi)
          exact hp_Cww (kp_removeS K T hn h3 h0 p1 p2 hu (by omega) (by omega) (by omega)) (fun _ _ hf => hf.elim) (fun E h' hx => LX.of2 K hx)
        · obtain ⟨sh, z, R, ez⟩ := x2
          exact hp_Cww (mp_removeS sh R T hn h3 h0 hu (by omega)) (fun v h' hp => ⟨⟨_, hp.1, fun z_1 => absurd z_1 (by decide)⟩, _, hp.2, lw_e ez⟩) (fun _ _ hf => hf)
      · have r2 := T.r2 hn
        have efu : a_fu a n = (9 - a_nd a 2 n).toNat := rfl
        have Z1 := Z.1.rem hn h0 h3
        have S1 := Z.1.sm (Nat.le_of_lt hi)
        refine ⟨(a_dis (a_fu a n) (a_pa a n) n (a_ix n (a_rw a (a_pa a n))) a).2, 0, nI (a_dis (a_fu a n) (a_pa a n) n (a_ix n (a_rw a (a_pa a n))) a).1, ⟨Z1, a_dis_r0 I hn h0 h3 (by omega) Z.2⟩, fun {l G m k N S d H} x1 rm hd => ?_, fun {l G m d c0 H} x2 hd => ?_⟩
        · obtain ⟨κ, K, rfl⟩ := x1
          obtain ⟨q1, q2⟩ := lw_rmK K rm Z.1 (Nat.le_of_lt hi)
          exact hp_Cww (kp_remove K T hn h3 h0 p1 p2 p3 hu S1.2.1 (by omega)) (fun v h' hp => by obtain ⟨e0, μ', K1⟩ := hp; exact ⟨rfl, e0, LK.of K1 (a_dis_k2 _ _ _ _ a).rs rfl⟩) (fun _ _ hf => hf.elim)
        · obtain ⟨sh, z, R, ez⟩ := x2
          exact hp_Cww (mp_remove2 sh R I hn h3 h0 hu S1.2.1 (by omega)) (fun v h' hp => ⟨⟨_, hp.1, fun _ => rfl⟩, _, hp.2, lw_e ez⟩) (fun _ _ hf => hf)
  · refine ⟨a, 1, 0, Z.st, fun {l G m k N S d H} x1 rm hd => ?_, fun {l G m d c0 H} x2 hd => ?_⟩
    · obtain ⟨κ, K, rfl⟩ := x1
      obtain ⟨q1, q2⟩ := lw_rmK K rm Z.1 (Nat.le_of_lt hi)
      exact hp_Cww (kp_removeX K T hbad (by omega) (by omega) (by omega)) (fun _ _ hf => hf.elim) (fun E h' hx => LX.of1 K hx)
    · obtain ⟨sh, z, R, ez⟩ := x2
      exact hp_Cww (mp_removeX sh R hbad (by omega)) (fun v h' hp => ⟨⟨_, hp.1, fun z_1 => absurd z_1 (by decide)⟩, _, hp.2, lw_e ez⟩) (fun _ _ hf => hf)
set_option maxRecDepth 20000 in
set_option maxHeartbeats 4000000 in
theorem lj_pass {n0 : Nat} {a : aS} (Z : a_Y n0 a) (hi : n0 < 512) (x : Int32) : ∃ (b : aS) (c w : Int32), a_Y (n0 + 1) b ∧ (∀ {l : Launch} {G : hpG} {m k N S d : Nat} {H : hpT}, LK G m k N S H H a → lw_rm G N S → 45 ≤ d → hp_C l G yX5_pass (.code yX5_pass cX5_pass 2 (some .int)) d [.ref k, .int x] H (fun v h' => c = 0 ∧ v = some (.int w) ∧ LK G m k (N + 5) (S + 160) H h' b) (fun E h' => E = "java/lang/IllegalArgumentException" ∧ c = 1 ∧ LK G m k (N + 5) (S + 160) H h' b)) ∧ (∀ {l : Launch} {G : hpG} {m d : Nat} {c0 : Int32} {H : hpT}, LM G m c0 H a → 45 ≤ d → hp_C l G yX6_pass (.code yX6_pass cX6_pass 2 (some .int)) d [.ref m, .int x] H (fun v h' => (∃ y, v = some (.int y) ∧ (c = 0 → y = w)) ∧ LR m H b c h') (fun _ _ => False)) := by
  have I := Z.1.1
  have T := I.1
  by_cases hb : 0 ≤ x.toInt ∧ x.toInt ≤ 10000
  · obtain ⟨n, rfl, en⟩ := lw_nI hb.1
    refine ⟨a_st a (a_tm a + n), 0, nI (a_tm a + n), ⟨Z.1.pass (by omega), Z.2⟩, fun {l G m k N S d H} x1 rm hd => ?_, fun {l G m d c0 H} x2 hd => ?_⟩
    · obtain ⟨κ, K, rfl⟩ := x1
      obtain ⟨q1, q2⟩ := lw_rmK K rm Z.1 (Nat.le_of_lt hi)
      exact hp_Cww (kp_pass K (by omega) (by omega)) (fun v h' hp => ⟨rfl, hp.1, LK.of hp.2 rfl rfl⟩) (fun _ _ hf => hf.elim)
    · obtain ⟨sh, z, R, ez⟩ := x2
      exact hp_Cww (mp_pass sh R (by omega) (by omega)) (fun v h' hp => ⟨⟨_, hp.1, fun _ => rfl⟩, _, hp.2, lw_e ez⟩) (fun _ _ hf => hf)
  · refine ⟨a, 1, 0, Z.st, fun {l G m k N S d H} x1 rm hd => ?_, fun {l G m d c0 H} x2 hd => ?_⟩
    · obtain ⟨κ, K, rfl⟩ := x1
      obtain ⟨q1, q2⟩ := lw_rmK K rm Z.1 (Nat.le_of_lt hi)
      exact hp_Cww (kp_passX K hb (by omega) (by omega) (by omega)) (fun _ _ hf => hf.elim) (fun E h' hx => ⟨hx.1, rfl, κ, by rw [hx.2]; exact K.mkX.mono (by omega) (by omega), rfl⟩)
    · obtain ⟨sh, z, R, ez⟩ := x2
      exact hp_Cww (mp_passX sh R hb (by omega)) (fun v h' hp => ⟨⟨_, hp.1, fun z_1 => absurd z_1 (by decide)⟩, _, hp.2, lw_e ez⟩) (fun _ _ hf => hf)
set_option maxRecDepth 20000 in
set_option maxHeartbeats 4000000 in
theorem lj_state {n0 : Nat} {a : aS} (Z : a_Y n0 a) (hi : n0 < 512) (x : Int32) : ∃ (b : aS) (c w : Int32), a_Y (n0 + 1) b ∧ (∀ {l : Launch} {G : hpG} {m k N S d : Nat} {H : hpT}, LK G m k N S H H a → lw_rm G N S → 45 ≤ d → hp_C l G yX5_state (.code yX5_state cX5_state 2 (some .int)) d [.ref k, .int x] H (fun v h' => c = 0 ∧ v = some (.int w) ∧ LK G m k (N + 5) (S + 160) H h' b) (fun E h' => E = "java/lang/IllegalArgumentException" ∧ c = 1 ∧ LK G m k (N + 5) (S + 160) H h' b)) ∧ (∀ {l : Launch} {G : hpG} {m d : Nat} {c0 : Int32} {H : hpT}, LM G m c0 H a → 45 ≤ d → hp_C l G yX6_state (.code yX6_state cX6_state 2 (some .int)) d [.ref m, .int x] H (fun v h' => (∃ y, v = some (.int y) ∧ (c = 0 → y = w)) ∧ LR m H b c h') (fun _ _ => False)) := by
  have I := Z.1.1
  have T := I.1
  by_cases hb : 0 ≤ x.toInt ∧ x.toInt < a_mk a
  · obtain ⟨n, rfl, en⟩ := lw_nI hb.1
    refine ⟨a, 0, Int32.ofInt (a_nd a 3 n), Z.st, fun {l G m k N S d H} x1 rm hd => ?_, fun {l G m d c0 H} x2 hd => ?_⟩
    · obtain ⟨κ, K, rfl⟩ := x1
      obtain ⟨q1, q2⟩ := lw_rmK K rm Z.1 (Nat.le_of_lt hi)
      exact hp_Cww (kp_state K T (by omega) (by omega)) (fun v h' hp => ⟨rfl, hp.1, LK.of (by rw [hp.2]; exact K) rfl rfl⟩) (fun _ _ hf => hf.elim)
    · obtain ⟨sh, z, R, ez⟩ := x2
      exact hp_Cww (mp_state sh R T (by omega) (by omega)) (fun v h' hp => ⟨⟨_, hp.1, fun _ => rfl⟩, _, hp.2, lw_e ez⟩) (fun _ _ hf => hf)
  · refine ⟨a, 1, 0, Z.st, fun {l G m k N S d H} x1 rm hd => ?_, fun {l G m d c0 H} x2 hd => ?_⟩
    · obtain ⟨κ, K, rfl⟩ := x1
      obtain ⟨q1, q2⟩ := lw_rmK K rm Z.1 (Nat.le_of_lt hi)
      exact hp_Cww (kp_stateX K T hb (by omega) (by omega) (by omega)) (fun _ _ hf => hf.elim) (fun E h' hx => ⟨hx.1, rfl, κ, by rw [hx.2]; exact K.mkX.mono (by omega) (by omega), rfl⟩)
    · obtain ⟨sh, z, R, ez⟩ := x2
      exact hp_Cww (mp_stateX sh R T hb (by omega)) (fun v h' hp => ⟨⟨_, hp.1, fun z_1 => absurd z_1 (by decide)⟩, _, hp.2, lw_e ez⟩) (fun _ _ hf => hf)
set_option maxRecDepth 20000 in
set_option maxHeartbeats 4000000 in
theorem lj_about {n0 : Nat} {a : aS} (Z : a_Y n0 a) (hi : n0 < 512) (x q : Int32) : ∃ (b : aS) (c : Int32), a_Y (n0 + 1) b ∧ (∀ {l : Launch} {G : hpG} {m k N S d : Nat} {H : hpT}, LK G m k N S H H a → lw_rm G N S → 45 ≤ d → hp_C l G yX5_about (.code yX5_about cX5_about 5 (some .int)) d [.ref k, .int x, .int q] H (fun v h' => c = 0 ∧ (∃ y, v = some (.int y)) ∧ LK G m k (N + 5) (S + 160) H h' b) (fun E h' => E = "java/lang/IllegalArgumentException" ∧ c = 1 ∧ LK G m k (N + 5) (S + 160) H h' b)) ∧ (∀ {l : Launch} {G : hpG} {m d : Nat} {c0 : Int32} {H : hpT}, LM G m c0 H a → 45 ≤ d → hp_C l G yX6_about (.code yX6_about cX6_about 5 (some .int)) d [.ref m, .int x, .int q] H (fun v h' => (∃ y, v = some (.int y)) ∧ LR m H b c h') (fun _ _ => False)) := by
  have I := Z.1.1
  have T := I.1
  rcases lw_nd a x with ⟨n, hn, rfl, h3⟩ | hbad
  · by_cases hq : 0 ≤ q.toInt ∧ q.toInt ≤ 7
    · have S1 := Z.1.sm (Nat.le_of_lt hi)
      refine ⟨a, 0, Z.st, fun {l G m k N S d H} x1 rm hd => ?_, fun {l G m d c0 H} x2 hd => ?_⟩
      · obtain ⟨κ, K, rfl⟩ := x1
        obtain ⟨q1, q2⟩ := lw_rmK K rm Z.1 (Nat.le_of_lt hi)
        exact hp_Cww (kp_about K T hn h3 I.2.2.2 S1.1 hq (fun h0 => lw_pa I hn h0 h3) (by omega)) (fun v h' hp => ⟨rfl, hp.1, LK.of (by rw [hp.2]; exact K) rfl rfl⟩) (fun _ _ hf => hf.elim)
      · obtain ⟨sh, z, R, ez⟩ := x2
        exact hp_Cww (mp_about sh R I hn h3 hq (by omega)) (fun v h' hp => ⟨hp.1, _, hp.2, lw_e ez⟩) (fun _ _ hf => hf)
    · refine ⟨a, 1, Z.st, fun {l G m k N S d H} x1 rm hd => ?_, fun {l G m d c0 H} x2 hd => ?_⟩
      · obtain ⟨κ, K, rfl⟩ := x1
        obtain ⟨q1, q2⟩ := lw_rmK K rm Z.1 (Nat.le_of_lt hi)
        exact hp_Cww (kp_aboutY K T hn h3 hq (by omega) (by omega) (by omega)) (fun _ _ hf => hf.elim) (fun E h' hx => ⟨hx.1, rfl, κ, by rw [hx.2]; exact K.mkX.mono (by omega) (by omega), rfl⟩)
      · obtain ⟨sh, z, R, ez⟩ := x2
        exact hp_Cww (mp_aboutY sh R T hn h3 hq (by omega)) (fun v h' hp => ⟨⟨_, hp.1⟩, _, hp.2, lw_e ez⟩) (fun _ _ hf => hf)
  · refine ⟨a, 1, Z.st, fun {l G m k N S d H} x1 rm hd => ?_, fun {l G m d c0 H} x2 hd => ?_⟩
    · obtain ⟨κ, K, rfl⟩ := x1
      obtain ⟨q1, q2⟩ := lw_rmK K rm Z.1 (Nat.le_of_lt hi)
      exact hp_Cww (kp_aboutX K T hbad (by omega) (by omega) (by omega)) (fun _ _ hf => hf.elim) (fun E h' hx => ⟨hx.1, rfl, κ, by rw [hx.2]; exact K.mkX.mono (by omega) (by omega), rfl⟩)
    · obtain ⟨sh, z, R, ez⟩ := x2
      exact hp_Cww (mp_aboutX sh R hbad (by omega)) (fun v h' hp => ⟨⟨_, hp.1⟩, _, hp.2, lw_e ez⟩) (fun _ _ hf => hf)
set_option maxRecDepth 20000 in
set_option maxHeartbeats 4000000 in
theorem lj_child {n0 : Nat} {a : aS} (Z : a_Y n0 a) (hi : n0 < 512) (x i : Int32) : ∃ (b : aS) (c w : Int32), a_Y (n0 + 1) b ∧ (∀ {l : Launch} {G : hpG} {m k N S d : Nat} {H : hpT}, LK G m k N S H H a → lw_rm G N S → 45 ≤ d → hp_C l G yX5_child (.code yX5_child cX5_child 4 (some .int)) d [.ref k, .int x, .int i] H (fun v h' => c = 0 ∧ v = some (.int w) ∧ LK G m k (N + 5) (S + 160) H h' b) (fun E h' => E = "java/lang/IllegalArgumentException" ∧ c = 1 ∧ LK G m k (N + 5) (S + 160) H h' b)) ∧ (∀ {l : Launch} {G : hpG} {m d : Nat} {c0 : Int32} {H : hpT}, LM G m c0 H a → 45 ≤ d → hp_C l G yX6_child_ (.code yX6_child_ cX6_child_ 3 (some .int)) d [.ref m, .int x, .int i] H (fun v h' => (∃ y, v = some (.int y) ∧ (c = 0 → y = w)) ∧ LR m H b c h') (fun _ _ => False)) := by
  have I := Z.1.1
  have T := I.1
  rcases lw_ndk a x 1 with ⟨n, hn, rfl, hk, h3⟩ | hbad
  · refine ⟨a, 0, a_chd a n i, Z.st, fun {l G m k N S d H} x1 rm hd => ?_, fun {l G m d c0 H} x2 hd => ?_⟩
    · obtain ⟨κ, K, rfl⟩ := x1
      obtain ⟨q1, q2⟩ := lw_rmK K rm Z.1 (Nat.le_of_lt hi)
      exact hp_Cww (kp_child K T hn h3 hk (by omega)) (fun v h' hp => ⟨rfl, hp.1, LK.of (by rw [hp.2]; exact K) rfl rfl⟩) (fun _ _ hf => hf.elim)
    · obtain ⟨sh, z, R, ez⟩ := x2
      exact hp_Cww (mp_child sh R T hn h3 hk (by omega)) (fun v h' hp => ⟨⟨_, hp.1, fun _ => rfl⟩, _, hp.2, lw_e ez⟩) (fun _ _ hf => hf)
  · refine ⟨a, 1, 0, Z.st, fun {l G m k N S d H} x1 rm hd => ?_, fun {l G m d c0 H} x2 hd => ?_⟩
    · obtain ⟨κ, K, rfl⟩ := x1
      obtain ⟨q1, q2⟩ := lw_rmK K rm Z.1 (Nat.le_of_lt hi)
      exact hp_Cww (kp_childX K T hbad (by omega) (by omega) (by omega)) (fun _ _ hf => hf.elim) (fun E h' hx => ⟨hx.1, rfl, κ, by rw [hx.2]; exact K.mkX.mono (by omega) (by omega), rfl⟩)
    · obtain ⟨sh, z, R, ez⟩ := x2
      exact hp_Cww (mp_childX sh R T hbad (by omega)) (fun v h' hp => ⟨⟨_, hp.1, fun z_1 => absurd z_1 (by decide)⟩, _, hp.2, lw_e ez⟩) (fun _ _ hf => hf)
set_option maxRecDepth 20000 in
set_option maxHeartbeats 4000000 in
theorem lj_event {n0 : Nat} {a : aS} (Z : a_Y n0 a) (hi : n0 < 512) (i x : Int32) : ∃ (b : aS) (c w : Int32), a_Y (n0 + 1) b ∧ (∀ {l : Launch} {G : hpG} {m k N S d : Nat} {H : hpT}, LK G m k N S H H a → lw_rm G N S → 45 ≤ d → hp_C l G yX5_event (.code yX5_event cX5_event 3 (some .int)) d [.ref k, .int i, .int x] H (fun v h' => c = 0 ∧ v = some (.int w) ∧ LK G m k (N + 5) (S + 160) H h' b) (fun E h' => E = "java/lang/IllegalArgumentException" ∧ c = 1 ∧ LK G m k (N + 5) (S + 160) H h' b)) ∧ (∀ {l : Launch} {G : hpG} {m d : Nat} {c0 : Int32} {H : hpT}, LM G m c0 H a → 45 ≤ d → hp_C l G yX6_event (.code yX6_event cX6_event 3 (some .int)) d [.ref m, .int i, .int x] H (fun v h' => (∃ y, v = some (.int y) ∧ (c = 0 → y = w)) ∧ LR m H b c h') (fun _ _ => False)) := by
  have I := Z.1.1
  have T := I.1
  by_cases hb : 0 ≤ x.toInt ∧ x.toInt ≤ 3
  · have S1 := Z.1.sm (Nat.le_of_lt hi)
    obtain ⟨n, rfl, en⟩ := lw_nI hb.1
    refine ⟨a, 0, a_evt a i n, Z.st, fun {l G m k N S d H} x1 rm hd => ?_, fun {l G m d c0 H} x2 hd => ?_⟩
    · obtain ⟨κ, K, rfl⟩ := x1
      obtain ⟨q1, q2⟩ := lw_rmK K rm Z.1 (Nat.le_of_lt hi)
      exact hp_Cww (kp_event K (by omega) S1.2.1 (by omega)) (fun v h' hp => ⟨rfl, hp.1, LK.of (by rw [hp.2]; exact K) rfl rfl⟩) (fun _ _ hf => hf.elim)
    · obtain ⟨sh, z, R, ez⟩ := x2
      exact hp_Cww (mp_event sh R (by omega) S1.2.1 (by omega)) (fun v h' hp => ⟨⟨_, hp.1, fun _ => rfl⟩, _, hp.2, lw_e ez⟩) (fun _ _ hf => hf)
  · refine ⟨a, 1, 0, Z.st, fun {l G m k N S d H} x1 rm hd => ?_, fun {l G m d c0 H} x2 hd => ?_⟩
    · obtain ⟨κ, K, rfl⟩ := x1
      obtain ⟨q1, q2⟩ := lw_rmK K rm Z.1 (Nat.le_of_lt hi)
      exact hp_Cww (kp_eventX K hb (by omega) (by omega) (by omega)) (fun _ _ hf => hf.elim) (fun E h' hx => ⟨hx.1, rfl, κ, by rw [hx.2]; exact K.mkX.mono (by omega) (by omega), rfl⟩)
    · obtain ⟨sh, z, R, ez⟩ := x2
      exact hp_Cww (mp_eventX sh R hb (by omega)) (fun v h' hp => ⟨⟨_, hp.1, fun z_1 => absurd z_1 (by decide)⟩, _, hp.2, lw_e ez⟩) (fun _ _ hf => hf)
set_option maxRecDepth 20000 in
set_option maxHeartbeats 4000000 in
theorem lj_total {n0 : Nat} {a : aS} (Z : a_Y n0 a) (hi : n0 < 512) (q : Int32) : ∃ (b : aS) (c w : Int32), a_Y (n0 + 1) b ∧ (∀ {l : Launch} {G : hpG} {m k N S d : Nat} {H : hpT}, LK G m k N S H H a → lw_rm G N S → 45 ≤ d → hp_C l G yX5_total (.code yX5_total cX5_total 2 (some .int)) d [.ref k, .int q] H (fun v h' => c = 0 ∧ v = some (.int w) ∧ LK G m k (N + 5) (S + 160) H h' b) (fun E h' => E = "java/lang/IllegalArgumentException" ∧ c = 1 ∧ LK G m k (N + 5) (S + 160) H h' b)) ∧ (∀ {l : Launch} {G : hpG} {m d : Nat} {c0 : Int32} {H : hpT}, LM G m c0 H a → 45 ≤ d → hp_C l G yX6_total (.code yX6_total cX6_total 5 (some .int)) d [.ref m, .int q] H (fun v h' => (∃ y, v = some (.int y) ∧ (c = 0 → y = w)) ∧ LR m H b c h') (fun _ _ => False)) := by
  have I := Z.1.1
  have T := I.1
  by_cases hb : 0 ≤ q.toInt ∧ q.toInt ≤ 6
  · refine ⟨a, 0, a_tot a q, Z.st, fun {l G m k N S d H} x1 rm hd => ?_, fun {l G m d c0 H} x2 hd => ?_⟩
    · obtain ⟨κ, K, rfl⟩ := x1
      obtain ⟨q1, q2⟩ := lw_rmK K rm Z.1 (Nat.le_of_lt hi)
      exact hp_Cww (kp_total K T hb (by omega)) (fun v h' hp => ⟨rfl, hp.1, LK.of (by rw [hp.2]; exact K) rfl rfl⟩) (fun _ _ hf => hf.elim)
    · obtain ⟨sh, z, R, ez⟩ := x2
      exact hp_Cww (mp_total sh R T hb (by omega)) (fun v h' hp => ⟨⟨_, hp.1, fun _ => rfl⟩, _, hp.2, lw_e ez⟩) (fun _ _ hf => hf)
  · refine ⟨a, 1, 0, Z.st, fun {l G m k N S d H} x1 rm hd => ?_, fun {l G m d c0 H} x2 hd => ?_⟩
    · obtain ⟨κ, K, rfl⟩ := x1
      obtain ⟨q1, q2⟩ := lw_rmK K rm Z.1 (Nat.le_of_lt hi)
      exact hp_Cww (kp_totalX K hb (by omega) (by omega) (by omega)) (fun _ _ hf => hf.elim) (fun E h' hx => ⟨hx.1, rfl, κ, by rw [hx.2]; exact K.mkX.mono (by omega) (by omega), rfl⟩)
    · obtain ⟨sh, z, R, ez⟩ := x2
      exact hp_Cww (mp_totalX sh R hb (by omega)) (fun v h' hp => ⟨⟨_, hp.1, fun z_1 => absurd z_1 (by decide)⟩, _, hp.2, lw_e ez⟩) (fun _ _ hf => hf)
