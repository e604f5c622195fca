/-! ===== the reference: total, about ===== -/
set_option maxRecDepth 20000 in
set_option maxHeartbeats 4000000 in
theorem mp_totalX {l : Launch} {G : hpG} {h H : hpT} {m d : Nat} {a : aS} {z : mrZ} (sh : mo_sh G h m) (R : MR h m H a z) {q : Int32} (hb : ¬ (0 ≤ q.toInt ∧ q.toInt ≤ 6)) (hd : 6 ≤ d) : hp_C l G yX6_total (.code yX6_total cX6_total 5 (some .int)) d [.ref m, .int q] (H) (fun v h' => v = some (.int 0) ∧ MR h m h' a (z.1, z.2.1, 1, z.2.2.2)) (fun _ _ => False) := by
  refine hp_ofV (by decide) (by simp [Value.category]) (Nat.le_of_ble_eq_true rfl) (fun M C hr hx el => ?_)
  refine hp_aload_nR C dX6_total_0 rfl ?_
  refine hp_iload_n C dX6_total_1 rfl ?_
  refine hp_iconst (v := 0) C dX6_total_2 (by decide) ?_
  refine hp_bipush (v := 6) C dX6_total_3 (by decide) ?_
  refine hp_callS C ml_X6_118 sm_X6_in (mc_inN (d := d - 1) (by decide) (by decide) hb) (by omega) dX6_total_5 rfl rfl (by simp [Value.category]) (fun v_5 h_5 hp => ?_) (fun _ _ hf => hf.elim)
  obtain ⟨rfl, rfl⟩ := hp
  refine hp_if_ne (tgt := 15) C dX6_total_8 (by decide) (fun z_9 => absurd z_9 (by decide)) (fun _ => ?_)
  refine hp_iconst (v := 1) C dX6_total_11 (by decide) ?_
  refine hp_goto (tgt := 16) C dX6_total_12 (by decide) ?_
  refine hp_callV (ci := 6) C ml_X6_125 im_X6_refuses se_X6_refuses rfl (by decide) (mc_refu (d := d - 1) (c := 1) (r := 1) sh R (by decide)) (by omega) dX6_total_16 (R.o sh) rfl rfl (by simp [Value.category]) (fun v_16 h_16 hp => ?_) (fun _ _ hf => hf.elim)
  obtain ⟨rfl, R_16⟩ := hp
  refine hp_if_eq (tgt := 24) C dX6_total_19 (by decide) (fun z_9 => absurd z_9 (by decide)) (fun _ => ?_)
  refine hp_iconst (v := 0) C dX6_total_22 (by decide) ?_
  refine hp_iret C hr rfl dX6_total_23 ?_
  exact ⟨rfl, R_16⟩
theorem a_ci_s {a : aS} {s : Int} {i : Nat} (h : a_nd a 3 i = s) : nI (a_ci a s i) + 1 = nI (a_ci a s (i + 1)) := by
  rw [nI_1]
  show _ = nI (if a_nd a 3 i = s then a_ci a s i + 1 else a_ci a s i)
  rw [if_pos h]
theorem a_ci_n {a : aS} {s : Int} {i : Nat} (h : ¬ a_nd a 3 i = s) : nI (a_ci a s i) + 0 = nI (a_ci a s (i + 1)) := by
  rw [Int32.add_zero]
  show _ = nI (if a_nd a 3 i = s then a_ci a s i + 1 else a_ci a s i)
  rw [if_neg h]
set_option maxHeartbeats 4000000 in
theorem ml_tot {M : hpM} {G : hpG} {d : Nat} {h0 h H : hpT} {m : Nat} {a : aS} {z : mrZ} {Q : State → Prop} (sh : mo_sh G h m) (C : hp_F M G yX6_total cX6_total 5 d h0) (R : MR h m H a z) (T : a_T a) {q : Int32} (hP : ∀ lo' : Nat → Option Value, lo' 0 = some (.ref m) → lo' 1 = some (.int q) → lo' 2 = some (.int (nI (a_ci a 1 (a_mk a)))) → lo' 3 = some (.int (nI (a_ci a 2 (a_mk a)))) → hp_V M G 5 Q H 84 lo' []) : ∀ (k i : Nat) (lo : Nat → Option Value), i + k = a_mk a → lo 0 = some (.ref m) → lo 1 = some (.int q) → lo 2 = some (.int (nI (a_ci a 1 i))) → lo 3 = some (.int (nI (a_ci a 2 i))) → lo 4 = some (.int (nI i)) → hp_V M G 5 Q H 31 lo [] := by
  have m80 := T.1.2
  intro k
  induction k with
  | zero =>
    intro i lo hi e0 e1 e2 e3 e4
    have ei : i = a_mk a := by omega
    subst ei
    refine hp_iload C dX6_total_31 e4 ?_
    refine hp_aload_nR C dX6_total_33 e0 ?_
    refine mr_S C sh R fl_X6_68_6 (Or.inr (Or.inl ⟨rfl, rfl⟩)) dX6_total_34 ?_
    refine hp_icmp_ge (tgt := 84) C dX6_total_37 (by decide) (fun _ => ?_) (fun z_9 => absurd (Int32.le_refl _) z_9)
    exact hP lo e0 e1 e2 e3
  | succ k ih =>
    intro i lo hi e0 e1 e2 e3 e4
    have him : i < a_mk a := by omega
    have hi8 : i < 80 := by omega
    have r3 := T.r3 him
    refine hp_iload C dX6_total_31 e4 ?_
    refine hp_aload_nR C dX6_total_33 e0 ?_
    refine mr_S C sh R fl_X6_68_6 (Or.inr (Or.inl ⟨rfl, rfl⟩)) dX6_total_34 ?_
    refine hp_icmp_ge (tgt := 84) C dX6_total_37 (by decide) (fun z_9 => absurd z_9 (nI_ge him (by omega))) (fun _ => ?_)
    refine hp_iload_n C dX6_total_40 e2 ?_
    refine hp_aload_nR C dX6_total_41 e0 ?_
    refine mr_A C sh R fl_X6_20_6 rfl (by decide) dX6_total_42 ?_
    refine hp_iload C dX6_total_45 e4 ?_
    refine mr_nd C sh R 5 3 (by decide) (by decide) rfl hi8 dX6_total_47 ?_
    refine hp_iconst (v := 1) C dX6_total_48 (by decide) ?_
    refine hp_icmp_ne (tgt := 56) C dX6_total_49 (by decide) (fun c_49 => ?_) (fun c_49 => ?_)
    · refine hp_iconst (v := 0) C dX6_total_56 (by decide) ?_
      refine hp_iadd C dX6_total_57 ?_
      refine hp_istore_n C dX6_total_58 (by decide) ?_
      refine hp_iload_n C dX6_total_59 e3 ?_
      refine hp_aload_nR C dX6_total_60 e0 ?_
      refine mr_A C sh R fl_X6_20_6 rfl (by decide) dX6_total_61 ?_
      refine hp_iload C dX6_total_64 e4 ?_
      refine mr_nd C sh R 5 3 (by decide) (by decide) rfl hi8 dX6_total_66 ?_
      refine hp_iconst (v := 2) C dX6_total_67 (by decide) ?_
      refine hp_icmp_ne (tgt := 75) C dX6_total_68 (by decide) (fun c_68 => ?_) (fun c_68 => ?_)
      · refine hp_iconst (v := 0) C dX6_total_75 (by decide) ?_
        refine hp_iadd C dX6_total_76 ?_
        refine hp_istore_n C dX6_total_77 (by decide) ?_
        refine hp_iinc C dX6_total_78 e4 (by decide) rfl ?_
        refine hp_goto (tgt := 31) C dX6_total_81 (by decide) ?_
        exact ih (i + 1) _ (by omega) e0 e1 (congrArg (fun q => some (Value.int q)) (a_ci_n (fun e => c_49 (by rw [e]; decide)))) (congrArg (fun q => some (Value.int q)) (a_ci_n (fun e => c_68 (by rw [e]; decide)))) ((va_up_self _ _ _).trans (by rw [show Int32.ofInt 1 = 1 from rfl, nI_1]))
      · refine hp_iconst (v := 1) C dX6_total_71 (by decide) ?_
        refine hp_goto (tgt := 76) C dX6_total_72 (by decide) ?_
        refine hp_iadd C dX6_total_76 ?_
        refine hp_istore_n C dX6_total_77 (by decide) ?_
        refine hp_iinc C dX6_total_78 e4 (by decide) rfl ?_
        refine hp_goto (tgt := 31) C dX6_total_81 (by decide) ?_
        exact ih (i + 1) _ (by omega) e0 e1 (congrArg (fun q => some (Value.int q)) (a_ci_n (fun e => c_49 (by rw [e]; decide)))) (congrArg (fun q => some (Value.int q)) (a_ci_s ((a_ofI_eq (x := a_nd a 3 i) (y := 2) (by omega) (by omega)).mp c_68))) ((va_up_self _ _ _).trans (by rw [show Int32.ofInt 1 = 1 from rfl, nI_1]))
    · refine hp_iconst (v := 1) C dX6_total_52 (by decide) ?_
      refine hp_goto (tgt := 57) C dX6_total_53 (by decide) ?_
      refine hp_iadd C dX6_total_57 ?_
      refine hp_istore_n C dX6_total_58 (by decide) ?_
      refine hp_iload_n C dX6_total_59 e3 ?_
      refine hp_aload_nR C dX6_total_60 e0 ?_
      refine mr_A C sh R fl_X6_20_6 rfl (by decide) dX6_total_61 ?_
      refine hp_iload C dX6_total_64 e4 ?_
      refine mr_nd C sh R 5 3 (by decide) (by decide) rfl hi8 dX6_total_66 ?_
      refine hp_iconst (v := 2) C dX6_total_67 (by decide) ?_
      refine hp_icmp_ne (tgt := 75) C dX6_total_68 (by decide) (fun c_68 => ?_) (fun c_68 => ?_)
      · refine hp_iconst (v := 0) C dX6_total_75 (by decide) ?_
        refine hp_iadd C dX6_total_76 ?_
        refine hp_istore_n C dX6_total_77 (by decide) ?_
        refine hp_iinc C dX6_total_78 e4 (by decide) rfl ?_
        refine hp_goto (tgt := 31) C dX6_total_81 (by decide) ?_
        exact ih (i + 1) _ (by omega) e0 e1 (congrArg (fun q => some (Value.int q)) (a_ci_s ((a_ofI_eq (x := a_nd a 3 i) (y := 1) (by omega) (by omega)).mp c_49))) (congrArg (fun q => some (Value.int q)) (a_ci_n (fun e => c_68 (by rw [e]; decide)))) ((va_up_self _ _ _).trans (by rw [show Int32.ofInt 1 = 1 from rfl, nI_1]))
      · refine hp_iconst (v := 1) C dX6_total_71 (by decide) ?_
        refine hp_goto (tgt := 76) C dX6_total_72 (by decide) ?_
        refine hp_iadd C dX6_total_76 ?_
        refine hp_istore_n C dX6_total_77 (by decide) ?_
        refine hp_iinc C dX6_total_78 e4 (by decide) rfl ?_
        refine hp_goto (tgt := 31) C dX6_total_81 (by decide) ?_
        exact ih (i + 1) _ (by omega) e0 e1 (congrArg (fun q => some (Value.int q)) (a_ci_s ((a_ofI_eq (x := a_nd a 3 i) (y := 1) (by omega) (by omega)).mp c_49))) (congrArg (fun q => some (Value.int q)) (a_ci_s ((a_ofI_eq (x := a_nd a 3 i) (y := 2) (by omega) (by omega)).mp c_68))) ((va_up_self _ _ _).trans (by rw [show Int32.ofInt 1 = 1 from rfl, nI_1]))
set_option maxRecDepth 20000 in
set_option maxHeartbeats 4000000 in
theorem mp_total {l : Launch} {G : hpG} {h H : hpT} {m d : Nat} {a : aS} {z : mrZ} (sh : mo_sh G h m) (R : MR h m H a z) (T : a_T a) {q : Int32} (hq : 0 ≤ q.toInt ∧ q.toInt ≤ 6) (hd : 6 ≤ d) : hp_C l G yX6_total (.code yX6_total cX6_total 5 (some .int)) d [.ref m, .int q] (H) (fun v h' => v = some (.int (a_tot a q)) ∧ MR h m h' a (z.1, z.2.1, 0, z.2.2.2)) (fun _ _ => False) := by
  refine hp_ofV (by decide) (by simp [Value.category]) (Nat.le_of_ble_eq_true rfl) (fun M C hr hx el => ?_)
  refine hp_aload_nR C dX6_total_0 rfl ?_
  refine hp_iload_n C dX6_total_1 rfl ?_
  refine hp_iconst (v := 0) C dX6_total_2 (by decide) ?_
  refine hp_bipush (v := 6) C dX6_total_3 (by decide) ?_
  refine hp_callS C ml_X6_118 sm_X6_in (mc_inY (d := d - 1) (by decide) (by decide) hq) (by omega) dX6_total_5 rfl rfl (by simp [Value.category]) (fun v_5 h_5 hp => ?_) (fun _ _ hf => hf.elim)
  obtain ⟨rfl, rfl⟩ := hp
  refine hp_if_ne (tgt := 15) C dX6_total_8 (by decide) (fun _ => ?_) (fun z_9 => absurd z_9 (by decide))
  refine hp_iconst (v := 0) C dX6_total_15 (by decide) ?_
  refine hp_callV (ci := 6) C ml_X6_125 im_X6_refuses se_X6_refuses rfl (by decide) (mc_refu (d := d - 1) (c := 0) (r := 0) sh R (by decide)) (by omega) dX6_total_16 (R.o sh) rfl rfl (by simp [Value.category]) (fun v_16 h_16 hp => ?_) (fun _ _ hf => hf.elim)
  obtain ⟨rfl, R_16⟩ := hp
  refine hp_if_eq (tgt := 24) C dX6_total_19 (by decide) (fun _ => ?_) (fun z_9 => absurd z_9 (by decide))
  refine hp_iconst (v := 0) C dX6_total_24 (by decide) ?_
  refine hp_istore_n C dX6_total_25 (by decide) ?_
  refine hp_iconst (v := 0) C dX6_total_26 (by decide) ?_
  refine hp_istore_n C dX6_total_27 (by decide) ?_
  refine hp_iconst (v := 0) C dX6_total_28 (by decide) ?_
  refine hp_istore C dX6_total_29 (by decide) ?_
  refine ml_tot sh C R_16 T (q := q) (fun lo e0 e1 e2 e3 => ?_) (a_mk a) 0 _ (by omega) rfl rfl rfl rfl rfl
  have hc : q = 0 ∨ q = 1 ∨ q = 2 ∨ q = 3 ∨ q = 4 ∨ q = 5 ∨ q = 6 := by
    have e : ∀ k : Int32, q.toInt = k.toInt → q = k := fun k hk => Int32.toInt_inj.mp hk
    have h7 : q.toInt = 0 ∨ q.toInt = 1 ∨ q.toInt = 2 ∨ q.toInt = 3 ∨ q.toInt = 4 ∨ q.toInt = 5 ∨ q.toInt = 6 := by omega
    rcases h7 with g | g | g | g | g | g | g
    · exact Or.inl (e 0 (g.trans (by decide)))
    · exact Or.inr (Or.inl (e 1 (g.trans (by decide))))
    · exact Or.inr (Or.inr (Or.inl (e 2 (g.trans (by decide)))))
    · exact Or.inr (Or.inr (Or.inr (Or.inl (e 3 (g.trans (by decide))))))
    · exact Or.inr (Or.inr (Or.inr (Or.inr (Or.inl (e 4 (g.trans (by decide)))))))
    · exact Or.inr (Or.inr (Or.inr (Or.inr (Or.inr (Or.inl (e 5 (g.trans (by decide))))))))
    · exact Or.inr (Or.inr (Or.inr (Or.inr (Or.inr (Or.inr (e 6 (g.trans (by decide))))))))
  rcases hc with rfl | rfl | rfl | rfl | rfl | rfl | rfl
  · refine hp_iload_n C dX6_total_84 e1 ?_
    refine hp_tableIn (tgt := 124) C dX6_total_85 (by decide) (by decide) rfl (by decide) ?_
    refine hp_aload_nR C dX6_total_124 e0 ?_
    refine mr_S C sh R_16 fl_X6_82_6 (Or.inr (Or.inr (Or.inl ⟨rfl, rfl⟩))) dX6_total_125 ?_
    refine hp_iret C hr rfl dX6_total_128 ?_
    exact ⟨rfl, R_16⟩
  · refine hp_iload_n C dX6_total_84 e1 ?_
    refine hp_tableIn (tgt := 129) C dX6_total_85 (by decide) (by decide) rfl (by decide) ?_
    refine hp_aload_nR C dX6_total_129 e0 ?_
    refine mr_S C sh R_16 fl_X6_68_6 (Or.inr (Or.inl ⟨rfl, rfl⟩)) dX6_total_130 ?_
    refine hp_iret C hr rfl dX6_total_133 ?_
    exact ⟨rfl, R_16⟩
  · refine hp_iload_n C dX6_total_84 e1 ?_
    refine hp_tableIn (tgt := 134) C dX6_total_85 (by decide) (by decide) rfl (by decide) ?_
    refine hp_iload_n C dX6_total_134 e2 ?_
    refine hp_iret C hr rfl dX6_total_135 ?_
    exact ⟨rfl, R_16⟩
  · refine hp_iload_n C dX6_total_84 e1 ?_
    refine hp_tableIn (tgt := 136) C dX6_total_85 (by decide) (by decide) rfl (by decide) ?_
    refine hp_iload_n C dX6_total_136 e3 ?_
    refine hp_iret C hr rfl dX6_total_137 ?_
    exact ⟨rfl, R_16⟩
  · refine hp_iload_n C dX6_total_84 e1 ?_
    refine hp_tableIn (tgt := 138) C dX6_total_85 (by decide) (by decide) rfl (by decide) ?_
    refine hp_aload_nR C dX6_total_138 e0 ?_
    refine mr_S C sh R_16 fl_X6_79_6 (Or.inr (Or.inr (Or.inr (Or.inl ⟨rfl, rfl⟩)))) dX6_total_139 ?_
    refine hp_iret C hr rfl dX6_total_142 ?_
    exact ⟨rfl, R_16⟩
  · refine hp_iload_n C dX6_total_84 e1 ?_
    refine hp_tableIn (tgt := 143) C dX6_total_85 (by decide) (by decide) rfl (by decide) ?_
    refine hp_aload_nR C dX6_total_143 e0 ?_
    refine mr_S C sh R_16 fl_X6_100_6 (Or.inr (Or.inr (Or.inr (Or.inr (Or.inl ⟨rfl, rfl⟩))))) dX6_total_144 ?_
    refine hp_iret C hr rfl dX6_total_147 ?_
    exact ⟨rfl, R_16⟩
  · refine hp_iload_n C dX6_total_84 e1 ?_
    refine hp_tableOut (tgt := 148) C dX6_total_85 (Or.inr (by decide)) (by decide) ?_
    refine hp_aload_nR C dX6_total_148 e0 ?_
    refine mr_S C sh R_16 fl_X6_112_6 (Or.inr (Or.inr (Or.inr (Or.inr (Or.inr ⟨rfl, rfl⟩))))) dX6_total_149 ?_
    refine hp_iret C hr rfl dX6_total_152 ?_
    exact ⟨rfl, R_16⟩
set_option maxRecDepth 20000 in
set_option maxHeartbeats 4000000 in
theorem mp_aboutX {l : Launch} {G : hpG} {h H : hpT} {m d : Nat} {a : aS} {z : mrZ} (sh : mo_sh G h m) (R : MR h m H a z) {x q : Int32} (hb : a_bad a x) (hd : 6 ≤ d) : hp_C l G yX6_about (.code yX6_about cX6_about 5 (some .int)) d [.ref m, .int x, .int q] (H) (fun v h' => v = some (.int 0) ∧ MR h m h' a (z.1, z.2.1, 1, z.2.2.2)) (fun _ _ => False) := by
  refine hp_ofV (by decide) (by simp [Value.category]) (Nat.le_of_ble_eq_true rfl) (fun M C hr hx el => ?_)
  refine hp_aload_nR C dX6_about_0 rfl ?_
  refine hp_aload_nR C dX6_about_1 rfl ?_
  refine hp_iload_n C dX6_about_2 rfl ?_
  refine hp_callV (ci := 6) C ml_X6_75 im_X6_isNode se_X6_isNode rfl (by decide) (mc_isNn (d := d - 1) sh R hb) (by omega) dX6_about_3 (R.o sh) rfl rfl (by simp [Value.category]) (fun v_3 h_3 hp => ?_) (fun _ _ hf => hf.elim)
  obtain ⟨rfl, R_3⟩ := hp
  refine hp_if_eq (tgt := 19) C dX6_about_6 (by decide) (fun _ => ?_) (fun z_9 => absurd z_9 (by decide))
  refine hp_iconst (v := 1) C dX6_about_19 (by decide) ?_
  refine hp_goto (tgt := 24) C dX6_about_20 (by decide) ?_
  refine hp_callV (ci := 6) C ml_X6_125 im_X6_refuses se_X6_refuses rfl (by decide) (mc_refu (d := d - 1) (c := 1) (r := 1) sh R_3 (by decide)) (by omega) dX6_about_24 (R_3.o sh) rfl rfl (by simp [Value.category]) (fun v_24 h_24 hp => ?_) (fun _ _ hf => hf.elim)
  obtain ⟨rfl, R_24⟩ := hp
  refine hp_if_eq (tgt := 32) C dX6_about_27 (by decide) (fun z_9 => absurd z_9 (by decide)) (fun _ => ?_)
  refine hp_iconst (v := 0) C dX6_about_30 (by decide) ?_
  refine hp_iret C hr rfl dX6_about_31 ?_
  exact ⟨rfl, R_24⟩
set_option maxRecDepth 20000 in
set_option maxHeartbeats 4000000 in
theorem mp_aboutY {l : Launch} {G : hpG} {h H : hpT} {m d : Nat} {a : aS} {z : mrZ} (sh : mo_sh G h m) (R : MR h m H a z) {n : Nat} (T : a_T a) (hn : n < a_mk a) (h3 : ¬ a_nd a 3 n = 2) {q : Int32} (hq : ¬ (0 ≤ q.toInt ∧ q.toInt ≤ 7)) (hd : 6 ≤ d) : hp_C l G yX6_about (.code yX6_about cX6_about 5 (some .int)) d [.ref m, .int (nI n), .int q] (H) (fun v h' => v = some (.int 0) ∧ MR h m h' a (z.1, z.2.1, 1, z.2.2.2)) (fun _ _ => False) := by
  have hn8 : n < 80 := Nat.lt_of_lt_of_le hn T.1.2
  have r3 := T.r3 hn
  refine hp_ofV (by decide) (by simp [Value.category]) (Nat.le_of_ble_eq_true rfl) (fun M C hr hx el => ?_)
  refine hp_aload_nR C dX6_about_0 rfl ?_
  refine hp_aload_nR C dX6_about_1 rfl ?_
  refine hp_iload_n C dX6_about_2 rfl ?_
  refine hp_callV (ci := 6) C ml_X6_75 im_X6_isNode se_X6_isNode rfl (by decide) (mc_isNy (d := d - 1) sh R hn h3) (by omega) dX6_about_3 (R.o sh) rfl rfl (by simp [Value.category]) (fun v_3 h_3 hp => ?_) (fun _ _ hf => hf.elim)
  obtain ⟨rfl, R_3⟩ := hp
  refine hp_if_eq (tgt := 19) C dX6_about_6 (by decide) (fun z_9 => absurd z_9 (by decide)) (fun _ => ?_)
  refine hp_iload_n C dX6_about_9 rfl ?_
  refine hp_iconst (v := 0) C dX6_about_10 (by decide) ?_
  refine hp_bipush (v := 7) C dX6_about_11 (by decide) ?_
  refine hp_callS C ml_X6_118 sm_X6_in (mc_inN (d := d - 1) (by decide) (by decide) hq) (by omega) dX6_about_13 rfl rfl (by simp [Value.category]) (fun v_13 h_13 hp => ?_) (fun _ _ hf => hf.elim)
  obtain ⟨rfl, rfl⟩ := hp
  refine hp_if_ne (tgt := 23) C dX6_about_16 (by decide) (fun z_9 => absurd z_9 (by decide)) (fun _ => ?_)
  refine hp_iconst (v := 1) C dX6_about_19 (by decide) ?_
  refine hp_goto (tgt := 24) C dX6_about_20 (by decide) ?_
  refine hp_callV (ci := 6) C ml_X6_125 im_X6_refuses se_X6_refuses rfl (by decide) (mc_refu (d := d - 1) (c := 1) (r := 1) sh R_3 (by decide)) (by omega) dX6_about_24 (R_3.o sh) rfl rfl (by simp [Value.category]) (fun v_24 h_24 hp => ?_) (fun _ _ hf => hf.elim)
  obtain ⟨rfl, R_24⟩ := hp
  refine hp_if_eq (tgt := 32) C dX6_about_27 (by decide) (fun z_9 => absurd z_9 (by decide)) (fun _ => ?_)
  refine hp_iconst (v := 0) C dX6_about_30 (by decide) ?_
  refine hp_iret C hr rfl dX6_about_31 ?_
  exact ⟨rfl, R_24⟩
set_option maxHeartbeats 4000000 in
theorem ml_abo {M : hpM} {G : hpG} {d : Nat} {h0 h : hpT} {m : Nat} {s : moS} {Q : State → Prop} (sh : mo_sh G h m) (C : hp_F M G yX6_about cX6_about 5 d h0) {n c : Nat} (hn8 : n < 80) (hc : c ≤ 51) (hcn : s.2 17 n = nI c) (hP : ∀ (lo' : Nat → Option Value) (x : Int32), lo' 0 = some (.ref m) → lo' 1 = some (.int (nI n)) → lo' 3 = some (.int x) → hp_V M G 5 Q (mo_w h m s) 200 lo' []) : ∀ (k i : Nat) (lo : Nat → Option Value) (x : Int32), i + k = c → lo 0 = some (.ref m) → lo 1 = some (.int (nI n)) → lo 3 = some (.int x) → lo 4 = some (.int (nI i)) → hp_V M G 5 Q (mo_w h m s) 149 lo [] := by
  obtain ⟨p1, p2⟩ := nI_80 hn8
  intro k
  induction k with
  | zero =>
    intro i lo x hi e0 e1 e3 e4
    have ei : i = c := by omega
    subst ei
    refine hp_iload C dX6_about_149 e4 ?_
    refine hp_aload_nR C dX6_about_151 e0 ?_
    refine mo_getA C sh fl_X6_56_6 rfl (by decide) dX6_about_152 ?_
    refine hp_iload_n C dX6_about_155 e1 ?_
    refine mo_aldv (v := nI i) C sh rfl (by decide) (by rw [p2]; exact hcn) dX6_about_156 (by exact p1) ?_
    refine hp_icmp_ge (tgt := 200) C dX6_about_157 (by decide) (fun _ => ?_) (fun z_9 => absurd (Int32.le_refl _) z_9)
    exact hP lo x e0 e1 e3
  | succ k ih =>
    intro i lo x hi e0 e1 e3 e4
    obtain ⟨t1, t2⟩ := mo_tim_in hn8 (show i < 52 by omega)
    refine hp_iload C dX6_about_149 e4 ?_
    refine hp_aload_nR C dX6_about_151 e0 ?_
    refine mo_getA C sh fl_X6_56_6 rfl (by decide) dX6_about_152 ?_
    refine hp_iload_n C dX6_about_155 e1 ?_
    refine mo_aldv (v := nI c) C sh rfl (by decide) (by rw [p2]; exact hcn) dX6_about_156 (by exact p1) ?_
    refine hp_icmp_ge (tgt := 200) C dX6_about_157 (by decide) (fun z_9 => absurd z_9 (nI_ge (by omega) (by omega))) (fun _ => ?_)
    refine hp_iload_n C dX6_about_160 e3 ?_
    refine hp_aload_nR C dX6_about_161 e0 ?_
    refine mo_getA C sh fl_X6_53_6 rfl (by decide) dX6_about_162 ?_
    refine hp_bipush (v := 52) C dX6_about_165 (by decide) ?_
    refine hp_iload_n C dX6_about_167 e1 ?_
    refine hp_imul C dX6_about_168 ?_
    refine hp_iload C dX6_about_169 e4 ?_
    refine hp_iadd C dX6_about_171 ?_
    refine mo_aldv (v := s.2 16 (52 * n + i)) C sh rfl (by decide) (by rw [t2]) dX6_about_172 (by exact t1) ?_
    refine hp_aload_nR C dX6_about_173 e0 ?_
    refine mo_getS C sh fl_X6_82_6 rfl (by decide) (v := s.1 18) rfl dX6_about_174 ?_
    refine hp_aload_nR C dX6_about_177 e0 ?_
    refine mo_getA C sh fl_X6_32_6 rfl (by decide) dX6_about_178 ?_
    refine hp_iload_n C dX6_about_181 e1 ?_
    refine mo_aldv (v := s.2 9 n) C sh rfl (by decide) (by rw [p2]) dX6_about_182 (by exact p1) ?_
    refine hp_isub C dX6_about_183 ?_
    refine hp_icmp_lt (tgt := 191) C dX6_about_184 (by decide) (fun _ => ?_) (fun _ => ?_)
    · refine hp_iconst (v := 0) C dX6_about_191 (by decide) ?_
      refine hp_iadd C dX6_about_192 ?_
      refine hp_istore_n C dX6_about_193 (by decide) ?_
      refine hp_iinc C dX6_about_194 e4 (by decide) rfl ?_
      refine hp_goto (tgt := 149) C dX6_about_197 (by decide) ?_
      exact ih (i + 1) _ _ (by omega) e0 e1 rfl ((va_up_self _ _ _).trans (by rw [show Int32.ofInt 1 = 1 from rfl, nI_1]))
    · refine hp_iconst (v := 1) C dX6_about_187 (by decide) ?_
      refine hp_goto (tgt := 192) C dX6_about_188 (by decide) ?_
      refine hp_iadd C dX6_about_192 ?_
      refine hp_istore_n C dX6_about_193 (by decide) ?_
      refine hp_iinc C dX6_about_194 e4 (by decide) rfl ?_
      refine hp_goto (tgt := 149) C dX6_about_197 (by decide) ?_
      exact ih (i + 1) _ _ (by omega) e0 e1 rfl ((va_up_self _ _ _).trans (by rw [show Int32.ofInt 1 = 1 from rfl, nI_1]))
set_option maxRecDepth 20000 in
set_option maxHeartbeats 4000000 in
theorem mp_about {l : Launch} {G : hpG} {h H : hpT} {m d : Nat} {a : aS} {z : mrZ} (sh : mo_sh G h m) (R : MR h m H a z) {n : Nat} (I : a_I a) (hn : n < a_mk a) (h3 : ¬ a_nd a 3 n = 2) {q : Int32} (hq : 0 ≤ q.toInt ∧ q.toInt ≤ 7) (hd : 6 ≤ d) : hp_C l G yX6_about (.code yX6_about cX6_about 5 (some .int)) d [.ref m, .int (nI n), .int q] (H) (fun v h' => (∃ x, v = some (.int x)) ∧ MR h m h' a (z.1, z.2.1, 0, z.2.2.2)) (fun _ _ => False) := by
  have T := I.1
  have hn8 : n < 80 := Nat.lt_of_lt_of_le hn T.1.2
  have r3 := T.r3 hn
  refine hp_ofV (by decide) (by simp [Value.category]) (Nat.le_of_ble_eq_true rfl) (fun M C hr hx el => ?_)
  refine hp_aload_nR C dX6_about_0 rfl ?_
  refine hp_aload_nR C dX6_about_1 rfl ?_
  refine hp_iload_n C dX6_about_2 rfl ?_
  refine hp_callV (ci := 6) C ml_X6_75 im_X6_isNode se_X6_isNode rfl (by decide) (mc_isNy (d := d - 1) sh R hn h3) (by omega) dX6_about_3 (R.o sh) rfl rfl (by simp [Value.category]) (fun v_3 h_3 hp => ?_) (fun _ _ hf => hf.elim)
  obtain ⟨rfl, R_3⟩ := hp
  refine hp_if_eq (tgt := 19) C dX6_about_6 (by decide) (fun z_9 => absurd z_9 (by decide)) (fun _ => ?_)
  refine hp_iload_n C dX6_about_9 rfl ?_
  refine hp_iconst (v := 0) C dX6_about_10 (by decide) ?_
  refine hp_bipush (v := 7) C dX6_about_11 (by decide) ?_
  refine hp_callS C ml_X6_118 sm_X6_in (mc_inY (d := d - 1) (by decide) (by decide) hq) (by omega) dX6_about_13 rfl rfl (by simp [Value.category]) (fun v_13 h_13 hp => ?_) (fun _ _ hf => hf.elim)
  obtain ⟨rfl, rfl⟩ := hp
  refine hp_if_ne (tgt := 23) C dX6_about_16 (by decide) (fun _ => ?_) (fun z_9 => absurd z_9 (by decide))
  refine hp_iconst (v := 0) C dX6_about_23 (by decide) ?_
  refine hp_callV (ci := 6) C ml_X6_125 im_X6_refuses se_X6_refuses rfl (by decide) (mc_refu (d := d - 1) (c := 0) (r := 0) sh R_3 (by decide)) (by omega) dX6_about_24 (R_3.o sh) rfl rfl (by simp [Value.category]) (fun v_24 h_24 hp => ?_) (fun _ _ hf => hf.elim)
  obtain ⟨rfl, R_24⟩ := hp
  refine hp_if_eq (tgt := 32) C dX6_about_27 (by decide) (fun _ => ?_) (fun z_9 => absurd z_9 (by decide))
  refine hp_iconst (v := 0) C dX6_about_32 (by decide) ?_
  refine hp_istore_n C dX6_about_33 (by decide) ?_
  have hc : q = 0 ∨ q = 1 ∨ q = 2 ∨ q = 3 ∨ q = 4 ∨ q = 5 ∨ q = 6 ∨ q = 7 := by
    have e : ∀ k : Int32, q.toInt = k.toInt → q = k := fun k hk => Int32.toInt_inj.mp hk
    have h7 : q.toInt = 0 ∨ q.toInt = 1 ∨ q.toInt = 2 ∨ q.toInt = 3 ∨ q.toInt = 4 ∨ q.toInt = 5 ∨ q.toInt = 6 ∨ q.toInt = 7 := by omega
    rcases h7 with g | g | g | g | g | g | g | g
    · exact Or.inl (e 0 (g.trans (by decide)))
    · exact Or.inr (Or.inl (e 1 (g.trans (by decide))))
    · exact Or.inr (Or.inr (Or.inl (e 2 (g.trans (by decide)))))
    · exact Or.inr (Or.inr (Or.inr (Or.inl (e 3 (g.trans (by decide))))))
    · exact Or.inr (Or.inr (Or.inr (Or.inr (Or.inl (e 4 (g.trans (by decide)))))))
    · exact Or.inr (Or.inr (Or.inr (Or.inr (Or.inr (Or.inl (e 5 (g.trans (by decide))))))))
    · exact Or.inr (Or.inr (Or.inr (Or.inr (Or.inr (Or.inr (Or.inl (e 6 (g.trans (by decide)))))))))
    · exact Or.inr (Or.inr (Or.inr (Or.inr (Or.inr (Or.inr (Or.inr (e 7 (g.trans (by decide)))))))))
  rcases hc with rfl | rfl | rfl | rfl | rfl | rfl | rfl | rfl
  · refine hp_iload_n C dX6_about_34 rfl ?_
    refine hp_tableIn (tgt := 76) C dX6_about_35 (by decide) (by decide) rfl (by decide) ?_
    refine hp_aload_nR C dX6_about_76 rfl ?_
    refine mr_A C sh R_24 fl_X6_13_6 rfl (by decide) dX6_about_77 ?_
    refine hp_iload_n C dX6_about_80 rfl ?_
    refine mr_nd C sh R_24 3 1 (by decide) (by decide) rfl hn8 dX6_about_81 ?_
    refine hp_iret C hr rfl dX6_about_82 ?_
    exact ⟨⟨_, rfl⟩, R_24⟩
  · refine hp_iload_n C dX6_about_34 rfl ?_
    refine hp_tableIn (tgt := 83) C dX6_about_35 (by decide) (by decide) rfl (by decide) ?_
    by_cases hn0 : n = 0
    · subst hn0
      refine hp_iload_n C dX6_about_83 rfl ?_
      refine hp_if_ne (tgt := 91) C dX6_about_84 (by decide) (fun z_9 => absurd z_9 (fun g => g (by decide))) (fun _ => ?_)
      refine hp_iconst (v := 0) C dX6_about_87 (by decide) ?_
      refine hp_goto (tgt := 96) C dX6_about_88 (by decide) ?_
      refine hp_iret C hr rfl dX6_about_96 ?_
      exact ⟨⟨_, rfl⟩, R_24⟩
    · have hm := (I.2.1.2.2.1 n hn hn0 h3).1
      have r1 := T.r1 hn hn0
      have hpm : a_pa a n < a_mk a := by
        have e : a_pa a n = (a_nd a 1 n).toNat := rfl
        omega
      refine hp_iload_n C dX6_about_83 rfl ?_
      refine hp_if_ne (tgt := 91) C dX6_about_84 (by decide) (fun _ => ?_) (fun z_9 => absurd z_9 (nI_ne0 (by omega) (by omega)))
      refine hp_aload_nR C dX6_about_91 rfl ?_
      refine hp_iload_n C dX6_about_92 rfl ?_
      refine hp_callV (ci := 6) C ml_X6_96 im_X6_place se_X6_place rfl (by decide) (mc_place (d := d - 1) sh R_24 T hpm hm) (by omega) dX6_about_93 (R_24.o sh) rfl rfl (by simp [Value.category]) (fun v_93 h_93 hp => ?_) (fun _ _ hf => hf.elim)
      obtain ⟨rfl, R_93⟩ := hp
      refine hp_iret C hr rfl dX6_about_96 ?_
      exact ⟨⟨_, rfl⟩, R_93⟩
  · refine hp_iload_n C dX6_about_34 rfl ?_
    refine hp_tableIn (tgt := 97) C dX6_about_35 (by decide) (by decide) rfl (by decide) ?_
    refine hp_aload_nR C dX6_about_97 rfl ?_
    refine mr_A C sh R_24 fl_X6_17_6 rfl (by decide) dX6_about_98 ?_
    refine hp_iload_n C dX6_about_101 rfl ?_
    refine mr_nd C sh R_24 4 2 (by decide) (by decide) rfl hn8 dX6_about_102 ?_
    refine hp_iret C hr rfl dX6_about_103 ?_
    exact ⟨⟨_, rfl⟩, R_24⟩
  · refine hp_iload_n C dX6_about_34 rfl ?_
    refine hp_tableIn (tgt := 104) C dX6_about_35 (by decide) (by decide) rfl (by decide) ?_
    refine hp_aload_nR C dX6_about_104 rfl ?_
    refine mr_A C sh R_24 fl_X6_23_6 rfl (by decide) dX6_about_105 ?_
    refine hp_iload_n C dX6_about_108 rfl ?_
    refine mr_nd C sh R_24 6 4 (by decide) (by decide) rfl hn8 dX6_about_109 ?_
    refine hp_iret C hr rfl dX6_about_110 ?_
    exact ⟨⟨_, rfl⟩, R_24⟩
  · refine hp_iload_n C dX6_about_34 rfl ?_
    refine hp_tableIn (tgt := 111) C dX6_about_35 (by decide) (by decide) rfl (by decide) ?_
    refine hp_aload_nR C dX6_about_111 rfl ?_
    refine mr_A C sh R_24 fl_X6_7_6 rfl (by decide) dX6_about_112 ?_
    refine hp_iload_n C dX6_about_115 rfl ?_
    refine mr_kp C sh R_24 hn8 dX6_about_116 ?_
    refine hp_if_eq (tgt := 124) C dX6_about_117 (by decide) (fun c_117 => ?_) (fun c_117 => ?_)
    · refine hp_iconst (v := 0) C dX6_about_124 (by decide) ?_
      refine hp_iret C hr rfl dX6_about_125 ?_
      exact ⟨⟨_, rfl⟩, R_24⟩
    · refine hp_iconst (v := 1) C dX6_about_120 (by decide) ?_
      refine hp_goto (tgt := 125) C dX6_about_121 (by decide) ?_
      refine hp_iret C hr rfl dX6_about_125 ?_
      exact ⟨⟨_, rfl⟩, R_24⟩
  · refine hp_iload_n C dX6_about_34 rfl ?_
    refine hp_tableIn (tgt := 126) C dX6_about_35 (by decide) (by decide) rfl (by decide) ?_
    refine hp_aload_nR C dX6_about_126 rfl ?_
    refine mr_A C sh R_24 fl_X6_7_6 rfl (by decide) dX6_about_127 ?_
    refine hp_iload_n C dX6_about_130 rfl ?_
    refine mr_kp C sh R_24 hn8 dX6_about_131 ?_
    refine hp_if_eq (tgt := 144) C dX6_about_132 (by decide) (fun c_132 => ?_) (fun c_132 => ?_)
    · refine hp_iconst (v := (-1)) C dX6_about_144 (by decide) ?_
      refine hp_iret C hr rfl dX6_about_145 ?_
      exact ⟨⟨_, rfl⟩, R_24⟩
    · refine hp_aload_nR C dX6_about_135 rfl ?_
      refine mr_A C sh R_24 fl_X6_50_6 rfl (by decide) dX6_about_136 ?_
      refine hp_iload_n C dX6_about_139 rfl ?_
      refine mr_many C sh R_24 hn8 dX6_about_140 ?_
      refine hp_goto (tgt := 145) C dX6_about_141 (by decide) ?_
      refine hp_iret C hr rfl dX6_about_145 ?_
      exact ⟨⟨_, rfl⟩, R_24⟩
  · refine hp_iload_n C dX6_about_34 rfl ?_
    refine hp_tableIn (tgt := 146) C dX6_about_35 (by decide) (by decide) rfl (by decide) ?_
    have R9 := R_24
    obtain ⟨s, rfl, r, r1, r2, r3' ⟩ := R9
    obtain ⟨p, y1, y2, -⟩ := r.2.2.2.2.2.2.2.2 n hn8
    refine hp_iconst (v := 0) C dX6_about_146 (by decide) ?_
    refine hp_istore C dX6_about_147 (by decide) ?_
    refine ml_abo sh C hn8 y2 y1 (fun lo x e0 e1 e3 => ?_) p.length 0 _ 0 (by omega) rfl rfl rfl rfl
    refine hp_aload_nR C dX6_about_200 e0 ?_
    refine mr_A C sh R_24 fl_X6_7_6 rfl (by decide) dX6_about_201 ?_
    refine hp_iload_n C dX6_about_204 e1 ?_
    refine mr_kp C sh R_24 hn8 dX6_about_205 ?_
    refine hp_if_eq (tgt := 213) C dX6_about_206 (by decide) (fun c_206 => ?_) (fun c_206 => ?_)
    · refine hp_iconst (v := (-1)) C dX6_about_213 (by decide) ?_
      refine hp_iret C hr rfl dX6_about_214 ?_
      exact ⟨⟨_, rfl⟩, R_24⟩
    · refine hp_iload_n C dX6_about_209 e3 ?_
      refine hp_goto (tgt := 214) C dX6_about_210 (by decide) ?_
      refine hp_iret C hr rfl dX6_about_214 ?_
      exact ⟨⟨_, rfl⟩, R_24⟩
  · refine hp_iload_n C dX6_about_34 rfl ?_
    refine hp_tableOut (tgt := 215) C dX6_about_35 (Or.inr (by decide)) (by decide) ?_
    refine hp_aload_nR C dX6_about_215 rfl ?_
    refine mr_A C sh R_24 fl_X6_7_6 rfl (by decide) dX6_about_216 ?_
    refine hp_iload_n C dX6_about_219 rfl ?_
    refine mr_kp C sh R_24 hn8 dX6_about_220 ?_
    refine hp_if_eq (tgt := 228) C dX6_about_221 (by decide) (fun c_221 => ?_) (fun c_221 => ?_)
    · refine hp_aload_nR C dX6_about_228 rfl ?_
      refine mr_A C sh R_24 fl_X6_44_6 rfl (by decide) dX6_about_229 ?_
      refine hp_iload_n C dX6_about_232 rfl ?_
      refine mr_nd C sh R_24 13 11 (by decide) (by decide) rfl hn8 dX6_about_233 ?_
      refine hp_iret C hr rfl dX6_about_234 ?_
      exact ⟨⟨_, rfl⟩, R_24⟩
    · refine hp_iconst (v := (-1)) C dX6_about_224 (by decide) ?_
      refine hp_goto (tgt := 234) C dX6_about_225 (by decide) ?_
      refine hp_iret C hr rfl dX6_about_234 ?_
      exact ⟨⟨_, rfl⟩, R_24⟩
