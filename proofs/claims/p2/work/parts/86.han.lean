/-! ===== the reference: handles ===== -/
theorem a_lp_gu {f p k due : Nat} {a : aS} (hx : a_nd a 6 p < (a_rec (a_cn p a) p : Int)) : a_lp f p (k + 1) due a = (false, a_gu f p (a_sgv (a_cn p a) (a_gv a + 1))) := by
  unfold a_lp
  rw [if_pos hx]
theorem a_lp_no {f p k due : Nat} {a : aS} (hx : ¬ a_nd a 6 p < (a_rec (a_cn p a) p : Int)) (hr : (a_rd f p due (a_cn p a)).1 = none) : a_lp f p (k + 1) due a = (true, (a_rd f p due (a_cn p a)).2) := by
  unfold a_lp
  rw [if_neg hx]
  split
  · rfl
  · next c hc => rw [hr] at hc; cases hc
theorem a_lp_so {f p k due c : Nat} {a : aS} (hx : ¬ a_nd a 6 p < (a_rec (a_cn p a) p : Int)) (hr : (a_rd f p due (a_cn p a)).1 = some c) : a_lp f p (k + 1) due a = a_lp f p k c (a_rd f p due (a_cn p a)).2 := by
  rw [a_lp, if_neg hx]
  split
  · next hc => rw [hr] at hc; cases hc
  · next c' hc => rw [hr] at hc; cases hc; rfl
theorem ml_hx {M : hpM} {G : hpG} {d : Nat} {h0 h : hpT} {m : Nat} (sh : mo_sh G h m) (C : hp_F M G yX6_handles cX6_handles 6 d h0) (hr : (hp_mt M).sig.returnType = none) {X : String → hpT → Prop} {P : Option Value → hpT → Prop} {H : hpT} {lo : Nat → Option Value} (e3 : lo 3 = some (.int (-1))) (hP : P none H) : hp_V M G 6 (hp_Q M G h0 P X) H 51 lo [] := by
  refine hp_iload_n C dX6_handles_51 e3 ?_
  refine hp_if_lt (tgt := 75) C dX6_handles_52 (by decide) (fun _ => ?_) (fun z_9 => absurd z_9 (by decide))
  refine hp_iload_n C dX6_handles_75 e3 ?_
  refine hp_if_ge (tgt := 80) C dX6_handles_76 (by decide) (fun z_9 => absurd z_9 (by decide)) (fun _ => ?_)
  refine hp_vret C hr dX6_handles_79 ?_
  exact hP
set_option maxHeartbeats 4000000 in
theorem ml_hw {M : hpM} {G : hpG} {d : Nat} {h0 h : hpT} {m : Nat} (sh : mo_sh G h m) (C : hp_F M G yX6_handles cX6_handles 6 d h0) (hd : 5 ≤ d) (hr : (hp_mt M).sig.returnType = none) {X : String → hpT → Prop} {P : Option Value → hpT → Prop} {f p : Nat} : ∀ (k due : Nat) (lo : Nat → Option Value) (H : hpT) (a : aS) (z : mrZ), MR h m H a z → z.2.2.2 = 80 → a_I a → p < a_mk a → a_nd a 0 p = 1 → a_nd a 3 p = 1 → (8 : Int) ≤ f + a_nd a 2 p → due ∈ a_rw a p → a_lq f p k due a → a_tm (a_lp f p k due a).2 < 2 ^ 30 → (a_ev (a_lp f p k due a).2).length < 2 ^ 30 → lo 0 = some (.ref m) → lo 3 = some (.int (nI due)) → lo 5 = some (.int (nI p)) → (∀ H' z', (a_lp f p k due a).1 = true → MR h m H' (a_lp f p k due a).2 z' → z'.2.2 = z.2.2 → P none H') → (∀ (lo' : Nat → Option Value) H' z', ¬ (a_lp f p k due a).1 = true → MR h m H' (a_lp f p k due a).2 z' → z'.2.2 = z.2.2 → lo' 0 = some (.ref m) → lo' 3 = some (.int (nI p)) → hp_V M G 6 (hp_Q M G h0 P X) H' 118 lo' []) → hp_V M G 6 (hp_Q M G h0 P X) H 51 lo [] := by
  intro k
  induction k with
  | zero =>
    intro due lo H a z R hz I hp hk h3 h8 hm hq
    exact hq.elim
  | succ k ih =>
    intro due lo H a z R hz I hp hk h3 h8 hm hq htm hv e0 e3 e5 hP hF
    have hn8 : p < 80 := Nat.lt_of_lt_of_le hp I.1.1.2
    have hc8 : due < 80 := Nat.lt_of_lt_of_le (I.1.rc hp hm).1 I.1.1.2
    have le1 := a_lp_le f p (k + 1) due a
    have xc := I.cn hp hk
    have hg3 : ¬ a_nd a 3 p = 2 := by omega
    refine hp_iload_n C dX6_handles_51 e3 ?_
    refine hp_if_lt (tgt := 75) C dX6_handles_52 (by decide) (fun z_9 => absurd z_9 (nI_pos (by omega))) (fun _ => ?_)
    refine hp_aload_nR C dX6_handles_55 e0 ?_
    refine hp_iload C dX6_handles_56 e5 ?_
    refine hp_callV (ci := 6) C ml_X6_106 im_X6_counts se_X6_counts rfl (by decide) (mc_cnt (d := d - 1) sh R I.1 I.2.2.2 hp h3 hz (Nat.lt_of_le_of_lt le1.1 htm)) (by omega) dX6_handles_58 (R.o sh) rfl rfl (by simp [Value.category]) (fun v_58 h_58 hp => ?_) (fun _ _ hf => hf.elim)
    obtain ⟨rfl, R_58⟩ := hp
    refine hp_if_ne (tgt := 75) C dX6_handles_61 (by decide) (fun c_61 => ?_) (fun c_61 => ?_)
    · refine hp_iload_n C dX6_handles_75 e3 ?_
      refine hp_if_ge (tgt := 80) C dX6_handles_76 (by decide) (fun _ => ?_) (fun z_9 => absurd (nI_pos' (by omega)) z_9)
      have hx : a_nd a 6 p < (a_rec (a_cn p a) p : Int) := Decidable.not_not.mp (fun hx => c_61 (by rw [if_neg hx]))
      rw [if_pos hx] at R_58
      have el := a_lp_gu (f := f) (k := k) (due := due) hx
      rw [el] at hv hF
      have X0 : a_lv f p (a_rw (a_sgv (a_no (a_cn p a) 6 p 0) (a_gv a + 1)) p) (a_sgv (a_no (a_cn p a) 6 p 0) (a_gv a + 1)) := ⟨xc.1, hp, hk, h8, rfl⟩
      refine hp_aload_nR C dX6_handles_80 e0 ?_
      refine hp_bipush (v := 6) C dX6_handles_81 (by decide) ?_
      refine hp_iload C dX6_handles_83 e5 ?_
      refine hp_iconst (v := 0) C dX6_handles_85 (by decide) ?_
      refine hp_callV (ci := 6) C ml_X6_89 im_X6_note se_X6_note rfl (by decide) (mc_note (d := d - 1) (w := 6) (n := p) (r := 0) sh R_58 (Nat.lt_of_le_of_lt le1.2.1 (by rw [el]; exact hv))) (by omega) dX6_handles_86 (R_58.o sh) rfl rfl (by simp [Value.category]) (fun v_86 h_86 hp => ?_) (fun _ _ hf => hf.elim)
      obtain ⟨rfl, R_86⟩ := hp
      refine hp_aload_nR C dX6_handles_89 e0 ?_
      refine hp_dup C dX6_handles_90 rfl ?_
      refine mr_S C sh R_86 fl_X6_112_6 (Or.inr (Or.inr (Or.inr (Or.inr (Or.inr ⟨rfl, rfl⟩))))) dX6_handles_91 ?_
      refine hp_iconst (v := 1) C dX6_handles_94 (by decide) ?_
      refine hp_iadd C dX6_handles_95 ?_
      refine ms_gv C sh R_86 fl_X6_112_6 (a_gv a + 1) (nI_1 _) dX6_handles_96 (fun H_96 R_96 => ?_)
      refine hp_aload_nR C dX6_handles_99 e0 ?_
      refine hp_iload C dX6_handles_100 e5 ?_
      refine hp_iconst (v := 0) C dX6_handles_102 (by decide) ?_
      refine hp_iconst (v := 0) C dX6_handles_103 (by decide) ?_
      refine hp_callV (ci := 6) C ml_X6_85 im_X6_stopsBelow se_X6_stopsBelow rfl (by decide) (mc_stb (d := d - 1) (f := f) (n := p) (lv := 0) sh R_96 X0 (by have := I.1.r2 hp; show ((0 : Nat) : Int) ≤ a_nd a 2 p + 1; omega) hv (by omega)) (by omega) dX6_handles_104 (R_96.o sh) rfl rfl (by simp [Value.category]) (fun v_104 h_104 hp => ?_) (fun _ _ hf => hf.elim)
      obtain ⟨rfl, z1, R_104, -, g2⟩ := hp
      refine hp_aload_nR C dX6_handles_107 e0 ?_
      refine mr_A C sh R_104 fl_X6_20_6 rfl (by decide) dX6_handles_108 ?_
      refine hp_iload C dX6_handles_111 e5 ?_
      refine hp_iconst (v := 0) C dX6_handles_113 (by decide) ?_
      refine ms_st C sh R_104 hn8 0 (by omega) (fun z_7 => by cases z_7) (by decide) dX6_handles_114 (fun H_114 R_114 => ?_)
      refine hp_iload C dX6_handles_115 e5 ?_
      refine hp_istore_n C dX6_handles_117 (by decide) ?_
      have R2 := R_114.clr (fun _ => by rw [g2]; show ¬ a_nd (a_sn _ 3 p 0) 3 p = 1; rw [a_nd_sn3, if_pos rfl]; decide)
      exact hF _ _ _ (fun q => by cases q) R2 (Prod.ext (by rw [g2]) hz.symm) e0 rfl
    · have hx : ¬ a_nd a 6 p < (a_rec (a_cn p a) p : Int) := fun hx => absurd c_61 (by rw [if_pos hx]; decide)
      rw [if_neg hx] at R_58
      obtain ⟨y1, y2⟩ := a_rd_I (f := f) xc hp hg3 h8 hm
      have k2 := a_rd_k2 f p due (a_cn p a)
      have hvr : (a_ev (a_rd f p due (a_cn p a)).2).length < 2 ^ 30 := by
        cases hr1 : (a_rd f p due (a_cn p a)).1 with
        | none => rw [a_lp_no hx hr1] at hv; exact hv
        | some c => rw [a_lp_so hx hr1] at hv; exact Nat.lt_of_le_of_lt (a_lp_le f p k c _).2.1 hv
      refine hp_aload_nR C dX6_handles_64 e0 ?_
      refine hp_iload C dX6_handles_65 e5 ?_
      refine hp_iload_n C dX6_handles_67 e3 ?_
      refine hp_callV (ci := 6) C ml_X6_109 im_X6_restarts se_X6_restarts rfl (by decide) (mc_rst (d := d - 1) (f := f) sh R_58 xc hp hg3 h8 hm hvr (by omega)) (by omega) dX6_handles_68 (R_58.o sh) rfl rfl (by simp [Value.category]) (fun v_68 h_68 hp => ?_) (fun _ _ hf => hf.elim)
      obtain ⟨rfl, z1, R_68, g2⟩ := hp
      refine hp_istore_n C dX6_handles_71 (by decide) ?_
      refine hp_goto (tgt := 51) C dX6_handles_72 (by decide) ?_
      cases hr1 : (a_rd f p due (a_cn p a)).1 with
      | none =>
        have el := a_lp_no (f := f) (k := k) hx hr1
        rw [el] at hP
        exact ml_hx sh C hr rfl (hP _ z1 rfl R_68 (g2.trans (Prod.ext rfl hz.symm)))
      | some c =>
        have el := a_lp_so (f := f) (k := k) hx hr1
        rw [el] at hP hF htm hv
        have hm2 := a_rd_mem (a := a_cn p a) hm hr1
        have hq2 : a_lq f p k c (a_rd f p due (a_cn p a)).2 := by
          rcases hq with q | q | ⟨c', q1, q2⟩
          · exact absurd q hx
          · rw [hr1] at q; cases q
          · rw [hr1] at q1; cases q1; exact q2
        have ez : z1.2.2 = z.2.2 := g2.trans (Prod.ext rfl hz.symm)
        exact ih c _ _ _ z1 R_68 (by rw [ez]; exact hz) y1 (by rw [k2.mk]; exact hp) (by rw [k2.nd]; exact hk) (by rw [y2]; exact h3) (by rw [k2.nd]; exact h8) hm2 hq2 htm hv e0 rfl e5 (fun H' z' q R' g => hP H' z' q R' (g.trans ez)) (fun lo' H' z' q R' g => hF lo' H' z' q R' (g.trans ez))
set_option maxHeartbeats 4000000 in
theorem ml_hn {M : hpM} {G : hpG} {d : Nat} {h0 h : hpT} {m : Nat} (sh : mo_sh G h m) (C : hp_F M G yX6_handles cX6_handles 6 d h0) (hd : 5 ≤ d) (hr : (hp_mt M).sig.returnType = none) {X : String → hpT → Prop} {P : Option Value → hpT → Prop} : ∀ (k c y : Nat) (lo : Nat → Option Value) (H : hpT) (a : aS) (z : mrZ), MR h m H a z → z.2.2.2 = 80 → a_I a → c < a_mk a → ¬ a_nd a 3 c = 2 → a_hq k c y a → y < 2 ^ 30 → a_tm (a_hd k c y a) < 2 ^ 30 → (a_ev (a_hd k c y a)).length < 2 ^ 30 → lo 0 = some (.ref m) → lo 3 = some (.int (nI c)) → lo 4 = some (.int (nI y)) → (∀ H' z', MR h m H' (a_hd k c y a) z' → z'.2.2 = z.2.2 → P none H') → hp_V M G 6 (hp_Q M G h0 P X) H 5 lo [] := by
  intro k
  induction k with
  | zero =>
    intro c y lo H a z R hz I hc h3 hq
    exact hq.elim
  | succ k ih =>
    intro c y lo H a z R hz I hc h3 hq hy htm hv e0 e3 e4 hP
    have hc8 : c < 80 := Nat.lt_of_lt_of_le hc I.1.1.2
    have r4 := I.1.r4 hc
    have le1 := a_hd_le (k + 1) c y a
    by_cases hc0 : c = 0
    · have el : a_hd (k + 1) c y a = a := by rw [a_hd, if_pos hc0]
      rw [el] at hP
      subst hc0
      refine hp_iload_n C dX6_handles_5 e3 ?_
      refine hp_if_le (tgt := 124) C dX6_handles_6 (by decide) (fun _ => ?_) (fun z_9 => absurd (show (nI 0 : Int32) ≤ 0 by decide) z_9)
      refine hp_vret C hr dX6_handles_124 ?_
      exact hP _ z R rfl
    · obtain ⟨w1, w2, w3⟩ := I.2.1.2.2.1 c hc hc0 h3
      have r1 := I.1.r1 hc hc0
      have r2 := I.1.r2 hc
      have epa : a_pa a c = (a_nd a 1 c).toNat := rfl
      have efu : a_fu a c = (9 - a_nd a 2 c).toNat := rfl
      have hpm : a_pa a c < a_mk a := by omega
      obtain ⟨d1, d2, d3, d4, d5⟩ := a_kid I.1 I.2.1.1 hpm w1
      have h8 : (8 : Int) ≤ (a_fu a c : Nat) + a_nd a 2 (a_pa a c) := by omega
      refine hp_iload_n C dX6_handles_5 e3 ?_
      refine hp_if_le (tgt := 124) C dX6_handles_6 (by decide) (fun z_9 => absurd z_9 (nI_nle (by omega) (by omega))) (fun _ => ?_)
      refine hp_aload_nR C dX6_handles_9 e0 ?_
      refine mr_A C sh R fl_X6_23_6 rfl (by decide) dX6_handles_10 ?_
      refine hp_iload_n C dX6_handles_13 e3 ?_
      refine mr_nd C sh R 6 4 (by decide) (by decide) rfl hc8 dX6_handles_14 ?_
      refine hp_iconst (v := 2) C dX6_handles_15 (by decide) ?_
      refine hp_icmp_ne (tgt := 26) C dX6_handles_16 (by decide) (fun c_16 => ?_) (fun c_16 => ?_)
      · refine hp_aload_nR C dX6_handles_26 e0 ?_
        refine mr_A C sh R fl_X6_23_6 rfl (by decide) dX6_handles_27 ?_
        refine hp_iload_n C dX6_handles_30 e3 ?_
        refine mr_nd C sh R 6 4 (by decide) (by decide) rfl hc8 dX6_handles_31 ?_
        refine hp_iconst (v := 1) C dX6_handles_32 (by decide) ?_
        refine hp_icmp_ne (tgt := 43) C dX6_handles_33 (by decide) (fun c_33 => ?_) (fun c_33 => ?_)
        · refine hp_aload_nR C dX6_handles_43 e0 ?_
          refine mr_A C sh R fl_X6_13_6 rfl (by decide) dX6_handles_44 ?_
          refine hp_iload_n C dX6_handles_47 e3 ?_
          refine mr_nd C sh R 3 1 (by decide) (by decide) rfl hc8 dX6_handles_48 ?_
          refine hp_istore C dX6_handles_49 (by decide) ?_
          have h42 : ¬ a_nd a 4 c = 2 := fun e => c_16 (by rw [e]; decide)
          have h41 : ¬ (a_nd a 4 c = 1 ∧ y ≤ 1) := fun q => c_33 (by rw [q.1]; decide)
          have hq4 : a_nd a 3 (a_pa a c) = 1 ∧ a_lq (a_fu a c) (a_pa a c) 1000000 c a ∧ ((a_lp (a_fu a c) (a_pa a c) 1000000 c a).1 = true ∨ a_hq k (a_pa a c) 1 (a_lp (a_fu a c) (a_pa a c) 1000000 c a).2) := by
            rcases hq with q | q | q | q
            · exact absurd q hc0
            · exact absurd q h42
            · exact absurd q h41
            · exact q
          obtain ⟨q1, q2, q3⟩ := hq4
          have el : a_hd (k + 1) c y a = if (a_lp (a_fu a c) (a_pa a c) 1000000 c a).1 = true then (a_lp (a_fu a c) (a_pa a c) 1000000 c a).2 else a_hd k (a_pa a c) 1 (a_lp (a_fu a c) (a_pa a c) 1000000 c a).2 := by rw [a_hd, if_neg hc0, if_neg h42, if_neg h41]
          obtain ⟨v1, v2, v3, v4⟩ := a_lp_I (f := a_fu a c) 1000000 c a I hpm w2 w3 h8 w1
          have le2 : a_le (a_lp (a_fu a c) (a_pa a c) 1000000 c a).2 (a_hd (k + 1) c y a) := by
            rw [el]
            split
            · exact a_le.rf _
            · exact a_hd_le _ _ _ _
          refine ml_hw sh C hd hr 1000000 c _ _ a z R hz I hpm w2 q1 h8 w1 q2 (Nat.lt_of_le_of_lt le2.1 htm) (Nat.lt_of_le_of_lt le2.2.1 hv) e0 e3 (congrArg (fun q => some (Value.int q)) (a_ofN r1.1)) (fun H' z' q R' g => ?_) (fun lo' H' z' q R' g f0 f3 => ?_)
          · rw [el, if_pos q] at hP
            exact hP H' z' R' g
          · rw [el, if_neg q] at hP htm hv
            refine hp_iconst (v := 1) C dX6_handles_118 (by decide) ?_
            refine hp_istore C dX6_handles_119 (by decide) ?_
            refine hp_goto (tgt := 5) C dX6_handles_121 (by decide) ?_
            exact ih (a_pa a c) 1 _ _ _ z' R' (by rw [g]; exact hz) v1 (by rw [v2]; exact hpm) v4 (q3.resolve_left q) (by decide) htm hv f0 f3 rfl (fun H2 z2 R2 g2 => hP H2 z2 R2 (g2.trans g))
        · refine hp_iload C dX6_handles_36 e4 ?_
          refine hp_iconst (v := 2) C dX6_handles_38 (by decide) ?_
          refine hp_icmp_ge (tgt := 43) C dX6_handles_39 (by decide) (fun c_39 => ?_) (fun c_39 => ?_)
          · refine hp_aload_nR C dX6_handles_43 e0 ?_
            refine mr_A C sh R fl_X6_13_6 rfl (by decide) dX6_handles_44 ?_
            refine hp_iload_n C dX6_handles_47 e3 ?_
            refine mr_nd C sh R 3 1 (by decide) (by decide) rfl hc8 dX6_handles_48 ?_
            refine hp_istore C dX6_handles_49 (by decide) ?_
            have h42 : ¬ a_nd a 4 c = 2 := fun e => c_16 (by rw [e]; decide)
            have h41 : ¬ (a_nd a 4 c = 1 ∧ y ≤ 1) := fun q => by
              have e2 : (2 : Int32) = nI 2 := rfl
              rw [e2, nI_leI (by omega) (by omega)] at c_39
              omega
            have hq4 : a_nd a 3 (a_pa a c) = 1 ∧ a_lq (a_fu a c) (a_pa a c) 1000000 c a ∧ ((a_lp (a_fu a c) (a_pa a c) 1000000 c a).1 = true ∨ a_hq k (a_pa a c) 1 (a_lp (a_fu a c) (a_pa a c) 1000000 c a).2) := by
              rcases hq with q | q | q | q
              · exact absurd q hc0
              · exact absurd q h42
              · exact absurd q h41
              · exact q
            obtain ⟨q1, q2, q3⟩ := hq4
            have el : a_hd (k + 1) c y a = if (a_lp (a_fu a c) (a_pa a c) 1000000 c a).1 = true then (a_lp (a_fu a c) (a_pa a c) 1000000 c a).2 else a_hd k (a_pa a c) 1 (a_lp (a_fu a c) (a_pa a c) 1000000 c a).2 := by rw [a_hd, if_neg hc0, if_neg h42, if_neg h41]
            obtain ⟨v1, v2, v3, v4⟩ := a_lp_I (f := a_fu a c) 1000000 c a I hpm w2 w3 h8 w1
            have le2 : a_le (a_lp (a_fu a c) (a_pa a c) 1000000 c a).2 (a_hd (k + 1) c y a) := by
              rw [el]
              split
              · exact a_le.rf _
              · exact a_hd_le _ _ _ _
            refine ml_hw sh C hd hr 1000000 c _ _ a z R hz I hpm w2 q1 h8 w1 q2 (Nat.lt_of_le_of_lt le2.1 htm) (Nat.lt_of_le_of_lt le2.2.1 hv) e0 e3 (congrArg (fun q => some (Value.int q)) (a_ofN r1.1)) (fun H' z' q R' g => ?_) (fun lo' H' z' q R' g f0 f3 => ?_)
            · rw [el, if_pos q] at hP
              exact hP H' z' R' g
            · rw [el, if_neg q] at hP htm hv
              refine hp_iconst (v := 1) C dX6_handles_118 (by decide) ?_
              refine hp_istore C dX6_handles_119 (by decide) ?_
              refine hp_goto (tgt := 5) C dX6_handles_121 (by decide) ?_
              exact ih (a_pa a c) 1 _ _ _ z' R' (by rw [g]; exact hz) v1 (by rw [v2]; exact hpm) v4 (q3.resolve_left q) (by decide) htm hv f0 f3 rfl (fun H2 z2 R2 g2 => hP H2 z2 R2 (g2.trans g))
          · refine hp_vret C hr dX6_handles_42 ?_
            have h4 : a_nd a 4 c = 1 := (a_ofI_eq (x := a_nd a 4 c) (y := 1) (by omega) (by omega)).mp c_33
            have hy1 : y ≤ 1 := by
              have e2 : (2 : Int32) = nI 2 := rfl
              rw [e2, nI_leI (by omega) (by omega)] at c_39
              omega
            have el : a_hd (k + 1) c y a = a := by rw [a_hd, if_neg hc0, if_neg (by omega), if_pos ⟨h4, hy1⟩]
            rw [el] at hP
            exact hP _ z R rfl
      · refine hp_aload_nR C dX6_handles_19 e0 ?_
        refine hp_iload_n C dX6_handles_20 e3 ?_
        refine hp_callV (ci := 6) C ml_X6_103 im_X6_goes se_X6_goes rfl (by decide) (mc_goes (d := d - 1) (f := a_fu a c) sh R I.1 I.2.1 hc hc0 h3 (by omega) (Nat.lt_of_le_of_lt le1.2.1 hv) (by omega)) (by omega) dX6_handles_21 (R.o sh) rfl rfl (by simp [Value.category]) (fun v_21 h_21 hp => ?_) (fun _ _ hf => hf.elim)
        obtain ⟨⟨x_21, rfl⟩, R_21⟩ := hp
        refine hp_pop C dX6_handles_24 rfl ?_
        refine hp_vret C hr dX6_handles_25 ?_
        have h4 : a_nd a 4 c = 2 := (a_ofI_eq (x := a_nd a 4 c) (y := 2) (by omega) (by omega)).mp c_16
        have el : a_hd (k + 1) c y a = (a_dis (a_fu a c) (a_pa a c) c (a_ix c (a_rw a (a_pa a c))) a).2 := by rw [a_hd, if_neg hc0, if_pos h4]
        rw [el] at hP
        exact hP _ z R_21 rfl
set_option maxRecDepth 20000 in
set_option maxHeartbeats 4000000 in
theorem mc_han {l : Launch} {G : hpG} {h H : hpT} {m d : Nat} {a : aS} {z : mrZ} (sh : mo_sh G h m) (R : MR h m H a z) (hz : z.2.2.2 = 80) (I : a_I a) {c y : Nat} (hc : c < a_mk a) (h3 : ¬ a_nd a 3 c = 2) (hq : a_hq 9 c y a) (hy : y < 2 ^ 30) (htm : a_tm (a_hd 9 c y a) < 2 ^ 30) (hv : (a_ev (a_hd 9 c y a)).length < 2 ^ 30) (hd : 5 ≤ d) : hp_C l G yX6_handles (.code yX6_handles cX6_handles 6 none) d [.ref m, .int (nI c), .int (nI y)] (H) (fun v h' => v = none ∧ ∃ z', MR h m h' (a_hd 9 c y a) z' ∧ z'.2.2 = z.2.2) (fun _ _ => False) := by
  refine hp_ofV (by decide) (by simp [Value.category]) (Nat.le_of_ble_eq_true rfl) (fun M C hr hx el => ?_)
  refine hp_iload_n C dX6_handles_0 rfl ?_
  refine hp_istore_n C dX6_handles_1 (by decide) ?_
  refine hp_iload_n C dX6_handles_2 rfl ?_
  refine hp_istore C dX6_handles_3 (by decide) ?_
  exact ml_hn sh C hd hr 9 c y _ H a z R hz I hc h3 hq hy htm hv rfl rfl rfl (fun H' z' R' g => ⟨rfl, z', R', g⟩)
