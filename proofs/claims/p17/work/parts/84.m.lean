/-! ===== the reference: place, restarts ===== -/
theorem mc_place {l : Launch} {G : hpG} {h H : hpT} {m d : Nat} {a : aS} {z : mrZ} (sh : mo_sh G h m) (R : MR h m H a z) (T : a_T a) {p c : Nat} (hp : p < a_mk a) (hm : c ∈ a_rw a p) : hp_C l G yX6_place (.code yX6_place cX6_place 4 (some .int)) d [.ref m, .int (nI c)] H (fun v h' => v = some (.int (nI (a_ix c (a_rw a p)))) ∧ MR h m h' a z) (fun _ _ => False) := by
  obtain ⟨s, rfl, r, r1, r2, r3⟩ := R
  have m80 := T.1.2
  obtain ⟨c1, c2, c3⟩ := T.rc hp hm
  obtain ⟨i1, i2, i3⟩ := a_ix_ok hm
  obtain ⟨y1, y2, y3⟩ := r.2.2.2.2.2.2.1 p (by omega)
  obtain ⟨p1, p2⟩ := nI_80 (p := c) (by omega)
  have con := mo_place (l := l) (d := d) (s := s) sh (n := nI c) (p := p) (t := a_ix c (a_rw a p)) p1 (by rw [p2, r.nd (f := 1) (by omega) (by omega), c2]; rfl) (by omega) (by omega) (by rw [(y3 _ i1).1, i2]) (fun j hj e => by
    have hj' : j < (a_rw a p).length := by omega
    rw [(y3 j hj').1] at e
    have := (nI_eq (by have := (y3 j hj').2; omega) (by omega)).mp e
    exact i3 j hj this)
  exact hp_Cw con (fun v h' hv => ⟨hv.1, s, hv.2, r, r1, r2, r3⟩)
theorem k_dtk {L : List Nat} {i t : Nat} (hi : i < t) (ht : t ≤ L.length) : (L.take t).drop i = L.getD i 0 :: (L.take t).drop (i + 1) := by
  have h1 : i < (L.take t).length := by rw [List.length_take]; omega
  rw [List.drop_eq_getElem_cons h1, List.getElem_take, List.getD_eq_getElem?_getD, List.getElem?_eq_getElem (by omega)]
  rfl
/-- restarts' answer -/
def a_an (r : Option Nat) : Int32 := match r with
  | none => -1
  | some c => nI c
set_option maxHeartbeats 4000000 in
theorem ml_rs2 {M : hpM} {G : hpG} {d : Nat} {h0 h : hpT} {m : Nat} (sh : mo_sh G h m) (C : hp_F M G yX6_restarts cX6_restarts 7 d h0) (hd : 4 ≤ d) (hr : (hp_mt M).sig.returnType = some .int) {f p t : Nat} {L : List Nat} {X : String → hpT → Prop} {P : Option Value → hpT → Prop} : ∀ (k i : Nat) (lo : Nat → Option Value) (H : hpT) (a : aS) (z : mrZ), i + k = t → MR h m H a z → a_I a → p < a_mk a → ¬ a_nd a 3 p = 2 → (8 : Int) ≤ f + a_nd a 2 p → a_rw a p = L → t ≤ L.length → (a_ev (a_sF (a_go f) ((L.take t).drop i) a).2).length < 2 ^ 30 → lo 0 = some (.ref m) → lo 1 = some (.int (nI p)) → lo 4 = some (.int (nI t)) → lo 5 = some (.int (nI i)) → (∀ H' z', MR h m H' (a_sF (a_go f) ((L.take t).drop i) a).2 z' → z'.2.2 = z.2.2 → P (some (.int (a_an (a_sF (a_go f) ((L.take t).drop i) a).1))) H') → hp_V M G 7 (hp_Q M G h0 P X) H 121 lo [] := by
  intro k
  induction k with
  | zero =>
    intro i lo H a z hi R I hp h3 h8 hL ht hv e0 e1 e4 e5 hP
    have eit : i = t := by omega
    subst eit
    have hn8 : p < 80 := Nat.lt_of_lt_of_le hp I.1.1.2
    have ee : (L.take i).drop i = [] := List.drop_eq_nil_of_le (by rw [List.length_take]; omega)
    rw [ee] at hP
    refine hp_iload C dX6_restarts_121 e5 ?_
    refine hp_iload C dX6_restarts_123 e4 ?_
    refine hp_icmp_ge (tgt := 160) C dX6_restarts_125 (by decide) (fun _ => ?_) (fun z_9 => absurd (Int32.le_refl _) z_9)
    refine hp_iconst (v := (-1)) C dX6_restarts_160 (by decide) ?_
    refine hp_iret C hr rfl dX6_restarts_161 ?_
    exact hP H z R rfl
  | succ k ih =>
    intro i lo H a z hi R I hp h3 h8 hL ht hv e0 e1 e4 e5 hP
    have hn8 : p < 80 := Nat.lt_of_lt_of_le hp I.1.1.2
    subst hL
    have hil : i < (a_rw a p).length := by omega
    have hl79 := I.1.rl hp
    have hm := k_rc I.1 hp hil
    obtain ⟨d1, d2, d3, d4, d5⟩ := a_kid I.1 I.2.1.1 hp hm
    have hg := I.2.1.2.2.2.1 p _ hp hm h3
    have ee := k_dtk (L := a_rw a p) (i := i) (t := t) (by omega) ht
    rw [ee] at hP hv
    generalize hcc : (a_rw a p).getD i 0 = c at *
    have hc8 : c < 80 := Nat.lt_of_lt_of_le d4 I.1.1.2
    have kg := a_go_gk f c a I.1 I.2.1 d4 hg
    have lo1 := a_go_lo f c a I.1 I.2.1.1 d4
    have hv1 : (a_ev (a_go f c a).2).length < 2 ^ 30 := by
      refine Nat.lt_of_le_of_lt ?_ hv
      unfold a_sF
      split
      · exact (a_sF_kp (a_go_kp f) _ _).ev
      · exact Nat.le_refl _
    refine hp_iload C dX6_restarts_121 e5 ?_
    refine hp_iload C dX6_restarts_123 e4 ?_
    refine hp_icmp_ge (tgt := 160) C dX6_restarts_125 (by decide) (fun z_9 => absurd z_9 (nI_ge (by omega) (by omega))) (fun _ => ?_)
    refine hp_aload_nR C dX6_restarts_128 e0 ?_
    refine mr_A C sh R fl_X6_47_6 rfl (by decide) dX6_restarts_129 ?_
    refine hp_bipush (v := 80) C dX6_restarts_132 (by decide) ?_
    refine hp_iload_n C dX6_restarts_134 e1 ?_
    refine hp_imul C dX6_restarts_135 ?_
    refine hp_iload C dX6_restarts_136 e5 ?_
    refine hp_iadd C dX6_restarts_138 ?_
    refine mr_row C sh R hn8 hil rfl dX6_restarts_139 ?_
    rw [hcc]
    refine hp_istore C dX6_restarts_140 (by decide) ?_
    refine hp_aload_nR C dX6_restarts_142 e0 ?_
    refine hp_iload C dX6_restarts_143 rfl ?_
    refine hp_callV (ci := 6) C ml_X6_115 im_X6_starts se_X6_starts rfl (by decide) (mc_sta (d := d - 1) (f := f) sh R I.1 I.2.2.1 d4 (by omega) hv1 (by omega)) (by omega) dX6_restarts_145 (R.o sh) rfl rfl (by simp [Value.category]) (fun v_145 h_145 hp => ?_) (fun _ _ hf => hf.elim)
    obtain ⟨rfl, z1, R_145, g2⟩ := hp
    refine hp_if_ne (tgt := 154) C dX6_restarts_148 (by decide) (fun c_148 => ?_) (fun c_148 => ?_)
    · refine hp_iinc C dX6_restarts_154 e5 (by decide) rfl ?_
      refine hp_goto (tgt := 121) C dX6_restarts_157 (by decide) ?_
      have eg : (a_go f c a).1 = true := by
        cases g : (a_go f c a).1 with
        | true => rfl
        | false => exact absurd (by rw [g]; rfl) c_148
      have es : a_sF (a_go f) (c :: ((a_rw a p).take t).drop (i + 1)) a = a_sF (a_go f) (((a_rw a p).take t).drop (i + 1)) (a_go f c a).2 := by
        rw [a_sF, if_pos eg]
      rw [es] at hP hv
      exact ih (i + 1) _ _ _ z1 (by omega) R_145 (I.gk kg) (by rw [kg.1.mk]; exact hp) (by rw [kg.2.1]; exact h3) (by rw [kg.1.nd]; exact h8) (by rw [kg.1.rw']) ht hv e0 e1 e4 ((va_up_self _ _ _).trans (by rw [show Int32.ofInt 1 = 1 from rfl, nI_1])) (fun H' z' R' g3 => hP H' z' R' (g3.trans g2))
    · refine hp_iload C dX6_restarts_151 rfl ?_
      refine hp_iret C hr rfl dX6_restarts_153 ?_
      have eg : ¬ (a_go f c a).1 = true := fun g => absurd c_148 (by rw [if_pos g]; decide)
      have es : a_sF (a_go f) (c :: ((a_rw a p).take t).drop (i + 1)) a = (some c, (a_go f c a).2) := by
        rw [a_sF, if_neg eg]
      rw [es] at hP
      exact hP _ z1 R_145 g2
set_option maxHeartbeats 4000000 in
theorem ml_rs1 {M : hpM} {G : hpG} {d : Nat} {h0 h : hpT} {m : Nat} (sh : mo_sh G h m) (C : hp_F M G yX6_restarts cX6_restarts 7 d h0) (hd : 4 ≤ d) {f p fr : Nat} {Q : State → Prop} : ∀ (j : Nat) (lo : Nat → Option Value) (H : hpT) (a : aS) (z : mrZ), MR h m H a z → a_I a → p < a_mk a → ¬ a_nd a 3 p = 2 → (8 : Int) ≤ f + a_nd a 2 p → j ≤ (a_rw a p).length → fr < 2 ^ 30 → (a_ev (a_rF f p fr j a)).length < 2 ^ 30 → lo 0 = some (.ref m) → lo 1 = some (.int (nI p)) → lo 3 = some (.int (nI fr)) → lo 5 = some (.int (nI j - 1)) → (∀ (lo' : Nat → Option Value) H' z', MR h m H' (a_rF f p fr j a) z' → z'.2.2 = z.2.2 → lo' 0 = some (.ref m) → lo' 1 = some (.int (nI p)) → lo' 3 = some (.int (nI fr)) → hp_V M G 7 Q H' 110 lo' []) → hp_V M G 7 Q H 46 lo [] := by
  intro j
  induction j with
  | zero =>
    intro lo H a z R I hp h3 h8 hj hfr hv e0 e1 e3 e5 hP
    have hn8 : p < 80 := Nat.lt_of_lt_of_le hp I.1.1.2
    have hlt : (nI 0 - 1 : Int32) < nI fr := by
      rw [Int32.lt_iff_toInt_lt, nI_toInt (by omega)]
      have : (nI 0 - 1 : Int32).toInt = -1 := by decide
      omega
    refine hp_iload C dX6_restarts_46 e5 ?_
    refine hp_iload_n C dX6_restarts_48 e3 ?_
    refine hp_icmp_lt (tgt := 110) C dX6_restarts_49 (by decide) (fun _ => ?_) (fun z_9 => absurd hlt z_9)
    exact hP _ H z R rfl e0 e1 e3
  | succ j ih =>
    intro lo H a z R I hp h3 h8 hj hfr hv e0 e1 e3 e5 hP
    rw [nI_pred] at e5
    have hn8 : p < 80 := Nat.lt_of_lt_of_le hp I.1.1.2
    have hl79 := I.1.rl hp
    have hjl : j < (a_rw a p).length := by omega
    by_cases hjf : j < fr
    · have er : a_rF f p fr (j + 1) a = a := by rw [a_rF, if_pos hjf]
      rw [er] at hP
      refine hp_iload C dX6_restarts_46 e5 ?_
      refine hp_iload_n C dX6_restarts_48 e3 ?_
      refine hp_icmp_lt (tgt := 110) C dX6_restarts_49 (by decide) (fun _ => ?_) (fun z_9 => absurd (nI_lt hjf (by omega)) z_9)
      exact hP _ H z R rfl e0 e1 e3
    · have hm := k_rc I.1 hp hjl
      have hix := a_ix_at (I.1.nd hp) hjl
      obtain ⟨d1, d2, d3, d4, d5⟩ := a_kid I.1 I.2.1.1 hp hm
      have hg := I.2.1.2.2.2.1 p _ hp hm h3
      have r3 := I.1.r3 d4
      have r4 := I.1.r4 d4
      obtain ⟨y1, y2⟩ := a_rl_I (f := f) I hp h3 h8 hjl
      have k2 := a_rl_k2 f p ((a_rw a p).getD j 0) j a
      have hlen := (a_rl_len f p ((a_rw a p).getD j 0) j a).1
      have er : a_rF f p fr (j + 1) a = a_rF f p fr j (if a_nd a 3 ((a_rw a p).getD j 0) = 1 then a_rl f p ((a_rw a p).getD j 0) j a else a) := by rw [a_rF, if_neg hjf]
      rw [er] at hP hv
      generalize hcc : (a_rw a p).getD j 0 = c at *
      have hc8 : c < 80 := Nat.lt_of_lt_of_le d4 I.1.1.2
      have kg := a_ce_gk false f c a I.1 d4 hg
      have hI := I.gk kg
      have epa : a_pa (a_ce false f c a).2 c = p := by
        show (a_nd (a_ce false f c a).2 1 c).toNat = p
        rw [kg.1.nd]
        exact d3
      have ix : a_ix c (a_rw (a_ce false f c a).2 p) = j := by rw [kg.1.rw']; exact hix
      refine hp_iload C dX6_restarts_46 e5 ?_
      refine hp_iload_n C dX6_restarts_48 e3 ?_
      refine hp_icmp_lt (tgt := 110) C dX6_restarts_49 (by decide) (fun z_9 => absurd z_9 (nI_nlt (by omega) (by omega))) (fun _ => ?_)
      refine hp_aload_nR C dX6_restarts_52 e0 ?_
      refine mr_A C sh R fl_X6_47_6 rfl (by decide) dX6_restarts_53 ?_
      refine hp_bipush (v := 80) C dX6_restarts_56 (by decide) ?_
      refine hp_iload_n C dX6_restarts_58 e1 ?_
      refine hp_imul C dX6_restarts_59 ?_
      refine hp_iload C dX6_restarts_60 e5 ?_
      refine hp_iadd C dX6_restarts_62 ?_
      refine mr_row C sh R hn8 hjl rfl dX6_restarts_63 ?_
      rw [hcc]
      refine hp_istore C dX6_restarts_64 (by decide) ?_
      refine hp_aload_nR C dX6_restarts_66 e0 ?_
      refine mr_A C sh R fl_X6_20_6 rfl (by decide) dX6_restarts_67 ?_
      refine hp_iload C dX6_restarts_70 rfl ?_
      refine mr_nd C sh R 5 3 (by decide) (by decide) rfl hc8 dX6_restarts_72 ?_
      refine hp_iconst (v := 1) C dX6_restarts_73 (by decide) ?_
      refine hp_icmp_ne (tgt := 104) C dX6_restarts_74 (by decide) (fun c_74 => ?_) (fun c_74 => ?_)
      · refine hp_iinc C dX6_restarts_104 e5 (by decide) rfl ?_
        refine hp_goto (tgt := 46) C dX6_restarts_107 (by decide) ?_
        have hu : ¬ a_nd a 3 c = 1 := fun e => c_74 (by rw [e]; decide)
        rw [if_neg hu] at hP hv
        exact ih _ _ a z R I hp h3 h8 (by omega) hfr hv e0 e1 e3 ((va_up_self _ _ _).trans (by rw [k_dec])) hP
      · have hu : a_nd a 3 c = 1 := (a_ofI_eq (x := a_nd a 3 c) (y := 1) (by omega) (by omega)).mp c_74
        rw [if_pos hu] at hP hv
        have hv2 : (a_ev (a_rl f p c j a)).length < 2 ^ 30 := Nat.lt_of_le_of_lt (a_rF_k2 f p fr j _).ev hv
        have hv3 : (a_ev (a_ce false f c a).2).length < 2 ^ 30 := by
          refine Nat.lt_of_le_of_lt ?_ hv2
          unfold a_rl
          split
          · exact (a_dis_k2 f p c j _).ev
          · exact Nat.le_refl _
        refine hp_aload_nR C dX6_restarts_77 e0 ?_
        refine hp_iload C dX6_restarts_78 rfl ?_
        refine hp_iconst (v := 0) C dX6_restarts_80 (by decide) ?_
        refine hp_iconst (v := 0) C dX6_restarts_81 (by decide) ?_
        refine hp_callV (ci := 6) C ml_X6_92 im_X6_ceases se_X6_ceases rfl (by decide) (mc_cea (d := d - 1) (k := false) (f := f) (fr := 0) sh R I.1 d4 (by omega) (by have := I.1.r2 d4; omega) hv3 (by omega)) (by omega) dX6_restarts_82 (R.o sh) rfl rfl (by simp [Value.category]) (fun v_82 h_82 hp => ?_) (fun _ _ hf => hf.elim)
        obtain ⟨rfl, z1, R_82, -, g2⟩ := hp
        refine hp_pop C dX6_restarts_85 rfl ?_
        refine hp_aload_nR C dX6_restarts_86 e0 ?_
        refine mr_A C sh R_82 fl_X6_23_6 rfl (by decide) dX6_restarts_87 ?_
        refine hp_iload C dX6_restarts_90 rfl ?_
        refine mr_nd C sh R_82 6 4 (by decide) (by decide) rfl hc8 dX6_restarts_92 ?_
        refine hp_iconst (v := 2) C dX6_restarts_93 (by decide) ?_
        refine hp_icmp_ne (tgt := 104) C dX6_restarts_94 (by decide) (fun c_94 => ?_) (fun c_94 => ?_)
        · refine hp_iinc C dX6_restarts_104 e5 (by decide) rfl ?_
          refine hp_goto (tgt := 46) C dX6_restarts_107 (by decide) ?_
          have h4 : ¬ a_nd a 4 c = 2 := fun e => c_94 (by rw [kg.1.nd, e]; decide)
          have el : a_rl f p c j a = (a_ce false f c a).2 := by unfold a_rl; rw [if_neg h4]
          rw [← el] at R_82
          exact ih _ _ _ z1 R_82 y1 (by rw [k2.mk]; exact hp) (by rw [y2]; exact h3) (by rw [k2.nd]; exact h8) (by omega) hfr hv e0 e1 e3 ((va_up_self _ _ _).trans (by rw [k_dec])) (fun lo' H' z' R' g3 => hP lo' H' z' R' (g3.trans g2))
        · have h4 : a_nd a 4 c = 2 := by
            have := (a_ofI_eq (x := a_nd (a_ce false f c a).2 4 c) (y := 2) (by rw [kg.1.nd]; omega) (by omega)).mp c_94
            rwa [kg.1.nd] at this
          refine hp_aload_nR C dX6_restarts_97 e0 ?_
          refine hp_iload C dX6_restarts_98 rfl ?_
          refine hp_callV (ci := 6) C ml_X6_103 im_X6_goes se_X6_goes rfl (by decide) (mc_goes (d := d - 1) (f := f) sh R_82 hI.1 hI.2.1 (c := c) (by rw [kg.1.mk]; exact d4) d2 (by rw [kg.2.1]; exact hg) (by rw [kg.1.nd]; omega) hv3 (by omega)) (by omega) dX6_restarts_100 (R_82.o sh) rfl rfl (by simp [Value.category]) (fun v_100 h_100 hp => ?_) (fun _ _ hf => hf.elim)
          obtain ⟨⟨x_100, rfl⟩, R_100⟩ := hp
          rw [epa, ix] at R_100
          have el : a_rl f p c j a = (a_dis f p c j (a_ce false f c a).2).2 := by unfold a_rl; rw [if_pos h4]
          rw [← el] at R_100
          refine hp_pop C dX6_restarts_103 rfl ?_
          refine hp_iinc C dX6_restarts_104 e5 (by decide) rfl ?_
          refine hp_goto (tgt := 46) C dX6_restarts_107 (by decide) ?_
          exact ih _ _ _ z1 R_100 y1 (by rw [k2.mk]; exact hp) (by rw [y2]; exact h3) (by rw [k2.nd]; exact h8) (by omega) hfr hv e0 e1 e3 ((va_up_self _ _ _).trans (by rw [k_dec])) (fun lo' H' z' R' g3 => hP lo' H' z' R' (g3.trans g2))
set_option maxRecDepth 20000 in
set_option maxHeartbeats 4000000 in
theorem mc_rst {l : Launch} {G : hpG} {h H : hpT} {m d : Nat} {a : aS} {z : mrZ} (sh : mo_sh G h m) (R : MR h m H a z) (I : a_I a) {f p due : Nat} (hp : p < a_mk a) (h3 : ¬ a_nd a 3 p = 2) (h8 : (8 : Int) ≤ f + a_nd a 2 p) (hm : due ∈ a_rw a p) (hv : (a_ev (a_rd f p due a).2).length < 2 ^ 30) (hd : 4 ≤ d) : hp_C l G yX6_restarts (.code yX6_restarts cX6_restarts 7 (some .int)) d [.ref m, .int (nI p), .int (nI due)] (H) (fun v h' => v = some (.int (a_an (a_rd f p due a).1)) ∧ ∃ z', MR h m h' (a_rd f p due a).2 z' ∧ z'.2.2 = z.2.2) (fun _ _ => False) := by
  have hn8 : p < 80 := Nat.lt_of_lt_of_le hp I.1.1.2
  have hl79 := I.1.rl hp
  have r5 := I.1.r5 hp
  obtain ⟨i1, i2, i3⟩ := a_ix_ok hm
  refine hp_ofV (by decide) (by simp [Value.category]) (Nat.le_of_ble_eq_true rfl) (fun M C hr hx el => ?_)
  refine hp_aload_nR C dX6_restarts_0 rfl ?_
  refine hp_iload_n C dX6_restarts_1 rfl ?_
  refine hp_callV (ci := 6) C ml_X6_96 im_X6_place se_X6_place rfl (by decide) (mc_place (d := d - 1) sh R I.1 hp hm) (by omega) dX6_restarts_2 (R.o sh) rfl rfl (by simp [Value.category]) (fun v_2 h_2 hp => ?_) (fun _ _ hf => hf.elim)
  obtain ⟨rfl, R_2⟩ := hp
  refine hp_istore_n C dX6_restarts_5 (by decide) ?_
  refine hp_iload_n C dX6_restarts_6 rfl ?_
  refine hp_iconst (v := 1) C dX6_restarts_7 (by decide) ?_
  refine hp_iadd C dX6_restarts_8 ?_
  refine hp_istore C dX6_restarts_9 (by decide) ?_
  refine hp_aload_nR C dX6_restarts_11 rfl ?_
  refine mr_A C sh R_2 fl_X6_26_6 rfl (by decide) dX6_restarts_12 ?_
  refine hp_iload_n C dX6_restarts_15 rfl ?_
  refine mr_nd C sh R_2 7 5 (by decide) (by decide) rfl hn8 dX6_restarts_16 ?_
  refine hp_if_eq (tgt := 118) C dX6_restarts_17 (by decide) (fun c_17 => ?_) (fun c_17 => ?_)
  · refine hp_iload_n C dX6_restarts_118 rfl ?_
    refine hp_istore C dX6_restarts_119 (by decide) ?_
    have h5 : a_nd a 5 p = 0 := (a_ofI_eq (x := a_nd a 5 p) (y := 0) (by omega) (by omega)).mp c_17
    have es : a_sF (a_go f) (((a_rw a p).take (a_ix due (a_rw a p) + 1)).drop (a_ix due (a_rw a p))) a = a_rd f p due a := by
      have e1 : (a_rw a p).take (a_ix due (a_rw a p) + 1) = (a_rw a p).take (a_ix due (a_rw a p)) ++ [due] := by rw [k_tks i1, i2]
      have e2 : ((a_rw a p).take (a_ix due (a_rw a p) + 1)).drop (a_ix due (a_rw a p)) = [due] := by
        rw [e1]
        exact List.drop_left' (by rw [List.length_take]; omega)
      rw [e2]
      unfold a_rd
      rw [if_pos h5]
      unfold a_sF
      split <;> rfl
    exact ml_rs2 sh C hd hr 1 (a_ix due (a_rw a p)) _ _ a z (by rfl) R_2 I hp h3 h8 rfl (by omega) (by rw [es]; exact hv) rfl rfl ((congrArg (fun q => some (Value.int q)) (nI_1 _))) rfl (fun H' z' R' g => by rw [es] at R' ⊢; exact ⟨rfl, z', R', g⟩)
  · refine hp_aload_nR C dX6_restarts_20 rfl ?_
    refine mr_A C sh R_2 fl_X6_26_6 rfl (by decide) dX6_restarts_21 ?_
    refine hp_iload_n C dX6_restarts_24 rfl ?_
    refine mr_nd C sh R_2 7 5 (by decide) (by decide) rfl hn8 dX6_restarts_25 ?_
    refine hp_iconst (v := 2) C dX6_restarts_26 (by decide) ?_
    refine hp_icmp_ne (tgt := 34) C dX6_restarts_27 (by decide) (fun c_27 => ?_) (fun c_27 => ?_)
    · refine hp_iconst (v := 0) C dX6_restarts_34 (by decide) ?_
      refine hp_istore_n C dX6_restarts_35 (by decide) ?_
      refine hp_aload_nR C dX6_restarts_36 rfl ?_
      refine mr_A C sh R_2 fl_X6_50_6 rfl (by decide) dX6_restarts_37 ?_
      refine hp_iload_n C dX6_restarts_40 rfl ?_
      refine mr_many C sh R_2 hn8 dX6_restarts_41 ?_
      refine hp_iconst (v := 1) C dX6_restarts_42 (by decide) ?_
      refine hp_isub C dX6_restarts_43 ?_
      refine hp_istore C dX6_restarts_44 (by decide) ?_
      have h50 : ¬ a_nd a 5 p = 0 := fun e => c_17 (by rw [e]; decide)
      have h52 : ¬ a_nd a 5 p = 2 := fun e => c_27 (by rw [e]; decide)
      have efr : (if a_nd a 5 p = 1 then 0 else a_ix due (a_rw a p)) = 0 := by rw [if_pos (by omega)]
      have es : a_rd f p due a = a_sF (a_go f) ((a_rw (a_rF f p 0 (a_rw a p).length a) p).drop 0) (a_rF f p 0 (a_rw a p).length a) := by
        unfold a_rd
        rw [if_neg h50, efr]
      rw [es] at hv
      obtain ⟨y1, y2⟩ := a_rF_I (f := f) (p := p) (fr := 0) (a_rw a p).length a I hp h3 h8 (Nat.le_refl _)
      have k2 := a_rF_k2 f p 0 (a_rw a p).length a
      have hle : 0 ≤ (a_rw (a_rF f p 0 (a_rw a p).length a) p).length := by
        first
        | exact Nat.zero_le _
        | exact a_rF_len f p _ _ a (by omega) (by omega)
      have hp2 : p < a_mk (a_rF f p 0 (a_rw a p).length a) := by rw [k2.mk]; exact hp
      have hl2 := y1.1.rl hp2
      refine ml_rs1 sh C hd (f := f) (fr := 0) (a_rw a p).length _ _ a z R_2 I hp h3 h8 (Nat.le_refl _) (by omega) (Nat.lt_of_le_of_lt (a_sF_kp (a_go_kp f) _ _).ev hv) rfl rfl rfl rfl (fun lo1 H1 z1 R1 g1 q0 q1 q3 => ?_)
      have hn8' := hn8
      refine hp_aload_nR C dX6_restarts_110 q0 ?_
      refine mr_A C sh R1 fl_X6_50_6 rfl (by decide) dX6_restarts_111 ?_
      refine hp_iload_n C dX6_restarts_114 q1 ?_
      refine mr_many C sh R1 hn8 dX6_restarts_115 ?_
      refine hp_istore C dX6_restarts_116 (by decide) ?_
      refine hp_iload_n C dX6_restarts_118 q3 ?_
      refine hp_istore C dX6_restarts_119 (by decide) ?_
      refine ml_rs2 sh C hd hr ((a_rw (a_rF f p 0 (a_rw a p).length a) p).length - 0) 0 _ _ _ z1 (by omega) R1 y1 hp2 (by rw [y2]; exact h3) (by rw [k2.nd]; exact h8) rfl (Nat.le_refl _) (by rw [List.take_length]; exact hv) q0 q1 rfl rfl (fun H' z' R' g => ?_)
      rw [List.take_length, ← es] at R' ⊢
      exact ⟨rfl, z', R', g.trans g1⟩
    · refine hp_iload_n C dX6_restarts_30 rfl ?_
      refine hp_goto (tgt := 35) C dX6_restarts_31 (by decide) ?_
      refine hp_istore_n C dX6_restarts_35 (by decide) ?_
      refine hp_aload_nR C dX6_restarts_36 rfl ?_
      refine mr_A C sh R_2 fl_X6_50_6 rfl (by decide) dX6_restarts_37 ?_
      refine hp_iload_n C dX6_restarts_40 rfl ?_
      refine mr_many C sh R_2 hn8 dX6_restarts_41 ?_
      refine hp_iconst (v := 1) C dX6_restarts_42 (by decide) ?_
      refine hp_isub C dX6_restarts_43 ?_
      refine hp_istore C dX6_restarts_44 (by decide) ?_
      have h50 : ¬ a_nd a 5 p = 0 := fun e => c_17 (by rw [e]; decide)
      have h52 : a_nd a 5 p = 2 := (a_ofI_eq (x := a_nd a 5 p) (y := 2) (by omega) (by omega)).mp c_27
      have efr : (if a_nd a 5 p = 1 then 0 else a_ix due (a_rw a p)) = a_ix due (a_rw a p) := by rw [if_neg (by omega)]
      have es : a_rd f p due a = a_sF (a_go f) ((a_rw (a_rF f p (a_ix due (a_rw a p)) (a_rw a p).length a) p).drop (a_ix due (a_rw a p))) (a_rF f p (a_ix due (a_rw a p)) (a_rw a p).length a) := by
        unfold a_rd
        rw [if_neg h50, efr]
      rw [es] at hv
      obtain ⟨y1, y2⟩ := a_rF_I (f := f) (p := p) (fr := (a_ix due (a_rw a p))) (a_rw a p).length a I hp h3 h8 (Nat.le_refl _)
      have k2 := a_rF_k2 f p (a_ix due (a_rw a p)) (a_rw a p).length a
      have hle : (a_ix due (a_rw a p)) ≤ (a_rw (a_rF f p (a_ix due (a_rw a p)) (a_rw a p).length a) p).length := by
        first
        | exact Nat.zero_le _
        | exact a_rF_len f p _ _ a (by omega) (by omega)
      have hp2 : p < a_mk (a_rF f p (a_ix due (a_rw a p)) (a_rw a p).length a) := by rw [k2.mk]; exact hp
      have hl2 := y1.1.rl hp2
      refine ml_rs1 sh C hd (f := f) (fr := (a_ix due (a_rw a p))) (a_rw a p).length _ _ a z R_2 I hp h3 h8 (Nat.le_refl _) (by omega) (Nat.lt_of_le_of_lt (a_sF_kp (a_go_kp f) _ _).ev hv) rfl rfl rfl rfl (fun lo1 H1 z1 R1 g1 q0 q1 q3 => ?_)
      have hn8' := hn8
      refine hp_aload_nR C dX6_restarts_110 q0 ?_
      refine mr_A C sh R1 fl_X6_50_6 rfl (by decide) dX6_restarts_111 ?_
      refine hp_iload_n C dX6_restarts_114 q1 ?_
      refine mr_many C sh R1 hn8 dX6_restarts_115 ?_
      refine hp_istore C dX6_restarts_116 (by decide) ?_
      refine hp_iload_n C dX6_restarts_118 q3 ?_
      refine hp_istore C dX6_restarts_119 (by decide) ?_
      refine ml_rs2 sh C hd hr ((a_rw (a_rF f p (a_ix due (a_rw a p)) (a_rw a p).length a) p).length - (a_ix due (a_rw a p))) (a_ix due (a_rw a p)) _ _ _ z1 (by omega) R1 y1 hp2 (by rw [y2]; exact h3) (by rw [k2.nd]; exact h8) rfl (Nat.le_refl _) (by rw [List.take_length]; exact hv) q0 q1 rfl rfl (fun H' z' R' g => ?_)
      rw [List.take_length, ← es] at R' ⊢
      exact ⟨rfl, z', R', g.trans g1⟩
/-! ===== rounds until all are up ===== -/
theorem a_I.cn {a : aS} (x : a_I a) {p : Nat} (hp : p < a_mk a) (hk : a_nd a 0 p = 1) : a_I (a_cn p a) := by
  obtain ⟨T, AR, W, A⟩ := x
  have ne : ∀ n, n ≠ p → a_rt (a_cn p a) n = a_rt a n := fun n hn => va_up_ne _ _ hn
  refine ⟨T, ⟨AR.1, AR.2.1, AR.2.2.1, AR.2.2.2.1, fun n hn h8 => ?_⟩, fun n hn hw => ?_, a_cn_A A⟩
  · have hn' : a_mk a ≤ n := hn
    rw [ne n (by omega)]
    exact AR.2.2.2.2 n hn h8
  · have hw' : a_nd a 0 n = 0 := hw
    rw [ne n (fun e => by rw [e] at hw'; omega)]
    exact W n hn hw
theorem a_I.gv {a : aS} (x : a_I a) (t : Nat) : a_I (a_sgv a t) := x
theorem a_gu_gk {a : aS} (T : a_T a) {f p : Nat} (hp : p < a_mk a) (h3 : ¬ a_nd a 3 p = 2) : a_gk a (a_gu f p a) := by
  have k1 := (a_gk.no a 6 p 0).tr (a_cR_gk (fun c b Tb hc h1 => a_ce_gk false f c b Tb hc (by omega)) (a_rw a p).reverse (a_no a 6 p 0) T (fun c hc => (T.rc hp (List.mem_reverse.mp hc)).1))
  exact k1.tr (a_gk.sn3 _ (by rw [k1.1.mk]; exact hp) (by rw [k1.2.1]; exact h3) (by omega))
/-- the rounds end before the fuel does -/
def a_lq (f p : Nat) : Nat → Nat → aS → Prop
  | 0, _, _ => False
  | k + 1, due, a => a_nd a 6 p < (a_rec (a_cn p a) p : Int) ∨ (a_rd f p due (a_cn p a)).1 = none ∨ ∃ c, (a_rd f p due (a_cn p a)).1 = some c ∧ a_lq f p k c (a_rd f p due (a_cn p a)).2
theorem a_lp_I {f p : Nat} : ∀ (k due : Nat) (a : aS), a_I a → p < a_mk a → a_nd a 0 p = 1 → ¬ a_nd a 3 p = 2 → (8 : Int) ≤ f + a_nd a 2 p → due ∈ a_rw a p → a_I (a_lp f p k due a).2 ∧ a_mk (a_lp f p k due a).2 = a_mk a ∧ (∀ g, g ≠ 3 → g ≠ 11 → a_nd (a_lp f p k due a).2 g = a_nd a g) ∧ ¬ a_nd (a_lp f p k due a).2 3 p = 2
  | 0, due, a, x, _, _, h3, _, _ => ⟨x, rfl, fun _ _ _ => rfl, h3⟩
  | k + 1, due, a, x, hp, hk, h3, h8, hm => by
    have xc := x.cn hp hk
    unfold a_lp
    split
    · have kg := a_gu_gk (f := f) (p := p) (a := a_sgv (a_cn p a) (a_gv a + 1)) (xc.gv (a_gv a + 1)).1 hp h3
      exact ⟨(xc.gv (a_gv a + 1)).gk kg, kg.1.mk, fun g h1 h2 => kg.1.2.2.1 g h1 h2, by rw [kg.2.1]; exact h3⟩
    · obtain ⟨y1, y2⟩ := a_rd_I (f := f) xc hp h3 h8 hm
      have k2 := a_rd_k2 f p due (a_cn p a)
      split
      · exact ⟨y1, k2.mk, fun g h1 h2 => k2.2.1 g h1 h2, by rw [y2]; exact h3⟩
      · next c hc =>
        have hm2 := a_rd_mem (a := a_cn p a) hm hc
        obtain ⟨w1, w2, w3, w4⟩ := a_lp_I k c (a_rd f p due (a_cn p a)).2 y1 (by rw [k2.mk]; exact hp) (by rw [k2.nd]; exact hk) (by rw [y2]; exact h3) (by rw [k2.nd]; exact h8) hm2
        exact ⟨w1, w2.trans k2.mk, fun g h1 h2 => (w3 g h1 h2).trans (k2.2.1 g h1 h2), w4⟩
/-- the handling of an end finds keepers that are up, and ends -/
def a_hq : Nat → Nat → Nat → aS → Prop
  | 0, _, _, _ => False
  | k + 1, c, y, a => c = 0 ∨ a_nd a 4 c = 2 ∨ (a_nd a 4 c = 1 ∧ y ≤ 1) ∨ (a_nd a 3 (a_pa a c) = 1 ∧ a_lq (a_fu a c) (a_pa a c) 1000000 c a ∧ ((a_lp (a_fu a c) (a_pa a c) 1000000 c a).1 = true ∨ a_hq k (a_pa a c) 1 (a_lp (a_fu a c) (a_pa a c) 1000000 c a).2))
/-! ===== the reference: handles ===== -/
theorem a_lp_gu {f p k due : Nat} {a : aS} (hx : a_nd a 6 p < (a_rec (a_cn p a) p : Int)) : a_lp f p (k + 1) due a = (false, a_gu f p (a_sgv (a_cn p a) (a_gv a + 1))) := by
  unfold a_lp
  rw [if_pos hx]
theorem a_lp_no {f p k due : Nat} {a : aS} (hx : ¬ a_nd a 6 p < (a_rec (a_cn p a) p : Int)) (hr : (a_rd f p due (a_cn p a)).1 = none) : a_lp f p (k + 1) due a = (true, (a_rd f p due (a_cn p a)).2) := by
  unfold a_lp
  rw [if_neg hx]
  split
  · rfl
  · next c hc => rw [hr] at hc; cases hc
theorem a_lp_so {f p k due c : Nat} {a : aS} (hx : ¬ a_nd a 6 p < (a_rec (a_cn p a) p : Int)) (hr : (a_rd f p due (a_cn p a)).1 = some c) : a_lp f p (k + 1) due a = a_lp f p k c (a_rd f p due (a_cn p a)).2 := by
  rw [a_lp, if_neg hx]
  split
  · next hc => rw [hr] at hc; cases hc
  · next c' hc => rw [hr] at hc; cases hc; rfl
theorem ml_hx {M : hpM} {G : hpG} {d : Nat} {h0 h : hpT} {m : Nat} (sh : mo_sh G h m) (C : hp_F M G yX6_handles cX6_handles 6 d h0) (hr : (hp_mt M).sig.returnType = none) {X : String → hpT → Prop} {P : Option Value → hpT → Prop} {H : hpT} {lo : Nat → Option Value} (e3 : lo 3 = some (.int (-1))) (hP : P none H) : hp_V M G 6 (hp_Q M G h0 P X) H 51 lo [] := by
  refine hp_iload_n C dX6_handles_51 e3 ?_
  refine hp_if_lt (tgt := 75) C dX6_handles_52 (by decide) (fun _ => ?_) (fun z_9 => absurd z_9 (by decide))
  refine hp_iload_n C dX6_handles_75 e3 ?_
  refine hp_if_ge (tgt := 80) C dX6_handles_76 (by decide) (fun z_9 => absurd z_9 (by decide)) (fun _ => ?_)
  refine hp_vret C hr dX6_handles_79 ?_
  exact hP
set_option maxHeartbeats 4000000 in
theorem ml_hw {M : hpM} {G : hpG} {d : Nat} {h0 h : hpT} {m : Nat} (sh : mo_sh G h m) (C : hp_F M G yX6_handles cX6_handles 6 d h0) (hd : 5 ≤ d) (hr : (hp_mt M).sig.returnType = none) {X : String → hpT → Prop} {P : Option Value → hpT → Prop} {f p : Nat} : ∀ (k due : Nat) (lo : Nat → Option Value) (H : hpT) (a : aS) (z : mrZ), MR h m H a z → z.2.2.2 = 80 → a_I a → p < a_mk a → a_nd a 0 p = 1 → a_nd a 3 p = 1 → (8 : Int) ≤ f + a_nd a 2 p → due ∈ a_rw a p → a_lq f p k due a → a_tm (a_lp f p k due a).2 < 2 ^ 30 → (a_ev (a_lp f p k due a).2).length < 2 ^ 30 → lo 0 = some (.ref m) → lo 3 = some (.int (nI due)) → lo 5 = some (.int (nI p)) → (∀ H' z', (a_lp f p k due a).1 = true → MR h m H' (a_lp f p k due a).2 z' → z'.2.2 = z.2.2 → P none H') → (∀ (lo' : Nat → Option Value) H' z', ¬ (a_lp f p k due a).1 = true → MR h m H' (a_lp f p k due a).2 z' → z'.2.2 = z.2.2 → lo' 0 = some (.ref m) → lo' 3 = some (.int (nI p)) → hp_V M G 6 (hp_Q M G h0 P X) H' 118 lo' []) → hp_V M G 6 (hp_Q M G h0 P X) H 51 lo [] := by
  intro k
  induction k with
  | zero =>
    intro due lo H a z R hz I hp hk h3 h8 hm hq
    exact hq.elim
  | succ k ih =>
    intro due lo H a z R hz I hp hk h3 h8 hm hq htm hv e0 e3 e5 hP hF
    have hn8 : p < 80 := Nat.lt_of_lt_of_le hp I.1.1.2
    have hc8 : due < 80 := Nat.lt_of_lt_of_le (I.1.rc hp hm).1 I.1.1.2
    have le1 := a_lp_le f p (k + 1) due a
    have xc := I.cn hp hk
    have hg3 : ¬ a_nd a 3 p = 2 := by omega
    refine hp_iload_n C dX6_handles_51 e3 ?_
    refine hp_if_lt (tgt := 75) C dX6_handles_52 (by decide) (fun z_9 => absurd z_9 (nI_pos (by omega))) (fun _ => ?_)
    refine hp_aload_nR C dX6_handles_55 e0 ?_
    refine hp_iload C dX6_handles_56 e5 ?_
    refine hp_callV (ci := 6) C ml_X6_106 im_X6_counts se_X6_counts rfl (by decide) (mc_cnt (d := d - 1) sh R I.1 I.2.2.2 hp h3 hz (Nat.lt_of_le_of_lt le1.1 htm)) (by omega) dX6_handles_58 (R.o sh) rfl rfl (by simp [Value.category]) (fun v_58 h_58 hp => ?_) (fun _ _ hf => hf.elim)
    obtain ⟨rfl, R_58⟩ := hp
    refine hp_if_ne (tgt := 75) C dX6_handles_61 (by decide) (fun c_61 => ?_) (fun c_61 => ?_)
    · refine hp_iload_n C dX6_handles_75 e3 ?_
      refine hp_if_ge (tgt := 80) C dX6_handles_76 (by decide) (fun _ => ?_) (fun z_9 => absurd (nI_pos' (by omega)) z_9)
      have hx : a_nd a 6 p < (a_rec (a_cn p a) p : Int) := Decidable.not_not.mp (fun hx => c_61 (by rw [if_neg hx]))
      rw [if_pos hx] at R_58
      have el := a_lp_gu (f := f) (k := k) (due := due) hx
      rw [el] at hv hF
      have X0 : a_lv f p (a_rw (a_sgv (a_no (a_cn p a) 6 p 0) (a_gv a + 1)) p) (a_sgv (a_no (a_cn p a) 6 p 0) (a_gv a + 1)) := ⟨xc.1, hp, hk, h8, rfl⟩
      refine hp_aload_nR C dX6_handles_80 e0 ?_
      refine hp_bipush (v := 6) C dX6_handles_81 (by decide) ?_
      refine hp_iload C dX6_handles_83 e5 ?_
      refine hp_iconst (v := 0) C dX6_handles_85 (by decide) ?_
      refine hp_callV (ci := 6) C ml_X6_89 im_X6_note se_X6_note rfl (by decide) (mc_note (d := d - 1) (w := 6) (n := p) (r := 0) sh R_58 (Nat.lt_of_le_of_lt le1.2.1 (by rw [el]; exact hv))) (by omega) dX6_handles_86 (R_58.o sh) rfl rfl (by simp [Value.category]) (fun v_86 h_86 hp => ?_) (fun _ _ hf => hf.elim)
      obtain ⟨rfl, R_86⟩ := hp
      refine hp_aload_nR C dX6_handles_89 e0 ?_
      refine hp_dup C dX6_handles_90 rfl ?_
      refine mr_S C sh R_86 fl_X6_112_6 (Or.inr (Or.inr (Or.inr (Or.inr (Or.inr ⟨rfl, rfl⟩))))) dX6_handles_91 ?_
      refine hp_iconst (v := 1) C dX6_handles_94 (by decide) ?_
      refine hp_iadd C dX6_handles_95 ?_
      refine ms_gv C sh R_86 fl_X6_112_6 (a_gv a + 1) (nI_1 _) dX6_handles_96 (fun H_96 R_96 => ?_)
      refine hp_aload_nR C dX6_handles_99 e0 ?_
      refine hp_iload C dX6_handles_100 e5 ?_
      refine hp_iconst (v := 0) C dX6_handles_102 (by decide) ?_
      refine hp_iconst (v := 0) C dX6_handles_103 (by decide) ?_
      refine hp_callV (ci := 6) C ml_X6_85 im_X6_stopsBelow se_X6_stopsBelow rfl (by decide) (mc_stb (d := d - 1) (f := f) (n := p) (lv := 0) sh R_96 X0 (by have := I.1.r2 hp; show ((0 : Nat) : Int) ≤ a_nd a 2 p + 1; omega) hv (by omega)) (by omega) dX6_handles_104 (R_96.o sh) rfl rfl (by simp [Value.category]) (fun v_104 h_104 hp => ?_) (fun _ _ hf => hf.elim)
      obtain ⟨rfl, z1, R_104, -, g2⟩ := hp
      refine hp_aload_nR C dX6_handles_107 e0 ?_
      refine mr_A C sh R_104 fl_X6_20_6 rfl (by decide) dX6_handles_108 ?_
      refine hp_iload C dX6_handles_111 e5 ?_
      refine hp_iconst (v := 0) C dX6_handles_113 (by decide) ?_
      refine ms_st C sh R_104 hn8 0 (by omega) (fun z_7 => by cases z_7) (by decide) dX6_handles_114 (fun H_114 R_114 => ?_)
      refine hp_iload C dX6_handles_115 e5 ?_
      refine hp_istore_n C dX6_handles_117 (by decide) ?_
      have R2 := R_114.clr (fun _ => by rw [g2]; show ¬ a_nd (a_sn _ 3 p 0) 3 p = 1; rw [a_nd_sn3, if_pos rfl]; decide)
      exact hF _ _ _ (fun q => by cases q) R2 (Prod.ext (by rw [g2]) hz.symm) e0 rfl
    · have hx : ¬ a_nd a 6 p < (a_rec (a_cn p a) p : Int) := fun hx => absurd c_61 (by rw [if_pos hx]; decide)
      rw [if_neg hx] at R_58
      obtain ⟨y1, y2⟩ := a_rd_I (f := f) xc hp hg3 h8 hm
      have k2 := a_rd_k2 f p due (a_cn p a)
      have hvr : (a_ev (a_rd f p due (a_cn p a)).2).length < 2 ^ 30 := by
        cases hr1 : (a_rd f p due (a_cn p a)).1 with
        | none => rw [a_lp_no hx hr1] at hv; exact hv
        | some c => rw [a_lp_so hx hr1] at hv; exact Nat.lt_of_le_of_lt (a_lp_le f p k c _).2.1 hv
      refine hp_aload_nR C dX6_handles_64 e0 ?_
      refine hp_iload C dX6_handles_65 e5 ?_
      refine hp_iload_n C dX6_handles_67 e3 ?_
      refine hp_callV (ci := 6) C ml_X6_109 im_X6_restarts se_X6_restarts rfl (by decide) (mc_rst (d := d - 1) (f := f) sh R_58 xc hp hg3 h8 hm hvr (by omega)) (by omega) dX6_handles_68 (R_58.o sh) rfl rfl (by simp [Value.category]) (fun v_68 h_68 hp => ?_) (fun _ _ hf => hf.elim)
      obtain ⟨rfl, z1, R_68, g2⟩ := hp
      refine hp_istore_n C dX6_handles_71 (by decide) ?_
      refine hp_goto (tgt := 51) C dX6_handles_72 (by decide) ?_
      cases hr1 : (a_rd f p due (a_cn p a)).1 with
      | none =>
        have el := a_lp_no (f := f) (k := k) hx hr1
        rw [el] at hP
        exact ml_hx sh C hr rfl (hP _ z1 rfl R_68 (g2.trans (Prod.ext rfl hz.symm)))
      | some c =>
        have el := a_lp_so (f := f) (k := k) hx hr1
        rw [el] at hP hF htm hv
        have hm2 := a_rd_mem (a := a_cn p a) hm hr1
        have hq2 : a_lq f p k c (a_rd f p due (a_cn p a)).2 := by
          rcases hq with q | q | ⟨c', q1, q2⟩
          · exact absurd q hx
          · rw [hr1] at q; cases q
          · rw [hr1] at q1; cases q1; exact q2
        have ez : z1.2.2 = z.2.2 := g2.trans (Prod.ext rfl hz.symm)
        exact ih c _ _ _ z1 R_68 (by rw [ez]; exact hz) y1 (by rw [k2.mk]; exact hp) (by rw [k2.nd]; exact hk) (by rw [y2]; exact h3) (by rw [k2.nd]; exact h8) hm2 hq2 htm hv e0 rfl e5 (fun H' z' q R' g => hP H' z' q R' (g.trans ez)) (fun lo' H' z' q R' g => hF lo' H' z' q R' (g.trans ez))
set_option maxHeartbeats 4000000 in
theorem ml_hn {M : hpM} {G : hpG} {d : Nat} {h0 h : hpT} {m : Nat} (sh : mo_sh G h m) (C : hp_F M G yX6_handles cX6_handles 6 d h0) (hd : 5 ≤ d) (hr : (hp_mt M).sig.returnType = none) {X : String → hpT → Prop} {P : Option Value → hpT → Prop} : ∀ (k c y : Nat) (lo : Nat → Option Value) (H : hpT) (a : aS) (z : mrZ), MR h m H a z → z.2.2.2 = 80 → a_I a → c < a_mk a → ¬ a_nd a 3 c = 2 → a_hq k c y a → y < 2 ^ 30 → a_tm (a_hd k c y a) < 2 ^ 30 → (a_ev (a_hd k c y a)).length < 2 ^ 30 → lo 0 = some (.ref m) → lo 3 = some (.int (nI c)) → lo 4 = some (.int (nI y)) → (∀ H' z', MR h m H' (a_hd k c y a) z' → z'.2.2 = z.2.2 → P none H') → hp_V M G 6 (hp_Q M G h0 P X) H 5 lo [] := by
  intro k
  induction k with
  | zero =>
    intro c y lo H a z R hz I hc h3 hq
    exact hq.elim
  | succ k ih =>
    intro c y lo H a z R hz I hc h3 hq hy htm hv e0 e3 e4 hP
    have hc8 : c < 80 := Nat.lt_of_lt_of_le hc I.1.1.2
    have r4 := I.1.r4 hc
    have le1 := a_hd_le (k + 1) c y a
    by_cases hc0 : c = 0
    · have el : a_hd (k + 1) c y a = a := by rw [a_hd, if_pos hc0]
      rw [el] at hP
      subst hc0
      refine hp_iload_n C dX6_handles_5 e3 ?_
      refine hp_if_le (tgt := 124) C dX6_handles_6 (by decide) (fun _ => ?_) (fun z_9 => absurd (show (nI 0 : Int32) ≤ 0 by decide) z_9)
      refine hp_vret C hr dX6_handles_124 ?_
      exact hP _ z R rfl
    · obtain ⟨w1, w2, w3⟩ := I.2.1.2.2.1 c hc hc0 h3
      have r1 := I.1.r1 hc hc0
      have r2 := I.1.r2 hc
      have epa : a_pa a c = (a_nd a 1 c).toNat := rfl
      have efu : a_fu a c = (9 - a_nd a 2 c).toNat := rfl
      have hpm : a_pa a c < a_mk a := by omega
      obtain ⟨d1, d2, d3, d4, d5⟩ := a_kid I.1 I.2.1.1 hpm w1
      have h8 : (8 : Int) ≤ (a_fu a c : Nat) + a_nd a 2 (a_pa a c) := by omega
      refine hp_iload_n C dX6_handles_5 e3 ?_
      refine hp_if_le (tgt := 124) C dX6_handles_6 (by decide) (fun z_9 => absurd z_9 (nI_nle (by omega) (by omega))) (fun _ => ?_)
      refine hp_aload_nR C dX6_handles_9 e0 ?_
      refine mr_A C sh R fl_X6_23_6 rfl (by decide) dX6_handles_10 ?_
      refine hp_iload_n C dX6_handles_13 e3 ?_
      refine mr_nd C sh R 6 4 (by decide) (by decide) rfl hc8 dX6_handles_14 ?_
      refine hp_iconst (v := 2) C dX6_handles_15 (by decide) ?_
      refine hp_icmp_ne (tgt := 26) C dX6_handles_16 (by decide) (fun c_16 => ?_) (fun c_16 => ?_)
      · refine hp_aload_nR C dX6_handles_26 e0 ?_
        refine mr_A C sh R fl_X6_23_6 rfl (by decide) dX6_handles_27 ?_
        refine hp_iload_n C dX6_handles_30 e3 ?_
        refine mr_nd C sh R 6 4 (by decide) (by decide) rfl hc8 dX6_handles_31 ?_
        refine hp_iconst (v := 1) C dX6_handles_32 (by decide) ?_
        refine hp_icmp_ne (tgt := 43) C dX6_handles_33 (by decide) (fun c_33 => ?_) (fun c_33 => ?_)
        · refine hp_aload_nR C dX6_handles_43 e0 ?_
          refine mr_A C sh R fl_X6_13_6 rfl (by decide) dX6_handles_44 ?_
          refine hp_iload_n C dX6_handles_47 e3 ?_
          refine mr_nd C sh R 3 1 (by decide) (by decide) rfl hc8 dX6_handles_48 ?_
          refine hp_istore C dX6_handles_49 (by decide) ?_
          have h42 : ¬ a_nd a 4 c = 2 := fun e => c_16 (by rw [e]; decide)
          have h41 : ¬ (a_nd a 4 c = 1 ∧ y ≤ 1) := fun q => c_33 (by rw [q.1]; decide)
          have hq4 : a_nd a 3 (a_pa a c) = 1 ∧ a_lq (a_fu a c) (a_pa a c) 1000000 c a ∧ ((a_lp (a_fu a c) (a_pa a c) 1000000 c a).1 = true ∨ a_hq k (a_pa a c) 1 (a_lp (a_fu a c) (a_pa a c) 1000000 c a).2) := by
            rcases hq with q | q | q | q
            · exact absurd q hc0
            · exact absurd q h42
            · exact absurd q h41
            · exact q
          obtain ⟨q1, q2, q3⟩ := hq4
          have el : a_hd (k + 1) c y a = if (a_lp (a_fu a c) (a_pa a c) 1000000 c a).1 = true then (a_lp (a_fu a c) (a_pa a c) 1000000 c a).2 else a_hd k (a_pa a c) 1 (a_lp (a_fu a c) (a_pa a c) 1000000 c a).2 := by rw [a_hd, if_neg hc0, if_neg h42, if_neg h41]
          obtain ⟨v1, v2, v3, v4⟩ := a_lp_I (f := a_fu a c) 1000000 c a I hpm w2 w3 h8 w1
          have le2 : a_le (a_lp (a_fu a c) (a_pa a c) 1000000 c a).2 (a_hd (k + 1) c y a) := by
            rw [el]
            split
            · exact a_le.rf _
            · exact a_hd_le _ _ _ _
          refine ml_hw sh C hd hr 1000000 c _ _ a z R hz I hpm w2 q1 h8 w1 q2 (Nat.lt_of_le_of_lt le2.1 htm) (Nat.lt_of_le_of_lt le2.2.1 hv) e0 e3 (congrArg (fun q => some (Value.int q)) (a_ofN r1.1)) (fun H' z' q R' g => ?_) (fun lo' H' z' q R' g f0 f3 => ?_)
          · rw [el, if_pos q] at hP
            exact hP H' z' R' g
          · rw [el, if_neg q] at hP htm hv
            refine hp_iconst (v := 1) C dX6_handles_118 (by decide) ?_
            refine hp_istore C dX6_handles_119 (by decide) ?_
            refine hp_goto (tgt := 5) C dX6_handles_121 (by decide) ?_
            exact ih (a_pa a c) 1 _ _ _ z' R' (by rw [g]; exact hz) v1 (by rw [v2]; exact hpm) v4 (q3.resolve_left q) (by decide) htm hv f0 f3 rfl (fun H2 z2 R2 g2 => hP H2 z2 R2 (g2.trans g))
        · refine hp_iload C dX6_handles_36 e4 ?_
          refine hp_iconst (v := 2) C dX6_handles_38 (by decide) ?_
          refine hp_icmp_ge (tgt := 43) C dX6_handles_39 (by decide) (fun c_39 => ?_) (fun c_39 => ?_)
          · refine hp_aload_nR C dX6_handles_43 e0 ?_
            refine mr_A C sh R fl_X6_13_6 rfl (by decide) dX6_handles_44 ?_
            refine hp_iload_n C dX6_handles_47 e3 ?_
            refine mr_nd C sh R 3 1 (by decide) (by decide) rfl hc8 dX6_handles_48 ?_
            refine hp_istore C dX6_handles_49 (by decide) ?_
            have h42 : ¬ a_nd a 4 c = 2 := fun e => c_16 (by rw [e]; decide)
            have h41 : ¬ (a_nd a 4 c = 1 ∧ y ≤ 1) := fun q => by
              have e2 : (2 : Int32) = nI 2 := rfl
              rw [e2, nI_leI (by omega) (by omega)] at c_39
              omega
            have hq4 : a_nd a 3 (a_pa a c) = 1 ∧ a_lq (a_fu a c) (a_pa a c) 1000000 c a ∧ ((a_lp (a_fu a c) (a_pa a c) 1000000 c a).1 = true ∨ a_hq k (a_pa a c) 1 (a_lp (a_fu a c) (a_pa a c) 1000000 c a).2) := by
              rcases hq with q | q | q | q
              · exact absurd q hc0
              · exact absurd q h42
              · exact absurd q h41
              · exact q
            obtain ⟨q1, q2, q3⟩ := hq4
            have el : a_hd (k + 1) c y a = if (a_lp (a_fu a c) (a_pa a c) 1000000 c a).1 = true then (a_lp (a_fu a c) (a_pa a c) 1000000 c a).2 else a_hd k (a_pa a c) 1 (a_lp (a_fu a c) (a_pa a c) 1000000 c a).2 := by rw [a_hd, if_neg hc0, if_neg h42, if_neg h41]
            obtain ⟨v1, v2, v3, v4⟩ := a_lp_I (f := a_fu a c) 1000000 c a I hpm w2 w3 h8 w1
            have le2 : a_le (a_lp (a_fu a c) (a_pa a c) 1000000 c a).2 (a_hd (k + 1) c y a) := by
              rw [el]
              split
              · exact a_le.rf _
              · exact a_hd_le _ _ _ _
            refine ml_hw sh C hd hr 1000000 c _ _ a z R hz I hpm w2 q1 h8 w1 q2 (Nat.lt_of_le_of_lt le2.1 htm) (Nat.lt_of_le_of_lt le2.2.1 hv) e0 e3 (congrArg (fun q => some (Value.int q)) (a_ofN r1.1)) (fun H' z' q R' g => ?_) (fun lo' H' z' q R' g f0 f3 => ?_)
            · rw [el, if_pos q] at hP
              exact hP H' z' R' g
            · rw [el, if_neg q] at hP htm hv
              refine hp_iconst (v := 1) C dX6_handles_118 (by decide) ?_
              refine hp_istore C dX6_handles_119 (by decide) ?_
              refine hp_goto (tgt := 5) C dX6_handles_121 (by decide) ?_
              exact ih (a_pa a c) 1 _ _ _ z' R' (by rw [g]; exact hz) v1 (by rw [v2]; exact hpm) v4 (q3.resolve_left q) (by decide) htm hv f0 f3 rfl (fun H2 z2 R2 g2 => hP H2 z2 R2 (g2.trans g))
          · refine hp_vret C hr dX6_handles_42 ?_
            have h4 : a_nd a 4 c = 1 := (a_ofI_eq (x := a_nd a 4 c) (y := 1) (by omega) (by omega)).mp c_33
            have hy1 : y ≤ 1 := by
              have e2 : (2 : Int32) = nI 2 := rfl
              rw [e2, nI_leI (by omega) (by omega)] at c_39
              omega
            have el : a_hd (k + 1) c y a = a := by rw [a_hd, if_neg hc0, if_neg (by omega), if_pos ⟨h4, hy1⟩]
            rw [el] at hP
            exact hP _ z R rfl
      · refine hp_aload_nR C dX6_handles_19 e0 ?_
        refine hp_iload_n C dX6_handles_20 e3 ?_
        refine hp_callV (ci := 6) C ml_X6_103 im_X6_goes se_X6_goes rfl (by decide) (mc_goes (d := d - 1) (f := a_fu a c) sh R I.1 I.2.1 hc hc0 h3 (by omega) (Nat.lt_of_le_of_lt le1.2.1 hv) (by omega)) (by omega) dX6_handles_21 (R.o sh) rfl rfl (by simp [Value.category]) (fun v_21 h_21 hp => ?_) (fun _ _ hf => hf.elim)
        obtain ⟨⟨x_21, rfl⟩, R_21⟩ := hp
        refine hp_pop C dX6_handles_24 rfl ?_
        refine hp_vret C hr dX6_handles_25 ?_
        have h4 : a_nd a 4 c = 2 := (a_ofI_eq (x := a_nd a 4 c) (y := 2) (by omega) (by omega)).mp c_16
        have el : a_hd (k + 1) c y a = (a_dis (a_fu a c) (a_pa a c) c (a_ix c (a_rw a (a_pa a c))) a).2 := by rw [a_hd, if_neg hc0, if_pos h4]
        rw [el] at hP
        exact hP _ z R_21 rfl
set_option maxRecDepth 20000 in
set_option maxHeartbeats 4000000 in
theorem mc_han {l : Launch} {G : hpG} {h H : hpT} {m d : Nat} {a : aS} {z : mrZ} (sh : mo_sh G h m) (R : MR h m H a z) (hz : z.2.2.2 = 80) (I : a_I a) {c y : Nat} (hc : c < a_mk a) (h3 : ¬ a_nd a 3 c = 2) (hq : a_hq 9 c y a) (hy : y < 2 ^ 30) (htm : a_tm (a_hd 9 c y a) < 2 ^ 30) (hv : (a_ev (a_hd 9 c y a)).length < 2 ^ 30) (hd : 5 ≤ d) : hp_C l G yX6_handles (.code yX6_handles cX6_handles 6 none) d [.ref m, .int (nI c), .int (nI y)] (H) (fun v h' => v = none ∧ ∃ z', MR h m h' (a_hd 9 c y a) z' ∧ z'.2.2 = z.2.2) (fun _ _ => False) := by
  refine hp_ofV (by decide) (by simp [Value.category]) (Nat.le_of_ble_eq_true rfl) (fun M C hr hx el => ?_)
  refine hp_iload_n C dX6_handles_0 rfl ?_
  refine hp_istore_n C dX6_handles_1 (by decide) ?_
  refine hp_iload_n C dX6_handles_2 rfl ?_
  refine hp_istore C dX6_handles_3 (by decide) ?_
  exact ml_hn sh C hd hr 9 c y _ H a z R hz I hc h3 hq hy htm hv rfl rfl rfl (fun H' z' R' g => ⟨rfl, z', R', g⟩)
