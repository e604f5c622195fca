/-! ===== the reference: place, restarts ===== -/
theorem mc_place {l : Launch} {G : hpG} {h H : hpT} {m d : Nat} {a : aS} {z : mrZ} (sh : mo_sh G h m) (R : MR h m H a z) (T : a_T a) {p c : Nat} (hp : p < a_mk a) (hm : c ∈ a_rw a p) : hp_C l G yX6_place (.code yX6_place cX6_place 4 (some .int)) d [.ref m, .int (nI c)] H (fun v h' => v = some (.int (nI (a_ix c (a_rw a p)))) ∧ MR h m h' a z) (fun _ _ => False) := by
  obtain ⟨s, rfl, r, r1, r2, r3⟩ := R
  have m80 := T.1.2
  obtain ⟨c1, c2, c3⟩ := T.rc hp hm
  obtain ⟨i1, i2, i3⟩ := a_ix_ok hm
  obtain ⟨y1, y2, y3⟩ := r.2.2.2.2.2.2.1 p (by omega)
  obtain ⟨p1, p2⟩ := nI_80 (p := c) (by omega)
  have con := mo_place (l := l) (d := d) (s := s) sh (n := nI c) (p := p) (t := a_ix c (a_rw a p)) p1 (by rw [p2, r.nd (f := 1) (by omega) (by omega), c2]; rfl) (by omega) (by omega) (by rw [(y3 _ i1).1, i2]) (fun j hj e => by
    have hj' : j < (a_rw a p).length := by omega
    rw [(y3 j hj').1] at e
    have := (nI_eq (by have := (y3 j hj').2; omega) (by omega)).mp e
    exact i3 j hj this)
  exact hp_Cw con (fun v h' hv => ⟨hv.1, s, hv.2, r, r1, r2, r3⟩)
theorem k_dtk {L : List Nat} {i t : Nat} (hi : i < t) (ht : t ≤ L.length) : (L.take t).drop i = L.getD i 0 :: (L.take t).drop (i + 1) := by
  have h1 : i < (L.take t).length := by rw [List.length_take]; omega
  rw [List.drop_eq_getElem_cons h1, List.getElem_take, List.getD_eq_getElem?_getD, List.getElem?_eq_getElem (by omega)]
  rfl
/-- restarts' answer -/
def a_an (r : Option Nat) : Int32 := match r with
  | none => -1
  | some c => nI c
set_option maxHeartbeats 4000000 in
theorem ml_rs2 {M : hpM} {G : hpG} {d : Nat} {h0 h : hpT} {m : Nat} (sh : mo_sh G h m) (C : hp_F M G yX6_restarts cX6_restarts 7 d h0) (hd : 4 ≤ d) (hr : (hp_mt M).sig.returnType = some .int) {f p t : Nat} {L : List Nat} {X : String → hpT → Prop} {P : Option Value → hpT → Prop} : ∀ (k i : Nat) (lo : Nat → Option Value) (H : hpT) (a : aS) (z : mrZ), i + k = t → MR h m H a z → a_I a → p < a_mk a → ¬ a_nd a 3 p = 2 → (8 : Int) ≤ f + a_nd a 2 p → a_rw a p = L → t ≤ L.length → (a_ev (a_sF (a_go f) ((L.take t).drop i) a).2).length < 2 ^ 30 → lo 0 = some (.ref m) → lo 1 = some (.int (nI p)) → lo 4 = some (.int (nI t)) → lo 5 = some (.int (nI i)) → (∀ H' z', MR h m H' (a_sF (a_go f) ((L.take t).drop i) a).2 z' → z'.2.2 = z.2.2 → P (some (.int (a_an (a_sF (a_go f) ((L.take t).drop i) a).1))) H') → hp_V M G 7 (hp_Q M G h0 P X) H 121 lo [] := by
  intro k
  induction k with
  | zero =>
    intro i lo H a z hi R I hp h3 h8 hL ht hv e0 e1 e4 e5 hP
    have eit : i = t := by omega
    subst eit
    have hn8 : p < 80 := Nat.lt_of_lt_of_le hp I.1.1.2
    have ee : (L.take i).drop i = [] := List.drop_eq_nil_of_le (by rw [List.length_take]; omega)
    rw [ee] at hP
    refine hp_iload C dX6_restarts_121 e5 ?_
    refine hp_iload C dX6_restarts_123 e4 ?_
    refine hp_icmp_ge (tgt := 160) C dX6_restarts_125 (by decide) (fun _ => ?_) (fun z_9 => absurd (Int32.le_refl _) z_9)
    refine hp_iconst (v := (-1)) C dX6_restarts_160 (by decide) ?_
    refine hp_iret C hr rfl dX6_restarts_161 ?_
    exact hP H z R rfl
  | succ k ih =>
    intro i lo H a z hi R I hp h3 h8 hL ht hv e0 e1 e4 e5 hP
    have hn8 : p < 80 := Nat.lt_of_lt_of_le hp I.1.1.2
    subst hL
    have hil : i < (a_rw a p).length := by omega
    have hl79 := I.1.rl hp
    have hm := k_rc I.1 hp hil
    obtain ⟨d1, d2, d3, d4, d5⟩ := a_kid I.1 I.2.1.1 hp hm
    have hg := I.2.1.2.2.2.1 p _ hp hm h3
    have ee := k_dtk (L := a_rw a p) (i := i) (t := t) (by omega) ht
    rw [ee] at hP hv
    generalize hcc : (a_rw a p).getD i 0 = c at *
    have hc8 : c < 80 := Nat.lt_of_lt_of_le d4 I.1.1.2
    have kg := a_go_gk f c a I.1 I.2.1 d4 hg
    have lo1 := a_go_lo f c a I.1 I.2.1.1 d4
    have hv1 : (a_ev (a_go f c a).2).length < 2 ^ 30 := by
      refine Nat.lt_of_le_of_lt ?_ hv
      unfold a_sF
      split
      · exact (a_sF_kp (a_go_kp f) _ _).ev
      · exact Nat.le_refl _
    refine hp_iload C dX6_restarts_121 e5 ?_
    refine hp_iload C dX6_restarts_123 e4 ?_
    refine hp_icmp_ge (tgt := 160) C dX6_restarts_125 (by decide) (fun z_9 => absurd z_9 (nI_ge (by omega) (by omega))) (fun _ => ?_)
    refine hp_aload_nR C dX6_restarts_128 e0 ?_
    refine mr_A C sh R fl_X6_47_6 rfl (by decide) dX6_restarts_129 ?_
    refine hp_bipush (v := 80) C dX6_restarts_132 (by decide) ?_
    refine hp_iload_n C dX6_restarts_134 e1 ?_
    refine hp_imul C dX6_restarts_135 ?_
    refine hp_iload C dX6_restarts_136 e5 ?_
    refine hp_iadd C dX6_restarts_138 ?_
    refine mr_row C sh R hn8 hil rfl dX6_restarts_139 ?_
    rw [hcc]
    refine hp_istore C dX6_restarts_140 (by decide) ?_
    refine hp_aload_nR C dX6_restarts_142 e0 ?_
    refine hp_iload C dX6_restarts_143 rfl ?_
    refine hp_callV (ci := 6) C ml_X6_115 im_X6_starts se_X6_starts rfl (by decide) (mc_sta (d := d - 1) (f := f) sh R I.1 I.2.2.1 d4 (by omega) hv1 (by omega)) (by omega) dX6_restarts_145 (R.o sh) rfl rfl (by simp [Value.category]) (fun v_145 h_145 hp => ?_) (fun _ _ hf => hf.elim)
    obtain ⟨rfl, z1, R_145, g2⟩ := hp
    refine hp_if_ne (tgt := 154) C dX6_restarts_148 (by decide) (fun c_148 => ?_) (fun c_148 => ?_)
    · refine hp_iinc C dX6_restarts_154 e5 (by decide) rfl ?_
      refine hp_goto (tgt := 121) C dX6_restarts_157 (by decide) ?_
      have eg : (a_go f c a).1 = true := by
        cases g : (a_go f c a).1 with
        | true => rfl
        | false => exact absurd (by rw [g]; rfl) c_148
      have es : a_sF (a_go f) (c :: ((a_rw a p).take t).drop (i + 1)) a = a_sF (a_go f) (((a_rw a p).take t).drop (i + 1)) (a_go f c a).2 := by
        rw [a_sF, if_pos eg]
      rw [es] at hP hv
      exact ih (i + 1) _ _ _ z1 (by omega) R_145 (I.gk kg) (by rw [kg.1.mk]; exact hp) (by rw [kg.2.1]; exact h3) (by rw [kg.1.nd]; exact h8) (by rw [kg.1.rw']) ht hv e0 e1 e4 ((va_up_self _ _ _).trans (by rw [show Int32.ofInt 1 = 1 from rfl, nI_1])) (fun H' z' R' g3 => hP H' z' R' (g3.trans g2))
    · refine hp_iload C dX6_restarts_151 rfl ?_
      refine hp_iret C hr rfl dX6_restarts_153 ?_
      have eg : ¬ (a_go f c a).1 = true := fun g => absurd c_148 (by rw [if_pos g]; decide)
      have es : a_sF (a_go f) (c :: ((a_rw a p).take t).drop (i + 1)) a = (some c, (a_go f c a).2) := by
        rw [a_sF, if_neg eg]
      rw [es] at hP
      exact hP _ z1 R_145 g2
set_option maxHeartbeats 4000000 in
theorem ml_rs1 {M : hpM} {G : hpG} {d : Nat} {h0 h : hpT} {m : Nat} (sh : mo_sh G h m) (C : hp_F M G yX6_restarts cX6_restarts 7 d h0) (hd : 4 ≤ d) {f p fr : Nat} {Q : State → Prop} : ∀ (j : Nat) (lo : Nat → Option Value) (H : hpT) (a : aS) (z : mrZ), MR h m H a z → a_I a → p < a_mk a → ¬ a_nd a 3 p = 2 → (8 : Int) ≤ f + a_nd a 2 p → j ≤ (a_rw a p).length → fr < 2 ^ 30 → (a_ev (a_rF f p fr j a)).length < 2 ^ 30 → lo 0 = some (.ref m) → lo 1 = some (.int (nI p)) → lo 3 = some (.int (nI fr)) → lo 5 = some (.int (nI j - 1)) → (∀ (lo' : Nat → Option Value) H' z', MR h m H' (a_rF f p fr j a) z' → z'.2.2 = z.2.2 → lo' 0 = some (.ref m) → lo' 1 = some (.int (nI p)) → lo' 3 = some (.int (nI fr)) → hp_V M G 7 Q H' 110 lo' []) → hp_V M G 7 Q H 46 lo [] := by
  intro j
  induction j with
  | zero =>
    intro lo H a z R I hp h3 h8 hj hfr hv e0 e1 e3 e5 hP
    have hn8 : p < 80 := Nat.lt_of_lt_of_le hp I.1.1.2
    have hlt : (nI 0 - 1 : Int32) < nI fr := by
      rw [Int32.lt_iff_toInt_lt, nI_toInt (by omega)]
      have : (nI 0 - 1 : Int32).toInt = -1 := by decide
      omega
    refine hp_iload C dX6_restarts_46 e5 ?_
    refine hp_iload_n C dX6_restarts_48 e3 ?_
    refine hp_icmp_lt (tgt := 110) C dX6_restarts_49 (by decide) (fun _ => ?_) (fun z_9 => absurd hlt z_9)
    exact hP _ H z R rfl e0 e1 e3
  | succ j ih =>
    intro lo H a z R I hp h3 h8 hj hfr hv e0 e1 e3 e5 hP
    rw [nI_pred] at e5
    have hn8 : p < 80 := Nat.lt_of_lt_of_le hp I.1.1.2
    have hl79 := I.1.rl hp
    have hjl : j < (a_rw a p).length := by omega
    by_cases hjf : j < fr
    · have er : a_rF f p fr (j + 1) a = a := by rw [a_rF, if_pos hjf]
      rw [er] at hP
      refine hp_iload C dX6_restarts_46 e5 ?_
      refine hp_iload_n C dX6_restarts_48 e3 ?_
      refine hp_icmp_lt (tgt := 110) C dX6_restarts_49 (by decide) (fun _ => ?_) (fun z_9 => absurd (nI_lt hjf (by omega)) z_9)
      exact hP _ H z R rfl e0 e1 e3
    · have hm := k_rc I.1 hp hjl
      have hix := a_ix_at (I.1.nd hp) hjl
      obtain ⟨d1, d2, d3, d4, d5⟩ := a_kid I.1 I.2.1.1 hp hm
      have hg := I.2.1.2.2.2.1 p _ hp hm h3
      have r3 := I.1.r3 d4
      have r4 := I.1.r4 d4
      obtain ⟨y1, y2⟩ := a_rl_I (f := f) I hp h3 h8 hjl
      have k2 := a_rl_k2 f p ((a_rw a p).getD j 0) j a
      have hlen := (a_rl_len f p ((a_rw a p).getD j 0) j a).1
      have er : a_rF f p fr (j + 1) a = a_rF f p fr j (if a_nd a 3 ((a_rw a p).getD j 0) = 1 then a_rl f p ((a_rw a p).getD j 0) j a else a) := by rw [a_rF, if_neg hjf]
      rw [er] at hP hv
      generalize hcc : (a_rw a p).getD j 0 = c at *
      have hc8 : c < 80 := Nat.lt_of_lt_of_le d4 I.1.1.2
      have kg := a_ce_gk false f c a I.1 d4 hg
      have hI := I.gk kg
      have epa : a_pa (a_ce false f c a).2 c = p := by
        show (a_nd (a_ce false f c a).2 1 c).toNat = p
        rw [kg.1.nd]
        exact d3
      have ix : a_ix c (a_rw (a_ce false f c a).2 p) = j := by rw [kg.1.rw']; exact hix
      refine hp_iload C dX6_restarts_46 e5 ?_
      refine hp_iload_n C dX6_restarts_48 e3 ?_
      refine hp_icmp_lt (tgt := 110) C dX6_restarts_49 (by decide) (fun z_9 => absurd z_9 (nI_nlt (by omega) (by omega))) (fun _ => ?_)
      refine hp_aload_nR C dX6_restarts_52 e0 ?_
      refine mr_A C sh R fl_X6_47_6 rfl (by decide) dX6_restarts_53 ?_
      refine hp_bipush (v := 80) C dX6_restarts_56 (by decide) ?_
      refine hp_iload_n C dX6_restarts_58 e1 ?_
      refine hp_imul C dX6_restarts_59 ?_
      refine hp_iload C dX6_restarts_60 e5 ?_
      refine hp_iadd C dX6_restarts_62 ?_
      refine mr_row C sh R hn8 hjl rfl dX6_restarts_63 ?_
      rw [hcc]
      refine hp_istore C dX6_restarts_64 (by decide) ?_
      refine hp_aload_nR C dX6_restarts_66 e0 ?_
      refine mr_A C sh R fl_X6_20_6 rfl (by decide) dX6_restarts_67 ?_
      refine hp_iload C dX6_restarts_70 rfl ?_
      refine mr_nd C sh R 5 3 (by decide) (by decide) rfl hc8 dX6_restarts_72 ?_
      refine hp_iconst (v := 1) C dX6_restarts_73 (by decide) ?_
      refine hp_icmp_ne (tgt := 104) C dX6_restarts_74 (by decide) (fun c_74 => ?_) (fun c_74 => ?_)
      · refine hp_iinc C dX6_restarts_104 e5 (by decide) rfl ?_
        refine hp_goto (tgt := 46) C dX6_restarts_107 (by decide) ?_
        have hu : ¬ a_nd a 3 c = 1 := fun e => c_74 (by rw [e]; decide)
        rw [if_neg hu] at hP hv
        exact ih _ _ a z R I hp h3 h8 (by omega) hfr hv e0 e1 e3 ((va_up_self _ _ _).trans (by rw [k_dec])) hP
      · have hu : a_nd a 3 c = 1 := (a_ofI_eq (x := a_nd a 3 c) (y := 1) (by omega) (by omega)).mp c_74
        rw [if_pos hu] at hP hv
        have hv2 : (a_ev (a_rl f p c j a)).length < 2 ^ 30 := Nat.lt_of_le_of_lt (a_rF_k2 f p fr j _).ev hv
        have hv3 : (a_ev (a_ce false f c a).2).length < 2 ^ 30 := by
          refine Nat.lt_of_le_of_lt ?_ hv2
          unfold a_rl
          split
          · exact (a_dis_k2 f p c j _).ev
          · exact Nat.le_refl _
        refine hp_aload_nR C dX6_restarts_77 e0 ?_
        refine hp_iload C dX6_restarts_78 rfl ?_
        refine hp_iconst (v := 0) C dX6_restarts_80 (by decide) ?_
        refine hp_iconst (v := 0) C dX6_restarts_81 (by decide) ?_
        refine hp_callV (ci := 6) C ml_X6_92 im_X6_ceases se_X6_ceases rfl (by decide) (mc_cea (d := d - 1) (k := false) (f := f) (fr := 0) sh R I.1 d4 (by omega) (by have := I.1.r2 d4; omega) hv3 (by omega)) (by omega) dX6_restarts_82 (R.o sh) rfl rfl (by simp [Value.category]) (fun v_82 h_82 hp => ?_) (fun _ _ hf => hf.elim)
        obtain ⟨rfl, z1, R_82, -, g2⟩ := hp
        refine hp_pop C dX6_restarts_85 rfl ?_
        refine hp_aload_nR C dX6_restarts_86 e0 ?_
        refine mr_A C sh R_82 fl_X6_23_6 rfl (by decide) dX6_restarts_87 ?_
        refine hp_iload C dX6_restarts_90 rfl ?_
        refine mr_nd C sh R_82 6 4 (by decide) (by decide) rfl hc8 dX6_restarts_92 ?_
        refine hp_iconst (v := 2) C dX6_restarts_93 (by decide) ?_
        refine hp_icmp_ne (tgt := 104) C dX6_restarts_94 (by decide) (fun c_94 => ?_) (fun c_94 => ?_)
        · refine hp_iinc C dX6_restarts_104 e5 (by decide) rfl ?_
          refine hp_goto (tgt := 46) C dX6_restarts_107 (by decide) ?_
          have h4 : ¬ a_nd a 4 c = 2 := fun e => c_94 (by rw [kg.1.nd, e]; decide)
          have el : a_rl f p c j a = (a_ce false f c a).2 := by unfold a_rl; rw [if_neg h4]
          rw [← el] at R_82
          exact ih _ _ _ z1 R_82 y1 (by rw [k2.mk]; exact hp) (by rw [y2]; exact h3) (by rw [k2.nd]; exact h8) (by omega) hfr hv e0 e1 e3 ((va_up_self _ _ _).trans (by rw [k_dec])) (fun lo' H' z' R' g3 => hP lo' H' z' R' (g3.trans g2))
        · have h4 : a_nd a 4 c = 2 := by
            have := (a_ofI_eq (x := a_nd (a_ce false f c a).2 4 c) (y := 2) (by rw [kg.1.nd]; omega) (by omega)).mp c_94
            rwa [kg.1.nd] at this
          refine hp_aload_nR C dX6_restarts_97 e0 ?_
          refine hp_iload C dX6_restarts_98 rfl ?_
          refine hp_callV (ci := 6) C ml_X6_103 im_X6_goes se_X6_goes rfl (by decide) (mc_goes (d := d - 1) (f := f) sh R_82 hI.1 hI.2.1 (c := c) (by rw [kg.1.mk]; exact d4) d2 (by rw [kg.2.1]; exact hg) (by rw [kg.1.nd]; omega) hv3 (by omega)) (by omega) dX6_restarts_100 (R_82.o sh) rfl rfl (by simp [Value.category]) (fun v_100 h_100 hp => ?_) (fun _ _ hf => hf.elim)
          obtain ⟨⟨x_100, rfl⟩, R_100⟩ := hp
          rw [epa, ix] at R_100
          have el : a_rl f p c j a = (a_dis f p c j (a_ce false f c a).2).2 := by unfold a_rl; rw [if_pos h4]
          rw [← el] at R_100
          refine hp_pop C dX6_restarts_103 rfl ?_
          refine hp_iinc C dX6_restarts_104 e5 (by decide) rfl ?_
          refine hp_goto (tgt := 46) C dX6_restarts_107 (by decide) ?_
          exact ih _ _ _ z1 R_100 y1 (by rw [k2.mk]; exact hp) (by rw [y2]; exact h3) (by rw [k2.nd]; exact h8) (by omega) hfr hv e0 e1 e3 ((va_up_self _ _ _).trans (by rw [k_dec])) (fun lo' H' z' R' g3 => hP lo' H' z' R' (g3.trans g2))
set_option maxRecDepth 20000 in
set_option maxHeartbeats 4000000 in
theorem mc_rst {l : Launch} {G : hpG} {h H : hpT} {m d : Nat} {a : aS} {z : mrZ} (sh : mo_sh G h m) (R : MR h m H a z) (I : a_I a) {f p due : Nat} (hp : p < a_mk a) (h3 : ¬ a_nd a 3 p = 2) (h8 : (8 : Int) ≤ f + a_nd a 2 p) (hm : due ∈ a_rw a p) (hv : (a_ev (a_rd f p due a).2).length < 2 ^ 30) (hd : 4 ≤ d) : hp_C l G yX6_restarts (.code yX6_restarts cX6_restarts 7 (some .int)) d [.ref m, .int (nI p), .int (nI due)] (H) (fun v h' => v = some (.int (a_an (a_rd f p due a).1)) ∧ ∃ z', MR h m h' (a_rd f p due a).2 z' ∧ z'.2.2 = z.2.2) (fun _ _ => False) := by
  have hn8 : p < 80 := Nat.lt_of_lt_of_le hp I.1.1.2
  have hl79 := I.1.rl hp
  have r5 := I.1.r5 hp
  obtain ⟨i1, i2, i3⟩ := a_ix_ok hm
  refine hp_ofV (by decide) (by simp [Value.category]) (Nat.le_of_ble_eq_true rfl) (fun M C hr hx el => ?_)
  refine hp_aload_nR C dX6_restarts_0 rfl ?_
  refine hp_iload_n C dX6_restarts_1 rfl ?_
  refine hp_callV (ci := 6) C ml_X6_96 im_X6_place se_X6_place rfl (by decide) (mc_place (d := d - 1) sh R I.1 hp hm) (by omega) dX6_restarts_2 (R.o sh) rfl rfl (by simp [Value.category]) (fun v_2 h_2 hp => ?_) (fun _ _ hf => hf.elim)
  obtain ⟨rfl, R_2⟩ := hp
  refine hp_istore_n C dX6_restarts_5 (by decide) ?_
  refine hp_iload_n C dX6_restarts_6 rfl ?_
  refine hp_iconst (v := 1) C dX6_restarts_7 (by decide) ?_
  refine hp_iadd C dX6_restarts_8 ?_
  refine hp_istore C dX6_restarts_9 (by decide) ?_
  refine hp_aload_nR C dX6_restarts_11 rfl ?_
  refine mr_A C sh R_2 fl_X6_26_6 rfl (by decide) dX6_restarts_12 ?_
  refine hp_iload_n C dX6_restarts_15 rfl ?_
  refine mr_nd C sh R_2 7 5 (by decide) (by decide) rfl hn8 dX6_restarts_16 ?_
  refine hp_if_eq (tgt := 118) C dX6_restarts_17 (by decide) (fun c_17 => ?_) (fun c_17 => ?_)
  · refine hp_iload_n C dX6_restarts_118 rfl ?_
    refine hp_istore C dX6_restarts_119 (by decide) ?_
    have h5 : a_nd a 5 p = 0 := (a_ofI_eq (x := a_nd a 5 p) (y := 0) (by omega) (by omega)).mp c_17
    have es : a_sF (a_go f) (((a_rw a p).take (a_ix due (a_rw a p) + 1)).drop (a_ix due (a_rw a p))) a = a_rd f p due a := by
      have e1 : (a_rw a p).take (a_ix due (a_rw a p) + 1) = (a_rw a p).take (a_ix due (a_rw a p)) ++ [due] := by rw [k_tks i1, i2]
      have e2 : ((a_rw a p).take (a_ix due (a_rw a p) + 1)).drop (a_ix due (a_rw a p)) = [due] := by
        rw [e1]
        exact List.drop_left' (by rw [List.length_take]; omega)
      rw [e2]
      unfold a_rd
      rw [if_pos h5]
      unfold a_sF
      split <;> rfl
    exact ml_rs2 sh C hd hr 1 (a_ix due (a_rw a p)) _ _ a z (by rfl) R_2 I hp h3 h8 rfl (by omega) (by rw [es]; exact hv) rfl rfl ((congrArg (fun q => some (Value.int q)) (nI_1 _))) rfl (fun H' z' R' g => by rw [es] at R' ⊢; exact ⟨rfl, z', R', g⟩)
  · refine hp_aload_nR C dX6_restarts_20 rfl ?_
    refine mr_A C sh R_2 fl_X6_26_6 rfl (by decide) dX6_restarts_21 ?_
    refine hp_iload_n C dX6_restarts_24 rfl ?_
    refine mr_nd C sh R_2 7 5 (by decide) (by decide) rfl hn8 dX6_restarts_25 ?_
    refine hp_iconst (v := 2) C dX6_restarts_26 (by decide) ?_
    refine hp_icmp_ne (tgt := 34) C dX6_restarts_27 (by decide) (fun c_27 => ?_) (fun c_27 => ?_)
    · refine hp_iconst (v := 0) C dX6_restarts_34 (by decide) ?_
      refine hp_istore_n C dX6_restarts_35 (by decide) ?_
      refine hp_aload_nR C dX6_restarts_36 rfl ?_
      refine mr_A C sh R_2 fl_X6_50_6 rfl (by decide) dX6_restarts_37 ?_
      refine hp_iload_n C dX6_restarts_40 rfl ?_
      refine mr_many C sh R_2 hn8 dX6_restarts_41 ?_
      refine hp_iconst (v := 1) C dX6_restarts_42 (by decide) ?_
      refine hp_isub C dX6_restarts_43 ?_
      refine hp_istore C dX6_restarts_44 (by decide) ?_
      have h50 : ¬ a_nd a 5 p = 0 := fun e => c_17 (by rw [e]; decide)
      have h52 : ¬ a_nd a 5 p = 2 := fun e => c_27 (by rw [e]; decide)
      have efr : (if a_nd a 5 p = 1 then 0 else a_ix due (a_rw a p)) = 0 := by rw [if_pos (by omega)]
      have es : a_rd f p due a = a_sF (a_go f) ((a_rw (a_rF f p 0 (a_rw a p).length a) p).drop 0) (a_rF f p 0 (a_rw a p).length a) := by
        unfold a_rd
        rw [if_neg h50, efr]
      rw [es] at hv
      obtain ⟨y1, y2⟩ := a_rF_I (f := f) (p := p) (fr := 0) (a_rw a p).length a I hp h3 h8 (Nat.le_refl _)
      have k2 := a_rF_k2 f p 0 (a_rw a p).length a
      have hle : 0 ≤ (a_rw (a_rF f p 0 (a_rw a p).length a) p).length := by
        first
        | exact Nat.zero_le _
        | exact a_rF_len f p _ _ a (by omega) (by omega)
      have hp2 : p < a_mk (a_rF f p 0 (a_rw a p).length a) := by rw [k2.mk]; exact hp
      have hl2 := y1.1.rl hp2
      refine ml_rs1 sh C hd (f := f) (fr := 0) (a_rw a p).length _ _ a z R_2 I hp h3 h8 (Nat.le_refl _) (by omega) (Nat.lt_of_le_of_lt (a_sF_kp (a_go_kp f) _ _).ev hv) rfl rfl rfl rfl (fun lo1 H1 z1 R1 g1 q0 q1 q3 => ?_)
      have hn8' := hn8
      refine hp_aload_nR C dX6_restarts_110 q0 ?_
      refine mr_A C sh R1 fl_X6_50_6 rfl (by decide) dX6_restarts_111 ?_
      refine hp_iload_n C dX6_restarts_114 q1 ?_
      refine mr_many C sh R1 hn8 dX6_restarts_115 ?_
      refine hp_istore C dX6_restarts_116 (by decide) ?_
      refine hp_iload_n C dX6_restarts_118 q3 ?_
      refine hp_istore C dX6_restarts_119 (by decide) ?_
      refine ml_rs2 sh C hd hr ((a_rw (a_rF f p 0 (a_rw a p).length a) p).length - 0) 0 _ _ _ z1 (by omega) R1 y1 hp2 (by rw [y2]; exact h3) (by rw [k2.nd]; exact h8) rfl (Nat.le_refl _) (by rw [List.take_length]; exact hv) q0 q1 rfl rfl (fun H' z' R' g => ?_)
      rw [List.take_length, ← es] at R' ⊢
      exact ⟨rfl, z', R', g.trans g1⟩
    · refine hp_iload_n C dX6_restarts_30 rfl ?_
      refine hp_goto (tgt := 35) C dX6_restarts_31 (by decide) ?_
      refine hp_istore_n C dX6_restarts_35 (by decide) ?_
      refine hp_aload_nR C dX6_restarts_36 rfl ?_
      refine mr_A C sh R_2 fl_X6_50_6 rfl (by decide) dX6_restarts_37 ?_
      refine hp_iload_n C dX6_restarts_40 rfl ?_
      refine mr_many C sh R_2 hn8 dX6_restarts_41 ?_
      refine hp_iconst (v := 1) C dX6_restarts_42 (by decide) ?_
      refine hp_isub C dX6_restarts_43 ?_
      refine hp_istore C dX6_restarts_44 (by decide) ?_
      have h50 : ¬ a_nd a 5 p = 0 := fun e => c_17 (by rw [e]; decide)
      have h52 : a_nd a 5 p = 2 := (a_ofI_eq (x := a_nd a 5 p) (y := 2) (by omega) (by omega)).mp c_27
      have efr : (if a_nd a 5 p = 1 then 0 else a_ix due (a_rw a p)) = a_ix due (a_rw a p) := by rw [if_neg (by omega)]
      have es : a_rd f p due a = a_sF (a_go f) ((a_rw (a_rF f p (a_ix due (a_rw a p)) (a_rw a p).length a) p).drop (a_ix due (a_rw a p))) (a_rF f p (a_ix due (a_rw a p)) (a_rw a p).length a) := by
        unfold a_rd
        rw [if_neg h50, efr]
      rw [es] at hv
      obtain ⟨y1, y2⟩ := a_rF_I (f := f) (p := p) (fr := (a_ix due (a_rw a p))) (a_rw a p).length a I hp h3 h8 (Nat.le_refl _)
      have k2 := a_rF_k2 f p (a_ix due (a_rw a p)) (a_rw a p).length a
      have hle : (a_ix due (a_rw a p)) ≤ (a_rw (a_rF f p (a_ix due (a_rw a p)) (a_rw a p).length a) p).length := by
        first
        | exact Nat.zero_le _
        | exact a_rF_len f p _ _ a (by omega) (by omega)
      have hp2 : p < a_mk (a_rF f p (a_ix due (a_rw a p)) (a_rw a p).length a) := by rw [k2.mk]; exact hp
      have hl2 := y1.1.rl hp2
      refine ml_rs1 sh C hd (f := f) (fr := (a_ix due (a_rw a p))) (a_rw a p).length _ _ a z R_2 I hp h3 h8 (Nat.le_refl _) (by omega) (Nat.lt_of_le_of_lt (a_sF_kp (a_go_kp f) _ _).ev hv) rfl rfl rfl rfl (fun lo1 H1 z1 R1 g1 q0 q1 q3 => ?_)
      have hn8' := hn8
      refine hp_aload_nR C dX6_restarts_110 q0 ?_
      refine mr_A C sh R1 fl_X6_50_6 rfl (by decide) dX6_restarts_111 ?_
      refine hp_iload_n C dX6_restarts_114 q1 ?_
      refine mr_many C sh R1 hn8 dX6_restarts_115 ?_
      refine hp_istore C dX6_restarts_116 (by decide) ?_
      refine hp_iload_n C dX6_restarts_118 q3 ?_
      refine hp_istore C dX6_restarts_119 (by decide) ?_
      refine ml_rs2 sh C hd hr ((a_rw (a_rF f p (a_ix due (a_rw a p)) (a_rw a p).length a) p).length - (a_ix due (a_rw a p))) (a_ix due (a_rw a p)) _ _ _ z1 (by omega) R1 y1 hp2 (by rw [y2]; exact h3) (by rw [k2.nd]; exact h8) rfl (Nat.le_refl _) (by rw [List.take_length]; exact hv) q0 q1 rfl rfl (fun H' z' R' g => ?_)
      rw [List.take_length, ← es] at R' ⊢
      exact ⟨rfl, z', R', g.trans g1⟩
