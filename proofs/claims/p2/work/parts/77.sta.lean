/-! ===== the reference: stopsBelow, starts ===== -/
theorem a_end_rt (k : Bool) (n : Nat) (a : aS) : a_rt (a_end k n a) = a_rt a := by
  unfold a_end
  split <;> rfl
theorem a_cR_rt {f : Nat → aS → Nat × aS} (hf : ∀ c a, a_rt (f c a).2 = a_rt a) : ∀ (l : List Nat) (a : aS), a_rt (a_cR f l a).2 = a_rt a
  | [], _ => rfl
  | c :: r, a => by
    unfold a_cR
    split
    · exact (a_cR_rt hf r _).trans (hf c a)
    · exact a_cR_rt hf r a
theorem a_ce_rt (k : Bool) : ∀ (f n : Nat) (a : aS), a_rt (a_ce k f n a).2 = a_rt a
  | 0, _, _ => rfl
  | f + 1, n, a => by
    unfold a_ce
    split
    · exact a_end_rt k n a
    · exact (a_end_rt k n _).trans (a_cR_rt (a_ce_rt k f) _ a)
/-- starting forgets times, no more -/
def a_rtk (a b : aS) : Prop := ∀ m, a_rt b m = a_rt a m ∨ a_rt b m = []
theorem a_rtk.tr {a b c : aS} (x : a_rtk a b) (y : a_rtk b c) : a_rtk a c := fun m => by
  rcases y m with h | h
  · rcases x m with g | g
    · exact Or.inl (h.trans g)
    · exact Or.inr (h.trans g)
  · exact Or.inr h
theorem a_rtk.nil {a b : aS} (x : a_rtk a b) {n : Nat} (h : a_rt a n = []) : a_rt b n = [] := by
  rcases x n with g | g
  · exact g.trans h
  · exact g
theorem a_rtk.of {a b : aS} (h : a_rt b = a_rt a) : a_rtk a b := fun m => Or.inl (congrFun h m)
theorem a_sF_rtk {f : Nat → aS → Bool × aS} (hf : ∀ c a, a_rtk a (f c a).2) : ∀ (l : List Nat) (a : aS), a_rtk a (a_sF f l a).2
  | [], a => a_rtk.of rfl
  | c :: r, a => by
    unfold a_sF
    split
    · exact (hf c a).tr (a_sF_rtk hf r _)
    · exact hf c a
theorem a_srt_rtk (a : aS) (n : Nat) : a_rtk a (a_srt a n []) := fun m => by
  show va_up (a_rt a) n [] m = a_rt a m ∨ va_up (a_rt a) n [] m = []
  by_cases e : m = n
  · rw [e, va_up_self]; exact Or.inr rfl
  · rw [va_up_ne _ _ e]; exact Or.inl rfl
theorem a_go_rtk : ∀ (f n : Nat) (a : aS), a_rtk a (a_go f n a).2
  | 0, _, a => a_rtk.of rfl
  | f + 1, n, a => by
    by_cases hw : a_nd a 0 n = 0
    · rw [a_go_w hw]
      split <;> exact a_rtk.of rfl
    · have e : a_go (f + 1) n a = (if (a_sR (a_go f) (a_rw a n) (a_srt a n [])).1 = true then (true, a_no (a_sn (a_sR (a_go f) (a_rw a n) (a_srt a n [])).2 3 n 1) 1 n 0) else (false, a_no (a_sn (a_cR (a_ce false f) (a_rw a n).reverse (a_sR (a_go f) (a_rw a n) (a_srt a n [])).2).2 3 n 0) 2 n 0)) := by
        show (if a_nd a 0 n = 0 then _ else _) = _
        rw [if_neg hw]
      rw [e, a_sF_R]
      have k1 := (a_srt_rtk a n).tr (a_sF_rtk (a_go_rtk f) (a_rw a n) (a_srt a n []))
      split
      · exact k1.tr (a_rtk.of rfl)
      · exact k1.tr (a_rtk.of (a_cR_rt (a_ce_rt false f) _ _))
/-- workers have no times -/
def a_W (a : aS) : Prop := ∀ n, n < a_mk a → a_nd a 0 n = 0 → a_rt a n = []
theorem a_W.k {a b : aS} (x : a_W a) (k : a_kp a b) (r : a_rtk a b) : a_W b := fun n hn hw => r.nil (x n (by rw [k.mk] at hn; exact hn) (by rw [k.nd] at hw; exact hw))
set_option maxHeartbeats 4000000 in
theorem ml_stb {M : hpM} {G : hpG} {d : Nat} {h0 h : hpT} {m : Nat} (sh : mo_sh G h m) (C : hp_F M G yX6_stopsBelow cX6_stopsBelow 6 d h0) (hr : (hp_mt M).sig.returnType = none) {f n lv : Nat} {L : List Nat} (hd : 2 ≤ d) {X : String → hpT → Prop} {P : Option Value → hpT → Prop} : ∀ (j : Nat) (lo : Nat → Option Value) (H : hpT) (a : aS) (z : mrZ), MR h m H a z → a_lv f n L a → j ≤ L.length → (lv : Int) ≤ a_nd a 2 n + 1 → (a_ev (a_cR (a_ce false f) (L.take j).reverse a).2).length < 2 ^ 30 → lo 0 = some (.ref m) → lo 1 = some (.int (nI n)) → lo 2 = some (.int (nI lv)) → lo 3 = some (.int 0) → lo 4 = some (.int (nI j - 1)) → (∀ H' z', MR h m H' (a_cR (a_ce false f) (L.take j).reverse a).2 z' → (∀ i, i < lv → z'.1 i = z.1 i ∧ z'.2.1 i = z.2.1 i) → z'.2.2 = z.2.2 → P none H') → hp_V M G 6 (hp_Q M G h0 P X) H 10 lo [] := by
  intro j
  induction j with
  | zero =>
    intro lo H a z R X hj hlv hv e0 e1 e2 e3 e4 hP
    refine hp_iload C dX6_stopsBelow_10 e4 ?_
    refine hp_iload_n C dX6_stopsBelow_12 e3 ?_
    refine hp_icmp_lt (tgt := 56) C dX6_stopsBelow_13 (by decide) (fun _ => ?_) (fun z_9 => absurd (show (nI 0 - 1 : Int32) < 0 by decide) z_9)
    refine hp_vret C hr dX6_stopsBelow_56 ?_
    exact hP H z R (fun _ _ => ⟨rfl, rfl⟩) rfl
  | succ j ih =>
    intro lo H a z R X hj hlv hv e0 e1 e2 e3 e4 hP
    rw [nI_pred] at e4
    have T := X.1
    have hn := X.2.1
    have hn8 : n < 80 := Nat.lt_of_lt_of_le hn T.1.2
    have eL := X.2.2.2.2
    subst eL
    have hjl : j < (a_rw a n).length := by omega
    have hl79 := T.rl hn
    obtain ⟨hc, h9⟩ := X.c hjl
    have hc8 : (a_rw a n).getD j 0 < 80 := Nat.lt_of_lt_of_le hc T.1.2
    have r3 := T.r3 hc
    have hdc := (T.rc hn (k_rc T hn hjl)).2.2
    rw [k_tk hjl] at hv hP
    generalize hcc : (a_rw a n).getD j 0 = c at hc hc8 h9 r3 hdc hv hP
    refine hp_iload C dX6_stopsBelow_10 e4 ?_
    refine hp_iload_n C dX6_stopsBelow_12 e3 ?_
    refine hp_icmp_lt (tgt := 56) C dX6_stopsBelow_13 (by decide) (fun z_9 => absurd z_9 (nI_pos (by omega))) (fun _ => ?_)
    refine hp_aload_nR C dX6_stopsBelow_16 e0 ?_
    refine mr_A C sh R fl_X6_47_6 rfl (by decide) dX6_stopsBelow_17 ?_
    refine hp_bipush (v := 80) C dX6_stopsBelow_20 (by decide) ?_
    refine hp_iload_n C dX6_stopsBelow_22 e1 ?_
    refine hp_imul C dX6_stopsBelow_23 ?_
    refine hp_iload C dX6_stopsBelow_24 e4 ?_
    refine hp_iadd C dX6_stopsBelow_26 ?_
    refine mr_row C sh R hn8 hjl rfl dX6_stopsBelow_27 ?_
    rw [hcc]
    refine hp_istore C dX6_stopsBelow_28 (by decide) ?_
    refine hp_aload_nR C dX6_stopsBelow_30 e0 ?_
    refine mr_A C sh R fl_X6_20_6 rfl (by decide) dX6_stopsBelow_31 ?_
    refine hp_iload C dX6_stopsBelow_34 rfl ?_
    refine mr_nd C sh R 5 3 (by decide) (by decide) rfl hc8 dX6_stopsBelow_36 ?_
    refine hp_iconst (v := 1) C dX6_stopsBelow_37 (by decide) ?_
    refine hp_icmp_ne (tgt := 50) C dX6_stopsBelow_38 (by decide) (fun c_38 => ?_) (fun c_38 => ?_)
    · refine hp_iinc C dX6_stopsBelow_50 e4 (by decide) rfl ?_
      refine hp_goto (tgt := 10) C dX6_stopsBelow_53 (by decide) ?_
      have hu : ¬ a_nd a 3 c = 1 := fun e => c_38 (by rw [e]; decide)
      rw [a_cR_dn hu] at hv hP
      exact ih _ _ a z R X (by omega) hlv hv e0 e1 e2 e3 ((va_up_self _ _ _).trans (by rw [k_dec])) hP
    · have hu : a_nd a 3 c = 1 := (a_ofI_eq (x := a_nd a 3 c) (y := 1) (by omega) (by omega)).mp c_38
      rw [a_cR_up hu] at hv hP
      refine hp_aload_nR C dX6_stopsBelow_41 e0 ?_
      refine hp_iload C dX6_stopsBelow_42 rfl ?_
      refine hp_iload_n C dX6_stopsBelow_44 e2 ?_
      refine hp_iconst (v := 0) C dX6_stopsBelow_45 (by decide) ?_
      refine hp_callV (ci := 6) C ml_X6_92 im_X6_ceases se_X6_ceases rfl (by decide) (mc_cea (d := d - 1) (k := false) (f := f) (fr := lv) sh R T hc h9 (by omega) (Nat.lt_of_le_of_lt (a_cR_kp (a_ce_kp false f) _ _).ev hv) (by omega)) (by omega) dX6_stopsBelow_46 (R.o sh) rfl rfl (by simp [Value.category]) (fun v_46 h_46 hp => ?_) (fun _ _ hf => hf.elim)
      obtain ⟨rfl, z1, R_46, g1, g2⟩ := hp
      refine hp_pop C dX6_stopsBelow_49 rfl ?_
      refine hp_iinc C dX6_stopsBelow_50 e4 (by decide) rfl ?_
      refine hp_goto (tgt := 10) C dX6_stopsBelow_53 (by decide) ?_
      have kc := a_ce_kp false f c a
      exact ih _ _ _ z1 R_46 (X.kp kc) (by omega) (by rw [kc.nd]; exact hlv) hv e0 e1 e2 e3 ((va_up_self _ _ _).trans (by rw [k_dec])) (fun H' z' R' g3 g4 => hP H' z' R' (fun i hi => ⟨(g3 i hi).1.trans (g1 i hi).1, (g3 i hi).2.trans (g1 i hi).2⟩) (g4.trans g2))
set_option maxRecDepth 20000 in
set_option maxHeartbeats 4000000 in
theorem mc_stb {l : Launch} {G : hpG} {h H : hpT} {m d : Nat} {a : aS} {z : mrZ} (sh : mo_sh G h m) (R : MR h m H a z) {f n lv : Nat} (X : a_lv f n (a_rw a n) a) (hlv : (lv : Int) ≤ a_nd a 2 n + 1) (hv : (a_ev (a_cR (a_ce false f) (a_rw a n).reverse a).2).length < 2 ^ 30) (hd : 2 ≤ d) : hp_C l G yX6_stopsBelow (.code yX6_stopsBelow cX6_stopsBelow 6 none) d [.ref m, .int (nI n), .int (nI lv), .int 0] (H) (fun v h' => v = none ∧ ∃ z', MR h m h' (a_cR (a_ce false f) (a_rw a n).reverse a).2 z' ∧ (∀ i, i < lv → z'.1 i = z.1 i ∧ z'.2.1 i = z.2.1 i) ∧ z'.2.2 = z.2.2) (fun _ _ => False) := by
  have hn8 : n < 80 := Nat.lt_of_lt_of_le X.2.1 X.1.1.2
  refine hp_ofV (by decide) (by simp [Value.category]) (Nat.le_of_ble_eq_true rfl) (fun M C hr hx el => ?_)
  refine hp_aload_nR C dX6_stopsBelow_0 rfl ?_
  refine mr_A C sh R fl_X6_50_6 rfl (by decide) dX6_stopsBelow_1 ?_
  refine hp_iload_n C dX6_stopsBelow_4 rfl ?_
  refine mr_many C sh R hn8 dX6_stopsBelow_5 ?_
  refine hp_iconst (v := 1) C dX6_stopsBelow_6 (by decide) ?_
  refine hp_isub C dX6_stopsBelow_7 ?_
  refine hp_istore C dX6_stopsBelow_8 (by decide) ?_
  exact ml_stb sh C hr hd (a_rw a n).length _ H a z R X (Nat.le_refl _) hlv (by rw [List.take_length]; exact hv) rfl rfl rfl rfl rfl (fun H' z' R' g1 g2 => ⟨rfl, z', by rw [List.take_length] at R'; exact R', g1, g2⟩)
theorem ms_cs {M : hpM} {G : hpG} {y : MethodName} {cc : ByteArray} {nL d : Nat} {h0 h H : hpT} {Q : State → Prop} {pc : Nat} {lo : Nat → Option Value} {st : List Value} {m : Nat} {a : aS} {z : mrZ} {n : Nat} (C : hp_F M G y cc nL d h0) (x : mo_sh G h m) (R : MR h m H a z) (hn : n < 80) (d1 : decode cc pc = .ok (.iaload, 1)) (d2 : decode cc (pc + 1) = .ok (.iastore, 1)) (kk : ∀ H', MR h m H' a z → hp_V M G nL Q H' (pc + 2) lo st) : hp_V M G nL Q H pc lo (.int (nI n) :: .ref (mo_arr m 17) :: .int (nI n) :: .ref (mo_arr m 17) :: st) := by
  obtain ⟨s, rfl, r, r1, r2, r3⟩ := R
  refine mo_ald C x rfl (by decide) rfl d1 (nI_in hn (by decide)) ?_
  refine mo_ast C x rfl (by decide) d2 (nI_in hn (by decide)) ?_
  rw [nI_clamp (by omega)]
  have e : mo_up s 17 n (s.2 17 n) = s := by
    refine Prod.ext rfl (funext fun k => ?_)
    show va_up s.2 17 (va_up (s.2 17) n (s.2 17 n)) k = s.2 k
    by_cases e1 : k = 17
    · subst e1
      rw [va_up_self]
      funext i
      by_cases e2 : i = n
      · rw [e2, va_up_self]
      · rw [va_up_ne _ _ e2]
    · rw [va_up_ne _ _ e1]
  rw [e]
  exact kk _ ⟨s, rfl, r, r1, r2, r3⟩
theorem a_sn_self (a : aS) (f n : Nat) : a_sn a f n (a_nd a f n) = a := by
  have : va_up (a_nd a) f (va_up (a_nd a f) n (a_nd a f n)) = a_nd a := by
    funext g q
    by_cases e : g = f
    · subst e
      rw [va_up_self]
      by_cases e2 : q = n
      · rw [e2, va_up_self]
      · rw [va_up_ne _ _ e2]
    · rw [va_up_ne _ _ e]
  unfold a_sn
  rw [this]
set_option maxHeartbeats 4000000 in
theorem mo_staW {M : hpM} {G : hpG} {d : Nat} {h0 h : hpT} {m : Nat} {Q : State → Prop} (sh : mo_sh G h m) (C : hp_F M G yX6_starts cX6_starts 6 d h0) (hd : 3 ≤ d) {f : Nat} : ∀ (n lv : Nat) (lo : Nat → Option Value) (H : hpT) (a : aS) (z : mrZ), MR h m H a z → a_T a → a_W a → n < a_mk a → a_nd a 0 n = 0 → lv < 10 → (a_ev a).length < 2 ^ 30 → z.1 lv = nI n → lo 0 = some (.ref m) → lo 2 = some (.int (nI lv)) → lo 3 = some (.int (-1)) → (∀ (lo' : Nat → Option Value) (H' : hpT) (z' : mrZ), MR h m H' (a_go (f + 1) n a).2 z' → (∀ i, i < lv → z'.1 i = z.1 i ∧ z'.2.1 i = z.2.1 i) → z'.2.2 = z.2.2 → lo' 0 = some (.ref m) → lo' 2 = some (.int (nI lv - 1)) → lo' 3 = some (.int (if (a_go (f + 1) n a).1 = true then 1 else 0)) → hp_V M G 6 Q H' 18 lo' []) → hp_V M G 6 Q H 18 lo [] := by
  intro n lv lo H a z R T W hn hk hl10 hv zw e0 e2 e3 hP
  have hn8 : n < 80 := Nat.lt_of_lt_of_le hn T.1.2
  have r9 := T.r9 hn
  have r11 := T.r11 hn
  rw [a_go_w hk] at hP
  refine hp_iload_n C dX6_starts_18 e2 ?_
  refine hp_if_lt (tgt := 279) C dX6_starts_19 (by decide) (fun z_9 => absurd z_9 (nI_pos (by omega))) (fun _ => ?_)
  refine hp_aload_nR C dX6_starts_22 e0 ?_
  refine mr_A C sh R fl_X6_62_6 rfl (by decide) dX6_starts_23 ?_
  refine hp_iload_n C dX6_starts_26 e2 ?_
  refine mr_way C sh R hl10 zw dX6_starts_27 ?_
  refine hp_istore C dX6_starts_28 (by decide) ?_
  refine hp_iconst (v := 1) C dX6_starts_30 (by decide) ?_
  refine hp_istore C dX6_starts_31 (by decide) ?_
  refine hp_aload_nR C dX6_starts_33 e0 ?_
  refine mr_A C sh R fl_X6_7_6 rfl (by decide) dX6_starts_34 ?_
  refine hp_iload C dX6_starts_37 rfl ?_
  refine mr_kp C sh R hn8 dX6_starts_39 ?_
  refine hp_if_ne (tgt := 97) C dX6_starts_40 (by decide) (fun z_9 => absurd z_9 (fun z_8 => z_8 (show Int32.ofInt (a_nd a 0 n) = 0 by rw [hk]; decide))) (fun _ => ?_)
  refine hp_aload_nR C dX6_starts_43 e0 ?_
  refine hp_dup C dX6_starts_44 rfl ?_
  refine mr_S C sh R fl_X6_82_6 (Or.inr (Or.inr (Or.inl ⟨rfl, rfl⟩))) dX6_starts_45 ?_
  refine hp_aload_nR C dX6_starts_48 e0 ?_
  refine mr_A C sh R fl_X6_38_6 rfl (by decide) dX6_starts_49 ?_
  refine hp_iload C dX6_starts_52 rfl ?_
  refine mr_nd C sh R 11 9 (by decide) (by decide) rfl hn8 dX6_starts_54 ?_
  refine hp_iadd C dX6_starts_55 ?_
  refine ms_tm C sh R fl_X6_82_6 (a_tm a + (a_nd a 9 n).toNat) (Nat.le_add_right _ _) (by rw [a_ofN r9.1, nI_add]) dX6_starts_56 (fun H_56 R_56 => ?_)
  refine hp_aload_nR C dX6_starts_59 e0 ?_
  refine mr_A C sh R_56 fl_X6_44_6 rfl (by decide) dX6_starts_60 ?_
  refine hp_iload C dX6_starts_63 rfl ?_
  refine mr_nd C sh R_56 13 11 (by decide) (by decide) rfl hn8 dX6_starts_65 ?_
  refine hp_if_le (tgt := 73) C dX6_starts_66 (by decide) (fun c_66 => ?_) (fun c_66 => ?_)
  · have hp : ¬ 0 < a_nd a 11 n := by
      have := (a_ofI_le (x := a_nd a 11 n) (y := 0) (by omega) (by omega)).mp c_66
      omega
    rw [if_neg hp] at hP
    refine hp_iconst (v := 1) C dX6_starts_73 (by decide) ?_
    refine hp_istore_n C dX6_starts_74 (by decide) ?_
    refine hp_aload_nR C dX6_starts_75 e0 ?_
    refine mr_A C sh R_56 fl_X6_44_6 rfl (by decide) dX6_starts_76 ?_
    refine hp_iload C dX6_starts_79 rfl ?_
    refine hp_dup2 C dX6_starts_81 rfl rfl ?_
    refine mr_nd C sh R_56 13 11 (by decide) (by decide) rfl hn8 dX6_starts_82 ?_
    refine hp_iload_n C dX6_starts_83 rfl ?_
    refine hp_if_ne (tgt := 91) C dX6_starts_84 (by decide) (fun _ => ?_) (fun z_9 => absurd z_9 (by decide))
    refine hp_iconst (v := 0) C dX6_starts_91 (by decide) ?_
    refine hp_isub C dX6_starts_92 ?_
    refine ms_sn C sh R_56 13 11 (by decide) (by decide) (by decide) (by decide) rfl hn8 (a_nd a 11 n) (by omega) (Int32.sub_zero _) dX6_starts_93 (fun H_93 R_93 => ?_)
    refine hp_goto (tgt := 224) C dX6_starts_94 (by decide) ?_
    refine hp_iload C dX6_starts_224 rfl ?_
    refine hp_if_eq (tgt := 263) C dX6_starts_226 (by decide) (fun z_9 => absurd z_9 (by decide)) (fun _ => ?_)
    refine hp_aload_nR C dX6_starts_229 e0 ?_
    refine mr_A C sh R_93 fl_X6_20_6 rfl (by decide) dX6_starts_230 ?_
    refine hp_iload C dX6_starts_233 rfl ?_
    refine hp_iload_n C dX6_starts_235 rfl ?_
    refine hp_iconst (v := 1) C dX6_starts_236 (by decide) ?_
    refine hp_icmp_ne (tgt := 244) C dX6_starts_237 (by decide) (fun z_9 => absurd z_9 (by decide)) (fun _ => ?_)
    refine hp_iconst (v := 1) C dX6_starts_240 (by decide) ?_
    refine hp_goto (tgt := 245) C dX6_starts_241 (by decide) ?_
    refine ms_st C sh R_93 hn8 1 (by omega) (fun _ => W n hn hk) (by decide) dX6_starts_245 (fun H_245 R_245 => ?_)
    refine hp_aload_nR C dX6_starts_246 e0 ?_
    refine hp_iload_n C dX6_starts_247 rfl ?_
    refine hp_iconst (v := 1) C dX6_starts_248 (by decide) ?_
    refine hp_icmp_ne (tgt := 256) C dX6_starts_249 (by decide) (fun z_9 => absurd z_9 (by decide)) (fun _ => ?_)
    refine hp_iconst (v := 1) C dX6_starts_252 (by decide) ?_
    refine hp_goto (tgt := 257) C dX6_starts_253 (by decide) ?_
    refine hp_iload C dX6_starts_257 rfl ?_
    refine hp_iconst (v := 0) C dX6_starts_259 (by decide) ?_
    refine hp_callV (ci := 6) C ml_X6_89 im_X6_note se_X6_note rfl (by decide) (mc_note (d := d - 1) (w := 1) (n := n) (r := 0) sh R_245 hv) (by omega) dX6_starts_260 (R_245.o sh) rfl rfl (by simp [Value.category]) (fun v_260 h_260 hp => ?_) (fun _ _ hf => hf.elim)
    obtain ⟨rfl, R_260⟩ := hp
    refine hp_iload_n C dX6_starts_263 e2 ?_
    refine hp_iload C dX6_starts_264 rfl ?_
    refine hp_if_eq (tgt := 273) C dX6_starts_266 (by decide) (fun z_9 => absurd z_9 (by decide)) (fun _ => ?_)
    refine hp_iconst (v := (-1)) C dX6_starts_269 (by decide) ?_
    refine hp_goto (tgt := 274) C dX6_starts_270 (by decide) ?_
    refine hp_iadd C dX6_starts_274 ?_
    refine hp_istore_n C dX6_starts_275 (by decide) ?_
    refine hp_goto (tgt := 18) C dX6_starts_276 (by decide) ?_
    have es : a_sn (a_st a (a_tm a + (a_nd a 9 n).toNat)) 11 n (a_nd a 11 n) = a_st a (a_tm a + (a_nd a 9 n).toNat) := a_sn_self _ _ _
    rw [es] at R_260
    exact hP _ _ z R_260 (fun _ _ => ⟨rfl, rfl⟩) rfl e0 ((va_up_self _ _ _).trans (by rw [show (-1 : Int32) = Int32.ofInt (-1) by decide, k_dec])) rfl
  · have hp : 0 < a_nd a 11 n := by
      have := (not_congr (a_ofI_le (x := a_nd a 11 n) (y := 0) (by omega) (by omega))).mp c_66
      omega
    rw [if_pos hp] at hP
    refine hp_iconst (v := 0) C dX6_starts_69 (by decide) ?_
    refine hp_goto (tgt := 74) C dX6_starts_70 (by decide) ?_
    refine hp_istore_n C dX6_starts_74 (by decide) ?_
    refine hp_aload_nR C dX6_starts_75 e0 ?_
    refine mr_A C sh R_56 fl_X6_44_6 rfl (by decide) dX6_starts_76 ?_
    refine hp_iload C dX6_starts_79 rfl ?_
    refine hp_dup2 C dX6_starts_81 rfl rfl ?_
    refine mr_nd C sh R_56 13 11 (by decide) (by decide) rfl hn8 dX6_starts_82 ?_
    refine hp_iload_n C dX6_starts_83 rfl ?_
    refine hp_if_ne (tgt := 91) C dX6_starts_84 (by decide) (fun z_9 => absurd z_9 (by decide)) (fun _ => ?_)
    refine hp_iconst (v := 1) C dX6_starts_87 (by decide) ?_
    refine hp_goto (tgt := 92) C dX6_starts_88 (by decide) ?_
    refine hp_isub C dX6_starts_92 ?_
    refine ms_sn C sh R_56 13 11 (by decide) (by decide) (by decide) (by decide) rfl hn8 (a_nd a 11 n - 1) (by omega) (a_ofI_pred _) dX6_starts_93 (fun H_93 R_93 => ?_)
    refine hp_goto (tgt := 224) C dX6_starts_94 (by decide) ?_
    refine hp_iload C dX6_starts_224 rfl ?_
    refine hp_if_eq (tgt := 263) C dX6_starts_226 (by decide) (fun z_9 => absurd z_9 (by decide)) (fun _ => ?_)
    refine hp_aload_nR C dX6_starts_229 e0 ?_
    refine mr_A C sh R_93 fl_X6_20_6 rfl (by decide) dX6_starts_230 ?_
    refine hp_iload C dX6_starts_233 rfl ?_
    refine hp_iload_n C dX6_starts_235 rfl ?_
    refine hp_iconst (v := 1) C dX6_starts_236 (by decide) ?_
    refine hp_icmp_ne (tgt := 244) C dX6_starts_237 (by decide) (fun _ => ?_) (fun z_9 => absurd z_9 (by decide))
    refine hp_iconst (v := 0) C dX6_starts_244 (by decide) ?_
    refine ms_st C sh R_93 hn8 0 (by omega) (fun z_7 => by cases z_7) (by decide) dX6_starts_245 (fun H_245 R_245 => ?_)
    refine hp_aload_nR C dX6_starts_246 e0 ?_
    refine hp_iload_n C dX6_starts_247 rfl ?_
    refine hp_iconst (v := 1) C dX6_starts_248 (by decide) ?_
    refine hp_icmp_ne (tgt := 256) C dX6_starts_249 (by decide) (fun _ => ?_) (fun z_9 => absurd z_9 (by decide))
    refine hp_iconst (v := 2) C dX6_starts_256 (by decide) ?_
    refine hp_iload C dX6_starts_257 rfl ?_
    refine hp_iconst (v := 0) C dX6_starts_259 (by decide) ?_
    refine hp_callV (ci := 6) C ml_X6_89 im_X6_note se_X6_note rfl (by decide) (mc_note (d := d - 1) (w := 2) (n := n) (r := 0) sh R_245 hv) (by omega) dX6_starts_260 (R_245.o sh) rfl rfl (by simp [Value.category]) (fun v_260 h_260 hp => ?_) (fun _ _ hf => hf.elim)
    obtain ⟨rfl, R_260⟩ := hp
    refine hp_iload_n C dX6_starts_263 e2 ?_
    refine hp_iload C dX6_starts_264 rfl ?_
    refine hp_if_eq (tgt := 273) C dX6_starts_266 (by decide) (fun z_9 => absurd z_9 (by decide)) (fun _ => ?_)
    refine hp_iconst (v := (-1)) C dX6_starts_269 (by decide) ?_
    refine hp_goto (tgt := 274) C dX6_starts_270 (by decide) ?_
    refine hp_iadd C dX6_starts_274 ?_
    refine hp_istore_n C dX6_starts_275 (by decide) ?_
    refine hp_goto (tgt := 18) C dX6_starts_276 (by decide) ?_
    exact hP _ _ z R_260 (fun _ _ => ⟨rfl, rfl⟩) rfl e0 ((va_up_self _ _ _).trans (by rw [show (-1 : Int32) = Int32.ofInt (-1) by decide, k_dec])) rfl
/-- what becomes of a keeper's start, once its row is started (r: the first that failed) -/
def a_gf (f n : Nat) (L : List Nat) (r : Option Nat × aS) : Bool × aS := if r.1.isNone = true then (true, a_no (a_sn r.2 3 n 1) 1 n 0) else (false, a_no (a_sn (a_cR (a_ce false f) L.reverse r.2).2 3 n 0) 2 n 0)
theorem a_gf_ev (f n : Nat) (L : List Nat) (r : Option Nat × aS) : (a_ev r.2).length ≤ (a_ev (a_gf f n L r).2).length := by
  unfold a_gf
  split
  · exact (a_kp.no (a_sn r.2 3 n 1) 1 n 0).ev
  · exact Nat.le_trans (a_cR_kp (a_ce_kp false f) L.reverse r.2).ev (a_kp.no (a_sn (a_cR (a_ce false f) L.reverse r.2).2 3 n 0) 2 n 0).ev
set_option maxHeartbeats 4000000 in
theorem mo_staJ {M : hpM} {G : hpG} {d : Nat} {h0 h : hpT} {m : Nat} {Q : State → Prop} (sh : mo_sh G h m) (C : hp_F M G yX6_starts cX6_starts 6 d h0) (hd : 3 ≤ d) {f n : Nat} {L : List Nat} (hA : ∀ (c lv : Nat) (lo : Nat → Option Value) (H : hpT) (a : aS) (z : mrZ), MR h m H a z → a_T a → a_W a → c < a_mk a → (9 : Int) ≤ f + a_nd a 2 c → (lv : Int) ≤ a_nd a 2 c → (a_ev (a_go f c a).2).length < 2 ^ 30 → z.1 lv = nI c → z.2.1 lv = nI 0 → lo 0 = some (.ref m) → lo 2 = some (.int (nI lv)) → lo 3 = some (.int (-1)) → (∀ (lo' : Nat → Option Value) (H' : hpT) (z' : mrZ), MR h m H' (a_go f c a).2 z' → (∀ i, i < lv → z'.1 i = z.1 i ∧ z'.2.1 i = z.2.1 i) → z'.2.2 = z.2.2 → lo' 0 = some (.ref m) → lo' 2 = some (.int (nI lv - 1)) → lo' 3 = some (.int (if (a_go f c a).1 = true then 1 else 0)) → hp_V M G 6 Q H' 18 lo' []) → hp_V M G 6 Q H 18 lo []) : ∀ (k j lv : Nat) (lo : Nat → Option Value) (H : hpT) (a : aS) (z : mrZ), j + k = L.length → MR h m H a z → a_W a → a_lv f n L a → a_rt a n = [] → (lv : Int) ≤ a_nd a 2 n → (a_ev (a_gf f n L (a_sF (a_go f) (L.drop j) a)).2).length < 2 ^ 30 → z.1 lv = nI n → z.2.1 lv = nI j → lo 0 = some (.ref m) → lo 2 = some (.int (nI lv)) → lo 4 = some (.int (nI n)) → (∀ (lo' : Nat → Option Value) (H' : hpT) (z' : mrZ), MR h m H' (a_gf f n L (a_sF (a_go f) (L.drop j) a)).2 z' → (∀ i, i < lv → z'.1 i = z.1 i ∧ z'.2.1 i = z.2.1 i) → z'.2.2 = z.2.2 → lo' 0 = some (.ref m) → lo' 2 = some (.int (nI lv - 1)) → lo' 3 = some (.int (if (a_gf f n L (a_sF (a_go f) (L.drop j) a)).1 = true then 1 else 0)) → hp_V M G 6 Q H' 18 lo' []) → hp_V M G 6 Q H 141 lo [] := by
  intro k
  induction k with
  | zero =>
    intro j lv lo H a z hjk R W X hrt hlv hv zw zt e0 e2 e4 hP
    have T := X.1
    have hn := X.2.1
    have hk := X.2.2.1
    have hn8 : n < 80 := Nat.lt_of_lt_of_le hn T.1.2
    have r2 := T.r2 hn
    have hl10 : lv < 10 := by omega
    have hl79 := T.rl hn
    have eL := X.2.2.2.2
    subst eL
    have ej : (a_rw a n).drop j = [] := List.drop_eq_nil_of_le (by omega)
    rw [ej] at hv hP
    have hv0 : (a_ev a).length < 2 ^ 30 := Nat.lt_of_le_of_lt (a_gf_ev f n (a_rw a n) (a_sF (a_go f) [] a)) hv
    have ejl : j = (a_rw a n).length := by omega
    refine hp_aload_nR C dX6_starts_141 e0 ?_
    refine mr_A C sh R fl_X6_65_6 rfl (by decide) dX6_starts_142 ?_
    refine hp_iload_n C dX6_starts_145 e2 ?_
    refine mr_at C sh R hl10 zt dX6_starts_146 ?_
    refine hp_aload_nR C dX6_starts_147 e0 ?_
    refine mr_A C sh R fl_X6_50_6 rfl (by decide) dX6_starts_148 ?_
    refine hp_iload C dX6_starts_151 e4 ?_
    refine mr_many C sh R hn8 dX6_starts_153 ?_
    refine hp_icmp_ne (tgt := 161) C dX6_starts_154 (by decide) (fun z_9 => absurd z_9 (fun z_8 => z_8 (by rw [ejl]))) (fun _ => ?_)
    refine hp_iconst (v := 1) C dX6_starts_157 (by decide) ?_
    refine hp_goto (tgt := 162) C dX6_starts_158 (by decide) ?_
    refine hp_istore C dX6_starts_162 (by decide) ?_
    refine hp_iload C dX6_starts_164 rfl ?_
    refine hp_if_eq (tgt := 173) C dX6_starts_166 (by decide) (fun z_9 => absurd z_9 (by decide)) (fun _ => ?_)
    refine hp_iconst (v := 1) C dX6_starts_169 (by decide) ?_
    refine hp_goto (tgt := 174) C dX6_starts_170 (by decide) ?_
    refine hp_istore_n C dX6_starts_174 (by decide) ?_
    refine hp_iload C dX6_starts_175 rfl ?_
    refine hp_if_ne (tgt := 224) C dX6_starts_177 (by decide) (fun _ => ?_) (fun z_9 => absurd z_9 (by decide))
    refine hp_iload C dX6_starts_224 rfl ?_
    refine hp_if_eq (tgt := 263) C dX6_starts_226 (by decide) (fun z_9 => absurd z_9 (by decide)) (fun _ => ?_)
    refine hp_aload_nR C dX6_starts_229 e0 ?_
    refine mr_A C sh R fl_X6_20_6 rfl (by decide) dX6_starts_230 ?_
    refine hp_iload C dX6_starts_233 e4 ?_
    refine hp_iload_n C dX6_starts_235 rfl ?_
    refine hp_iconst (v := 1) C dX6_starts_236 (by decide) ?_
    refine hp_icmp_ne (tgt := 244) C dX6_starts_237 (by decide) (fun z_9 => absurd z_9 (by decide)) (fun _ => ?_)
    refine hp_iconst (v := 1) C dX6_starts_240 (by decide) ?_
    refine hp_goto (tgt := 245) C dX6_starts_241 (by decide) ?_
    refine ms_st C sh R hn8 1 (by omega) (fun _ => hrt) (by decide) dX6_starts_245 (fun H_245 R_245 => ?_)
    refine hp_aload_nR C dX6_starts_246 e0 ?_
    refine hp_iload_n C dX6_starts_247 rfl ?_
    refine hp_iconst (v := 1) C dX6_starts_248 (by decide) ?_
    refine hp_icmp_ne (tgt := 256) C dX6_starts_249 (by decide) (fun z_9 => absurd z_9 (by decide)) (fun _ => ?_)
    refine hp_iconst (v := 1) C dX6_starts_252 (by decide) ?_
    refine hp_goto (tgt := 257) C dX6_starts_253 (by decide) ?_
    refine hp_iload C dX6_starts_257 e4 ?_
    refine hp_iconst (v := 0) C dX6_starts_259 (by decide) ?_
    refine hp_callV (ci := 6) C ml_X6_89 im_X6_note se_X6_note rfl (by decide) (mc_note (d := d - 1) (w := 1) (n := n) (r := 0) sh R_245 hv0) (by omega) dX6_starts_260 (R_245.o sh) rfl rfl (by simp [Value.category]) (fun v_260 h_260 hp => ?_) (fun _ _ hf => hf.elim)
    obtain ⟨rfl, R_260⟩ := hp
    refine hp_iload_n C dX6_starts_263 e2 ?_
    refine hp_iload C dX6_starts_264 rfl ?_
    refine hp_if_eq (tgt := 273) C dX6_starts_266 (by decide) (fun z_9 => absurd z_9 (by decide)) (fun _ => ?_)
    refine hp_iconst (v := (-1)) C dX6_starts_269 (by decide) ?_
    refine hp_goto (tgt := 274) C dX6_starts_270 (by decide) ?_
    refine hp_iadd C dX6_starts_274 ?_
    refine hp_istore_n C dX6_starts_275 (by decide) ?_
    refine hp_goto (tgt := 18) C dX6_starts_276 (by decide) ?_
    exact hP _ _ z R_260 (fun _ _ => ⟨rfl, rfl⟩) rfl e0 ((va_up_self _ _ _).trans (by rw [show (-1 : Int32) = Int32.ofInt (-1) by decide, k_dec])) rfl
  | succ k ih =>
    intro j lv lo H a z hjk R W X hrt hlv hv zw zt e0 e2 e4 hP
    have T := X.1
    have hn := X.2.1
    have hk := X.2.2.1
    have hn8 : n < 80 := Nat.lt_of_lt_of_le hn T.1.2
    have r2 := T.r2 hn
    have hl10 : lv < 10 := by omega
    have hl79 := T.rl hn
    have eL := X.2.2.2.2
    subst eL
    have hjl : j < (a_rw a n).length := by omega
    obtain ⟨hc, h9⟩ := X.c hjl
    have hdc := (T.rc hn (k_rc T hn hjl)).2.2
    rw [k_dp hjl] at hv hP
    generalize hcc : (a_rw a n).getD j 0 = c at hc h9 hdc hv hP
    have kg := a_go_kp f c a
    have hvg : (a_ev (a_go f c a).2).length < 2 ^ 30 := by
      refine Nat.lt_of_le_of_lt (Nat.le_trans ?_ (a_gf_ev f n (a_rw a n) _)) hv
      by_cases g : (a_go f c a).1 = true
      · rw [a_sF_ok g]
        exact (a_sF_kp (a_go_kp f) _ _).ev
      · rw [a_sF_no g]
        exact Nat.le_refl _
    refine hp_aload_nR C dX6_starts_141 e0 ?_
    refine mr_A C sh R fl_X6_65_6 rfl (by decide) dX6_starts_142 ?_
    refine hp_iload_n C dX6_starts_145 e2 ?_
    refine mr_at C sh R hl10 zt dX6_starts_146 ?_
    refine hp_aload_nR C dX6_starts_147 e0 ?_
    refine mr_A C sh R fl_X6_50_6 rfl (by decide) dX6_starts_148 ?_
    refine hp_iload C dX6_starts_151 e4 ?_
    refine mr_many C sh R hn8 dX6_starts_153 ?_
    refine hp_icmp_ne (tgt := 161) C dX6_starts_154 (by decide) (fun _ => ?_) (fun z_9 => absurd z_9 (fun z_8 => absurd ((nI_eq (by omega) (by omega)).mp z_8) (by omega)))
    refine hp_iconst (v := 0) C dX6_starts_161 (by decide) ?_
    refine hp_istore C dX6_starts_162 (by decide) ?_
    refine hp_iload C dX6_starts_164 rfl ?_
    refine hp_if_eq (tgt := 173) C dX6_starts_166 (by decide) (fun _ => ?_) (fun z_9 => absurd z_9 (by decide))
    refine hp_iconst (v := (-1)) C dX6_starts_173 (by decide) ?_
    refine hp_istore_n C dX6_starts_174 (by decide) ?_
    refine hp_iload C dX6_starts_175 rfl ?_
    refine hp_if_ne (tgt := 224) C dX6_starts_177 (by decide) (fun z_9 => absurd z_9 (by decide)) (fun _ => ?_)
    refine hp_aload_nR C dX6_starts_180 e0 ?_
    refine mr_A C sh R fl_X6_62_6 rfl (by decide) dX6_starts_181 ?_
    refine hp_iload_n C dX6_starts_184 e2 ?_
    refine hp_iconst (v := 1) C dX6_starts_185 (by decide) ?_
    refine hp_iadd C dX6_starts_186 ?_
    rw [nI_1]
    refine hp_aload_nR C dX6_starts_187 e0 ?_
    refine mr_A C sh R fl_X6_47_6 rfl (by decide) dX6_starts_188 ?_
    refine hp_bipush (v := 80) C dX6_starts_191 (by decide) ?_
    refine hp_iload C dX6_starts_193 e4 ?_
    refine hp_imul C dX6_starts_195 ?_
    refine hp_aload_nR C dX6_starts_196 e0 ?_
    refine mr_A C sh R fl_X6_65_6 rfl (by decide) dX6_starts_197 ?_
    refine hp_iload_n C dX6_starts_200 e2 ?_
    refine mr_at C sh R hl10 zt dX6_starts_201 ?_
    refine hp_iadd C dX6_starts_202 ?_
    refine mr_row C sh R hn8 hjl rfl dX6_starts_203 ?_
    rw [hcc]
    refine ms_way C sh R (show lv + 1 < 10 by omega) dX6_starts_204 (fun H_204 R_204 => ?_)
    refine hp_aload_nR C dX6_starts_205 e0 ?_
    refine mr_A C sh R_204 fl_X6_65_6 rfl (by decide) dX6_starts_206 ?_
    refine hp_iload_n C dX6_starts_209 e2 ?_
    refine hp_iconst (v := 1) C dX6_starts_210 (by decide) ?_
    refine hp_iadd C dX6_starts_211 ?_
    rw [nI_1]
    refine hp_iconst (v := 0) C dX6_starts_212 (by decide) ?_
    refine ms_at C sh R_204 (show lv + 1 < 10 by omega) dX6_starts_213 (fun H_213 R_213 => ?_)
    refine hp_aload_nR C dX6_starts_214 e0 ?_
    refine mr_A C sh R_213 fl_X6_65_6 rfl (by decide) dX6_starts_215 ?_
    refine hp_iload_n C dX6_starts_218 e2 ?_
    refine hp_dup2 C dX6_starts_219 rfl rfl ?_
    refine mr_at C sh R_213 hl10 ((va_up_ne _ _ (by omega)).trans zt) dX6_starts_220 ?_
    refine hp_iconst (v := 1) C dX6_starts_221 (by decide) ?_
    refine hp_iadd C dX6_starts_222 ?_
    rw [nI_1]
    refine ms_at C sh R_213 hl10 dX6_starts_223 (fun H_223 R_223 => ?_)
    refine hp_iload C dX6_starts_224 rfl ?_
    refine hp_if_eq (tgt := 263) C dX6_starts_226 (by decide) (fun _ => ?_) (fun z_9 => absurd z_9 (by decide))
    refine hp_iload_n C dX6_starts_263 e2 ?_
    refine hp_iload C dX6_starts_264 rfl ?_
    refine hp_if_eq (tgt := 273) C dX6_starts_266 (by decide) (fun _ => ?_) (fun z_9 => absurd z_9 (by decide))
    refine hp_iconst (v := 1) C dX6_starts_273 (by decide) ?_
    refine hp_iadd C dX6_starts_274 ?_
    refine hp_istore_n C dX6_starts_275 (by decide) ?_
    refine hp_goto (tgt := 18) C dX6_starts_276 (by decide) ?_
    refine hA c (lv + 1) _ _ a _ R_223 T W hc h9 (by omega) hvg (va_up_self _ _ _) ((va_up_ne _ _ (by omega)).trans (va_up_self _ _ _)) e0 ((va_up_self _ _ _).trans (by rw [nI_1])) rfl (fun lo1 H1 z1 R1 g1 g2 f0 f2 f3 => ?_)
    rw [nI_pred] at f2
    have w1 : z1.1 lv = nI n := (g1 lv (by omega)).1.trans ((va_up_ne _ _ (by omega)).trans zw)
    have t1 : z1.2.1 lv = nI (j + 1) := (g1 lv (by omega)).2.trans (va_up_self _ _ _)
    have X1 := X.kp kg
    have W1 := W.k kg (a_go_rtk f c a)
    have hrt1 := (a_go_rtk f c a).nil hrt
    have hk1 : a_nd (a_go f c a).2 0 n = 1 := X1.2.2.1
    by_cases g : (a_go f c a).1 = true
    · rw [if_pos g] at f3
      rw [a_sF_ok g] at hv hP
      refine hp_iload_n C dX6_starts_18 f2 ?_
      refine hp_if_lt (tgt := 279) C dX6_starts_19 (by decide) (fun z_9 => absurd z_9 (nI_pos (by omega))) (fun _ => ?_)
      refine hp_aload_nR C dX6_starts_22 f0 ?_
      refine mr_A C sh R1 fl_X6_62_6 rfl (by decide) dX6_starts_23 ?_
      refine hp_iload_n C dX6_starts_26 f2 ?_
      refine mr_way C sh R1 hl10 w1 dX6_starts_27 ?_
      refine hp_istore C dX6_starts_28 (by decide) ?_
      refine hp_iconst (v := 1) C dX6_starts_30 (by decide) ?_
      refine hp_istore C dX6_starts_31 (by decide) ?_
      refine hp_aload_nR C dX6_starts_33 f0 ?_
      refine mr_A C sh R1 fl_X6_7_6 rfl (by decide) dX6_starts_34 ?_
      refine hp_iload C dX6_starts_37 rfl ?_
      refine mr_kp C sh R1 hn8 dX6_starts_39 ?_
      refine hp_if_ne (tgt := 97) C dX6_starts_40 (by decide) (fun _ => ?_) (fun z_9 => absurd z_9 (show ¬ Int32.ofInt (a_nd (a_go f c a).2 0 n) = 0 by rw [hk1]; decide))
      refine hp_iload_n C dX6_starts_97 f3 ?_
      refine hp_if_ne (tgt := 114) C dX6_starts_98 (by decide) (fun _ => ?_) (fun z_9 => absurd z_9 (by decide))
      refine hp_aload_nR C dX6_starts_114 f0 ?_
      refine mr_A C sh R1 fl_X6_56_6 rfl (by decide) dX6_starts_115 ?_
      refine hp_iload C dX6_starts_118 rfl ?_
      refine hp_aload_nR C dX6_starts_120 f0 ?_
      refine mr_A C sh R1 fl_X6_65_6 rfl (by decide) dX6_starts_121 ?_
      refine hp_iload_n C dX6_starts_124 f2 ?_
      refine mr_at C sh R1 hl10 t1 dX6_starts_125 ?_
      refine hp_if_ne (tgt := 133) C dX6_starts_126 (by decide) (fun _ => ?_) (fun z_9 => absurd z_9 (nI_ne0 (by omega) (by omega)))
      refine hp_aload_nR C dX6_starts_133 f0 ?_
      refine mr_A C sh R1 fl_X6_56_6 rfl (by decide) dX6_starts_134 ?_
      refine hp_iload C dX6_starts_137 rfl ?_
      refine ms_cs C sh R1 hn8 dX6_starts_139 dX6_starts_140 (fun H_139 R_139 => ?_)
      exact ih (j + 1) lv _ _ _ z1 (by omega) R_139 W1 X1 hrt1 (by rw [kg.nd]; exact hlv) hv w1 t1 f0 f2 rfl (fun lo' H' z' R' g3 g4 => hP lo' H' z' R' (fun i hi => ⟨(g3 i hi).1.trans ((g1 i (by omega)).1.trans (va_up_ne _ _ (by omega))), (g3 i hi).2.trans ((g1 i (by omega)).2.trans ((va_up_ne _ _ (by omega)).trans (va_up_ne _ _ (by omega))))⟩) (g4.trans g2))
    · rw [if_neg g] at f3
      rw [a_sF_no g] at hv hP
      have hv2 : (a_ev (a_cR (a_ce false f) (a_rw a n).reverse (a_go f c a).2).2).length < 2 ^ 30 := Nat.lt_of_le_of_lt (a_kp.no (a_sn (a_cR (a_ce false f) (a_rw a n).reverse (a_go f c a).2).2 3 n 0) 2 n 0).ev hv
      have eR : a_rw (a_go f c a).2 n = a_rw a n := congrFun kg.rw' n
      refine hp_iload_n C dX6_starts_18 f2 ?_
      refine hp_if_lt (tgt := 279) C dX6_starts_19 (by decide) (fun z_9 => absurd z_9 (nI_pos (by omega))) (fun _ => ?_)
      refine hp_aload_nR C dX6_starts_22 f0 ?_
      refine mr_A C sh R1 fl_X6_62_6 rfl (by decide) dX6_starts_23 ?_
      refine hp_iload_n C dX6_starts_26 f2 ?_
      refine mr_way C sh R1 hl10 w1 dX6_starts_27 ?_
      refine hp_istore C dX6_starts_28 (by decide) ?_
      refine hp_iconst (v := 1) C dX6_starts_30 (by decide) ?_
      refine hp_istore C dX6_starts_31 (by decide) ?_
      refine hp_aload_nR C dX6_starts_33 f0 ?_
      refine mr_A C sh R1 fl_X6_7_6 rfl (by decide) dX6_starts_34 ?_
      refine hp_iload C dX6_starts_37 rfl ?_
      refine mr_kp C sh R1 hn8 dX6_starts_39 ?_
      refine hp_if_ne (tgt := 97) C dX6_starts_40 (by decide) (fun _ => ?_) (fun z_9 => absurd z_9 (show ¬ Int32.ofInt (a_nd (a_go f c a).2 0 n) = 0 by rw [hk1]; decide))
      refine hp_iload_n C dX6_starts_97 f3 ?_
      refine hp_if_ne (tgt := 114) C dX6_starts_98 (by decide) (fun z_9 => absurd z_9 (by decide)) (fun _ => ?_)
      refine hp_aload_nR C dX6_starts_101 f0 ?_
      refine hp_iload C dX6_starts_102 rfl ?_
      refine hp_iload_n C dX6_starts_104 f2 ?_
      refine hp_iconst (v := 1) C dX6_starts_105 (by decide) ?_
      refine hp_iadd C dX6_starts_106 ?_
      rw [nI_1]
      refine hp_iconst (v := 0) C dX6_starts_107 (by decide) ?_
      refine hp_callV (ci := 6) C ml_X6_85 im_X6_stopsBelow se_X6_stopsBelow rfl (by decide) (mc_stb (d := d - 1) (f := f) (n := n) (lv := lv + 1) sh R1 (by rw [eR]; exact X1) (by rw [kg.nd]; omega) (by rw [eR]; exact hv2) (by omega)) (by omega) dX6_starts_108 (R1.o sh) rfl rfl (by simp [Value.category]) (fun v_108 h_108 hp => ?_) (fun _ _ hf => hf.elim)
      rw [eR] at hp
      obtain ⟨rfl, z2, R_108, g3, g4⟩ := hp
      refine hp_goto (tgt := 224) C dX6_starts_111 (by decide) ?_
      refine hp_iload C dX6_starts_224 rfl ?_
      refine hp_if_eq (tgt := 263) C dX6_starts_226 (by decide) (fun z_9 => absurd z_9 (by decide)) (fun _ => ?_)
      refine hp_aload_nR C dX6_starts_229 f0 ?_
      refine mr_A C sh R_108 fl_X6_20_6 rfl (by decide) dX6_starts_230 ?_
      refine hp_iload C dX6_starts_233 rfl ?_
      refine hp_iload_n C dX6_starts_235 f3 ?_
      refine hp_iconst (v := 1) C dX6_starts_236 (by decide) ?_
      refine hp_icmp_ne (tgt := 244) C dX6_starts_237 (by decide) (fun _ => ?_) (fun z_9 => absurd z_9 (by decide))
      refine hp_iconst (v := 0) C dX6_starts_244 (by decide) ?_
      refine ms_st C sh R_108 hn8 0 (by omega) (fun z_7 => by cases z_7) (by decide) dX6_starts_245 (fun H_245 R_245 => ?_)
      refine hp_aload_nR C dX6_starts_246 f0 ?_
      refine hp_iload_n C dX6_starts_247 f3 ?_
      refine hp_iconst (v := 1) C dX6_starts_248 (by decide) ?_
      refine hp_icmp_ne (tgt := 256) C dX6_starts_249 (by decide) (fun _ => ?_) (fun z_9 => absurd z_9 (by decide))
      refine hp_iconst (v := 2) C dX6_starts_256 (by decide) ?_
      refine hp_iload C dX6_starts_257 rfl ?_
      refine hp_iconst (v := 0) C dX6_starts_259 (by decide) ?_
      refine hp_callV (ci := 6) C ml_X6_89 im_X6_note se_X6_note rfl (by decide) (mc_note (d := d - 1) (w := 2) (n := n) (r := 0) sh R_245 hv2) (by omega) dX6_starts_260 (R_245.o sh) rfl rfl (by simp [Value.category]) (fun v_260 h_260 hp => ?_) (fun _ _ hf => hf.elim)
      obtain ⟨rfl, R_260⟩ := hp
      refine hp_iload_n C dX6_starts_263 f2 ?_
      refine hp_iload C dX6_starts_264 rfl ?_
      refine hp_if_eq (tgt := 273) C dX6_starts_266 (by decide) (fun z_9 => absurd z_9 (by decide)) (fun _ => ?_)
      refine hp_iconst (v := (-1)) C dX6_starts_269 (by decide) ?_
      refine hp_goto (tgt := 274) C dX6_starts_270 (by decide) ?_
      refine hp_iadd C dX6_starts_274 ?_
      refine hp_istore_n C dX6_starts_275 (by decide) ?_
      refine hp_goto (tgt := 18) C dX6_starts_276 (by decide) ?_
      exact hP _ _ z2 R_260 (fun i hi => ⟨(g3 i (by omega)).1.trans ((g1 i (by omega)).1.trans (va_up_ne _ _ (by omega))), (g3 i (by omega)).2.trans ((g1 i (by omega)).2.trans ((va_up_ne _ _ (by omega)).trans (va_up_ne _ _ (by omega))))⟩) (g4.trans g2) f0 ((va_up_self _ _ _).trans (by rw [show (-1 : Int32) = Int32.ofInt (-1) by decide, k_dec])) f3
set_option maxHeartbeats 4000000 in
theorem mo_staA {M : hpM} {G : hpG} {d : Nat} {h0 h : hpT} {m : Nat} {Q : State → Prop} (sh : mo_sh G h m) (C : hp_F M G yX6_starts cX6_starts 6 d h0) (hd : 3 ≤ d) : ∀ (f : Nat), ∀ (n lv : Nat) (lo : Nat → Option Value) (H : hpT) (a : aS) (z : mrZ), MR h m H a z → a_T a → a_W a → n < a_mk a → (9 : Int) ≤ f + a_nd a 2 n → (lv : Int) ≤ a_nd a 2 n → (a_ev (a_go f n a).2).length < 2 ^ 30 → z.1 lv = nI n → z.2.1 lv = nI 0 → lo 0 = some (.ref m) → lo 2 = some (.int (nI lv)) → lo 3 = some (.int (-1)) → (∀ (lo' : Nat → Option Value) (H' : hpT) (z' : mrZ), MR h m H' (a_go f n a).2 z' → (∀ i, i < lv → z'.1 i = z.1 i ∧ z'.2.1 i = z.2.1 i) → z'.2.2 = z.2.2 → lo' 0 = some (.ref m) → lo' 2 = some (.int (nI lv - 1)) → lo' 3 = some (.int (if (a_go f n a).1 = true then 1 else 0)) → hp_V M G 6 Q H' 18 lo' []) → hp_V M G 6 Q H 18 lo [] := by
  intro f
  induction f with
  | zero =>
    intro n lv lo H a z R T W hn h9
    have := (T.r2 hn).2
    omega
  | succ f ih =>
    intro n lv lo H a z R T W hn h9 hlv hv zw zt e0 e2 e3 hP
    have hn8 : n < 80 := Nat.lt_of_lt_of_le hn T.1.2
    have r2 := T.r2 hn
    have hl10 : lv < 10 := by omega
    rcases T.kb hn with hk | hk
    · exact mo_staW sh C hd n lv lo H a z R T W hn hk hl10 (Nat.lt_of_le_of_lt (a_go_kp (f + 1) n a).ev hv) zw e0 e2 e3 hP
    · have eg : a_go (f + 1) n a = a_gf f n (a_rw a n) (a_sF (a_go f) ((a_rw a n).drop 0) (a_srt a n [])) := a_go_k hk
      rw [eg] at hv hP
      have k0 := a_kp.srt a n []
      have X0 : a_lv f n (a_rw a n) (a_srt a n []) := ⟨T, hn, hk, by show (8 : Int) ≤ f + a_nd a 2 n; omega, rfl⟩
      refine hp_iload_n C dX6_starts_18 e2 ?_
      refine hp_if_lt (tgt := 279) C dX6_starts_19 (by decide) (fun z_9 => absurd z_9 (nI_pos (by omega))) (fun _ => ?_)
      refine hp_aload_nR C dX6_starts_22 e0 ?_
      refine mr_A C sh R fl_X6_62_6 rfl (by decide) dX6_starts_23 ?_
      refine hp_iload_n C dX6_starts_26 e2 ?_
      refine mr_way C sh R hl10 zw dX6_starts_27 ?_
      refine hp_istore C dX6_starts_28 (by decide) ?_
      refine hp_iconst (v := 1) C dX6_starts_30 (by decide) ?_
      refine hp_istore C dX6_starts_31 (by decide) ?_
      refine hp_aload_nR C dX6_starts_33 e0 ?_
      refine mr_A C sh R fl_X6_7_6 rfl (by decide) dX6_starts_34 ?_
      refine hp_iload C dX6_starts_37 rfl ?_
      refine mr_kp C sh R hn8 dX6_starts_39 ?_
      refine hp_if_ne (tgt := 97) C dX6_starts_40 (by decide) (fun _ => ?_) (fun z_9 => absurd z_9 (show ¬ Int32.ofInt (a_nd a 0 n) = 0 by rw [hk]; decide))
      refine hp_iload_n C dX6_starts_97 e3 ?_
      refine hp_if_ne (tgt := 114) C dX6_starts_98 (by decide) (fun _ => ?_) (fun z_9 => absurd z_9 (by decide))
      refine hp_aload_nR C dX6_starts_114 e0 ?_
      refine mr_A C sh R fl_X6_56_6 rfl (by decide) dX6_starts_115 ?_
      refine hp_iload C dX6_starts_118 rfl ?_
      refine hp_aload_nR C dX6_starts_120 e0 ?_
      refine mr_A C sh R fl_X6_65_6 rfl (by decide) dX6_starts_121 ?_
      refine hp_iload_n C dX6_starts_124 e2 ?_
      refine mr_at C sh R hl10 zt dX6_starts_125 ?_
      refine hp_if_ne (tgt := 133) C dX6_starts_126 (by decide) (fun z_9 => absurd z_9 (fun z_8 => z_8 (show nI 0 = 0 by decide))) (fun _ => ?_)
      refine hp_iconst (v := 0) C dX6_starts_129 (by decide) ?_
      refine hp_goto (tgt := 140) C dX6_starts_130 (by decide) ?_
      refine ms_c0 C sh R hn8 dX6_starts_140 (fun H_140 R_140 => ?_)
      exact mo_staJ sh C hd (fun c lv lo H a z => ih c lv lo H a z) (a_rw a n).length 0 lv _ _ _ z (by omega) R_140 (W.k k0 (a_srt_rtk a n)) X0 (va_up_self _ _ _) hlv hv zw zt e0 e2 rfl hP
set_option maxRecDepth 20000 in
set_option maxHeartbeats 4000000 in
theorem mc_sta {l : Launch} {G : hpG} {h H : hpT} {m d : Nat} {a : aS} {z : mrZ} (sh : mo_sh G h m) (R : MR h m H a z) (T : a_T a) (W : a_W a) {n f : Nat} (hn : n < a_mk a) (h9 : (9 : Int) ≤ f + a_nd a 2 n) (hv : (a_ev (a_go f n a).2).length < 2 ^ 30) (hd : 3 ≤ d) : hp_C l G yX6_starts (.code yX6_starts cX6_starts 6 (some .boolean)) d [.ref m, .int (nI n)] (H) (fun v h' => v = some (.int (if (a_go f n a).1 = true then 1 else 0)) ∧ ∃ z', MR h m h' (a_go f n a).2 z' ∧ z'.2.2 = z.2.2) (fun _ _ => False) := by
  have hn8 : n < 80 := Nat.lt_of_lt_of_le hn T.1.2
  have r2 := T.r2 hn
  refine hp_ofV (by decide) (by simp [Value.category]) (Nat.le_of_ble_eq_true rfl) (fun M C hr hx el => ?_)
  refine hp_iconst (v := 0) C dX6_starts_0 (by decide) ?_
  refine hp_istore_n C dX6_starts_1 (by decide) ?_
  refine hp_aload_nR C dX6_starts_2 rfl ?_
  refine mr_A C sh R fl_X6_62_6 rfl (by decide) dX6_starts_3 ?_
  refine hp_iconst (v := 0) C dX6_starts_6 (by decide) ?_
  refine hp_iload_n C dX6_starts_7 rfl ?_
  refine ms_way C sh R (show 0 < 10 by decide) dX6_starts_8 (fun H_8 R_8 => ?_)
  refine hp_aload_nR C dX6_starts_9 rfl ?_
  refine mr_A C sh R_8 fl_X6_65_6 rfl (by decide) dX6_starts_10 ?_
  refine hp_iconst (v := 0) C dX6_starts_13 (by decide) ?_
  refine hp_iconst (v := 0) C dX6_starts_14 (by decide) ?_
  refine ms_at C sh R_8 (show 0 < 10 by decide) dX6_starts_15 (fun H_15 R_15 => ?_)
  refine hp_iconst (v := (-1)) C dX6_starts_16 (by decide) ?_
  refine hp_istore_n C dX6_starts_17 (by decide) ?_
  refine mo_staA sh C hd f n 0 _ _ a _ R_15 T W hn h9 (by omega) hv (show va_up z.1 0 (nI n) 0 = nI n from va_up_self _ _ _) (show va_up z.2.1 0 0 0 = nI 0 from (va_up_self _ _ _).trans nI_0.symm) rfl rfl rfl (fun lo' H' z' R' g1 g2 q0 q2 q3 => ?_)
  cases hg : (a_go f n a).1 with
  | true =>
    rw [hg] at q3
    refine hp_iload_n C dX6_starts_18 q2 ?_
    refine hp_if_lt (tgt := 279) C dX6_starts_19 (by decide) (fun _ => ?_) (fun z_9 => absurd (show (nI 0 - 1 : Int32) < 0 by decide) z_9)
    refine hp_iload_n C dX6_starts_279 q3 ?_
    refine hp_iconst (v := 1) C dX6_starts_280 (by decide) ?_
    refine hp_icmp_ne (tgt := 288) C dX6_starts_281 (by decide) (fun z_9 => absurd z_9 (by decide)) (fun _ => ?_)
    refine hp_iconst (v := 1) C dX6_starts_284 (by decide) ?_
    refine hp_goto (tgt := 289) C dX6_starts_285 (by decide) ?_
    refine hp_iret C hr (by decide) dX6_starts_289 ?_
    exact ⟨rfl, z', R', g2⟩
  | false =>
    rw [hg] at q3
    refine hp_iload_n C dX6_starts_18 q2 ?_
    refine hp_if_lt (tgt := 279) C dX6_starts_19 (by decide) (fun _ => ?_) (fun z_9 => absurd (show (nI 0 - 1 : Int32) < 0 by decide) z_9)
    refine hp_iload_n C dX6_starts_279 q3 ?_
    refine hp_iconst (v := 1) C dX6_starts_280 (by decide) ?_
    refine hp_icmp_ne (tgt := 288) C dX6_starts_281 (by decide) (fun _ => ?_) (fun z_9 => absurd z_9 (by decide))
    refine hp_iconst (v := 0) C dX6_starts_288 (by decide) ?_
    refine hp_iret C hr (by decide) dX6_starts_289 ?_
    exact ⟨rfl, z', R', g2⟩
