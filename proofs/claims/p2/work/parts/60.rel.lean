/-! ===== dismiss, release, giveUp ===== -/
/-- b comes of a: rows may lose nodes -/
def a_k2 (a b : aS) : Prop := a_mk b = a_mk a ∧ (∀ f, f ≠ 3 → f ≠ 11 → a_nd b f = a_nd a f) ∧ a_tm a ≤ a_tm b ∧ (a_ev a).length ≤ (a_ev b).length ∧ a_rs b = a_rs a ∧ a_gv b = a_gv a ∧ (a_T a → a_T b) ∧ (a_A a → a_A b)
theorem a_kp.k2 {a b : aS} (x : a_kp a b) : a_k2 a b := ⟨x.1, x.2.2⟩
theorem a_k2.rf (a : aS) : a_k2 a a := (a_kp.rf a).k2
theorem a_k2.tr {a b c : aS} (x : a_k2 a b) (y : a_k2 b c) : a_k2 a c := ⟨y.1.trans x.1, fun f h1 h2 => (y.2.1 f h1 h2).trans (x.2.1 f h1 h2), Nat.le_trans x.2.2.1 y.2.2.1, Nat.le_trans x.2.2.2.1 y.2.2.2.1, y.2.2.2.2.1.trans x.2.2.2.2.1, y.2.2.2.2.2.1.trans x.2.2.2.2.2.1, fun t => y.2.2.2.2.2.2.1 (x.2.2.2.2.2.2.1 t), fun t => y.2.2.2.2.2.2.2 (x.2.2.2.2.2.2.2 t)⟩
theorem a_k2.mk {a b : aS} (x : a_k2 a b) : a_mk b = a_mk a := x.1
theorem a_k2.nd {a b : aS} (x : a_k2 a b) {f n : Nat} (h1 : f ≠ 3 := by decide) (h2 : f ≠ 11 := by decide) : a_nd b f n = a_nd a f n := congrFun (x.2.1 f h1 h2) n
theorem a_k2.tm {a b : aS} (x : a_k2 a b) : a_tm a ≤ a_tm b := x.2.2.1
theorem a_k2.ev {a b : aS} (x : a_k2 a b) : (a_ev a).length ≤ (a_ev b).length := x.2.2.2.1
theorem a_k2.rs {a b : aS} (x : a_k2 a b) : a_rs b = a_rs a := x.2.2.2.2.1
theorem a_k2.T {a b : aS} (x : a_k2 a b) (t : a_T a) : a_T b := x.2.2.2.2.2.2.1 t
theorem a_k2.A {a b : aS} (x : a_k2 a b) (t : a_A a) : a_A b := x.2.2.2.2.2.2.2 t
theorem a_k2.gv {a b : aS} (x : a_k2 a b) : a_gv b = a_gv a := x.2.2.2.2.2.1
theorem a_k2.er (a : aS) (p t : Nat) : a_k2 a (a_sr a p ((a_rw a p).eraseIdx t)) := by
  refine ⟨rfl, fun _ _ _ => rfl, Nat.le_refl _, Nat.le_refl _, rfl, rfl, fun T => ⟨T.1, T.2.1, T.2.2.1, T.2.2.2.1, fun m hm hw => ?_, fun m hm => ?_⟩, fun A => A⟩
  · have h0 := T.2.2.2.2.1 m hm hw
    show va_up (a_rw a) p ((a_rw a p).eraseIdx t) m = []
    by_cases e : m = p
    · rw [e, va_up_self, ← e, h0]; rfl
    · rw [va_up_ne _ _ e]; exact h0
  · show (va_up (a_rw a) p ((a_rw a p).eraseIdx t) m).length ≤ 79 ∧ (va_up (a_rw a) p ((a_rw a p).eraseIdx t) m).Nodup ∧ ∀ c, c ∈ va_up (a_rw a) p ((a_rw a p).eraseIdx t) m → c < a_mk a ∧ a_nd a 1 c = m ∧ a_nd a 2 c = a_nd a 2 m + 1
    have z := T.2.2.2.2.2 m hm
    by_cases e : m = p
    · subst e
      rw [va_up_self]
      have hs := List.eraseIdx_sublist (a_rw a m) t
      exact ⟨Nat.le_trans hs.length_le z.1, z.2.1.sublist hs, fun c hc => z.2.2 c (hs.subset hc)⟩
    · rw [va_up_ne _ _ e]; exact z
/-- child c, at place t of keeper p's row, is taken out for ever -/
def a_dis (f p c t : Nat) (a : aS) : Nat × aS := a_va f c (a_no (a_sr a p ((a_rw a p).eraseIdx t)) 7 c 0)
theorem a_dis_k2 (f p c t : Nat) (a : aS) : a_k2 a (a_dis f p c t a).2 := ((a_k2.er a p t).tr (a_kp.no _ _ _ _).k2).tr (a_va_kp f c _).k2
theorem a_dis_rw (f p c t : Nat) (a : aS) : a_rw (a_dis f p c t a).2 = va_up (a_rw a) p ((a_rw a p).eraseIdx t) := (a_va_kp f c _).rw'
theorem a_va_ev : ∀ (f n : Nat) (a : aS), a_ev (a_va f n a).2 = a_ev a := by
  intro f
  induction f with
  | zero => intro n a; rfl
  | succ f ih =>
    intro n a
    have hR : ∀ (l : List Nat) (a : aS), a_ev (a_vR (a_va f) l a).2 = a_ev a := by
      intro l
      induction l with
      | nil => intro a; rfl
      | cons c r ihr => intro a; exact (ihr _).trans (ih c a)
    show a_ev (if a_nd a 0 n = 0 then _ else _ : Nat × aS).2 = _
    split
    · rfl
    · exact hR _ _
theorem k_no {L : List Nat} (hd : L.Nodup) {t j : Nat} (ht : t < L.length) (hj : j < t) : ¬ L.getD j 0 = L.getD t 0 := by
  rw [List.getD_eq_getElem?_getD, List.getD_eq_getElem?_getD, List.getElem?_eq_getElem ht, List.getElem?_eq_getElem (show j < L.length by omega)]
  intro e
  have e' : L[j] = L[t] := e
  have := (List.getElem_inj hd).mp e'
  omega
/-- stopped while its keeper stays up -/
def a_rl (f p c t : Nat) (a : aS) : aS := if a_nd a 4 c = 2 then (a_dis f p c t (a_ce false f c a).2).2 else (a_ce false f c a).2
theorem a_rl_k2 (f p c t : Nat) (a : aS) : a_k2 a (a_rl f p c t a) := by
  unfold a_rl
  split
  · exact (a_ce_kp false f c a).k2.tr (a_dis_k2 f p c t _)
  · exact (a_ce_kp false f c a).k2
theorem a_rl_len (f p c t : Nat) (a : aS) : (a_rw a p).length - 1 ≤ (a_rw (a_rl f p c t a) p).length ∧ ∀ i, i < t → (a_rw (a_rl f p c t a) p).getD i 0 = (a_rw a p).getD i 0 := by
  unfold a_rl
  split
  · rw [a_dis_rw, va_up_self, (a_ce_kp false f c a).rw']
    refine ⟨?_, fun i hi => by rw [k_erD, if_pos hi]⟩
    rw [List.length_eraseIdx]
    split <;> omega
  · rw [(a_ce_kp false f c a).rw']
    exact ⟨Nat.sub_le _ _, fun _ _ => rfl⟩
/-- those of p's row that are up, from place fr on, the last one first -/
def a_rF (f p fr : Nat) : Nat → aS → aS
  | 0, a => a
  | j + 1, a => if j < fr then a else a_rF f p fr j (if a_nd a 3 ((a_rw a p).getD j 0) = 1 then a_rl f p ((a_rw a p).getD j 0) j a else a)
theorem a_rF_k2 (f p fr : Nat) : ∀ (j : Nat) (a : aS), a_k2 a (a_rF f p fr j a)
  | 0, a => a_k2.rf a
  | j + 1, a => by
    unfold a_rF
    split
    · exact a_k2.rf a
    · split
      · exact (a_rl_k2 f p _ j a).tr (a_rF_k2 f p fr j _)
      · exact a_rF_k2 f p fr j a
/-- a keeper gives up -/
def a_gu (f p : Nat) (a : aS) : aS := a_sn (a_cR (a_ce false f) (a_rw a p).reverse (a_no a 6 p 0)).2 3 p 0
theorem a_gu_kp (f p : Nat) (a : aS) : a_kp a (a_gu f p a) := ((a_kp.no a 6 p 0).tr (a_cR_kp (a_ce_kp false f) _ _)).tr (a_kp.sn3 _ p (by omega))
set_option maxRecDepth 20000 in
set_option maxHeartbeats 4000000 in
theorem kc_dismiss {l : Launch} {G : hpG} {pr : Nat → Prop} {B : hpT} {N S : Nat} {h : hpT} {γ : Nat → Nat → Nat} {μ : Nat → Int32} {ρ : Nat → List Nat} {a : aS} {d : Nat} (K : KR G pr B N S h (γ, μ, ρ) a) {p f : Nat} (T : a_T a) (hn : p < a_mk a) (hk : a_nd a 0 p = 1) {c t : Nat} (ht : t < (a_rw a p).length) (hat : (a_rw a p).getD t 0 = c) (h9 : (9 : Int) ≤ f + a_nd a 2 c) (hD : f + 7 ≤ d) (hl : (a_ev a).length < 2 ^ 30) : hp_C l G yX1_dismiss (.code yX1_dismiss cX1_dismiss 4 (some .int)) d [.ref (γ 0 p), .ref (γ 0 c), .ref (γ 5 1)] (h) (fun v h' => v = some (.int (nI (a_dis f p c t a).1)) ∧ ∃ μ', KR G pr B N S h' (γ, μ', ρ) (a_dis f p c t a).2) (fun _ _ => False) := by
  have hm : (a_rw a p).getD t 0 ∈ a_rw a p := k_rc T hn ht
  rw [hat] at hm
  have hc := (T.rc hn hm).1
  have hb := T.kb hc
  have hno : ∀ j, j < t → ¬ (a_rw a p).getD j 0 = c := fun j hj => by rw [← hat]; exact k_no (T.nd hn) ht hj
  have hlt := T.rl hn
  have kE := a_k2.er a p t
  have T1 := kE.T T
  refine hp_ofV (by decide) (by simp [Value.category]) (Nat.le_of_ble_eq_true rfl) (fun M C hr hx el => ?_)
  refine hp_aload_nR C dX1_dismiss_0 rfl ?_
  refine hp_aload_nR C dX1_dismiss_1 rfl ?_
  refine hp_callV (ci := 2) C ml_X1_94 im_X1_placeOf se_X1_placeOf rfl (by decide) (kc_place (d := d - 1) K T hn hk hc ht hat hno (by omega)) (by omega) dX1_dismiss_2 (K.isK hn hk) rfl rfl (by simp [Value.category]) (fun v_2 h_2 hp => ?_) (fun _ _ hf => hf.elim)
  obtain ⟨rfl, e_2⟩ := hp
  rw [e_2]
  refine hp_istore_n C dX1_dismiss_5 (by decide) ?_
  refine hp_iload_n C dX1_dismiss_6 rfl ?_
  refine hp_if_lt (tgt := 30) C dX1_dismiss_7 (by decide) (fun z_9 => absurd z_9 (nI_pos (by omega))) (fun _ => ?_)
  refine hp_iload_n C dX1_dismiss_10 rfl ?_
  refine hp_aload_nR C dX1_dismiss_11 rfl ?_
  refine hp_get C fl_X1_14_2 dX1_dismiss_12 (K.isK hn hk) (K.f69 hn hk) ?_
  refine hp_callV (ci := 0) C ml_X1_64 im_Jx4a65c_size_8abf5 se_Jx4a65c_size_8abf5 rfl (by decide) (kc_size (d := d - 1) K hn hk) (by omega) dX1_dismiss_15 (K.isL hn hk) rfl rfl (by simp [Value.category]) (fun v_15 h_15 hp => ?_) (fun _ _ hf => hf.elim)
  obtain ⟨rfl, e_15⟩ := hp
  rw [e_15]
  refine hp_icmp_ge (tgt := 30) C dX1_dismiss_18 (by decide) (fun z_9 => absurd z_9 (nI_ge ht (by omega))) (fun _ => ?_)
  refine hp_aload_nR C dX1_dismiss_21 rfl ?_
  refine hp_get C fl_X1_14_2 dX1_dismiss_22 (K.isK hn hk) (K.f69 hn hk) ?_
  refine hp_iload_n C dX1_dismiss_25 rfl ?_
  refine hp_callV (ci := 0) C ml_X1_98 im_Jx4a65c_remove_915e3 se_Jx4a65c_remove_915e3 rfl (by decide) (kc_remove (d := d - 1) K T hn hk ht (by omega)) (by omega) dX1_dismiss_26 (K.isL hn hk) rfl rfl (by simp [Value.category]) (fun v_26 h_26 hp => ?_) (fun _ _ hf => hf.elim)
  obtain ⟨rfl, K_26⟩ := hp
  refine hp_pop C dX1_dismiss_29 rfl ?_
  refine hp_aload_nR C dX1_dismiss_30 rfl ?_
  refine hp_bipush (v := 7) C dX1_dismiss_31 (by decide) ?_
  refine hp_aload_nR C dX1_dismiss_33 rfl ?_
  refine kg_N C K_26 hc hb (by decide) fl_X1_101_2 fl_X1_101_4 dX1_dismiss_34 (K_26.f64 hc) ?_
  refine hp_iconst (v := 0) C dX1_dismiss_37 (by decide) ?_
  refine hp_callV (ci := 1) C ml_X1_58 im_X0_tell se_X0_tell rfl (by decide) (kc_tell (d := d - 1) (w := 7) (n := c) (r := 0) K_26 hl) (by omega) dX1_dismiss_38 K_26.isJ rfl rfl (by simp [Value.category]) (fun v_38 h_38 hp => ?_) (fun _ _ hf => hf.elim)
  obtain ⟨rfl, K_38⟩ := hp
  refine hp_aload_nR C dX1_dismiss_41 rfl ?_
  refine hp_callN C K_38 hc hb ul_X1_77_X1 ul_X1_77_X4 (kc_vanish f c _ _ (d - 1) K_38 T1 hc h9 (by omega)) (by omega) dX1_dismiss_42 rfl rfl (by simp [Value.category]) (fun v_42 h_42 hp => ?_)
  obtain ⟨rfl, K_42⟩ := hp
  refine hp_iret C hr rfl dX1_dismiss_45 ?_
  exact ⟨rfl, _, K_42⟩
set_option maxRecDepth 20000 in
set_option maxHeartbeats 4000000 in
theorem kc_release {l : Launch} {G : hpG} {pr : Nat → Prop} {B : hpT} {N S : Nat} {h : hpT} {γ : Nat → Nat → Nat} {μ : Nat → Int32} {ρ : Nat → List Nat} {a : aS} {d : Nat} (K : KR G pr B N S h (γ, μ, ρ) a) {p f : Nat} (T : a_T a) (hn : p < a_mk a) (hk : a_nd a 0 p = 1) {c t : Nat} (ht : t < (a_rw a p).length) (hat : (a_rw a p).getD t 0 = c) (h9 : (9 : Int) ≤ f + a_nd a 2 c) (hD : 2 * f + 8 ≤ d) (hl : (a_ev (a_rl f p c t a)).length < 2 ^ 30) : hp_C l G yX1_release (.code yX1_release cX1_release 3 none) d [.ref (γ 0 p), .ref (γ 0 c), .ref (γ 5 1)] (h) (fun v h' => v = none ∧ ∃ μ', KR G pr B N S h' (γ, μ', ρ) (a_rl f p c t a)) (fun _ _ => False) := by
  have hm : (a_rw a p).getD t 0 ∈ a_rw a p := k_rc T hn ht
  rw [hat] at hm
  have hc := (T.rc hn hm).1
  have hb := T.kb hc
  have r4 := T.r4 hc
  have k1 := a_ce_kp false f c a
  have hl1 : (a_ev (a_ce false f c a).2).length < 2 ^ 30 := by
    unfold a_rl at hl
    split at hl
    · exact Nat.lt_of_le_of_lt (a_dis_k2 f p c t _).ev hl
    · exact hl
  have hc1 : c < a_mk (a_ce false f c a).2 := by rw [k1.mk]; exact hc
  have hb1 : a_nd (a_ce false f c a).2 0 c = 0 ∨ a_nd (a_ce false f c a).2 0 c = 1 := by rw [k1.nd]; exact hb
  have e4 : a_nd (a_ce false f c a).2 4 c = a_nd a 4 c := by rw [k1.nd]
  refine hp_ofV (by decide) (by simp [Value.category]) (Nat.le_of_ble_eq_true rfl) (fun M C hr hx el => ?_)
  refine hp_aload_nR C dX1_release_0 rfl ?_
  refine hp_aload_nR C dX1_release_1 rfl ?_
  refine hp_callN C K hc hb ul_X1_84_X1 ul_X1_84_X4 (kc_fall f c _ _ (d - 1) K T hc h9 (by omega) hl1) (by omega) dX1_release_2 rfl rfl (by simp [Value.category]) (fun v_2 h_2 hp => ?_)
  obtain ⟨rfl, K_2⟩ := hp
  refine hp_aload_nR C dX1_release_5 rfl ?_
  refine kg_N C K_2 hc1 hb1 (by decide) fl_X1_87_2 fl_X1_87_4 dX1_release_6 (K_2.f67 hc1) ?_
  rw [e4]
  refine hp_iconst (v := 2) C dX1_release_9 (by decide) ?_
  refine hp_icmp_ne (tgt := 20) C dX1_release_10 (by decide) (fun c_10 => ?_) (fun c_10 => ?_)
  · have hu : ¬ a_nd a 4 c = 2 := fun e => c_10 (by rw [e]; decide)
    unfold a_rl
    rw [if_neg hu]
    refine hp_vret C hr dX1_release_20 ?_
    exact ⟨rfl, _, K_2⟩
  · have hu : a_nd a 4 c = 2 := (a_ofI_eq (x := a_nd a 4 c) (y := 2) (by omega) (by omega)).mp c_10
    unfold a_rl
    rw [if_pos hu]
    refine hp_aload_nR C dX1_release_13 rfl ?_
    refine hp_aload_nR C dX1_release_14 rfl ?_
    refine hp_aload_nR C dX1_release_15 rfl ?_
    refine hp_callV (ci := 2) C ml_X1_90 im_X1_dismiss se_X1_dismiss rfl (by decide) (kc_dismiss (d := d - 1) (f := f) (c := c) (t := t) K_2 (k1.T T) (by rw [k1.mk]; exact hn) (by rw [k1.nd]; exact hk) (by rw [k1.rw']; exact ht) (by rw [k1.rw']; exact hat) (by rw [k1.nd]; exact h9) (by omega) hl1) (by omega) dX1_release_16 (K_2.isK (by rw [k1.mk]; exact hn) (by rw [k1.nd]; exact hk)) rfl rfl (by simp [Value.category]) (fun v_16 h_16 hp => ?_) (fun _ _ hf => hf.elim)
    obtain ⟨rfl, μ1, K_16⟩ := hp
    refine hp_pop C dX1_release_19 rfl ?_
    refine hp_vret C hr dX1_release_20 ?_
    exact ⟨rfl, _, K_16⟩
set_option maxHeartbeats 4000000 in
theorem kl_rel {M : hpM} {G : hpG} {d : Nat} {h0 : hpT} {pr : Nat → Prop} {B : hpT} {N S : Nat} {γ : Nat → Nat → Nat} {ρ : Nat → List Nat} (C : hp_F M G yX1_releaseFrom cX1_releaseFrom 5 d h0) (hr : (hp_mt M).sig.returnType = none) {f p fr : Nat} (hD : 2 * f + 9 ≤ d) (hfr : fr < 2 ^ 31) {X : String → hpT → Prop} {P : Option Value → hpT → Prop} : ∀ (j : Nat) (lo : Nat → Option Value) (h : hpT) (a : aS) (μ : Nat → Int32), KR G pr B N S h (γ, μ, ρ) a → a_T a → p < a_mk a → a_nd a 0 p = 1 → (8 : Int) ≤ f + a_nd a 2 p → j ≤ (a_rw a p).length → (a_ev (a_rF f p fr j a)).length < 2 ^ 30 → lo 0 = some (.ref (γ 0 p)) → lo 1 = some (.int (nI fr)) → lo 2 = some (.ref (γ 5 1)) → lo 3 = some (.int (nI j - 1)) → (∀ h' μ', KR G pr B N S h' (γ, μ', ρ) (a_rF f p fr j a) → P none h') → hp_V M G 5 (hp_Q M G h0 P X) h 10 lo [] := by
  intro j
  induction j with
  | zero =>
    intro lo h a μ K T hn hk h8 hj hv e0 e1 e2 e3 hP
    refine hp_iload_n C dX1_releaseFrom_10 e3 ?_
    refine hp_if_lt (tgt := 54) C dX1_releaseFrom_11 (by decide) (fun _ => ?_) (fun z_9 => absurd (show (nI 0 - 1 : Int32) < 0 by decide) z_9)
    refine hp_vret C hr dX1_releaseFrom_54 ?_
    exact hP h μ K
  | succ j ih =>
    intro lo h a μ K T hn hk h8 hj hv e0 e1 e2 e3 hP
    rw [nI_pred] at e3
    have hl := T.rl hn
    have hjl : j < (a_rw a p).length := by omega
    obtain ⟨hc, -, hdep⟩ := T.rc hn (k_rc T hn hjl)
    have hb := T.kb hc
    have r3 := T.r3 hc
    refine hp_iload_n C dX1_releaseFrom_10 e3 ?_
    refine hp_if_lt (tgt := 54) C dX1_releaseFrom_11 (by decide) (fun z_9 => absurd z_9 (nI_pos (by omega))) (fun _ => ?_)
    refine hp_iload_n C dX1_releaseFrom_14 e3 ?_
    refine hp_iload_n C dX1_releaseFrom_15 e1 ?_
    refine hp_icmp_lt (tgt := 54) C dX1_releaseFrom_16 (by decide) (fun c_16 => ?_) (fun c_16 => ?_)
    · have hfj : j < fr := (nI_ltI (by omega) (by omega)).mp c_16
      have er : a_rF f p fr (j + 1) a = a := if_pos hfj
      rw [er] at hP
      refine hp_vret C hr dX1_releaseFrom_54 ?_
      exact hP h μ K
    · have hfj : ¬ j < fr := (not_congr (nI_ltI (by omega) (by omega))).mp c_16
      have er : a_rF f p fr (j + 1) a = a_rF f p fr j (if a_nd a 3 ((a_rw a p).getD j 0) = 1 then a_rl f p ((a_rw a p).getD j 0) j a else a) := if_neg hfj
      rw [er] at hv hP
      generalize hcc : (a_rw a p).getD j 0 = c at hc hdep hb r3 hv hP
      refine hp_aload_nR C dX1_releaseFrom_19 e0 ?_
      refine hp_get C fl_X1_14_2 dX1_releaseFrom_20 (K.isK hn hk) (K.f69 hn hk) ?_
      refine hp_iload_n C dX1_releaseFrom_23 e3 ?_
      refine hp_callV (ci := 0) C ml_X1_68 im_Jx4a65c_get_915e3 se_Jx4a65c_get_915e3 rfl (by decide) (kc_get (d := d - 1) K hn hk (i := j) hjl hl (by omega)) (by omega) dX1_releaseFrom_24 (K.isL hn hk) rfl rfl (by simp [Value.category]) (fun v_24 h_24 hp => ?_) (fun _ _ hf => hf.elim)
      obtain ⟨rfl, e_24⟩ := hp
      rw [e_24, hcc]
      refine kc_cast C K hc hb cl_X1_4 (by decide) (by decide) dX1_releaseFrom_27 ?_
      refine hp_astore (r := some _) C dX1_releaseFrom_30 (by decide) ?_
      refine hp_aloadR C dX1_releaseFrom_32 rfl ?_
      refine kg_N C K hc hb (by decide) fl_X1_72_2 fl_X1_72_4 dX1_releaseFrom_34 (K.f68 hc) ?_
      refine hp_iconst (v := 1) C dX1_releaseFrom_37 (by decide) ?_
      refine hp_icmp_ne (tgt := 48) C dX1_releaseFrom_38 (by decide) (fun c_38 => ?_) (fun c_38 => ?_)
      · have hu : ¬ a_nd a 3 c = 1 := fun e => c_38 (by rw [e]; decide)
        rw [if_neg hu] at hv hP
        refine hp_iinc C dX1_releaseFrom_48 e3 (by decide) rfl ?_
        refine hp_goto (tgt := 10) C dX1_releaseFrom_51 (by decide) ?_
        exact ih _ _ _ μ K T hn hk h8 (by omega) hv e0 e1 e2 ((va_up_self _ _ _).trans (by rw [k_dec])) hP
      · have hu : a_nd a 3 c = 1 := (a_ofI_eq (x := a_nd a 3 c) (y := 1) (by omega) (by omega)).mp c_38
        rw [if_pos hu] at hv hP
        refine hp_aload_nR C dX1_releaseFrom_41 e0 ?_
        refine hp_aloadR C dX1_releaseFrom_42 rfl ?_
        refine hp_aload_nR C dX1_releaseFrom_44 e2 ?_
        refine hp_callV (ci := 2) C ml_X1_102 im_X1_release se_X1_release rfl (by decide) (kc_release (d := d - 1) (f := f) (c := c) (t := j) K T hn hk hjl hcc (by rw [hdep]; omega) (by omega) (Nat.lt_of_le_of_lt (a_rF_k2 f p fr j _).ev hv)) (by omega) dX1_releaseFrom_45 (K.isK hn hk) rfl rfl (by simp [Value.category]) (fun v_45 h_45 hp => ?_) (fun _ _ hf => hf.elim)
        obtain ⟨rfl, μ1, K_45⟩ := hp
        refine hp_iinc C dX1_releaseFrom_48 e3 (by decide) rfl ?_
        refine hp_goto (tgt := 10) C dX1_releaseFrom_51 (by decide) ?_
        have k1 := a_rl_k2 f p c j a
        exact ih _ _ _ μ1 K_45 (k1.T T) (by rw [k1.mk]; exact hn) (by rw [k1.nd]; exact hk) (by rw [k1.nd]; exact h8) (by have := (a_rl_len f p c j a).1; omega) hv e0 e1 e2 ((va_up_self _ _ _).trans (by rw [k_dec])) hP
set_option maxRecDepth 20000 in
set_option maxHeartbeats 4000000 in
theorem kc_relF {l : Launch} {G : hpG} {pr : Nat → Prop} {B : hpT} {N S : Nat} {h : hpT} {γ : Nat → Nat → Nat} {μ : Nat → Int32} {ρ : Nat → List Nat} {a : aS} {d : Nat} (K : KR G pr B N S h (γ, μ, ρ) a) {p f : Nat} (T : a_T a) (hn : p < a_mk a) (hk : a_nd a 0 p = 1) {fr : Nat} (h8 : (8 : Int) ≤ f + a_nd a 2 p) (hfr : fr < 2 ^ 31) (hD : 2 * f + 9 ≤ d) (hv : (a_ev (a_rF f p fr (a_rw a p).length a)).length < 2 ^ 30) : hp_C l G yX1_releaseFrom (.code yX1_releaseFrom cX1_releaseFrom 5 none) d [.ref (γ 0 p), .int (nI fr), .ref (γ 5 1)] (h) (fun v h' => v = none ∧ ∃ μ', KR G pr B N S h' (γ, μ', ρ) (a_rF f p fr (a_rw a p).length a)) (fun _ _ => False) := by
  refine hp_ofV (by decide) (by simp [Value.category]) (Nat.le_of_ble_eq_true rfl) (fun M C hr hx el => ?_)
  refine hp_aload_nR C dX1_releaseFrom_0 rfl ?_
  refine hp_get C fl_X1_14_2 dX1_releaseFrom_1 (K.isK hn hk) (K.f69 hn hk) ?_
  refine hp_callV (ci := 0) C ml_X1_64 im_Jx4a65c_size_8abf5 se_Jx4a65c_size_8abf5 rfl (by decide) (kc_size (d := d - 1) K hn hk) (by omega) dX1_releaseFrom_4 (K.isL hn hk) rfl rfl (by simp [Value.category]) (fun v_4 h_4 hp => ?_) (fun _ _ hf => hf.elim)
  obtain ⟨rfl, e_4⟩ := hp
  rw [e_4]
  refine hp_iconst (v := 1) C dX1_releaseFrom_7 (by decide) ?_
  refine hp_isub C dX1_releaseFrom_8 ?_
  refine hp_istore_n C dX1_releaseFrom_9 (by decide) ?_
  exact kl_rel C hr hD hfr (a_rw a p).length _ h a μ K T hn hk h8 (Nat.le_refl _) hv rfl rfl rfl rfl (fun h' μ' K' => ⟨rfl, μ', K'⟩)
set_option maxRecDepth 20000 in
set_option maxHeartbeats 4000000 in
theorem kc_giveUp {l : Launch} {G : hpG} {pr : Nat → Prop} {B : hpT} {N S : Nat} {h : hpT} {κ : kS} {a : aS} {d : Nat} (K : KR G pr B N S h κ a) {p f : Nat} (T : a_T a) (hn : p < a_mk a) (hk : a_nd a 0 p = 1) (h8 : (8 : Int) ≤ f + a_nd a 2 p) (hD : 2 * f + 9 ≤ d) (hv : (a_ev (a_gu f p a)).length < 2 ^ 30) : hp_C l G yX1_giveUp (.code yX1_giveUp cX1_giveUp 2 none) d [.ref (κ.1 0 p), .ref (κ.1 5 1)] (h) (fun v h' => v = none ∧ KR G pr B N S h' κ (a_gu f p a)) (fun _ _ => False) := by
  have hv0 : (a_ev a).length < 2 ^ 30 := Nat.lt_of_le_of_lt (a_gu_kp f p a).ev hv
  have k1 := a_cR_kp (a_ce_kp false f) (a_rw a p).reverse (a_no a 6 p 0)
  have hn1 : p < a_mk (a_cR (a_ce false f) (a_rw a p).reverse (a_no a 6 p 0)).2 := by rw [k1.mk]; exact hn
  have hk1 : a_nd (a_cR (a_ce false f) (a_rw a p).reverse (a_no a 6 p 0)).2 0 p = 1 := by rw [k1.nd]; exact hk
  have X : a_lv f p (a_rw a p) (a_no a 6 p 0) := ⟨T, hn, hk, h8, rfl⟩
  refine hp_ofV (by decide) (by simp [Value.category]) (Nat.le_of_ble_eq_true rfl) (fun M C hr hx el => ?_)
  refine hp_aload_nR C dX1_giveUp_0 rfl ?_
  refine hp_bipush (v := 6) C dX1_giveUp_1 (by decide) ?_
  refine hp_aload_nR C dX1_giveUp_3 rfl ?_
  refine hp_get C fl_X1_55_2 dX1_giveUp_4 (K.isK hn hk) (K.f64 hn) ?_
  refine hp_iconst (v := 0) C dX1_giveUp_7 (by decide) ?_
  refine hp_callV (ci := 1) C ml_X1_58 im_X0_tell se_X0_tell rfl (by decide) (kc_tell (d := d - 1) (w := 6) (n := p) (r := 0) K hv0) (by omega) dX1_giveUp_8 K.isJ rfl rfl (by simp [Value.category]) (fun v_8 h_8 hp => ?_) (fun _ _ hf => hf.elim)
  obtain ⟨rfl, K_8⟩ := hp
  refine hp_aload_nR C dX1_giveUp_11 rfl ?_
  refine hp_aload_nR C dX1_giveUp_12 rfl ?_
  refine hp_callV (ci := 2) C ml_X1_44 im_X1_fallAll se_X1_fallAll rfl (by decide) (kc_fa (d := d - 1) (D := d - 2) K_8 X (by omega) (by omega) (fun c a h K T hc h9 hv => kc_fall f c a h (d - 2) K T hc h9 (by omega) hv) hv) (by omega) dX1_giveUp_13 (K_8.isK hn hk) rfl rfl (by simp [Value.category]) (fun v_13 h_13 hp => ?_) (fun _ _ hf => hf.elim)
  obtain ⟨rfl, K_13⟩ := hp
  refine hp_aload_nR C dX1_giveUp_16 rfl ?_
  refine hp_iconst (v := 0) C dX1_giveUp_17 (by decide) ?_
  refine kp_68K C K_13 hn1 hk1 fl_X1_52_2 0 (by decide) dX1_giveUp_18 (fun h_18 K_18 => ?_)
  refine hp_vret C hr dX1_giveUp_21 ?_
  exact ⟨rfl, K_18⟩
