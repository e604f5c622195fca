/-! ===== killing, starting, vanishing, down the tree ===== -/
set_option maxHeartbeats 4000000 in
theorem kl_pe {M : hpM} {G : hpG} {d : Nat} {h0 : hpT} {pr : Nat → Prop} {B : hpT} {N S : Nat} {κ : kS} {Q : State → Prop} (C : hp_F M G yX1_perish cX1_perish 5 d h0) {f n D : Nat} {L : List Nat} (hD : D + 1 ≤ d) (hd : 3 ≤ d) (hch : ∀ (c : Nat) (a : aS) (h : hpT), KR G pr B N S h κ a → a_T a → c < a_mk a → (9 : Int) ≤ f + a_nd a 2 c → (a_ev (a_ce true f c a).2).length < 2 ^ 30 → kf_per M.2.1 G D (a_nd a 0 c) (κ.1 0 c) (κ.1 5 1) h (fun v h' => v = some (.int (nI (a_ce true f c a).1)) ∧ KR G pr B N S h' κ (a_ce true f c a).2)) : ∀ (j q : Nat) (lo : Nat → Option Value) (h : hpT) (a : aS), KR G pr B N S h κ a → a_lv f n L a → j ≤ L.length → (a_ev (a_cR (a_ce true f) (L.take j).reverse a).2).length < 2 ^ 30 → lo 0 = some (.ref (κ.1 0 n)) → lo 1 = some (.ref (κ.1 5 1)) → lo 2 = some (.int (nI q)) → lo 3 = some (.int (nI j - 1)) → (∀ lo' h', KR G pr B N S h' κ (a_cR (a_ce true f) (L.take j).reverse a).2 → lo' 0 = some (.ref (κ.1 0 n)) → lo' 1 = some (.ref (κ.1 5 1)) → lo' 2 = some (.int (nI (q + (a_cR (a_ce true f) (L.take j).reverse a).1))) → hp_V M G 5 Q h' 53 lo' []) → hp_V M G 5 Q h 12 lo [] := by
  intro j
  induction j with
  | zero =>
    intro q lo h a K X hj hv e0 e1 e2 e3 hP
    have hn := X.2.1
    have hk := X.2.2.1
    have T := X.1
    have hl := T.rl hn
    have eL := X.2.2.2.2
    refine hp_iload_n C dX1_perish_12 e3 ?_
    refine hp_if_lt (tgt := 53) C dX1_perish_13 (by decide) (fun _ => ?_) (fun z_9 => absurd (show (nI 0 - 1 : Int32) < 0 by decide) z_9)
    exact hP lo h K e0 e1 e2
  | succ j ih =>
    intro q lo h a K X hj hv e0 e1 e2 e3 hP
    have hn := X.2.1
    have hk := X.2.2.1
    have T := X.1
    have hl := T.rl hn
    have eL := X.2.2.2.2
    rw [nI_pred] at e3
    subst eL
    have hjl : j < (a_rw a n).length := by omega
    obtain ⟨hc, h9⟩ := X.c hjl
    have hb := T.kb hc
    have r3 := T.r3 hc
    rw [k_tk hjl] at hv hP
    generalize hcc : (a_rw a n).getD j 0 = c at hc h9 hb r3 hv hP
    refine hp_iload_n C dX1_perish_12 e3 ?_
    refine hp_if_lt (tgt := 53) C dX1_perish_13 (by decide) (fun z_9 => absurd z_9 (nI_pos (by omega))) (fun _ => ?_)
    refine hp_aload_nR C dX1_perish_16 e0 ?_
    refine hp_get C fl_X1_14_2 dX1_perish_17 (K.isK hn hk) (K.f69 hn hk) ?_
    refine hp_iload_n C dX1_perish_20 e3 ?_
    refine hp_callV (ci := 0) C ml_X1_68 im_Jx4a65c_get_915e3 se_Jx4a65c_get_915e3 rfl (by decide) (kc_get (d := d - 1) K hn hk (i := j) hjl hl (by omega)) (by omega) dX1_perish_21 (K.isL hn hk) rfl rfl (by simp [Value.category]) (fun v_21 h_21 hp => ?_) (fun _ _ hf => hf.elim)
    obtain ⟨rfl, e_21⟩ := hp
    rw [e_21, hcc]
    refine kc_cast C K hc hb cl_X1_4 (by decide) (by decide) dX1_perish_24 ?_
    refine hp_astore (r := some _) C dX1_perish_27 (by decide) ?_
    refine hp_aloadR C dX1_perish_29 rfl ?_
    refine kg_N C K hc hb (by decide) fl_X1_72_2 fl_X1_72_4 dX1_perish_31 (K.f68 hc) ?_
    refine hp_iconst (v := 1) C dX1_perish_34 (by decide) ?_
    refine hp_icmp_ne (tgt := 47) C dX1_perish_35 (by decide) (fun c_35 => ?_) (fun c_35 => ?_)
    · have hu : ¬ a_nd a 3 c = 1 := fun e => c_35 (by rw [e]; decide)
      rw [a_cR_dn hu] at hv hP
      refine hp_iinc C dX1_perish_47 e3 (by decide) rfl ?_
      refine hp_goto (tgt := 12) C dX1_perish_50 (by decide) ?_
      exact ih _ _ _ _ K (X) (by omega) hv e0 e1 e2 ((va_up_self _ _ _).trans (by rw [k_dec])) hP
    · have hu : a_nd a 3 c = 1 := (a_ofI_eq (x := a_nd a 3 c) (y := 1) (by omega) (by omega)).mp c_35
      rw [a_cR_up hu] at hv hP
      refine hp_iload_n C dX1_perish_38 e2 ?_
      refine hp_aloadR C dX1_perish_39 rfl ?_
      refine hp_aload_nR C dX1_perish_41 e1 ?_
      refine hp_callN C K hc hb ul_X1_73_X1 ul_X1_73_X4 (hch c a h K T hc h9 (Nat.lt_of_le_of_lt (a_cR_kp (a_ce_kp true f) _ _).ev hv)) (by omega) dX1_perish_42 rfl rfl (by simp [Value.category]) (fun v_42 h_42 hp => ?_)
      obtain ⟨rfl, K_42⟩ := hp
      refine hp_iadd C dX1_perish_45 ?_
      rw [nI_add]
      refine hp_istore_n C dX1_perish_46 (by decide) ?_
      refine hp_iinc C dX1_perish_47 e3 (by decide) rfl ?_
      refine hp_goto (tgt := 12) C dX1_perish_50 (by decide) ?_
      exact ih _ _ _ _ K_42 (X.kp (a_ce_kp true f c a)) (by omega) hv e0 e1 rfl ((va_up_self _ _ _).trans (by rw [k_dec])) (fun lo' h' K' g0 g1 g2 => hP lo' h' K' g0 g1 (by rw [← Nat.add_assoc]; exact g2))
set_option maxRecDepth 20000 in
set_option maxHeartbeats 4000000 in
theorem kc_perish {l : Launch} {G : hpG} {pr : Nat → Prop} {B : hpT} {N S : Nat} {κ : kS} : ∀ (f n : Nat) (a : aS) (h : hpT) (D : Nat), KR G pr B N S h κ a → a_T a → n < a_mk a → (9 : Int) ≤ f + a_nd a 2 n → 2 * f + 6 ≤ D → (a_ev (a_ce true f n a).2).length < 2 ^ 30 → kf_per l G D (a_nd a 0 n) (κ.1 0 n) (κ.1 5 1) h (fun v h' => v = some (.int (nI (a_ce true f n a).1)) ∧ KR G pr B N S h' κ (a_ce true f n a).2) := by
  intro f
  induction f with
  | zero =>
    intro n a h D K T hn h9
    have := (T.r2 hn).2
    omega
  | succ f ih =>
    intro n a h D K T hn h9 hD hv
    refine ⟨fun hk => ?_, fun hk => ?_⟩
    · rw [a_ce_k hk] at hv ⊢
      have X : a_lv f n (a_rw a n) a := ⟨T, hn, hk, by omega, rfl⟩
      have k1 := a_cR_kp (a_ce_kp true f) (a_rw a n).reverse a
      have hv1 : (a_ev (a_cR (a_ce true f) (a_rw a n).reverse a).2).length < 2 ^ 30 := Nat.lt_of_le_of_lt (a_kp.no (a_sn (a_cR (a_ce true f) (a_rw a n).reverse a).2 3 n 0) 4 n 0).ev hv
      have hn1 : n < a_mk (a_cR (a_ce true f) (a_rw a n).reverse a).2 := by rw [k1.mk]; exact hn
      have hk1 : a_nd (a_cR (a_ce true f) (a_rw a n).reverse a).2 0 n = 1 := by rw [k1.nd]; exact hk
      refine hp_ofV (by decide) (by simp [Value.category]) (Nat.le_of_ble_eq_true rfl) (fun M C hr hx el => ?_)
      subst el
      refine hp_iconst (v := 1) C dX1_perish_0 (by decide) ?_
      refine hp_istore_n C dX1_perish_1 (by decide) ?_
      refine hp_aload_nR C dX1_perish_2 rfl ?_
      refine hp_get C fl_X1_14_2 dX1_perish_3 (K.isK hn hk) (K.f69 hn hk) ?_
      refine hp_callV (ci := 0) C ml_X1_64 im_Jx4a65c_size_8abf5 se_Jx4a65c_size_8abf5 rfl (by decide) (kc_size (d := D - 1) K hn hk) (by omega) dX1_perish_6 (K.isL hn hk) rfl rfl (by simp [Value.category]) (fun v_6 h_6 hp => ?_) (fun _ _ hf => hf.elim)
      obtain ⟨rfl, e_6⟩ := hp
      rw [e_6]
      refine hp_iconst (v := 1) C dX1_perish_9 (by decide) ?_
      refine hp_isub C dX1_perish_10 ?_
      refine hp_istore_n C dX1_perish_11 (by decide) ?_
      refine kl_pe (D := D - 1) C (by omega) (by omega) (fun c a h K T hc h9 hv => ih c a h (D - 1) K T hc h9 (by omega) hv) (a_rw a n).length 1 _ h a K X (Nat.le_refl _) (by rw [List.take_length]; exact hv1) rfl rfl rfl rfl (fun lo' h' K' g0 g1 g2 => ?_)
      rw [List.take_length] at K' g2
      refine hp_aload_nR C dX1_perish_53 g0 ?_
      refine hp_iconst (v := 0) C dX1_perish_54 (by decide) ?_
      refine kp_68K C K' hn1 hk1 fl_X1_52_2 0 (by decide) dX1_perish_55 (fun h_55 K_55 => ?_)
      refine hp_aload_nR C dX1_perish_58 g1 ?_
      refine hp_iconst (v := 4) C dX1_perish_59 (by decide) ?_
      refine hp_aload_nR C dX1_perish_60 g0 ?_
      refine hp_get C fl_X1_55_2 dX1_perish_61 (K_55.isK hn1 hk1) (K_55.f64 hn1) ?_
      refine hp_iconst (v := 0) C dX1_perish_64 (by decide) ?_
      refine hp_callV (ci := 1) C ml_X1_58 im_X0_tell se_X0_tell rfl (by decide) (kc_tell (d := D - 1) (w := 4) (n := n) (r := 0) K_55 hv1) (by omega) dX1_perish_65 K_55.isJ rfl rfl (by simp [Value.category]) (fun v_65 h_65 hp => ?_) (fun _ _ hf => hf.elim)
      obtain ⟨rfl, K_65⟩ := hp
      refine hp_iload_n C dX1_perish_68 g2 ?_
      refine hp_iret C hr rfl dX1_perish_69 ?_
      exact ⟨by rw [Nat.add_comm], K_65⟩
    · rw [a_ce_w hk] at hv ⊢
      exact kc_perishW K T hn hk (Nat.lt_of_le_of_lt (a_end_kp true n a).ev hv) (by omega)
/-- the row is started, in order: the first that failed -/
def a_sF (f : Nat → aS → Bool × aS) : List Nat → aS → Option Nat × aS
  | [], a => (none, a)
  | c :: r, a => if (f c a).1 = true then a_sF f r (f c a).2 else (some c, (f c a).2)
theorem a_sF_R (f : Nat → aS → Bool × aS) : ∀ (l : List Nat) (a : aS), a_sR f l a = ((a_sF f l a).1.isNone, (a_sF f l a).2)
  | [], _ => rfl
  | c :: r, a => by
    show (if (f c a).1 = true then a_sR f r (f c a).2 else (false, (f c a).2)) = _
    unfold a_sF
    split
    · exact a_sF_R f r _
    · rfl
theorem a_sF_kp {f : Nat → aS → Bool × aS} (hf : ∀ c a, a_kp a (f c a).2) (l : List Nat) (a : aS) : a_kp a (a_sF f l a).2 := by
  have := a_sR_kp hf l a
  rwa [a_sF_R] at this
theorem a_sF_ok {f : Nat → aS → Bool × aS} {c : Nat} {r : List Nat} {a : aS} (h : (f c a).1 = true) : a_sF f (c :: r) a = a_sF f r (f c a).2 := if_pos h
theorem a_sF_no {f : Nat → aS → Bool × aS} {c : Nat} {r : List Nat} {a : aS} (h : ¬ (f c a).1 = true) : a_sF f (c :: r) a = (some c, (f c a).2) := if_neg h
theorem k_dp {L : List Nat} {j : Nat} (h : j < L.length) : L.drop j = L.getD j 0 :: L.drop (j + 1) := by
  rw [List.drop_eq_getElem_cons h, List.getD_eq_getElem?_getD, List.getElem?_eq_getElem h]
  rfl
abbrev kf_rise (l : Launch) (G : hpG) (d : Nat) (kd : Int) (b J : Nat) (h : hpT) (P : Option Value → hpT → Prop) : Prop := k_C2 l G yX1_rise cX1_rise 3 yX4_rise cX4_rise 3 (some .boolean) d kd [.ref b, .ref J] h P
theorem a_go_k {a : aS} {n d : Nat} (hk : a_nd a 0 n = 1) : a_go (d + 1) n a = (if (a_sF (a_go d) (a_rw a n) (a_srt a n [])).1.isNone = true then (true, a_no (a_sn (a_sF (a_go d) (a_rw a n) (a_srt a n [])).2 3 n 1) 1 n 0) else (false, a_no (a_sn (a_cR (a_ce false d) (a_rw a n).reverse (a_sF (a_go d) (a_rw a n) (a_srt a n [])).2).2 3 n 0) 2 n 0)) := by
  show (if a_nd a 0 n = 0 then _ else _) = _
  rw [if_neg (by omega)]
  show (if (a_sR (a_go d) (a_rw a n) (a_srt a n [])).1 = true then _ else _) = _
  rw [a_sF_R]
set_option maxHeartbeats 4000000 in
theorem kl_rf {M : hpM} {G : hpG} {d : Nat} {h0 : hpT} {pr : Nat → Prop} {B : hpT} {N S : Nat} {γ : Nat → Nat → Nat} {μ : Nat → Int32} (C : hp_F M G yX1_riseFrom cX1_riseFrom 5 d h0) (hr : (hp_mt M).sig.returnType = some (.object "KeeperTree$Node")) {f n D : Nat} {L : List Nat} (hD : D + 1 ≤ d) (hd : 3 ≤ d) (hch : ∀ (c : Nat) (a : aS) (h : hpT) (ρ : Nat → List Nat), KR G pr B N S h (γ, μ, ρ) a → a_T a → c < a_mk a → (9 : Int) ≤ f + a_nd a 2 c → (a_ev (a_go f c a).2).length < 2 ^ 30 → kf_rise M.2.1 G D (a_nd a 0 c) (γ 0 c) (γ 5 1) h (fun v h' => v = some (.int (if (a_go f c a).1 = true then 1 else 0)) ∧ ∃ ρ', KR G pr B N S h' (γ, μ, ρ') (a_go f c a).2)) {X : String → hpT → Prop} {P : Option Value → hpT → Prop} : ∀ (k j : Nat) (lo : Nat → Option Value) (h : hpT) (a : aS) (ρ : Nat → List Nat), j + k = L.length → KR G pr B N S h (γ, μ, ρ) a → a_lv f n L a → (a_ev (a_sF (a_go f) (L.drop j) a).2).length < 2 ^ 30 → lo 0 = some (.ref (γ 0 n)) → lo 2 = some (.ref (γ 5 1)) → lo 3 = some (.int (nI j)) → (∀ h' ρ', KR G pr B N S h' (γ, μ, ρ') (a_sF (a_go f) (L.drop j) a).2 → P (some (va_rf ((a_sF (a_go f) (L.drop j) a).1.map (γ 0)))) h') → hp_V M G 5 (hp_Q M G h0 P X) h 6 lo [] := by
  intro k
  induction k with
  | zero =>
    intro j lo h a ρ hj K X hv e0 e2 e3 hP
    have hn := X.2.1
    have hk := X.2.2.1
    have T := X.1
    have hl := T.rl hn
    have eL := X.2.2.2.2
    have ej : L.drop j = [] := List.drop_eq_nil_of_le (by omega)
    rw [ej] at hP
    subst eL
    refine hp_iload_n C dX1_riseFrom_6 e3 ?_
    refine hp_aload_nR C dX1_riseFrom_7 e0 ?_
    refine hp_get C fl_X1_14_2 dX1_riseFrom_8 (K.isK hn hk) (K.f69 hn hk) ?_
    refine hp_callV (ci := 0) C ml_X1_64 im_Jx4a65c_size_8abf5 se_Jx4a65c_size_8abf5 rfl (by decide) (kc_size (d := d - 1) K hn hk) (by omega) dX1_riseFrom_11 (K.isL hn hk) rfl rfl (by simp [Value.category]) (fun v_11 h_11 hp => ?_) (fun _ _ hf => hf.elim)
    obtain ⟨rfl, e_11⟩ := hp
    rw [e_11]
    refine hp_icmp_ge (tgt := 48) C dX1_riseFrom_14 (by decide) (fun _ => ?_) (fun z_9 => absurd (nI_le (by omega) (by omega)) z_9)
    refine hp_null C dX1_riseFrom_48 ?_
    refine hp_aret (r := none) C hr (Or.inl ⟨_, rfl⟩) dX1_riseFrom_49 ?_
    exact hP h ρ K
  | succ k ih =>
    intro j lo h a ρ hj K X hv e0 e2 e3 hP
    have hn := X.2.1
    have hk := X.2.2.1
    have T := X.1
    have hl := T.rl hn
    have eL := X.2.2.2.2
    subst eL
    have hjl : j < (a_rw a n).length := by omega
    obtain ⟨hc, h9⟩ := X.c hjl
    have hb := T.kb hc
    rw [k_dp hjl] at hv hP
    generalize hcc : (a_rw a n).getD j 0 = c at hc h9 hb hv hP
    have hv1 : (a_ev (a_go f c a).2).length < 2 ^ 30 := by
      by_cases g : (a_go f c a).1 = true
      · rw [a_sF_ok g] at hv
        exact Nat.lt_of_le_of_lt (a_sF_kp (a_go_kp f) _ _).ev hv
      · rw [a_sF_no g] at hv
        exact hv
    refine hp_iload_n C dX1_riseFrom_6 e3 ?_
    refine hp_aload_nR C dX1_riseFrom_7 e0 ?_
    refine hp_get C fl_X1_14_2 dX1_riseFrom_8 (K.isK hn hk) (K.f69 hn hk) ?_
    refine hp_callV (ci := 0) C ml_X1_64 im_Jx4a65c_size_8abf5 se_Jx4a65c_size_8abf5 rfl (by decide) (kc_size (d := d - 1) K hn hk) (by omega) dX1_riseFrom_11 (K.isL hn hk) rfl rfl (by simp [Value.category]) (fun v_11 h_11 hp => ?_) (fun _ _ hf => hf.elim)
    obtain ⟨rfl, e_11⟩ := hp
    rw [e_11]
    refine hp_icmp_ge (tgt := 48) C dX1_riseFrom_14 (by decide) (fun z_9 => absurd z_9 (nI_ge (by omega) (by omega))) (fun _ => ?_)
    refine hp_aload_nR C dX1_riseFrom_17 e0 ?_
    refine hp_get C fl_X1_14_2 dX1_riseFrom_18 (K.isK hn hk) (K.f69 hn hk) ?_
    refine hp_iload_n C dX1_riseFrom_21 e3 ?_
    refine hp_callV (ci := 0) C ml_X1_68 im_Jx4a65c_get_915e3 se_Jx4a65c_get_915e3 rfl (by decide) (kc_get (d := d - 1) K hn hk (i := j) hjl hl (by omega)) (by omega) dX1_riseFrom_22 (K.isL hn hk) rfl rfl (by simp [Value.category]) (fun v_22 h_22 hp => ?_) (fun _ _ hf => hf.elim)
    obtain ⟨rfl, e_22⟩ := hp
    rw [e_22, hcc]
    refine kc_cast C K hc hb cl_X1_4 (by decide) (by decide) dX1_riseFrom_25 ?_
    refine hp_astore (r := some _) C dX1_riseFrom_28 (by decide) ?_
    refine hp_aloadR C dX1_riseFrom_30 rfl ?_
    refine hp_aload_nR C dX1_riseFrom_32 e2 ?_
    refine hp_callN C K hc hb ul_X1_112_X1 ul_X1_112_X4 (hch c a h ρ K T hc h9 hv1) (by omega) dX1_riseFrom_33 rfl rfl (by simp [Value.category]) (fun v_33 h_33 hp => ?_)
    obtain ⟨rfl, ρ1, K_33⟩ := hp
    refine hp_if_ne (tgt := 42) C dX1_riseFrom_36 (by decide) (fun c_36 => ?_) (fun c_36 => ?_)
    · have hg : (a_go f c a).1 = true := Classical.byContradiction (fun z => c_36 (if_neg z))
      rw [a_sF_ok hg] at hv hP
      refine hp_iinc C dX1_riseFrom_42 e3 (by decide) rfl ?_
      refine hp_goto (tgt := 6) C dX1_riseFrom_45 (by decide) ?_
      exact ih (j + 1) _ _ _ ρ1 (by omega) K_33 (X.kp (a_go_kp f c a)) hv e0 e2 ((va_up_self _ _ _).trans (by rw [show Int32.ofInt 1 = 1 from rfl, nI_1])) hP
    · have hg : ¬ (a_go f c a).1 = true := fun z => absurd (c_36.symm.trans (if_pos z)) (by decide)
      rw [a_sF_no hg] at hP
      refine hp_aloadR C dX1_riseFrom_39 rfl ?_
      refine hp_aret (r := some _) C hr (Or.inl ⟨_, rfl⟩) dX1_riseFrom_41 ?_
      exact hP _ ρ1 K_33
set_option maxRecDepth 20000 in
set_option maxHeartbeats 4000000 in
theorem kc_rf {l : Launch} {G : hpG} {pr : Nat → Prop} {B : hpT} {N S : Nat} {h : hpT} {γ : Nat → Nat → Nat} {μ : Nat → Int32} {ρ : Nat → List Nat} {a : aS} {d f n D j : Nat} {L : List Nat} (K : KR G pr B N S h (γ, μ, ρ) a) (X : a_lv f n L a) (hD : D + 1 ≤ d) (hd : 3 ≤ d) (hch : ∀ (c : Nat) (a : aS) (h : hpT) (ρ : Nat → List Nat), KR G pr B N S h (γ, μ, ρ) a → a_T a → c < a_mk a → (9 : Int) ≤ f + a_nd a 2 c → (a_ev (a_go f c a).2).length < 2 ^ 30 → kf_rise l G D (a_nd a 0 c) (γ 0 c) (γ 5 1) h (fun v h' => v = some (.int (if (a_go f c a).1 = true then 1 else 0)) ∧ ∃ ρ', KR G pr B N S h' (γ, μ, ρ') (a_go f c a).2)) (hj : j ≤ L.length) (hv : (a_ev (a_sF (a_go f) (L.drop j) a).2).length < 2 ^ 30) : hp_C l G yX1_riseFrom (.code yX1_riseFrom cX1_riseFrom 5 (some (.object "KeeperTree$Node"))) d [.ref (γ 0 n), .int (nI j), .ref (γ 5 1)] (h) (fun v h' => v = some (va_rf ((a_sF (a_go f) (L.drop j) a).1.map (γ 0))) ∧ ∃ ρ', KR G pr B N S h' (γ, μ, ρ') (a_sF (a_go f) (L.drop j) a).2) (fun _ _ => False) := by
  refine hp_ofV (by decide) (by simp [Value.category]) (Nat.le_of_ble_eq_true rfl) (fun M C hr hx el => ?_)
  subst el
  have hl := X.1.rl X.2.1
  rw [X.2.2.2.2] at hl
  refine hp_iconst (v := 0) C dX1_riseFrom_0 (by decide) ?_
  refine hp_iload_n C dX1_riseFrom_1 rfl ?_
  refine hp_mmax (v := nI j) C mx_X1_106 (by omega) (by simp [Value.category]) dX1_riseFrom_2 ?_ ?_
  · split
    · rfl
    · rename_i z
      rcases Nat.eq_zero_or_pos j with e | e
      · rw [e]; rfl
      · exact absurd (nI_lt e (by omega)) z
  refine hp_istore_n C dX1_riseFrom_5 (by decide) ?_
  exact kl_rf C hr hD hd hch (L.length - j) j _ h a ρ (by omega) K X hv rfl rfl rfl (fun h' ρ' K' => ⟨rfl, ρ', K'⟩)
set_option maxRecDepth 20000 in
set_option maxHeartbeats 4000000 in
theorem kc_rise {l : Launch} {G : hpG} {pr : Nat → Prop} {B : hpT} {N S : Nat} {γ : Nat → Nat → Nat} {μ : Nat → Int32} : ∀ (f n : Nat) (a : aS) (h : hpT) (ρ : Nat → List Nat) (D : Nat), KR G pr B N S h (γ, μ, ρ) a → a_T a → n < a_mk a → (9 : Int) ≤ f + a_nd a 2 n → 2 * f + 6 ≤ D → (a_ev (a_go f n a).2).length < 2 ^ 30 → kf_rise l G D (a_nd a 0 n) (γ 0 n) (γ 5 1) h (fun v h' => v = some (.int (if (a_go f n a).1 = true then 1 else 0)) ∧ ∃ ρ', KR G pr B N S h' (γ, μ, ρ') (a_go f n a).2) := by
  intro f
  induction f with
  | zero =>
    intro n a h ρ D K T hn h9
    have := (T.r2 hn).2
    omega
  | succ f ih =>
    intro n a h ρ D K T hn h9 hD hv
    refine ⟨fun hk => ?_, fun hk => ?_⟩
    · rw [a_go_k hk] at hv ⊢
      have k0 := a_kp.srt a n []
      have X0 : a_lv f n (a_rw a n) (a_srt a n []) := ⟨T, hn, hk, by show (8 : Int) ≤ f + a_nd a 2 n; omega, rfl⟩
      have k1 := a_sF_kp (a_go_kp f) (a_rw a n) (a_srt a n [])
      generalize hz : a_sF (a_go f) (a_rw a n) (a_srt a n []) = z at hv k1 ⊢
      have X1 : a_lv f n (a_rw a n) z.2 := X0.kp k1
      have k2 := a_cR_kp (a_ce_kp false f) (a_rw a n).reverse z.2
      have hv1 : (a_ev z.2).length < 2 ^ 30 := by
        by_cases g : z.1.isNone = true
        · rw [if_pos g] at hv
          exact Nat.lt_of_le_of_lt (a_kp.no (a_sn z.2 3 n 1) 1 n 0).ev hv
        · rw [if_neg g] at hv
          exact Nat.lt_of_le_of_lt (Nat.le_trans k2.ev (a_kp.no (a_sn (a_cR (a_ce false f) (a_rw a n).reverse z.2).2 3 n 0) 2 n 0).ev) hv
      have hn1 : n < a_mk z.2 := X1.2.1
      have hk1 : a_nd z.2 0 n = 1 := X1.2.2.1
      refine hp_ofV (by decide) (by simp [Value.category]) (Nat.le_of_ble_eq_true rfl) (fun M C hr hx el => ?_)
      subst el
      refine hp_aload_nR C dX1_rise_0 rfl ?_
      refine hp_get C fl_X1_23_2 dX1_rise_1 (K.isK hn hk) (K.f70 hn hk) ?_
      refine hp_callV (ci := 3) C ml_X1_37 im_X3_clear se_X3_clear rfl (by decide) (kc_clear (d := D - 1) K hn hk) (by omega) dX1_rise_4 (K.isR hn hk) rfl rfl (by simp [Value.category]) (fun v_4 h_4 hp => ?_) (fun _ _ hf => hf.elim)
      obtain ⟨rfl, K_4⟩ := hp
      refine hp_aload_nR C dX1_rise_7 rfl ?_
      refine hp_iconst (v := 0) C dX1_rise_8 (by decide) ?_
      refine hp_aload_nR C dX1_rise_9 rfl ?_
      refine hp_callV (ci := 2) C ml_X1_40 im_X1_riseFrom se_X1_riseFrom rfl (by decide) (kc_rf (d := D - 1) (D := D - 2) (j := 0) (γ := γ) (μ := μ) K_4 X0 (by omega) (by omega) (fun c a h ρ K T hc h9 hv => ih c a h ρ (D - 2) K T hc h9 (by omega) hv) (Nat.zero_le _) (by rw [List.drop_zero, hz]; exact hv1)) (by omega) dX1_rise_10 (K_4.isK hn hk) rfl rfl (by simp [Value.category]) (fun v_10 h_10 hp => ?_) (fun _ _ hf => hf.elim)
      rw [List.drop_zero, hz] at hp
      obtain ⟨rfl, ρ2, K_10⟩ := hp
      cases hz1 : z.1 with
      | none =>
        rw [hz1] at hv
        refine hp_ifnull (r := none) (tgt := 20) C dX1_rise_13 (by decide) (fun _ => ?_) (fun _ hx_ => by cases hx_)
        refine hp_iconst (v := 0) C dX1_rise_20 (by decide) ?_
        refine hp_istore_n C dX1_rise_21 (by decide) ?_
        refine hp_iload_n C dX1_rise_22 rfl ?_
        refine hp_if_eq (tgt := 31) C dX1_rise_23 (by decide) (fun _ => ?_) (fun z_9 => absurd z_9 (by decide))
        refine hp_aload_nR C dX1_rise_31 rfl ?_
        refine hp_iload_n C dX1_rise_32 rfl ?_
        refine hp_aload_nR C dX1_rise_33 rfl ?_
        refine hp_callU C 2 ul_X1_48_X1 rfl (by decide) (kc_settle0 (d := D - 1) K_10 hn1 (Or.inr hk1) hv1 (by omega)) (by omega) dX1_rise_34 (K_10.isK hn1 hk1) rfl rfl (by simp [Value.category]) (fun v_34 h_34 hp => ?_)
        obtain ⟨rfl, K_34⟩ := hp
        refine hp_iret C hr (by decide) dX1_rise_37 ?_
        exact ⟨rfl, ρ2, K_34⟩
      | some x =>
        rw [hz1] at hv
        have hv2 : (a_ev (a_cR (a_ce false f) (a_rw a n).reverse z.2).2).length < 2 ^ 30 := Nat.lt_of_le_of_lt (a_kp.no (a_sn (a_cR (a_ce false f) (a_rw a n).reverse z.2).2 3 n 0) 2 n 0).ev hv
        have hn2 : n < a_mk (a_cR (a_ce false f) (a_rw a n).reverse z.2).2 := by rw [k2.mk]; exact hn1
        have hk2 : a_nd (a_cR (a_ce false f) (a_rw a n).reverse z.2).2 0 n = 1 := by rw [k2.nd]; exact hk1
        refine hp_ifnull (r := some _) (tgt := 20) C dX1_rise_13 (by decide) (fun hx_ => by cases hx_) (fun _ _ => ?_)
        refine hp_iconst (v := 1) C dX1_rise_16 (by decide) ?_
        refine hp_goto (tgt := 21) C dX1_rise_17 (by decide) ?_
        refine hp_istore_n C dX1_rise_21 (by decide) ?_
        refine hp_iload_n C dX1_rise_22 rfl ?_
        refine hp_if_eq (tgt := 31) C dX1_rise_23 (by decide) (fun z_9 => absurd z_9 (by decide)) (fun _ => ?_)
        refine hp_aload_nR C dX1_rise_26 rfl ?_
        refine hp_aload_nR C dX1_rise_27 rfl ?_
        refine hp_callV (ci := 2) C ml_X1_44 im_X1_fallAll se_X1_fallAll rfl (by decide) (kc_fa (d := D - 1) (D := D - 2) K_10 X1 (by omega) (by omega) (fun c a h K T hc h9 hv => kc_fall f c a h (D - 2) K T hc h9 (by omega) hv) hv2) (by omega) dX1_rise_28 (K_10.isK hn1 hk1) rfl rfl (by simp [Value.category]) (fun v_28 h_28 hp => ?_) (fun _ _ hf => hf.elim)
        obtain ⟨rfl, K_28⟩ := hp
        refine hp_aload_nR C dX1_rise_31 rfl ?_
        refine hp_iload_n C dX1_rise_32 rfl ?_
        refine hp_aload_nR C dX1_rise_33 rfl ?_
        refine hp_callU C 2 ul_X1_48_X1 rfl (by decide) (kc_settle1 (d := D - 1) K_28 hn2 (Or.inr hk2) hv2 (by omega)) (by omega) dX1_rise_34 (K_28.isK hn2 hk2) rfl rfl (by simp [Value.category]) (fun v_34 h_34 hp => ?_)
        obtain ⟨rfl, K_34⟩ := hp
        refine hp_iret C hr (by decide) dX1_rise_37 ?_
        exact ⟨rfl, ρ2, K_34⟩
    · have hv1 : (a_ev a).length < 2 ^ 30 := Nat.lt_of_le_of_lt (a_go_kp (f + 1) n a).ev hv
      exact kc_riseW (q := f) K T hn hk hv1 (by omega)
