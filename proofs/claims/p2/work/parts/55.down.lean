/-! ===== down the tree: a method that keepers and workers have ===== -/
def k_C2 (l : Launch) (G : hpG) (y2 : MethodName) (c2 : ByteArray) (m2 : Nat) (y4 : MethodName) (c4 : ByteArray) (m4 : Nat) (ret : Option FieldType) (d : Nat) (kd : Int) (av : List Value) (h : hpT) (P : Option Value → hpT → Prop) : Prop := (kd = 1 → hp_C l G y2 (.code y2 c2 m2 ret) d av h P (fun _ _ => False)) ∧ (kd = 0 → hp_C l G y4 (.code y4 c4 m4 ret) d av h P (fun _ _ => False))
theorem hp_callN {M : hpM} {G : hpG} {y : MethodName} {cc : ByteArray} {nL d : Nat} {h0 h : hpT} {Q : State → Prop} {pc : Nat} {lo : Nat → Option Value} {st : List Value} {pr : Nat → Prop} {B : hpT} {N S : Nat} {κ : kS} {a : aS} {n idx : Nat} (C : hp_F M G y cc nL d h0) (K : KR G pr B N S h κ a) (hn : n < a_mk a) (hb : a_nd a 0 n = 0 ∨ a_nd a 0 n = 1) {np m2 m4 d' : Nat} {x' y2 y4 : MethodName} {owner : String} {c2 c4 : ByteArray} {ret : Option FieldType} {As stk : List Value} {P' : Option Value → hpT → Prop}
    (u2 : hp_UL y.cls idx x' owner "KeeperTree$Keeper" y2 c2 m2 ret np) (u4 : hp_UL y.cls idx x' owner "KeeperTree$Worker" y4 c4 m4 ret np) (con : k_C2 M.2.1 G y2 c2 m2 y4 c4 m4 ret d' (a_nd a 0 n) (.ref (κ.1 0 n) :: As) h P') (hd : d' + 1 ≤ d) (dd : decode cc pc = .ok (.invokevirtual idx, 3)) (hnp : As.length = np) (hst : stk = As.reverse ++ .ref (κ.1 0 n) :: st) (hw : (st.map fun v => v.category).sum ≤ 8)
    (kk : ∀ v h', P' v h' → hp_V M G nL Q h' (pc + 3) lo (v.toList ++ st)) : hp_V M G nL Q h pc lo stk := by
  rcases hb with hb | hb
  · exact hp_callU C 4 u4 rfl (by decide) (con.2 hb) hd dd (K.isW hn hb) hnp hst hw kk
  · exact hp_callU C 2 u2 rfl (by decide) (con.1 hb) hd dd (K.isK hn hb) hnp hst hw kk
/-- keeper n of row L is here, f levels are left below it -/
def a_lv (f n : Nat) (L : List Nat) (a : aS) : Prop := a_T a ∧ n < a_mk a ∧ a_nd a 0 n = 1 ∧ (8 : Int) ≤ f + a_nd a 2 n ∧ a_rw a n = L
theorem a_lv.kp {f n : Nat} {L : List Nat} {a b : aS} (x : a_lv f n L a) (k : a_kp a b) : a_lv f n L b := ⟨k.T x.1, by rw [k.mk]; exact x.2.1, by rw [k.nd]; exact x.2.2.1, by rw [k.nd]; exact x.2.2.2.1, by rw [k.rw']; exact x.2.2.2.2⟩
theorem a_lv.c {f n i : Nat} {L : List Nat} {a : aS} (x : a_lv f n L a) (hi : i < L.length) : L.getD i 0 < a_mk a ∧ (9 : Int) ≤ f + a_nd a 2 (L.getD i 0) := by
  obtain ⟨T, x2, x3, x4, x5⟩ := x
  subst x5
  obtain ⟨q1, q2, q3⟩ := T.rc x2 (k_rc T x2 hi)
  exact ⟨q1, by rw [q3]; omega⟩
theorem k_tk {L : List Nat} {j : Nat} (h : j < L.length) : (L.take (j + 1)).reverse = L.getD j 0 :: (L.take j).reverse := by
  rw [List.take_succ, List.getElem?_eq_getElem h, List.getD_eq_getElem?_getD, List.getElem?_eq_getElem h]
  simp
theorem a_cR_up {f : Nat → aS → Nat × aS} {c : Nat} {r : List Nat} {a : aS} (h : a_nd a 3 c = 1) : a_cR f (c :: r) a = ((f c a).1 + (a_cR f r (f c a).2).1, (a_cR f r (f c a).2).2) := by
  show (if a_nd a 3 c = 1 then _ else _) = _
  rw [if_pos h]
theorem a_cR_dn {f : Nat → aS → Nat × aS} {c : Nat} {r : List Nat} {a : aS} (h : ¬ a_nd a 3 c = 1) : a_cR f (c :: r) a = a_cR f r a := by
  show (if a_nd a 3 c = 1 then _ else _) = _
  rw [if_neg h]
theorem a_ce_w {k : Bool} {d n : Nat} {a : aS} (hw : a_nd a 0 n = 0) : a_ce k (d + 1) n a = (1, a_end k n a) := by
  show (if a_nd a 0 n = 0 then _ else _) = _
  rw [if_pos hw]
theorem a_ce_k {k : Bool} {d n : Nat} {a : aS} (hk : a_nd a 0 n = 1) : a_ce k (d + 1) n a = ((a_cR (a_ce k d) (a_rw a n).reverse a).1 + 1, a_no (a_sn (a_cR (a_ce k d) (a_rw a n).reverse a).2 3 n 0) (if k = true then 4 else 3) n 0) := by
  show (if a_nd a 0 n = 0 then _ else _) = _
  rw [if_neg (by omega)]
  show ((a_cR (a_ce k d) (a_rw a n).reverse a).1 + 1, a_end k n (a_cR (a_ce k d) (a_rw a n).reverse a).2) = _
  unfold a_end
  rw [if_neg]
  intro z
  have := (a_cR_kp (a_ce_kp k d) (a_rw a n).reverse a).nd (f := 0) (n := n)
  omega
abbrev kf_fall (l : Launch) (G : hpG) (d : Nat) (kd : Int) (b J : Nat) (h : hpT) (P : Option Value → hpT → Prop) : Prop := k_C2 l G yX1_fall cX1_fall 2 yX4_fall cX4_fall 3 none d kd [.ref b, .ref J] h P
abbrev kf_per (l : Launch) (G : hpG) (d : Nat) (kd : Int) (b J : Nat) (h : hpT) (P : Option Value → hpT → Prop) : Prop := k_C2 l G yX1_perish cX1_perish 5 yX4_perish cX4_perish 2 (some .int) d kd [.ref b, .ref J] h P
set_option maxHeartbeats 4000000 in
theorem kl_fa {M : hpM} {G : hpG} {d : Nat} {h0 : hpT} {pr : Nat → Prop} {B : hpT} {N S : Nat} {κ : kS} (C : hp_F M G yX1_fallAll cX1_fallAll 4 d h0) (hr : (hp_mt M).sig.returnType = none) {f n D : Nat} {L : List Nat} (hD : D + 1 ≤ d) (hd : 3 ≤ d) (hch : ∀ (c : Nat) (a : aS) (h : hpT), KR G pr B N S h κ a → a_T a → c < a_mk a → (9 : Int) ≤ f + a_nd a 2 c → (a_ev (a_ce false f c a).2).length < 2 ^ 30 → kf_fall M.2.1 G D (a_nd a 0 c) (κ.1 0 c) (κ.1 5 1) h (fun v h' => v = none ∧ KR G pr B N S h' κ (a_ce false f c a).2)) {X : String → hpT → Prop} {P : Option Value → hpT → Prop} : ∀ (j : Nat) (lo : Nat → Option Value) (h : hpT) (a : aS), KR G pr B N S h κ a → a_lv f n L a → j ≤ L.length → (a_ev (a_cR (a_ce false f) (L.take j).reverse a).2).length < 2 ^ 30 → lo 0 = some (.ref (κ.1 0 n)) → lo 1 = some (.ref (κ.1 5 1)) → lo 2 = some (.int (nI j - 1)) → (∀ h', KR G pr B N S h' κ (a_cR (a_ce false f) (L.take j).reverse a).2 → P none h') → hp_V M G 4 (hp_Q M G h0 P X) h 10 lo [] := by
  intro j
  induction j with
  | zero =>
    intro lo h a K X hj hv e0 e1 e2 hP
    have hn := X.2.1
    have hk := X.2.2.1
    have T := X.1
    have hl := T.rl hn
    have eL := X.2.2.2.2
    refine hp_iload_n C dX1_fallAll_10 e2 ?_
    refine hp_if_lt (tgt := 45) C dX1_fallAll_11 (by decide) (fun _ => ?_) (fun z_9 => absurd (show (nI 0 - 1 : Int32) < 0 by decide) z_9)
    refine hp_vret C hr dX1_fallAll_45 ?_
    exact hP h K
  | succ j ih =>
    intro lo h a K X hj hv e0 e1 e2 hP
    have hn := X.2.1
    have hk := X.2.2.1
    have T := X.1
    have hl := T.rl hn
    have eL := X.2.2.2.2
    rw [nI_pred] at e2
    subst eL
    have hjl : j < (a_rw a n).length := by omega
    obtain ⟨hc, h9⟩ := X.c hjl
    have hb := T.kb hc
    have r3 := T.r3 hc
    rw [k_tk hjl] at hv hP
    generalize hcc : (a_rw a n).getD j 0 = c at hc h9 hb r3 hv hP
    refine hp_iload_n C dX1_fallAll_10 e2 ?_
    refine hp_if_lt (tgt := 45) C dX1_fallAll_11 (by decide) (fun z_9 => absurd z_9 (nI_pos (by omega))) (fun _ => ?_)
    refine hp_aload_nR C dX1_fallAll_14 e0 ?_
    refine hp_get C fl_X1_14_2 dX1_fallAll_15 (K.isK hn hk) (K.f69 hn hk) ?_
    refine hp_iload_n C dX1_fallAll_18 e2 ?_
    refine hp_callV (ci := 0) C ml_X1_68 im_Jx4a65c_get_915e3 se_Jx4a65c_get_915e3 rfl (by decide) (kc_get (d := d - 1) K hn hk (i := j) hjl hl (by omega)) (by omega) dX1_fallAll_19 (K.isL hn hk) rfl rfl (by simp [Value.category]) (fun v_19 h_19 hp => ?_) (fun _ _ hf => hf.elim)
    obtain ⟨rfl, e_19⟩ := hp
    rw [e_19, hcc]
    refine kc_cast C K hc hb cl_X1_4 (by decide) (by decide) dX1_fallAll_22 ?_
    refine hp_astore_n (r := some _) C dX1_fallAll_25 (by decide) ?_
    refine hp_aload_nR C dX1_fallAll_26 rfl ?_
    refine kg_N C K hc hb (by decide) fl_X1_72_2 fl_X1_72_4 dX1_fallAll_27 (K.f68 hc) ?_
    refine hp_iconst (v := 1) C dX1_fallAll_30 (by decide) ?_
    refine hp_icmp_ne (tgt := 39) C dX1_fallAll_31 (by decide) (fun c_31 => ?_) (fun c_31 => ?_)
    · have hu : ¬ a_nd a 3 c = 1 := fun e => c_31 (by rw [e]; decide)
      rw [a_cR_dn hu] at hv hP
      refine hp_iinc C dX1_fallAll_39 e2 (by decide) rfl ?_
      refine hp_goto (tgt := 10) C dX1_fallAll_42 (by decide) ?_
      exact ih _ _ _ K (X) (by omega) hv e0 e1 ((va_up_self _ _ _).trans (by rw [k_dec])) hP
    · have hu : a_nd a 3 c = 1 := (a_ofI_eq (x := a_nd a 3 c) (y := 1) (by omega) (by omega)).mp c_31
      rw [a_cR_up hu] at hv hP
      refine hp_aload_nR C dX1_fallAll_34 rfl ?_
      refine hp_aload_nR C dX1_fallAll_35 e1 ?_
      refine hp_callN C K hc hb ul_X1_84_X1 ul_X1_84_X4 (hch c a h K T hc h9 (Nat.lt_of_le_of_lt (a_cR_kp (a_ce_kp false f) _ _).ev hv)) (by omega) dX1_fallAll_36 rfl rfl (by simp [Value.category]) (fun v_36 h_36 hp => ?_)
      obtain ⟨rfl, K_36⟩ := hp
      refine hp_iinc C dX1_fallAll_39 e2 (by decide) rfl ?_
      refine hp_goto (tgt := 10) C dX1_fallAll_42 (by decide) ?_
      exact ih _ _ _ K_36 (X.kp (a_ce_kp false f c a)) (by omega) hv e0 e1 ((va_up_self _ _ _).trans (by rw [k_dec])) hP
set_option maxRecDepth 20000 in
set_option maxHeartbeats 4000000 in
theorem kc_fa {l : Launch} {G : hpG} {pr : Nat → Prop} {B : hpT} {N S : Nat} {h : hpT} {κ : kS} {a : aS} {d f n D : Nat} {L : List Nat} (K : KR G pr B N S h κ a) (X : a_lv f n L a) (hD : D + 1 ≤ d) (hd : 3 ≤ d) (hch : ∀ (c : Nat) (a : aS) (h : hpT), KR G pr B N S h κ a → a_T a → c < a_mk a → (9 : Int) ≤ f + a_nd a 2 c → (a_ev (a_ce false f c a).2).length < 2 ^ 30 → kf_fall l G D (a_nd a 0 c) (κ.1 0 c) (κ.1 5 1) h (fun v h' => v = none ∧ KR G pr B N S h' κ (a_ce false f c a).2)) (hv : (a_ev (a_cR (a_ce false f) L.reverse a).2).length < 2 ^ 30) : hp_C l G yX1_fallAll (.code yX1_fallAll cX1_fallAll 4 none) d [.ref (κ.1 0 n), .ref (κ.1 5 1)] (h) (fun v h' => v = none ∧ KR G pr B N S h' κ (a_cR (a_ce false f) L.reverse a).2) (fun _ _ => False) := by
  refine hp_ofV (by decide) (by simp [Value.category]) (Nat.le_of_ble_eq_true rfl) (fun M C hr hx el => ?_)
  subst el
  have hn := X.2.1
  have hk := X.2.2.1
  have eL := X.2.2.2.2
  subst eL
  refine hp_aload_nR C dX1_fallAll_0 rfl ?_
  refine hp_get C fl_X1_14_2 dX1_fallAll_1 (K.isK hn hk) (K.f69 hn hk) ?_
  refine hp_callV (ci := 0) C ml_X1_64 im_Jx4a65c_size_8abf5 se_Jx4a65c_size_8abf5 rfl (by decide) (kc_size (d := d - 1) K hn hk) (by omega) dX1_fallAll_4 (K.isL hn hk) rfl rfl (by simp [Value.category]) (fun v_4 h_4 hp => ?_) (fun _ _ hf => hf.elim)
  obtain ⟨rfl, e_4⟩ := hp
  rw [e_4]
  refine hp_iconst (v := 1) C dX1_fallAll_7 (by decide) ?_
  refine hp_isub C dX1_fallAll_8 ?_
  refine hp_istore_n C dX1_fallAll_9 (by decide) ?_
  exact kl_fa C hr hD hd hch (a_rw a n).length _ h a K X (Nat.le_refl _) (by rw [List.take_length]; exact hv) rfl rfl rfl (fun h' K' => ⟨rfl, by rw [List.take_length] at K'; exact K'⟩)
set_option maxRecDepth 20000 in
set_option maxHeartbeats 4000000 in
theorem kc_fall {l : Launch} {G : hpG} {pr : Nat → Prop} {B : hpT} {N S : Nat} {κ : kS} : ∀ (f n : Nat) (a : aS) (h : hpT) (D : Nat), KR G pr B N S h κ a → a_T a → n < a_mk a → (9 : Int) ≤ f + a_nd a 2 n → 2 * f + 6 ≤ D → (a_ev (a_ce false f n a).2).length < 2 ^ 30 → kf_fall l G D (a_nd a 0 n) (κ.1 0 n) (κ.1 5 1) h (fun v h' => v = none ∧ KR G pr B N S h' κ (a_ce false f n a).2) := by
  intro f
  induction f with
  | zero =>
    intro n a h D K T hn h9
    have := (T.r2 hn).2
    omega
  | succ f ih =>
    intro n a h D K T hn h9 hD hv
    refine ⟨fun hk => ?_, fun hk => ?_⟩
    · rw [a_ce_k hk] at hv ⊢
      have X : a_lv f n (a_rw a n) a := ⟨T, hn, hk, by omega, rfl⟩
      have k1 := a_cR_kp (a_ce_kp false f) (a_rw a n).reverse a
      have hv1 : (a_ev (a_cR (a_ce false f) (a_rw a n).reverse a).2).length < 2 ^ 30 := Nat.lt_of_le_of_lt (a_kp.no (a_sn (a_cR (a_ce false f) (a_rw a n).reverse a).2 3 n 0) 3 n 0).ev hv
      have hn1 : n < a_mk (a_cR (a_ce false f) (a_rw a n).reverse a).2 := by rw [k1.mk]; exact hn
      have hk1 : a_nd (a_cR (a_ce false f) (a_rw a n).reverse a).2 0 n = 1 := by rw [k1.nd]; exact hk
      refine hp_ofV (by decide) (by simp [Value.category]) (Nat.le_of_ble_eq_true rfl) (fun M C hr hx el => ?_)
      subst el
      refine hp_aload_nR C dX1_fall_0 rfl ?_
      refine hp_aload_nR C dX1_fall_1 rfl ?_
      refine hp_callV (ci := 2) C ml_X1_44 im_X1_fallAll se_X1_fallAll rfl (by decide) (kc_fa (d := D - 1) (D := D - 2) K X (by omega) (by omega) (fun c a h K T hc h9 hv => ih c a h (D - 2) K T hc h9 (by omega) hv) hv1) (by omega) dX1_fall_2 (K.isK hn hk) rfl rfl (by simp [Value.category]) (fun v_2 h_2 hp => ?_) (fun _ _ hf => hf.elim)
      obtain ⟨rfl, K_2⟩ := hp
      refine hp_aload_nR C dX1_fall_5 rfl ?_
      refine hp_iconst (v := 0) C dX1_fall_6 (by decide) ?_
      refine kp_68K C K_2 hn1 hk1 fl_X1_52_2 0 (by decide) dX1_fall_7 (fun h_7 K_7 => ?_)
      refine hp_aload_nR C dX1_fall_10 rfl ?_
      refine hp_iconst (v := 3) C dX1_fall_11 (by decide) ?_
      refine hp_aload_nR C dX1_fall_12 rfl ?_
      refine hp_get C fl_X1_55_2 dX1_fall_13 (K_7.isK hn1 hk1) (K_7.f64 hn1) ?_
      refine hp_iconst (v := 0) C dX1_fall_16 (by decide) ?_
      refine hp_callV (ci := 1) C ml_X1_58 im_X0_tell se_X0_tell rfl (by decide) (kc_tell (d := D - 1) (w := 3) (n := n) (r := 0) K_7 hv1) (by omega) dX1_fall_17 K_7.isJ rfl rfl (by simp [Value.category]) (fun v_17 h_17 hp => ?_) (fun _ _ hf => hf.elim)
      obtain ⟨rfl, K_17⟩ := hp
      refine hp_vret C hr dX1_fall_20 ?_
      exact ⟨rfl, K_17⟩
    · rw [a_ce_w hk] at hv ⊢
      exact kc_fallW K T hn hk (Nat.lt_of_le_of_lt (a_end_kp false n a).ev hv) (by omega)
