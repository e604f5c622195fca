/-! ===== GONE, with all below ===== -/
def a_vR (f : Nat → aS → Nat × aS) : List Nat → aS → Nat × aS
  | [], a => (0, a)
  | c :: r, a => ((f c a).1 + (a_vR f r (f c a).2).1, (a_vR f r (f c a).2).2)
def a_va : Nat → Nat → aS → Nat × aS
  | 0, _, a => (0, a)
  | d + 1, n, a => if a_nd a 0 n = 0 then (1, a_sn a 3 n 2) else (1 + (a_vR (a_va d) (a_rw a n) (a_sn a 3 n 2)).1, (a_vR (a_va d) (a_rw a n) (a_sn a 3 n 2)).2)
theorem a_vR_kp {f : Nat → aS → Nat × aS} (hf : ∀ c a, a_kp a (f c a).2) : ∀ (l : List Nat) (a : aS), a_kp a (a_vR f l a).2
  | [], a => a_kp.rf a
  | c :: r, a => (hf c a).tr (a_vR_kp hf r _)
theorem a_va_kp : ∀ (d n : Nat) (a : aS), a_kp a (a_va d n a).2
  | 0, _, a => a_kp.rf a
  | d + 1, n, a => by
    unfold a_va
    split
    · exact a_kp.sn3 a n (by omega)
    · exact (a_kp.sn3 a n (by omega)).tr (a_vR_kp (a_va_kp d) _ _)
abbrev kf_van (l : Launch) (G : hpG) (d : Nat) (kd : Int) (b : Nat) (h : hpT) (P : Option Value → hpT → Prop) : Prop := k_C2 l G yX1_vanish cX1_vanish 3 yX4_vanish cX4_vanish 1 (some .int) d kd [.ref b] h P
set_option maxHeartbeats 4000000 in
theorem kl_va {M : hpM} {G : hpG} {d : Nat} {h0 : hpT} {pr : Nat → Prop} {B : hpT} {N S : Nat} {κ : kS} (C : hp_F M G yX1_vanish cX1_vanish 3 d h0) (hr : (hp_mt M).sig.returnType = some .int) {f n D : Nat} {L : List Nat} (hD : D + 1 ≤ d) (hd : 3 ≤ d) (hch : ∀ (c : Nat) (a : aS) (h : hpT), KR G pr B N S h κ a → a_T a → c < a_mk a → (9 : Int) ≤ f + a_nd a 2 c → kf_van M.2.1 G D (a_nd a 0 c) (κ.1 0 c) h (fun v h' => v = some (.int (nI (a_va f c a).1)) ∧ KR G pr B N S h' κ (a_va f c a).2)) {X : String → hpT → Prop} {P : Option Value → hpT → Prop} : ∀ (k j q : Nat) (lo : Nat → Option Value) (h : hpT) (a : aS), j + k = L.length → KR G pr B N S h κ a → a_lv f n L a → lo 0 = some (.ref (κ.1 0 n)) → lo 1 = some (.int (nI q)) → lo 2 = some (.int (nI j)) → (∀ h', KR G pr B N S h' κ (a_vR (a_va f) (L.drop j) a).2 → P (some (.int (nI (q + (a_vR (a_va f) (L.drop j) a).1)))) h') → hp_V M G 3 (hp_Q M G h0 P X) h 9 lo [] := by
  intro k
  induction k with
  | zero =>
    intro j q lo h a hj K X e0 e1 e2 hP
    have hn := X.2.1
    have hk := X.2.2.1
    have T := X.1
    have hl := T.rl hn
    have eL := X.2.2.2.2
    have ej : L.drop j = [] := List.drop_eq_nil_of_le (by omega)
    rw [ej] at hP
    subst eL
    refine hp_iload_n C dX1_vanish_9 e2 ?_
    refine hp_aload_nR C dX1_vanish_10 e0 ?_
    refine hp_get C fl_X1_14_2 dX1_vanish_11 (K.isK hn hk) (K.f69 hn hk) ?_
    refine hp_callV (ci := 0) C ml_X1_64 im_Jx4a65c_size_8abf5 se_Jx4a65c_size_8abf5 rfl (by decide) (kc_size (d := d - 1) K hn hk) (by omega) dX1_vanish_14 (K.isL hn hk) rfl rfl (by simp [Value.category]) (fun v_14 h_14 hp => ?_) (fun _ _ hf => hf.elim)
    obtain ⟨rfl, e_14⟩ := hp
    rw [e_14]
    refine hp_icmp_ge (tgt := 43) C dX1_vanish_17 (by decide) (fun _ => ?_) (fun z_9 => absurd (nI_le (by omega) (by omega)) z_9)
    refine hp_iload_n C dX1_vanish_43 e1 ?_
    refine hp_iret C hr rfl dX1_vanish_44 ?_
    exact hP h K
  | succ k ih =>
    intro j q lo h a hj K X e0 e1 e2 hP
    have hn := X.2.1
    have hk := X.2.2.1
    have T := X.1
    have hl := T.rl hn
    have eL := X.2.2.2.2
    subst eL
    have hjl : j < (a_rw a n).length := by omega
    obtain ⟨hc, h9⟩ := X.c hjl
    have hb := T.kb hc
    rw [k_dp hjl] at hP
    generalize hcc : (a_rw a n).getD j 0 = c at hc h9 hb hP
    refine hp_iload_n C dX1_vanish_9 e2 ?_
    refine hp_aload_nR C dX1_vanish_10 e0 ?_
    refine hp_get C fl_X1_14_2 dX1_vanish_11 (K.isK hn hk) (K.f69 hn hk) ?_
    refine hp_callV (ci := 0) C ml_X1_64 im_Jx4a65c_size_8abf5 se_Jx4a65c_size_8abf5 rfl (by decide) (kc_size (d := d - 1) K hn hk) (by omega) dX1_vanish_14 (K.isL hn hk) rfl rfl (by simp [Value.category]) (fun v_14 h_14 hp => ?_) (fun _ _ hf => hf.elim)
    obtain ⟨rfl, e_14⟩ := hp
    rw [e_14]
    refine hp_icmp_ge (tgt := 43) C dX1_vanish_17 (by decide) (fun z_9 => absurd z_9 (nI_ge (by omega) (by omega))) (fun _ => ?_)
    refine hp_iload_n C dX1_vanish_20 e1 ?_
    refine hp_aload_nR C dX1_vanish_21 e0 ?_
    refine hp_get C fl_X1_14_2 dX1_vanish_22 (K.isK hn hk) (K.f69 hn hk) ?_
    refine hp_iload_n C dX1_vanish_25 e2 ?_
    refine hp_callV (ci := 0) C ml_X1_68 im_Jx4a65c_get_915e3 se_Jx4a65c_get_915e3 rfl (by decide) (kc_get (d := d - 1) K hn hk (i := j) hjl hl (by omega)) (by omega) dX1_vanish_26 (K.isL hn hk) rfl rfl (by simp [Value.category]) (fun v_26 h_26 hp => ?_) (fun _ _ hf => hf.elim)
    obtain ⟨rfl, e_26⟩ := hp
    rw [e_26, hcc]
    refine kc_cast C K hc hb cl_X1_4 (by decide) (by decide) dX1_vanish_29 ?_
    refine hp_callN C K hc hb ul_X1_77_X1 ul_X1_77_X4 (hch c a h K T hc h9) (by omega) dX1_vanish_32 rfl rfl (by simp [Value.category]) (fun v_32 h_32 hp => ?_)
    obtain ⟨rfl, K_32⟩ := hp
    refine hp_iadd C dX1_vanish_35 ?_
    rw [nI_add]
    refine hp_istore_n C dX1_vanish_36 (by decide) ?_
    refine hp_iinc C dX1_vanish_37 e2 (by decide) rfl ?_
    refine hp_goto (tgt := 9) C dX1_vanish_40 (by decide) ?_
    exact ih (j + 1) _ _ _ _ (by omega) K_32 (X.kp (a_va_kp f c a)) e0 rfl ((va_up_self _ _ _).trans (by rw [show Int32.ofInt 1 = 1 from rfl, nI_1])) (fun h' K' => by rw [Nat.add_assoc]; exact hP h' K')
set_option maxRecDepth 20000 in
set_option maxHeartbeats 4000000 in
theorem kc_vanish {l : Launch} {G : hpG} {pr : Nat → Prop} {B : hpT} {N S : Nat} {κ : kS} : ∀ (f n : Nat) (a : aS) (h : hpT) (D : Nat), KR G pr B N S h κ a → a_T a → n < a_mk a → (9 : Int) ≤ f + a_nd a 2 n → f + 6 ≤ D → kf_van l G D (a_nd a 0 n) (κ.1 0 n) h (fun v h' => v = some (.int (nI (a_va f n a).1)) ∧ KR G pr B N S h' κ (a_va f n a).2) := by
  intro f
  induction f with
  | zero =>
    intro n a h D K T hn h9
    have := (T.r2 hn).2
    omega
  | succ f ih =>
    intro n a h D K T hn h9 hD
    refine ⟨fun hk => ?_, fun hk => ?_⟩
    · have ev : a_va (f + 1) n a = (1 + (a_vR (a_va f) (a_rw a n) (a_sn a 3 n 2)).1, (a_vR (a_va f) (a_rw a n) (a_sn a 3 n 2)).2) := if_neg (by omega)
      rw [ev]
      have X : a_lv f n (a_rw a n) (a_sn a 3 n 2) := a_lv.kp (a := a) ⟨T, hn, hk, by omega, rfl⟩ (a_kp.sn3 a n (by omega))
      refine hp_ofV (by decide) (by simp [Value.category]) (Nat.le_of_ble_eq_true rfl) (fun M C hr hx el => ?_)
      subst el
      refine hp_aload_nR C dX1_vanish_0 rfl ?_
      refine hp_iconst (v := 2) C dX1_vanish_1 (by decide) ?_
      refine kp_68K C K hn hk fl_X1_52_2 2 (by decide) dX1_vanish_2 (fun h_2 K_2 => ?_)
      refine hp_iconst (v := 1) C dX1_vanish_5 (by decide) ?_
      refine hp_istore_n C dX1_vanish_6 (by decide) ?_
      refine hp_iconst (v := 0) C dX1_vanish_7 (by decide) ?_
      refine hp_istore_n C dX1_vanish_8 (by decide) ?_
      exact kl_va (D := D - 1) C hr (by omega) (by omega) (fun c a h K T hc h9 => ih c a h (D - 1) K T hc h9 (by omega)) (a_rw a n).length 0 1 _ _ _ (by omega) K_2 X rfl rfl rfl (fun h' K' => ⟨rfl, K'⟩)
    · have ev : a_va (f + 1) n a = (1, a_sn a 3 n 2) := if_pos hk
      rw [ev]
      exact kc_vanishW K hn hk
