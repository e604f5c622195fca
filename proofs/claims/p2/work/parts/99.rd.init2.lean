theorem hp_multiN {M : hpM} {G : hpG} {y : MethodName} {cc : ByteArray} {nL d : Nat} {h0 h : hpT} {Q : State → Prop} {pc : Nat} {lo : Nat → Option Value} {st : List Value} (C : hp_F M G y cc nL d h0) {idx N K : Nat} {n k : Int32} (w1 : Cond.classLink y.cls idx "[[I" ∈ hp_ws) (dd : decode cc pc = .ok (.multianewarray idx 2, 4)) (hn : ¬ n < 0) (hk : ¬ k < 0) (eN : n.toNatClampNeg = N) (eK : k.toNatClampNeg = K) (hn4 : N < 10) (hk4 : K ≤ 1000) (hcl : hp_nx h + 20 ≤ hp_n0 G + hp_LC) (hsl : hp_sl h + 12000 ≤ hp_LS)
    (kk : hp_V M G nL Q (hp_mkM h N K) (pc + 4) lo (.ref (hp_nx h) :: st)) : hp_V M G nL Q h pc lo (.int k :: .int n :: st) := by
  subst eN
  subst eK
  exact hp_multi C w1 dd hn hk hn4 hk4 hcl hsl kk
set_option maxRecDepth 20000 in
set_option maxHeartbeats 4000000 in
theorem kc_joI0 {l : Launch} {G : hpG} {h : hpT} {a d : Nat} (hd : 1 ≤ d) (hi : hp_is G h a 1) (rm : hp_nx h + 100 ≤ hp_n0 G + hp_LC ∧ hp_sl h + 20000 ≤ hp_LS) : hp_C l G yX0_init (.code yX0_init cX0_init 1 none) d [.ref a] (h) (fun v h' => v = none ∧ h' = kc_Jou h a) (fun _ _ => False) := by
  refine hp_ofV (by decide) (by simp [Value.category]) (Nat.le_of_ble_eq_true rfl) (fun M C hr hx el => ?_)
  refine hp_aload_nR C dX0_init_0 rfl ?_
  refine hp_obj C ob_X0_3 ob_i ob_c (by omega) dX0_init_1 (by simp [Value.category]) ?_
  refine hp_aload_nR C dX0_init_4 rfl ?_
  refine hp_iconst (v := 4) C dX0_init_5 (by decide) ?_
  refine hp_sipush (v := 600) C dX0_init_6 (by decide) ?_
  refine hp_multiN C (N := 4) (K := 600) cl_X0_11 dX0_init_9 (by decide) (by decide) rfl rfl (by decide) (by decide) (by have := rm.1; omega) (by have := rm.2; omega) ?_
  refine hp_putF C fl_X0_13_1 rfl rfl rfl rfl dX0_init_13 (hi.mkM 4 600) ?_
  refine hp_aload_nR C dX0_init_16 rfl ?_
  refine hp_iconst (v := 0) C dX0_init_17 (by decide) ?_
  refine hp_putf C fl_X0_16_1 rfl rfl rfl dX0_init_18 (hi.mkM 4 600) ?_
  refine hp_aload_nR C dX0_init_21 rfl ?_
  refine hp_iconst (v := 0) C dX0_init_22 (by decide) ?_
  refine hp_putf C fl_X0_20_1 rfl rfl rfl dX0_init_23 (hi.mkM 4 600) ?_
  refine hp_vret C hr dX0_init_26 ?_
  exact ⟨rfl, rfl⟩
theorem kt_iniX {G : hpG} {X : hpT} {k : Nat} (hn0 : hp_n0 G ≤ k) (hn : hp_nx X = k + 12) (f1 : ∀ o, o < 12 → hp_kd X (k + o) = kt_kd o) (f2 : ∀ o, o < 12 → kt_ai o = true → hp_ln X (k + o) = kt_ln o) (f3 : ∀ f, kt_fi f = true → hp_fl X f (k + kt_off f) = kt_fv G k kt_s0 f) (f4 : ∀ o i, o < 12 → kt_ai o = true → hp_ar X (k + o) i = kt_av k kt_s0 o i) : kt_sh G X k ∧ X = kt_w G X k kt_s0 := by
  refine ⟨⟨hn0, by omega, f1, f2⟩, hp_ext rfl rfl rfl rfl (fun f b => ?_) (fun b i => ?_)⟩
  · rw [kt_w_fl]
    by_cases c : kt_fi f = true ∧ b = k + kt_off f
    · rw [if_pos c, c.2]
      exact f3 f c.1
    · rw [if_neg c]
  · rw [kt_w_ar]
    by_cases c : (k ≤ b ∧ b < k + 12) ∧ kt_ai (b - k) = true
    · rw [if_pos c]
      have := f4 (b - k) i (by omega) c.2
      rw [show k + (b - k) = b by omega] at this
      exact this
    · rw [if_neg c]
theorem kt_ini3 {G : hpG} {h : hpT} {k : Nat} (hx0 : hp_nx h = k + 1) (f : Nat) (c1 : kt_fi f = true) : hp_fl (kc_K4 G h k) f (k + kt_off f) = kt_fv G k kt_s0 f := by
  have h2 : f = 0 ∨ f = 1 ∨ f = 2 ∨ f = 32 ∨ f = 33 ∨ f = 34 ∨ f = 64 ∨ f = 65 ∨ f = 66 ∨ f = 67 ∨ f = 68 ∨ f = 69 ∨ f = 70 ∨ f = 71 ∨ f = 72 ∨ f = 73 ∨ f = 96 ∨ f = 97 ∨ f = 160 ∨ f = 161 ∨ f = 162 ∨ f = 163 ∨ f = 164 ∨ f = 165 := by
    unfold kt_fi at c1
    simp only [Bool.or_eq_true, Bool.and_eq_true, decide_eq_true_eq] at c1
    omega
  rcases h2 with rfl | rfl | rfl | rfl | rfl | rfl | rfl | rfl | rfl | rfl | rfl | rfl | rfl | rfl | rfl | rfl | rfl | rfl | rfl | rfl | rfl | rfl | rfl | rfl
  · rw [show kt_off 0 = 9 from rfl, ki_f0 hx0]
    rfl
  · rw [show kt_off 1 = 9 from rfl, ki_f1 hx0]
    rfl
  · rw [show kt_off 2 = 9 from rfl, ki_f2 hx0]
    rfl
  · rw [show kt_off 32 = 1 from rfl, ki_f32 hx0]
    rfl
  · rw [show kt_off 33 = 1 from rfl, ki_f33 hx0]
    rfl
  · rw [show kt_off 34 = 1 from rfl, ki_f34 hx0]
    rfl
  · rw [show kt_off 64 = 8 from rfl, ki_f64 hx0]
    rfl
  · rw [show kt_off 65 = 8 from rfl, ki_f65 hx0]
    rfl
  · rw [show kt_off 66 = 8 from rfl, ki_f66 hx0]
    rfl
  · rw [show kt_off 67 = 8 from rfl, ki_f67 hx0]
    rfl
  · rw [show kt_off 68 = 8 from rfl, ki_f68 hx0]
    rfl
  · rw [show kt_off 69 = 8 from rfl, ki_f69 hx0]
    rfl
  · rw [show kt_off 70 = 8 from rfl, ki_f70 hx0]
    rfl
  · rw [show kt_off 71 = 8 from rfl, ki_f71 hx0]
    rfl
  · rw [show kt_off 72 = 8 from rfl, ki_f72 hx0]
    rfl
  · rw [show kt_off 73 = 8 from rfl, ki_f73 hx0]
    rfl
  · rw [show kt_off 96 = 10 from rfl, ki_f96 hx0]
    rfl
  · rw [show kt_off 97 = 10 from rfl, ki_f97 hx0]
    rfl
  · rw [show kt_off 160 = 0 from rfl, ki_f160 hx0]
    rfl
  · rw [show kt_off 161 = 0 from rfl, ki_f161 hx0]
    rfl
  · rw [show kt_off 162 = 0 from rfl, ki_f162 hx0]
    rfl
  · rw [show kt_off 163 = 0 from rfl, ki_f163 hx0]
    rfl
  · rw [show kt_off 164 = 0 from rfl, ki_f164 hx0]
    rfl
  · rw [show kt_off 165 = 0 from rfl, ki_f165 hx0]
    rfl
theorem kt_ini1 {G : hpG} {h : hpT} {k : Nat} (hx0 : hp_nx h = k + 1) (hk : hp_kd h k = 5) (o : Nat) (ho : o < 12) : hp_kd (kc_K4 G h k) (k + o) = kt_kd o := by
  rcases (show o = 0 ∨ o = 1 ∨ o = 2 ∨ o = 3 ∨ o = 4 ∨ o = 5 ∨ o = 6 ∨ o = 7 ∨ o = 8 ∨ o = 9 ∨ o = 10 ∨ o = 11 by omega) with rfl | rfl | rfl | rfl | rfl | rfl | rfl | rfl | rfl | rfl | rfl | rfl
  · rw [ki_k0 hx0 hk]
    rfl
  · rw [ki_k1 hx0 hk]
    rfl
  · rw [ki_k2 hx0 hk]
    rfl
  · rw [ki_k3 hx0 hk]
    rfl
  · rw [ki_k4 hx0 hk]
    rfl
  · rw [ki_k5 hx0 hk]
    rfl
  · rw [ki_k6 hx0 hk]
    rfl
  · rw [ki_k7 hx0 hk]
    rfl
  · rw [ki_k8 hx0 hk]
    rfl
  · rw [ki_k9 hx0 hk]
    rfl
  · rw [ki_k10 hx0 hk]
    rfl
  · rw [ki_k11 hx0 hk]
    rfl
theorem kt_ini2 {G : hpG} {h : hpT} {k : Nat} (hx0 : hp_nx h = k + 1) (o : Nat) (ha : kt_ai o = true) : hp_ln (kc_K4 G h k) (k + o) = kt_ln o := by
  have h2 : o = 2 ∨ o = 3 ∨ o = 4 ∨ o = 5 ∨ o = 6 ∨ o = 7 ∨ o = 11 := by
    unfold kt_ai at ha
    simp only [Bool.or_eq_true, Bool.and_eq_true, decide_eq_true_eq] at ha
    omega
  rcases h2 with rfl | rfl | rfl | rfl | rfl | rfl | rfl
  · rw [ki_l2 hx0]
    rfl
  · rw [ki_l3 hx0]
    rfl
  · rw [ki_l4 hx0]
    rfl
  · rw [ki_l5 hx0]
    rfl
  · rw [ki_l6 hx0]
    rfl
  · rw [ki_l7 hx0]
    rfl
  · rw [ki_l11 hx0]
    rfl
theorem kt_ini4 {G : hpG} {h : hpT} {k : Nat} (hx0 : hp_nx h = k + 1) (o i : Nat) (ha : kt_ai o = true) : hp_ar (kc_K4 G h k) (k + o) i = kt_av k kt_s0 o i := by
  have h2 : o = 2 ∨ o = 3 ∨ o = 4 ∨ o = 5 ∨ o = 6 ∨ o = 7 ∨ o = 11 := by
    unfold kt_ai at ha
    simp only [Bool.or_eq_true, Bool.and_eq_true, decide_eq_true_eq] at ha
    omega
  rcases h2 with rfl | rfl | rfl | rfl | rfl | rfl | rfl
  · rw [ki_a2 hx0 i]
    rfl
  · rw [ki_a3 hx0 i]
    rfl
  · rw [ki_a4 hx0 i]
    rfl
  · rw [ki_a5 hx0 i]
    rfl
  · rw [ki_a6 hx0 i]
    rfl
  · rw [ki_a7 hx0 i]
    rfl
  · rw [ki_a11 hx0 i]
    rfl
theorem kc_K4_nx {G : hpG} {h : hpT} {k : Nat} (hx0 : hp_nx h = k + 1) : hp_nx (kc_K4 G h k) = k + 12 := by
  simp only [kc_K4, kc_K3, kc_K2, kc_K1, kc_Keep, kc_RT, kc_Arr, kc_AL, kc_Node, kc_Jou, hp_mk_nx, hp_mkA_nx, hp_mkM_nx, hp_put_nx, hp_set_nx, hx0]
theorem kt_ini {G : hpG} {h : hpT} {k : Nat} (hx0 : hp_nx h = k + 1) (hk : hp_is G h k 5) : kt_sh G (kc_K4 G h k) k ∧ kc_K4 G h k = kt_w G (kc_K4 G h k) k kt_s0 := kt_iniX hk.1 (kc_K4_nx hx0) (fun o ho => kt_ini1 hx0 hk.2.2 o ho) (fun o _ ha => kt_ini2 hx0 o ha) (fun f c => kt_ini3 hx0 f c) (fun o i _ ha => kt_ini4 hx0 o i ha)
