theorem kj_fl {G : hpG} {h : hpT} {k f b : Nat} {v : Value} (e : hp_fl (kc_K4 G h k) f b = v) : hp_fl (kc_K3 G h k) f b = v := by
  unfold kc_K4 at e
  rw [hp_set_fl] at e
  exact e
theorem kj_kd {G : hpG} {h : hpT} {k b v : Nat} (e : hp_kd (kc_K4 G h k) b = v) : hp_kd (kc_K3 G h k) b = v := by
  unfold kc_K4 at e
  rw [hp_set_kd] at e
  exact e
theorem kj_ln {G : hpG} {h : hpT} {k b v : Nat} (e : hp_ln (kc_K4 G h k) b = v) : hp_ln (kc_K3 G h k) b = v := by
  unfold kc_K4 at e
  rw [hp_set_ln] at e
  exact e
theorem kj_nx {G : hpG} {h : hpT} {k v : Nat} (e : hp_nx (kc_K4 G h k) = v) : hp_nx (kc_K3 G h k) = v := by
  unfold kc_K4 at e
  rw [hp_set_nx] at e
  exact e
theorem hp_set_sl (h : hpT) (a i : Nat) (v : Value) : hp_sl (hp_set h a i v) = hp_sl h := rfl
theorem kj_sl {G : hpG} {h : hpT} {k : Nat} : hp_sl (kc_K4 G h k) = hp_sl (kc_K3 G h k) := by
  unfold kc_K4
  rw [hp_set_sl]
theorem kj_eV {G : hpG} {h : hpT} {k : Nat} : hp_set (kc_K3 G h k) (k + 7) (0 : Int32).toNatClampNeg (.ref (k + 8)) = kc_K4 G h k := by
  unfold kc_K4
  rfl
theorem kj_eG {G : hpG} {h : hpT} {k : Nat} : hp_put (hp_put (hp_put (hp_put (kc_Keep G (hp_mk (hp_put (hp_mkA (hp_put (kc_Jou (hp_mk h 1 3) (k + 1)) (hp_fd 5 0) k (.ref (k + 1))) 4 80 .null) (hp_fd 5 1) k (.ref (k + 7))) 2 10) (k + 8) 0 none 0 0 0 1 5) (hp_fd 5 2) k (.ref (k + 8))) (hp_fd 5 3) k (.int 1)) (hp_fd 5 4) k (.int 0)) (hp_fd 5 5) k (.int 0) = kc_K3 G h k := by
  unfold kc_K3 kc_K2 kc_K1
  rfl
theorem hp_is_put {G : hpG} {h : hpT} {a ci f b : Nat} {v : Value} (x : hp_is G h a ci) : hp_is G (hp_put h f b v) a ci := x
set_option maxRecDepth 20000 in
set_option maxHeartbeats 4000000 in
theorem kc_ktI {l : Launch} {G : hpG} {h : hpT} {k d : Nat} (hd : 8 ≤ d) (hx0 : hp_nx h = k + 1) (hk : hp_is G h k 5) (rm : hp_nx h + 300 ≤ hp_n0 G + hp_LC ∧ hp_sl h + 40000 ≤ hp_LS) : hp_C l G yX5_init (.code yX5_init cX5_init 1 none) d [.ref k] (h) (fun v h' => v = none ∧ ∃ h2, h' = kt_w G h2 k kt_s0 ∧ kt_sh G h2 k ∧ hp_nx h2 = k + 12 ∧ hp_sl h2 ≤ hp_sl h + 3000) (fun _ _ => False) := by
  refine hp_ofV (by decide) (by simp [Value.category]) (Nat.le_of_ble_eq_true rfl) (fun M C hr hx el => ?_)
  have r1 := rm.1
  have r2 := rm.2
  have hn : hp_n0 G ≤ hp_nx h := Nat.le_of_lt (Nat.lt_of_le_of_lt hk.1 hk.2.1)
  have hk0 := hk.1
  refine hp_aload_nR C dX5_init_0 rfl ?_
  refine hp_obj C ob_X5_1 ob_i ob_c (by omega) dX5_init_1 (by simp [Value.category]) ?_
  refine hp_aload_nR C dX5_init_4 rfl ?_
  refine hp_new C nl_X5_7 dX5_init_5 (by omega) (by omega) ?_
  have iJ : hp_is G (hp_mk h 1 3) (hp_nx h) 1 := hp_isN hn 1 3
  have ikA : hp_is G (hp_mk h 1 3) k 5 := hk.mk 1 3
  have nA : hp_nx (hp_mk h 1 3) = hp_nx h + 1 := rfl
  have sA : hp_sl (hp_mk h 1 3) = hp_sl h + 3 := rfl
  rw [hx0] at iJ ⊢
  generalize eA : hp_mk h 1 3 = A at iJ ikA nA sA ⊢
  refine hp_dup C dX5_init_8 rfl ?_
  refine hp_callIN C cw_X0_init in_X0_init nk_X5_9 ⟨by decide, by decide, by decide +kernel⟩ (by decide) im_X0_init rfl (kc_joI0 (d := d - 1) (by omega) iJ ⟨by omega, by omega⟩) (by omega) dX5_init_9 rfl rfl (by simp [Value.category]) (fun v_1 h_1 hp => ?_)
  obtain ⟨rfl, eB⟩ := hp
  have ikB : hp_is G h_1 k 5 := by rw [eB]; exact ikA.mkM 4 600
  have nB : hp_nx h_1 = hp_nx A + 5 := by rw [eB]; rfl
  have sB : hp_sl h_1 = hp_sl A + 2404 := by rw [eB]; rfl
  refine hp_putF C fl_X5_10_5 rfl rfl rfl rfl dX5_init_12 ikB ?_
  generalize eC : hp_put h_1 (hp_fd 5 0) k (.ref (k + 1)) = B
  have ikC : hp_is G B k 5 := by rw [← eC]; exact ikB
  have nC : hp_nx B = k + 7 := by rw [← eC]; show hp_nx h_1 = _; omega
  have sC : hp_sl B = hp_sl h + 2407 := by rw [← eC]; show hp_sl h_1 = _; omega
  refine hp_aload_nR C dX5_init_15 rfl ?_
  refine hp_bipush (v := 80) C dX5_init_16 (by decide) ?_
  refine hp_anew C 4 (N := 80) rfl (by decide) cl_X5_16 (by decide) dX5_init_18 (by decide) rfl (by decide) (by omega) (by omega) ?_
  rw [nC]
  refine hp_putF C fl_X5_18_5 rfl rfl rfl rfl dX5_init_21 (ikC.mkA 4 80 .null) ?_
  generalize eD : hp_put (hp_mkA B 4 80 .null) (hp_fd 5 1) k (.ref (k + 7)) = D
  have ikD : hp_is G D k 5 := by rw [← eD]; exact ikC.mkA 4 80 .null
  have nD : hp_nx D = k + 8 := by rw [← eD]; show hp_nx B + 1 = _; omega
  have sD : hp_sl D = hp_sl h + 2487 := by rw [← eD]; show hp_sl B + 80 = _; omega
  refine hp_aload_nR C dX5_init_24 rfl ?_
  refine hp_new C nl_X5_22 dX5_init_25 (by omega) (by omega) ?_
  have iK : hp_is G (hp_mk D 2 10) (hp_nx D) 2 := hp_isN (by omega) 2 10
  have ikE : hp_is G (hp_mk D 2 10) k 5 := ikD.mk 2 10
  have nE : hp_nx (hp_mk D 2 10) = hp_nx D + 1 := rfl
  have sE : hp_sl (hp_mk D 2 10) = hp_sl D + 10 := rfl
  rw [nD] at iK ⊢
  generalize eE : hp_mk D 2 10 = E at iK ikE nE sE ⊢
  refine hp_dup C dX5_init_28 rfl ?_
  refine hp_iconst (v := 0) C dX5_init_29 (by decide) ?_
  refine hp_null C dX5_init_30 ?_
  refine hp_iconst (v := 0) C dX5_init_31 (by decide) ?_
  refine hp_iconst (v := 0) C dX5_init_32 (by decide) ?_
  refine hp_iconst (v := 1) C dX5_init_33 (by decide) ?_
  refine hp_iconst (v := 5) C dX5_init_34 (by decide) ?_
  refine hp_callI C ml_X5_24 im_X1_init rfl (kc_keI (d := d - 1) (by omega) iK ⟨by omega, by omega⟩) (by omega) dX5_init_35 rfl rfl (by simp [Value.category]) (fun v_1 h_2 hp => ?_)
  obtain ⟨rfl, eF⟩ := hp
  have ikF : hp_is G h_2 k 5 := by rw [eF]; exact ((ikE.mk 0 3).mk 3 2).mkA 0 8 (.int 0)
  have sF : hp_sl h_2 = hp_sl E + 13 := by rw [eF]; rfl
  refine hp_putF C fl_X5_27_5 rfl rfl rfl rfl dX5_init_38 ikF ?_
  refine hp_aload_nR C dX5_init_41 rfl ?_
  refine hp_iconst (v := 1) C dX5_init_42 (by decide) ?_
  refine hp_putf C fl_X5_31_5 rfl rfl rfl dX5_init_43 ikF ?_
  refine hp_aload_nR C dX5_init_46 rfl ?_
  refine hp_iconst (v := 0) C dX5_init_47 (by decide) ?_
  refine hp_putf C fl_X5_35_5 rfl rfl rfl dX5_init_48 ikF ?_
  refine hp_aload_nR C dX5_init_51 rfl ?_
  refine hp_iconst (v := 0) C dX5_init_52 (by decide) ?_
  refine hp_putf C fl_X5_38_5 rfl rfl rfl dX5_init_53 ikF ?_
  have eG : hp_put (hp_put (hp_put (hp_put h_2 (hp_fd 5 2) k (.ref (k + 8))) (hp_fd 5 3) k (.int 1)) (hp_fd 5 4) k (.int 0)) (hp_fd 5 5) k (.int 0) = kc_K3 G h k := by rw [eF, ← eE, ← eD, ← eC, eB, ← eA]; exact kj_eG
  rw [eG]
  have n4 : hp_nx (kc_K3 G h k) = k + 12 := kj_nx (kc_K4_nx hx0)
  have s4 : hp_sl (kc_K3 G h k) = hp_sl h_2 := by rw [← eG]; rfl
  have ik4 : hp_is G (kc_K3 G h k) k 5 := by rw [← eG]; exact ikF
  have i7 : hp_is G (kc_K3 G h k) (k + 7) 14 := ⟨by omega, by omega, kj_kd (ki_k7 hx0 hk.2.2)⟩
  have i8 : hp_is G (kc_K3 G h k) (k + 8) 2 := ⟨by omega, by omega, kj_kd (ki_k8 hx0 hk.2.2)⟩
  have l7 : hp_ln (kc_K3 G h k) (k + 7) = 80 := kj_ln (ki_l7 hx0)
  have g1 : hp_fl (kc_K3 G h k) 161 k = .ref (k + 7) := kj_fl (ki_f161 hx0)
  have g2 : hp_fl (kc_K3 G h k) 162 k = .ref (k + 8) := kj_fl (ki_f162 hx0)
  have eV : hp_set (kc_K3 G h k) (k + 7) (0 : Int32).toNatClampNeg (.ref (k + 8)) = kc_K4 G h k := kj_eV
  obtain ⟨sh, vw⟩ := kt_ini hx0 hk
  have n5 : hp_nx (kc_K4 G h k) = k + 12 := kc_K4_nx hx0
  have s5 : hp_sl (kc_K4 G h k) = hp_sl (kc_K3 G h k) := kj_sl
  generalize kc_K4 G h k = X4 at eV sh vw n5 s5
  generalize kc_K3 G h k = X3 at n4 s4 ik4 i7 i8 l7 g1 g2 eV s5 ⊢
  refine hp_aload_nR C dX5_init_56 rfl ?_
  refine hp_get (v := .ref (k + 7)) C fl_X5_18_5 dX5_init_57 ik4 g1 ?_
  refine hp_iconst (v := 0) C dX5_init_60 (by decide) ?_
  refine hp_aload_nR C dX5_init_61 rfl ?_
  refine hp_get (v := .ref (k + 8)) C fl_X5_27_5 dX5_init_62 ik4 g2 ?_
  refine hp_aast C 4 2 rfl (by decide) (by decide) rfl (by decide) dX5_init_65 i7 i8 (by rw [l7]; unfold vp_in; decide) ?_
  rw [eV]
  refine hp_vret C hr dX5_init_66 ?_
  exact ⟨rfl, X4, vw, sh, n5, by omega⟩
