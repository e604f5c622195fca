/-! ===== constructors: the heap behind each, as a term ===== -/
def kc_AL (h : hpT) (a : Nat) : hpT := hp_put h (hp_fd 0 0) a (.int 0)
def kc_Arr (G : hpG) (h : hpT) (a : Nat) : hpT := hp_put (kc_AL h a) (hp_fd 0 1) a (.ref (hp_dE G))
def kc_RT (h : hpT) (a : Nat) : hpT := hp_put (hp_put (hp_mkA h 0 8 (.int 0)) (hp_fd 3 0) a (.ref (hp_nx h))) (hp_fd 3 1) a (.int 0)
def kc_Node (ci : Nat) (h : hpT) (a : Nat) (n : Int32) (ow : Option Nat) (dp kn : Int32) : hpT := hp_put (hp_put (hp_put (hp_put (hp_put h (hp_fd ci 4) a (.int 0)) (hp_fd ci 0) a (.int n)) (hp_fd ci 1) a (va_rf ow)) (hp_fd ci 2) a (.int dp)) (hp_fd ci 3) a (.int kn)
def kc_Keep (G : hpG) (h : hpT) (a : Nat) (n : Int32) (ow : Option Nat) (dp kn sg r t : Int32) : hpT :=
  hp_put (hp_put (hp_put (hp_put (kc_RT (hp_mk (hp_put (kc_Arr G (hp_mk (kc_Node 2 h a n ow dp kn) 0 3) (hp_nx h)) (hp_fd 2 5) a (.ref (hp_nx h))) 3 2) (hp_nx h + 1)) (hp_fd 2 6) a (.ref (hp_nx h + 1))) (hp_fd 2 7) a (.int sg)) (hp_fd 2 8) a (.int r)) (hp_fd 2 9) a (.int t)
def kc_Jou (h : hpT) (a : Nat) : hpT := hp_put (hp_put (hp_put (hp_mkM h 4 600) (hp_fd 1 0) a (.ref (hp_nx h))) (hp_fd 1 1) a (.int 0)) (hp_fd 1 2) a (.int 0)
set_option maxRecDepth 20000 in
set_option maxHeartbeats 4000000 in
theorem kc_acI {l : Launch} {G : hpG} {h : hpT} {a d : Nat} (hd : 1 ≤ d) (hi : hp_is G h a 0) : hp_C l G yJxa1e45_init_da8c8 (.code yJxa1e45_init_da8c8 cJxa1e45_init_da8c8 1 none) d [.ref a] (h) (fun v h' => v = none ∧ h' = h) (fun _ _ => False) := by
  refine hp_ofV (by decide) (by simp [Value.category]) (Nat.le_of_ble_eq_true rfl) (fun M C hr hx el => ?_)
  refine hp_aload_nR C dJxa1e45_init_da8c8_0 rfl ?_
  refine hp_obj C ob_Jxa1e45_1 ob_i ob_c (by omega) dJxa1e45_init_da8c8_1 (by simp [Value.category]) ?_
  refine hp_vret C hr dJxa1e45_init_da8c8_4 ?_
  exact ⟨rfl, rfl⟩
set_option maxRecDepth 20000 in
set_option maxHeartbeats 4000000 in
theorem kc_alI {l : Launch} {G : hpG} {h : hpT} {a d : Nat} (hd : 2 ≤ d) (hi : hp_is G h a 0) : hp_C l G yJxc12de_init_da8c8 (.code yJxc12de_init_da8c8 cJxc12de_init_da8c8 1 none) d [.ref a] (h) (fun v h' => v = none ∧ h' = kc_AL h a) (fun _ _ => False) := by
  refine hp_ofV (by decide) (by simp [Value.category]) (Nat.le_of_ble_eq_true rfl) (fun M C hr hx el => ?_)
  refine hp_aload_nR C dJxc12de_init_da8c8_0 rfl ?_
  refine hp_callI C ml_Jxc12de_1 im_Jxa1e45_init_da8c8 rfl (kc_acI (d := d - 1) (by omega) hi) (by omega) dJxc12de_init_da8c8_1 rfl rfl (by simp [Value.category]) (fun v_1 h_1 hp => ?_)
  obtain ⟨rfl, rfl⟩ := hp
  refine hp_aload_nR C dJxc12de_init_da8c8_4 rfl ?_
  refine hp_iconst (v := 0) C dJxc12de_init_da8c8_5 (by decide) ?_
  first | refine hp_putF C fl_Jxc12de_7_0 rfl rfl rfl rfl dJxc12de_init_da8c8_6 hi ?_ | refine hp_putf C fl_Jxc12de_7_0 rfl rfl rfl dJxc12de_init_da8c8_6 hi ?_
  refine hp_vret C hr dJxc12de_init_da8c8_9 ?_
  exact ⟨rfl, rfl⟩
set_option maxRecDepth 20000 in
set_option maxHeartbeats 4000000 in
theorem kc_arI {l : Launch} {G : hpG} {h : hpT} {a d : Nat} (hd : 3 ≤ d) (hi : hp_is G h a 0) : hp_C l G yJx4a65c_init_da8c8 (.code yJx4a65c_init_da8c8 cJx4a65c_init_da8c8 1 none) d [.ref a] (h) (fun v h' => v = none ∧ h' = kc_Arr G h a) (fun _ _ => False) := by
  refine hp_ofV (by decide) (by simp [Value.category]) (Nat.le_of_ble_eq_true rfl) (fun M C hr hx el => ?_)
  refine hp_aload_nR C dJx4a65c_init_da8c8_0 rfl ?_
  refine hp_callI C ml_Jx4a65c_1 im_Jxc12de_init_da8c8 rfl (kc_alI (d := d - 1) (by omega) hi) (by omega) dJx4a65c_init_da8c8_1 rfl rfl (by simp [Value.category]) (fun v_1 h_1 hp => ?_)
  obtain ⟨rfl, rfl⟩ := hp
  refine hp_aload_nR C dJx4a65c_init_da8c8_4 rfl ?_
  refine hp_gets C gs_Jx4a65c_39 dJx4a65c_init_da8c8_5 ?_
  first | refine hp_putF C fl_Jx4a65c_9_0 rfl rfl rfl rfl dJx4a65c_init_da8c8_8 hi ?_ | refine hp_putf C fl_Jx4a65c_9_0 rfl rfl rfl dJx4a65c_init_da8c8_8 hi ?_
  refine hp_vret C hr dJx4a65c_init_da8c8_11 ?_
  exact ⟨rfl, rfl⟩
set_option maxRecDepth 20000 in
set_option maxHeartbeats 4000000 in
theorem kc_rtI {l : Launch} {G : hpG} {h : hpT} {a d : Nat} (hd : 1 ≤ d) (hi : hp_is G h a 3) (rm : hp_nx h + 20 ≤ hp_n0 G + hp_LC ∧ hp_sl h + 4000 ≤ hp_LS)  : hp_C l G yX3_init (.code yX3_init cX3_init 1 none) d [.ref a] (h) (fun v h' => v = none ∧ h' = kc_RT h a) (fun _ _ => False) := by
  refine hp_ofV (by decide) (by simp [Value.category]) (Nat.le_of_ble_eq_true rfl) (fun M C hr hx el => ?_)
  refine hp_aload_nR C dX3_init_0 rfl ?_
  refine hp_obj C ob_X3_3 ob_i ob_c (by omega) dX3_init_1 (by simp [Value.category]) ?_
  refine hp_aload_nR C dX3_init_4 rfl ?_
  refine hp_bipush (v := 8) C dX3_init_5 (by decide) ?_
  refine hp_newa C 0 (atype := .int) (ty := .int) (N := 8) rfl rfl (fun U hU => hU) (by decide) ac_int dX3_init_7 (by decide) rfl (by decide) (by have q1 := rm.1; have q2 := rm.2; simp only [hp_put, hp_set, hp_mk, hp_mkA, hp_mkM, kc_AL, kc_Arr, kc_RT, kc_Node, kc_Keep, kc_Jou, hp_nx, hp_sl] at *; omega) (by have q1 := rm.1; have q2 := rm.2; simp only [hp_put, hp_set, hp_mk, hp_mkA, hp_mkM, kc_AL, kc_Arr, kc_RT, kc_Node, kc_Keep, kc_Jou, hp_nx, hp_sl] at *; omega) ?_
  first | refine hp_putF C fl_X3_9_3 rfl rfl rfl rfl dX3_init_9 (hi.mkA 0 8 (.int 0)) ?_ | refine hp_putf C fl_X3_9_3 rfl rfl rfl dX3_init_9 (hi.mkA 0 8 (.int 0)) ?_
  refine hp_aload_nR C dX3_init_12 rfl ?_
  refine hp_iconst (v := 0) C dX3_init_13 (by decide) ?_
  first | refine hp_putF C fl_X3_15_3 rfl rfl rfl rfl dX3_init_14 (hi.mkA 0 8 (.int 0)) ?_ | refine hp_putf C fl_X3_15_3 rfl rfl rfl dX3_init_14 (hi.mkA 0 8 (.int 0)) ?_
  refine hp_vret C hr dX3_init_17 ?_
  exact ⟨rfl, rfl⟩
set_option maxRecDepth 20000 in
set_option maxHeartbeats 4000000 in
theorem kc_noI2 {l : Launch} {G : hpG} {h : hpT} {a d : Nat} {n kn : Int32} (hd : 1 ≤ d) (hi : hp_is G h a 2) : hp_C l G yX2_init (.code yX2_init cX2_init 4 none) d [.ref a, .int n, .null, .int kn] (h) (fun v h' => v = none ∧ h' = kc_Node 2 h a n none 0 kn) (fun _ _ => False) := by
  refine hp_ofV (by decide) (by simp [Value.category]) (Nat.le_of_ble_eq_true rfl) (fun M C hr hx el => ?_)
  refine hp_aload_nR C dX2_init_0 rfl ?_
  refine hp_obj C ob_X2_3 ob_i ob_c (by omega) dX2_init_1 (by simp [Value.category]) ?_
  refine hp_aload_nR C dX2_init_4 rfl ?_
  refine hp_iconst (v := 0) C dX2_init_5 (by decide) ?_
  first | refine hp_putF C fl_X2_9_2 rfl rfl rfl rfl dX2_init_6 hi ?_ | refine hp_putf C fl_X2_9_2 rfl rfl rfl dX2_init_6 hi ?_
  refine hp_aload_nR C dX2_init_9 rfl ?_
  refine hp_iload_n C dX2_init_10 rfl ?_
  first | refine hp_putF C fl_X2_15_2 rfl rfl rfl rfl dX2_init_11 hi ?_ | refine hp_putf C fl_X2_15_2 rfl rfl rfl dX2_init_11 hi ?_
  refine hp_aload_nR C dX2_init_14 rfl ?_
  refine hp_aload_n (r := none) C dX2_init_15 rfl ?_
  refine hp_putF (v := va_rf none) C fl_X2_18_2 rfl rfl rfl rfl dX2_init_16 hi ?_
  refine hp_aload_nR C dX2_init_19 rfl ?_
  refine hp_aload_n (r := none) C dX2_init_20 rfl ?_
  refine hp_ifnonnull (r := none) (tgt := 28) C dX2_init_21 (by decide) (fun x hx => by cases hx) (fun _ => ?_)
  refine hp_iconst (v := 0) C dX2_init_24 (by decide) ?_
  refine hp_goto (tgt := 34) C dX2_init_25 (by decide) ?_
  first | refine hp_putF C fl_X2_27_2 rfl rfl rfl rfl dX2_init_34 hi ?_ | refine hp_putf C fl_X2_27_2 rfl rfl rfl dX2_init_34 hi ?_
  refine hp_aload_nR C dX2_init_37 rfl ?_
  refine hp_iload_n C dX2_init_38 rfl ?_
  first | refine hp_putF C fl_X2_28_2 rfl rfl rfl rfl dX2_init_39 hi ?_ | refine hp_putf C fl_X2_28_2 rfl rfl rfl dX2_init_39 hi ?_
  refine hp_vret C hr dX2_init_42 ?_
  exact ⟨rfl, rfl⟩
set_option maxRecDepth 20000 in
set_option maxHeartbeats 4000000 in
theorem kc_noJ2 {l : Launch} {G : hpG} {h : hpT} {a d : Nat} {n kn dp : Int32} {o : Nat} (hd : 1 ≤ d) (hi : hp_is G h a 2) (ho : hp_is G h o 2) (ed : hp_fl h (hp_fd 2 2) o = .int dp) : hp_C l G yX2_init (.code yX2_init cX2_init 4 none) d [.ref a, .int n, .ref o, .int kn] (h) (fun v h' => v = none ∧ h' = kc_Node 2 h a n (some o) (dp + 1) kn) (fun _ _ => False) := by
  refine hp_ofV (by decide) (by simp [Value.category]) (Nat.le_of_ble_eq_true rfl) (fun M C hr hx el => ?_)
  refine hp_aload_nR C dX2_init_0 rfl ?_
  refine hp_obj C ob_X2_3 ob_i ob_c (by omega) dX2_init_1 (by simp [Value.category]) ?_
  refine hp_aload_nR C dX2_init_4 rfl ?_
  refine hp_iconst (v := 0) C dX2_init_5 (by decide) ?_
  first | refine hp_putF C fl_X2_9_2 rfl rfl rfl rfl dX2_init_6 hi ?_ | refine hp_putf C fl_X2_9_2 rfl rfl rfl dX2_init_6 hi ?_
  refine hp_aload_nR C dX2_init_9 rfl ?_
  refine hp_iload_n C dX2_init_10 rfl ?_
  first | refine hp_putF C fl_X2_15_2 rfl rfl rfl rfl dX2_init_11 hi ?_ | refine hp_putf C fl_X2_15_2 rfl rfl rfl dX2_init_11 hi ?_
  refine hp_aload_nR C dX2_init_14 rfl ?_
  refine hp_aload_n (r := some o) C dX2_init_15 rfl ?_
  refine hp_putF (v := va_rf (some o)) C fl_X2_18_2 rfl rfl rfl rfl dX2_init_16 hi ?_
  refine hp_aload_nR C dX2_init_19 rfl ?_
  refine hp_aload_n (r := some o) C dX2_init_20 rfl ?_
  refine hp_ifnonnull (r := some o) (tgt := 28) C dX2_init_21 (by decide) (fun x hx => ?_) (fun hx => by cases hx)
  refine hp_aload_n (r := some o) C dX2_init_28 rfl ?_
  refine hp_get (v := .int dp) C fl_X2_22_2 dX2_init_29 ho ed ?_
  refine hp_iconst (v := 1) C dX2_init_32 (by decide) ?_
  refine hp_iadd C dX2_init_33 ?_
  first | refine hp_putF C fl_X2_27_2 rfl rfl rfl rfl dX2_init_34 hi ?_ | refine hp_putf C fl_X2_27_2 rfl rfl rfl dX2_init_34 hi ?_
  refine hp_aload_nR C dX2_init_37 rfl ?_
  refine hp_iload_n C dX2_init_38 rfl ?_
  first | refine hp_putF C fl_X2_28_2 rfl rfl rfl rfl dX2_init_39 hi ?_ | refine hp_putf C fl_X2_28_2 rfl rfl rfl dX2_init_39 hi ?_
  refine hp_vret C hr dX2_init_42 ?_
  exact ⟨rfl, rfl⟩
set_option maxRecDepth 20000 in
set_option maxHeartbeats 4000000 in
theorem kc_noJ4 {l : Launch} {G : hpG} {h : hpT} {a d : Nat} {n kn dp : Int32} {o : Nat} (hd : 1 ≤ d) (hi : hp_is G h a 4) (ho : hp_is G h o 2) (ed : hp_fl h (hp_fd 2 2) o = .int dp) : hp_C l G yX2_init (.code yX2_init cX2_init 4 none) d [.ref a, .int n, .ref o, .int kn] (h) (fun v h' => v = none ∧ h' = kc_Node 4 h a n (some o) (dp + 1) kn) (fun _ _ => False) := by
  refine hp_ofV (by decide) (by simp [Value.category]) (Nat.le_of_ble_eq_true rfl) (fun M C hr hx el => ?_)
  refine hp_aload_nR C dX2_init_0 rfl ?_
  refine hp_obj C ob_X2_3 ob_i ob_c (by omega) dX2_init_1 (by simp [Value.category]) ?_
  refine hp_aload_nR C dX2_init_4 rfl ?_
  refine hp_iconst (v := 0) C dX2_init_5 (by decide) ?_
  first | refine hp_putF C fl_X2_9_4 rfl rfl rfl rfl dX2_init_6 hi ?_ | refine hp_putf C fl_X2_9_4 rfl rfl rfl dX2_init_6 hi ?_
  refine hp_aload_nR C dX2_init_9 rfl ?_
  refine hp_iload_n C dX2_init_10 rfl ?_
  first | refine hp_putF C fl_X2_15_4 rfl rfl rfl rfl dX2_init_11 hi ?_ | refine hp_putf C fl_X2_15_4 rfl rfl rfl dX2_init_11 hi ?_
  refine hp_aload_nR C dX2_init_14 rfl ?_
  refine hp_aload_n (r := some o) C dX2_init_15 rfl ?_
  refine hp_putF (v := va_rf (some o)) C fl_X2_18_4 rfl rfl rfl rfl dX2_init_16 hi ?_
  refine hp_aload_nR C dX2_init_19 rfl ?_
  refine hp_aload_n (r := some o) C dX2_init_20 rfl ?_
  refine hp_ifnonnull (r := some o) (tgt := 28) C dX2_init_21 (by decide) (fun x hx => ?_) (fun hx => by cases hx)
  refine hp_aload_n (r := some o) C dX2_init_28 rfl ?_
  refine hp_get (v := .int dp) C fl_X2_22_2 dX2_init_29 ho ed ?_
  refine hp_iconst (v := 1) C dX2_init_32 (by decide) ?_
  refine hp_iadd C dX2_init_33 ?_
  first | refine hp_putF C fl_X2_27_4 rfl rfl rfl rfl dX2_init_34 hi ?_ | refine hp_putf C fl_X2_27_4 rfl rfl rfl dX2_init_34 hi ?_
  refine hp_aload_nR C dX2_init_37 rfl ?_
  refine hp_iload_n C dX2_init_38 rfl ?_
  first | refine hp_putF C fl_X2_28_4 rfl rfl rfl rfl dX2_init_39 hi ?_ | refine hp_putf C fl_X2_28_4 rfl rfl rfl dX2_init_39 hi ?_
  refine hp_vret C hr dX2_init_42 ?_
  exact ⟨rfl, rfl⟩
set_option maxRecDepth 20000 in
set_option maxHeartbeats 4000000 in
theorem kc_keI {l : Launch} {G : hpG} {h : hpT} {a d : Nat} {n kn sg r t : Int32} (hd : 4 ≤ d) (hi : hp_is G h a 2) (rm : hp_nx h + 40 ≤ hp_n0 G + hp_LC ∧ hp_sl h + 8000 ≤ hp_LS)  : hp_C l G yX1_init (.code yX1_init cX1_init 7 none) d [.ref a, .int n, .null, .int kn, .int sg, .int r, .int t] (h) (fun v h' => v = none ∧ h' = kc_Keep G h a n none 0 kn sg r t) (fun _ _ => False) := by
  refine hp_ofV (by decide) (by simp [Value.category]) (Nat.le_of_ble_eq_true rfl) (fun M C hr hx el => ?_)
  refine hp_aload_nR C dX1_init_0 rfl ?_
  refine hp_iload_n C dX1_init_1 rfl ?_
  refine hp_aload_n (r := none) C dX1_init_2 rfl ?_
  refine hp_iload_n C dX1_init_3 rfl ?_
  refine hp_callI C ml_X1_3 im_X2_init rfl (kc_noI2 (d := d - 1) (by omega) hi) (by omega) dX1_init_4 rfl rfl (by simp [Value.category]) (fun v_1 h_1 hp => ?_)
  obtain ⟨rfl, rfl⟩ := hp
  refine hp_aload_nR C dX1_init_7 rfl ?_
  refine hp_new C nl_X1_9 dX1_init_8 (by have q1 := rm.1; have q2 := rm.2; simp only [hp_put, hp_set, hp_mk, hp_mkA, hp_mkM, kc_AL, kc_Arr, kc_RT, kc_Node, kc_Keep, kc_Jou, hp_nx, hp_sl] at *; omega) (by have q1 := rm.1; have q2 := rm.2; simp only [hp_put, hp_set, hp_mk, hp_mkA, hp_mkM, kc_AL, kc_Arr, kc_RT, kc_Node, kc_Keep, kc_Jou, hp_nx, hp_sl] at *; omega) ?_
  refine hp_dup C dX1_init_11 rfl ?_
  refine hp_callI C ml_X1_11 im_Jx4a65c_init_da8c8 rfl (kc_arI (d := d - 1) (by omega) (hp_isN (Nat.le_of_lt (Nat.lt_of_le_of_lt hi.1 hi.2.1)) 0 3)) (by omega) dX1_init_12 rfl rfl (by simp [Value.category]) (fun v_1 h_1 hp => ?_)
  obtain ⟨rfl, rfl⟩ := hp
  first | refine hp_putF C fl_X1_14_2 rfl rfl rfl rfl dX1_init_15 (hi.mk 0 3) ?_ | refine hp_putf C fl_X1_14_2 rfl rfl rfl dX1_init_15 (hi.mk 0 3) ?_
  refine hp_aload_nR C dX1_init_18 rfl ?_
  refine hp_new C nl_X1_20 dX1_init_19 (by have q1 := rm.1; have q2 := rm.2; simp only [hp_put, hp_set, hp_mk, hp_mkA, hp_mkM, kc_AL, kc_Arr, kc_RT, kc_Node, kc_Keep, kc_Jou, hp_nx, hp_sl] at *; omega) (by have q1 := rm.1; have q2 := rm.2; simp only [hp_put, hp_set, hp_mk, hp_mkA, hp_mkM, kc_AL, kc_Arr, kc_RT, kc_Node, kc_Keep, kc_Jou, hp_nx, hp_sl] at *; omega) ?_
  refine hp_dup C dX1_init_22 rfl ?_
  refine hp_callIN C cw_X3_init in_X3_init nk_X1_22 ⟨by decide, by decide, by decide +kernel⟩ (by decide) im_X3_init rfl (kc_rtI (d := d - 1) (by omega) (hp_isN (Nat.le_of_lt (Nat.lt_of_le_of_lt (hi.mk 0 3).1 (hi.mk 0 3).2.1)) 3 2) (by have q1 := rm.1; have q2 := rm.2; simp only [hp_put, hp_mk, hp_mkA, kc_AL, kc_Arr, kc_Node, hp_nx, hp_sl] at *; omega)) (by omega) dX1_init_23 rfl rfl (by simp [Value.category]) (fun v_1 h_1 hp => ?_)
  obtain ⟨rfl, rfl⟩ := hp
  first | refine hp_putF C fl_X1_23_2 rfl rfl rfl rfl dX1_init_26 (((hi.mk 0 3).mk 3 2).mkA 0 8 (.int 0)) ?_ | refine hp_putf C fl_X1_23_2 rfl rfl rfl dX1_init_26 (((hi.mk 0 3).mk 3 2).mkA 0 8 (.int 0)) ?_
  refine hp_aload_nR C dX1_init_29 rfl ?_
  refine hp_iload C dX1_init_30 rfl ?_
  first | refine hp_putF C fl_X1_27_2 rfl rfl rfl rfl dX1_init_32 (((hi.mk 0 3).mk 3 2).mkA 0 8 (.int 0)) ?_ | refine hp_putf C fl_X1_27_2 rfl rfl rfl dX1_init_32 (((hi.mk 0 3).mk 3 2).mkA 0 8 (.int 0)) ?_
  refine hp_aload_nR C dX1_init_35 rfl ?_
  refine hp_iload C dX1_init_36 rfl ?_
  first | refine hp_putF C fl_X1_31_2 rfl rfl rfl rfl dX1_init_38 (((hi.mk 0 3).mk 3 2).mkA 0 8 (.int 0)) ?_ | refine hp_putf C fl_X1_31_2 rfl rfl rfl dX1_init_38 (((hi.mk 0 3).mk 3 2).mkA 0 8 (.int 0)) ?_
  refine hp_aload_nR C dX1_init_41 rfl ?_
  refine hp_iload C dX1_init_42 rfl ?_
  first | refine hp_putF C fl_X1_34_2 rfl rfl rfl rfl dX1_init_44 (((hi.mk 0 3).mk 3 2).mkA 0 8 (.int 0)) ?_ | refine hp_putf C fl_X1_34_2 rfl rfl rfl dX1_init_44 (((hi.mk 0 3).mk 3 2).mkA 0 8 (.int 0)) ?_
  refine hp_vret C hr dX1_init_47 ?_
  exact ⟨rfl, rfl⟩
set_option maxRecDepth 20000 in
set_option maxHeartbeats 4000000 in
theorem kc_keJ {l : Launch} {G : hpG} {h : hpT} {a d : Nat} {n kn sg r t dp : Int32} {o : Nat} (hd : 4 ≤ d) (hi : hp_is G h a 2) (ho : hp_is G h o 2) (ed : hp_fl h (hp_fd 2 2) o = .int dp) (rm : hp_nx h + 40 ≤ hp_n0 G + hp_LC ∧ hp_sl h + 8000 ≤ hp_LS)  : hp_C l G yX1_init (.code yX1_init cX1_init 7 none) d [.ref a, .int n, .ref o, .int kn, .int sg, .int r, .int t] (h) (fun v h' => v = none ∧ h' = kc_Keep G h a n (some o) (dp + 1) kn sg r t) (fun _ _ => False) := by
  refine hp_ofV (by decide) (by simp [Value.category]) (Nat.le_of_ble_eq_true rfl) (fun M C hr hx el => ?_)
  refine hp_aload_nR C dX1_init_0 rfl ?_
  refine hp_iload_n C dX1_init_1 rfl ?_
  refine hp_aload_nR C dX1_init_2 rfl ?_
  refine hp_iload_n C dX1_init_3 rfl ?_
  refine hp_callI C ml_X1_3 im_X2_init rfl (kc_noJ2 (d := d - 1) (by omega) hi ho ed) (by omega) dX1_init_4 rfl rfl (by simp [Value.category]) (fun v_1 h_1 hp => ?_)
  obtain ⟨rfl, rfl⟩ := hp
  refine hp_aload_nR C dX1_init_7 rfl ?_
  refine hp_new C nl_X1_9 dX1_init_8 (by have q1 := rm.1; have q2 := rm.2; simp only [hp_put, hp_set, hp_mk, hp_mkA, hp_mkM, kc_AL, kc_Arr, kc_RT, kc_Node, kc_Keep, kc_Jou, hp_nx, hp_sl] at *; omega) (by have q1 := rm.1; have q2 := rm.2; simp only [hp_put, hp_set, hp_mk, hp_mkA, hp_mkM, kc_AL, kc_Arr, kc_RT, kc_Node, kc_Keep, kc_Jou, hp_nx, hp_sl] at *; omega) ?_
  refine hp_dup C dX1_init_11 rfl ?_
  refine hp_callI C ml_X1_11 im_Jx4a65c_init_da8c8 rfl (kc_arI (d := d - 1) (by omega) (hp_isN (Nat.le_of_lt (Nat.lt_of_le_of_lt hi.1 hi.2.1)) 0 3)) (by omega) dX1_init_12 rfl rfl (by simp [Value.category]) (fun v_1 h_1 hp => ?_)
  obtain ⟨rfl, rfl⟩ := hp
  first | refine hp_putF C fl_X1_14_2 rfl rfl rfl rfl dX1_init_15 (hi.mk 0 3) ?_ | refine hp_putf C fl_X1_14_2 rfl rfl rfl dX1_init_15 (hi.mk 0 3) ?_
  refine hp_aload_nR C dX1_init_18 rfl ?_
  refine hp_new C nl_X1_20 dX1_init_19 (by have q1 := rm.1; have q2 := rm.2; simp only [hp_put, hp_set, hp_mk, hp_mkA, hp_mkM, kc_AL, kc_Arr, kc_RT, kc_Node, kc_Keep, kc_Jou, hp_nx, hp_sl] at *; omega) (by have q1 := rm.1; have q2 := rm.2; simp only [hp_put, hp_set, hp_mk, hp_mkA, hp_mkM, kc_AL, kc_Arr, kc_RT, kc_Node, kc_Keep, kc_Jou, hp_nx, hp_sl] at *; omega) ?_
  refine hp_dup C dX1_init_22 rfl ?_
  refine hp_callIN C cw_X3_init in_X3_init nk_X1_22 ⟨by decide, by decide, by decide +kernel⟩ (by decide) im_X3_init rfl (kc_rtI (d := d - 1) (by omega) (hp_isN (Nat.le_of_lt (Nat.lt_of_le_of_lt (hi.mk 0 3).1 (hi.mk 0 3).2.1)) 3 2) (by have q1 := rm.1; have q2 := rm.2; simp only [hp_put, hp_mk, hp_mkA, kc_AL, kc_Arr, kc_Node, hp_nx, hp_sl] at *; omega)) (by omega) dX1_init_23 rfl rfl (by simp [Value.category]) (fun v_1 h_1 hp => ?_)
  obtain ⟨rfl, rfl⟩ := hp
  first | refine hp_putF C fl_X1_23_2 rfl rfl rfl rfl dX1_init_26 (((hi.mk 0 3).mk 3 2).mkA 0 8 (.int 0)) ?_ | refine hp_putf C fl_X1_23_2 rfl rfl rfl dX1_init_26 (((hi.mk 0 3).mk 3 2).mkA 0 8 (.int 0)) ?_
  refine hp_aload_nR C dX1_init_29 rfl ?_
  refine hp_iload C dX1_init_30 rfl ?_
  first | refine hp_putF C fl_X1_27_2 rfl rfl rfl rfl dX1_init_32 (((hi.mk 0 3).mk 3 2).mkA 0 8 (.int 0)) ?_ | refine hp_putf C fl_X1_27_2 rfl rfl rfl dX1_init_32 (((hi.mk 0 3).mk 3 2).mkA 0 8 (.int 0)) ?_
  refine hp_aload_nR C dX1_init_35 rfl ?_
  refine hp_iload C dX1_init_36 rfl ?_
  first | refine hp_putF C fl_X1_31_2 rfl rfl rfl rfl dX1_init_38 (((hi.mk 0 3).mk 3 2).mkA 0 8 (.int 0)) ?_ | refine hp_putf C fl_X1_31_2 rfl rfl rfl dX1_init_38 (((hi.mk 0 3).mk 3 2).mkA 0 8 (.int 0)) ?_
  refine hp_aload_nR C dX1_init_41 rfl ?_
  refine hp_iload C dX1_init_42 rfl ?_
  first | refine hp_putF C fl_X1_34_2 rfl rfl rfl rfl dX1_init_44 (((hi.mk 0 3).mk 3 2).mkA 0 8 (.int 0)) ?_ | refine hp_putf C fl_X1_34_2 rfl rfl rfl dX1_init_44 (((hi.mk 0 3).mk 3 2).mkA 0 8 (.int 0)) ?_
  refine hp_vret C hr dX1_init_47 ?_
  exact ⟨rfl, rfl⟩
theorem kt_inc {i : Int32} (h : i.toInt < 1000000) : (i + Int32.ofInt 1).toInt = i.toInt + 1 := by
  have h1 : (Int32.ofInt 1).toInt = 1 := by decide
  have h2 := Int32.le_toInt i
  rw [Int32.toInt_add, h1]
  exact Int.bmod_eq_of_le (by omega) (by omega)
/-! ===== the reference's constructor ===== -/
def mo_z : moS := (fun _ => 0, fun _ _ => 0)
def mo_s0 : moS := mo_pt (mo_up (mo_up (mo_up (mo_up mo_z 2 0 1) 3 0 (-1)) 8 0 1) 9 0 5) 1 1
/-- an array is made (class of it, length, field) -/
def mc_st (m : Nat) (h : hpT) (q : Nat × Nat × Nat) : hpT := hp_put (hp_mkA h q.1 q.2.1 (.int 0)) (hp_fd 6 q.2.2) m (.ref (hp_nx h))
def mc_fd (m : Nat) : List (Nat × Nat × Nat) → hpT → hpT
  | [], h => h
  | q :: L, h => mc_fd m L (mc_st m h q)
def mc_L : List (Nat × Nat × Nat) := [(1, 80, 2), (0, 80, 3), (0, 80, 4), (0, 80, 5), (0, 80, 6), (0, 80, 7), (0, 80, 8), (0, 80, 9), (0, 80, 10), (0, 80, 11), (0, 80, 12), (0, 80, 13), (0, 6400, 14), (0, 80, 15), (0, 4160, 16), (0, 80, 17), (0, 2400, 20), (0, 10, 23), (0, 10, 24)]
theorem mc_nx (m : Nat) : ∀ (L : List (Nat × Nat × Nat)) (h : hpT), hp_nx (mc_fd m L h) = hp_nx h + L.length
  | [], h => rfl
  | q :: L, h => by
    show hp_nx (mc_fd m L (mc_st m h q)) = _
    rw [mc_nx m L]
    show hp_nx h + 1 + L.length = hp_nx h + (L.length + 1)
    omega
theorem mc_old (m : Nat) : ∀ (L : List (Nat × Nat × Nat)) (h : hpT) (b : Nat), b < hp_nx h → hp_kd (mc_fd m L h) b = hp_kd h b ∧ hp_ln (mc_fd m L h) b = hp_ln h b ∧ hp_ar (mc_fd m L h) b = hp_ar h b ∧ (∀ f, (b ≠ m ∨ ∀ q ∈ L, f ≠ hp_fd 6 q.2.2) → hp_fl (mc_fd m L h) f b = hp_fl h f b)
  | [], h, b, _ => ⟨rfl, rfl, rfl, fun _ _ => rfl⟩
  | q :: L, h, b, hb => by
    obtain ⟨e1, e2, e3, e4⟩ := mc_old m L (mc_st m h q) b (Nat.lt_succ_of_lt hb)
    refine ⟨e1.trans (va_up_ne _ _ (Nat.ne_of_lt hb)), e2.trans (va_up_ne _ _ (Nat.ne_of_lt hb)), e3.trans (va_up_ne _ _ (Nat.ne_of_lt hb)), fun f hf => ?_⟩
    refine (e4 f (hf.imp id fun z p hp => z p (List.mem_cons_of_mem _ hp))).trans ?_
    show hp_fl (hp_put (hp_mkA h q.1 q.2.1 (.int 0)) (hp_fd 6 q.2.2) m (.ref (hp_nx h))) f b = _
    rw [hp_put_fl]
    rcases hf with hf | hf
    · rw [if_neg hf]
      split
      · rename_i e; rw [e]; rfl
      · rfl
    · rw [if_neg (hf q List.mem_cons_self)]
      rfl
theorem mc_at (m : Nat) : ∀ (L : List (Nat × Nat × Nat)) (h : hpT) (j : Nat) (q : Nat × Nat × Nat), m < hp_nx h → L[j]? = some q → (L.map (fun q => hp_fd 6 q.2.2)).Nodup →
    hp_kd (mc_fd m L h) (hp_nx h + j) = 10 + q.1 ∧ hp_ln (mc_fd m L h) (hp_nx h + j) = q.2.1 ∧ hp_ar (mc_fd m L h) (hp_nx h + j) = (fun _ => .int 0) ∧ hp_fl (mc_fd m L h) (hp_fd 6 q.2.2) m = .ref (hp_nx h + j)
  | [], h, j, q, _, hj, _ => by cases hj
  | p :: L, h, 0, q, hm, hj, hd => by
    cases hj
    obtain ⟨e1, e2, e3, e4⟩ := mc_old m L (mc_st m h p) (hp_nx h) (Nat.lt_succ_self _)
    have hd' := List.nodup_cons.mp hd
    obtain ⟨-, -, -, e5⟩ := mc_old m L (mc_st m h p) m (Nat.lt_succ_of_lt hm)
    refine ⟨e1.trans (va_up_self _ _ _), e2.trans (va_up_self _ _ _), e3.trans (va_up_self _ _ _), (e5 _ (Or.inr fun z hz e => hd'.1 (List.mem_map.mpr ⟨z, hz, e.symm⟩))).trans ?_⟩
    show hp_fl (hp_put (hp_mkA h p.1 p.2.1 (.int 0)) (hp_fd 6 p.2.2) m (.ref (hp_nx h))) (hp_fd 6 p.2.2) m = _
    rw [hp_put_fl, if_pos rfl, if_pos rfl]
    rfl
  | p :: L, h, j + 1, q, hm, hj, hd => by
    have := mc_at m L (mc_st m h p) j q (Nat.lt_succ_of_lt hm) hj (List.nodup_cons.mp hd).2
    rw [show hp_nx h + (j + 1) = hp_nx (mc_st m h p) + j by show _ = hp_nx h + 1 + j; omega]
    exact this
theorem mc_idx {k : Nat} (hk : mo_isA k = true) : mc_L[mo_j k]? = some (if k = 2 then 1 else 0, mo_len k, k) := by
  unfold mo_isA at hk
  simp only [Bool.or_eq_true, Bool.and_eq_true, decide_eq_true_eq, beq_iff_eq] at hk
  have h2 : k = 2 ∨ k = 3 ∨ k = 4 ∨ k = 5 ∨ k = 6 ∨ k = 7 ∨ k = 8 ∨ k = 9 ∨ k = 10 ∨ k = 11 ∨ k = 12 ∨ k = 13 ∨ k = 14 ∨ k = 15 ∨ k = 16 ∨ k = 17 ∨ k = 20 ∨ k = 23 ∨ k = 24 := by omega
  rcases h2 with rfl | rfl | rfl | rfl | rfl | rfl | rfl | rfl | rfl | rfl | rfl | rfl | rfl | rfl | rfl | rfl | rfl | rfl | rfl <;> rfl
/-- behind the makings the reference lies there, all zero -/
theorem mc_view {G : hpG} {h : hpT} {m : Nat} (hm : hp_is G h m 6) (hx : hp_nx h = m + 1) (z : ∀ k, mo_isA k = false → k < 25 → hp_fl h (hp_fd 6 k) m = .int 0) : mo_sh G (mc_fd m mc_L h) m ∧ mc_fd m mc_L h = mo_w (mc_fd m mc_L h) m mo_z := by
  have hnd : (mc_L.map (fun q => hp_fd 6 q.2.2)).Nodup := by decide
  have hlt : m < hp_nx h := hm.2.1
  have at_ : ∀ k, mo_isA k = true → _ := fun k hk => mc_at m mc_L h (mo_j k) _ hlt (mc_idx hk) hnd
  obtain ⟨o1, -, -, o4⟩ := mc_old m mc_L h m hlt
  have hn : hp_nx (mc_fd m mc_L h) = m + 20 := by rw [mc_nx, hx]; rfl
  refine ⟨⟨hm.1, by omega, o1.trans hm.2.2, fun k hk => ?_⟩, hp_ext rfl rfl rfl rfl (fun f b => ?_) (fun b i => ?_)⟩
  · obtain ⟨e1, e2, -, -⟩ := at_ k hk
    rw [hx] at e1 e2
    refine ⟨e1.trans ?_, e2⟩
    show 10 + (if k = 2 then 1 else 0) = _
    split <;> rfl
  · rw [mo_w_fl]
    by_cases c : b = m ∧ 192 ≤ f ∧ f < 217
    · rw [if_pos c]
      obtain ⟨rfl, c1, c2⟩ := c
      have ef : f = hp_fd 6 (f - 192) := by rw [mo_fd]; omega
      by_cases a : mo_isA (f - 192) = true
      · rw [if_pos a]
        obtain ⟨-, -, -, e4⟩ := at_ (f - 192) a
        rw [hx] at e4
        rw [ef, e4, ← ef]
      · rw [if_neg a, o4 f (Or.inr fun q hq e => a ?_), ef]
        · exact z (f - 192) (by simpa using a) (by omega)
        · have hq2 : ∀ q ∈ mc_L, mo_isA q.2.2 = true := by decide
          have : f - 192 = q.2.2 := by rw [e, mo_fd]; omega
          rw [this]
          exact hq2 q hq
    · rw [if_neg c]
  · rw [mo_w_ar]
    by_cases c : m < b ∧ b < m + 20
    · rw [if_pos c]
      obtain ⟨e1, e2⟩ := mo_jk (j := b - (m + 1)) (by omega)
      obtain ⟨-, -, e3, -⟩ := at_ (mo_k (b - (m + 1))) e2
      rw [hx, e1, show m + 1 + (b - (m + 1)) = b by omega] at e3
      rw [e3]
      rfl
    · rw [if_neg c]
theorem mo_aldv {M : hpM} {G : hpG} {y : MethodName} {cc : ByteArray} {nL d : Nat} {h0 h : hpT} {m : Nat} {s : moS} {Q : State → Prop} {pc : Nat} {lo : Nat → Option Value} {st : List Value} (C : hp_F M G y cc nL d h0) (x : mo_sh G h m) {k : Nat} {i v : Int32} (hk : mo_isA k = true) (h2 : k ≠ 2) (ev : s.2 k i.toNatClampNeg = v) (dd : decode cc pc = .ok (.iaload, 1)) (hin : vp_in i (mo_len k)) (kk : hp_V M G nL Q (mo_w h m s) (pc + 1) lo (.int v :: st)) : hp_V M G nL Q (mo_w h m s) pc lo (.int i :: .ref (mo_arr m k) :: st) := mo_ald C x hk h2 rfl dd hin (by rw [ev]; exact kk)
theorem mo_zldv {M : hpM} {G : hpG} {y : MethodName} {cc : ByteArray} {nL d : Nat} {h0 h : hpT} {m : Nat} {s : moS} {Q : State → Prop} {pc : Nat} {lo : Nat → Option Value} {st : List Value} (C : hp_F M G y cc nL d h0) (x : mo_sh G h m) {i v : Int32} (ev : s.2 2 i.toNatClampNeg = v) (dd : decode cc pc = .ok (.baload, 1)) (hin : vp_in i 80) (kk : hp_V M G nL Q (mo_w h m s) (pc + 1) lo (.int v :: st)) : hp_V M G nL Q (mo_w h m s) pc lo (.int i :: .ref (mo_arr m 2) :: st) := mo_zld C x rfl dd hin (by rw [ev]; exact kk)
set_option maxRecDepth 20000 in
set_option maxHeartbeats 4000000 in
theorem mf_init {l : Launch} {G : hpG} {h : hpT} {m d : Nat} (hd : 1 ≤ d) (hi : hp_is G h m 6) (hx0 : hp_nx h = m + 1) (z0 : ∀ k, mo_isA k = false → k < 25 → hp_fl h (hp_fd 6 k) m = .int 0) (rm : hp_nx h + 100 ≤ hp_n0 G + hp_LC ∧ hp_sl h + 20000 ≤ hp_LS) : hp_C l G yX6_init (.code yX6_init cX6_init 1 none) d [.ref m] (h) (fun v h' => v = none ∧ ∃ h2, h' = mo_w h2 m mo_s0 ∧ mo_sh G h2 m ∧ hp_nx h2 = m + 20 ∧ hp_sl h2 ≤ hp_sl h + 20000 ∧ ∀ b, b < m → hp_kd h2 b = hp_kd h b ∧ hp_ln h2 b = hp_ln h b ∧ hp_ar h2 b = hp_ar h b ∧ ∀ f, hp_fl h2 f b = hp_fl h f b) (fun _ _ => False) := by
  refine hp_ofV (by decide) (by simp [Value.category]) (Nat.le_of_ble_eq_true rfl) (fun M C hr hx el => ?_)
  refine hp_aload_nR C dX6_init_0 rfl ?_
  refine hp_obj C ob_X6_1 ob_i ob_c (by omega) dX6_init_1 (by simp [Value.category]) ?_
  have r1 := rm.1
  have r2 := rm.2
  have i_0 := hi
  refine hp_aload_nR C dX6_init_4 rfl ?_
  refine hp_bipush (v := 80) C dX6_init_5 (by decide) ?_
  refine hp_newa C 1 (atype := .boolean) (ty := .boolean) (N := 80) rfl rfl (fun U hU => hU) (by decide) ac_boolean dX6_init_7 (by decide) rfl (by decide) (by omega) (by omega) ?_
  refine hp_putF C fl_X6_7_6 rfl rfl rfl rfl dX6_init_9 (i_0.mkA 1 80 (.int 0)) ?_
  have i_1 : hp_is G (mc_st m h (1, 80, 2)) m 6 := i_0.mkA 1 80 (.int 0)
  have n_1 : hp_nx (mc_st m h (1, 80, 2)) = hp_nx h + 1 := rfl
  have s_1 : hp_sl (mc_st m h (1, 80, 2)) = hp_sl h + 80 := rfl
  change hp_V M G 1 _ (mc_st m h (1, 80, 2)) _ _ _
  generalize e_1 : mc_st m h (1, 80, 2) = H_1 at i_1 n_1 s_1 ⊢
  refine hp_aload_nR C dX6_init_12 rfl ?_
  refine hp_bipush (v := 80) C dX6_init_13 (by decide) ?_
  refine hp_newa C 0 (atype := .int) (ty := .int) (N := 80) rfl rfl (fun U hU => hU) (by decide) ac_int dX6_init_15 (by decide) rfl (by decide) (by omega) (by omega) ?_
  refine hp_putF C fl_X6_13_6 rfl rfl rfl rfl dX6_init_17 (i_1.mkA 0 80 (.int 0)) ?_
  have i_2 : hp_is G (mc_st m H_1 (0, 80, 3)) m 6 := i_1.mkA 0 80 (.int 0)
  have n_2 : hp_nx (mc_st m H_1 (0, 80, 3)) = hp_nx H_1 + 1 := rfl
  have s_2 : hp_sl (mc_st m H_1 (0, 80, 3)) = hp_sl H_1 + 80 := rfl
  change hp_V M G 1 _ (mc_st m H_1 (0, 80, 3)) _ _ _
  generalize e_2 : mc_st m H_1 (0, 80, 3) = H_2 at i_2 n_2 s_2 ⊢
  refine hp_aload_nR C dX6_init_20 rfl ?_
  refine hp_bipush (v := 80) C dX6_init_21 (by decide) ?_
  refine hp_newa C 0 (atype := .int) (ty := .int) (N := 80) rfl rfl (fun U hU => hU) (by decide) ac_int dX6_init_23 (by decide) rfl (by decide) (by omega) (by omega) ?_
  refine hp_putF C fl_X6_17_6 rfl rfl rfl rfl dX6_init_25 (i_2.mkA 0 80 (.int 0)) ?_
  have i_3 : hp_is G (mc_st m H_2 (0, 80, 4)) m 6 := i_2.mkA 0 80 (.int 0)
  have n_3 : hp_nx (mc_st m H_2 (0, 80, 4)) = hp_nx H_2 + 1 := rfl
  have s_3 : hp_sl (mc_st m H_2 (0, 80, 4)) = hp_sl H_2 + 80 := rfl
  change hp_V M G 1 _ (mc_st m H_2 (0, 80, 4)) _ _ _
  generalize e_3 : mc_st m H_2 (0, 80, 4) = H_3 at i_3 n_3 s_3 ⊢
  refine hp_aload_nR C dX6_init_28 rfl ?_
  refine hp_bipush (v := 80) C dX6_init_29 (by decide) ?_
  refine hp_newa C 0 (atype := .int) (ty := .int) (N := 80) rfl rfl (fun U hU => hU) (by decide) ac_int dX6_init_31 (by decide) rfl (by decide) (by omega) (by omega) ?_
  refine hp_putF C fl_X6_20_6 rfl rfl rfl rfl dX6_init_33 (i_3.mkA 0 80 (.int 0)) ?_
  have i_4 : hp_is G (mc_st m H_3 (0, 80, 5)) m 6 := i_3.mkA 0 80 (.int 0)
  have n_4 : hp_nx (mc_st m H_3 (0, 80, 5)) = hp_nx H_3 + 1 := rfl
  have s_4 : hp_sl (mc_st m H_3 (0, 80, 5)) = hp_sl H_3 + 80 := rfl
  change hp_V M G 1 _ (mc_st m H_3 (0, 80, 5)) _ _ _
  generalize e_4 : mc_st m H_3 (0, 80, 5) = H_4 at i_4 n_4 s_4 ⊢
  refine hp_aload_nR C dX6_init_36 rfl ?_
  refine hp_bipush (v := 80) C dX6_init_37 (by decide) ?_
  refine hp_newa C 0 (atype := .int) (ty := .int) (N := 80) rfl rfl (fun U hU => hU) (by decide) ac_int dX6_init_39 (by decide) rfl (by decide) (by omega) (by omega) ?_
  refine hp_putF C fl_X6_23_6 rfl rfl rfl rfl dX6_init_41 (i_4.mkA 0 80 (.int 0)) ?_
  have i_5 : hp_is G (mc_st m H_4 (0, 80, 6)) m 6 := i_4.mkA 0 80 (.int 0)
  have n_5 : hp_nx (mc_st m H_4 (0, 80, 6)) = hp_nx H_4 + 1 := rfl
  have s_5 : hp_sl (mc_st m H_4 (0, 80, 6)) = hp_sl H_4 + 80 := rfl
  change hp_V M G 1 _ (mc_st m H_4 (0, 80, 6)) _ _ _
  generalize e_5 : mc_st m H_4 (0, 80, 6) = H_5 at i_5 n_5 s_5 ⊢
  refine hp_aload_nR C dX6_init_44 rfl ?_
  refine hp_bipush (v := 80) C dX6_init_45 (by decide) ?_
  refine hp_newa C 0 (atype := .int) (ty := .int) (N := 80) rfl rfl (fun U hU => hU) (by decide) ac_int dX6_init_47 (by decide) rfl (by decide) (by omega) (by omega) ?_
  refine hp_putF C fl_X6_26_6 rfl rfl rfl rfl dX6_init_49 (i_5.mkA 0 80 (.int 0)) ?_
  have i_6 : hp_is G (mc_st m H_5 (0, 80, 7)) m 6 := i_5.mkA 0 80 (.int 0)
  have n_6 : hp_nx (mc_st m H_5 (0, 80, 7)) = hp_nx H_5 + 1 := rfl
  have s_6 : hp_sl (mc_st m H_5 (0, 80, 7)) = hp_sl H_5 + 80 := rfl
  change hp_V M G 1 _ (mc_st m H_5 (0, 80, 7)) _ _ _
  generalize e_6 : mc_st m H_5 (0, 80, 7) = H_6 at i_6 n_6 s_6 ⊢
  refine hp_aload_nR C dX6_init_52 rfl ?_
  refine hp_bipush (v := 80) C dX6_init_53 (by decide) ?_
  refine hp_newa C 0 (atype := .int) (ty := .int) (N := 80) rfl rfl (fun U hU => hU) (by decide) ac_int dX6_init_55 (by decide) rfl (by decide) (by omega) (by omega) ?_
  refine hp_putF C fl_X6_29_6 rfl rfl rfl rfl dX6_init_57 (i_6.mkA 0 80 (.int 0)) ?_
  have i_7 : hp_is G (mc_st m H_6 (0, 80, 8)) m 6 := i_6.mkA 0 80 (.int 0)
  have n_7 : hp_nx (mc_st m H_6 (0, 80, 8)) = hp_nx H_6 + 1 := rfl
  have s_7 : hp_sl (mc_st m H_6 (0, 80, 8)) = hp_sl H_6 + 80 := rfl
  change hp_V M G 1 _ (mc_st m H_6 (0, 80, 8)) _ _ _
  generalize e_7 : mc_st m H_6 (0, 80, 8) = H_7 at i_7 n_7 s_7 ⊢
  refine hp_aload_nR C dX6_init_60 rfl ?_
  refine hp_bipush (v := 80) C dX6_init_61 (by decide) ?_
  refine hp_newa C 0 (atype := .int) (ty := .int) (N := 80) rfl rfl (fun U hU => hU) (by decide) ac_int dX6_init_63 (by decide) rfl (by decide) (by omega) (by omega) ?_
  refine hp_putF C fl_X6_32_6 rfl rfl rfl rfl dX6_init_65 (i_7.mkA 0 80 (.int 0)) ?_
  have i_8 : hp_is G (mc_st m H_7 (0, 80, 9)) m 6 := i_7.mkA 0 80 (.int 0)
  have n_8 : hp_nx (mc_st m H_7 (0, 80, 9)) = hp_nx H_7 + 1 := rfl
  have s_8 : hp_sl (mc_st m H_7 (0, 80, 9)) = hp_sl H_7 + 80 := rfl
  change hp_V M G 1 _ (mc_st m H_7 (0, 80, 9)) _ _ _
  generalize e_8 : mc_st m H_7 (0, 80, 9) = H_8 at i_8 n_8 s_8 ⊢
  refine hp_aload_nR C dX6_init_68 rfl ?_
  refine hp_bipush (v := 80) C dX6_init_69 (by decide) ?_
  refine hp_newa C 0 (atype := .int) (ty := .int) (N := 80) rfl rfl (fun U hU => hU) (by decide) ac_int dX6_init_71 (by decide) rfl (by decide) (by omega) (by omega) ?_
  refine hp_putF C fl_X6_35_6 rfl rfl rfl rfl dX6_init_73 (i_8.mkA 0 80 (.int 0)) ?_
  have i_9 : hp_is G (mc_st m H_8 (0, 80, 10)) m 6 := i_8.mkA 0 80 (.int 0)
  have n_9 : hp_nx (mc_st m H_8 (0, 80, 10)) = hp_nx H_8 + 1 := rfl
  have s_9 : hp_sl (mc_st m H_8 (0, 80, 10)) = hp_sl H_8 + 80 := rfl
  change hp_V M G 1 _ (mc_st m H_8 (0, 80, 10)) _ _ _
  generalize e_9 : mc_st m H_8 (0, 80, 10) = H_9 at i_9 n_9 s_9 ⊢
  refine hp_aload_nR C dX6_init_76 rfl ?_
  refine hp_bipush (v := 80) C dX6_init_77 (by decide) ?_
  refine hp_newa C 0 (atype := .int) (ty := .int) (N := 80) rfl rfl (fun U hU => hU) (by decide) ac_int dX6_init_79 (by decide) rfl (by decide) (by omega) (by omega) ?_
  refine hp_putF C fl_X6_38_6 rfl rfl rfl rfl dX6_init_81 (i_9.mkA 0 80 (.int 0)) ?_
  have i_10 : hp_is G (mc_st m H_9 (0, 80, 11)) m 6 := i_9.mkA 0 80 (.int 0)
  have n_10 : hp_nx (mc_st m H_9 (0, 80, 11)) = hp_nx H_9 + 1 := rfl
  have s_10 : hp_sl (mc_st m H_9 (0, 80, 11)) = hp_sl H_9 + 80 := rfl
  change hp_V M G 1 _ (mc_st m H_9 (0, 80, 11)) _ _ _
  generalize e_10 : mc_st m H_9 (0, 80, 11) = H_10 at i_10 n_10 s_10 ⊢
  refine hp_aload_nR C dX6_init_84 rfl ?_
  refine hp_bipush (v := 80) C dX6_init_85 (by decide) ?_
  refine hp_newa C 0 (atype := .int) (ty := .int) (N := 80) rfl rfl (fun U hU => hU) (by decide) ac_int dX6_init_87 (by decide) rfl (by decide) (by omega) (by omega) ?_
  refine hp_putF C fl_X6_41_6 rfl rfl rfl rfl dX6_init_89 (i_10.mkA 0 80 (.int 0)) ?_
  have i_11 : hp_is G (mc_st m H_10 (0, 80, 12)) m 6 := i_10.mkA 0 80 (.int 0)
  have n_11 : hp_nx (mc_st m H_10 (0, 80, 12)) = hp_nx H_10 + 1 := rfl
  have s_11 : hp_sl (mc_st m H_10 (0, 80, 12)) = hp_sl H_10 + 80 := rfl
  change hp_V M G 1 _ (mc_st m H_10 (0, 80, 12)) _ _ _
  generalize e_11 : mc_st m H_10 (0, 80, 12) = H_11 at i_11 n_11 s_11 ⊢
  refine hp_aload_nR C dX6_init_92 rfl ?_
  refine hp_bipush (v := 80) C dX6_init_93 (by decide) ?_
  refine hp_newa C 0 (atype := .int) (ty := .int) (N := 80) rfl rfl (fun U hU => hU) (by decide) ac_int dX6_init_95 (by decide) rfl (by decide) (by omega) (by omega) ?_
  refine hp_putF C fl_X6_44_6 rfl rfl rfl rfl dX6_init_97 (i_11.mkA 0 80 (.int 0)) ?_
  have i_12 : hp_is G (mc_st m H_11 (0, 80, 13)) m 6 := i_11.mkA 0 80 (.int 0)
  have n_12 : hp_nx (mc_st m H_11 (0, 80, 13)) = hp_nx H_11 + 1 := rfl
  have s_12 : hp_sl (mc_st m H_11 (0, 80, 13)) = hp_sl H_11 + 80 := rfl
  change hp_V M G 1 _ (mc_st m H_11 (0, 80, 13)) _ _ _
  generalize e_12 : mc_st m H_11 (0, 80, 13) = H_12 at i_12 n_12 s_12 ⊢
  refine hp_aload_nR C dX6_init_100 rfl ?_
  refine hp_sipush (v := 6400) C dX6_init_101 (by decide) ?_
  refine hp_newa C 0 (atype := .int) (ty := .int) (N := 6400) rfl rfl (fun U hU => hU) (by decide) ac_int dX6_init_104 (by decide) rfl (by decide) (by omega) (by omega) ?_
  refine hp_putF C fl_X6_47_6 rfl rfl rfl rfl dX6_init_106 (i_12.mkA 0 6400 (.int 0)) ?_
  have i_13 : hp_is G (mc_st m H_12 (0, 6400, 14)) m 6 := i_12.mkA 0 6400 (.int 0)
  have n_13 : hp_nx (mc_st m H_12 (0, 6400, 14)) = hp_nx H_12 + 1 := rfl
  have s_13 : hp_sl (mc_st m H_12 (0, 6400, 14)) = hp_sl H_12 + 6400 := rfl
  change hp_V M G 1 _ (mc_st m H_12 (0, 6400, 14)) _ _ _
  generalize e_13 : mc_st m H_12 (0, 6400, 14) = H_13 at i_13 n_13 s_13 ⊢
  refine hp_aload_nR C dX6_init_109 rfl ?_
  refine hp_bipush (v := 80) C dX6_init_110 (by decide) ?_
  refine hp_newa C 0 (atype := .int) (ty := .int) (N := 80) rfl rfl (fun U hU => hU) (by decide) ac_int dX6_init_112 (by decide) rfl (by decide) (by omega) (by omega) ?_
  refine hp_putF C fl_X6_50_6 rfl rfl rfl rfl dX6_init_114 (i_13.mkA 0 80 (.int 0)) ?_
  have i_14 : hp_is G (mc_st m H_13 (0, 80, 15)) m 6 := i_13.mkA 0 80 (.int 0)
  have n_14 : hp_nx (mc_st m H_13 (0, 80, 15)) = hp_nx H_13 + 1 := rfl
  have s_14 : hp_sl (mc_st m H_13 (0, 80, 15)) = hp_sl H_13 + 80 := rfl
  change hp_V M G 1 _ (mc_st m H_13 (0, 80, 15)) _ _ _
  generalize e_14 : mc_st m H_13 (0, 80, 15) = H_14 at i_14 n_14 s_14 ⊢
  refine hp_aload_nR C dX6_init_117 rfl ?_
  refine hp_sipush (v := 4160) C dX6_init_118 (by decide) ?_
  refine hp_newa C 0 (atype := .int) (ty := .int) (N := 4160) rfl rfl (fun U hU => hU) (by decide) ac_int dX6_init_121 (by decide) rfl (by decide) (by omega) (by omega) ?_
  refine hp_putF C fl_X6_53_6 rfl rfl rfl rfl dX6_init_123 (i_14.mkA 0 4160 (.int 0)) ?_
  have i_15 : hp_is G (mc_st m H_14 (0, 4160, 16)) m 6 := i_14.mkA 0 4160 (.int 0)
  have n_15 : hp_nx (mc_st m H_14 (0, 4160, 16)) = hp_nx H_14 + 1 := rfl
  have s_15 : hp_sl (mc_st m H_14 (0, 4160, 16)) = hp_sl H_14 + 4160 := rfl
  change hp_V M G 1 _ (mc_st m H_14 (0, 4160, 16)) _ _ _
  generalize e_15 : mc_st m H_14 (0, 4160, 16) = H_15 at i_15 n_15 s_15 ⊢
  refine hp_aload_nR C dX6_init_126 rfl ?_
  refine hp_bipush (v := 80) C dX6_init_127 (by decide) ?_
  refine hp_newa C 0 (atype := .int) (ty := .int) (N := 80) rfl rfl (fun U hU => hU) (by decide) ac_int dX6_init_129 (by decide) rfl (by decide) (by omega) (by omega) ?_
  refine hp_putF C fl_X6_56_6 rfl rfl rfl rfl dX6_init_131 (i_15.mkA 0 80 (.int 0)) ?_
  have i_16 : hp_is G (mc_st m H_15 (0, 80, 17)) m 6 := i_15.mkA 0 80 (.int 0)
  have n_16 : hp_nx (mc_st m H_15 (0, 80, 17)) = hp_nx H_15 + 1 := rfl
  have s_16 : hp_sl (mc_st m H_15 (0, 80, 17)) = hp_sl H_15 + 80 := rfl
  change hp_V M G 1 _ (mc_st m H_15 (0, 80, 17)) _ _ _
  generalize e_16 : mc_st m H_15 (0, 80, 17) = H_16 at i_16 n_16 s_16 ⊢
  refine hp_aload_nR C dX6_init_134 rfl ?_
  refine hp_sipush (v := 2400) C dX6_init_135 (by decide) ?_
  refine hp_newa C 0 (atype := .int) (ty := .int) (N := 2400) rfl rfl (fun U hU => hU) (by decide) ac_int dX6_init_138 (by decide) rfl (by decide) (by omega) (by omega) ?_
  refine hp_putF C fl_X6_59_6 rfl rfl rfl rfl dX6_init_140 (i_16.mkA 0 2400 (.int 0)) ?_
  have i_17 : hp_is G (mc_st m H_16 (0, 2400, 20)) m 6 := i_16.mkA 0 2400 (.int 0)
  have n_17 : hp_nx (mc_st m H_16 (0, 2400, 20)) = hp_nx H_16 + 1 := rfl
  have s_17 : hp_sl (mc_st m H_16 (0, 2400, 20)) = hp_sl H_16 + 2400 := rfl
  change hp_V M G 1 _ (mc_st m H_16 (0, 2400, 20)) _ _ _
  generalize e_17 : mc_st m H_16 (0, 2400, 20) = H_17 at i_17 n_17 s_17 ⊢
  refine hp_aload_nR C dX6_init_143 rfl ?_
  refine hp_bipush (v := 10) C dX6_init_144 (by decide) ?_
  refine hp_newa C 0 (atype := .int) (ty := .int) (N := 10) rfl rfl (fun U hU => hU) (by decide) ac_int dX6_init_146 (by decide) rfl (by decide) (by omega) (by omega) ?_
  refine hp_putF C fl_X6_62_6 rfl rfl rfl rfl dX6_init_148 (i_17.mkA 0 10 (.int 0)) ?_
  have i_18 : hp_is G (mc_st m H_17 (0, 10, 23)) m 6 := i_17.mkA 0 10 (.int 0)
  have n_18 : hp_nx (mc_st m H_17 (0, 10, 23)) = hp_nx H_17 + 1 := rfl
  have s_18 : hp_sl (mc_st m H_17 (0, 10, 23)) = hp_sl H_17 + 10 := rfl
  change hp_V M G 1 _ (mc_st m H_17 (0, 10, 23)) _ _ _
  generalize e_18 : mc_st m H_17 (0, 10, 23) = H_18 at i_18 n_18 s_18 ⊢
  refine hp_aload_nR C dX6_init_151 rfl ?_
  refine hp_bipush (v := 10) C dX6_init_152 (by decide) ?_
  refine hp_newa C 0 (atype := .int) (ty := .int) (N := 10) rfl rfl (fun U hU => hU) (by decide) ac_int dX6_init_154 (by decide) rfl (by decide) (by omega) (by omega) ?_
  refine hp_putF C fl_X6_65_6 rfl rfl rfl rfl dX6_init_156 (i_18.mkA 0 10 (.int 0)) ?_
  have i_19 : hp_is G (mc_st m H_18 (0, 10, 24)) m 6 := i_18.mkA 0 10 (.int 0)
  have n_19 : hp_nx (mc_st m H_18 (0, 10, 24)) = hp_nx H_18 + 1 := rfl
  have s_19 : hp_sl (mc_st m H_18 (0, 10, 24)) = hp_sl H_18 + 10 := rfl
  change hp_V M G 1 _ (mc_st m H_18 (0, 10, 24)) _ _ _
  generalize e_19 : mc_st m H_18 (0, 10, 24) = H_19 at i_19 n_19 s_19 ⊢
  have eF : H_19 = mc_fd m mc_L h := by rw [← e_19, ← e_18, ← e_17, ← e_16, ← e_15, ← e_14, ← e_13, ← e_12, ← e_11, ← e_10, ← e_9, ← e_8, ← e_7, ← e_6, ← e_5, ← e_4, ← e_3, ← e_2, ← e_1]; rfl
  obtain ⟨sh, vw⟩ := mc_view hi hx0 z0
  rw [← eF] at sh vw
  rw [vw]
  refine hp_aload_nR C dX6_init_159 rfl ?_
  refine mo_getA C sh fl_X6_7_6 rfl (by decide) dX6_init_160 ?_
  refine hp_iconst (v := 0) C dX6_init_163 (by decide) ?_
  refine hp_iconst (v := 1) C dX6_init_164 (by decide) ?_
  refine mo_zst C sh rfl dX6_init_165 (by unfold vp_in; decide) ?_
  refine hp_aload_nR C dX6_init_166 rfl ?_
  refine mo_getA C sh fl_X6_13_6 rfl (by decide) dX6_init_167 ?_
  refine hp_iconst (v := 0) C dX6_init_170 (by decide) ?_
  refine hp_iconst (v := (-1)) C dX6_init_171 (by decide) ?_
  refine mo_ast C sh rfl (by decide) dX6_init_172 (by unfold vp_in; decide) ?_
  refine hp_aload_nR C dX6_init_173 rfl ?_
  refine mo_getA C sh fl_X6_29_6 rfl (by decide) dX6_init_174 ?_
  refine hp_iconst (v := 0) C dX6_init_177 (by decide) ?_
  refine hp_iconst (v := 1) C dX6_init_178 (by decide) ?_
  refine mo_ast C sh rfl (by decide) dX6_init_179 (by unfold vp_in; decide) ?_
  refine hp_aload_nR C dX6_init_180 rfl ?_
  refine mo_getA C sh fl_X6_32_6 rfl (by decide) dX6_init_181 ?_
  refine hp_iconst (v := 0) C dX6_init_184 (by decide) ?_
  refine hp_iconst (v := 5) C dX6_init_185 (by decide) ?_
  refine mo_ast C sh rfl (by decide) dX6_init_186 (by unfold vp_in; decide) ?_
  refine hp_aload_nR C dX6_init_187 rfl ?_
  refine hp_iconst (v := 1) C dX6_init_188 (by decide) ?_
  refine mo_putS C sh fl_X6_68_6 rfl (by decide) rfl rfl rfl dX6_init_189 ?_
  refine hp_vret C hr dX6_init_192 ?_
  exact ⟨rfl, H_19, rfl, sh, by omega, by omega, fun b hb => by rw [eF]; exact ⟨(mc_old m mc_L h b (by omega)).1, (mc_old m mc_L h b (by omega)).2.1, (mc_old m mc_L h b (by omega)).2.2.1, fun f => (mc_old m mc_L h b (by omega)).2.2.2 f (Or.inl (by omega))⟩⟩
/-! ===== WHAT BOTH SIDES MEAN: made, TIME, restarts, gave up; the nodes' numbers by their place (0 keeps, 1 parent, 2 depth, 3 state, 4 kind, 5 strategy, 6 bound, 7 span, 8 patience, 9 start, 10 stop, 11 fails); rows; the restarts' times; the events ===== -/
abbrev aS : Type := Nat × Nat × Nat × Nat × (Nat → Nat → Int) × (Nat → List Nat) × (Nat → List Nat) × List (Nat × Nat × Nat × Nat)
abbrev a_mk (a : aS) : Nat := a.1
abbrev a_tm (a : aS) : Nat := a.2.1
abbrev a_rs (a : aS) : Nat := a.2.2.1
abbrev a_gv (a : aS) : Nat := a.2.2.2.1
abbrev a_nd (a : aS) : Nat → Nat → Int := a.2.2.2.2.1
abbrev a_rw (a : aS) : Nat → List Nat := a.2.2.2.2.2.1
abbrev a_rt (a : aS) : Nat → List Nat := a.2.2.2.2.2.2.1
abbrev a_ev (a : aS) : List (Nat × Nat × Nat × Nat) := a.2.2.2.2.2.2.2
/-- number f of node n := x -/
def a_sn (a : aS) (f n : Nat) (x : Int) : aS := (a.1, a.2.1, a.2.2.1, a.2.2.2.1, va_up (a_nd a) f (va_up (a_nd a f) n x), a.2.2.2.2.2)
/-- TIME := t -/
def a_st (a : aS) (t : Nat) : aS := (a.1, t, a.2.2)
/-- an event is told -/
def a_no (a : aS) (w n r : Nat) : aS := (a.1, a.2.1, a.2.2.1, a.2.2.2.1, a.2.2.2.2.1, a.2.2.2.2.2.1, a.2.2.2.2.2.2.1, a_ev a ++ [(w, n, a_tm a, r)])
def a_sr (a : aS) (n : Nat) (l : List Nat) : aS := (a.1, a.2.1, a.2.2.1, a.2.2.2.1, a.2.2.2.2.1, va_up (a_rw a) n l, a.2.2.2.2.2.2)
def a_srt (a : aS) (n : Nat) (l : List Nat) : aS := (a.1, a.2.1, a.2.2.1, a.2.2.2.1, a.2.2.2.2.1, a.2.2.2.2.2.1, va_up (a_rt a) n l, a.2.2.2.2.2.2.2)
abbrev a_up (a : aS) (n : Nat) : Prop := a_nd a 3 n = 1
/-- does a worker that is stopped get killed for it -/
def a_dies (a : aS) (n : Nat) : Bool := decide (a_nd a 8 n = 0) || (decide (0 < a_nd a 8 n) && decide (a_nd a 8 n < a_nd a 10 n))
/-- how long its stopping takes -/
def a_long (a : aS) (n : Nat) : Nat := (if a_nd a 8 n < 0 ∨ a_nd a 10 n < a_nd a 8 n then a_nd a 10 n else a_nd a 8 n).toNat
/-- node n's own end of ceasing: k: killed -/
def a_end (k : Bool) (n : Nat) (a : aS) : aS :=
  if a_nd a 0 n = 0 ∧ k = false then a_no (a_sn (a_st a (a_tm a + a_long a n)) 3 n 0) (if a_dies a n then 4 else 3) n 0
  else a_no (a_sn a 3 n 0) (if k then 4 else 3) n 0
/-- the row's nodes that are up cease, in the list's order (f: ceasing of one) -/
def a_cR (f : Nat → aS → Nat × aS) : List Nat → aS → Nat × aS
  | [], a => (0, a)
  | c :: r, a => if a_nd a 3 c = 1 then (let z := f c a; let q := a_cR f r z.2; (z.1 + q.1, q.2)) else a_cR f r a
/-- node n ceases, its children that are up ahead of it, the last one first -/
def a_ce (k : Bool) : Nat → Nat → aS → Nat × aS
  | 0, _, a => (0, a)
  | d + 1, n, a => if a_nd a 0 n = 0 then (1, a_end k n a) else (let z := a_cR (a_ce k d) (a_rw a n).reverse a; (z.1 + 1, a_end k n z.2))
/-- the row is started, in order; whether all are up -/
def a_sR (f : Nat → aS → Bool × aS) : List Nat → aS → Bool × aS
  | [], a => (true, a)
  | c :: r, a => let z := f c a; if z.1 then a_sR f r z.2 else (false, z.2)
/-- node n is started -/
def a_go : Nat → Nat → aS → Bool × aS
  | 0, _, a => (false, a)
  | d + 1, n, a =>
    if a_nd a 0 n = 0 then
      (let b := a_st a (a_tm a + (a_nd a 9 n).toNat)
       if 0 < a_nd a 11 n then (false, a_no (a_sn (a_sn b 11 n (a_nd a 11 n - 1)) 3 n 0) 2 n 0) else (true, a_no (a_sn b 3 n 1) 1 n 0))
    else
      (let z := a_sR (a_go d) (a_rw a n) (a_srt a n [])
       if z.1 then (true, a_no (a_sn z.2 3 n 1) 1 n 0)
       else (let q := a_cR (a_ce false d) (a_rw a n).reverse z.2; (false, a_no (a_sn q.2 3 n 0) 2 n 0)))
/-! ceasing and starting change no row -/
theorem a_end_rw (k : Bool) (n : Nat) (a : aS) : a_rw (a_end k n a) = a_rw a ∧ a_mk (a_end k n a) = a_mk a ∧ a_tm a ≤ a_tm (a_end k n a) ∧ (a_ev (a_end k n a)).length = (a_ev a).length + 1 := by
  unfold a_end
  split <;> refine ⟨rfl, rfl, ?_, ?_⟩
  · exact Nat.le_add_right _ _
  · show (a_ev a ++ [_]).length = _
    rw [List.length_append]
    rfl
  · exact Nat.le_refl _
  · show (a_ev a ++ [_]).length = _
    rw [List.length_append]
    rfl
theorem a_cR_keep {f : Nat → aS → Nat × aS} (hf : ∀ c a, a_rw (f c a).2 = a_rw a ∧ a_mk (f c a).2 = a_mk a ∧ a_tm a ≤ a_tm (f c a).2 ∧ (a_ev a).length ≤ (a_ev (f c a).2).length) : ∀ (l : List Nat) (a : aS), a_rw (a_cR f l a).2 = a_rw a ∧ a_mk (a_cR f l a).2 = a_mk a ∧ a_tm a ≤ a_tm (a_cR f l a).2 ∧ (a_ev a).length ≤ (a_ev (a_cR f l a).2).length
  | [], a => ⟨rfl, rfl, Nat.le_refl _, Nat.le_refl _⟩
  | c :: r, a => by
    unfold a_cR
    split
    · obtain ⟨h1, h2, h3, h4⟩ := hf c a
      obtain ⟨g1, g2, g3, g4⟩ := a_cR_keep hf r (f c a).2
      exact ⟨g1.trans h1, g2.trans h2, Nat.le_trans h3 g3, Nat.le_trans h4 g4⟩
    · exact a_cR_keep hf r a
theorem a_ce_keep (k : Bool) : ∀ (d n : Nat) (a : aS), a_rw (a_ce k d n a).2 = a_rw a ∧ a_mk (a_ce k d n a).2 = a_mk a ∧ a_tm a ≤ a_tm (a_ce k d n a).2 ∧ (a_ev a).length ≤ (a_ev (a_ce k d n a).2).length
  | 0, _, _ => ⟨rfl, rfl, Nat.le_refl _, Nat.le_refl _⟩
  | d + 1, n, a => by
    unfold a_ce
    split
    · obtain ⟨h1, h2, h3, h4⟩ := a_end_rw k n a
      exact ⟨h1, h2, h3, by rw [h4]; exact Nat.le_succ _⟩
    · obtain ⟨h1, h2, h3, h4⟩ := a_cR_keep (f := a_ce k d) (fun c b => a_ce_keep k d c b) (a_rw a n).reverse a
      obtain ⟨g1, g2, g3, g4⟩ := a_end_rw k n (a_cR (a_ce k d) (a_rw a n).reverse a).2
      exact ⟨g1.trans h1, g2.trans h2, Nat.le_trans h3 g3, by rw [g4]; omega⟩
/-! ===== the reference holds it ===== -/
/-- a small number -/
abbrev a_sm (x : Int) : Prop := -2 ≤ x ∧ x < 1048576
/-- the reference's state s is a (way and at apart; the restarts' times by their own relation) -/
def ra_R (s : moS) (a : aS) : Prop :=
  (s.1 1 = nI (a_mk a) ∧ 1 ≤ a_mk a ∧ a_mk a ≤ 80) ∧ s.1 18 = nI (a_tm a) ∧ s.1 19 = nI (a_ev a).length ∧ s.1 21 = nI (a_rs a) ∧ s.1 22 = nI (a_gv a) ∧
  (∀ f n, f < 12 → n < 80 → s.2 (f + 2) n = Int32.ofInt (a_nd a f n) ∧ a_sm (a_nd a f n)) ∧
  (∀ n, n < 80 → s.2 15 n = nI (a_rw a n).length ∧ (a_rw a n).length ≤ 80 ∧ ∀ i, i < (a_rw a n).length → s.2 14 (80 * n + i) = nI ((a_rw a n).getD i 0) ∧ (a_rw a n).getD i 0 < 80) ∧
  (∀ i, i < 600 → ∀ q, (a_ev a)[i]? = some q → s.2 20 (4 * i) = nI q.1 ∧ s.2 20 (4 * i + 1) = nI q.2.1 ∧ s.2 20 (4 * i + 2) = nI q.2.2.1 ∧ s.2 20 (4 * i + 3) = nI q.2.2.2) ∧
  (∃ pr : Nat → List Nat, ∀ n, n < 80 → s.2 17 n = nI (pr n).length ∧ (pr n).length ≤ 51 ∧ (∀ i, i < (pr n).length → s.2 16 (52 * n + i) = nI ((pr n).getD i 0)) ∧
    ∃ dr : List Nat, a_rt a n = dr ++ pr n ∧ (a_nd a 3 n = 1 → ∀ x ∈ dr, (x : Int) < (a_tm a : Int) - a_nd a 7 n) ∧ (∀ x ∈ a_rt a n, x ≤ a_tm a))
theorem ra_R.ok {s : moS} {a : aS} (x : ra_R s a) : mo_ok s := ⟨a_mk a, x.1⟩
theorem ra_R.nd {s : moS} {a : aS} (x : ra_R s a) {f n : Nat} (hf : f < 12) (hn : n < 80) : s.2 (f + 2) n = Int32.ofInt (a_nd a f n) := (x.2.2.2.2.2.1 f n hf hn).1
theorem ra_R.sm {s : moS} {a : aS} (x : ra_R s a) {f n : Nat} (hf : f < 12) (hn : n < 80) : a_sm (a_nd a f n) := (x.2.2.2.2.2.1 f n hf hn).2
theorem ra_R.rl {s : moS} {a : aS} (x : ra_R s a) {n : Nat} (hn : n < 80) : s.2 15 n = nI (a_rw a n).length ∧ (a_rw a n).length ≤ 80 := ⟨(x.2.2.2.2.2.2.1 n hn).1, (x.2.2.2.2.2.2.1 n hn).2.1⟩
theorem ra_R.re {s : moS} {a : aS} (x : ra_R s a) {n i : Nat} (hn : n < 80) (hi : i < (a_rw a n).length) : s.2 14 (80 * n + i) = nI ((a_rw a n).getD i 0) ∧ (a_rw a n).getD i 0 < 80 := (x.2.2.2.2.2.2.1 n hn).2.2 i hi
theorem a_ofI {x : Int} (h : a_sm x) : (Int32.ofInt x).toInt = x := by
  rw [Int32.toInt_ofInt]
  have hz : Int32.size = 4294967296 := rfl
  rw [hz]
  exact Int.bmod_eq_of_le (by omega) (by omega)
theorem a_ofI_eq {x y : Int} (hx : a_sm x) (hy : a_sm y) : Int32.ofInt x = Int32.ofInt y ↔ x = y := by
  constructor
  · intro e
    have := congrArg Int32.toInt e
    rwa [a_ofI hx, a_ofI hy] at this
  · intro e; rw [e]
/-- a number of a node is set (no state, no span) -/
theorem ra_R.sn {s : moS} {a : aS} (x : ra_R s a) {f n : Nat} {v : Int} (hf : f < 12) (h3 : f ≠ 3) (h7 : f ≠ 7) (hn : n < 80) (hv : a_sm v) : ra_R (mo_up s (f + 2) n (Int32.ofInt v)) (a_sn a f n v) := by
  obtain ⟨x1, x2, x3, x4, x5, x6, x7, x8, pr, x9⟩ := x
  have ne : ∀ k, k ≠ f + 2 → (mo_up s (f + 2) n (Int32.ofInt v)).2 k = s.2 k := fun k hk => va_up_ne _ _ hk
  have nn : ∀ g, g ≠ f → a_nd (a_sn a f n v) g = a_nd a g := fun g hg => va_up_ne _ _ hg
  refine ⟨x1, x2, x3, x4, x5, fun g q hg hq => ?_, fun q hq => ?_, fun i hi q hq => ?_, pr, fun q hq => ?_⟩
  · show va_up s.2 (f + 2) (va_up (s.2 (f + 2)) n (Int32.ofInt v)) (g + 2) q = Int32.ofInt (va_up (a_nd a) f (va_up (a_nd a f) n v) g q) ∧ a_sm (va_up (a_nd a) f (va_up (a_nd a f) n v) g q)
    by_cases e : g = f
    · subst e
      rw [va_up_self, va_up_self]
      by_cases e2 : q = n
      · subst e2
        rw [va_up_self, va_up_self]
        exact ⟨rfl, hv⟩
      · rw [va_up_ne _ _ e2, va_up_ne _ _ e2]
        exact x6 g q hg hq
    · rw [va_up_ne _ _ e, va_up_ne _ _ (show g + 2 ≠ f + 2 by omega)]
      exact x6 g q hg hq
  · rw [ne 15 (by omega), ne 14 (by omega)]
    exact x7 q hq
  · rw [ne 20 (by omega)]
    exact x8 i hi q hq
  · rw [ne 17 (by omega), ne 16 (by omega), nn 3 (Ne.symm h3), nn 7 (Ne.symm h7)]
    exact x9 q hq
/-- the state of a node is set -/
theorem ra_R.s3 {s : moS} {a : aS} (x : ra_R s a) {n : Nat} {v : Int} (hn : n < 80) (hv : a_sm v) (ht : v = 1 → a_rt a n = []) : ra_R (mo_up s 5 n (Int32.ofInt v)) (a_sn a 3 n v) := by
  obtain ⟨x1, x2, x3, x4, x5, x6, x7, x8, pr, x9⟩ := x
  have ne : ∀ k, k ≠ 5 → (mo_up s 5 n (Int32.ofInt v)).2 k = s.2 k := fun k hk => va_up_ne _ _ hk
  have nn : ∀ g, g ≠ 3 → a_nd (a_sn a 3 n v) g = a_nd a g := fun g hg => va_up_ne _ _ hg
  refine ⟨x1, x2, x3, x4, x5, fun g q hg hq => ?_, fun q hq => ?_, fun i hi q hq => ?_, pr, fun q hq => ?_⟩
  · show va_up s.2 5 (va_up (s.2 5) n (Int32.ofInt v)) (g + 2) q = Int32.ofInt (va_up (a_nd a) 3 (va_up (a_nd a 3) n v) g q) ∧ a_sm (va_up (a_nd a) 3 (va_up (a_nd a 3) n v) g q)
    by_cases e : g = 3
    · subst e
      rw [va_up_self, va_up_self]
      by_cases e2 : q = n
      · subst e2
        rw [va_up_self, va_up_self]
        exact ⟨rfl, hv⟩
      · rw [va_up_ne _ _ e2, va_up_ne _ _ e2]
        exact x6 3 q hg hq
    · rw [va_up_ne _ _ e, va_up_ne _ _ (show g + 2 ≠ 5 by omega)]
      exact x6 g q hg hq
  · rw [ne 15 (by omega), ne 14 (by omega)]
    exact x7 q hq
  · rw [ne 20 (by omega)]
    exact x8 i hi q hq
  · rw [ne 17 (by omega), ne 16 (by omega), nn 7 (by omega)]
    obtain ⟨y1, y2, y3, dr, y4, y5, y6⟩ := x9 q hq
    refine ⟨y1, y2, y3, dr, y4, ?_, y6⟩
    show va_up (a_nd a) 3 (va_up (a_nd a 3) n v) 3 q = 1 → _
    rw [va_up_self]
    by_cases e2 : q = n
    · subst e2
      rw [va_up_self]
      intro ev z hz
      have h0 := ht ev
      have : z ∈ a_rt a q := by rw [y4]; exact List.mem_append_left _ hz
      rw [h0] at this
      cases this
    · rw [va_up_ne _ _ e2]
      exact y5
/-- TIME goes on -/
theorem ra_R.st {s : moS} {a : aS} (x : ra_R s a) {t : Nat} (ht : a_tm a ≤ t) : ra_R (mo_pt s 18 (nI t)) (a_st a t) := by
  obtain ⟨x1, x2, x3, x4, x5, x6, x7, x8, pr, x9⟩ := x
  refine ⟨x1, (show va_up s.1 18 (nI t) 18 = nI t from va_up_self _ _ _), x3, x4, x5, x6, x7, x8, pr, fun q hq => ?_⟩
  obtain ⟨y1, y2, y3, dr, y4, y5, y6⟩ := x9 q hq
  refine ⟨y1, y2, y3, dr, y4, fun h z hz => ?_, fun z hz => Nat.le_trans (y6 z hz) ht⟩
  have := y5 h z hz
  show (z : Int) < (t : Int) - a_nd a 7 q
  omega
/-- an event is told -/
theorem ra_R.no {s : moS} {a : aS} (x : ra_R s a) {w n r : Nat} (hl : (a_ev a).length < 2 ^ 30) : ra_R (mo_note s (nI w) (nI n) (nI r)) (a_no a w n r) := by
  obtain ⟨x1, x2, x3, x4, x5, x6, x7, x8, pr, x9⟩ := x
  have e600 : (600 : Int32) = nI 600 := rfl
  have el : (a_ev (a_no a w n r)).length = (a_ev a).length + 1 := by
    show (a_ev a ++ [_]).length = _
    rw [List.length_append]
    rfl
  unfold mo_note
  rw [x3, e600]
  by_cases c : 600 ≤ (a_ev a).length
  · rw [if_pos (nI_le c (by omega))]
    refine ⟨x1, x2, ?_, x4, x5, x6, x7, fun i hi q hq => x8 i hi q ?_, pr, x9⟩
    · show va_up s.1 19 (nI (a_ev a).length + 1) 19 = _
      rw [va_up_self, el, nI_1]
    · have hq' : (a_ev a ++ [(w, n, a_tm a, r)])[i]? = some q := hq
      rwa [List.getElem?_append_left (by omega)] at hq'
  · rw [if_neg (nI_ge (by omega) (by omega))]
    generalize hL : (a_ev a).length = L at *
    have e4 : (4 : Int32) = nI 4 := rfl
    have c0 : (4 * nI L).toNatClampNeg = 4 * L := by rw [e4, pk_mul, nI_clamp (by omega)]
    have c1 : (4 * nI L + 1).toNatClampNeg = 4 * L + 1 := by rw [e4, pk_mul, nI_1, nI_clamp (by omega)]
    have c2 : (4 * nI L + 2).toNatClampNeg = 4 * L + 2 := by rw [e4, pk_mul, show (2 : Int32) = nI 2 from rfl, nI_add, nI_clamp (by omega)]
    have c3 : (4 * nI L + 3).toNatClampNeg = 4 * L + 3 := by rw [e4, pk_mul, show (3 : Int32) = nI 3 from rfl, nI_add, nI_clamp (by omega)]
    rw [c0, c1, c2, c3]
    have ne : ∀ k, k ≠ 20 → (mo_pt (mo_up (mo_up (mo_up (mo_up s 20 (4 * L) (nI w)) 20 (4 * L + 1) (nI n)) 20 (4 * L + 2) (s.1 18)) 20 (4 * L + 3) (nI r)) 19 (nI L + 1)).2 k = s.2 k := fun k hk => by
      show va_up (va_up (va_up (va_up s.2 20 _) 20 _) 20 _) 20 _ k = _
      rw [va_up_ne _ _ hk, va_up_ne _ _ hk, va_up_ne _ _ hk, va_up_ne _ _ hk]
    have at20 : ∀ i, (mo_pt (mo_up (mo_up (mo_up (mo_up s 20 (4 * L) (nI w)) 20 (4 * L + 1) (nI n)) 20 (4 * L + 2) (s.1 18)) 20 (4 * L + 3) (nI r)) 19 (nI L + 1)).2 20 i = if i = 4 * L + 3 then nI r else if i = 4 * L + 2 then s.1 18 else if i = 4 * L + 1 then nI n else if i = 4 * L then nI w else s.2 20 i := fun i => by
      simp only [mo_pt, mo_up, va_up]
      rfl
    refine ⟨x1, x2, ?_, x4, x5, fun f q hf hq => ?_, fun q hq => ?_, fun i hi q hq => ?_, pr, fun q hq => ?_⟩
    · show va_up s.1 19 (nI L + 1) 19 = _
      rw [va_up_self, el, nI_1]
    · rw [ne _ (by omega)]
      exact x6 f q hf hq
    · rw [ne _ (by omega), ne _ (by omega)]
      exact x7 q hq
    · have hq' : (a_ev a ++ [(w, n, a_tm a, r)])[i]? = some q := hq
      rw [at20, at20, at20, at20]
      by_cases ci : i < L
      · rw [List.getElem?_append_left (by omega)] at hq'
        have z := x8 i hi q hq'
        refine ⟨?_, ?_, ?_, ?_⟩
        · rw [if_neg (by omega), if_neg (by omega), if_neg (by omega), if_neg (by omega)]; exact z.1
        · rw [if_neg (by omega), if_neg (by omega), if_neg (by omega), if_neg (by omega)]; exact z.2.1
        · rw [if_neg (by omega), if_neg (by omega), if_neg (by omega), if_neg (by omega)]; exact z.2.2.1
        · rw [if_neg (by omega), if_neg (by omega), if_neg (by omega), if_neg (by omega)]; exact z.2.2.2
      · have hle : i < (a_ev a ++ [(w, n, a_tm a, r)]).length := (List.getElem?_eq_some_iff.mp hq').1
        rw [List.length_append, hL] at hle
        have ei : i = L := by simp at hle; omega
        subst ei
        rw [List.getElem?_append_right (by omega), hL, Nat.sub_self] at hq'
        cases hq'
        refine ⟨?_, ?_, ?_, ?_⟩
        · rw [if_neg (by omega), if_neg (by omega), if_neg (by omega), if_pos rfl]
        · rw [if_neg (by omega), if_neg (by omega), if_pos rfl]
        · rw [if_neg (by omega), if_pos rfl]; exact x2
        · rw [if_pos rfl]
    · rw [ne _ (by omega), ne _ (by omega)]
      exact x9 q hq
/-- way and at are the loops' own -/
theorem ra_R.own {s : moS} {a : aS} (x : ra_R s a) {k i : Nat} {v : Int32} (hk : k = 23 ∨ k = 24) : ra_R (mo_up s k i v) a := by
  obtain ⟨x1, x2, x3, x4, x5, x6, x7, x8, pr, x9⟩ := x
  have ne : ∀ j, j < 21 → (mo_up s k i v).2 j = s.2 j := fun j hj => va_up_ne _ _ (by omega)
  refine ⟨x1, x2, x3, x4, x5, fun f q hf hq => ?_, fun q hq => ?_, fun j hj q hq => ?_, pr, fun q hq => ?_⟩
  · rw [ne _ (by omega)]; exact x6 f q hf hq
  · rw [ne _ (by omega), ne _ (by omega)]; exact x7 q hq
  · rw [ne _ (by omega)]; exact x8 j hj q hq
  · rw [ne _ (by omega), ne _ (by omega)]; exact x9 q hq
theorem ra_R.cod {s : moS} {a : aS} (x : ra_R s a) {v : Int32} : ra_R (mo_pt s 0 v) a := x
