/-! ===== constructors: the heap behind each, as a term ===== -/
def kc_AL (h : hpT) (a : Nat) : hpT := hp_put h (hp_fd 0 0) a (.int 0)
def kc_Arr (G : hpG) (h : hpT) (a : Nat) : hpT := hp_put (kc_AL h a) (hp_fd 0 1) a (.ref (hp_dE G))
def kc_RT (h : hpT) (a : Nat) : hpT := hp_put (hp_put (hp_mkA h 0 8 (.int 0)) (hp_fd 3 0) a (.ref (hp_nx h))) (hp_fd 3 1) a (.int 0)
def kc_Node (ci : Nat) (h : hpT) (a : Nat) (n : Int32) (ow : Option Nat) (dp kn : Int32) : hpT := hp_put (hp_put (hp_put (hp_put (hp_put h (hp_fd ci 4) a (.int 0)) (hp_fd ci 0) a (.int n)) (hp_fd ci 1) a (va_rf ow)) (hp_fd ci 2) a (.int dp)) (hp_fd ci 3) a (.int kn)
def kc_Keep (G : hpG) (h : hpT) (a : Nat) (n : Int32) (ow : Option Nat) (dp kn sg r t : Int32) : hpT :=
  hp_put (hp_put (hp_put (hp_put (kc_RT (hp_mk (hp_put (kc_Arr G (hp_mk (kc_Node 2 h a n ow dp kn) 0 3) (hp_nx h)) (hp_fd 2 5) a (.ref (hp_nx h))) 3 2) (hp_nx h + 1)) (hp_fd 2 6) a (.ref (hp_nx h + 1))) (hp_fd 2 7) a (.int sg)) (hp_fd 2 8) a (.int r)) (hp_fd 2 9) a (.int t)
def kc_Jou (h : hpT) (a : Nat) : hpT := hp_put (hp_put (hp_put (hp_mkM h 4 600) (hp_fd 1 0) a (.ref (hp_nx h))) (hp_fd 1 1) a (.int 0)) (hp_fd 1 2) a (.int 0)
set_option maxRecDepth 20000 in
set_option maxHeartbeats 4000000 in
theorem kc_acI {l : Launch} {G : hpG} {h : hpT} {a d : Nat} (hd : 1 ≤ d) (hi : hp_is G h a 0) : hp_C l G yJxa1e45_init_da8c8 (.code yJxa1e45_init_da8c8 cJxa1e45_init_da8c8 1 none) d [.ref a] (h) (fun v h' => v = none ∧ h' = h) (fun _ _ => False) := by
  refine hp_ofV (by decide) (by simp [Value.category]) (Nat.le_of_ble_eq_true rfl) (fun M C hr hx el => ?_)
  refine hp_aload_nR C dJxa1e45_init_da8c8_0 rfl ?_
  refine hp_obj C ob_Jxa1e45_1 ob_i ob_c (by omega) dJxa1e45_init_da8c8_1 (by simp [Value.category]) ?_
  refine hp_vret C hr dJxa1e45_init_da8c8_4 ?_
  exact ⟨rfl, rfl⟩
set_option maxRecDepth 20000 in
set_option maxHeartbeats 4000000 in
theorem kc_alI {l : Launch} {G : hpG} {h : hpT} {a d : Nat} (hd : 2 ≤ d) (hi : hp_is G h a 0) : hp_C l G yJxc12de_init_da8c8 (.code yJxc12de_init_da8c8 cJxc12de_init_da8c8 1 none) d [.ref a] (h) (fun v h' => v = none ∧ h' = kc_AL h a) (fun _ _ => False) := by
  refine hp_ofV (by decide) (by simp [Value.category]) (Nat.le_of_ble_eq_true rfl) (fun M C hr hx el => ?_)
  refine hp_aload_nR C dJxc12de_init_da8c8_0 rfl ?_
  refine hp_callI C ml_Jxc12de_1 im_Jxa1e45_init_da8c8 rfl (kc_acI (d := d - 1) (by omega) hi) (by omega) dJxc12de_init_da8c8_1 rfl rfl (by simp [Value.category]) (fun v_1 h_1 hp => ?_)
  obtain ⟨rfl, rfl⟩ := hp
  refine hp_aload_nR C dJxc12de_init_da8c8_4 rfl ?_
  refine hp_iconst (v := 0) C dJxc12de_init_da8c8_5 (by decide) ?_
  first | refine hp_putF C fl_Jxc12de_7_0 rfl rfl rfl rfl dJxc12de_init_da8c8_6 hi ?_ | refine hp_putf C fl_Jxc12de_7_0 rfl rfl rfl dJxc12de_init_da8c8_6 hi ?_
  refine hp_vret C hr dJxc12de_init_da8c8_9 ?_
  exact ⟨rfl, rfl⟩
set_option maxRecDepth 20000 in
set_option maxHeartbeats 4000000 in
theorem kc_arI {l : Launch} {G : hpG} {h : hpT} {a d : Nat} (hd : 3 ≤ d) (hi : hp_is G h a 0) : hp_C l G yJx4a65c_init_da8c8 (.code yJx4a65c_init_da8c8 cJx4a65c_init_da8c8 1 none) d [.ref a] (h) (fun v h' => v = none ∧ h' = kc_Arr G h a) (fun _ _ => False) := by
  refine hp_ofV (by decide) (by simp [Value.category]) (Nat.le_of_ble_eq_true rfl) (fun M C hr hx el => ?_)
  refine hp_aload_nR C dJx4a65c_init_da8c8_0 rfl ?_
  refine hp_callI C ml_Jx4a65c_1 im_Jxc12de_init_da8c8 rfl (kc_alI (d := d - 1) (by omega) hi) (by omega) dJx4a65c_init_da8c8_1 rfl rfl (by simp [Value.category]) (fun v_1 h_1 hp => ?_)
  obtain ⟨rfl, rfl⟩ := hp
  refine hp_aload_nR C dJx4a65c_init_da8c8_4 rfl ?_
  refine hp_gets C gs_Jx4a65c_39 dJx4a65c_init_da8c8_5 ?_
  first | refine hp_putF C fl_Jx4a65c_9_0 rfl rfl rfl rfl dJx4a65c_init_da8c8_8 hi ?_ | refine hp_putf C fl_Jx4a65c_9_0 rfl rfl rfl dJx4a65c_init_da8c8_8 hi ?_
  refine hp_vret C hr dJx4a65c_init_da8c8_11 ?_
  exact ⟨rfl, rfl⟩
set_option maxRecDepth 20000 in
set_option maxHeartbeats 4000000 in
theorem kc_rtI {l : Launch} {G : hpG} {h : hpT} {a d : Nat} (hd : 1 ≤ d) (hi : hp_is G h a 3) (rm : hp_nx h + 20 ≤ hp_n0 G + hp_LC ∧ hp_sl h + 4000 ≤ hp_LS)  : hp_C l G yX3_init (.code yX3_init cX3_init 1 none) d [.ref a] (h) (fun v h' => v = none ∧ h' = kc_RT h a) (fun _ _ => False) := by
  refine hp_ofV (by decide) (by simp [Value.category]) (Nat.le_of_ble_eq_true rfl) (fun M C hr hx el => ?_)
  refine hp_aload_nR C dX3_init_0 rfl ?_
  refine hp_obj C ob_X3_3 ob_i ob_c (by omega) dX3_init_1 (by simp [Value.category]) ?_
  refine hp_aload_nR C dX3_init_4 rfl ?_
  refine hp_bipush (v := 8) C dX3_init_5 (by decide) ?_
  refine hp_newa C 0 (atype := .int) (ty := .int) (N := 8) rfl rfl (fun U hU => hU) (by decide) ac_int dX3_init_7 (by decide) rfl (by decide) (by have q1 := rm.1; have q2 := rm.2; simp only [hp_put, hp_set, hp_mk, hp_mkA, hp_mkM, kc_AL, kc_Arr, kc_RT, kc_Node, kc_Keep, kc_Jou, hp_nx, hp_sl] at *; omega) (by have q1 := rm.1; have q2 := rm.2; simp only [hp_put, hp_set, hp_mk, hp_mkA, hp_mkM, kc_AL, kc_Arr, kc_RT, kc_Node, kc_Keep, kc_Jou, hp_nx, hp_sl] at *; omega) ?_
  first | refine hp_putF C fl_X3_9_3 rfl rfl rfl rfl dX3_init_9 (hi.mkA 0 8 (.int 0)) ?_ | refine hp_putf C fl_X3_9_3 rfl rfl rfl dX3_init_9 (hi.mkA 0 8 (.int 0)) ?_
  refine hp_aload_nR C dX3_init_12 rfl ?_
  refine hp_iconst (v := 0) C dX3_init_13 (by decide) ?_
  first | refine hp_putF C fl_X3_15_3 rfl rfl rfl rfl dX3_init_14 (hi.mkA 0 8 (.int 0)) ?_ | refine hp_putf C fl_X3_15_3 rfl rfl rfl dX3_init_14 (hi.mkA 0 8 (.int 0)) ?_
  refine hp_vret C hr dX3_init_17 ?_
  exact ⟨rfl, rfl⟩
set_option maxRecDepth 20000 in
set_option maxHeartbeats 4000000 in
theorem kc_noI2 {l : Launch} {G : hpG} {h : hpT} {a d : Nat} {n kn : Int32} (hd : 1 ≤ d) (hi : hp_is G h a 2) : hp_C l G yX2_init (.code yX2_init cX2_init 4 none) d [.ref a, .int n, .null, .int kn] (h) (fun v h' => v = none ∧ h' = kc_Node 2 h a n none 0 kn) (fun _ _ => False) := by
  refine hp_ofV (by decide) (by simp [Value.category]) (Nat.le_of_ble_eq_true rfl) (fun M C hr hx el => ?_)
  refine hp_aload_nR C dX2_init_0 rfl ?_
  refine hp_obj C ob_X2_3 ob_i ob_c (by omega) dX2_init_1 (by simp [Value.category]) ?_
  refine hp_aload_nR C dX2_init_4 rfl ?_
  refine hp_iconst (v := 0) C dX2_init_5 (by decide) ?_
  first | refine hp_putF C fl_X2_9_2 rfl rfl rfl rfl dX2_init_6 hi ?_ | refine hp_putf C fl_X2_9_2 rfl rfl rfl dX2_init_6 hi ?_
  refine hp_aload_nR C dX2_init_9 rfl ?_
  refine hp_iload_n C dX2_init_10 rfl ?_
  first | refine hp_putF C fl_X2_15_2 rfl rfl rfl rfl dX2_init_11 hi ?_ | refine hp_putf C fl_X2_15_2 rfl rfl rfl dX2_init_11 hi ?_
  refine hp_aload_nR C dX2_init_14 rfl ?_
  refine hp_aload_n (r := none) C dX2_init_15 rfl ?_
  refine hp_putF (v := va_rf none) C fl_X2_18_2 rfl rfl rfl rfl dX2_init_16 hi ?_
  refine hp_aload_nR C dX2_init_19 rfl ?_
  refine hp_aload_n (r := none) C dX2_init_20 rfl ?_
  refine hp_ifnonnull (r := none) (tgt := 28) C dX2_init_21 (by decide) (fun x hx => by cases hx) (fun _ => ?_)
  refine hp_iconst (v := 0) C dX2_init_24 (by decide) ?_
  refine hp_goto (tgt := 34) C dX2_init_25 (by decide) ?_
  first | refine hp_putF C fl_X2_27_2 rfl rfl rfl rfl dX2_init_34 hi ?_ | refine hp_putf C fl_X2_27_2 rfl rfl rfl dX2_init_34 hi ?_
  refine hp_aload_nR C dX2_init_37 rfl ?_
  refine hp_iload_n C dX2_init_38 rfl ?_
  first | refine hp_putF C fl_X2_28_2 rfl rfl rfl rfl dX2_init_39 hi ?_ | refine hp_putf C fl_X2_28_2 rfl rfl rfl dX2_init_39 hi ?_
  refine hp_vret C hr dX2_init_42 ?_
  exact ⟨rfl, rfl⟩
set_option maxRecDepth 20000 in
set_option maxHeartbeats 4000000 in
theorem kc_noJ2 {l : Launch} {G : hpG} {h : hpT} {a d : Nat} {n kn dp : Int32} {o : Nat} (hd : 1 ≤ d) (hi : hp_is G h a 2) (ho : hp_is G h o 2) (ed : hp_fl h (hp_fd 2 2) o = .int dp) : hp_C l G yX2_init (.code yX2_init cX2_init 4 none) d [.ref a, .int n, .ref o, .int kn] (h) (fun v h' => v = none ∧ h' = kc_Node 2 h a n (some o) (dp + 1) kn) (fun _ _ => False) := by
  refine hp_ofV (by decide) (by simp [Value.category]) (Nat.le_of_ble_eq_true rfl) (fun M C hr hx el => ?_)
  refine hp_aload_nR C dX2_init_0 rfl ?_
  refine hp_obj C ob_X2_3 ob_i ob_c (by omega) dX2_init_1 (by simp [Value.category]) ?_
  refine hp_aload_nR C dX2_init_4 rfl ?_
  refine hp_iconst (v := 0) C dX2_init_5 (by decide) ?_
  first | refine hp_putF C fl_X2_9_2 rfl rfl rfl rfl dX2_init_6 hi ?_ | refine hp_putf C fl_X2_9_2 rfl rfl rfl dX2_init_6 hi ?_
  refine hp_aload_nR C dX2_init_9 rfl ?_
  refine hp_iload_n C dX2_init_10 rfl ?_
  first | refine hp_putF C fl_X2_15_2 rfl rfl rfl rfl dX2_init_11 hi ?_ | refine hp_putf C fl_X2_15_2 rfl rfl rfl dX2_init_11 hi ?_
  refine hp_aload_nR C dX2_init_14 rfl ?_
  refine hp_aload_n (r := some o) C dX2_init_15 rfl ?_
  refine hp_putF (v := va_rf (some o)) C fl_X2_18_2 rfl rfl rfl rfl dX2_init_16 hi ?_
  refine hp_aload_nR C dX2_init_19 rfl ?_
  refine hp_aload_n (r := some o) C dX2_init_20 rfl ?_
  refine hp_ifnonnull (r := some o) (tgt := 28) C dX2_init_21 (by decide) (fun x hx => ?_) (fun hx => by cases hx)
  refine hp_aload_n (r := some o) C dX2_init_28 rfl ?_
  refine hp_get (v := .int dp) C fl_X2_22_2 dX2_init_29 ho ed ?_
  refine hp_iconst (v := 1) C dX2_init_32 (by decide) ?_
  refine hp_iadd C dX2_init_33 ?_
  first | refine hp_putF C fl_X2_27_2 rfl rfl rfl rfl dX2_init_34 hi ?_ | refine hp_putf C fl_X2_27_2 rfl rfl rfl dX2_init_34 hi ?_
  refine hp_aload_nR C dX2_init_37 rfl ?_
  refine hp_iload_n C dX2_init_38 rfl ?_
  first | refine hp_putF C fl_X2_28_2 rfl rfl rfl rfl dX2_init_39 hi ?_ | refine hp_putf C fl_X2_28_2 rfl rfl rfl dX2_init_39 hi ?_
  refine hp_vret C hr dX2_init_42 ?_
  exact ⟨rfl, rfl⟩
set_option maxRecDepth 20000 in
set_option maxHeartbeats 4000000 in
theorem kc_noJ4 {l : Launch} {G : hpG} {h : hpT} {a d : Nat} {n kn dp : Int32} {o : Nat} (hd : 1 ≤ d) (hi : hp_is G h a 4) (ho : hp_is G h o 2) (ed : hp_fl h (hp_fd 2 2) o = .int dp) : hp_C l G yX2_init (.code yX2_init cX2_init 4 none) d [.ref a, .int n, .ref o, .int kn] (h) (fun v h' => v = none ∧ h' = kc_Node 4 h a n (some o) (dp + 1) kn) (fun _ _ => False) := by
  refine hp_ofV (by decide) (by simp [Value.category]) (Nat.le_of_ble_eq_true rfl) (fun M C hr hx el => ?_)
  refine hp_aload_nR C dX2_init_0 rfl ?_
  refine hp_obj C ob_X2_3 ob_i ob_c (by omega) dX2_init_1 (by simp [Value.category]) ?_
  refine hp_aload_nR C dX2_init_4 rfl ?_
  refine hp_iconst (v := 0) C dX2_init_5 (by decide) ?_
  first | refine hp_putF C fl_X2_9_4 rfl rfl rfl rfl dX2_init_6 hi ?_ | refine hp_putf C fl_X2_9_4 rfl rfl rfl dX2_init_6 hi ?_
  refine hp_aload_nR C dX2_init_9 rfl ?_
  refine hp_iload_n C dX2_init_10 rfl ?_
  first | refine hp_putF C fl_X2_15_4 rfl rfl rfl rfl dX2_init_11 hi ?_ | refine hp_putf C fl_X2_15_4 rfl rfl rfl dX2_init_11 hi ?_
  refine hp_aload_nR C dX2_init_14 rfl ?_
  refine hp_aload_n (r := some o) C dX2_init_15 rfl ?_
  refine hp_putF (v := va_rf (some o)) C fl_X2_18_4 rfl rfl rfl rfl dX2_init_16 hi ?_
  refine hp_aload_nR C dX2_init_19 rfl ?_
  refine hp_aload_n (r := some o) C dX2_init_20 rfl ?_
  refine hp_ifnonnull (r := some o) (tgt := 28) C dX2_init_21 (by decide) (fun x hx => ?_) (fun hx => by cases hx)
  refine hp_aload_n (r := some o) C dX2_init_28 rfl ?_
  refine hp_get (v := .int dp) C fl_X2_22_2 dX2_init_29 ho ed ?_
  refine hp_iconst (v := 1) C dX2_init_32 (by decide) ?_
  refine hp_iadd C dX2_init_33 ?_
  first | refine hp_putF C fl_X2_27_4 rfl rfl rfl rfl dX2_init_34 hi ?_ | refine hp_putf C fl_X2_27_4 rfl rfl rfl dX2_init_34 hi ?_
  refine hp_aload_nR C dX2_init_37 rfl ?_
  refine hp_iload_n C dX2_init_38 rfl ?_
  first | refine hp_putF C fl_X2_28_4 rfl rfl rfl rfl dX2_init_39 hi ?_ | refine hp_putf C fl_X2_28_4 rfl rfl rfl dX2_init_39 hi ?_
  refine hp_vret C hr dX2_init_42 ?_
  exact ⟨rfl, rfl⟩
set_option maxRecDepth 20000 in
set_option maxHeartbeats 4000000 in
theorem kc_keI {l : Launch} {G : hpG} {h : hpT} {a d : Nat} {n kn sg r t : Int32} (hd : 4 ≤ d) (hi : hp_is G h a 2) (rm : hp_nx h + 40 ≤ hp_n0 G + hp_LC ∧ hp_sl h + 8000 ≤ hp_LS)  : hp_C l G yX1_init (.code yX1_init cX1_init 7 none) d [.ref a, .int n, .null, .int kn, .int sg, .int r, .int t] (h) (fun v h' => v = none ∧ h' = kc_Keep G h a n none 0 kn sg r t) (fun _ _ => False) := by
  refine hp_ofV (by decide) (by simp [Value.category]) (Nat.le_of_ble_eq_true rfl) (fun M C hr hx el => ?_)
  refine hp_aload_nR C dX1_init_0 rfl ?_
  refine hp_iload_n C dX1_init_1 rfl ?_
  refine hp_aload_n (r := none) C dX1_init_2 rfl ?_
  refine hp_iload_n C dX1_init_3 rfl ?_
  refine hp_callI C ml_X1_3 im_X2_init rfl (kc_noI2 (d := d - 1) (by omega) hi) (by omega) dX1_init_4 rfl rfl (by simp [Value.category]) (fun v_1 h_1 hp => ?_)
  obtain ⟨rfl, rfl⟩ := hp
  refine hp_aload_nR C dX1_init_7 rfl ?_
  refine hp_new C nl_X1_9 dX1_init_8 (by have q1 := rm.1; have q2 := rm.2; simp only [hp_put, hp_set, hp_mk, hp_mkA, hp_mkM, kc_AL, kc_Arr, kc_RT, kc_Node, kc_Keep, kc_Jou, hp_nx, hp_sl] at *; omega) (by have q1 := rm.1; have q2 := rm.2; simp only [hp_put, hp_set, hp_mk, hp_mkA, hp_mkM, kc_AL, kc_Arr, kc_RT, kc_Node, kc_Keep, kc_Jou, hp_nx, hp_sl] at *; omega) ?_
  refine hp_dup C dX1_init_11 rfl ?_
  refine hp_callI C ml_X1_11 im_Jx4a65c_init_da8c8 rfl (kc_arI (d := d - 1) (by omega) (hp_isN (Nat.le_of_lt (Nat.lt_of_le_of_lt hi.1 hi.2.1)) 0 3)) (by omega) dX1_init_12 rfl rfl (by simp [Value.category]) (fun v_1 h_1 hp => ?_)
  obtain ⟨rfl, rfl⟩ := hp
  first | refine hp_putF C fl_X1_14_2 rfl rfl rfl rfl dX1_init_15 (hi.mk 0 3) ?_ | refine hp_putf C fl_X1_14_2 rfl rfl rfl dX1_init_15 (hi.mk 0 3) ?_
  refine hp_aload_nR C dX1_init_18 rfl ?_
  refine hp_new C nl_X1_20 dX1_init_19 (by have q1 := rm.1; have q2 := rm.2; simp only [hp_put, hp_set, hp_mk, hp_mkA, hp_mkM, kc_AL, kc_Arr, kc_RT, kc_Node, kc_Keep, kc_Jou, hp_nx, hp_sl] at *; omega) (by have q1 := rm.1; have q2 := rm.2; simp only [hp_put, hp_set, hp_mk, hp_mkA, hp_mkM, kc_AL, kc_Arr, kc_RT, kc_Node, kc_Keep, kc_Jou, hp_nx, hp_sl] at *; omega) ?_
  refine hp_dup C dX1_init_22 rfl ?_
  refine hp_callIN C cw_X3_init in_X3_init nk_X1_22 ⟨by decide, by decide, by decide +kernel⟩ (by decide) im_X3_init rfl (kc_rtI (d := d - 1) (by omega) (hp_isN (Nat.le_of_lt (Nat.lt_of_le_of_lt (hi.mk 0 3).1 (hi.mk 0 3).2.1)) 3 2) (by have q1 := rm.1; have q2 := rm.2; simp only [hp_put, hp_mk, hp_mkA, kc_AL, kc_Arr, kc_Node, hp_nx, hp_sl] at *; omega)) (by omega) dX1_init_23 rfl rfl (by simp [Value.category]) (fun v_1 h_1 hp => ?_)
  obtain ⟨rfl, rfl⟩ := hp
  first | refine hp_putF C fl_X1_23_2 rfl rfl rfl rfl dX1_init_26 (((hi.mk 0 3).mk 3 2).mkA 0 8 (.int 0)) ?_ | refine hp_putf C fl_X1_23_2 rfl rfl rfl dX1_init_26 (((hi.mk 0 3).mk 3 2).mkA 0 8 (.int 0)) ?_
  refine hp_aload_nR C dX1_init_29 rfl ?_
  refine hp_iload C dX1_init_30 rfl ?_
  first | refine hp_putF C fl_X1_27_2 rfl rfl rfl rfl dX1_init_32 (((hi.mk 0 3).mk 3 2).mkA 0 8 (.int 0)) ?_ | refine hp_putf C fl_X1_27_2 rfl rfl rfl dX1_init_32 (((hi.mk 0 3).mk 3 2).mkA 0 8 (.int 0)) ?_
  refine hp_aload_nR C dX1_init_35 rfl ?_
  refine hp_iload C dX1_init_36 rfl ?_
  first | refine hp_putF C fl_X1_31_2 rfl rfl rfl rfl dX1_init_38 (((hi.mk 0 3).mk 3 2).mkA 0 8 (.int 0)) ?_ | refine hp_putf C fl_X1_31_2 rfl rfl rfl dX1_init_38 (((hi.mk 0 3).mk 3 2).mkA 0 8 (.int 0)) ?_
  refine hp_aload_nR C dX1_init_41 rfl ?_
  refine hp_iload C dX1_init_42 rfl ?_
  first | refine hp_putF C fl_X1_34_2 rfl rfl rfl rfl dX1_init_44 (((hi.mk 0 3).mk 3 2).mkA 0 8 (.int 0)) ?_ | refine hp_putf C fl_X1_34_2 rfl rfl rfl dX1_init_44 (((hi.mk 0 3).mk 3 2).mkA 0 8 (.int 0)) ?_
  refine hp_vret C hr dX1_init_47 ?_
  exact ⟨rfl, rfl⟩
set_option maxRecDepth 20000 in
set_option maxHeartbeats 4000000 in
theorem kc_keJ {l : Launch} {G : hpG} {h : hpT} {a d : Nat} {n kn sg r t dp : Int32} {o : Nat} (hd : 4 ≤ d) (hi : hp_is G h a 2) (ho : hp_is G h o 2) (ed : hp_fl h (hp_fd 2 2) o = .int dp) (rm : hp_nx h + 40 ≤ hp_n0 G + hp_LC ∧ hp_sl h + 8000 ≤ hp_LS)  : hp_C l G yX1_init (.code yX1_init cX1_init 7 none) d [.ref a, .int n, .ref o, .int kn, .int sg, .int r, .int t] (h) (fun v h' => v = none ∧ h' = kc_Keep G h a n (some o) (dp + 1) kn sg r t) (fun _ _ => False) := by
  refine hp_ofV (by decide) (by simp [Value.category]) (Nat.le_of_ble_eq_true rfl) (fun M C hr hx el => ?_)
  refine hp_aload_nR C dX1_init_0 rfl ?_
  refine hp_iload_n C dX1_init_1 rfl ?_
  refine hp_aload_nR C dX1_init_2 rfl ?_
  refine hp_iload_n C dX1_init_3 rfl ?_
  refine hp_callI C ml_X1_3 im_X2_init rfl (kc_noJ2 (d := d - 1) (by omega) hi ho ed) (by omega) dX1_init_4 rfl rfl (by simp [Value.category]) (fun v_1 h_1 hp => ?_)
  obtain ⟨rfl, rfl⟩ := hp
  refine hp_aload_nR C dX1_init_7 rfl ?_
  refine hp_new C nl_X1_9 dX1_init_8 (by have q1 := rm.1; have q2 := rm.2; simp only [hp_put, hp_set, hp_mk, hp_mkA, hp_mkM, kc_AL, kc_Arr, kc_RT, kc_Node, kc_Keep, kc_Jou, hp_nx, hp_sl] at *; omega) (by have q1 := rm.1; have q2 := rm.2; simp only [hp_put, hp_set, hp_mk, hp_mkA, hp_mkM, kc_AL, kc_Arr, kc_RT, kc_Node, kc_Keep, kc_Jou, hp_nx, hp_sl] at *; omega) ?_
  refine hp_dup C dX1_init_11 rfl ?_
  refine hp_callI C ml_X1_11 im_Jx4a65c_init_da8c8 rfl (kc_arI (d := d - 1) (by omega) (hp_isN (Nat.le_of_lt (Nat.lt_of_le_of_lt hi.1 hi.2.1)) 0 3)) (by omega) dX1_init_12 rfl rfl (by simp [Value.category]) (fun v_1 h_1 hp => ?_)
  obtain ⟨rfl, rfl⟩ := hp
  first | refine hp_putF C fl_X1_14_2 rfl rfl rfl rfl dX1_init_15 (hi.mk 0 3) ?_ | refine hp_putf C fl_X1_14_2 rfl rfl rfl dX1_init_15 (hi.mk 0 3) ?_
  refine hp_aload_nR C dX1_init_18 rfl ?_
  refine hp_new C nl_X1_20 dX1_init_19 (by have q1 := rm.1; have q2 := rm.2; simp only [hp_put, hp_set, hp_mk, hp_mkA, hp_mkM, kc_AL, kc_Arr, kc_RT, kc_Node, kc_Keep, kc_Jou, hp_nx, hp_sl] at *; omega) (by have q1 := rm.1; have q2 := rm.2; simp only [hp_put, hp_set, hp_mk, hp_mkA, hp_mkM, kc_AL, kc_Arr, kc_RT, kc_Node, kc_Keep, kc_Jou, hp_nx, hp_sl] at *; omega) ?_
  refine hp_dup C dX1_init_22 rfl ?_
  refine hp_callIN C cw_X3_init in_X3_init nk_X1_22 ⟨by decide, by decide, by decide +kernel⟩ (by decide) im_X3_init rfl (kc_rtI (d := d - 1) (by omega) (hp_isN (Nat.le_of_lt (Nat.lt_of_le_of_lt (hi.mk 0 3).1 (hi.mk 0 3).2.1)) 3 2) (by have q1 := rm.1; have q2 := rm.2; simp only [hp_put, hp_mk, hp_mkA, kc_AL, kc_Arr, kc_Node, hp_nx, hp_sl] at *; omega)) (by omega) dX1_init_23 rfl rfl (by simp [Value.category]) (fun v_1 h_1 hp => ?_)
  obtain ⟨rfl, rfl⟩ := hp
  first | refine hp_putF C fl_X1_23_2 rfl rfl rfl rfl dX1_init_26 (((hi.mk 0 3).mk 3 2).mkA 0 8 (.int 0)) ?_ | refine hp_putf C fl_X1_23_2 rfl rfl rfl dX1_init_26 (((hi.mk 0 3).mk 3 2).mkA 0 8 (.int 0)) ?_
  refine hp_aload_nR C dX1_init_29 rfl ?_
  refine hp_iload C dX1_init_30 rfl ?_
  first | refine hp_putF C fl_X1_27_2 rfl rfl rfl rfl dX1_init_32 (((hi.mk 0 3).mk 3 2).mkA 0 8 (.int 0)) ?_ | refine hp_putf C fl_X1_27_2 rfl rfl rfl dX1_init_32 (((hi.mk 0 3).mk 3 2).mkA 0 8 (.int 0)) ?_
  refine hp_aload_nR C dX1_init_35 rfl ?_
  refine hp_iload C dX1_init_36 rfl ?_
  first | refine hp_putF C fl_X1_31_2 rfl rfl rfl rfl dX1_init_38 (((hi.mk 0 3).mk 3 2).mkA 0 8 (.int 0)) ?_ | refine hp_putf C fl_X1_31_2 rfl rfl rfl dX1_init_38 (((hi.mk 0 3).mk 3 2).mkA 0 8 (.int 0)) ?_
  refine hp_aload_nR C dX1_init_41 rfl ?_
  refine hp_iload C dX1_init_42 rfl ?_
  first | refine hp_putF C fl_X1_34_2 rfl rfl rfl rfl dX1_init_44 (((hi.mk 0 3).mk 3 2).mkA 0 8 (.int 0)) ?_ | refine hp_putf C fl_X1_34_2 rfl rfl rfl dX1_init_44 (((hi.mk 0 3).mk 3 2).mkA 0 8 (.int 0)) ?_
  refine hp_vret C hr dX1_init_47 ?_
  exact ⟨rfl, rfl⟩
