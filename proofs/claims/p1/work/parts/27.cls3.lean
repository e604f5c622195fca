/-! ===== the first add of an ArrayList; join; keeper and worker ===== -/
section FG
/-- cells from a on that were there are as they were -/
def hp_fg (a : Nat) (h h1 : hpT) : Prop := hp_nx h ≤ hp_nx h1 ∧ ∀ b, a ≤ b → b < hp_nx h → hp_kd h1 b = hp_kd h b ∧ hp_ln h1 b = hp_ln h b ∧ (∀ f, hp_fl h1 f b = hp_fl h f b) ∧ hp_ar h1 b = hp_ar h b
variable {a : Nat} {h h1 : hpT}
theorem hp_fg.rf : hp_fg a h h := ⟨Nat.le_refl _, fun _ _ _ => ⟨rfl, rfl, fun _ => rfl, rfl⟩⟩
theorem hp_fg.put (x : hp_fg a h h1) (f : Nat) {b : Nat} (v : Value) (c : b < a ∨ hp_nx h ≤ b) : hp_fg a h (hp_put h1 f b v) := by
  refine ⟨x.1, fun q h2 h3 => ?_⟩
  obtain ⟨e1, e2, e3, e4⟩ := x.2 q h2 h3
  refine ⟨e1, e2, fun g => ?_, e4⟩
  rw [hp_put_fl, if_neg (show ¬ q = b by omega)]
  split
  · rename_i e; rw [e3, e]
  · exact e3 g
theorem hp_fg.set (x : hp_fg a h h1) (i : Nat) {b : Nat} (v : Value) (c : b < a ∨ hp_nx h ≤ b) : hp_fg a h (hp_set h1 b i v) := by
  refine ⟨x.1, fun q h2 h3 => ?_⟩
  obtain ⟨e1, e2, e3, e4⟩ := x.2 q h2 h3
  exact ⟨e1, e2, e3, (va_up_ne _ _ (by omega)).trans e4⟩
theorem hp_fg.mk (x : hp_fg a h h1) (c n : Nat) : hp_fg a h (hp_mk h1 c n) := by
  refine ⟨Nat.le_succ_of_le x.1, fun q h2 h3 => ?_⟩
  obtain ⟨e1, e2, e3, e4⟩ := x.2 q h2 h3
  have hq : ¬ q = hp_nx h1 := by have := x.1; omega
  exact ⟨(va_up_ne _ _ hq).trans e1, e2, fun f => (va_up_ne _ _ hq).trans (e3 f), e4⟩
theorem hp_fg.mkA (x : hp_fg a h h1) (t n : Nat) (v : Value) : hp_fg a h (hp_mkA h1 t n v) := by
  refine ⟨Nat.le_succ_of_le x.1, fun q h2 h3 => ?_⟩
  obtain ⟨e1, e2, e3, e4⟩ := x.2 q h2 h3
  have hq : ¬ q = hp_nx h1 := by have := x.1; omega
  exact ⟨(va_up_ne _ _ hq).trans e1, (va_up_ne _ _ hq).trans e2, e3, (va_up_ne _ _ hq).trans e4⟩
theorem hp_fg.node (x : hp_fg a h h1) (ci : Nat) {b : Nat} (n : Int32) (ow : Option Nat) (dp kn : Int32) (c : hp_nx h ≤ b) : hp_fg a h (kc_Node ci h1 b n ow dp kn) := ((((x.put _ _ (Or.inr c)).put _ _ (Or.inr c)).put _ _ (Or.inr c)).put _ _ (Or.inr c)).put _ _ (Or.inr c)
theorem hp_fg.arr (x : hp_fg a h h1) (G : hpG) {b : Nat} (c : hp_nx h ≤ b) : hp_fg a h (kc_Arr G h1 b) := (x.put _ _ (Or.inr c)).put _ _ (Or.inr c)
theorem hp_fg.rt (x : hp_fg a h h1) {b : Nat} (c : hp_nx h ≤ b) : hp_fg a h (kc_RT h1 b) := ((x.mkA _ _ _).put _ _ (Or.inr c)).put _ _ (Or.inr c)
theorem hp_fg.keep (x : hp_fg a h h1) (G : hpG) {b : Nat} (n : Int32) (ow : Option Nat) (dp kn sg r t : Int32) (c : hp_nx h ≤ b) : hp_fg a h (kc_Keep G h1 b n ow dp kn sg r t) := by
  have c1 : hp_nx h ≤ hp_nx h1 := x.1
  have c2 : hp_nx h ≤ hp_nx h1 + 1 := Nat.le_succ_of_le c1
  exact ((((((((((x.node 2 n ow dp kn c).mk 0 3).arr G c1).put _ _ (Or.inr c)).mk 3 2).rt c2).put _ _ (Or.inr c)).put _ _ (Or.inr c)).put _ _ (Or.inr c)).put _ _ (Or.inr c))
end FG
def kc_grow (h : hpT) (r : Nat) : hpT := hp_put (hp_mkA h 3 10 .null) (hp_fd 0 1) r (.ref (hp_nx h))
def kc_addA (h : hpT) (r v : Nat) : hpT := hp_put (hp_set (kc_grow h r) (hp_nx h) 0 (.ref v)) (hp_fd 0 2) r (.int (0 + 1))
def kc_add (h : hpT) (r v : Nat) (mc : Int32) : hpT := kc_addA (hp_put h (hp_fd 0 0) r (.int (mc + 1))) r v
def kc_join (h : hpT) (k q i r v : Nat) (mc md : Int32) : hpT := hp_put (kc_add (hp_set h q i (.ref v)) r v mc) (hp_fd 5 3) k (.int (md + 1))
theorem hp_fg.join {a : Nat} {h h1 : hpT} (x : hp_fg a h h1) {k q i r v : Nat} {mc md : Int32} (c1 : k < a) (c2 : q < a) (c3 : r < a) : hp_fg a h (kc_join h1 k q i r v mc md) := by
  have e : hp_nx h ≤ hp_nx h1 := x.1
  exact (((((((x.set _ _ (Or.inl c2)).put _ _ (Or.inl c3)).mkA _ _ _).put _ _ (Or.inl c3)).set _ _ (Or.inr e)).put _ _ (Or.inl c3)).put _ _ (Or.inl c1))
/-- the length of ArrayList's empty array -/
theorem hp_alenE {M : hpM} {G : hpG} {y : MethodName} {cc : ByteArray} {nL d : Nat} {h0 h : hpT} {Q : State → Prop} {pc : Nat} {lo : Nat → Option Value} {st : List Value} (C : hp_F M G y cc nL d h0) (dd : decode cc pc = .ok (.arraylength, 1)) (kk : hp_V M G nL Q h (pc + 1) lo (.int 0 :: st)) : hp_V M G nL Q h pc lo (.ref (hp_dE G) :: st) := by
  intro H locs cells slots ls hR hl hL
  obtain ⟨cell, hf, hc, hz, hs⟩ := C.en.2.2.2.2.2.1
  have hlt := C.en.2.2.2.2.2.2.1
  obtain ⟨kA, comp, k1, k2, -, -⟩ := (C.en.arr (t := 3) rfl).2
  exact W.alen (n := 0) (ty := .object "java/lang/Object") C.ex C.bc (by rw [hR.2.2.1 _ hlt]; exact hf) ⟨hs, kA, by rw [hc]; exact k1, comp, k2⟩ (by rw [hz]; rfl) rfl rfl dd (kk H locs cells slots ls hR hl hL)
set_option maxRecDepth 20000 in
set_option maxHeartbeats 4000000 in
theorem kc_grI {l : Launch} {G : hpG} {h : hpT} {r d : Nat} (hi : hp_is G h r 0) (f1 : hp_fl h (hp_fd 0 1) r = .ref (hp_dE G)) (rm : hp_nx h + 20 ≤ hp_n0 G + hp_LC ∧ hp_sl h + 200 ≤ hp_LS) {x : Int32} (e10 : (if (10 : Int32) < x then x else 10) = 10) (hd : 1 ≤ d) : hp_C l G yJx4a65c_grow_92f84 (.code yJx4a65c_grow_92f84 cJx4a65c_grow_92f84 4 (some (.array (.object "java/lang/Object")))) d [.ref r, .int x] (h) (fun v_0 h' => v_0 = some (.ref (hp_nx h)) ∧ h' = kc_grow h r) (fun _ _ => False) := by
  refine hp_ofV (by decide) (by simp [Value.category]) (Nat.le_of_ble_eq_true rfl) (fun M C hr hx el => ?_)
  refine hp_aload_nR C dJx4a65c_grow_92f84_0 rfl ?_
  refine hp_get (v := .ref (hp_dE G)) C fl_Jx4a65c_9_0 dJx4a65c_grow_92f84_1 hi f1 ?_
  refine hp_alenE C dJx4a65c_grow_92f84_4 ?_
  refine hp_istore_n C dJx4a65c_grow_92f84_5 (by decide) ?_
  refine hp_iload_n C dJx4a65c_grow_92f84_6 rfl ?_
  refine hp_if_gt (tgt := 20) C dJx4a65c_grow_92f84_7 (by decide) (fun z_9 => absurd z_9 (by decide)) (fun _ => ?_)
  refine hp_aload_nR C dJx4a65c_grow_92f84_10 rfl ?_
  refine hp_get (v := .ref (hp_dE G)) C fl_Jx4a65c_9_0 dJx4a65c_grow_92f84_11 hi f1 ?_
  refine hp_gets C gs_Jx4a65c_39 dJx4a65c_grow_92f84_14 ?_
  refine hp_acmp_eq (r := some (hp_dE G)) (q := some (hp_dE G)) (tgt := 45) C dJx4a65c_grow_92f84_17 (by decide) (fun _ => ?_) (fun z_9 => absurd rfl z_9)
  refine hp_aload_nR C dJx4a65c_grow_92f84_45 rfl ?_
  refine hp_bipush (v := 10) C dJx4a65c_grow_92f84_46 (by decide) ?_
  refine hp_iload_n C dJx4a65c_grow_92f84_48 rfl ?_
  refine hp_mmax (v := 10) C mx_Jx4a65c_79 (by omega) (by simp [Value.category]) dJx4a65c_grow_92f84_49 e10 ?_
  refine hp_anew C 3 (N := 10) rfl (by decide) cl_Jx4a65c_7 (by decide) dJx4a65c_grow_92f84_52 (by decide) rfl (by decide) (by have q1 := rm.1; have q2 := rm.2; simp only [hp_put, hp_set, hp_mk, hp_mkA, kc_grow, kc_addA, kc_add, hp_nx, hp_sl] at *; omega) (by have q1 := rm.1; have q2 := rm.2; simp only [hp_put, hp_set, hp_mk, hp_mkA, kc_grow, kc_addA, kc_add, hp_nx, hp_sl] at *; omega) ?_
  refine hp_dup_x1 C dJx4a65c_grow_92f84_55 rfl rfl ?_
  refine hp_putf C fl_Jx4a65c_9_0 rfl rfl rfl dJx4a65c_grow_92f84_56 (hi.mkA 3 10 .null) ?_
  refine hp_aret (r := some _) C hr (Or.inr ⟨_, rfl⟩) dJx4a65c_grow_92f84_59 ?_
  exact ⟨rfl, rfl⟩
set_option maxRecDepth 20000 in
set_option maxHeartbeats 4000000 in
theorem kc_grJ {l : Launch} {G : hpG} {h : hpT} {r d : Nat} (hi : hp_is G h r 0) (f1 : hp_fl h (hp_fd 0 1) r = .ref (hp_dE G)) (f2 : hp_fl h (hp_fd 0 2) r = .int 0) (rm : hp_nx h + 20 ≤ hp_n0 G + hp_LC ∧ hp_sl h + 200 ≤ hp_LS) (hd : 2 ≤ d) : hp_C l G yJx4a65c_grow_d5877 (.code yJx4a65c_grow_d5877 cJx4a65c_grow_d5877 1 (some (.array (.object "java/lang/Object")))) d [.ref r] (h) (fun v_0 h' => v_0 = some (.ref (hp_nx h)) ∧ h' = kc_grow h r) (fun _ _ => False) := by
  refine hp_ofV (by decide) (by simp [Value.category]) (Nat.le_of_ble_eq_true rfl) (fun M C hr hx el => ?_)
  refine hp_aload_nR C dJx4a65c_grow_d5877_0 rfl ?_
  refine hp_aload_nR C dJx4a65c_grow_d5877_1 rfl ?_
  refine hp_get (v := .int 0) C fl_Jx4a65c_48_0 dJx4a65c_grow_d5877_2 hi f2 ?_
  refine hp_iconst (v := 1) C dJx4a65c_grow_d5877_5 (by decide) ?_
  refine hp_iadd C dJx4a65c_grow_d5877_6 ?_
  refine hp_callV (ci := 0) C ml_Jx4a65c_69 im_Jx4a65c_grow_92f84 se_Jx4a65c_grow_92f84 rfl (by decide) (kc_grI (d := d - 1) hi f1 rm (by decide) (by omega)) (by omega) dJx4a65c_grow_d5877_7 hi rfl rfl (by simp [Value.category]) (fun v_1 h_1 hp => ?_) (fun _ _ hf => hf.elim)
  obtain ⟨rfl, rfl⟩ := hp
  refine hp_aret (r := some _) C hr (Or.inr ⟨_, rfl⟩) dJx4a65c_grow_d5877_10 ?_
  exact ⟨rfl, rfl⟩
set_option maxRecDepth 20000 in
set_option maxHeartbeats 4000000 in
theorem kc_adJK {l : Launch} {G : hpG} {h : hpT} {r v d : Nat} (hi : hp_is G h r 0) (f1 : hp_fl h (hp_fd 0 1) r = .ref (hp_dE G)) (f2 : hp_fl h (hp_fd 0 2) r = .int 0) (hv : hp_is G h v 2) (rm : hp_nx h + 20 ≤ hp_n0 G + hp_LC ∧ hp_sl h + 200 ≤ hp_LS) (hd : 3 ≤ d) : hp_C l G yJx4a65c_add_72be8 (.code yJx4a65c_add_72be8 cJx4a65c_add_72be8 4 none) d [.ref r, .ref v, .ref (hp_dE G), .int 0] (h) (fun v_0 h' => v_0 = none ∧ h' = kc_addA h r v) (fun _ _ => False) := by
  refine hp_ofV (by decide) (by simp [Value.category]) (Nat.le_of_ble_eq_true rfl) (fun M C hr hx el => ?_)
  refine hp_iload_n C dJx4a65c_add_72be8_0 rfl ?_
  refine hp_aload_nR C dJx4a65c_add_72be8_1 rfl ?_
  refine hp_alenE C dJx4a65c_add_72be8_2 ?_
  refine hp_icmp_ne (tgt := 11) C dJx4a65c_add_72be8_3 (by decide) (fun z_9 => absurd rfl z_9) (fun _ => ?_)
  refine hp_aload_nR C dJx4a65c_add_72be8_6 rfl ?_
  refine hp_callV (ci := 0) C ml_Jx4a65c_129 im_Jx4a65c_grow_d5877 se_Jx4a65c_grow_d5877 rfl (by decide) (kc_grJ (d := d - 1) hi f1 f2 rm (by omega)) (by omega) dJx4a65c_add_72be8_7 hi rfl rfl (by simp [Value.category]) (fun v_1 h_1 hp => ?_) (fun _ _ hf => hf.elim)
  obtain ⟨rfl, rfl⟩ := hp
  refine hp_astore_n (r := some _) C dJx4a65c_add_72be8_10 (by decide) ?_
  refine hp_aload_nR C dJx4a65c_add_72be8_11 rfl ?_
  refine hp_iload_n C dJx4a65c_add_72be8_12 rfl ?_
  refine hp_aload_nR C dJx4a65c_add_72be8_13 rfl ?_
  have hn : hp_n0 G ≤ hp_nx h := Nat.le_of_lt (Nat.lt_of_le_of_lt hi.1 hi.2.1)
  refine hp_aast C 3 2 rfl (by decide) (by decide) rfl (by decide) dJx4a65c_add_72be8_14 (show hp_is G (kc_grow h r) (hp_nx h) 13 from hp_isA hn 3 10 .null) (show hp_is G (kc_grow h r) v 2 from hv.mkA 3 10 .null) (by show vp_in 0 (va_up (hp_ln h) (hp_nx h) 10 (hp_nx h)); rw [va_up_self]; unfold vp_in; decide) ?_
  refine hp_aload_nR C dJx4a65c_add_72be8_15 rfl ?_
  refine hp_iload_n C dJx4a65c_add_72be8_16 rfl ?_
  refine hp_iconst (v := 1) C dJx4a65c_add_72be8_17 (by decide) ?_
  refine hp_iadd C dJx4a65c_add_72be8_18 ?_
  refine hp_putf C fl_Jx4a65c_48_0 rfl rfl rfl dJx4a65c_add_72be8_19 (hi.mkA 3 10 .null) ?_
  refine hp_vret C hr dJx4a65c_add_72be8_22 ?_
  exact ⟨rfl, rfl⟩
set_option maxRecDepth 20000 in
set_option maxHeartbeats 4000000 in
theorem kc_adIK {l : Launch} {G : hpG} {h : hpT} {r v d : Nat} (hi : hp_is G h r 0) (f1 : hp_fl h (hp_fd 0 1) r = .ref (hp_dE G)) (f2 : hp_fl h (hp_fd 0 2) r = .int 0) {mc : Int32} (f0 : hp_fl h (hp_fd 0 0) r = .int mc) (hv : hp_is G h v 2) (rm : hp_nx h + 20 ≤ hp_n0 G + hp_LC ∧ hp_sl h + 200 ≤ hp_LS) (hd : 4 ≤ d) : hp_C l G yJx4a65c_add_9ea2d (.code yJx4a65c_add_9ea2d cJx4a65c_add_9ea2d 2 (some .boolean)) d [.ref r, .ref v] (h) (fun v_0 h' => v_0 = some (.int 1) ∧ h' = kc_add h r v mc) (fun _ _ => False) := by
  refine hp_ofV (by decide) (by simp [Value.category]) (Nat.le_of_ble_eq_true rfl) (fun M C hr hx el => ?_)
  refine hp_aload_nR C dJx4a65c_add_9ea2d_0 rfl ?_
  refine hp_dup C dJx4a65c_add_9ea2d_1 rfl ?_
  refine hp_get (v := .int mc) C fl_Jx4a65c_63_0 dJx4a65c_add_9ea2d_2 hi f0 ?_
  refine hp_iconst (v := 1) C dJx4a65c_add_9ea2d_5 (by decide) ?_
  refine hp_iadd C dJx4a65c_add_9ea2d_6 ?_
  refine hp_putf C fl_Jx4a65c_63_0 rfl rfl rfl dJx4a65c_add_9ea2d_7 hi ?_
  refine hp_aload_nR C dJx4a65c_add_9ea2d_10 rfl ?_
  refine hp_aload_nR C dJx4a65c_add_9ea2d_11 rfl ?_
  refine hp_aload_nR C dJx4a65c_add_9ea2d_12 rfl ?_
  refine hp_get (v := .ref (hp_dE G)) C fl_Jx4a65c_9_0 dJx4a65c_add_9ea2d_13 hi f1 ?_
  refine hp_aload_nR C dJx4a65c_add_9ea2d_16 rfl ?_
  refine hp_get (v := .int 0) C fl_Jx4a65c_48_0 dJx4a65c_add_9ea2d_17 hi f2 ?_
  refine hp_callV (ci := 0) C ml_Jx4a65c_131 im_Jx4a65c_add_72be8 se_Jx4a65c_add_72be8 rfl (by decide) (kc_adJK (d := d - 1) hi f1 f2 hv rm (by omega)) (by omega) dJx4a65c_add_9ea2d_20 hi rfl rfl (by simp [Value.category]) (fun v_1 h_1 hp => ?_) (fun _ _ hf => hf.elim)
  obtain ⟨rfl, rfl⟩ := hp
  refine hp_iconst (v := 1) C dJx4a65c_add_9ea2d_23 (by decide) ?_
  refine hp_iret C hr (by decide) dJx4a65c_add_9ea2d_24 ?_
  exact ⟨rfl, rfl⟩
set_option maxRecDepth 20000 in
set_option maxHeartbeats 4000000 in
theorem kc_joIK {l : Launch} {G : hpG} {h : hpT} {k q r v u d : Nat} {mc md i : Int32} (ik : hp_is G h k 5) (iq : hp_is G h q 14) (lq : vp_in i (hp_ln h q)) (iu : hp_is G h u 2) (hi : hp_is G h r 0) (hv : hp_is G h v 2) (g1 : hp_fl h (hp_fd 5 1) k = .ref q) (g2 : hp_fl h (hp_fd 2 0) v = .int i) (g3 : hp_fl h (hp_fd 2 5) u = .ref r) (g4 : hp_fl h (hp_fd 5 3) k = .int md) (f0 : hp_fl h (hp_fd 0 0) r = .int mc) (f1 : hp_fl h (hp_fd 0 1) r = .ref (hp_dE G)) (f2 : hp_fl h (hp_fd 0 2) r = .int 0) (rm : hp_nx h + 20 ≤ hp_n0 G + hp_LC ∧ hp_sl h + 200 ≤ hp_LS) (hd : 5 ≤ d) : hp_C l G yX5_join (.code yX5_join cX5_join 3 none) d [.ref k, .ref v, .ref u] (h) (fun v_0 h' => v_0 = none ∧ h' = kc_join h k q i.toNatClampNeg r v mc md) (fun _ _ => False) := by
  refine hp_ofV (by decide) (by simp [Value.category]) (Nat.le_of_ble_eq_true rfl) (fun M C hr hx el => ?_)
  refine hp_aload_nR C dX5_join_0 rfl ?_
  refine hp_get (v := .ref q) C fl_X5_18_5 dX5_join_1 ik g1 ?_
  refine hp_aload_nR C dX5_join_4 rfl ?_
  refine hp_get (v := .int i) C fl_X5_167_2 dX5_join_5 hv g2 ?_
  refine hp_aload_nR C dX5_join_8 rfl ?_
  refine hp_aast C 4 2 rfl (by decide) (by decide) rfl (by decide) dX5_join_9 iq hv lq ?_
  refine hp_aload_nR C dX5_join_10 rfl ?_
  refine hp_get (v := .ref r) C fl_X5_146_2 dX5_join_11 iu g3 ?_
  refine hp_aload_nR C dX5_join_14 rfl ?_
  refine hp_callV (ci := 0) C ml_X5_181 im_Jx4a65c_add_9ea2d se_Jx4a65c_add_9ea2d rfl (by decide) (kc_adIK (h := hp_set h q i.toNatClampNeg (.ref v)) (d := d - 1) hi f1 f2 f0 hv rm (by omega)) (by omega) dX5_join_15 hi rfl rfl (by simp [Value.category]) (fun v_1 h_1 hp => ?_) (fun _ _ hf => hf.elim)
  obtain ⟨rfl, rfl⟩ := hp
  refine hp_pop C dX5_join_18 rfl ?_
  refine hp_aload_nR C dX5_join_19 rfl ?_
  refine hp_dup C dX5_join_20 rfl ?_
  refine hp_get (v := .int md) C fl_X5_31_5 dX5_join_21 (ik.mkA 3 10 .null) g4 ?_
  refine hp_iconst (v := 1) C dX5_join_24 (by decide) ?_
  refine hp_iadd C dX5_join_25 ?_
  refine hp_putf C fl_X5_31_5 rfl rfl rfl dX5_join_26 (ik.mkA 3 10 .null) ?_
  refine hp_vret C hr dX5_join_29 ?_
  exact ⟨rfl, rfl⟩
set_option maxRecDepth 20000 in
set_option maxHeartbeats 4000000 in
theorem kc_adJW {l : Launch} {G : hpG} {h : hpT} {r v d : Nat} (hi : hp_is G h r 0) (f1 : hp_fl h (hp_fd 0 1) r = .ref (hp_dE G)) (f2 : hp_fl h (hp_fd 0 2) r = .int 0) (hv : hp_is G h v 4) (rm : hp_nx h + 20 ≤ hp_n0 G + hp_LC ∧ hp_sl h + 200 ≤ hp_LS) (hd : 3 ≤ d) : hp_C l G yJx4a65c_add_72be8 (.code yJx4a65c_add_72be8 cJx4a65c_add_72be8 4 none) d [.ref r, .ref v, .ref (hp_dE G), .int 0] (h) (fun v_0 h' => v_0 = none ∧ h' = kc_addA h r v) (fun _ _ => False) := by
  refine hp_ofV (by decide) (by simp [Value.category]) (Nat.le_of_ble_eq_true rfl) (fun M C hr hx el => ?_)
  refine hp_iload_n C dJx4a65c_add_72be8_0 rfl ?_
  refine hp_aload_nR C dJx4a65c_add_72be8_1 rfl ?_
  refine hp_alenE C dJx4a65c_add_72be8_2 ?_
  refine hp_icmp_ne (tgt := 11) C dJx4a65c_add_72be8_3 (by decide) (fun z_9 => absurd rfl z_9) (fun _ => ?_)
  refine hp_aload_nR C dJx4a65c_add_72be8_6 rfl ?_
  refine hp_callV (ci := 0) C ml_Jx4a65c_129 im_Jx4a65c_grow_d5877 se_Jx4a65c_grow_d5877 rfl (by decide) (kc_grJ (d := d - 1) hi f1 f2 rm (by omega)) (by omega) dJx4a65c_add_72be8_7 hi rfl rfl (by simp [Value.category]) (fun v_1 h_1 hp => ?_) (fun _ _ hf => hf.elim)
  obtain ⟨rfl, rfl⟩ := hp
  refine hp_astore_n (r := some _) C dJx4a65c_add_72be8_10 (by decide) ?_
  refine hp_aload_nR C dJx4a65c_add_72be8_11 rfl ?_
  refine hp_iload_n C dJx4a65c_add_72be8_12 rfl ?_
  refine hp_aload_nR C dJx4a65c_add_72be8_13 rfl ?_
  have hn : hp_n0 G ≤ hp_nx h := Nat.le_of_lt (Nat.lt_of_le_of_lt hi.1 hi.2.1)
  refine hp_aast C 3 4 rfl (by decide) (by decide) rfl (by decide) dJx4a65c_add_72be8_14 (show hp_is G (kc_grow h r) (hp_nx h) 13 from hp_isA hn 3 10 .null) (show hp_is G (kc_grow h r) v 4 from hv.mkA 3 10 .null) (by show vp_in 0 (va_up (hp_ln h) (hp_nx h) 10 (hp_nx h)); rw [va_up_self]; unfold vp_in; decide) ?_
  refine hp_aload_nR C dJx4a65c_add_72be8_15 rfl ?_
  refine hp_iload_n C dJx4a65c_add_72be8_16 rfl ?_
  refine hp_iconst (v := 1) C dJx4a65c_add_72be8_17 (by decide) ?_
  refine hp_iadd C dJx4a65c_add_72be8_18 ?_
  refine hp_putf C fl_Jx4a65c_48_0 rfl rfl rfl dJx4a65c_add_72be8_19 (hi.mkA 3 10 .null) ?_
  refine hp_vret C hr dJx4a65c_add_72be8_22 ?_
  exact ⟨rfl, rfl⟩
set_option maxRecDepth 20000 in
set_option maxHeartbeats 4000000 in
theorem kc_adIW {l : Launch} {G : hpG} {h : hpT} {r v d : Nat} (hi : hp_is G h r 0) (f1 : hp_fl h (hp_fd 0 1) r = .ref (hp_dE G)) (f2 : hp_fl h (hp_fd 0 2) r = .int 0) {mc : Int32} (f0 : hp_fl h (hp_fd 0 0) r = .int mc) (hv : hp_is G h v 4) (rm : hp_nx h + 20 ≤ hp_n0 G + hp_LC ∧ hp_sl h + 200 ≤ hp_LS) (hd : 4 ≤ d) : hp_C l G yJx4a65c_add_9ea2d (.code yJx4a65c_add_9ea2d cJx4a65c_add_9ea2d 2 (some .boolean)) d [.ref r, .ref v] (h) (fun v_0 h' => v_0 = some (.int 1) ∧ h' = kc_add h r v mc) (fun _ _ => False) := by
  refine hp_ofV (by decide) (by simp [Value.category]) (Nat.le_of_ble_eq_true rfl) (fun M C hr hx el => ?_)
  refine hp_aload_nR C dJx4a65c_add_9ea2d_0 rfl ?_
  refine hp_dup C dJx4a65c_add_9ea2d_1 rfl ?_
  refine hp_get (v := .int mc) C fl_Jx4a65c_63_0 dJx4a65c_add_9ea2d_2 hi f0 ?_
  refine hp_iconst (v := 1) C dJx4a65c_add_9ea2d_5 (by decide) ?_
  refine hp_iadd C dJx4a65c_add_9ea2d_6 ?_
  refine hp_putf C fl_Jx4a65c_63_0 rfl rfl rfl dJx4a65c_add_9ea2d_7 hi ?_
  refine hp_aload_nR C dJx4a65c_add_9ea2d_10 rfl ?_
  refine hp_aload_nR C dJx4a65c_add_9ea2d_11 rfl ?_
  refine hp_aload_nR C dJx4a65c_add_9ea2d_12 rfl ?_
  refine hp_get (v := .ref (hp_dE G)) C fl_Jx4a65c_9_0 dJx4a65c_add_9ea2d_13 hi f1 ?_
  refine hp_aload_nR C dJx4a65c_add_9ea2d_16 rfl ?_
  refine hp_get (v := .int 0) C fl_Jx4a65c_48_0 dJx4a65c_add_9ea2d_17 hi f2 ?_
  refine hp_callV (ci := 0) C ml_Jx4a65c_131 im_Jx4a65c_add_72be8 se_Jx4a65c_add_72be8 rfl (by decide) (kc_adJW (d := d - 1) hi f1 f2 hv rm (by omega)) (by omega) dJx4a65c_add_9ea2d_20 hi rfl rfl (by simp [Value.category]) (fun v_1 h_1 hp => ?_) (fun _ _ hf => hf.elim)
  obtain ⟨rfl, rfl⟩ := hp
  refine hp_iconst (v := 1) C dJx4a65c_add_9ea2d_23 (by decide) ?_
  refine hp_iret C hr (by decide) dJx4a65c_add_9ea2d_24 ?_
  exact ⟨rfl, rfl⟩
set_option maxRecDepth 20000 in
set_option maxHeartbeats 4000000 in
theorem kc_joIW {l : Launch} {G : hpG} {h : hpT} {k q r v u d : Nat} {mc md i : Int32} (ik : hp_is G h k 5) (iq : hp_is G h q 14) (lq : vp_in i (hp_ln h q)) (iu : hp_is G h u 2) (hi : hp_is G h r 0) (hv : hp_is G h v 4) (g1 : hp_fl h (hp_fd 5 1) k = .ref q) (g2 : hp_fl h (hp_fd 4 0) v = .int i) (g3 : hp_fl h (hp_fd 2 5) u = .ref r) (g4 : hp_fl h (hp_fd 5 3) k = .int md) (f0 : hp_fl h (hp_fd 0 0) r = .int mc) (f1 : hp_fl h (hp_fd 0 1) r = .ref (hp_dE G)) (f2 : hp_fl h (hp_fd 0 2) r = .int 0) (rm : hp_nx h + 20 ≤ hp_n0 G + hp_LC ∧ hp_sl h + 200 ≤ hp_LS) (hd : 5 ≤ d) : hp_C l G yX5_join (.code yX5_join cX5_join 3 none) d [.ref k, .ref v, .ref u] (h) (fun v_0 h' => v_0 = none ∧ h' = kc_join h k q i.toNatClampNeg r v mc md) (fun _ _ => False) := by
  refine hp_ofV (by decide) (by simp [Value.category]) (Nat.le_of_ble_eq_true rfl) (fun M C hr hx el => ?_)
  refine hp_aload_nR C dX5_join_0 rfl ?_
  refine hp_get (v := .ref q) C fl_X5_18_5 dX5_join_1 ik g1 ?_
  refine hp_aload_nR C dX5_join_4 rfl ?_
  refine hp_get (v := .int i) C fl_X5_167_4 dX5_join_5 hv g2 ?_
  refine hp_aload_nR C dX5_join_8 rfl ?_
  refine hp_aast C 4 4 rfl (by decide) (by decide) rfl (by decide) dX5_join_9 iq hv lq ?_
  refine hp_aload_nR C dX5_join_10 rfl ?_
  refine hp_get (v := .ref r) C fl_X5_146_2 dX5_join_11 iu g3 ?_
  refine hp_aload_nR C dX5_join_14 rfl ?_
  refine hp_callV (ci := 0) C ml_X5_181 im_Jx4a65c_add_9ea2d se_Jx4a65c_add_9ea2d rfl (by decide) (kc_adIW (h := hp_set h q i.toNatClampNeg (.ref v)) (d := d - 1) hi f1 f2 f0 hv rm (by omega)) (by omega) dX5_join_15 hi rfl rfl (by simp [Value.category]) (fun v_1 h_1 hp => ?_) (fun _ _ hf => hf.elim)
  obtain ⟨rfl, rfl⟩ := hp
  refine hp_pop C dX5_join_18 rfl ?_
  refine hp_aload_nR C dX5_join_19 rfl ?_
  refine hp_dup C dX5_join_20 rfl ?_
  refine hp_get (v := .int md) C fl_X5_31_5 dX5_join_21 (ik.mkA 3 10 .null) g4 ?_
  refine hp_iconst (v := 1) C dX5_join_24 (by decide) ?_
  refine hp_iadd C dX5_join_25 ?_
  refine hp_putf C fl_X5_31_5 rfl rfl rfl dX5_join_26 (ik.mkA 3 10 .null) ?_
  refine hp_vret C hr dX5_join_29 ?_
  exact ⟨rfl, rfl⟩
