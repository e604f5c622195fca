/-! ===== what is read of the lists ===== -/
theorem KR.isE2 {G : hpG} {pr : Nat → Prop} {B : hpT} {N S : Nat} {h : hpT} {κ : kS} {a : aS} {n i : Nat} (K : KR G pr B N S h κ a) (hn : n < a_mk a) (hk : a_nd a 0 n = 1) (hi : i < (a_rw a n).length) : k_is G pr h (κ.1 2 n) 13 ∧ (a_rw a n).length ≤ hp_ln h (κ.1 2 n) := by
  rcases K.isE hn hk with ⟨e, -⟩ | e
  · rw [e] at hi; cases hi
  · exact e
theorem kc_cast {M : hpM} {G : hpG} {y : MethodName} {cc : ByteArray} {nL d : Nat} {h0 h : hpT} {Q : State → Prop} {pc : Nat} {lo : Nat → Option Value} {st : List Value} {pr : Nat → Prop} {B : hpT} {N S : Nat} {κ : kS} {a : aS} {n idx : Nat} (C : hp_F M G y cc nL d h0) (K : KR G pr B N S h κ a) (hn : n < a_mk a) (hb : a_nd a 0 n = 0 ∨ a_nd a 0 n = 1) {nm : String} (w1 : Cond.classLink y.cls idx nm ∈ hp_ws) (w2 : Cond.castable "KeeperTree$Keeper" nm ∈ hp_ow) (w4 : Cond.castable "KeeperTree$Worker" nm ∈ hp_ow) (dd : decode cc pc = .ok (.checkcast idx, 3)) (kk : hp_V M G nL Q h (pc + 3) lo (.ref (κ.1 0 n) :: st)) : hp_V M G nL Q h pc lo (.ref (κ.1 0 n) :: st) := by
  rcases hb with hb | hb
  · exact hp_castY C 4 w1 w4 rfl (by decide) dd (K.isW hn hb) kk
  · exact hp_castY C 2 w1 w2 rfl (by decide) dd (K.isK hn hb) kk
theorem k_rc {a : aS} (T : a_T a) {n i : Nat} (hn : n < a_mk a) (hi : i < (a_rw a n).length) : (a_rw a n).getD i 0 ∈ a_rw a n := by
  rw [List.getD_eq_getElem?_getD, List.getElem?_eq_getElem hi]
  exact List.getElem_mem hi
set_option maxRecDepth 20000 in
set_option maxHeartbeats 4000000 in
theorem kj_ci3 {l : Launch} {G : hpG} {h : hpT} {d : Nat} {i n : Nat} (hi : i < n) (hn : n < 2 ^ 31) : hp_C l G yJ3_checkIndex_8e157 (.code yJ3_checkIndex_8e157 cJ3_checkIndex_8e157 3 (some .int)) d [.int (nI i), .int (nI n), .null] (h) (fun v h' => v = some (.int (nI i)) ∧ h' = h) (fun _ _ => False) := by
  refine hp_ofV (by decide) (by simp [Value.category]) (Nat.le_of_ble_eq_true rfl) (fun M C hr hx el => ?_)
  refine hp_iload_n C dJ3_checkIndex_8e157_0 rfl ?_
  refine hp_if_lt (tgt := 9) C dJ3_checkIndex_8e157_1 (by decide) (fun z_9 => absurd z_9 (nI_pos (by omega))) (fun _ => ?_)
  refine hp_iload_n C dJ3_checkIndex_8e157_4 rfl ?_
  refine hp_iload_n C dJ3_checkIndex_8e157_5 rfl ?_
  refine hp_icmp_lt (tgt := 16) C dJ3_checkIndex_8e157_6 (by decide) (fun _ => ?_) (fun z_9 => absurd (nI_lt hi hn) z_9)
  refine hp_iload_n C dJ3_checkIndex_8e157_16 rfl ?_
  refine hp_iret C hr rfl dJ3_checkIndex_8e157_17 ?_
  exact ⟨rfl, rfl⟩
set_option maxRecDepth 20000 in
set_option maxHeartbeats 4000000 in
theorem kj_ci {l : Launch} {G : hpG} {h : hpT} {d : Nat} {i n : Nat} (hi : i < n) (hn : n < 2 ^ 31) (hd : 1 ≤ d) : hp_C l G yJ15_checkIndex_7cf53 (.code yJ15_checkIndex_7cf53 cJ15_checkIndex_7cf53 2 (some .int)) d [.int (nI i), .int (nI n)] (h) (fun v h' => v = some (.int (nI i)) ∧ h' = h) (fun _ _ => False) := by
  refine hp_ofV (by decide) (by simp [Value.category]) (Nat.le_of_ble_eq_true rfl) (fun M C hr hx el => ?_)
  refine hp_iload_n C dJ15_checkIndex_7cf53_0 rfl ?_
  refine hp_iload_n C dJ15_checkIndex_7cf53_1 rfl ?_
  refine hp_null C dJ15_checkIndex_7cf53_2 ?_
  refine hp_callS C ml_J15_105 sm_J3_checkIndex_8e157 (kj_ci3 (d := d - 1) hi hn) (by omega) dJ15_checkIndex_7cf53_3 rfl rfl (by simp [Value.category]) (fun v_3 h_3 hp => ?_) (fun _ _ hf => hf.elim)
  obtain ⟨rfl, rfl⟩ := hp
  refine hp_iret C hr rfl dJ15_checkIndex_7cf53_6 ?_
  exact ⟨rfl, rfl⟩
set_option maxRecDepth 20000 in
set_option maxHeartbeats 4000000 in
theorem kc_size {l : Launch} {G : hpG} {pr : Nat → Prop} {B : hpT} {N S : Nat} {h : hpT} {κ : kS} {a : aS} {d : Nat} (K : KR G pr B N S h κ a) {n : Nat} (hn : n < a_mk a) (hk : a_nd a 0 n = 1) : hp_C l G yJx4a65c_size_8abf5 (.code yJx4a65c_size_8abf5 cJx4a65c_size_8abf5 1 (some .int)) d [.ref (κ.1 1 n)] (h) (fun v h' => v = some (.int (nI (a_rw a n).length)) ∧ h' = h) (fun _ _ => False) := by
  refine hp_ofV (by decide) (by simp [Value.category]) (Nat.le_of_ble_eq_true rfl) (fun M C hr hx el => ?_)
  refine hp_aload_nR C dJx4a65c_size_8abf5_0 rfl ?_
  refine hp_get C fl_Jx4a65c_48_0 dJx4a65c_size_8abf5_1 (K.isL hn hk) (K.f2 hn hk) ?_
  refine hp_iret C hr rfl dJx4a65c_size_8abf5_4 ?_
  exact ⟨rfl, rfl⟩
set_option maxRecDepth 20000 in
set_option maxHeartbeats 4000000 in
theorem kc_eld {l : Launch} {G : hpG} {pr : Nat → Prop} {B : hpT} {N S : Nat} {h : hpT} {κ : kS} {a : aS} {d : Nat} (K : KR G pr B N S h κ a) {n i : Nat} (hn : n < a_mk a) (hk : a_nd a 0 n = 1) (hi : i < (a_rw a n).length) (hl : (a_rw a n).length ≤ 79) : hp_C l G yJx4a65c_elementData_915e3 (.code yJx4a65c_elementData_915e3 cJx4a65c_elementData_915e3 2 (some (.object "java/lang/Object"))) d [.ref (κ.1 1 n), .int (nI i)] (h) (fun v h' => v = some (.ref (κ.1 0 ((a_rw a n).getD i 0))) ∧ h' = h) (fun _ _ => False) := by
  refine hp_ofV (by decide) (by simp [Value.category]) (Nat.le_of_ble_eq_true rfl) (fun M C hr hx el => ?_)
  refine hp_aload_nR C dJx4a65c_elementData_915e3_0 rfl ?_
  refine hp_get C fl_Jx4a65c_9_0 dJx4a65c_elementData_915e3_1 (K.isL hn hk) (K.f1 hn hk) ?_
  refine hp_iload_n C dJx4a65c_elementData_915e3_4 rfl ?_
  refine hp_aald C 3 rfl rfl (by decide) dJx4a65c_elementData_915e3_5 (K.isE2 hn hk hi).1.1 (vp_in_iff.mpr (by have := (K.isE2 hn hk hi).2; rw [nI_toInt (by omega)]; omega)) ((congrArg (hp_ar h (κ.1 2 n)) (nI_clamp (by omega))).trans (K.elt hn hk hi)) ?_
  refine hp_aret (r := some _) C hr (Or.inl ⟨_, rfl⟩) dJx4a65c_elementData_915e3_6 ?_
  exact ⟨rfl, rfl⟩
set_option maxRecDepth 20000 in
set_option maxHeartbeats 4000000 in
theorem kc_get {l : Launch} {G : hpG} {pr : Nat → Prop} {B : hpT} {N S : Nat} {h : hpT} {κ : kS} {a : aS} {d : Nat} (K : KR G pr B N S h κ a) {n i : Nat} (hn : n < a_mk a) (hk : a_nd a 0 n = 1) (hi : i < (a_rw a n).length) (hl : (a_rw a n).length ≤ 79) (hd : 2 ≤ d) : hp_C l G yJx4a65c_get_915e3 (.code yJx4a65c_get_915e3 cJx4a65c_get_915e3 2 (some (.object "java/lang/Object"))) d [.ref (κ.1 1 n), .int (nI i)] (h) (fun v h' => v = some (.ref (κ.1 0 ((a_rw a n).getD i 0))) ∧ h' = h) (fun _ _ => False) := by
  refine hp_ofV (by decide) (by simp [Value.category]) (Nat.le_of_ble_eq_true rfl) (fun M C hr hx el => ?_)
  refine hp_iload_n C dJx4a65c_get_915e3_0 rfl ?_
  refine hp_aload_nR C dJx4a65c_get_915e3_1 rfl ?_
  refine hp_get C fl_Jx4a65c_48_0 dJx4a65c_get_915e3_2 (K.isL hn hk) (K.f2 hn hk) ?_
  refine hp_callS C ml_Jx4a65c_118 sm_J15_checkIndex_7cf53 (kj_ci (d := d - 1) (i := i) (n := (a_rw a n).length) hi (by omega) (by omega)) (by omega) dJx4a65c_get_915e3_5 rfl rfl (by simp [Value.category]) (fun v_5 h_5 hp => ?_) (fun _ _ hf => hf.elim)
  obtain ⟨rfl, rfl⟩ := hp
  refine hp_pop C dJx4a65c_get_915e3_8 rfl ?_
  refine hp_aload_nR C dJx4a65c_get_915e3_9 rfl ?_
  refine hp_iload_n C dJx4a65c_get_915e3_10 rfl ?_
  refine hp_callV (ci := 0) C ml_Jx4a65c_123 im_Jx4a65c_elementData_915e3 se_Jx4a65c_elementData_915e3 rfl (by decide) (kc_eld (d := d - 1) K hn hk hi hl) (by omega) dJx4a65c_get_915e3_11 (K.isL hn hk) rfl rfl (by simp [Value.category]) (fun v_11 h_11 hp => ?_) (fun _ _ hf => hf.elim)
  obtain ⟨rfl, rfl⟩ := hp
  refine hp_aret (r := some _) C hr (Or.inl ⟨_, rfl⟩) dJx4a65c_get_915e3_14 ?_
  exact ⟨rfl, rfl⟩
set_option maxHeartbeats 4000000 in
theorem kl_pl {M : hpM} {G : hpG} {d : Nat} {h0 h : hpT} {pr : Nat → Prop} {B : hpT} {N S : Nat} {κ : kS} {a : aS} (K : KR G pr B N S h κ a) (T : a_T a) (C : hp_F M G yX1_placeOf cX1_placeOf 3 d h0) (hr : (hp_mt M).sig.returnType = some .int) (hd : 3 ≤ d) {n c t : Nat} (hn : n < a_mk a) (hk : a_nd a 0 n = 1) (hc : c < a_mk a) (ht : t < (a_rw a n).length) (hat : (a_rw a n).getD t 0 = c) (hno : ∀ j, j < t → ¬ (a_rw a n).getD j 0 = c) {X : String → hpT → Prop} {P : Option Value → hpT → Prop} (hP : P (some (.int (nI t))) h) : ∀ (k i : Nat) (lo : Nat → Option Value), i + k = t → lo 0 = some (.ref (κ.1 0 n)) → lo 1 = some (.ref (κ.1 0 c)) → lo 2 = some (.int (nI i)) → hp_V M G 3 (hp_Q M G h0 P X) h 2 lo [] := by
  have hl := T.rl hn
  intro k
  induction k with
  | zero =>
    intro i lo hi e0 e1 e2
    have hit : i = t := by omega
    subst hit
    refine hp_iload_n C dX1_placeOf_2 e2 ?_
    refine hp_aload_nR C dX1_placeOf_3 e0 ?_
    refine hp_get C fl_X1_14_2 dX1_placeOf_4 (K.isK hn hk) (K.f69 hn hk) ?_
    refine hp_callV (ci := 0) C ml_X1_64 im_Jx4a65c_size_8abf5 se_Jx4a65c_size_8abf5 rfl (by decide) (kc_size (d := d - 1) K hn hk) (by omega) dX1_placeOf_7 (K.isL hn hk) rfl rfl (by simp [Value.category]) (fun v_7 h_7 hp => ?_) (fun _ _ hf => hf.elim)
    obtain ⟨rfl, rfl⟩ := hp
    refine hp_icmp_ge (tgt := 33) C dX1_placeOf_10 (by decide) (fun z_9 => absurd z_9 (nI_ge (by omega) (by omega))) (fun _ => ?_)
    refine hp_aload_nR C dX1_placeOf_13 e0 ?_
    refine hp_get C fl_X1_14_2 dX1_placeOf_14 (K.isK hn hk) (K.f69 hn hk) ?_
    refine hp_iload_n C dX1_placeOf_17 e2 ?_
    refine hp_callV (ci := 0) C ml_X1_68 im_Jx4a65c_get_915e3 se_Jx4a65c_get_915e3 rfl (by decide) (kc_get (d := d - 1) K hn hk (i := i) (by omega) hl (by omega)) (by omega) dX1_placeOf_18 (K.isL hn hk) rfl rfl (by simp [Value.category]) (fun v_18 h_18 hp => ?_) (fun _ _ hf => hf.elim)
    obtain ⟨rfl, rfl⟩ := hp
    refine hp_aload_nR C dX1_placeOf_21 e1 ?_
    refine hp_acmp_ne (r := some _) (q := some _) (tgt := 27) C dX1_placeOf_22 (by decide) (fun c_22 => ?_) (fun c_22 => ?_)
    · exact absurd (congrArg (fun x => some (κ.1 0 x)) hat) c_22
    · refine hp_iload_n C dX1_placeOf_25 e2 ?_
      refine hp_iret C hr rfl dX1_placeOf_26 ?_
      exact hP
  | succ k ih =>
    intro i lo hi e0 e1 e2
    refine hp_iload_n C dX1_placeOf_2 e2 ?_
    refine hp_aload_nR C dX1_placeOf_3 e0 ?_
    refine hp_get C fl_X1_14_2 dX1_placeOf_4 (K.isK hn hk) (K.f69 hn hk) ?_
    refine hp_callV (ci := 0) C ml_X1_64 im_Jx4a65c_size_8abf5 se_Jx4a65c_size_8abf5 rfl (by decide) (kc_size (d := d - 1) K hn hk) (by omega) dX1_placeOf_7 (K.isL hn hk) rfl rfl (by simp [Value.category]) (fun v_7 h_7 hp => ?_) (fun _ _ hf => hf.elim)
    obtain ⟨rfl, rfl⟩ := hp
    refine hp_icmp_ge (tgt := 33) C dX1_placeOf_10 (by decide) (fun z_9 => absurd z_9 (nI_ge (by omega) (by omega))) (fun _ => ?_)
    refine hp_aload_nR C dX1_placeOf_13 e0 ?_
    refine hp_get C fl_X1_14_2 dX1_placeOf_14 (K.isK hn hk) (K.f69 hn hk) ?_
    refine hp_iload_n C dX1_placeOf_17 e2 ?_
    refine hp_callV (ci := 0) C ml_X1_68 im_Jx4a65c_get_915e3 se_Jx4a65c_get_915e3 rfl (by decide) (kc_get (d := d - 1) K hn hk (i := i) (by omega) hl (by omega)) (by omega) dX1_placeOf_18 (K.isL hn hk) rfl rfl (by simp [Value.category]) (fun v_18 h_18 hp => ?_) (fun _ _ hf => hf.elim)
    obtain ⟨rfl, rfl⟩ := hp
    refine hp_aload_nR C dX1_placeOf_21 e1 ?_
    refine hp_acmp_ne (r := some _) (q := some _) (tgt := 27) C dX1_placeOf_22 (by decide) (fun c_22 => ?_) (fun c_22 => ?_)
    · refine hp_iinc C dX1_placeOf_27 e2 (by decide) rfl ?_
      refine hp_goto (tgt := 2) C dX1_placeOf_30 (by decide) ?_
      exact ih (i + 1) _ (by omega) e0 e1 ((va_up_self _ _ _).trans (by rw [show Int32.ofInt 1 = 1 from rfl, nI_1]))
    · exact absurd (K.2.1.1 _ _ (T.rc hn (k_rc T hn (by omega))).1 hc (Option.some.inj c_22)) (hno i (by omega))
set_option maxRecDepth 20000 in
set_option maxHeartbeats 4000000 in
theorem kc_place {l : Launch} {G : hpG} {pr : Nat → Prop} {B : hpT} {N S : Nat} {h : hpT} {κ : kS} {a : aS} {d : Nat} (K : KR G pr B N S h κ a) (T : a_T a) {n c t : Nat} (hn : n < a_mk a) (hk : a_nd a 0 n = 1) (hc : c < a_mk a) (ht : t < (a_rw a n).length) (hat : (a_rw a n).getD t 0 = c) (hno : ∀ j, j < t → ¬ (a_rw a n).getD j 0 = c) (hd : 3 ≤ d) : hp_C l G yX1_placeOf (.code yX1_placeOf cX1_placeOf 3 (some .int)) d [.ref (κ.1 0 n), .ref (κ.1 0 c)] (h) (fun v h' => v = some (.int (nI t)) ∧ h' = h) (fun _ _ => False) := by
  refine hp_ofV (by decide) (by simp [Value.category]) (Nat.le_of_ble_eq_true rfl) (fun M C hr hx el => ?_)
  refine hp_iconst (v := 0) C dX1_placeOf_0 (by decide) ?_
  refine hp_istore_n C dX1_placeOf_1 (by decide) ?_
  exact kl_pl K T C hr hd hn hk hc ht hat hno ⟨rfl, rfl⟩ t 0 _ (by omega) rfl rfl rfl
