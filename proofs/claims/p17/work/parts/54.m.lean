/-! ===== what is read of the lists ===== -/
theorem KR.isE2 {G : hpG} {pr : Nat → Prop} {B : hpT} {N S : Nat} {h : hpT} {κ : kS} {a : aS} {n i : Nat} (K : KR G pr B N S h κ a) (hn : n < a_mk a) (hk : a_nd a 0 n = 1) (hi : i < (a_rw a n).length) : k_is G pr h (κ.1 2 n) 13 ∧ (a_rw a n).length ≤ hp_ln h (κ.1 2 n) := by
  rcases K.isE hn hk with ⟨e, -⟩ | e
  · rw [e] at hi; cases hi
  · exact e
theorem kc_cast {M : hpM} {G : hpG} {y : MethodName} {cc : ByteArray} {nL d : Nat} {h0 h : hpT} {Q : State → Prop} {pc : Nat} {lo : Nat → Option Value} {st : List Value} {pr : Nat → Prop} {B : hpT} {N S : Nat} {κ : kS} {a : aS} {n idx : Nat} (C : hp_F M G y cc nL d h0) (K : KR G pr B N S h κ a) (hn : n < a_mk a) (hb : a_nd a 0 n = 0 ∨ a_nd a 0 n = 1) {nm : String} (w1 : Cond.classLink y.cls idx nm ∈ hp_ws) (w2 : Cond.castable "KeeperTree$Keeper" nm ∈ hp_ow) (w4 : Cond.castable "KeeperTree$Worker" nm ∈ hp_ow) (dd : decode cc pc = .ok (.checkcast idx, 3)) (kk : hp_V M G nL Q h (pc + 3) lo (.ref (κ.1 0 n) :: st)) : hp_V M G nL Q h pc lo (.ref (κ.1 0 n) :: st) := by
  rcases hb with hb | hb
  · exact hp_castY C 4 w1 w4 rfl (by decide) dd (K.isW hn hb) kk
  · exact hp_castY C 2 w1 w2 rfl (by decide) dd (K.isK hn hb) kk
theorem k_rc {a : aS} (T : a_T a) {n i : Nat} (hn : n < a_mk a) (hi : i < (a_rw a n).length) : (a_rw a n).getD i 0 ∈ a_rw a n := by
  rw [List.getD_eq_getElem?_getD, List.getElem?_eq_getElem hi]
  exact List.getElem_mem hi
set_option maxRecDepth 20000 in
set_option maxHeartbeats 4000000 in
theorem kj_ci3 {l : Launch} {G : hpG} {h : hpT} {d : Nat} {i n : Nat} (hi : i < n) (hn : n < 2 ^ 31) : hp_C l G yJ3_checkIndex_8e157 (.code yJ3_checkIndex_8e157 cJ3_checkIndex_8e157 3 (some .int)) d [.int (nI i), .int (nI n), .null] (h) (fun v h' => v = some (.int (nI i)) ∧ h' = h) (fun _ _ => False) := by
  refine hp_ofV (by decide) (by simp [Value.category]) (Nat.le_of_ble_eq_true rfl) (fun M C hr hx el => ?_)
  refine hp_iload_n C dJ3_checkIndex_8e157_0 rfl ?_
  refine hp_if_lt (tgt := 9) C dJ3_checkIndex_8e157_1 (by decide) (fun z_9 => absurd z_9 (nI_pos (by omega))) (fun _ => ?_)
  refine hp_iload_n C dJ3_checkIndex_8e157_4 rfl ?_
  refine hp_iload_n C dJ3_checkIndex_8e157_5 rfl ?_
  refine hp_icmp_lt (tgt := 16) C dJ3_checkIndex_8e157_6 (by decide) (fun _ => ?_) (fun z_9 => absurd (nI_lt hi hn) z_9)
  refine hp_iload_n C dJ3_checkIndex_8e157_16 rfl ?_
  refine hp_iret C hr rfl dJ3_checkIndex_8e157_17 ?_
  exact ⟨rfl, rfl⟩
set_option maxRecDepth 20000 in
set_option maxHeartbeats 4000000 in
theorem kj_ci {l : Launch} {G : hpG} {h : hpT} {d : Nat} {i n : Nat} (hi : i < n) (hn : n < 2 ^ 31) (hd : 1 ≤ d) : hp_C l G yJ15_checkIndex_7cf53 (.code yJ15_checkIndex_7cf53 cJ15_checkIndex_7cf53 2 (some .int)) d [.int (nI i), .int (nI n)] (h) (fun v h' => v = some (.int (nI i)) ∧ h' = h) (fun _ _ => False) := by
  refine hp_ofV (by decide) (by simp [Value.category]) (Nat.le_of_ble_eq_true rfl) (fun M C hr hx el => ?_)
  refine hp_iload_n C dJ15_checkIndex_7cf53_0 rfl ?_
  refine hp_iload_n C dJ15_checkIndex_7cf53_1 rfl ?_
  refine hp_null C dJ15_checkIndex_7cf53_2 ?_
  refine hp_callS C ml_J15_105 sm_J3_checkIndex_8e157 (kj_ci3 (d := d - 1) hi hn) (by omega) dJ15_checkIndex_7cf53_3 rfl rfl (by simp [Value.category]) (fun v_3 h_3 hp => ?_) (fun _ _ hf => hf.elim)
  obtain ⟨rfl, rfl⟩ := hp
  refine hp_iret C hr rfl dJ15_checkIndex_7cf53_6 ?_
  exact ⟨rfl, rfl⟩
set_option maxRecDepth 20000 in
set_option maxHeartbeats 4000000 in
theorem kc_size {l : Launch} {G : hpG} {pr : Nat → Prop} {B : hpT} {N S : Nat} {h : hpT} {κ : kS} {a : aS} {d : Nat} (K : KR G pr B N S h κ a) {n : Nat} (hn : n < a_mk a) (hk : a_nd a 0 n = 1) : hp_C l G yJx4a65c_size_8abf5 (.code yJx4a65c_size_8abf5 cJx4a65c_size_8abf5 1 (some .int)) d [.ref (κ.1 1 n)] (h) (fun v h' => v = some (.int (nI (a_rw a n).length)) ∧ h' = h) (fun _ _ => False) := by
  refine hp_ofV (by decide) (by simp [Value.category]) (Nat.le_of_ble_eq_true rfl) (fun M C hr hx el => ?_)
  refine hp_aload_nR C dJx4a65c_size_8abf5_0 rfl ?_
  refine hp_get C fl_Jx4a65c_48_0 dJx4a65c_size_8abf5_1 (K.isL hn hk) (K.f2 hn hk) ?_
  refine hp_iret C hr rfl dJx4a65c_size_8abf5_4 ?_
  exact ⟨rfl, rfl⟩
set_option maxRecDepth 20000 in
set_option maxHeartbeats 4000000 in
theorem kc_eld {l : Launch} {G : hpG} {pr : Nat → Prop} {B : hpT} {N S : Nat} {h : hpT} {κ : kS} {a : aS} {d : Nat} (K : KR G pr B N S h κ a) {n i : Nat} (hn : n < a_mk a) (hk : a_nd a 0 n = 1) (hi : i < (a_rw a n).length) (hl : (a_rw a n).length ≤ 79) : hp_C l G yJx4a65c_elementData_915e3 (.code yJx4a65c_elementData_915e3 cJx4a65c_elementData_915e3 2 (some (.object "java/lang/Object"))) d [.ref (κ.1 1 n), .int (nI i)] (h) (fun v h' => v = some (.ref (κ.1 0 ((a_rw a n).getD i 0))) ∧ h' = h) (fun _ _ => False) := by
  refine hp_ofV (by decide) (by simp [Value.category]) (Nat.le_of_ble_eq_true rfl) (fun M C hr hx el => ?_)
  refine hp_aload_nR C dJx4a65c_elementData_915e3_0 rfl ?_
  refine hp_get C fl_Jx4a65c_9_0 dJx4a65c_elementData_915e3_1 (K.isL hn hk) (K.f1 hn hk) ?_
  refine hp_iload_n C dJx4a65c_elementData_915e3_4 rfl ?_
  refine hp_aald C 3 rfl rfl (by decide) dJx4a65c_elementData_915e3_5 (K.isE2 hn hk hi).1.1 (vp_in_iff.mpr (by have := (K.isE2 hn hk hi).2; rw [nI_toInt (by omega)]; omega)) ((congrArg (hp_ar h (κ.1 2 n)) (nI_clamp (by omega))).trans (K.elt hn hk hi)) ?_
  refine hp_aret (r := some _) C hr (Or.inl ⟨_, rfl⟩) dJx4a65c_elementData_915e3_6 ?_
  exact ⟨rfl, rfl⟩
set_option maxRecDepth 20000 in
set_option maxHeartbeats 4000000 in
theorem kc_get {l : Launch} {G : hpG} {pr : Nat → Prop} {B : hpT} {N S : Nat} {h : hpT} {κ : kS} {a : aS} {d : Nat} (K : KR G pr B N S h κ a) {n i : Nat} (hn : n < a_mk a) (hk : a_nd a 0 n = 1) (hi : i < (a_rw a n).length) (hl : (a_rw a n).length ≤ 79) (hd : 2 ≤ d) : hp_C l G yJx4a65c_get_915e3 (.code yJx4a65c_get_915e3 cJx4a65c_get_915e3 2 (some (.object "java/lang/Object"))) d [.ref (κ.1 1 n), .int (nI i)] (h) (fun v h' => v = some (.ref (κ.1 0 ((a_rw a n).getD i 0))) ∧ h' = h) (fun _ _ => False) := by
  refine hp_ofV (by decide) (by simp [Value.category]) (Nat.le_of_ble_eq_true rfl) (fun M C hr hx el => ?_)
  refine hp_iload_n C dJx4a65c_get_915e3_0 rfl ?_
  refine hp_aload_nR C dJx4a65c_get_915e3_1 rfl ?_
  refine hp_get C fl_Jx4a65c_48_0 dJx4a65c_get_915e3_2 (K.isL hn hk) (K.f2 hn hk) ?_
  refine hp_callS C ml_Jx4a65c_118 sm_J15_checkIndex_7cf53 (kj_ci (d := d - 1) (i := i) (n := (a_rw a n).length) hi (by omega) (by omega)) (by omega) dJx4a65c_get_915e3_5 rfl rfl (by simp [Value.category]) (fun v_5 h_5 hp => ?_) (fun _ _ hf => hf.elim)
  obtain ⟨rfl, rfl⟩ := hp
  refine hp_pop C dJx4a65c_get_915e3_8 rfl ?_
  refine hp_aload_nR C dJx4a65c_get_915e3_9 rfl ?_
  refine hp_iload_n C dJx4a65c_get_915e3_10 rfl ?_
  refine hp_callV (ci := 0) C ml_Jx4a65c_123 im_Jx4a65c_elementData_915e3 se_Jx4a65c_elementData_915e3 rfl (by decide) (kc_eld (d := d - 1) K hn hk hi hl) (by omega) dJx4a65c_get_915e3_11 (K.isL hn hk) rfl rfl (by simp [Value.category]) (fun v_11 h_11 hp => ?_) (fun _ _ hf => hf.elim)
  obtain ⟨rfl, rfl⟩ := hp
  refine hp_aret (r := some _) C hr (Or.inl ⟨_, rfl⟩) dJx4a65c_get_915e3_14 ?_
  exact ⟨rfl, rfl⟩
set_option maxHeartbeats 4000000 in
theorem kl_pl {M : hpM} {G : hpG} {d : Nat} {h0 h : hpT} {pr : Nat → Prop} {B : hpT} {N S : Nat} {κ : kS} {a : aS} (K : KR G pr B N S h κ a) (T : a_T a) (C : hp_F M G yX1_placeOf cX1_placeOf 3 d h0) (hr : (hp_mt M).sig.returnType = some .int) (hd : 3 ≤ d) {n c t : Nat} (hn : n < a_mk a) (hk : a_nd a 0 n = 1) (hc : c < a_mk a) (ht : t < (a_rw a n).length) (hat : (a_rw a n).getD t 0 = c) (hno : ∀ j, j < t → ¬ (a_rw a n).getD j 0 = c) {X : String → hpT → Prop} {P : Option Value → hpT → Prop} (hP : P (some (.int (nI t))) h) : ∀ (k i : Nat) (lo : Nat → Option Value), i + k = t → lo 0 = some (.ref (κ.1 0 n)) → lo 1 = some (.ref (κ.1 0 c)) → lo 2 = some (.int (nI i)) → hp_V M G 3 (hp_Q M G h0 P X) h 2 lo [] := by
  have hl := T.rl hn
  intro k
  induction k with
  | zero =>
    intro i lo hi e0 e1 e2
    have hit : i = t := by omega
    subst hit
    refine hp_iload_n C dX1_placeOf_2 e2 ?_
    refine hp_aload_nR C dX1_placeOf_3 e0 ?_
    refine hp_get C fl_X1_14_2 dX1_placeOf_4 (K.isK hn hk) (K.f69 hn hk) ?_
    refine hp_callV (ci := 0) C ml_X1_64 im_Jx4a65c_size_8abf5 se_Jx4a65c_size_8abf5 rfl (by decide) (kc_size (d := d - 1) K hn hk) (by omega) dX1_placeOf_7 (K.isL hn hk) rfl rfl (by simp [Value.category]) (fun v_7 h_7 hp => ?_) (fun _ _ hf => hf.elim)
    obtain ⟨rfl, rfl⟩ := hp
    refine hp_icmp_ge (tgt := 33) C dX1_placeOf_10 (by decide) (fun z_9 => absurd z_9 (nI_ge (by omega) (by omega))) (fun _ => ?_)
    refine hp_aload_nR C dX1_placeOf_13 e0 ?_
    refine hp_get C fl_X1_14_2 dX1_placeOf_14 (K.isK hn hk) (K.f69 hn hk) ?_
    refine hp_iload_n C dX1_placeOf_17 e2 ?_
    refine hp_callV (ci := 0) C ml_X1_68 im_Jx4a65c_get_915e3 se_Jx4a65c_get_915e3 rfl (by decide) (kc_get (d := d - 1) K hn hk (i := i) (by omega) hl (by omega)) (by omega) dX1_placeOf_18 (K.isL hn hk) rfl rfl (by simp [Value.category]) (fun v_18 h_18 hp => ?_) (fun _ _ hf => hf.elim)
    obtain ⟨rfl, rfl⟩ := hp
    refine hp_aload_nR C dX1_placeOf_21 e1 ?_
    refine hp_acmp_ne (r := some _) (q := some _) (tgt := 27) C dX1_placeOf_22 (by decide) (fun c_22 => ?_) (fun c_22 => ?_)
    · exact absurd (congrArg (fun x => some (κ.1 0 x)) hat) c_22
    · refine hp_iload_n C dX1_placeOf_25 e2 ?_
      refine hp_iret C hr rfl dX1_placeOf_26 ?_
      exact hP
  | succ k ih =>
    intro i lo hi e0 e1 e2
    refine hp_iload_n C dX1_placeOf_2 e2 ?_
    refine hp_aload_nR C dX1_placeOf_3 e0 ?_
    refine hp_get C fl_X1_14_2 dX1_placeOf_4 (K.isK hn hk) (K.f69 hn hk) ?_
    refine hp_callV (ci := 0) C ml_X1_64 im_Jx4a65c_size_8abf5 se_Jx4a65c_size_8abf5 rfl (by decide) (kc_size (d := d - 1) K hn hk) (by omega) dX1_placeOf_7 (K.isL hn hk) rfl rfl (by simp [Value.category]) (fun v_7 h_7 hp => ?_) (fun _ _ hf => hf.elim)
    obtain ⟨rfl, rfl⟩ := hp
    refine hp_icmp_ge (tgt := 33) C dX1_placeOf_10 (by decide) (fun z_9 => absurd z_9 (nI_ge (by omega) (by omega))) (fun _ => ?_)
    refine hp_aload_nR C dX1_placeOf_13 e0 ?_
    refine hp_get C fl_X1_14_2 dX1_placeOf_14 (K.isK hn hk) (K.f69 hn hk) ?_
    refine hp_iload_n C dX1_placeOf_17 e2 ?_
    refine hp_callV (ci := 0) C ml_X1_68 im_Jx4a65c_get_915e3 se_Jx4a65c_get_915e3 rfl (by decide) (kc_get (d := d - 1) K hn hk (i := i) (by omega) hl (by omega)) (by omega) dX1_placeOf_18 (K.isL hn hk) rfl rfl (by simp [Value.category]) (fun v_18 h_18 hp => ?_) (fun _ _ hf => hf.elim)
    obtain ⟨rfl, rfl⟩ := hp
    refine hp_aload_nR C dX1_placeOf_21 e1 ?_
    refine hp_acmp_ne (r := some _) (q := some _) (tgt := 27) C dX1_placeOf_22 (by decide) (fun c_22 => ?_) (fun c_22 => ?_)
    · refine hp_iinc C dX1_placeOf_27 e2 (by decide) rfl ?_
      refine hp_goto (tgt := 2) C dX1_placeOf_30 (by decide) ?_
      exact ih (i + 1) _ (by omega) e0 e1 ((va_up_self _ _ _).trans (by rw [show Int32.ofInt 1 = 1 from rfl, nI_1]))
    · exact absurd (K.2.1.1 _ _ (T.rc hn (k_rc T hn (by omega))).1 hc (Option.some.inj c_22)) (hno i (by omega))
set_option maxRecDepth 20000 in
set_option maxHeartbeats 4000000 in
theorem kc_place {l : Launch} {G : hpG} {pr : Nat → Prop} {B : hpT} {N S : Nat} {h : hpT} {κ : kS} {a : aS} {d : Nat} (K : KR G pr B N S h κ a) (T : a_T a) {n c t : Nat} (hn : n < a_mk a) (hk : a_nd a 0 n = 1) (hc : c < a_mk a) (ht : t < (a_rw a n).length) (hat : (a_rw a n).getD t 0 = c) (hno : ∀ j, j < t → ¬ (a_rw a n).getD j 0 = c) (hd : 3 ≤ d) : hp_C l G yX1_placeOf (.code yX1_placeOf cX1_placeOf 3 (some .int)) d [.ref (κ.1 0 n), .ref (κ.1 0 c)] (h) (fun v h' => v = some (.int (nI t)) ∧ h' = h) (fun _ _ => False) := by
  refine hp_ofV (by decide) (by simp [Value.category]) (Nat.le_of_ble_eq_true rfl) (fun M C hr hx el => ?_)
  refine hp_iconst (v := 0) C dX1_placeOf_0 (by decide) ?_
  refine hp_istore_n C dX1_placeOf_1 (by decide) ?_
  exact kl_pl K T C hr hd hn hk hc ht hat hno ⟨rfl, rfl⟩ t 0 _ (by omega) rfl rfl rfl
/-! ===== down the tree: a method that keepers and workers have ===== -/
def k_C2 (l : Launch) (G : hpG) (y2 : MethodName) (c2 : ByteArray) (m2 : Nat) (y4 : MethodName) (c4 : ByteArray) (m4 : Nat) (ret : Option FieldType) (d : Nat) (kd : Int) (av : List Value) (h : hpT) (P : Option Value → hpT → Prop) : Prop := (kd = 1 → hp_C l G y2 (.code y2 c2 m2 ret) d av h P (fun _ _ => False)) ∧ (kd = 0 → hp_C l G y4 (.code y4 c4 m4 ret) d av h P (fun _ _ => False))
theorem hp_callN {M : hpM} {G : hpG} {y : MethodName} {cc : ByteArray} {nL d : Nat} {h0 h : hpT} {Q : State → Prop} {pc : Nat} {lo : Nat → Option Value} {st : List Value} {pr : Nat → Prop} {B : hpT} {N S : Nat} {κ : kS} {a : aS} {n idx : Nat} (C : hp_F M G y cc nL d h0) (K : KR G pr B N S h κ a) (hn : n < a_mk a) (hb : a_nd a 0 n = 0 ∨ a_nd a 0 n = 1) {np m2 m4 d' : Nat} {x' y2 y4 : MethodName} {owner : String} {c2 c4 : ByteArray} {ret : Option FieldType} {As stk : List Value} {P' : Option Value → hpT → Prop}
    (u2 : hp_UL y.cls idx x' owner "KeeperTree$Keeper" y2 c2 m2 ret np) (u4 : hp_UL y.cls idx x' owner "KeeperTree$Worker" y4 c4 m4 ret np) (con : k_C2 M.2.1 G y2 c2 m2 y4 c4 m4 ret d' (a_nd a 0 n) (.ref (κ.1 0 n) :: As) h P') (hd : d' + 1 ≤ d) (dd : decode cc pc = .ok (.invokevirtual idx, 3)) (hnp : As.length = np) (hst : stk = As.reverse ++ .ref (κ.1 0 n) :: st) (hw : (st.map fun v => v.category).sum ≤ 8)
    (kk : ∀ v h', P' v h' → hp_V M G nL Q h' (pc + 3) lo (v.toList ++ st)) : hp_V M G nL Q h pc lo stk := by
  rcases hb with hb | hb
  · exact hp_callU C 4 u4 rfl (by decide) (con.2 hb) hd dd (K.isW hn hb) hnp hst hw kk
  · exact hp_callU C 2 u2 rfl (by decide) (con.1 hb) hd dd (K.isK hn hb) hnp hst hw kk
/-- keeper n of row L is here, f levels are left below it -/
def a_lv (f n : Nat) (L : List Nat) (a : aS) : Prop := a_T a ∧ n < a_mk a ∧ a_nd a 0 n = 1 ∧ (8 : Int) ≤ f + a_nd a 2 n ∧ a_rw a n = L
theorem a_lv.kp {f n : Nat} {L : List Nat} {a b : aS} (x : a_lv f n L a) (k : a_kp a b) : a_lv f n L b := ⟨k.T x.1, by rw [k.mk]; exact x.2.1, by rw [k.nd]; exact x.2.2.1, by rw [k.nd]; exact x.2.2.2.1, by rw [k.rw']; exact x.2.2.2.2⟩
theorem a_lv.c {f n i : Nat} {L : List Nat} {a : aS} (x : a_lv f n L a) (hi : i < L.length) : L.getD i 0 < a_mk a ∧ (9 : Int) ≤ f + a_nd a 2 (L.getD i 0) := by
  obtain ⟨T, x2, x3, x4, x5⟩ := x
  subst x5
  obtain ⟨q1, q2, q3⟩ := T.rc x2 (k_rc T x2 hi)
  exact ⟨q1, by rw [q3]; omega⟩
theorem k_tk {L : List Nat} {j : Nat} (h : j < L.length) : (L.take (j + 1)).reverse = L.getD j 0 :: (L.take j).reverse := by
  rw [List.take_succ, List.getElem?_eq_getElem h, List.getD_eq_getElem?_getD, List.getElem?_eq_getElem h]
  simp
theorem a_cR_up {f : Nat → aS → Nat × aS} {c : Nat} {r : List Nat} {a : aS} (h : a_nd a 3 c = 1) : a_cR f (c :: r) a = ((f c a).1 + (a_cR f r (f c a).2).1, (a_cR f r (f c a).2).2) := by
  show (if a_nd a 3 c = 1 then _ else _) = _
  rw [if_pos h]
theorem a_cR_dn {f : Nat → aS → Nat × aS} {c : Nat} {r : List Nat} {a : aS} (h : ¬ a_nd a 3 c = 1) : a_cR f (c :: r) a = a_cR f r a := by
  show (if a_nd a 3 c = 1 then _ else _) = _
  rw [if_neg h]
theorem a_ce_w {k : Bool} {d n : Nat} {a : aS} (hw : a_nd a 0 n = 0) : a_ce k (d + 1) n a = (1, a_end k n a) := by
  show (if a_nd a 0 n = 0 then _ else _) = _
  rw [if_pos hw]
theorem a_ce_k {k : Bool} {d n : Nat} {a : aS} (hk : a_nd a 0 n = 1) : a_ce k (d + 1) n a = ((a_cR (a_ce k d) (a_rw a n).reverse a).1 + 1, a_no (a_sn (a_cR (a_ce k d) (a_rw a n).reverse a).2 3 n 0) (if k = true then 4 else 3) n 0) := by
  show (if a_nd a 0 n = 0 then _ else _) = _
  rw [if_neg (by omega)]
  show ((a_cR (a_ce k d) (a_rw a n).reverse a).1 + 1, a_end k n (a_cR (a_ce k d) (a_rw a n).reverse a).2) = _
  unfold a_end
  rw [if_neg]
  intro z
  have := (a_cR_kp (a_ce_kp k d) (a_rw a n).reverse a).nd (f := 0) (n := n)
  omega
abbrev kf_fall (l : Launch) (G : hpG) (d : Nat) (kd : Int) (b J : Nat) (h : hpT) (P : Option Value → hpT → Prop) : Prop := k_C2 l G yX1_fall cX1_fall 2 yX4_fall cX4_fall 3 none d kd [.ref b, .ref J] h P
abbrev kf_per (l : Launch) (G : hpG) (d : Nat) (kd : Int) (b J : Nat) (h : hpT) (P : Option Value → hpT → Prop) : Prop := k_C2 l G yX1_perish cX1_perish 5 yX4_perish cX4_perish 2 (some .int) d kd [.ref b, .ref J] h P
set_option maxHeartbeats 4000000 in
theorem kl_fa {M : hpM} {G : hpG} {d : Nat} {h0 : hpT} {pr : Nat → Prop} {B : hpT} {N S : Nat} {κ : kS} (C : hp_F M G yX1_fallAll cX1_fallAll 4 d h0) (hr : (hp_mt M).sig.returnType = none) {f n D : Nat} {L : List Nat} (hD : D + 1 ≤ d) (hd : 3 ≤ d) (hch : ∀ (c : Nat) (a : aS) (h : hpT), KR G pr B N S h κ a → a_T a → c < a_mk a → (9 : Int) ≤ f + a_nd a 2 c → (a_ev (a_ce false f c a).2).length < 2 ^ 30 → kf_fall M.2.1 G D (a_nd a 0 c) (κ.1 0 c) (κ.1 5 1) h (fun v h' => v = none ∧ KR G pr B N S h' κ (a_ce false f c a).2)) {X : String → hpT → Prop} {P : Option Value → hpT → Prop} : ∀ (j : Nat) (lo : Nat → Option Value) (h : hpT) (a : aS), KR G pr B N S h κ a → a_lv f n L a → j ≤ L.length → (a_ev (a_cR (a_ce false f) (L.take j).reverse a).2).length < 2 ^ 30 → lo 0 = some (.ref (κ.1 0 n)) → lo 1 = some (.ref (κ.1 5 1)) → lo 2 = some (.int (nI j - 1)) → (∀ h', KR G pr B N S h' κ (a_cR (a_ce false f) (L.take j).reverse a).2 → P none h') → hp_V M G 4 (hp_Q M G h0 P X) h 10 lo [] := by
  intro j
  induction j with
  | zero =>
    intro lo h a K X hj hv e0 e1 e2 hP
    have hn := X.2.1
    have hk := X.2.2.1
    have T := X.1
    have hl := T.rl hn
    have eL := X.2.2.2.2
    refine hp_iload_n C dX1_fallAll_10 e2 ?_
    refine hp_if_lt (tgt := 45) C dX1_fallAll_11 (by decide) (fun _ => ?_) (fun z_9 => absurd (show (nI 0 - 1 : Int32) < 0 by decide) z_9)
    refine hp_vret C hr dX1_fallAll_45 ?_
    exact hP h K
  | succ j ih =>
    intro lo h a K X hj hv e0 e1 e2 hP
    have hn := X.2.1
    have hk := X.2.2.1
    have T := X.1
    have hl := T.rl hn
    have eL := X.2.2.2.2
    rw [nI_pred] at e2
    subst eL
    have hjl : j < (a_rw a n).length := by omega
    obtain ⟨hc, h9⟩ := X.c hjl
    have hb := T.kb hc
    have r3 := T.r3 hc
    rw [k_tk hjl] at hv hP
    generalize hcc : (a_rw a n).getD j 0 = c at hc h9 hb r3 hv hP
    refine hp_iload_n C dX1_fallAll_10 e2 ?_
    refine hp_if_lt (tgt := 45) C dX1_fallAll_11 (by decide) (fun z_9 => absurd z_9 (nI_pos (by omega))) (fun _ => ?_)
    refine hp_aload_nR C dX1_fallAll_14 e0 ?_
    refine hp_get C fl_X1_14_2 dX1_fallAll_15 (K.isK hn hk) (K.f69 hn hk) ?_
    refine hp_iload_n C dX1_fallAll_18 e2 ?_
    refine hp_callV (ci := 0) C ml_X1_68 im_Jx4a65c_get_915e3 se_Jx4a65c_get_915e3 rfl (by decide) (kc_get (d := d - 1) K hn hk (i := j) hjl hl (by omega)) (by omega) dX1_fallAll_19 (K.isL hn hk) rfl rfl (by simp [Value.category]) (fun v_19 h_19 hp => ?_) (fun _ _ hf => hf.elim)
    obtain ⟨rfl, e_19⟩ := hp
    rw [e_19, hcc]
    refine kc_cast C K hc hb cl_X1_4 (by decide) (by decide) dX1_fallAll_22 ?_
    refine hp_astore_n (r := some _) C dX1_fallAll_25 (by decide) ?_
    refine hp_aload_nR C dX1_fallAll_26 rfl ?_
    refine kg_N C K hc hb (by decide) fl_X1_72_2 fl_X1_72_4 dX1_fallAll_27 (K.f68 hc) ?_
    refine hp_iconst (v := 1) C dX1_fallAll_30 (by decide) ?_
    refine hp_icmp_ne (tgt := 39) C dX1_fallAll_31 (by decide) (fun c_31 => ?_) (fun c_31 => ?_)
    · have hu : ¬ a_nd a 3 c = 1 := fun e => c_31 (by rw [e]; decide)
      rw [a_cR_dn hu] at hv hP
      refine hp_iinc C dX1_fallAll_39 e2 (by decide) rfl ?_
      refine hp_goto (tgt := 10) C dX1_fallAll_42 (by decide) ?_
      exact ih _ _ _ K (X) (by omega) hv e0 e1 ((va_up_self _ _ _).trans (by rw [k_dec])) hP
    · have hu : a_nd a 3 c = 1 := (a_ofI_eq (x := a_nd a 3 c) (y := 1) (by omega) (by omega)).mp c_31
      rw [a_cR_up hu] at hv hP
      refine hp_aload_nR C dX1_fallAll_34 rfl ?_
      refine hp_aload_nR C dX1_fallAll_35 e1 ?_
      refine hp_callN C K hc hb ul_X1_84_X1 ul_X1_84_X4 (hch c a h K T hc h9 (Nat.lt_of_le_of_lt (a_cR_kp (a_ce_kp false f) _ _).ev hv)) (by omega) dX1_fallAll_36 rfl rfl (by simp [Value.category]) (fun v_36 h_36 hp => ?_)
      obtain ⟨rfl, K_36⟩ := hp
      refine hp_iinc C dX1_fallAll_39 e2 (by decide) rfl ?_
      refine hp_goto (tgt := 10) C dX1_fallAll_42 (by decide) ?_
      exact ih _ _ _ K_36 (X.kp (a_ce_kp false f c a)) (by omega) hv e0 e1 ((va_up_self _ _ _).trans (by rw [k_dec])) hP
set_option maxRecDepth 20000 in
set_option maxHeartbeats 4000000 in
theorem kc_fa {l : Launch} {G : hpG} {pr : Nat → Prop} {B : hpT} {N S : Nat} {h : hpT} {κ : kS} {a : aS} {d f n D : Nat} {L : List Nat} (K : KR G pr B N S h κ a) (X : a_lv f n L a) (hD : D + 1 ≤ d) (hd : 3 ≤ d) (hch : ∀ (c : Nat) (a : aS) (h : hpT), KR G pr B N S h κ a → a_T a → c < a_mk a → (9 : Int) ≤ f + a_nd a 2 c → (a_ev (a_ce false f c a).2).length < 2 ^ 30 → kf_fall l G D (a_nd a 0 c) (κ.1 0 c) (κ.1 5 1) h (fun v h' => v = none ∧ KR G pr B N S h' κ (a_ce false f c a).2)) (hv : (a_ev (a_cR (a_ce false f) L.reverse a).2).length < 2 ^ 30) : hp_C l G yX1_fallAll (.code yX1_fallAll cX1_fallAll 4 none) d [.ref (κ.1 0 n), .ref (κ.1 5 1)] (h) (fun v h' => v = none ∧ KR G pr B N S h' κ (a_cR (a_ce false f) L.reverse a).2) (fun _ _ => False) := by
  refine hp_ofV (by decide) (by simp [Value.category]) (Nat.le_of_ble_eq_true rfl) (fun M C hr hx el => ?_)
  subst el
  have hn := X.2.1
  have hk := X.2.2.1
  have eL := X.2.2.2.2
  subst eL
  refine hp_aload_nR C dX1_fallAll_0 rfl ?_
  refine hp_get C fl_X1_14_2 dX1_fallAll_1 (K.isK hn hk) (K.f69 hn hk) ?_
  refine hp_callV (ci := 0) C ml_X1_64 im_Jx4a65c_size_8abf5 se_Jx4a65c_size_8abf5 rfl (by decide) (kc_size (d := d - 1) K hn hk) (by omega) dX1_fallAll_4 (K.isL hn hk) rfl rfl (by simp [Value.category]) (fun v_4 h_4 hp => ?_) (fun _ _ hf => hf.elim)
  obtain ⟨rfl, e_4⟩ := hp
  rw [e_4]
  refine hp_iconst (v := 1) C dX1_fallAll_7 (by decide) ?_
  refine hp_isub C dX1_fallAll_8 ?_
  refine hp_istore_n C dX1_fallAll_9 (by decide) ?_
  exact kl_fa C hr hD hd hch (a_rw a n).length _ h a K X (Nat.le_refl _) (by rw [List.take_length]; exact hv) rfl rfl rfl (fun h' K' => ⟨rfl, by rw [List.take_length] at K'; exact K'⟩)
set_option maxRecDepth 20000 in
set_option maxHeartbeats 4000000 in
theorem kc_fall {l : Launch} {G : hpG} {pr : Nat → Prop} {B : hpT} {N S : Nat} {κ : kS} : ∀ (f n : Nat) (a : aS) (h : hpT) (D : Nat), KR G pr B N S h κ a → a_T a → n < a_mk a → (9 : Int) ≤ f + a_nd a 2 n → 2 * f + 6 ≤ D → (a_ev (a_ce false f n a).2).length < 2 ^ 30 → kf_fall l G D (a_nd a 0 n) (κ.1 0 n) (κ.1 5 1) h (fun v h' => v = none ∧ KR G pr B N S h' κ (a_ce false f n a).2) := by
  intro f
  induction f with
  | zero =>
    intro n a h D K T hn h9
    have := (T.r2 hn).2
    omega
  | succ f ih =>
    intro n a h D K T hn h9 hD hv
    refine ⟨fun hk => ?_, fun hk => ?_⟩
    · rw [a_ce_k hk] at hv ⊢
      have X : a_lv f n (a_rw a n) a := ⟨T, hn, hk, by omega, rfl⟩
      have k1 := a_cR_kp (a_ce_kp false f) (a_rw a n).reverse a
      have hv1 : (a_ev (a_cR (a_ce false f) (a_rw a n).reverse a).2).length < 2 ^ 30 := Nat.lt_of_le_of_lt (a_kp.no (a_sn (a_cR (a_ce false f) (a_rw a n).reverse a).2 3 n 0) 3 n 0).ev hv
      have hn1 : n < a_mk (a_cR (a_ce false f) (a_rw a n).reverse a).2 := by rw [k1.mk]; exact hn
      have hk1 : a_nd (a_cR (a_ce false f) (a_rw a n).reverse a).2 0 n = 1 := by rw [k1.nd]; exact hk
      refine hp_ofV (by decide) (by simp [Value.category]) (Nat.le_of_ble_eq_true rfl) (fun M C hr hx el => ?_)
      subst el
      refine hp_aload_nR C dX1_fall_0 rfl ?_
      refine hp_aload_nR C dX1_fall_1 rfl ?_
      refine hp_callV (ci := 2) C ml_X1_44 im_X1_fallAll se_X1_fallAll rfl (by decide) (kc_fa (d := D - 1) (D := D - 2) K X (by omega) (by omega) (fun c a h K T hc h9 hv => ih c a h (D - 2) K T hc h9 (by omega) hv) hv1) (by omega) dX1_fall_2 (K.isK hn hk) rfl rfl (by simp [Value.category]) (fun v_2 h_2 hp => ?_) (fun _ _ hf => hf.elim)
      obtain ⟨rfl, K_2⟩ := hp
      refine hp_aload_nR C dX1_fall_5 rfl ?_
      refine hp_iconst (v := 0) C dX1_fall_6 (by decide) ?_
      refine kp_68K C K_2 hn1 hk1 fl_X1_52_2 0 (by decide) dX1_fall_7 (fun h_7 K_7 => ?_)
      refine hp_aload_nR C dX1_fall_10 rfl ?_
      refine hp_iconst (v := 3) C dX1_fall_11 (by decide) ?_
      refine hp_aload_nR C dX1_fall_12 rfl ?_
      refine hp_get C fl_X1_55_2 dX1_fall_13 (K_7.isK hn1 hk1) (K_7.f64 hn1) ?_
      refine hp_iconst (v := 0) C dX1_fall_16 (by decide) ?_
      refine hp_callV (ci := 1) C ml_X1_58 im_X0_tell se_X0_tell rfl (by decide) (kc_tell (d := D - 1) (w := 3) (n := n) (r := 0) K_7 hv1) (by omega) dX1_fall_17 K_7.isJ rfl rfl (by simp [Value.category]) (fun v_17 h_17 hp => ?_) (fun _ _ hf => hf.elim)
      obtain ⟨rfl, K_17⟩ := hp
      refine hp_vret C hr dX1_fall_20 ?_
      exact ⟨rfl, K_17⟩
    · rw [a_ce_w hk] at hv ⊢
      exact kc_fallW K T hn hk (Nat.lt_of_le_of_lt (a_end_kp false n a).ev hv) (by omega)
/-! ===== killing, starting, vanishing, down the tree ===== -/
set_option maxHeartbeats 4000000 in
theorem kl_pe {M : hpM} {G : hpG} {d : Nat} {h0 : hpT} {pr : Nat → Prop} {B : hpT} {N S : Nat} {κ : kS} {Q : State → Prop} (C : hp_F M G yX1_perish cX1_perish 5 d h0) {f n D : Nat} {L : List Nat} (hD : D + 1 ≤ d) (hd : 3 ≤ d) (hch : ∀ (c : Nat) (a : aS) (h : hpT), KR G pr B N S h κ a → a_T a → c < a_mk a → (9 : Int) ≤ f + a_nd a 2 c → (a_ev (a_ce true f c a).2).length < 2 ^ 30 → kf_per M.2.1 G D (a_nd a 0 c) (κ.1 0 c) (κ.1 5 1) h (fun v h' => v = some (.int (nI (a_ce true f c a).1)) ∧ KR G pr B N S h' κ (a_ce true f c a).2)) : ∀ (j q : Nat) (lo : Nat → Option Value) (h : hpT) (a : aS), KR G pr B N S h κ a → a_lv f n L a → j ≤ L.length → (a_ev (a_cR (a_ce true f) (L.take j).reverse a).2).length < 2 ^ 30 → lo 0 = some (.ref (κ.1 0 n)) → lo 1 = some (.ref (κ.1 5 1)) → lo 2 = some (.int (nI q)) → lo 3 = some (.int (nI j - 1)) → (∀ lo' h', KR G pr B N S h' κ (a_cR (a_ce true f) (L.take j).reverse a).2 → lo' 0 = some (.ref (κ.1 0 n)) → lo' 1 = some (.ref (κ.1 5 1)) → lo' 2 = some (.int (nI (q + (a_cR (a_ce true f) (L.take j).reverse a).1))) → hp_V M G 5 Q h' 53 lo' []) → hp_V M G 5 Q h 12 lo [] := by
  intro j
  induction j with
  | zero =>
    intro q lo h a K X hj hv e0 e1 e2 e3 hP
    have hn := X.2.1
    have hk := X.2.2.1
    have T := X.1
    have hl := T.rl hn
    have eL := X.2.2.2.2
    refine hp_iload_n C dX1_perish_12 e3 ?_
    refine hp_if_lt (tgt := 53) C dX1_perish_13 (by decide) (fun _ => ?_) (fun z_9 => absurd (show (nI 0 - 1 : Int32) < 0 by decide) z_9)
    exact hP lo h K e0 e1 e2
  | succ j ih =>
    intro q lo h a K X hj hv e0 e1 e2 e3 hP
    have hn := X.2.1
    have hk := X.2.2.1
    have T := X.1
    have hl := T.rl hn
    have eL := X.2.2.2.2
    rw [nI_pred] at e3
    subst eL
    have hjl : j < (a_rw a n).length := by omega
    obtain ⟨hc, h9⟩ := X.c hjl
    have hb := T.kb hc
    have r3 := T.r3 hc
    rw [k_tk hjl] at hv hP
    generalize hcc : (a_rw a n).getD j 0 = c at hc h9 hb r3 hv hP
    refine hp_iload_n C dX1_perish_12 e3 ?_
    refine hp_if_lt (tgt := 53) C dX1_perish_13 (by decide) (fun z_9 => absurd z_9 (nI_pos (by omega))) (fun _ => ?_)
    refine hp_aload_nR C dX1_perish_16 e0 ?_
    refine hp_get C fl_X1_14_2 dX1_perish_17 (K.isK hn hk) (K.f69 hn hk) ?_
    refine hp_iload_n C dX1_perish_20 e3 ?_
    refine hp_callV (ci := 0) C ml_X1_68 im_Jx4a65c_get_915e3 se_Jx4a65c_get_915e3 rfl (by decide) (kc_get (d := d - 1) K hn hk (i := j) hjl hl (by omega)) (by omega) dX1_perish_21 (K.isL hn hk) rfl rfl (by simp [Value.category]) (fun v_21 h_21 hp => ?_) (fun _ _ hf => hf.elim)
    obtain ⟨rfl, e_21⟩ := hp
    rw [e_21, hcc]
    refine kc_cast C K hc hb cl_X1_4 (by decide) (by decide) dX1_perish_24 ?_
    refine hp_astore (r := some _) C dX1_perish_27 (by decide) ?_
    refine hp_aloadR C dX1_perish_29 rfl ?_
    refine kg_N C K hc hb (by decide) fl_X1_72_2 fl_X1_72_4 dX1_perish_31 (K.f68 hc) ?_
    refine hp_iconst (v := 1) C dX1_perish_34 (by decide) ?_
    refine hp_icmp_ne (tgt := 47) C dX1_perish_35 (by decide) (fun c_35 => ?_) (fun c_35 => ?_)
    · have hu : ¬ a_nd a 3 c = 1 := fun e => c_35 (by rw [e]; decide)
      rw [a_cR_dn hu] at hv hP
      refine hp_iinc C dX1_perish_47 e3 (by decide) rfl ?_
      refine hp_goto (tgt := 12) C dX1_perish_50 (by decide) ?_
      exact ih _ _ _ _ K (X) (by omega) hv e0 e1 e2 ((va_up_self _ _ _).trans (by rw [k_dec])) hP
    · have hu : a_nd a 3 c = 1 := (a_ofI_eq (x := a_nd a 3 c) (y := 1) (by omega) (by omega)).mp c_35
      rw [a_cR_up hu] at hv hP
      refine hp_iload_n C dX1_perish_38 e2 ?_
      refine hp_aloadR C dX1_perish_39 rfl ?_
      refine hp_aload_nR C dX1_perish_41 e1 ?_
      refine hp_callN C K hc hb ul_X1_73_X1 ul_X1_73_X4 (hch c a h K T hc h9 (Nat.lt_of_le_of_lt (a_cR_kp (a_ce_kp true f) _ _).ev hv)) (by omega) dX1_perish_42 rfl rfl (by simp [Value.category]) (fun v_42 h_42 hp => ?_)
      obtain ⟨rfl, K_42⟩ := hp
      refine hp_iadd C dX1_perish_45 ?_
      rw [nI_add]
      refine hp_istore_n C dX1_perish_46 (by decide) ?_
      refine hp_iinc C dX1_perish_47 e3 (by decide) rfl ?_
      refine hp_goto (tgt := 12) C dX1_perish_50 (by decide) ?_
      exact ih _ _ _ _ K_42 (X.kp (a_ce_kp true f c a)) (by omega) hv e0 e1 rfl ((va_up_self _ _ _).trans (by rw [k_dec])) (fun lo' h' K' g0 g1 g2 => hP lo' h' K' g0 g1 (by rw [← Nat.add_assoc]; exact g2))
set_option maxRecDepth 20000 in
set_option maxHeartbeats 4000000 in
theorem kc_perish {l : Launch} {G : hpG} {pr : Nat → Prop} {B : hpT} {N S : Nat} {κ : kS} : ∀ (f n : Nat) (a : aS) (h : hpT) (D : Nat), KR G pr B N S h κ a → a_T a → n < a_mk a → (9 : Int) ≤ f + a_nd a 2 n → 2 * f + 6 ≤ D → (a_ev (a_ce true f n a).2).length < 2 ^ 30 → kf_per l G D (a_nd a 0 n) (κ.1 0 n) (κ.1 5 1) h (fun v h' => v = some (.int (nI (a_ce true f n a).1)) ∧ KR G pr B N S h' κ (a_ce true f n a).2) := by
  intro f
  induction f with
  | zero =>
    intro n a h D K T hn h9
    have := (T.r2 hn).2
    omega
  | succ f ih =>
    intro n a h D K T hn h9 hD hv
    refine ⟨fun hk => ?_, fun hk => ?_⟩
    · rw [a_ce_k hk] at hv ⊢
      have X : a_lv f n (a_rw a n) a := ⟨T, hn, hk, by omega, rfl⟩
      have k1 := a_cR_kp (a_ce_kp true f) (a_rw a n).reverse a
      have hv1 : (a_ev (a_cR (a_ce true f) (a_rw a n).reverse a).2).length < 2 ^ 30 := Nat.lt_of_le_of_lt (a_kp.no (a_sn (a_cR (a_ce true f) (a_rw a n).reverse a).2 3 n 0) 4 n 0).ev hv
      have hn1 : n < a_mk (a_cR (a_ce true f) (a_rw a n).reverse a).2 := by rw [k1.mk]; exact hn
      have hk1 : a_nd (a_cR (a_ce true f) (a_rw a n).reverse a).2 0 n = 1 := by rw [k1.nd]; exact hk
      refine hp_ofV (by decide) (by simp [Value.category]) (Nat.le_of_ble_eq_true rfl) (fun M C hr hx el => ?_)
      subst el
      refine hp_iconst (v := 1) C dX1_perish_0 (by decide) ?_
      refine hp_istore_n C dX1_perish_1 (by decide) ?_
      refine hp_aload_nR C dX1_perish_2 rfl ?_
      refine hp_get C fl_X1_14_2 dX1_perish_3 (K.isK hn hk) (K.f69 hn hk) ?_
      refine hp_callV (ci := 0) C ml_X1_64 im_Jx4a65c_size_8abf5 se_Jx4a65c_size_8abf5 rfl (by decide) (kc_size (d := D - 1) K hn hk) (by omega) dX1_perish_6 (K.isL hn hk) rfl rfl (by simp [Value.category]) (fun v_6 h_6 hp => ?_) (fun _ _ hf => hf.elim)
      obtain ⟨rfl, e_6⟩ := hp
      rw [e_6]
      refine hp_iconst (v := 1) C dX1_perish_9 (by decide) ?_
      refine hp_isub C dX1_perish_10 ?_
      refine hp_istore_n C dX1_perish_11 (by decide) ?_
      refine kl_pe (D := D - 1) C (by omega) (by omega) (fun c a h K T hc h9 hv => ih c a h (D - 1) K T hc h9 (by omega) hv) (a_rw a n).length 1 _ h a K X (Nat.le_refl _) (by rw [List.take_length]; exact hv1) rfl rfl rfl rfl (fun lo' h' K' g0 g1 g2 => ?_)
      rw [List.take_length] at K' g2
      refine hp_aload_nR C dX1_perish_53 g0 ?_
      refine hp_iconst (v := 0) C dX1_perish_54 (by decide) ?_
      refine kp_68K C K' hn1 hk1 fl_X1_52_2 0 (by decide) dX1_perish_55 (fun h_55 K_55 => ?_)
      refine hp_aload_nR C dX1_perish_58 g1 ?_
      refine hp_iconst (v := 4) C dX1_perish_59 (by decide) ?_
      refine hp_aload_nR C dX1_perish_60 g0 ?_
      refine hp_get C fl_X1_55_2 dX1_perish_61 (K_55.isK hn1 hk1) (K_55.f64 hn1) ?_
      refine hp_iconst (v := 0) C dX1_perish_64 (by decide) ?_
      refine hp_callV (ci := 1) C ml_X1_58 im_X0_tell se_X0_tell rfl (by decide) (kc_tell (d := D - 1) (w := 4) (n := n) (r := 0) K_55 hv1) (by omega) dX1_perish_65 K_55.isJ rfl rfl (by simp [Value.category]) (fun v_65 h_65 hp => ?_) (fun _ _ hf => hf.elim)
      obtain ⟨rfl, K_65⟩ := hp
      refine hp_iload_n C dX1_perish_68 g2 ?_
      refine hp_iret C hr rfl dX1_perish_69 ?_
      exact ⟨by rw [Nat.add_comm], K_65⟩
    · rw [a_ce_w hk] at hv ⊢
      exact kc_perishW K T hn hk (Nat.lt_of_le_of_lt (a_end_kp true n a).ev hv) (by omega)
/-- the row is started, in order: the first that failed -/
def a_sF (f : Nat → aS → Bool × aS) : List Nat → aS → Option Nat × aS
  | [], a => (none, a)
  | c :: r, a => if (f c a).1 = true then a_sF f r (f c a).2 else (some c, (f c a).2)
theorem a_sF_R (f : Nat → aS → Bool × aS) : ∀ (l : List Nat) (a : aS), a_sR f l a = ((a_sF f l a).1.isNone, (a_sF f l a).2)
  | [], _ => rfl
  | c :: r, a => by
    show (if (f c a).1 = true then a_sR f r (f c a).2 else (false, (f c a).2)) = _
    unfold a_sF
    split
    · exact a_sF_R f r _
    · rfl
theorem a_sF_kp {f : Nat → aS → Bool × aS} (hf : ∀ c a, a_kp a (f c a).2) (l : List Nat) (a : aS) : a_kp a (a_sF f l a).2 := by
  have := a_sR_kp hf l a
  rwa [a_sF_R] at this
theorem a_sF_ok {f : Nat → aS → Bool × aS} {c : Nat} {r : List Nat} {a : aS} (h : (f c a).1 = true) : a_sF f (c :: r) a = a_sF f r (f c a).2 := if_pos h
theorem a_sF_no {f : Nat → aS → Bool × aS} {c : Nat} {r : List Nat} {a : aS} (h : ¬ (f c a).1 = true) : a_sF f (c :: r) a = (some c, (f c a).2) := if_neg h
theorem k_dp {L : List Nat} {j : Nat} (h : j < L.length) : L.drop j = L.getD j 0 :: L.drop (j + 1) := by
  rw [List.drop_eq_getElem_cons h, List.getD_eq_getElem?_getD, List.getElem?_eq_getElem h]
  rfl
abbrev kf_rise (l : Launch) (G : hpG) (d : Nat) (kd : Int) (b J : Nat) (h : hpT) (P : Option Value → hpT → Prop) : Prop := k_C2 l G yX1_rise cX1_rise 3 yX4_rise cX4_rise 3 (some .boolean) d kd [.ref b, .ref J] h P
theorem a_go_k {a : aS} {n d : Nat} (hk : a_nd a 0 n = 1) : a_go (d + 1) n a = (if (a_sF (a_go d) (a_rw a n) (a_srt a n [])).1.isNone = true then (true, a_no (a_sn (a_sF (a_go d) (a_rw a n) (a_srt a n [])).2 3 n 1) 1 n 0) else (false, a_no (a_sn (a_cR (a_ce false d) (a_rw a n).reverse (a_sF (a_go d) (a_rw a n) (a_srt a n [])).2).2 3 n 0) 2 n 0)) := by
  show (if a_nd a 0 n = 0 then _ else _) = _
  rw [if_neg (by omega)]
  show (if (a_sR (a_go d) (a_rw a n) (a_srt a n [])).1 = true then _ else _) = _
  rw [a_sF_R]
set_option maxHeartbeats 4000000 in
theorem kl_rf {M : hpM} {G : hpG} {d : Nat} {h0 : hpT} {pr : Nat → Prop} {B : hpT} {N S : Nat} {γ : Nat → Nat → Nat} {μ : Nat → Int32} (C : hp_F M G yX1_riseFrom cX1_riseFrom 5 d h0) (hr : (hp_mt M).sig.returnType = some (.object "KeeperTree$Node")) {f n D : Nat} {L : List Nat} (hD : D + 1 ≤ d) (hd : 3 ≤ d) (hch : ∀ (c : Nat) (a : aS) (h : hpT) (ρ : Nat → List Nat), KR G pr B N S h (γ, μ, ρ) a → a_T a → c < a_mk a → (9 : Int) ≤ f + a_nd a 2 c → (a_ev (a_go f c a).2).length < 2 ^ 30 → kf_rise M.2.1 G D (a_nd a 0 c) (γ 0 c) (γ 5 1) h (fun v h' => v = some (.int (if (a_go f c a).1 = true then 1 else 0)) ∧ ∃ ρ', KR G pr B N S h' (γ, μ, ρ') (a_go f c a).2)) {X : String → hpT → Prop} {P : Option Value → hpT → Prop} : ∀ (k j : Nat) (lo : Nat → Option Value) (h : hpT) (a : aS) (ρ : Nat → List Nat), j + k = L.length → KR G pr B N S h (γ, μ, ρ) a → a_lv f n L a → (a_ev (a_sF (a_go f) (L.drop j) a).2).length < 2 ^ 30 → lo 0 = some (.ref (γ 0 n)) → lo 2 = some (.ref (γ 5 1)) → lo 3 = some (.int (nI j)) → (∀ h' ρ', KR G pr B N S h' (γ, μ, ρ') (a_sF (a_go f) (L.drop j) a).2 → P (some (va_rf ((a_sF (a_go f) (L.drop j) a).1.map (γ 0)))) h') → hp_V M G 5 (hp_Q M G h0 P X) h 6 lo [] := by
  intro k
  induction k with
  | zero =>
    intro j lo h a ρ hj K X hv e0 e2 e3 hP
    have hn := X.2.1
    have hk := X.2.2.1
    have T := X.1
    have hl := T.rl hn
    have eL := X.2.2.2.2
    have ej : L.drop j = [] := List.drop_eq_nil_of_le (by omega)
    rw [ej] at hP
    subst eL
    refine hp_iload_n C dX1_riseFrom_6 e3 ?_
    refine hp_aload_nR C dX1_riseFrom_7 e0 ?_
    refine hp_get C fl_X1_14_2 dX1_riseFrom_8 (K.isK hn hk) (K.f69 hn hk) ?_
    refine hp_callV (ci := 0) C ml_X1_64 im_Jx4a65c_size_8abf5 se_Jx4a65c_size_8abf5 rfl (by decide) (kc_size (d := d - 1) K hn hk) (by omega) dX1_riseFrom_11 (K.isL hn hk) rfl rfl (by simp [Value.category]) (fun v_11 h_11 hp => ?_) (fun _ _ hf => hf.elim)
    obtain ⟨rfl, e_11⟩ := hp
    rw [e_11]
    refine hp_icmp_ge (tgt := 48) C dX1_riseFrom_14 (by decide) (fun _ => ?_) (fun z_9 => absurd (nI_le (by omega) (by omega)) z_9)
    refine hp_null C dX1_riseFrom_48 ?_
    refine hp_aret (r := none) C hr (Or.inl ⟨_, rfl⟩) dX1_riseFrom_49 ?_
    exact hP h ρ K
  | succ k ih =>
    intro j lo h a ρ hj K X hv e0 e2 e3 hP
    have hn := X.2.1
    have hk := X.2.2.1
    have T := X.1
    have hl := T.rl hn
    have eL := X.2.2.2.2
    subst eL
    have hjl : j < (a_rw a n).length := by omega
    obtain ⟨hc, h9⟩ := X.c hjl
    have hb := T.kb hc
    rw [k_dp hjl] at hv hP
    generalize hcc : (a_rw a n).getD j 0 = c at hc h9 hb hv hP
    have hv1 : (a_ev (a_go f c a).2).length < 2 ^ 30 := by
      by_cases g : (a_go f c a).1 = true
      · rw [a_sF_ok g] at hv
        exact Nat.lt_of_le_of_lt (a_sF_kp (a_go_kp f) _ _).ev hv
      · rw [a_sF_no g] at hv
        exact hv
    refine hp_iload_n C dX1_riseFrom_6 e3 ?_
    refine hp_aload_nR C dX1_riseFrom_7 e0 ?_
    refine hp_get C fl_X1_14_2 dX1_riseFrom_8 (K.isK hn hk) (K.f69 hn hk) ?_
    refine hp_callV (ci := 0) C ml_X1_64 im_Jx4a65c_size_8abf5 se_Jx4a65c_size_8abf5 rfl (by decide) (kc_size (d := d - 1) K hn hk) (by omega) dX1_riseFrom_11 (K.isL hn hk) rfl rfl (by simp [Value.category]) (fun v_11 h_11 hp => ?_) (fun _ _ hf => hf.elim)
    obtain ⟨rfl, e_11⟩ := hp
    rw [e_11]
    refine hp_icmp_ge (tgt := 48) C dX1_riseFrom_14 (by decide) (fun z_9 => absurd z_9 (nI_ge (by omega) (by omega))) (fun _ => ?_)
    refine hp_aload_nR C dX1_riseFrom_17 e0 ?_
    refine hp_get C fl_X1_14_2 dX1_riseFrom_18 (K.isK hn hk) (K.f69 hn hk) ?_
    refine hp_iload_n C dX1_riseFrom_21 e3 ?_
    refine hp_callV (ci := 0) C ml_X1_68 im_Jx4a65c_get_915e3 se_Jx4a65c_get_915e3 rfl (by decide) (kc_get (d := d - 1) K hn hk (i := j) hjl hl (by omega)) (by omega) dX1_riseFrom_22 (K.isL hn hk) rfl rfl (by simp [Value.category]) (fun v_22 h_22 hp => ?_) (fun _ _ hf => hf.elim)
    obtain ⟨rfl, e_22⟩ := hp
    rw [e_22, hcc]
    refine kc_cast C K hc hb cl_X1_4 (by decide) (by decide) dX1_riseFrom_25 ?_
    refine hp_astore (r := some _) C dX1_riseFrom_28 (by decide) ?_
    refine hp_aloadR C dX1_riseFrom_30 rfl ?_
    refine hp_aload_nR C dX1_riseFrom_32 e2 ?_
    refine hp_callN C K hc hb ul_X1_112_X1 ul_X1_112_X4 (hch c a h ρ K T hc h9 hv1) (by omega) dX1_riseFrom_33 rfl rfl (by simp [Value.category]) (fun v_33 h_33 hp => ?_)
    obtain ⟨rfl, ρ1, K_33⟩ := hp
    refine hp_if_ne (tgt := 42) C dX1_riseFrom_36 (by decide) (fun c_36 => ?_) (fun c_36 => ?_)
    · have hg : (a_go f c a).1 = true := Classical.byContradiction (fun z => c_36 (if_neg z))
      rw [a_sF_ok hg] at hv hP
      refine hp_iinc C dX1_riseFrom_42 e3 (by decide) rfl ?_
      refine hp_goto (tgt := 6) C dX1_riseFrom_45 (by decide) ?_
      exact ih (j + 1) _ _ _ ρ1 (by omega) K_33 (X.kp (a_go_kp f c a)) hv e0 e2 ((va_up_self _ _ _).trans (by rw [show Int32.ofInt 1 = 1 from rfl, nI_1])) hP
    · have hg : ¬ (a_go f c a).1 = true := fun z => absurd (c_36.symm.trans (if_pos z)) (by decide)
      rw [a_sF_no hg] at hP
      refine hp_aloadR C dX1_riseFrom_39 rfl ?_
      refine hp_aret (r := some _) C hr (Or.inl ⟨_, rfl⟩) dX1_riseFrom_41 ?_
      exact hP _ ρ1 K_33
set_option maxRecDepth 20000 in
set_option maxHeartbeats 4000000 in
theorem kc_rf {l : Launch} {G : hpG} {pr : Nat → Prop} {B : hpT} {N S : Nat} {h : hpT} {γ : Nat → Nat → Nat} {μ : Nat → Int32} {ρ : Nat → List Nat} {a : aS} {d f n D j : Nat} {L : List Nat} (K : KR G pr B N S h (γ, μ, ρ) a) (X : a_lv f n L a) (hD : D + 1 ≤ d) (hd : 3 ≤ d) (hch : ∀ (c : Nat) (a : aS) (h : hpT) (ρ : Nat → List Nat), KR G pr B N S h (γ, μ, ρ) a → a_T a → c < a_mk a → (9 : Int) ≤ f + a_nd a 2 c → (a_ev (a_go f c a).2).length < 2 ^ 30 → kf_rise l G D (a_nd a 0 c) (γ 0 c) (γ 5 1) h (fun v h' => v = some (.int (if (a_go f c a).1 = true then 1 else 0)) ∧ ∃ ρ', KR G pr B N S h' (γ, μ, ρ') (a_go f c a).2)) (hj : j ≤ L.length) (hv : (a_ev (a_sF (a_go f) (L.drop j) a).2).length < 2 ^ 30) : hp_C l G yX1_riseFrom (.code yX1_riseFrom cX1_riseFrom 5 (some (.object "KeeperTree$Node"))) d [.ref (γ 0 n), .int (nI j), .ref (γ 5 1)] (h) (fun v h' => v = some (va_rf ((a_sF (a_go f) (L.drop j) a).1.map (γ 0))) ∧ ∃ ρ', KR G pr B N S h' (γ, μ, ρ') (a_sF (a_go f) (L.drop j) a).2) (fun _ _ => False) := by
  refine hp_ofV (by decide) (by simp [Value.category]) (Nat.le_of_ble_eq_true rfl) (fun M C hr hx el => ?_)
  subst el
  have hl := X.1.rl X.2.1
  rw [X.2.2.2.2] at hl
  refine hp_iconst (v := 0) C dX1_riseFrom_0 (by decide) ?_
  refine hp_iload_n C dX1_riseFrom_1 rfl ?_
  refine hp_mmax (v := nI j) C mx_X1_106 (by omega) (by simp [Value.category]) dX1_riseFrom_2 ?_ ?_
  · split
    · rfl
    · rename_i z
      rcases Nat.eq_zero_or_pos j with e | e
      · rw [e]; rfl
      · exact absurd (nI_lt e (by omega)) z
  refine hp_istore_n C dX1_riseFrom_5 (by decide) ?_
  exact kl_rf C hr hD hd hch (L.length - j) j _ h a ρ (by omega) K X hv rfl rfl rfl (fun h' ρ' K' => ⟨rfl, ρ', K'⟩)
set_option maxRecDepth 20000 in
set_option maxHeartbeats 4000000 in
theorem kc_rise {l : Launch} {G : hpG} {pr : Nat → Prop} {B : hpT} {N S : Nat} {γ : Nat → Nat → Nat} {μ : Nat → Int32} : ∀ (f n : Nat) (a : aS) (h : hpT) (ρ : Nat → List Nat) (D : Nat), KR G pr B N S h (γ, μ, ρ) a → a_T a → n < a_mk a → (9 : Int) ≤ f + a_nd a 2 n → 2 * f + 6 ≤ D → (a_ev (a_go f n a).2).length < 2 ^ 30 → kf_rise l G D (a_nd a 0 n) (γ 0 n) (γ 5 1) h (fun v h' => v = some (.int (if (a_go f n a).1 = true then 1 else 0)) ∧ ∃ ρ', KR G pr B N S h' (γ, μ, ρ') (a_go f n a).2) := by
  intro f
  induction f with
  | zero =>
    intro n a h ρ D K T hn h9
    have := (T.r2 hn).2
    omega
  | succ f ih =>
    intro n a h ρ D K T hn h9 hD hv
    refine ⟨fun hk => ?_, fun hk => ?_⟩
    · rw [a_go_k hk] at hv ⊢
      have k0 := a_kp.srt a n []
      have X0 : a_lv f n (a_rw a n) (a_srt a n []) := ⟨T, hn, hk, by show (8 : Int) ≤ f + a_nd a 2 n; omega, rfl⟩
      have k1 := a_sF_kp (a_go_kp f) (a_rw a n) (a_srt a n [])
      generalize hz : a_sF (a_go f) (a_rw a n) (a_srt a n []) = z at hv k1 ⊢
      have X1 : a_lv f n (a_rw a n) z.2 := X0.kp k1
      have k2 := a_cR_kp (a_ce_kp false f) (a_rw a n).reverse z.2
      have hv1 : (a_ev z.2).length < 2 ^ 30 := by
        by_cases g : z.1.isNone = true
        · rw [if_pos g] at hv
          exact Nat.lt_of_le_of_lt (a_kp.no (a_sn z.2 3 n 1) 1 n 0).ev hv
        · rw [if_neg g] at hv
          exact Nat.lt_of_le_of_lt (Nat.le_trans k2.ev (a_kp.no (a_sn (a_cR (a_ce false f) (a_rw a n).reverse z.2).2 3 n 0) 2 n 0).ev) hv
      have hn1 : n < a_mk z.2 := X1.2.1
      have hk1 : a_nd z.2 0 n = 1 := X1.2.2.1
      refine hp_ofV (by decide) (by simp [Value.category]) (Nat.le_of_ble_eq_true rfl) (fun M C hr hx el => ?_)
      subst el
      refine hp_aload_nR C dX1_rise_0 rfl ?_
      refine hp_get C fl_X1_23_2 dX1_rise_1 (K.isK hn hk) (K.f70 hn hk) ?_
      refine hp_callV (ci := 3) C ml_X1_37 im_X3_clear se_X3_clear rfl (by decide) (kc_clear (d := D - 1) K hn hk) (by omega) dX1_rise_4 (K.isR hn hk) rfl rfl (by simp [Value.category]) (fun v_4 h_4 hp => ?_) (fun _ _ hf => hf.elim)
      obtain ⟨rfl, K_4⟩ := hp
      refine hp_aload_nR C dX1_rise_7 rfl ?_
      refine hp_iconst (v := 0) C dX1_rise_8 (by decide) ?_
      refine hp_aload_nR C dX1_rise_9 rfl ?_
      refine hp_callV (ci := 2) C ml_X1_40 im_X1_riseFrom se_X1_riseFrom rfl (by decide) (kc_rf (d := D - 1) (D := D - 2) (j := 0) (γ := γ) (μ := μ) K_4 X0 (by omega) (by omega) (fun c a h ρ K T hc h9 hv => ih c a h ρ (D - 2) K T hc h9 (by omega) hv) (Nat.zero_le _) (by rw [List.drop_zero, hz]; exact hv1)) (by omega) dX1_rise_10 (K_4.isK hn hk) rfl rfl (by simp [Value.category]) (fun v_10 h_10 hp => ?_) (fun _ _ hf => hf.elim)
      rw [List.drop_zero, hz] at hp
      obtain ⟨rfl, ρ2, K_10⟩ := hp
      cases hz1 : z.1 with
      | none =>
        rw [hz1] at hv
        refine hp_ifnull (r := none) (tgt := 20) C dX1_rise_13 (by decide) (fun _ => ?_) (fun _ hx_ => by cases hx_)
        refine hp_iconst (v := 0) C dX1_rise_20 (by decide) ?_
        refine hp_istore_n C dX1_rise_21 (by decide) ?_
        refine hp_iload_n C dX1_rise_22 rfl ?_
        refine hp_if_eq (tgt := 31) C dX1_rise_23 (by decide) (fun _ => ?_) (fun z_9 => absurd z_9 (by decide))
        refine hp_aload_nR C dX1_rise_31 rfl ?_
        refine hp_iload_n C dX1_rise_32 rfl ?_
        refine hp_aload_nR C dX1_rise_33 rfl ?_
        refine hp_callU C 2 ul_X1_48_X1 rfl (by decide) (kc_settle0 (d := D - 1) K_10 hn1 (Or.inr hk1) hv1 (by omega)) (by omega) dX1_rise_34 (K_10.isK hn1 hk1) rfl rfl (by simp [Value.category]) (fun v_34 h_34 hp => ?_)
        obtain ⟨rfl, K_34⟩ := hp
        refine hp_iret C hr (by decide) dX1_rise_37 ?_
        exact ⟨rfl, ρ2, K_34⟩
      | some x =>
        rw [hz1] at hv
        have hv2 : (a_ev (a_cR (a_ce false f) (a_rw a n).reverse z.2).2).length < 2 ^ 30 := Nat.lt_of_le_of_lt (a_kp.no (a_sn (a_cR (a_ce false f) (a_rw a n).reverse z.2).2 3 n 0) 2 n 0).ev hv
        have hn2 : n < a_mk (a_cR (a_ce false f) (a_rw a n).reverse z.2).2 := by rw [k2.mk]; exact hn1
        have hk2 : a_nd (a_cR (a_ce false f) (a_rw a n).reverse z.2).2 0 n = 1 := by rw [k2.nd]; exact hk1
        refine hp_ifnull (r := some _) (tgt := 20) C dX1_rise_13 (by decide) (fun hx_ => by cases hx_) (fun _ _ => ?_)
        refine hp_iconst (v := 1) C dX1_rise_16 (by decide) ?_
        refine hp_goto (tgt := 21) C dX1_rise_17 (by decide) ?_
        refine hp_istore_n C dX1_rise_21 (by decide) ?_
        refine hp_iload_n C dX1_rise_22 rfl ?_
        refine hp_if_eq (tgt := 31) C dX1_rise_23 (by decide) (fun z_9 => absurd z_9 (by decide)) (fun _ => ?_)
        refine hp_aload_nR C dX1_rise_26 rfl ?_
        refine hp_aload_nR C dX1_rise_27 rfl ?_
        refine hp_callV (ci := 2) C ml_X1_44 im_X1_fallAll se_X1_fallAll rfl (by decide) (kc_fa (d := D - 1) (D := D - 2) K_10 X1 (by omega) (by omega) (fun c a h K T hc h9 hv => kc_fall f c a h (D - 2) K T hc h9 (by omega) hv) hv2) (by omega) dX1_rise_28 (K_10.isK hn1 hk1) rfl rfl (by simp [Value.category]) (fun v_28 h_28 hp => ?_) (fun _ _ hf => hf.elim)
        obtain ⟨rfl, K_28⟩ := hp
        refine hp_aload_nR C dX1_rise_31 rfl ?_
        refine hp_iload_n C dX1_rise_32 rfl ?_
        refine hp_aload_nR C dX1_rise_33 rfl ?_
        refine hp_callU C 2 ul_X1_48_X1 rfl (by decide) (kc_settle1 (d := D - 1) K_28 hn2 (Or.inr hk2) hv2 (by omega)) (by omega) dX1_rise_34 (K_28.isK hn2 hk2) rfl rfl (by simp [Value.category]) (fun v_34 h_34 hp => ?_)
        obtain ⟨rfl, K_34⟩ := hp
        refine hp_iret C hr (by decide) dX1_rise_37 ?_
        exact ⟨rfl, ρ2, K_34⟩
    · have hv1 : (a_ev a).length < 2 ^ 30 := Nat.lt_of_le_of_lt (a_go_kp (f + 1) n a).ev hv
      exact kc_riseW (q := f) K T hn hk hv1 (by omega)
/-! ===== GONE, with all below ===== -/
def a_vR (f : Nat → aS → Nat × aS) : List Nat → aS → Nat × aS
  | [], a => (0, a)
  | c :: r, a => ((f c a).1 + (a_vR f r (f c a).2).1, (a_vR f r (f c a).2).2)
def a_va : Nat → Nat → aS → Nat × aS
  | 0, _, a => (0, a)
  | d + 1, n, a => if a_nd a 0 n = 0 then (1, a_sn a 3 n 2) else (1 + (a_vR (a_va d) (a_rw a n) (a_sn a 3 n 2)).1, (a_vR (a_va d) (a_rw a n) (a_sn a 3 n 2)).2)
theorem a_vR_kp {f : Nat → aS → Nat × aS} (hf : ∀ c a, a_kp a (f c a).2) : ∀ (l : List Nat) (a : aS), a_kp a (a_vR f l a).2
  | [], a => a_kp.rf a
  | c :: r, a => (hf c a).tr (a_vR_kp hf r _)
theorem a_va_kp : ∀ (d n : Nat) (a : aS), a_kp a (a_va d n a).2
  | 0, _, a => a_kp.rf a
  | d + 1, n, a => by
    unfold a_va
    split
    · exact a_kp.sn3 a n (by omega)
    · exact (a_kp.sn3 a n (by omega)).tr (a_vR_kp (a_va_kp d) _ _)
abbrev kf_van (l : Launch) (G : hpG) (d : Nat) (kd : Int) (b : Nat) (h : hpT) (P : Option Value → hpT → Prop) : Prop := k_C2 l G yX1_vanish cX1_vanish 3 yX4_vanish cX4_vanish 1 (some .int) d kd [.ref b] h P
set_option maxHeartbeats 4000000 in
theorem kl_va {M : hpM} {G : hpG} {d : Nat} {h0 : hpT} {pr : Nat → Prop} {B : hpT} {N S : Nat} {κ : kS} (C : hp_F M G yX1_vanish cX1_vanish 3 d h0) (hr : (hp_mt M).sig.returnType = some .int) {f n D : Nat} {L : List Nat} (hD : D + 1 ≤ d) (hd : 3 ≤ d) (hch : ∀ (c : Nat) (a : aS) (h : hpT), KR G pr B N S h κ a → a_T a → c < a_mk a → (9 : Int) ≤ f + a_nd a 2 c → kf_van M.2.1 G D (a_nd a 0 c) (κ.1 0 c) h (fun v h' => v = some (.int (nI (a_va f c a).1)) ∧ KR G pr B N S h' κ (a_va f c a).2)) {X : String → hpT → Prop} {P : Option Value → hpT → Prop} : ∀ (k j q : Nat) (lo : Nat → Option Value) (h : hpT) (a : aS), j + k = L.length → KR G pr B N S h κ a → a_lv f n L a → lo 0 = some (.ref (κ.1 0 n)) → lo 1 = some (.int (nI q)) → lo 2 = some (.int (nI j)) → (∀ h', KR G pr B N S h' κ (a_vR (a_va f) (L.drop j) a).2 → P (some (.int (nI (q + (a_vR (a_va f) (L.drop j) a).1)))) h') → hp_V M G 3 (hp_Q M G h0 P X) h 9 lo [] := by
  intro k
  induction k with
  | zero =>
    intro j q lo h a hj K X e0 e1 e2 hP
    have hn := X.2.1
    have hk := X.2.2.1
    have T := X.1
    have hl := T.rl hn
    have eL := X.2.2.2.2
    have ej : L.drop j = [] := List.drop_eq_nil_of_le (by omega)
    rw [ej] at hP
    subst eL
    refine hp_iload_n C dX1_vanish_9 e2 ?_
    refine hp_aload_nR C dX1_vanish_10 e0 ?_
    refine hp_get C fl_X1_14_2 dX1_vanish_11 (K.isK hn hk) (K.f69 hn hk) ?_
    refine hp_callV (ci := 0) C ml_X1_64 im_Jx4a65c_size_8abf5 se_Jx4a65c_size_8abf5 rfl (by decide) (kc_size (d := d - 1) K hn hk) (by omega) dX1_vanish_14 (K.isL hn hk) rfl rfl (by simp [Value.category]) (fun v_14 h_14 hp => ?_) (fun _ _ hf => hf.elim)
    obtain ⟨rfl, e_14⟩ := hp
    rw [e_14]
    refine hp_icmp_ge (tgt := 43) C dX1_vanish_17 (by decide) (fun _ => ?_) (fun z_9 => absurd (nI_le (by omega) (by omega)) z_9)
    refine hp_iload_n C dX1_vanish_43 e1 ?_
    refine hp_iret C hr rfl dX1_vanish_44 ?_
    exact hP h K
  | succ k ih =>
    intro j q lo h a hj K X e0 e1 e2 hP
    have hn := X.2.1
    have hk := X.2.2.1
    have T := X.1
    have hl := T.rl hn
    have eL := X.2.2.2.2
    subst eL
    have hjl : j < (a_rw a n).length := by omega
    obtain ⟨hc, h9⟩ := X.c hjl
    have hb := T.kb hc
    rw [k_dp hjl] at hP
    generalize hcc : (a_rw a n).getD j 0 = c at hc h9 hb hP
    refine hp_iload_n C dX1_vanish_9 e2 ?_
    refine hp_aload_nR C dX1_vanish_10 e0 ?_
    refine hp_get C fl_X1_14_2 dX1_vanish_11 (K.isK hn hk) (K.f69 hn hk) ?_
    refine hp_callV (ci := 0) C ml_X1_64 im_Jx4a65c_size_8abf5 se_Jx4a65c_size_8abf5 rfl (by decide) (kc_size (d := d - 1) K hn hk) (by omega) dX1_vanish_14 (K.isL hn hk) rfl rfl (by simp [Value.category]) (fun v_14 h_14 hp => ?_) (fun _ _ hf => hf.elim)
    obtain ⟨rfl, e_14⟩ := hp
    rw [e_14]
    refine hp_icmp_ge (tgt := 43) C dX1_vanish_17 (by decide) (fun z_9 => absurd z_9 (nI_ge (by omega) (by omega))) (fun _ => ?_)
    refine hp_iload_n C dX1_vanish_20 e1 ?_
    refine hp_aload_nR C dX1_vanish_21 e0 ?_
    refine hp_get C fl_X1_14_2 dX1_vanish_22 (K.isK hn hk) (K.f69 hn hk) ?_
    refine hp_iload_n C dX1_vanish_25 e2 ?_
    refine hp_callV (ci := 0) C ml_X1_68 im_Jx4a65c_get_915e3 se_Jx4a65c_get_915e3 rfl (by decide) (kc_get (d := d - 1) K hn hk (i := j) hjl hl (by omega)) (by omega) dX1_vanish_26 (K.isL hn hk) rfl rfl (by simp [Value.category]) (fun v_26 h_26 hp => ?_) (fun _ _ hf => hf.elim)
    obtain ⟨rfl, e_26⟩ := hp
    rw [e_26, hcc]
    refine kc_cast C K hc hb cl_X1_4 (by decide) (by decide) dX1_vanish_29 ?_
    refine hp_callN C K hc hb ul_X1_77_X1 ul_X1_77_X4 (hch c a h K T hc h9) (by omega) dX1_vanish_32 rfl rfl (by simp [Value.category]) (fun v_32 h_32 hp => ?_)
    obtain ⟨rfl, K_32⟩ := hp
    refine hp_iadd C dX1_vanish_35 ?_
    rw [nI_add]
    refine hp_istore_n C dX1_vanish_36 (by decide) ?_
    refine hp_iinc C dX1_vanish_37 e2 (by decide) rfl ?_
    refine hp_goto (tgt := 9) C dX1_vanish_40 (by decide) ?_
    exact ih (j + 1) _ _ _ _ (by omega) K_32 (X.kp (a_va_kp f c a)) e0 rfl ((va_up_self _ _ _).trans (by rw [show Int32.ofInt 1 = 1 from rfl, nI_1])) (fun h' K' => by rw [Nat.add_assoc]; exact hP h' K')
set_option maxRecDepth 20000 in
set_option maxHeartbeats 4000000 in
theorem kc_vanish {l : Launch} {G : hpG} {pr : Nat → Prop} {B : hpT} {N S : Nat} {κ : kS} : ∀ (f n : Nat) (a : aS) (h : hpT) (D : Nat), KR G pr B N S h κ a → a_T a → n < a_mk a → (9 : Int) ≤ f + a_nd a 2 n → f + 6 ≤ D → kf_van l G D (a_nd a 0 n) (κ.1 0 n) h (fun v h' => v = some (.int (nI (a_va f n a).1)) ∧ KR G pr B N S h' κ (a_va f n a).2) := by
  intro f
  induction f with
  | zero =>
    intro n a h D K T hn h9
    have := (T.r2 hn).2
    omega
  | succ f ih =>
    intro n a h D K T hn h9 hD
    refine ⟨fun hk => ?_, fun hk => ?_⟩
    · have ev : a_va (f + 1) n a = (1 + (a_vR (a_va f) (a_rw a n) (a_sn a 3 n 2)).1, (a_vR (a_va f) (a_rw a n) (a_sn a 3 n 2)).2) := if_neg (by omega)
      rw [ev]
      have X : a_lv f n (a_rw a n) (a_sn a 3 n 2) := a_lv.kp (a := a) ⟨T, hn, hk, by omega, rfl⟩ (a_kp.sn3 a n (by omega))
      refine hp_ofV (by decide) (by simp [Value.category]) (Nat.le_of_ble_eq_true rfl) (fun M C hr hx el => ?_)
      subst el
      refine hp_aload_nR C dX1_vanish_0 rfl ?_
      refine hp_iconst (v := 2) C dX1_vanish_1 (by decide) ?_
      refine kp_68K C K hn hk fl_X1_52_2 2 (by decide) dX1_vanish_2 (fun h_2 K_2 => ?_)
      refine hp_iconst (v := 1) C dX1_vanish_5 (by decide) ?_
      refine hp_istore_n C dX1_vanish_6 (by decide) ?_
      refine hp_iconst (v := 0) C dX1_vanish_7 (by decide) ?_
      refine hp_istore_n C dX1_vanish_8 (by decide) ?_
      exact kl_va (D := D - 1) C hr (by omega) (by omega) (fun c a h K T hc h9 => ih c a h (D - 1) K T hc h9 (by omega)) (a_rw a n).length 0 1 _ _ _ (by omega) K_2 X rfl rfl rfl (fun h' K' => ⟨rfl, K'⟩)
    · have ev : a_va (f + 1) n a = (1, a_sn a 3 n 2) := if_pos hk
      rw [ev]
      exact kc_vanishW K hn hk
/-! ===== System.arraycopy, aastore of null ===== -/
def hp_AC (own : String) (idx : Nat) : Prop := Cond.methodLink own idx arraycopyName ∈ hp_ws ∧ Cond.native arraycopyName ∈ hp_ws ∧ Cond.static arraycopyName ∈ hp_ws ∧ Cond.initialized "java/lang/System" ∈ hp_ws
/-- n values of a0's from sp on, laid into a's from dp on -/
def hp_cpy (h : hpT) (a0 a sp dp n : Nat) : hpT := (h.1, h.2.1, h.2.2.1, h.2.2.2.1, h.2.2.2.2.1, va_up (hp_ar h) a (va_cpy (hp_ar h a0) (hp_ar h a) sp dp n))
theorem ac_J7_150 : hp_AC RJ7 150 := ⟨(hp_in2 113 (by decide +kernel) rfl), (hp_in2 115 (by decide +kernel) rfl), (hp_in2 114 (by decide +kernel) rfl), (hp_in1 18 (by decide +kernel) rfl)⟩
theorem ac_Jx4a65c_112 : hp_AC RJx4a65c 112 := ⟨(hp_in2 234 (by decide +kernel) rfl), (hp_in2 115 (by decide +kernel) rfl), (hp_in2 114 (by decide +kernel) rfl), (hp_in1 18 (by decide +kernel) rfl)⟩
theorem ac_X3_27 : hp_AC RX3 27 := ⟨(hp_in3 51 (by decide +kernel) rfl), (hp_in2 115 (by decide +kernel) rfl), (hp_in2 114 (by decide +kernel) rfl), (hp_in1 18 (by decide +kernel) rfl)⟩
section HPY
variable {M : hpM} {G : hpG} {y : MethodName} {cc : ByteArray} {nL d : Nat} {h0 h : hpT} {Q : State → Prop} {pc : Nat} {lo : Nat → Option Value} {st : List Value}
theorem hp_wroteC {H H1 : Heap} {a0 a t sp dp n : Nat} (hR : hp_R G h H) (hi : hp_is G h a (10 + t)) (h6 : t < 6) (e1 : H1[a]? = some (arrV (hp_cA G t) (hp_ln h a) (va_cpy (hp_ar h a0) (hp_ar h a) sp dp n))) (e2 : H1.size = H.size) (e3 : ∀ q, q ≠ a → H1[q]? = H[q]?) : hp_R G (hp_cpy h a0 a sp dp n) H1 := by
  have q1 := hR.arr hi h6
  refine hR.upd (a := a) hi.1 rfl rfl e2 e3 ?_ (fun _ _ => rfl) (fun _ _ => rfl) (fun _ _ _ => rfl) (fun b hb => va_up_ne _ _ hb) ?_
  · unfold hp_sz
    rw [e1, q1]
    show (arrV _ _ _).slots.size = (arrV _ _ _).slots.size
    rw [arrV_size, arrV_size]
  · refine Or.inr (Or.inl ⟨t, hi.2.2, h6, ?_⟩)
    rw [e1]
    show some _ = some (arrV (hp_cA G t) (hp_ln h a) (va_up (hp_ar h) a (va_cpy (hp_ar h a0) (hp_ar h a) sp dp n) a))
    rw [va_up_self]
theorem hp_copyI (C : hp_F M G y cc nL d h0) {idx a0 a sp dp n : Nat} (ac : hp_AC y.cls idx) (hd : 1 ≤ d) (hs : hp_is G h a0 10) (hi : hp_is G h a 10) (h4 : sp + n ≤ hp_ln h a0) (h5 : dp + n ≤ hp_ln h a) (b1 : sp + n < 2 ^ 31) (b2 : dp + n < 2 ^ 31) (hel : ∀ i, i < n → ∃ x, hp_ar h a0 (sp + i) = .int x) (hw : (st.map fun v => v.category).sum ≤ 8) (dd : decode cc pc = .ok (.invokestatic idx, 3))
    (kk : hp_V M G nL Q (hp_cpy h a0 a sp dp n) (pc + 3) lo st) : hp_V M G nL Q h pc lo (.int (nI n) :: .int (nI dp) :: .ref a :: .int (nI sp) :: .ref a0 :: st) := by
  obtain ⟨w1, w2, w3, w4⟩ := ac
  intro H locs cells slots ls hR hl hL
  have rf := C.rf
  have rl := C.rl
  intro T hT X
  have q0 := hR.arr (t := 0) hs (by omega)
  have q1 := hR.arr (t := 0) hi (by omega)
  have es := nI_clamp (n := sp) (by omega)
  have ed := nI_clamp (n := dp) (by omega)
  have en := nI_clamp (n := n) (by omega)
  obtain ⟨-, k0, hk0, cm0, hkk0⟩ := (C.en.arr (t := 0) rfl).1 (hp_ln h a0) (hp_ar h a0)
  obtain ⟨-, k1, hk1, cm1, hkk1⟩ := (C.en.arr (t := 0) rfl).1 (hp_ln h a) (hp_ar h a)
  obtain ⟨vm', X', step⟩ := X.arraycopy C.ex C.own (C.ws _ w1) (C.ws _ w2) (C.ws _ w3) (C.ws _ w4) (src := a0) (dst := a) (cs := arrV (hp_cA G 0) (hp_ln h a0) (hp_ar h a0)) (cd := arrV (hp_cA G 0) (hp_ln h a) (hp_ar h a)) (srcPos := nI sp) (destPos := nI dp) (n := nI n) (by rw [hT]; exact q0) (by rw [hT]; exact q1)
    (fun _ h => by cases h) (fun _ h => by cases h) (fun h => by cases h) (fun h => by cases h) hk0 hk1 hkk0 hkk1 rfl (nI_pos (by omega)) (nI_pos (by omega)) (nI_pos (by omega))
    (by rw [nI_toInt (by omega), nI_toInt (by omega), arrV_size]; omega)
    (by rw [nI_toInt (by omega), nI_toInt (by omega), arrV_size]; omega)
    (fun vm₁ hal i hi' => by
      rw [en] at hi'
      rw [es]
      have e : (arrV (hp_cA G 0) (hp_ln h a0) (hp_ar h a0)).slots.getD (sp + i) .null = hp_ar h a0 (sp + i) := by
        rw [Array.getD_eq_getD_getElem?, arrV_read _ _ (by omega)]
        rfl
      rw [e]
      obtain ⟨x, hx⟩ := hel i hi'
      rw [hx]
      exact ⟨rfl, trivial⟩)
    (g := F0 (hp_mi4 M) pc ls (.int (nI n) :: .int (nI dp) :: .ref a :: .int (nI sp) :: .ref a0 :: st)) rfl (hL.1.trans C.ml.symm) (rest := st) rfl (by rw [C.bc]; exact dd) (by omega) (by have hw3 : nativeFrameWords "java/lang/System" "arraycopy" 5 ≤ 20 := (by decide); show 2 * 0 + _ + _ ≤ _; omega)
  have e1 : copied (arrV (hp_cA G 0) (hp_ln h a0) (hp_ar h a0)) (arrV (hp_cA G 0) (hp_ln h a) (hp_ar h a)) (nI sp) (nI dp) (nI n) = arrV (hp_cA G 0) (hp_ln h a) (va_cpy (hp_ar h a0) (hp_ar h a) sp dp n) := by
    have := va_copied (fun z : Value => z) (hp_cA G 0) (hp_cA G 0) (n0 := hp_ln h a0) (n1 := hp_ln h a) (sp := sp) (dp := dp) (n := n) (hp_ar h a0) (hp_ar h a) h4
    rw [← es, ← ed, ← en] at this
    refine Eq.trans this ?_
    rw [es, ed, en]
  rw [e1] at X' step
  have hlt : a < H.size := (Array.getElem?_eq_some_iff.mp q1).1
  have hheap : ((T.setVm vm').setCell a (arrV (hp_cA G 0) (hp_ln h a) (va_cpy (hp_ar h a0) (hp_ar h a) sp dp n))).heap = H.setIfInBounds a (arrV (hp_cA G 0) (hp_ln h a) (va_cpy (hp_ar h a0) (hp_ar h a) sp dp n)) := by rw [← hT]; rfl
  obtain ⟨t, a1, b1⟩ := kk _ _ cells slots ls (hp_wroteC (t := 0) hR hi (by omega) (show (H.setIfInBounds a _)[a]? = some _ by simp [Array.getElem?_setIfInBounds, hlt]) (by simp) (fun q hq => by simp [Array.getElem?_setIfInBounds, Ne.symm hq])) (fun q hq => by
      rcases List.mem_append.mp hq with z | z
      · exact hl q z
      · obtain ⟨z1, -, hz⟩ := List.mem_map.mp z
        rw [← hz]
        exact hi.1) hL _ hheap X'
  exact ⟨t, step t a1, b1⟩
theorem hp_copyR (C : hp_F M G y cc nL d h0) {idx a0 a sp dp n : Nat} (ac : hp_AC y.cls idx) (hd : 1 ≤ d) (hs : hp_is G h a0 13) (hi : hp_is G h a 13) (h4 : sp + n ≤ hp_ln h a0) (h5 : dp + n ≤ hp_ln h a) (b1 : sp + n < 2 ^ 31) (b2 : dp + n < 2 ^ 31) (hel : ∀ i, i < n → hp_ar h a0 (sp + i) = .null ∨ ∃ b ci cn, hp_ar h a0 (sp + i) = .ref b ∧ hp_is G h b ci ∧ ci < 10 ∧ (vwCl[ci]?).map (fun r => r.1) = some cn ∧ Cond.castable cn "java/lang/Object" ∈ hp_ow) (hw : (st.map fun v => v.category).sum ≤ 8) (dd : decode cc pc = .ok (.invokestatic idx, 3))
    (kk : hp_V M G nL Q (hp_cpy h a0 a sp dp n) (pc + 3) lo st) : hp_V M G nL Q h pc lo (.int (nI n) :: .int (nI dp) :: .ref a :: .int (nI sp) :: .ref a0 :: st) := by
  obtain ⟨w1, w2, w3, w4⟩ := ac
  intro H locs cells slots ls hR hl hL
  have rf := C.rf
  have rl := C.rl
  intro T hT X
  have q0 := hR.arr (t := 3) hs (by omega)
  have q1 := hR.arr (t := 3) hi (by omega)
  have es := nI_clamp (n := sp) (by omega)
  have ed := nI_clamp (n := dp) (by omega)
  have en := nI_clamp (n := n) (by omega)
  obtain ⟨-, k0, hk0, cm0, hkk0⟩ := (C.en.arr (t := 3) rfl).1 (hp_ln h a0) (hp_ar h a0)
  obtain ⟨-, k1, hk1, cm1, hkk1⟩ := (C.en.arr (t := 3) rfl).1 (hp_ln h a) (hp_ar h a)
  obtain ⟨vm', X', step⟩ := X.arraycopy C.ex C.own (C.ws _ w1) (C.ws _ w2) (C.ws _ w3) (C.ws _ w4) (src := a0) (dst := a) (cs := arrV (hp_cA G 3) (hp_ln h a0) (hp_ar h a0)) (cd := arrV (hp_cA G 3) (hp_ln h a) (hp_ar h a)) (srcPos := nI sp) (destPos := nI dp) (n := nI n) (by rw [hT]; exact q0) (by rw [hT]; exact q1)
    (fun _ h => by cases h) (fun _ h => by cases h) (fun h => by cases h) (fun h => by cases h) hk0 hk1 hkk0 hkk1 rfl (nI_pos (by omega)) (nI_pos (by omega)) (nI_pos (by omega))
    (by rw [nI_toInt (by omega), nI_toInt (by omega), arrV_size]; omega)
    (by rw [nI_toInt (by omega), nI_toInt (by omega), arrV_size]; omega)
    (fun vm₁ hal i hi' => by
      rw [en] at hi'
      rw [es]
      have e : (arrV (hp_cA G 3) (hp_ln h a0) (hp_ar h a0)).slots.getD (sp + i) .null = hp_ar h a0 (sp + i) := by
        rw [Array.getD_eq_getD_getElem?, arrV_read _ _ (by omega)]
        rfl
      rw [e]
      rcases hel i hi' with hx | ⟨b, ci, cn, hx, x1, x2, x3, x4⟩
      · rw [hx]
        exact ⟨rfl, trivial⟩
      · rw [hx]
        obtain ⟨cellV, g1, g2, g3⟩ := hp_recv C hR x1 x2 x3
        obtain ⟨kA, comp, r1, r2, r3, -⟩ := (C.en.arr (t := 3) rfl).2
        cases hk1.symm.trans r1
        cases hkk1.symm.trans r2
        obtain ⟨c0, t1, f1, f2, f3⟩ := Cond.castable_spec (va_Nw.use (A := hp_av M) rfl (C.en.2.1 _ x4))
        cases g3.symm.trans f1
        cases r3.symm.trans f2
        obtain ⟨kC, hkC, -⟩ := Vm.findClass_spec g3
        obtain ⟨kE, hkE, -⟩ := Vm.findClass_spec r3
        obtain ⟨kC', hkC', -⟩ := hal.2.2 _ _ hkC
        obtain ⟨kE', hkE', -⟩ := hal.2.2 _ _ hkE
        refine ⟨rfl, cellV, (show T.heap[b]? = some cellV by rw [hT]; exact g1), (fun q h => by rw [h] at g2; cases g2), ⟨kC', hkC'⟩, ⟨kE', hkE'⟩, ?_⟩
        show vm₁.assignable _ _ = true
        rw [hal.assignable]
        exact f3)
    (g := F0 (hp_mi4 M) pc ls (.int (nI n) :: .int (nI dp) :: .ref a :: .int (nI sp) :: .ref a0 :: st)) rfl (hL.1.trans C.ml.symm) (rest := st) rfl (by rw [C.bc]; exact dd) (by omega) (by have hw3 : nativeFrameWords "java/lang/System" "arraycopy" 5 ≤ 20 := (by decide); show 2 * 0 + _ + _ ≤ _; omega)
  have e1 : copied (arrV (hp_cA G 3) (hp_ln h a0) (hp_ar h a0)) (arrV (hp_cA G 3) (hp_ln h a) (hp_ar h a)) (nI sp) (nI dp) (nI n) = arrV (hp_cA G 3) (hp_ln h a) (va_cpy (hp_ar h a0) (hp_ar h a) sp dp n) := by
    have := va_copied (fun z : Value => z) (hp_cA G 3) (hp_cA G 3) (n0 := hp_ln h a0) (n1 := hp_ln h a) (sp := sp) (dp := dp) (n := n) (hp_ar h a0) (hp_ar h a) h4
    rw [← es, ← ed, ← en] at this
    refine Eq.trans this ?_
    rw [es, ed, en]
  rw [e1] at X' step
  have hlt : a < H.size := (Array.getElem?_eq_some_iff.mp q1).1
  have hheap : ((T.setVm vm').setCell a (arrV (hp_cA G 3) (hp_ln h a) (va_cpy (hp_ar h a0) (hp_ar h a) sp dp n))).heap = H.setIfInBounds a (arrV (hp_cA G 3) (hp_ln h a) (va_cpy (hp_ar h a0) (hp_ar h a) sp dp n)) := by rw [← hT]; rfl
  obtain ⟨t, a1, b1⟩ := kk _ _ cells slots ls (hp_wroteC (t := 3) hR hi (by omega) (show (H.setIfInBounds a _)[a]? = some _ by simp [Array.getElem?_setIfInBounds, hlt]) (by simp) (fun q hq => by simp [Array.getElem?_setIfInBounds, Ne.symm hq])) (fun q hq => by
      rcases List.mem_append.mp hq with z | z
      · exact hl q z
      · obtain ⟨z1, -, hz⟩ := List.mem_map.mp z
        rw [← hz]
        exact hi.1) hL _ hheap X'
  exact ⟨t, step t a1, b1⟩
/-- aastore of null -/
theorem hp_aastN (C : hp_F M G y cc nL d h0) {a : Nat} (t : Nat) {E : String} {i : Int32} (ht : (hp_tys (hp_cA G))[t]? = some (hp_cA G t, .object E)) (h6 : t < 6) (dd : decode cc pc = .ok (.aastore, 1)) (hi : hp_is G h a (10 + t)) (hin : vp_in i (hp_ln h a))
    (kk : hp_V M G nL Q (hp_set h a i.toNatClampNeg .null) (pc + 1) lo st) : hp_V M G nL Q h pc lo (.null :: .int i :: .ref a :: st) := by
  intro H locs cells slots ls hR hl hL
  refine va_WaastN (C := E) C.ex C.bc (hR.arr hi h6) ((C.en.arr ht).1 _ _) (fun h => by cases h) (by rw [arrV_size]; exact hin) rfl rfl dd fun H1 e1 e2 e3 => ?_
  exact kk H1 _ _ _ ls (hp_wroteA hR hi h6 e1 e2 e3) (t_lc hl hi.1) hL
end HPY
