/-! ===== ArrayList.add, with growth ===== -/
abbrev gcN : MethodName := ⟨"java/lang/Object", "getClass", "()Ljava/lang/Class;"⟩
theorem gc_l : Cond.methodLink RJ7 86 gcN ∈ hp_ws := (hp_in2 91 (by decide +kernel) rfl)
theorem gc_s : Cond.selects "[Ljava/lang/Object;" gcN gcN ∈ hp_ws := (hp_in4 148 (by decide +kernel) rfl)
theorem gc_i : Cond.instanceMethod gcN ∈ hp_ws := (hp_in2 92 (by decide +kernel) rfl)
theorem gc_n : Cond.native gcN ∈ hp_ws := (hp_in2 103 (by decide +kernel) rfl)
theorem cs_J8_200 : Cond.constant RJ8 200 2147483639 ∈ hp_ws := (hp_in2 84 (by decide +kernel) rfl)
section HPG
variable {M : hpM} {G : hpG} {y : MethodName} {cc : ByteArray} {nL d : Nat} {h0 h : hpT} {Q : State → Prop} {pc : Nat} {lo : Nat → Option Value} {st : List Value}
theorem hp_getC (C : hp_F M G y cc nL d h0) {idx a : Nat} (w1 : Cond.methodLink y.cls idx gcN ∈ hp_ws) (hd : 1 ≤ d) (hi : hp_is G h a 13) (hw : (st.map fun v => v.category).sum ≤ 8) (dd : decode cc pc = .ok (.invokevirtual idx, 3)) (kk : hp_V M G nL Q h (pc + 3) lo (.ref (hp_mi G) :: st)) : hp_V M G nL Q h pc lo (.ref a :: st) := by
  intro H locs cells slots ls hR hl hL
  have rf := C.rf
  have rl := C.rl
  exact va_getC C.ex C.bc (C.ml.trans hL.1.symm) C.own (C.ws _ w1) (va_Nw.use (A := hp_av M) rfl (C.en.2.1 _ (by decide))) (C.ws _ gc_s) (C.ws _ gc_i) (C.ws _ gc_n) C.en.2.2.2.2.2.2.2.1 ⟨_, hR.arr (t := 3) hi (by omega), rfl, va_nmO (C.en.arr (t := 3) rfl).2 rfl⟩ (by omega) (by omega) dd (kk H locs cells slots ls hR hl hL)
theorem hp_ldcM (C : hp_F M G y cc nL d h0) {idx : Nat} (w1 : Cond.classLink y.cls idx "[Ljava/lang/Object;" ∈ hp_ws) (dd : decode cc pc = .ok (.ldc idx, 2)) (kk : hp_V M G nL Q h (pc + 2) lo (.ref (hp_mi G) :: st)) : hp_V M G nL Q h pc lo st := fun H locs cells slots ls hR hl hL => va_ldcM C.ex C.bc C.own (C.ws _ w1) C.en.2.2.2.2.2.2.2.1 dd (kk H locs cells slots ls hR hl hL)
/-- an array is no longer than the room -/
theorem hp_lnb {a t : Nat} (hi : hp_is G h a (10 + t)) (h6 : t < 6) (k : hp_ln h a ≤ hp_LS → hp_V M G nL Q h pc lo st) : hp_V M G nL Q h pc lo st := by
  intro H locs cells slots ls hR hl hL
  refine k ?_ H locs cells slots ls hR hl hL
  have h1 := hR.arr hi h6
  have h2 := hR.2.2.2.2.1
  have h3 := hR.2.2.2.2.2.2
  have h4 : hp_sz H a = hp_ln h a := by
    unfold hp_sz
    rw [h1]
    exact arrV_size _ _ _
  have h5 := hp_sm_one (f := hp_sz H) (q := a) (hp_nx h - hp_n0 G) (hp_n0 G) hi.1 (by have := hi.1; have := hi.2.1; omega)
  omega
end HPG
theorem k_shr {L : Nat} (h : L < 80) : (nI L) >>> ((1 : Int32) &&& 31) = nI (L / 2) := by
  have : ∀ L : Fin 80, (nI L.1) >>> ((1 : Int32) &&& 31) = nI (L.1 / 2) := by decide +kernel
  exact this ⟨L, h⟩
/-- elements that any array of objects takes -/
def hp_els (G : hpG) (h : hpT) (f : Nat → Value) (n : Nat) : Prop := ∀ i, i < n → f i = .null ∨ ∃ b ci cn, f i = .ref b ∧ hp_is G h b ci ∧ ci < 10 ∧ (vwCl[ci]?).map (fun r => r.1) = some cn ∧ Cond.castable cn "java/lang/Object" ∈ hp_ow
theorem hp_els.mkA {G : hpG} {h : hpT} {f : Nat → Value} {n : Nat} (x : hp_els G h f n) (t N : Nat) (v : Value) : hp_els G (hp_mkA h t N v) f n := fun i hi => by
  rcases x i hi with z | ⟨b, ci, cn, z1, z2, z3⟩
  · exact Or.inl z
  · exact Or.inr ⟨b, ci, cn, z1, z2.mkA _ _ _, z3⟩
theorem mn_l : Cond.methodLink RJ7 304 Lib.Math.min.name ∈ hp_ws := (hp_in2 110 (by decide +kernel) rfl)
theorem mn_s : Cond.static Lib.Math.min.name ∈ hp_ws := (hp_in2 111 (by decide +kernel) rfl)
theorem mn_i : Cond.initialized "java/lang/Math" ∈ hp_ws := (hp_in1 16 (by decide +kernel) rfl)
theorem mn_c : Cond.code Lib.Math.min.name Lib.Math.min.code 2 (some .int) ∈ hp_ws := (hp_in2 112 (by decide +kernel) rfl)
theorem hp_mmin {M : hpM} {G : hpG} {y : MethodName} {cc : ByteArray} {nL d : Nat} {h0 h : hpT} {Q : State → Prop} {pc : Nat} {lo : Nat → Option Value} {st : List Value} (C : hp_F M G y cc nL d h0) {idx : Nat} {a b v : Int32} (w1 : Cond.methodLink y.cls idx Lib.Math.min.name ∈ hp_ws) (hd : 1 ≤ d) (hw : (st.map fun v => v.category).sum ≤ 8) (dd : decode cc pc = .ok (.invokestatic idx, 3)) (ev : (if b < a then b else a) = v) (kk : hp_V M G nL Q h (pc + 3) lo (.int v :: st)) : hp_V M G nL Q h pc lo (.int b :: .int a :: st) := by
  subst ev
  intro H locs cells slots ls hR hl hL
  refine hp_tight C hR (fun hle hls => ?_)
  have rf := C.rf
  have rl := C.rl
  have rc := C.rc
  have rs := C.rs
  have b1 := hR.2.2.2.2.2.1
  have b2 := hR.2.2.2.2.2.2
  exact va_mmin C.ex C.bc (C.ml.trans hL.1.symm) C.own (C.ws _ w1) (C.ws _ mn_s) (C.ws _ mn_i) (C.ws _ mn_c) (by omega) (by omega) (by omega) (by omega) dd (kk H locs _ _ ls hR hl hL)
set_option maxRecDepth 20000 in
set_option maxHeartbeats 4000000 in
theorem kj_nl {l : Launch} {G : hpG} {h : hpT} {d q p : Nat} (hq : q ≤ 1000) (hp : p ≤ 1000) (hd : 1 ≤ d) : hp_C l G yJ8_newLength_cabcc (.code yJ8_newLength_cabcc cJ8_newLength_cabcc 4 (some .int)) d [.int (nI q), .int (nI 1), .int (nI p)] (h) (fun v h' => v = some (.int (nI (q + max 1 p))) ∧ h' = h) (fun _ _ => False) := by
  refine hp_ofV (by decide) (by simp [Value.category]) (Nat.le_of_ble_eq_true rfl) (fun M C hr hx el => ?_)
  refine hp_iload_n C dJ8_newLength_cabcc_0 rfl ?_
  refine hp_iload_n C dJ8_newLength_cabcc_1 rfl ?_
  refine hp_iload_n C dJ8_newLength_cabcc_2 rfl ?_
  refine hp_mmax (v := nI (max 1 p)) C mx_J8_194 (by omega) (by simp [Value.category]) dJ8_newLength_cabcc_3 (by
      by_cases z : 1 < p
      · rw [if_pos (nI_lt z (by omega)), Nat.max_eq_right (by omega)]
      · rw [if_neg (nI_nlt (by omega) (by omega)), Nat.max_eq_left (by omega)]) ?_
  refine hp_iadd C dJ8_newLength_cabcc_6 ?_
  rw [nI_add]
  have hm : max 1 p ≤ 1000 := by omega
  have hm1 : 1 ≤ max 1 p := by omega
  refine hp_istore_n C dJ8_newLength_cabcc_7 (by decide) ?_
  refine hp_iconst (v := 0) C dJ8_newLength_cabcc_8 (by decide) ?_
  refine hp_iload_n C dJ8_newLength_cabcc_9 rfl ?_
  refine hp_icmp_ge (tgt := 21) C dJ8_newLength_cabcc_10 (by decide) (fun z_9 => absurd z_9 (nI_nle (by omega) (by omega))) (fun _ => ?_)
  refine hp_iload_n C dJ8_newLength_cabcc_13 rfl ?_
  refine hp_ldc C cs_J8_200 dJ8_newLength_cabcc_14 ?_
  refine hp_icmp_gt (tgt := 21) C dJ8_newLength_cabcc_16 (by decide) (fun z_9 => absurd z_9 (by rw [Int32.lt_iff_toInt_lt, nI_toInt (by omega), show (2147483639 : Int32).toInt = 2147483639 by decide]; omega)) (fun _ => ?_)
  refine hp_iload_n C dJ8_newLength_cabcc_19 rfl ?_
  refine hp_iret C hr rfl dJ8_newLength_cabcc_20 ?_
  exact ⟨rfl, rfl⟩
set_option maxRecDepth 20000 in
set_option maxHeartbeats 4000000 in
theorem kj_cp3 {l : Launch} {G : hpG} {h : hpT} {d e L : Nat} (hi : hp_is G h e 13) (hL : hp_ln h e ≤ L) (hL2 : L ≤ 1000) (hel : hp_els G h (hp_ar h e) (hp_ln h e)) (rm : hp_nx h + 1 ≤ hp_n0 G + hp_LC ∧ hp_sl h + L ≤ hp_LS) (hd : 1 ≤ d) : hp_C l G yJ7_copyOf_6403c (.code yJ7_copyOf_6403c cJ7_copyOf_6403c 4 (some (.array (.object "java/lang/Object")))) d [.ref e, .int (nI L), .ref (hp_mi G)] (h) (fun v h' => v = some (.ref (hp_nx h)) ∧ h' = hp_cpy (hp_mkA h 3 L .null) e (hp_nx h) 0 0 (hp_ln h e)) (fun _ _ => False) := by
  have hlt := hi.2.1
  have hn0 : hp_n0 G ≤ hp_nx h := by have := hi.1; omega
  refine hp_ofV (by decide) (by simp [Value.category]) (Nat.le_of_ble_eq_true rfl) (fun M C hr hx el => ?_)
  refine hp_aload_nR C dJ7_copyOf_6403c_0 rfl ?_
  refine hp_ldcM C cl_J7_110 dJ7_copyOf_6403c_1 ?_
  refine hp_acmp_ne (r := some _) (q := some _) (tgt := 13) C dJ7_copyOf_6403c_3 (by decide) (fun z_9 => absurd rfl z_9) (fun _ => ?_)
  refine hp_iload_n C dJ7_copyOf_6403c_6 rfl ?_
  refine hp_anew C 3 (N := L) rfl (by decide) cl_J7_2 (by decide) dJ7_copyOf_6403c_7 (nI_pos (by omega)) (nI_clamp (by omega)) (by omega) rm.1 rm.2 ?_
  refine hp_goto (tgt := 24) C dJ7_copyOf_6403c_10 (by decide) ?_
  refine hp_astore_n (r := some _) C dJ7_copyOf_6403c_24 (by decide) ?_
  refine hp_aload_nR C dJ7_copyOf_6403c_25 rfl ?_
  refine hp_iconst (v := 0) C dJ7_copyOf_6403c_26 (by decide) ?_
  refine hp_aload_nR C dJ7_copyOf_6403c_27 rfl ?_
  refine hp_iconst (v := 0) C dJ7_copyOf_6403c_28 (by decide) ?_
  refine hp_aload_nR C dJ7_copyOf_6403c_29 rfl ?_
  refine hp_alen C 3 rfl (by decide) dJ7_copyOf_6403c_30 (hi.mkA _ _ _) ?_
  have el : hp_ln (hp_mkA h 3 L .null) e = hp_ln h e := va_up_ne _ _ (Nat.ne_of_lt hlt)
  rw [el]
  refine hp_iload_n C dJ7_copyOf_6403c_31 rfl ?_
  refine hp_mmin (v := nI (hp_ln h e)) C mn_l (by omega) (by simp [Value.category]) dJ7_copyOf_6403c_32 (if_neg (nI_nlt hL (by omega))) ?_
  refine hp_copyR (sp := 0) (dp := 0) C ac_J7_150 (by omega) (hi.mkA _ _ _) (hp_isA hn0 3 _ _) (by rw [el]; omega) ?_ (by omega) (by omega) ?_ (by simp [Value.category]) dJ7_copyOf_6403c_35 ?_
  · show _ ≤ va_up (hp_ln h) (hp_nx h) L (hp_nx h)
    rw [va_up_self]
    omega
  · intro i hi2
    have ea : hp_ar (hp_mkA h 3 L .null) e (0 + i) = hp_ar h e i := by
      rw [Nat.zero_add]
      exact congrFun (va_up_ne _ _ (Nat.ne_of_lt hlt)) i
    rw [ea]
    exact hel.mkA 3 L .null i hi2
  · refine hp_aload_nR C dJ7_copyOf_6403c_38 rfl ?_
    refine hp_aret (r := some _) C hr (Or.inr ⟨_, rfl⟩) dJ7_copyOf_6403c_39 ?_
    exact ⟨rfl, rfl⟩
set_option maxRecDepth 20000 in
set_option maxHeartbeats 4000000 in
theorem kj_cp {l : Launch} {G : hpG} {h : hpT} {d e L : Nat} (hi : hp_is G h e 13) (hL : hp_ln h e ≤ L) (hL2 : L ≤ 1000) (hel : hp_els G h (hp_ar h e) (hp_ln h e)) (rm : hp_nx h + 1 ≤ hp_n0 G + hp_LC ∧ hp_sl h + L ≤ hp_LS) (hd : 2 ≤ d) : hp_C l G yJ7_copyOf_1904c (.code yJ7_copyOf_1904c cJ7_copyOf_1904c 2 (some (.array (.object "java/lang/Object")))) d [.ref e, .int (nI L)] (h) (fun v h' => v = some (.ref (hp_nx h)) ∧ h' = hp_cpy (hp_mkA h 3 L .null) e (hp_nx h) 0 0 (hp_ln h e)) (fun _ _ => False) := by
  refine hp_ofV (by decide) (by simp [Value.category]) (Nat.le_of_ble_eq_true rfl) (fun M C hr hx el => ?_)
  refine hp_aload_nR C dJ7_copyOf_1904c_0 rfl ?_
  refine hp_iload_n C dJ7_copyOf_1904c_1 rfl ?_
  refine hp_aload_nR C dJ7_copyOf_1904c_2 rfl ?_
  refine hp_getC C gc_l (by omega) hi (by simp [Value.category]) dJ7_copyOf_1904c_3 ?_
  refine hp_callS C ml_J7_300 sm_J7_copyOf_6403c (kj_cp3 (d := d - 1) hi hL hL2 hel rm (by omega)) (by omega) dJ7_copyOf_1904c_6 rfl rfl (by simp [Value.category]) (fun v_1 h_1 hp => ?_) (fun _ _ hf => hf.elim)
  obtain ⟨rfl, e_1⟩ := hp
  rw [e_1]
  refine hp_aret (r := some _) C hr (Or.inr ⟨_, rfl⟩) dJ7_copyOf_1904c_9 ?_
  exact ⟨rfl, rfl⟩
/-- the list at r has got a longer array: n of its elements are there -/
def hp_gr (h h' : hpT) (r e n L : Nat) : Prop := hp_nx h' = hp_nx h + 1 ∧ hp_sl h' = hp_sl h + L ∧ (∀ c, hp_kd h' c = va_up (hp_kd h) (hp_nx h) 13 c) ∧ (∀ c, hp_ln h' c = va_up (hp_ln h) (hp_nx h) L c) ∧ (∀ f c, hp_fl h' f c = if f = 1 ∧ c = r then .ref (hp_nx h) else hp_fl h f c) ∧ (∀ c, c ≠ hp_nx h → hp_ar h' c = hp_ar h c) ∧ (∀ i, i < n → hp_ar h' (hp_nx h) i = hp_ar h e i) ∧ n < L ∧ L ≤ 130
theorem hp_gr_fl {h : hpT} {r : Nat} {v : Value} (f c : Nat) : va_up (hp_fl h) 1 (va_up (hp_fl h 1) r v) f c = if f = 1 ∧ c = r then v else hp_fl h f c := by
  by_cases e : f = 1
  · subst e
    rw [va_up_self]
    by_cases e2 : c = r
    · rw [e2, va_up_self, if_pos ⟨rfl, rfl⟩]
    · rw [va_up_ne _ _ e2, if_neg (fun z => e2 z.2)]
  · rw [va_up_ne _ _ e, if_neg (fun z => e z.1)]
set_option maxRecDepth 20000 in
set_option maxHeartbeats 4000000 in
theorem kj_gr {l : Launch} {G : hpG} {h : hpT} {d r e n : Nat} (hi : hp_is G h r 0) (f1 : hp_fl h 1 r = .ref e) (hful : (n = 0 ∧ e = hp_dE G) ∨ (hp_is G h e 13 ∧ hp_ln h e = n)) (hel : hp_els G h (hp_ar h e) n) (hn : n ≤ 79) (rm : hp_nx h + 1 ≤ hp_n0 G + hp_LC ∧ hp_sl h + 130 ≤ hp_LS) (hd : 3 ≤ d) : hp_C l G yJx4a65c_grow_92f84 (.code yJx4a65c_grow_92f84 cJx4a65c_grow_92f84 4 (some (.array (.object "java/lang/Object")))) d [.ref r, .int (nI (n + 1))] (h) (fun v h' => v = some (.ref (hp_nx h)) ∧ ∃ L, hp_gr h h' r e n L) (fun _ _ => False) := by
  refine hp_ofV (by decide) (by simp [Value.category]) (Nat.le_of_ble_eq_true rfl) (fun M C hr hx el => ?_)
  rcases hful with ⟨rfl, rfl⟩ | ⟨hie, rfl⟩
  · refine hp_aload_nR C dJx4a65c_grow_92f84_0 rfl ?_
    refine hp_get C fl_Jx4a65c_9_0 dJx4a65c_grow_92f84_1 hi f1 ?_
    refine hp_alenE C dJx4a65c_grow_92f84_4 ?_
    refine hp_istore_n C dJx4a65c_grow_92f84_5 (by decide) ?_
    refine hp_iload_n C dJx4a65c_grow_92f84_6 rfl ?_
    refine hp_if_gt (tgt := 20) C dJx4a65c_grow_92f84_7 (by decide) (fun z_9 => absurd z_9 (by decide)) (fun _ => ?_)
    refine hp_aload_nR C dJx4a65c_grow_92f84_10 rfl ?_
    refine hp_get C fl_Jx4a65c_9_0 dJx4a65c_grow_92f84_11 hi f1 ?_
    refine hp_gets C gs_Jx4a65c_39 dJx4a65c_grow_92f84_14 ?_
    refine hp_acmp_eq (r := some (hp_dE G)) (q := some (hp_dE G)) (tgt := 45) C dJx4a65c_grow_92f84_17 (by decide) (fun _ => ?_) (fun z_9 => absurd rfl z_9)
    refine hp_aload_nR C dJx4a65c_grow_92f84_45 rfl ?_
    refine hp_bipush (v := 10) C dJx4a65c_grow_92f84_46 (by decide) ?_
    refine hp_iload_n C dJx4a65c_grow_92f84_48 rfl ?_
    refine hp_mmax (v := 10) C mx_Jx4a65c_79 (by omega) (by simp [Value.category]) dJx4a65c_grow_92f84_49 (by decide) ?_
    refine hp_anew C 3 (N := 10) rfl (by decide) cl_Jx4a65c_7 (by decide) dJx4a65c_grow_92f84_52 (by decide) rfl (by decide) rm.1 (by have := rm.2; omega) ?_
    refine hp_dup_x1 C dJx4a65c_grow_92f84_55 rfl rfl ?_
    refine hp_putf C fl_Jx4a65c_9_0 rfl rfl rfl dJx4a65c_grow_92f84_56 (hi.mkA 3 10 .null) ?_
    refine hp_aret (r := some _) C hr (Or.inr ⟨_, rfl⟩) dJx4a65c_grow_92f84_59 ?_
    exact ⟨rfl, 10, rfl, rfl, fun _ => rfl, fun _ => rfl, fun f c => hp_gr_fl f c, fun c hc => va_up_ne _ _ hc, fun i hi => absurd hi (Nat.not_lt_zero _), by decide, by decide⟩
  · have hlt := hie.2.1
    have hge := hie.1
    have hdl := hp_dlt C
    refine hp_aload_nR C dJx4a65c_grow_92f84_0 rfl ?_
    refine hp_get C fl_Jx4a65c_9_0 dJx4a65c_grow_92f84_1 hi f1 ?_
    refine hp_alen C 3 rfl (by decide) dJx4a65c_grow_92f84_4 hie ?_
    refine hp_istore_n C dJx4a65c_grow_92f84_5 (by decide) ?_
    refine hp_iload_n C dJx4a65c_grow_92f84_6 rfl ?_
    refine hp_if_gt (tgt := 20) C dJx4a65c_grow_92f84_7 (by decide) (fun c_7 => ?_) (fun c_7 => ?_)
    · have hsl := rm.2
      refine hp_iload_n C dJx4a65c_grow_92f84_20 rfl ?_
      refine hp_iload_n C dJx4a65c_grow_92f84_21 rfl ?_
      refine hp_iload_n C dJx4a65c_grow_92f84_22 rfl ?_
      refine hp_isub C dJx4a65c_grow_92f84_23 ?_
      rw [k_sub (by omega) (by omega), Nat.add_sub_cancel_left]
      refine hp_iload_n C dJx4a65c_grow_92f84_24 rfl ?_
      refine hp_iconst (v := 1) C dJx4a65c_grow_92f84_25 (by decide) ?_
      refine hp_ishr C dJx4a65c_grow_92f84_26 ?_
      rw [k_shr (by omega)]
      refine hp_callS C ml_Jx4a65c_73 sm_J8_newLength_cabcc (kj_nl (d := d - 1) (q := hp_ln h e) (p := hp_ln h e / 2) (by omega) (by omega) (by omega)) (by omega) dJx4a65c_grow_92f84_27 rfl rfl (by simp [Value.category]) (fun v_27 h_27 hp => ?_) (fun _ _ hf => hf.elim)
      obtain ⟨rfl, e_27⟩ := hp
      rw [e_27]
      have hLL : hp_ln h e < hp_ln h e + max 1 (hp_ln h e / 2) ∧ hp_ln h e + max 1 (hp_ln h e / 2) ≤ 130 := by omega
      generalize hp_ln h e + max 1 (hp_ln h e / 2) = L at hLL ⊢
      refine hp_istore_n C dJx4a65c_grow_92f84_30 (by decide) ?_
      refine hp_aload_nR C dJx4a65c_grow_92f84_31 rfl ?_
      refine hp_aload_nR C dJx4a65c_grow_92f84_32 rfl ?_
      refine hp_get C fl_Jx4a65c_9_0 dJx4a65c_grow_92f84_33 hi f1 ?_
      refine hp_iload_n C dJx4a65c_grow_92f84_36 rfl ?_
      refine hp_callS C ml_Jx4a65c_66 sm_J7_copyOf_1904c (kj_cp (d := d - 1) hie (by omega) (by omega) hel ⟨rm.1, by omega⟩ (by omega)) (by omega) dJx4a65c_grow_92f84_37 rfl rfl (by simp [Value.category]) (fun v_37 h_37 hp => ?_) (fun _ _ hf => hf.elim)
      obtain ⟨rfl, e_37⟩ := hp
      rw [e_37]
      refine hp_dup_x1 C dJx4a65c_grow_92f84_40 rfl rfl ?_
      refine hp_putf C fl_Jx4a65c_9_0 rfl rfl rfl dJx4a65c_grow_92f84_41 (hi.mkA 3 L .null) ?_
      refine hp_aret (r := some _) C hr (Or.inr ⟨_, rfl⟩) dJx4a65c_grow_92f84_44 ?_
      refine ⟨rfl, L, rfl, rfl, fun _ => rfl, fun _ => rfl, fun f c => hp_gr_fl f c, fun c hc => ?_, fun i hi2 => ?_, hLL.1, hLL.2⟩
      · show va_up (va_up (hp_ar h) (hp_nx h) _) (hp_nx h) _ c = _
        rw [va_up_ne _ _ hc, va_up_ne _ _ hc]
      · show va_up (va_up (hp_ar h) (hp_nx h) _) (hp_nx h) (va_cpy (va_up (hp_ar h) (hp_nx h) _ e) _ 0 0 (hp_ln h e)) (hp_nx h) i = _
        rw [va_up_self]
        unfold va_cpy
        rw [if_pos (by omega), va_up_ne _ _ (by omega), Nat.sub_zero, Nat.zero_add]
    · refine hp_aload_nR C dJx4a65c_grow_92f84_10 rfl ?_
      refine hp_get C fl_Jx4a65c_9_0 dJx4a65c_grow_92f84_11 hi f1 ?_
      refine hp_gets C gs_Jx4a65c_39 dJx4a65c_grow_92f84_14 ?_
      refine hp_acmp_eq (r := some e) (q := some (hp_dE G)) (tgt := 45) C dJx4a65c_grow_92f84_17 (by decide) (fun z_9 => absurd (Option.some.inj z_9) (by omega)) (fun _ => ?_)
      have hsl := rm.2
      refine hp_iload_n C dJx4a65c_grow_92f84_20 rfl ?_
      refine hp_iload_n C dJx4a65c_grow_92f84_21 rfl ?_
      refine hp_iload_n C dJx4a65c_grow_92f84_22 rfl ?_
      refine hp_isub C dJx4a65c_grow_92f84_23 ?_
      rw [k_sub (by omega) (by omega), Nat.add_sub_cancel_left]
      refine hp_iload_n C dJx4a65c_grow_92f84_24 rfl ?_
      refine hp_iconst (v := 1) C dJx4a65c_grow_92f84_25 (by decide) ?_
      refine hp_ishr C dJx4a65c_grow_92f84_26 ?_
      rw [k_shr (by omega)]
      refine hp_callS C ml_Jx4a65c_73 sm_J8_newLength_cabcc (kj_nl (d := d - 1) (q := hp_ln h e) (p := hp_ln h e / 2) (by omega) (by omega) (by omega)) (by omega) dJx4a65c_grow_92f84_27 rfl rfl (by simp [Value.category]) (fun v_27 h_27 hp => ?_) (fun _ _ hf => hf.elim)
      obtain ⟨rfl, e_27⟩ := hp
      rw [e_27]
      have hLL : hp_ln h e < hp_ln h e + max 1 (hp_ln h e / 2) ∧ hp_ln h e + max 1 (hp_ln h e / 2) ≤ 130 := by omega
      generalize hp_ln h e + max 1 (hp_ln h e / 2) = L at hLL ⊢
      refine hp_istore_n C dJx4a65c_grow_92f84_30 (by decide) ?_
      refine hp_aload_nR C dJx4a65c_grow_92f84_31 rfl ?_
      refine hp_aload_nR C dJx4a65c_grow_92f84_32 rfl ?_
      refine hp_get C fl_Jx4a65c_9_0 dJx4a65c_grow_92f84_33 hi f1 ?_
      refine hp_iload_n C dJx4a65c_grow_92f84_36 rfl ?_
      refine hp_callS C ml_Jx4a65c_66 sm_J7_copyOf_1904c (kj_cp (d := d - 1) hie (by omega) (by omega) hel ⟨rm.1, by omega⟩ (by omega)) (by omega) dJx4a65c_grow_92f84_37 rfl rfl (by simp [Value.category]) (fun v_37 h_37 hp => ?_) (fun _ _ hf => hf.elim)
      obtain ⟨rfl, e_37⟩ := hp
      rw [e_37]
      refine hp_dup_x1 C dJx4a65c_grow_92f84_40 rfl rfl ?_
      refine hp_putf C fl_Jx4a65c_9_0 rfl rfl rfl dJx4a65c_grow_92f84_41 (hi.mkA 3 L .null) ?_
      refine hp_aret (r := some _) C hr (Or.inr ⟨_, rfl⟩) dJx4a65c_grow_92f84_44 ?_
      refine ⟨rfl, L, rfl, rfl, fun _ => rfl, fun _ => rfl, fun f c => hp_gr_fl f c, fun c hc => ?_, fun i hi2 => ?_, hLL.1, hLL.2⟩
      · show va_up (va_up (hp_ar h) (hp_nx h) _) (hp_nx h) _ c = _
        rw [va_up_ne _ _ hc, va_up_ne _ _ hc]
      · show va_up (va_up (hp_ar h) (hp_nx h) _) (hp_nx h) (va_cpy (va_up (hp_ar h) (hp_nx h) _ e) _ 0 0 (hp_ln h e)) (hp_nx h) i = _
        rw [va_up_self]
        unfold va_cpy
        rw [if_pos (by omega), va_up_ne _ _ (by omega), Nat.sub_zero, Nat.zero_add]
set_option maxRecDepth 20000 in
set_option maxHeartbeats 4000000 in
theorem kj_gr1 {l : Launch} {G : hpG} {h : hpT} {d r e n : Nat} (hi : hp_is G h r 0) (f1 : hp_fl h 1 r = .ref e) (f2 : hp_fl h 2 r = .int (nI n)) (hful : (n = 0 ∧ e = hp_dE G) ∨ (hp_is G h e 13 ∧ hp_ln h e = n)) (hel : hp_els G h (hp_ar h e) n) (hn : n ≤ 79) (rm : hp_nx h + 1 ≤ hp_n0 G + hp_LC ∧ hp_sl h + 130 ≤ hp_LS) (hd : 4 ≤ d) : hp_C l G yJx4a65c_grow_d5877 (.code yJx4a65c_grow_d5877 cJx4a65c_grow_d5877 1 (some (.array (.object "java/lang/Object")))) d [.ref r] (h) (fun v h' => v = some (.ref (hp_nx h)) ∧ ∃ L, hp_gr h h' r e n L) (fun _ _ => False) := by
  refine hp_ofV (by decide) (by simp [Value.category]) (Nat.le_of_ble_eq_true rfl) (fun M C hr hx el => ?_)
  refine hp_aload_nR C dJx4a65c_grow_d5877_0 rfl ?_
  refine hp_aload_nR C dJx4a65c_grow_d5877_1 rfl ?_
  refine hp_get C fl_Jx4a65c_48_0 dJx4a65c_grow_d5877_2 hi f2 ?_
  refine hp_iconst (v := 1) C dJx4a65c_grow_d5877_5 (by decide) ?_
  refine hp_iadd C dJx4a65c_grow_d5877_6 ?_
  rw [nI_1]
  refine hp_callV (ci := 0) C ml_Jx4a65c_69 im_Jx4a65c_grow_92f84 se_Jx4a65c_grow_92f84 rfl (by decide) (kj_gr (d := d - 1) hi f1 hful hel hn rm (by omega)) (by omega) dJx4a65c_grow_d5877_7 hi rfl rfl (by simp [Value.category]) (fun v_1 h_1 hp => ?_) (fun _ _ hf => hf.elim)
  obtain ⟨rfl, L, hg⟩ := hp
  refine hp_aret (r := some _) C hr (Or.inr ⟨_, rfl⟩) dJx4a65c_grow_d5877_10 ?_
  exact ⟨rfl, L, hg⟩
/-- behind an add of x: the list at r with n elements in e had its array (or a longer one), and holds x behind them -/
def hp_ad (G : hpG) (h h' : hpT) (r e n x : Nat) : Prop := ∃ h1 e1, ((h1 = h ∧ e1 = e ∧ hp_is G h e 13 ∧ n < hp_ln h e) ∨ (e1 = hp_nx h ∧ ∃ L, hp_gr h h1 r e n L)) ∧ h' = hp_put (hp_set h1 e1 n (.ref x)) 2 r (.int (nI (n + 1)))
theorem kj_len {M : hpM} {G : hpG} {y : MethodName} {cc : ByteArray} {nL d : Nat} {h0 h : hpT} {Q : State → Prop} {pc : Nat} {lo : Nat → Option Value} {st : List Value} (C : hp_F M G y cc nL d h0) {e n : Nat} (hfu : (n = 0 ∧ e = hp_dE G) ∨ (hp_is G h e 13 ∧ hp_ln h e = n)) (hn : n ≤ 79) (dd : decode cc pc = .ok (.arraylength, 1)) (kk : hp_V M G nL Q h (pc + 1) lo (.int (nI n) :: st)) : hp_V M G nL Q h pc lo (.ref e :: st) := by
  rcases hfu with ⟨rfl, rfl⟩ | ⟨z1, rfl⟩
  · exact hp_alenE C dd kk
  · exact hp_alen C 3 rfl (by decide) dd z1 kk
set_option maxRecDepth 20000 in
set_option maxHeartbeats 4000000 in
theorem kj_ad3 {l : Launch} {G : hpG} {h : hpT} {d r e n x ci : Nat} {cn : String} (hi : hp_is G h r 0) (f1 : hp_fl h 1 r = .ref e) (f2 : hp_fl h 2 r = .int (nI n)) (hE : (n = 0 ∧ e = hp_dE G) ∨ (hp_is G h e 13 ∧ n ≤ hp_ln h e)) (hel : hp_els G h (hp_ar h e) n) (hn : n ≤ 79) (hx1 : hp_is G h x ci) (hx2 : ci < 10) (hx3 : (vwCl[ci]?).map (fun r => r.1) = some cn) (hx4 : Cond.castable cn "java/lang/Object" ∈ hp_ow) (rm : hp_nx h + 1 ≤ hp_n0 G + hp_LC ∧ hp_sl h + 130 ≤ hp_LS) (hd : 5 ≤ d) : hp_C l G yJx4a65c_add_72be8 (.code yJx4a65c_add_72be8 cJx4a65c_add_72be8 4 none) d [.ref r, .ref x, .ref e, .int (nI n)] (h) (fun v h' => v = none ∧ hp_ad G h h' r e n x) (fun _ _ => False) := by
  refine hp_ofV (by decide) (by simp [Value.category]) (Nat.le_of_ble_eq_true rfl) (fun M C hr hx el => ?_)
  by_cases hfu : (n = 0 ∧ e = hp_dE G) ∨ (hp_is G h e 13 ∧ hp_ln h e = n)
  · refine hp_iload_n C dJx4a65c_add_72be8_0 rfl ?_
    refine hp_aload_nR C dJx4a65c_add_72be8_1 rfl ?_
    refine kj_len C hfu hn dJx4a65c_add_72be8_2 ?_
    refine hp_icmp_ne (tgt := 11) C dJx4a65c_add_72be8_3 (by decide) (fun z_9 => absurd rfl z_9) (fun _ => ?_)
    refine hp_aload_nR C dJx4a65c_add_72be8_6 rfl ?_
    refine hp_callV (ci := 0) C ml_Jx4a65c_129 im_Jx4a65c_grow_d5877 se_Jx4a65c_grow_d5877 rfl (by decide) (kj_gr1 (d := d - 1) hi f1 f2 hfu hel hn rm (by omega)) (by omega) dJx4a65c_add_72be8_7 hi rfl rfl (by simp [Value.category]) (fun v_7 h_7 hp => ?_) (fun _ _ hf => hf.elim)
    obtain ⟨rfl, L, hg⟩ := hp
    have hg' := hg
    obtain ⟨g1, g2, g3, g4, g5, g6, g7, g8, g9⟩ := hg
    have hn0 : hp_n0 G ≤ hp_nx h := by have := hi.1; have := hi.2.1; omega
    have isr : hp_is G h_7 r 0 := ⟨hi.1, by rw [g1]; have := hi.2.1; omega, by rw [g3, va_up_ne _ _ (by have := hi.2.1; omega)]; exact hi.2.2⟩
    have isx : hp_is G h_7 x ci := ⟨hx1.1, by rw [g1]; have := hx1.2.1; omega, by rw [g3, va_up_ne _ _ (by have := hx1.2.1; omega)]; exact hx1.2.2⟩
    have ise : hp_is G h_7 (hp_nx h) 13 := ⟨hn0, by rw [g1]; omega, by rw [g3, va_up_self]⟩
    refine hp_astore_n (r := some _) C dJx4a65c_add_72be8_10 (by decide) ?_
    refine hp_aload_nR C dJx4a65c_add_72be8_11 rfl ?_
    refine hp_iload_n C dJx4a65c_add_72be8_12 rfl ?_
    refine hp_aload_nR C dJx4a65c_add_72be8_13 rfl ?_
    refine hp_aast C 3 ci rfl (by decide) hx4 hx3 hx2 dJx4a65c_add_72be8_14 ise isx (nI_in (by rw [g4, va_up_self]; exact g8) (by rw [g4, va_up_self]; omega)) ?_
    rw [nI_clamp (by omega)]
    refine hp_aload_nR C dJx4a65c_add_72be8_15 rfl ?_
    refine hp_iload_n C dJx4a65c_add_72be8_16 rfl ?_
    refine hp_iconst (v := 1) C dJx4a65c_add_72be8_17 (by decide) ?_
    refine hp_iadd C dJx4a65c_add_72be8_18 ?_
    rw [nI_1]
    refine hp_putf C fl_Jx4a65c_48_0 rfl rfl rfl dJx4a65c_add_72be8_19 isr ?_
    refine hp_vret C hr dJx4a65c_add_72be8_22 ?_
    exact ⟨rfl, h_7, hp_nx h, Or.inr ⟨rfl, L, hg'⟩, rfl⟩
  · have hE2 : hp_is G h e 13 ∧ n < hp_ln h e := by
      rcases hE with z | z
      · exact absurd (Or.inl z) hfu
      · exact ⟨z.1, by have : ¬ hp_ln h e = n := fun q => hfu (Or.inr ⟨z.1, q⟩); have := z.2; omega⟩
    refine hp_lnb (t := 3) hE2.1 (by omega) (fun hx5' => ?_)
    have hx5 : hp_ln h e < 2 ^ 31 := Nat.lt_of_le_of_lt hx5' (by decide)
    refine hp_iload_n C dJx4a65c_add_72be8_0 rfl ?_
    refine hp_aload_nR C dJx4a65c_add_72be8_1 rfl ?_
    refine hp_alen C 3 rfl (by decide) dJx4a65c_add_72be8_2 hE2.1 ?_
    refine hp_icmp_ne (tgt := 11) C dJx4a65c_add_72be8_3 (by decide) (fun _ => ?_) (fun z_9 => absurd ((nI_eq (by omega) (by omega)).mp z_9) (by have := hE2.2; omega))
    refine hp_aload_nR C dJx4a65c_add_72be8_11 rfl ?_
    refine hp_iload_n C dJx4a65c_add_72be8_12 rfl ?_
    refine hp_aload_nR C dJx4a65c_add_72be8_13 rfl ?_
    refine hp_aast C 3 ci rfl (by decide) hx4 hx3 hx2 dJx4a65c_add_72be8_14 hE2.1 hx1 (nI_in hE2.2 hx5) ?_
    rw [nI_clamp (by omega)]
    refine hp_aload_nR C dJx4a65c_add_72be8_15 rfl ?_
    refine hp_iload_n C dJx4a65c_add_72be8_16 rfl ?_
    refine hp_iconst (v := 1) C dJx4a65c_add_72be8_17 (by decide) ?_
    refine hp_iadd C dJx4a65c_add_72be8_18 ?_
    rw [nI_1]
    refine hp_putf C fl_Jx4a65c_48_0 rfl rfl rfl dJx4a65c_add_72be8_19 hi ?_
    refine hp_vret C hr dJx4a65c_add_72be8_22 ?_
    exact ⟨rfl, h, e, Or.inl ⟨rfl, rfl, hE2.1, hE2.2⟩, rfl⟩
set_option maxRecDepth 20000 in
set_option maxHeartbeats 4000000 in
theorem kj_add {l : Launch} {G : hpG} {h : hpT} {d r e n x ci : Nat} {cn : String} {mc : Int32} (f0 : hp_fl h 0 r = .int mc) (hi : hp_is G h r 0) (f1 : hp_fl h 1 r = .ref e) (f2 : hp_fl h 2 r = .int (nI n)) (hE : (n = 0 ∧ e = hp_dE G) ∨ (hp_is G h e 13 ∧ n ≤ hp_ln h e)) (hel : hp_els G h (hp_ar h e) n) (hn : n ≤ 79) (hx1 : hp_is G h x ci) (hx2 : ci < 10) (hx3 : (vwCl[ci]?).map (fun r => r.1) = some cn) (hx4 : Cond.castable cn "java/lang/Object" ∈ hp_ow) (rm : hp_nx h + 1 ≤ hp_n0 G + hp_LC ∧ hp_sl h + 130 ≤ hp_LS) (hd : 6 ≤ d) : hp_C l G yJx4a65c_add_9ea2d (.code yJx4a65c_add_9ea2d cJx4a65c_add_9ea2d 2 (some .boolean)) d [.ref r, .ref x] (h) (fun v h' => v = some (.int 1) ∧ hp_ad G (hp_put h 0 r (.int (mc + 1))) h' r e n x) (fun _ _ => False) := by
  refine hp_ofV (by decide) (by simp [Value.category]) (Nat.le_of_ble_eq_true rfl) (fun M C hr hx el => ?_)
  refine hp_aload_nR C dJx4a65c_add_9ea2d_0 rfl ?_
  refine hp_dup C dJx4a65c_add_9ea2d_1 rfl ?_
  refine hp_get C fl_Jx4a65c_63_0 dJx4a65c_add_9ea2d_2 hi f0 ?_
  refine hp_iconst (v := 1) C dJx4a65c_add_9ea2d_5 (by decide) ?_
  refine hp_iadd C dJx4a65c_add_9ea2d_6 ?_
  refine hp_putf C fl_Jx4a65c_63_0 rfl rfl rfl dJx4a65c_add_9ea2d_7 hi ?_
  have p1 : hp_fl (hp_put h 0 r (.int (mc + 1))) 1 r = .ref e := f1
  have p2 : hp_fl (hp_put h 0 r (.int (mc + 1))) 2 r = .int (nI n) := f2
  refine hp_aload_nR C dJx4a65c_add_9ea2d_10 rfl ?_
  refine hp_aload_nR C dJx4a65c_add_9ea2d_11 rfl ?_
  refine hp_aload_nR C dJx4a65c_add_9ea2d_12 rfl ?_
  refine hp_get C fl_Jx4a65c_9_0 dJx4a65c_add_9ea2d_13 hi p1 ?_
  refine hp_aload_nR C dJx4a65c_add_9ea2d_16 rfl ?_
  refine hp_get C fl_Jx4a65c_48_0 dJx4a65c_add_9ea2d_17 hi p2 ?_
  refine hp_callV (ci := 0) C ml_Jx4a65c_131 im_Jx4a65c_add_72be8 se_Jx4a65c_add_72be8 rfl (by decide) (kj_ad3 (d := d - 1) hi p1 p2 hE hel hn hx1 hx2 hx3 hx4 rm (by omega)) (by omega) dJx4a65c_add_9ea2d_20 hi rfl rfl (by simp [Value.category]) (fun v_1 h_1 hp => ?_) (fun _ _ hf => hf.elim)
  obtain ⟨rfl, hg⟩ := hp
  refine hp_iconst (v := 1) C dJx4a65c_add_9ea2d_23 (by decide) ?_
  refine hp_iret C hr (by decide) dJx4a65c_add_9ea2d_24 ?_
  exact ⟨rfl, hg⟩
