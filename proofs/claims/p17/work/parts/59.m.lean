/-! ===== a child is taken out of the row ===== -/
def k_smc (κ : kS) (n : Nat) (x : Int32) : kS := (κ.1, va_up κ.2.1 n x, κ.2.2)
section KRX
variable {G : hpG} {pr : Nat → Prop} {B : hpT} {N S : Nat} {h : hpT} {κ : kS} {a : aS} {n : Nat}
theorem KR.mc (K : KR G pr B N S h κ a) (hn : n < a_mk a) (hk : a_nd a 0 n = 1) (x : Int32) : KR G pr B N S (hp_put h 0 (κ.1 1 n) (.int x)) (k_smc κ n x) a := by
  refine ⟨K.1, K.2.1, K.putV (n := n) (f := 0) (k_o0 hn hk) (fun _ _ z => z) (fun _ _ => rfl) ?_ (fun g m ok hg => ?_), K.2.2.2.1, K.2.2.2.2.1.put (K.1.2.1 n hn hk).1.2, K.2.2.2.2.2.1, K.2.2.2.2.2.2⟩
  · show Value.int (va_up κ.2.1 n x n) = _
    rw [va_up_self]
  · unfold k_fv
    by_cases e : k_isN g = true
    · rw [if_pos e, if_pos e]
    · rw [if_neg e, if_neg e]
      by_cases e2 : g = 0
      · subst e2
        show Value.int (va_up κ.2.1 n x m) = Value.int (κ.2.1 m)
        rw [va_up_ne _ _ (hg rfl)]
      · unfold k_fo
        rw [if_neg e2, if_neg e2]
        rfl
/-- the row of keeper n is L: its size and its elements are written -/
theorem KR.row (K : KR G pr B N S h κ a) (hd : hp_dE G < hp_n0 G) (hn : n < a_mk a) (hk : a_nd a 0 n = 1) (h0 : hp_n0 G ≤ κ.1 2 n) {h' : hpT} {L : List Nat} (e1 : hp_nx h' = hp_nx h) (e2 : hp_sl h' = hp_sl h) (e3 : hp_kd h' = hp_kd h) (e4 : hp_ln h' = hp_ln h) (hf : ∀ f b, (f = 2 → b ≠ κ.1 1 n) → hp_fl h' f b = hp_fl h f b) (h2 : hp_fl h' 2 (κ.1 1 n) = .int (nI L.length)) (ha : ∀ b, b ≠ κ.1 2 n → hp_ar h' b = hp_ar h b) (hE : ∀ i, i < L.length → hp_ar h' (κ.1 2 n) i = .ref (κ.1 0 (L.getD i 0))) (hl : L.length ≤ hp_ln h (κ.1 2 n)) : KR G pr B N S h' κ (a_sr a n L) := by
  obtain ⟨x1, x2⟩ := K.eltA hd hn hk h0
  have is : ∀ b k, k_is G pr h b k → k_is G pr h' b k := fun b k z => ⟨⟨z.1.1, by rw [e1]; exact z.1.2.1, by rw [e3]; exact z.1.2.2⟩, z.2⟩
  have rs : a_rw (a_sr a n L) n = L := va_up_self _ _ _
  have rn : ∀ m, m ≠ n → a_rw (a_sr a n L) m = a_rw a m := fun m hm => va_up_ne _ _ hm
  have rok2 : k_rok G κ a 2 n := Or.inl ⟨rfl, hn, hk, h0⟩
  refine ⟨⟨fun m hm => is _ _ (K.1.1 m hm), fun m hm hkm => ?_, is _ _ K.1.2.2.1, is _ _ K.1.2.2.2.1, ⟨is _ _ K.1.2.2.2.2.1.1, by rw [e4]; exact K.1.2.2.2.2.1.2⟩, fun j hj => ⟨is _ _ (K.1.2.2.2.2.2.1 j hj).1, by rw [e4]; exact (K.1.2.2.2.2.2.1 j hj).2⟩, is _ _ K.1.2.2.2.2.2.2.1, by rw [e4]; exact K.1.2.2.2.2.2.2.2⟩, K.2.1, fun f m ok => ?_, fun r m i ok => ?_, fun b hb => ?_, ⟨by rw [e1]; exact K.2.2.2.2.2.1.1, by rw [e2, e4]; exact K.2.2.2.2.2.1.2⟩, K.2.2.2.2.2.2⟩
  · obtain ⟨z1, z2, z3, z4, z5⟩ := K.1.2.1 m hm hkm
    refine ⟨is _ _ z1, is _ _ z2, is _ _ z3, by rw [e4]; exact z4, ?_⟩
    by_cases em : m = n
    · subst em
      rw [rs]
      exact Or.inr ⟨is _ _ x1, by rw [e4]; exact hl⟩
    · rw [rn m em]
      rcases z5 with z5 | z5
      · exact Or.inl z5
      · exact Or.inr ⟨is _ _ z5.1, by rw [e4]; exact z5.2⟩
  · by_cases ef : f = 2
    · subst ef
      by_cases em : m = n
      · subst em
        show hp_fl h' 2 (κ.1 1 m) = Value.int (nI (a_rw (a_sr a m L) m).length)
        rw [h2, rs]
      · have hm : m < a_mk a ∧ a_nd a 0 m = 1 := by
          rcases ok with ⟨-, z2, z3⟩ | ⟨z1, -⟩ | ⟨z1, -⟩ | ⟨z1, -⟩ | ⟨z1, -⟩ | ⟨z1, -⟩ | ⟨z1, -⟩ <;> first | exact ⟨z2, z3⟩ | omega
        have hne : κ.1 1 m ≠ κ.1 1 n := fun z => em (K.2.1.2.1 1 m n (Or.inl rfl) hm.1 hn hm.2 hk z)
        show hp_fl h' 2 (κ.1 1 m) = Value.int (nI (a_rw (a_sr a n L) m).length)
        rw [hf 2 _ (fun _ => hne), rn m em]
        exact K.f2 hm.1 hm.2
    · rw [hf f _ (fun z => absurd z ef), K.V f m ok]
      unfold k_fv
      by_cases e : k_isN f = true
      · rw [if_pos e, if_pos e]; rfl
      · rw [if_neg e, if_neg e]
        unfold k_fo
        simp only [ef, if_false]
        rfl
  · by_cases er : r = 2 ∧ m = n
    · obtain ⟨rfl, rfl⟩ := er
      have hi : i < L.length := by
        rcases ok with ⟨-, -, -, z⟩ | ⟨z, -⟩ | ⟨z, -⟩ | ⟨z, -⟩ | ⟨z, -⟩ <;> first | (rw [rs] at z; exact z) | omega
      rw [hE i hi]
      show _ = Value.ref (κ.1 0 ((a_rw (a_sr a m L) m).getD i 0))
      rw [rs]
    · have ok' : k_aok κ a r m i := by
        rcases ok with ⟨z1, z2, z3, z4⟩ | z | z
        · exact Or.inl ⟨z1, z2, z3, by rw [rn m (fun z => er ⟨z1, z⟩)] at z4; exact z4⟩
        · exact Or.inr (Or.inl z)
        · exact Or.inr (Or.inr z)
      have hne : κ.1 r m ≠ κ.1 2 n := fun z => er (K.dis hd (K.rok ok') rok2 z)
      rw [ha _ hne, K.A r m i ok']
      unfold k_av
      by_cases c1 : r = 2
      · rw [if_pos c1, if_pos c1, rn m (fun z => er ⟨c1, z⟩)]
      · rw [if_neg c1, if_neg c1]
        rfl
  · obtain ⟨y1, y2, y3, y4, y5⟩ := K.2.2.2.2.1 b hb
    have hb1 : b ≠ κ.1 1 n := fun z => (K.1.2.1 n hn hk).1.2 (z ▸ hb)
    have hb2 : b ≠ κ.1 2 n := fun z => x1.2 (z ▸ hb)
    exact ⟨by rw [e1]; exact y1, by rw [e3]; exact y2, by rw [e4]; exact y3, fun f => by rw [hf f b (fun _ => hb1)]; exact y4 f, by rw [ha b hb2]; exact y5⟩
theorem kp_0 {M : hpM} {y : MethodName} {cc : ByteArray} {nL d : Nat} {h0 : hpT} {Q : State → Prop} {pc : Nat} {lo : Nat → Option Value} {st : List Value} {idx : Nat} (C : hp_F M G y cc nL d h0) (K : KR G pr B N S h κ a) (hn : n < a_mk a) (hk : a_nd a 0 n = 1) (fl : hp_FL y.cls idx 0 0) {v : Int32} (dd : decode cc pc = .ok (.putfield idx, 3)) (kk : ∀ h', KR G pr B N S h' (k_smc κ n v) a → hp_V M G nL Q h' (pc + 3) lo st) : hp_V M G nL Q h pc lo (.int v :: .ref (κ.1 1 n) :: st) := hp_putf C fl rfl rfl rfl dd (K.isL hn hk) (kk _ (K.mc hn hk v))
end KRX
theorem k_erD {L : List Nat} {t i : Nat} : (L.eraseIdx t).getD i 0 = if i < t then L.getD i 0 else L.getD (i + 1) 0 := by
  rw [List.getD_eq_getElem?_getD, List.getElem?_eraseIdx]
  split
  · rw [List.getD_eq_getElem?_getD]
  · rw [List.getD_eq_getElem?_getD]
theorem k_erL {L : List Nat} {t : Nat} (h : t < L.length) : (L.eraseIdx t).length = L.length - 1 := by
  rw [List.length_eraseIdx, if_pos h]
theorem k_sub {a b : Nat} (h : b ≤ a) (ha : a < 2 ^ 31) : nI a - nI b = nI (a - b) := by
  have e1 := nI_toInt (n := a) (by omega)
  have e2 := nI_toInt (n := b) (by omega)
  have e3 := nI_toInt (n := a - b) (by omega)
  refine Int32.toInt_inj.mp ?_
  rw [Int32.toInt_sub, e1, e2, e3]
  rw [show ((a - b : Nat) : Int) = (a : Int) - b by omega]
  exact Int.bmod_eq_of_le (by omega) (by omega)
set_option maxRecDepth 20000 in
set_option maxHeartbeats 4000000 in
theorem kc_fast {l : Launch} {G : hpG} {pr : Nat → Prop} {B : hpT} {N S : Nat} {h : hpT} {κ : kS} {a : aS} {d : Nat} (K : KR G pr B N S h κ a) {n t : Nat} (hn : n < a_mk a) (hk : a_nd a 0 n = 1) (T : a_T a) (hl : (a_rw a n).length ≤ 79) (ht : t < (a_rw a n).length) (hd : 1 ≤ d) : hp_C l G yJx4a65c_fastRemove_b59b0 (.code yJx4a65c_fastRemove_b59b0 cJx4a65c_fastRemove_b59b0 4 none) d [.ref (κ.1 1 n), .ref (κ.1 2 n), .int (nI t)] (h) (fun v h' => v = none ∧ KR G pr B N S h' (k_smc κ n (κ.2.1 n + 1)) (a_sr a n ((a_rw a n).eraseIdx t))) (fun _ _ => False) := by
  refine hp_ofV (by decide) (by simp [Value.category]) (Nat.le_of_ble_eq_true rfl) (fun M C hr hx el => ?_)
  have h0 := (K.isE2 hn hk ht).1.1.1
  refine hp_aload_nR C dJx4a65c_fastRemove_b59b0_0 rfl ?_
  refine hp_dup C dJx4a65c_fastRemove_b59b0_1 rfl ?_
  refine hp_get C fl_Jx4a65c_63_0 dJx4a65c_fastRemove_b59b0_2 (K.isL hn hk) (K.f0 hn hk) ?_
  refine hp_iconst (v := 1) C dJx4a65c_fastRemove_b59b0_5 (by decide) ?_
  refine hp_iadd C dJx4a65c_fastRemove_b59b0_6 ?_
  refine kp_0 C K hn hk fl_Jx4a65c_63_0 dJx4a65c_fastRemove_b59b0_7 (fun h_7 K1 => ?_)
  have hln := (K1.isE2 hn hk ht).2
  have hins : vp_in (nI ((a_rw a n).length - 1)) (hp_ln h_7 (κ.1 2 n)) := vp_in_iff.mpr (by have : (a_rw a n).length ≤ hp_ln h_7 (κ.1 2 n) := hln; rw [nI_toInt (by omega)]; omega)
  have ecl : (nI ((a_rw a n).length - 1)).toNatClampNeg = (a_rw a n).length - 1 := nI_clamp (by omega)
  have epd : nI (a_rw a n).length - 1 = nI ((a_rw a n).length - 1) := by
    have := nI_pred ((a_rw a n).length - 1)
    rwa [show (a_rw a n).length - 1 + 1 = (a_rw a n).length by omega] at this
  refine hp_aload_nR C dJx4a65c_fastRemove_b59b0_10 rfl ?_
  refine hp_get C fl_Jx4a65c_48_0 dJx4a65c_fastRemove_b59b0_11 (K1.isL hn hk) (K1.f2 hn hk) ?_
  refine hp_iconst (v := 1) C dJx4a65c_fastRemove_b59b0_14 (by decide) ?_
  refine hp_isub C dJx4a65c_fastRemove_b59b0_15 ?_
  rw [epd]
  refine hp_dup C dJx4a65c_fastRemove_b59b0_16 rfl ?_
  refine hp_istore_n C dJx4a65c_fastRemove_b59b0_17 (by decide) ?_
  refine hp_iload_n C dJx4a65c_fastRemove_b59b0_18 rfl ?_
  refine hp_icmp_le (tgt := 34) C dJx4a65c_fastRemove_b59b0_19 (by decide) (fun c_19 => ?_) (fun c_19 => ?_)
  · have hle : (a_rw a n).length - 1 ≤ t := (nI_leI (by omega) (by omega)).mp c_19
    refine hp_aload_nR C dJx4a65c_fastRemove_b59b0_34 rfl ?_
    refine hp_aload_nR C dJx4a65c_fastRemove_b59b0_35 rfl ?_
    refine hp_iload_n C dJx4a65c_fastRemove_b59b0_36 rfl ?_
    refine hp_dup_x1 C dJx4a65c_fastRemove_b59b0_37 rfl rfl ?_
    refine hp_putf C fl_Jx4a65c_48_0 rfl rfl rfl dJx4a65c_fastRemove_b59b0_38 (K1.isL hn hk) ?_
    refine hp_null C dJx4a65c_fastRemove_b59b0_41 ?_
    refine hp_aastN C 3 rfl (by decide) dJx4a65c_fastRemove_b59b0_42 (K1.isE2 hn hk ht).1.1 hins ?_
    rw [ecl]
    refine hp_vret C hr dJx4a65c_fastRemove_b59b0_43 ?_
    refine ⟨rfl, K1.row (hp_dlt C) hn hk h0 rfl rfl rfl rfl (fun f b hfb => ?_) ?_ (fun b hb => ?_) (fun i hi => ?_) (by rw [k_erL ht]; exact Nat.le_trans (Nat.sub_le _ _) hln)⟩
    · show va_up (hp_fl h_7) 2 (va_up (hp_fl h_7 2) (κ.1 1 n) _) f b = _
      by_cases e : f = 2
      · subst e
        have hfb1 : b ≠ κ.1 1 n := hfb rfl
        rw [va_up_self, va_up_ne _ _ hfb1]
      · rw [va_up_ne _ _ e]
    · show va_up (hp_fl h_7) 2 (va_up (hp_fl h_7 2) (κ.1 1 n) _) 2 (κ.1 1 n) = _
      rw [va_up_self, va_up_self, k_erL ht]
    · show va_up (hp_ar h_7) (κ.1 2 n) _ b = _
      have hb1 : b ≠ κ.1 2 n := hb
      rw [va_up_ne _ _ hb1]
    · rw [k_erL ht] at hi
      show va_up (hp_ar h_7) (κ.1 2 n) (va_up (hp_ar h_7 (κ.1 2 n)) ((a_rw a n).length - 1) .null) (κ.1 2 n) i = _
      rw [va_up_self, va_up_ne _ _ (by omega), k_erD, if_pos (by omega)]
      exact K1.elt hn hk (by omega)
  · have hgt : ¬ (a_rw a n).length - 1 ≤ t := (not_congr (nI_leI (by omega) (by omega))).mp c_19
    refine hp_aload_nR C dJx4a65c_fastRemove_b59b0_22 rfl ?_
    refine hp_iload_n C dJx4a65c_fastRemove_b59b0_23 rfl ?_
    refine hp_iconst (v := 1) C dJx4a65c_fastRemove_b59b0_24 (by decide) ?_
    refine hp_iadd C dJx4a65c_fastRemove_b59b0_25 ?_
    rw [nI_1]
    refine hp_aload_nR C dJx4a65c_fastRemove_b59b0_26 rfl ?_
    refine hp_iload_n C dJx4a65c_fastRemove_b59b0_27 rfl ?_
    refine hp_iload_n C dJx4a65c_fastRemove_b59b0_28 rfl ?_
    refine hp_iload_n C dJx4a65c_fastRemove_b59b0_29 rfl ?_
    refine hp_isub C dJx4a65c_fastRemove_b59b0_30 ?_
    rw [show nI ((a_rw a n).length - 1) - nI t = nI ((a_rw a n).length - 1 - t) from k_sub (by omega) (by omega)]
    refine hp_copyR C ac_Jx4a65c_112 (by omega) (K1.isE2 hn hk ht).1.1 (K1.isE2 hn hk ht).1.1 (by have : (a_rw a n).length ≤ hp_ln h_7 (κ.1 2 n) := hln; omega) (by have : (a_rw a n).length ≤ hp_ln h_7 (κ.1 2 n) := hln; omega) (by omega) (by omega) (fun i hi => Or.inr ?_) (by simp [Value.category]) dJx4a65c_fastRemove_b59b0_31 ?_
    · have hc := (T.rc hn (k_rc T hn (i := t + 1 + i) (by omega))).1
      rcases T.kb hc with hb | hb
      · exact ⟨_, 4, _, K1.elt hn hk (by omega), K1.isW hc hb, by decide, rfl, by decide⟩
      · exact ⟨_, 2, _, K1.elt hn hk (by omega), K1.isK hc hb, by decide, rfl, by decide⟩
    refine hp_aload_nR C dJx4a65c_fastRemove_b59b0_34 rfl ?_
    refine hp_aload_nR C dJx4a65c_fastRemove_b59b0_35 rfl ?_
    refine hp_iload_n C dJx4a65c_fastRemove_b59b0_36 rfl ?_
    refine hp_dup_x1 C dJx4a65c_fastRemove_b59b0_37 rfl rfl ?_
    refine hp_putf C fl_Jx4a65c_48_0 rfl rfl rfl dJx4a65c_fastRemove_b59b0_38 (K1.isL hn hk) ?_
    refine hp_null C dJx4a65c_fastRemove_b59b0_41 ?_
    refine hp_aastN C 3 rfl (by decide) dJx4a65c_fastRemove_b59b0_42 (K1.isE2 hn hk ht).1.1 hins ?_
    rw [ecl]
    refine hp_vret C hr dJx4a65c_fastRemove_b59b0_43 ?_
    refine ⟨rfl, K1.row (hp_dlt C) hn hk h0 rfl rfl rfl rfl (fun f b hfb => ?_) ?_ (fun b hb => ?_) (fun i hi => ?_) (by rw [k_erL ht]; exact Nat.le_trans (Nat.sub_le _ _) hln)⟩
    · show va_up (hp_fl h_7) 2 (va_up (hp_fl h_7 2) (κ.1 1 n) _) f b = _
      by_cases e : f = 2
      · subst e
        have hfb1 : b ≠ κ.1 1 n := hfb rfl
        rw [va_up_self, va_up_ne _ _ hfb1]
      · rw [va_up_ne _ _ e]
    · show va_up (hp_fl h_7) 2 (va_up (hp_fl h_7 2) (κ.1 1 n) _) 2 (κ.1 1 n) = _
      rw [va_up_self, va_up_self, k_erL ht]
    · show va_up (va_up (hp_ar h_7) (κ.1 2 n) _) (κ.1 2 n) _ b = _
      have hb1 : b ≠ κ.1 2 n := hb
      rw [va_up_ne _ _ hb1, va_up_ne _ _ hb1]
    · rw [k_erL ht] at hi
      show va_up (va_up (hp_ar h_7) (κ.1 2 n) (va_cpy (hp_ar h_7 (κ.1 2 n)) (hp_ar h_7 (κ.1 2 n)) (t + 1) t ((a_rw a n).length - 1 - t))) (κ.1 2 n) (va_up (va_up (hp_ar h_7) (κ.1 2 n) (va_cpy (hp_ar h_7 (κ.1 2 n)) (hp_ar h_7 (κ.1 2 n)) (t + 1) t ((a_rw a n).length - 1 - t)) (κ.1 2 n)) ((a_rw a n).length - 1) .null) (κ.1 2 n) i = _
      rw [va_up_self, va_up_self, va_up_ne _ _ (by omega), k_erD]
      unfold va_cpy
      by_cases c : t ≤ i
      · rw [if_pos (by omega), if_neg (by omega), show t + 1 + (i - t) = i + 1 by omega]
        exact K1.elt hn hk (by omega)
      · rw [if_neg (by omega), if_pos (by omega)]
        exact K1.elt hn hk (by omega)
set_option maxRecDepth 20000 in
set_option maxHeartbeats 4000000 in
theorem kc_remove {l : Launch} {G : hpG} {pr : Nat → Prop} {B : hpT} {N S : Nat} {h : hpT} {κ : kS} {a : aS} {d : Nat} (K : KR G pr B N S h κ a) {n t : Nat} (T : a_T a) (hn : n < a_mk a) (hk : a_nd a 0 n = 1) (ht : t < (a_rw a n).length) (hd : 2 ≤ d) : hp_C l G yJx4a65c_remove_915e3 (.code yJx4a65c_remove_915e3 cJx4a65c_remove_915e3 4 (some (.object "java/lang/Object"))) d [.ref (κ.1 1 n), .int (nI t)] (h) (fun v h' => v = some (.ref (κ.1 0 ((a_rw a n).getD t 0))) ∧ KR G pr B N S h' (k_smc κ n (κ.2.1 n + 1)) (a_sr a n ((a_rw a n).eraseIdx t))) (fun _ _ => False) := by
  have hl := T.rl hn
  refine hp_ofV (by decide) (by simp [Value.category]) (Nat.le_of_ble_eq_true rfl) (fun M C hr hx el => ?_)
  refine hp_iload_n C dJx4a65c_remove_915e3_0 rfl ?_
  refine hp_aload_nR C dJx4a65c_remove_915e3_1 rfl ?_
  refine hp_get C fl_Jx4a65c_48_0 dJx4a65c_remove_915e3_2 (K.isL hn hk) (K.f2 hn hk) ?_
  refine hp_callS C ml_Jx4a65c_118 sm_J15_checkIndex_7cf53 (kj_ci (d := d - 1) (i := t) (n := (a_rw a n).length) ht (by omega) (by omega)) (by omega) dJx4a65c_remove_915e3_5 rfl rfl (by simp [Value.category]) (fun v_5 h_5 hp => ?_) (fun _ _ hf => hf.elim)
  obtain ⟨rfl, e_5⟩ := hp
  rw [e_5]
  refine hp_pop C dJx4a65c_remove_915e3_8 rfl ?_
  refine hp_aload_nR C dJx4a65c_remove_915e3_9 rfl ?_
  refine hp_get C fl_Jx4a65c_9_0 dJx4a65c_remove_915e3_10 (K.isL hn hk) (K.f1 hn hk) ?_
  refine hp_astore_n (r := some _) C dJx4a65c_remove_915e3_13 (by decide) ?_
  refine hp_aload_nR C dJx4a65c_remove_915e3_14 rfl ?_
  refine hp_iload_n C dJx4a65c_remove_915e3_15 rfl ?_
  refine hp_aald C 3 rfl rfl (by decide) dJx4a65c_remove_915e3_16 (K.isE2 hn hk ht).1.1 (vp_in_iff.mpr (by have := (K.isE2 hn hk ht).2; rw [nI_toInt (by omega)]; omega)) ((congrArg (hp_ar h (κ.1 2 n)) (nI_clamp (by omega))).trans (K.elt hn hk ht)) ?_
  refine hp_astore_n (r := some _) C dJx4a65c_remove_915e3_17 (by decide) ?_
  refine hp_aload_nR C dJx4a65c_remove_915e3_18 rfl ?_
  refine hp_aload_nR C dJx4a65c_remove_915e3_19 rfl ?_
  refine hp_iload_n C dJx4a65c_remove_915e3_20 rfl ?_
  refine hp_callV (ci := 0) C ml_Jx4a65c_144 im_Jx4a65c_fastRemove_b59b0 se_Jx4a65c_fastRemove_b59b0 rfl (by decide) (kc_fast (d := d - 1) K hn hk T hl ht (by omega)) (by omega) dJx4a65c_remove_915e3_21 (K.isL hn hk) rfl rfl (by simp [Value.category]) (fun v_21 h_21 hp => ?_) (fun _ _ hf => hf.elim)
  obtain ⟨rfl, K_21⟩ := hp
  refine hp_aload_nR C dJx4a65c_remove_915e3_24 rfl ?_
  refine hp_aret (r := some _) C hr (Or.inl ⟨_, rfl⟩) dJx4a65c_remove_915e3_25 ?_
  exact ⟨rfl, K_21⟩
/-! ===== dismiss, release, giveUp ===== -/
/-- b comes of a: rows may lose nodes -/
def a_k2 (a b : aS) : Prop := a_mk b = a_mk a ∧ (∀ f, f ≠ 3 → f ≠ 11 → a_nd b f = a_nd a f) ∧ a_tm a ≤ a_tm b ∧ (a_ev a).length ≤ (a_ev b).length ∧ a_rs b = a_rs a ∧ a_gv b = a_gv a ∧ (a_T a → a_T b) ∧ (a_A a → a_A b)
theorem a_kp.k2 {a b : aS} (x : a_kp a b) : a_k2 a b := ⟨x.1, x.2.2⟩
theorem a_k2.rf (a : aS) : a_k2 a a := (a_kp.rf a).k2
theorem a_k2.tr {a b c : aS} (x : a_k2 a b) (y : a_k2 b c) : a_k2 a c := ⟨y.1.trans x.1, fun f h1 h2 => (y.2.1 f h1 h2).trans (x.2.1 f h1 h2), Nat.le_trans x.2.2.1 y.2.2.1, Nat.le_trans x.2.2.2.1 y.2.2.2.1, y.2.2.2.2.1.trans x.2.2.2.2.1, y.2.2.2.2.2.1.trans x.2.2.2.2.2.1, fun t => y.2.2.2.2.2.2.1 (x.2.2.2.2.2.2.1 t), fun t => y.2.2.2.2.2.2.2 (x.2.2.2.2.2.2.2 t)⟩
theorem a_k2.mk {a b : aS} (x : a_k2 a b) : a_mk b = a_mk a := x.1
theorem a_k2.nd {a b : aS} (x : a_k2 a b) {f n : Nat} (h1 : f ≠ 3 := by decide) (h2 : f ≠ 11 := by decide) : a_nd b f n = a_nd a f n := congrFun (x.2.1 f h1 h2) n
theorem a_k2.tm {a b : aS} (x : a_k2 a b) : a_tm a ≤ a_tm b := x.2.2.1
theorem a_k2.ev {a b : aS} (x : a_k2 a b) : (a_ev a).length ≤ (a_ev b).length := x.2.2.2.1
theorem a_k2.rs {a b : aS} (x : a_k2 a b) : a_rs b = a_rs a := x.2.2.2.2.1
theorem a_k2.T {a b : aS} (x : a_k2 a b) (t : a_T a) : a_T b := x.2.2.2.2.2.2.1 t
theorem a_k2.A {a b : aS} (x : a_k2 a b) (t : a_A a) : a_A b := x.2.2.2.2.2.2.2 t
theorem a_k2.gv {a b : aS} (x : a_k2 a b) : a_gv b = a_gv a := x.2.2.2.2.2.1
theorem a_k2.er (a : aS) (p t : Nat) : a_k2 a (a_sr a p ((a_rw a p).eraseIdx t)) := by
  refine ⟨rfl, fun _ _ _ => rfl, Nat.le_refl _, Nat.le_refl _, rfl, rfl, fun T => ⟨T.1, T.2.1, T.2.2.1, T.2.2.2.1, fun m hm hw => ?_, fun m hm => ?_⟩, fun A => A⟩
  · have h0 := T.2.2.2.2.1 m hm hw
    show va_up (a_rw a) p ((a_rw a p).eraseIdx t) m = []
    by_cases e : m = p
    · rw [e, va_up_self, ← e, h0]; rfl
    · rw [va_up_ne _ _ e]; exact h0
  · show (va_up (a_rw a) p ((a_rw a p).eraseIdx t) m).length ≤ 79 ∧ (va_up (a_rw a) p ((a_rw a p).eraseIdx t) m).Nodup ∧ ∀ c, c ∈ va_up (a_rw a) p ((a_rw a p).eraseIdx t) m → c < a_mk a ∧ a_nd a 1 c = m ∧ a_nd a 2 c = a_nd a 2 m + 1
    have z := T.2.2.2.2.2 m hm
    by_cases e : m = p
    · subst e
      rw [va_up_self]
      have hs := List.eraseIdx_sublist (a_rw a m) t
      exact ⟨Nat.le_trans hs.length_le z.1, z.2.1.sublist hs, fun c hc => z.2.2 c (hs.subset hc)⟩
    · rw [va_up_ne _ _ e]; exact z
/-- child c, at place t of keeper p's row, is taken out for ever -/
def a_dis (f p c t : Nat) (a : aS) : Nat × aS := a_va f c (a_no (a_sr a p ((a_rw a p).eraseIdx t)) 7 c 0)
theorem a_dis_k2 (f p c t : Nat) (a : aS) : a_k2 a (a_dis f p c t a).2 := ((a_k2.er a p t).tr (a_kp.no _ _ _ _).k2).tr (a_va_kp f c _).k2
theorem a_dis_rw (f p c t : Nat) (a : aS) : a_rw (a_dis f p c t a).2 = va_up (a_rw a) p ((a_rw a p).eraseIdx t) := (a_va_kp f c _).rw'
theorem a_va_ev : ∀ (f n : Nat) (a : aS), a_ev (a_va f n a).2 = a_ev a := by
  intro f
  induction f with
  | zero => intro n a; rfl
  | succ f ih =>
    intro n a
    have hR : ∀ (l : List Nat) (a : aS), a_ev (a_vR (a_va f) l a).2 = a_ev a := by
      intro l
      induction l with
      | nil => intro a; rfl
      | cons c r ihr => intro a; exact (ihr _).trans (ih c a)
    show a_ev (if a_nd a 0 n = 0 then _ else _ : Nat × aS).2 = _
    split
    · rfl
    · exact hR _ _
theorem k_no {L : List Nat} (hd : L.Nodup) {t j : Nat} (ht : t < L.length) (hj : j < t) : ¬ L.getD j 0 = L.getD t 0 := by
  rw [List.getD_eq_getElem?_getD, List.getD_eq_getElem?_getD, List.getElem?_eq_getElem ht, List.getElem?_eq_getElem (show j < L.length by omega)]
  intro e
  have e' : L[j] = L[t] := e
  have := (List.getElem_inj hd).mp e'
  omega
/-- stopped while its keeper stays up -/
def a_rl (f p c t : Nat) (a : aS) : aS := if a_nd a 4 c = 2 then (a_dis f p c t (a_ce false f c a).2).2 else (a_ce false f c a).2
theorem a_rl_k2 (f p c t : Nat) (a : aS) : a_k2 a (a_rl f p c t a) := by
  unfold a_rl
  split
  · exact (a_ce_kp false f c a).k2.tr (a_dis_k2 f p c t _)
  · exact (a_ce_kp false f c a).k2
theorem a_rl_len (f p c t : Nat) (a : aS) : (a_rw a p).length - 1 ≤ (a_rw (a_rl f p c t a) p).length ∧ ∀ i, i < t → (a_rw (a_rl f p c t a) p).getD i 0 = (a_rw a p).getD i 0 := by
  unfold a_rl
  split
  · rw [a_dis_rw, va_up_self, (a_ce_kp false f c a).rw']
    refine ⟨?_, fun i hi => by rw [k_erD, if_pos hi]⟩
    rw [List.length_eraseIdx]
    split <;> omega
  · rw [(a_ce_kp false f c a).rw']
    exact ⟨Nat.sub_le _ _, fun _ _ => rfl⟩
/-- those of p's row that are up, from place fr on, the last one first -/
def a_rF (f p fr : Nat) : Nat → aS → aS
  | 0, a => a
  | j + 1, a => if j < fr then a else a_rF f p fr j (if a_nd a 3 ((a_rw a p).getD j 0) = 1 then a_rl f p ((a_rw a p).getD j 0) j a else a)
theorem a_rF_k2 (f p fr : Nat) : ∀ (j : Nat) (a : aS), a_k2 a (a_rF f p fr j a)
  | 0, a => a_k2.rf a
  | j + 1, a => by
    unfold a_rF
    split
    · exact a_k2.rf a
    · split
      · exact (a_rl_k2 f p _ j a).tr (a_rF_k2 f p fr j _)
      · exact a_rF_k2 f p fr j a
/-- a keeper gives up -/
def a_gu (f p : Nat) (a : aS) : aS := a_sn (a_cR (a_ce false f) (a_rw a p).reverse (a_no a 6 p 0)).2 3 p 0
theorem a_gu_kp (f p : Nat) (a : aS) : a_kp a (a_gu f p a) := ((a_kp.no a 6 p 0).tr (a_cR_kp (a_ce_kp false f) _ _)).tr (a_kp.sn3 _ p (by omega))
set_option maxRecDepth 20000 in
set_option maxHeartbeats 4000000 in
theorem kc_dismiss {l : Launch} {G : hpG} {pr : Nat → Prop} {B : hpT} {N S : Nat} {h : hpT} {γ : Nat → Nat → Nat} {μ : Nat → Int32} {ρ : Nat → List Nat} {a : aS} {d : Nat} (K : KR G pr B N S h (γ, μ, ρ) a) {p f : Nat} (T : a_T a) (hn : p < a_mk a) (hk : a_nd a 0 p = 1) {c t : Nat} (ht : t < (a_rw a p).length) (hat : (a_rw a p).getD t 0 = c) (h9 : (9 : Int) ≤ f + a_nd a 2 c) (hD : f + 7 ≤ d) (hl : (a_ev a).length < 2 ^ 30) : hp_C l G yX1_dismiss (.code yX1_dismiss cX1_dismiss 4 (some .int)) d [.ref (γ 0 p), .ref (γ 0 c), .ref (γ 5 1)] (h) (fun v h' => v = some (.int (nI (a_dis f p c t a).1)) ∧ ∃ μ', KR G pr B N S h' (γ, μ', ρ) (a_dis f p c t a).2) (fun _ _ => False) := by
  have hm : (a_rw a p).getD t 0 ∈ a_rw a p := k_rc T hn ht
  rw [hat] at hm
  have hc := (T.rc hn hm).1
  have hb := T.kb hc
  have hno : ∀ j, j < t → ¬ (a_rw a p).getD j 0 = c := fun j hj => by rw [← hat]; exact k_no (T.nd hn) ht hj
  have hlt := T.rl hn
  have kE := a_k2.er a p t
  have T1 := kE.T T
  refine hp_ofV (by decide) (by simp [Value.category]) (Nat.le_of_ble_eq_true rfl) (fun M C hr hx el => ?_)
  refine hp_aload_nR C dX1_dismiss_0 rfl ?_
  refine hp_aload_nR C dX1_dismiss_1 rfl ?_
  refine hp_callV (ci := 2) C ml_X1_94 im_X1_placeOf se_X1_placeOf rfl (by decide) (kc_place (d := d - 1) K T hn hk hc ht hat hno (by omega)) (by omega) dX1_dismiss_2 (K.isK hn hk) rfl rfl (by simp [Value.category]) (fun v_2 h_2 hp => ?_) (fun _ _ hf => hf.elim)
  obtain ⟨rfl, e_2⟩ := hp
  rw [e_2]
  refine hp_istore_n C dX1_dismiss_5 (by decide) ?_
  refine hp_iload_n C dX1_dismiss_6 rfl ?_
  refine hp_if_lt (tgt := 30) C dX1_dismiss_7 (by decide) (fun z_9 => absurd z_9 (nI_pos (by omega))) (fun _ => ?_)
  refine hp_iload_n C dX1_dismiss_10 rfl ?_
  refine hp_aload_nR C dX1_dismiss_11 rfl ?_
  refine hp_get C fl_X1_14_2 dX1_dismiss_12 (K.isK hn hk) (K.f69 hn hk) ?_
  refine hp_callV (ci := 0) C ml_X1_64 im_Jx4a65c_size_8abf5 se_Jx4a65c_size_8abf5 rfl (by decide) (kc_size (d := d - 1) K hn hk) (by omega) dX1_dismiss_15 (K.isL hn hk) rfl rfl (by simp [Value.category]) (fun v_15 h_15 hp => ?_) (fun _ _ hf => hf.elim)
  obtain ⟨rfl, e_15⟩ := hp
  rw [e_15]
  refine hp_icmp_ge (tgt := 30) C dX1_dismiss_18 (by decide) (fun z_9 => absurd z_9 (nI_ge ht (by omega))) (fun _ => ?_)
  refine hp_aload_nR C dX1_dismiss_21 rfl ?_
  refine hp_get C fl_X1_14_2 dX1_dismiss_22 (K.isK hn hk) (K.f69 hn hk) ?_
  refine hp_iload_n C dX1_dismiss_25 rfl ?_
  refine hp_callV (ci := 0) C ml_X1_98 im_Jx4a65c_remove_915e3 se_Jx4a65c_remove_915e3 rfl (by decide) (kc_remove (d := d - 1) K T hn hk ht (by omega)) (by omega) dX1_dismiss_26 (K.isL hn hk) rfl rfl (by simp [Value.category]) (fun v_26 h_26 hp => ?_) (fun _ _ hf => hf.elim)
  obtain ⟨rfl, K_26⟩ := hp
  refine hp_pop C dX1_dismiss_29 rfl ?_
  refine hp_aload_nR C dX1_dismiss_30 rfl ?_
  refine hp_bipush (v := 7) C dX1_dismiss_31 (by decide) ?_
  refine hp_aload_nR C dX1_dismiss_33 rfl ?_
  refine kg_N C K_26 hc hb (by decide) fl_X1_101_2 fl_X1_101_4 dX1_dismiss_34 (K_26.f64 hc) ?_
  refine hp_iconst (v := 0) C dX1_dismiss_37 (by decide) ?_
  refine hp_callV (ci := 1) C ml_X1_58 im_X0_tell se_X0_tell rfl (by decide) (kc_tell (d := d - 1) (w := 7) (n := c) (r := 0) K_26 hl) (by omega) dX1_dismiss_38 K_26.isJ rfl rfl (by simp [Value.category]) (fun v_38 h_38 hp => ?_) (fun _ _ hf => hf.elim)
  obtain ⟨rfl, K_38⟩ := hp
  refine hp_aload_nR C dX1_dismiss_41 rfl ?_
  refine hp_callN C K_38 hc hb ul_X1_77_X1 ul_X1_77_X4 (kc_vanish f c _ _ (d - 1) K_38 T1 hc h9 (by omega)) (by omega) dX1_dismiss_42 rfl rfl (by simp [Value.category]) (fun v_42 h_42 hp => ?_)
  obtain ⟨rfl, K_42⟩ := hp
  refine hp_iret C hr rfl dX1_dismiss_45 ?_
  exact ⟨rfl, _, K_42⟩
set_option maxRecDepth 20000 in
set_option maxHeartbeats 4000000 in
theorem kc_release {l : Launch} {G : hpG} {pr : Nat → Prop} {B : hpT} {N S : Nat} {h : hpT} {γ : Nat → Nat → Nat} {μ : Nat → Int32} {ρ : Nat → List Nat} {a : aS} {d : Nat} (K : KR G pr B N S h (γ, μ, ρ) a) {p f : Nat} (T : a_T a) (hn : p < a_mk a) (hk : a_nd a 0 p = 1) {c t : Nat} (ht : t < (a_rw a p).length) (hat : (a_rw a p).getD t 0 = c) (h9 : (9 : Int) ≤ f + a_nd a 2 c) (hD : 2 * f + 8 ≤ d) (hl : (a_ev (a_rl f p c t a)).length < 2 ^ 30) : hp_C l G yX1_release (.code yX1_release cX1_release 3 none) d [.ref (γ 0 p), .ref (γ 0 c), .ref (γ 5 1)] (h) (fun v h' => v = none ∧ ∃ μ', KR G pr B N S h' (γ, μ', ρ) (a_rl f p c t a)) (fun _ _ => False) := by
  have hm : (a_rw a p).getD t 0 ∈ a_rw a p := k_rc T hn ht
  rw [hat] at hm
  have hc := (T.rc hn hm).1
  have hb := T.kb hc
  have r4 := T.r4 hc
  have k1 := a_ce_kp false f c a
  have hl1 : (a_ev (a_ce false f c a).2).length < 2 ^ 30 := by
    unfold a_rl at hl
    split at hl
    · exact Nat.lt_of_le_of_lt (a_dis_k2 f p c t _).ev hl
    · exact hl
  have hc1 : c < a_mk (a_ce false f c a).2 := by rw [k1.mk]; exact hc
  have hb1 : a_nd (a_ce false f c a).2 0 c = 0 ∨ a_nd (a_ce false f c a).2 0 c = 1 := by rw [k1.nd]; exact hb
  have e4 : a_nd (a_ce false f c a).2 4 c = a_nd a 4 c := by rw [k1.nd]
  refine hp_ofV (by decide) (by simp [Value.category]) (Nat.le_of_ble_eq_true rfl) (fun M C hr hx el => ?_)
  refine hp_aload_nR C dX1_release_0 rfl ?_
  refine hp_aload_nR C dX1_release_1 rfl ?_
  refine hp_callN C K hc hb ul_X1_84_X1 ul_X1_84_X4 (kc_fall f c _ _ (d - 1) K T hc h9 (by omega) hl1) (by omega) dX1_release_2 rfl rfl (by simp [Value.category]) (fun v_2 h_2 hp => ?_)
  obtain ⟨rfl, K_2⟩ := hp
  refine hp_aload_nR C dX1_release_5 rfl ?_
  refine kg_N C K_2 hc1 hb1 (by decide) fl_X1_87_2 fl_X1_87_4 dX1_release_6 (K_2.f67 hc1) ?_
  rw [e4]
  refine hp_iconst (v := 2) C dX1_release_9 (by decide) ?_
  refine hp_icmp_ne (tgt := 20) C dX1_release_10 (by decide) (fun c_10 => ?_) (fun c_10 => ?_)
  · have hu : ¬ a_nd a 4 c = 2 := fun e => c_10 (by rw [e]; decide)
    unfold a_rl
    rw [if_neg hu]
    refine hp_vret C hr dX1_release_20 ?_
    exact ⟨rfl, _, K_2⟩
  · have hu : a_nd a 4 c = 2 := (a_ofI_eq (x := a_nd a 4 c) (y := 2) (by omega) (by omega)).mp c_10
    unfold a_rl
    rw [if_pos hu]
    refine hp_aload_nR C dX1_release_13 rfl ?_
    refine hp_aload_nR C dX1_release_14 rfl ?_
    refine hp_aload_nR C dX1_release_15 rfl ?_
    refine hp_callV (ci := 2) C ml_X1_90 im_X1_dismiss se_X1_dismiss rfl (by decide) (kc_dismiss (d := d - 1) (f := f) (c := c) (t := t) K_2 (k1.T T) (by rw [k1.mk]; exact hn) (by rw [k1.nd]; exact hk) (by rw [k1.rw']; exact ht) (by rw [k1.rw']; exact hat) (by rw [k1.nd]; exact h9) (by omega) hl1) (by omega) dX1_release_16 (K_2.isK (by rw [k1.mk]; exact hn) (by rw [k1.nd]; exact hk)) rfl rfl (by simp [Value.category]) (fun v_16 h_16 hp => ?_) (fun _ _ hf => hf.elim)
    obtain ⟨rfl, μ1, K_16⟩ := hp
    refine hp_pop C dX1_release_19 rfl ?_
    refine hp_vret C hr dX1_release_20 ?_
    exact ⟨rfl, _, K_16⟩
set_option maxHeartbeats 4000000 in
theorem kl_rel {M : hpM} {G : hpG} {d : Nat} {h0 : hpT} {pr : Nat → Prop} {B : hpT} {N S : Nat} {γ : Nat → Nat → Nat} {ρ : Nat → List Nat} (C : hp_F M G yX1_releaseFrom cX1_releaseFrom 5 d h0) (hr : (hp_mt M).sig.returnType = none) {f p fr : Nat} (hD : 2 * f + 9 ≤ d) (hfr : fr < 2 ^ 31) {X : String → hpT → Prop} {P : Option Value → hpT → Prop} : ∀ (j : Nat) (lo : Nat → Option Value) (h : hpT) (a : aS) (μ : Nat → Int32), KR G pr B N S h (γ, μ, ρ) a → a_T a → p < a_mk a → a_nd a 0 p = 1 → (8 : Int) ≤ f + a_nd a 2 p → j ≤ (a_rw a p).length → (a_ev (a_rF f p fr j a)).length < 2 ^ 30 → lo 0 = some (.ref (γ 0 p)) → lo 1 = some (.int (nI fr)) → lo 2 = some (.ref (γ 5 1)) → lo 3 = some (.int (nI j - 1)) → (∀ h' μ', KR G pr B N S h' (γ, μ', ρ) (a_rF f p fr j a) → P none h') → hp_V M G 5 (hp_Q M G h0 P X) h 10 lo [] := by
  intro j
  induction j with
  | zero =>
    intro lo h a μ K T hn hk h8 hj hv e0 e1 e2 e3 hP
    refine hp_iload_n C dX1_releaseFrom_10 e3 ?_
    refine hp_if_lt (tgt := 54) C dX1_releaseFrom_11 (by decide) (fun _ => ?_) (fun z_9 => absurd (show (nI 0 - 1 : Int32) < 0 by decide) z_9)
    refine hp_vret C hr dX1_releaseFrom_54 ?_
    exact hP h μ K
  | succ j ih =>
    intro lo h a μ K T hn hk h8 hj hv e0 e1 e2 e3 hP
    rw [nI_pred] at e3
    have hl := T.rl hn
    have hjl : j < (a_rw a p).length := by omega
    obtain ⟨hc, -, hdep⟩ := T.rc hn (k_rc T hn hjl)
    have hb := T.kb hc
    have r3 := T.r3 hc
    refine hp_iload_n C dX1_releaseFrom_10 e3 ?_
    refine hp_if_lt (tgt := 54) C dX1_releaseFrom_11 (by decide) (fun z_9 => absurd z_9 (nI_pos (by omega))) (fun _ => ?_)
    refine hp_iload_n C dX1_releaseFrom_14 e3 ?_
    refine hp_iload_n C dX1_releaseFrom_15 e1 ?_
    refine hp_icmp_lt (tgt := 54) C dX1_releaseFrom_16 (by decide) (fun c_16 => ?_) (fun c_16 => ?_)
    · have hfj : j < fr := (nI_ltI (by omega) (by omega)).mp c_16
      have er : a_rF f p fr (j + 1) a = a := if_pos hfj
      rw [er] at hP
      refine hp_vret C hr dX1_releaseFrom_54 ?_
      exact hP h μ K
    · have hfj : ¬ j < fr := (not_congr (nI_ltI (by omega) (by omega))).mp c_16
      have er : a_rF f p fr (j + 1) a = a_rF f p fr j (if a_nd a 3 ((a_rw a p).getD j 0) = 1 then a_rl f p ((a_rw a p).getD j 0) j a else a) := if_neg hfj
      rw [er] at hv hP
      generalize hcc : (a_rw a p).getD j 0 = c at hc hdep hb r3 hv hP
      refine hp_aload_nR C dX1_releaseFrom_19 e0 ?_
      refine hp_get C fl_X1_14_2 dX1_releaseFrom_20 (K.isK hn hk) (K.f69 hn hk) ?_
      refine hp_iload_n C dX1_releaseFrom_23 e3 ?_
      refine hp_callV (ci := 0) C ml_X1_68 im_Jx4a65c_get_915e3 se_Jx4a65c_get_915e3 rfl (by decide) (kc_get (d := d - 1) K hn hk (i := j) hjl hl (by omega)) (by omega) dX1_releaseFrom_24 (K.isL hn hk) rfl rfl (by simp [Value.category]) (fun v_24 h_24 hp => ?_) (fun _ _ hf => hf.elim)
      obtain ⟨rfl, e_24⟩ := hp
      rw [e_24, hcc]
      refine kc_cast C K hc hb cl_X1_4 (by decide) (by decide) dX1_releaseFrom_27 ?_
      refine hp_astore (r := some _) C dX1_releaseFrom_30 (by decide) ?_
      refine hp_aloadR C dX1_releaseFrom_32 rfl ?_
      refine kg_N C K hc hb (by decide) fl_X1_72_2 fl_X1_72_4 dX1_releaseFrom_34 (K.f68 hc) ?_
      refine hp_iconst (v := 1) C dX1_releaseFrom_37 (by decide) ?_
      refine hp_icmp_ne (tgt := 48) C dX1_releaseFrom_38 (by decide) (fun c_38 => ?_) (fun c_38 => ?_)
      · have hu : ¬ a_nd a 3 c = 1 := fun e => c_38 (by rw [e]; decide)
        rw [if_neg hu] at hv hP
        refine hp_iinc C dX1_releaseFrom_48 e3 (by decide) rfl ?_
        refine hp_goto (tgt := 10) C dX1_releaseFrom_51 (by decide) ?_
        exact ih _ _ _ μ K T hn hk h8 (by omega) hv e0 e1 e2 ((va_up_self _ _ _).trans (by rw [k_dec])) hP
      · have hu : a_nd a 3 c = 1 := (a_ofI_eq (x := a_nd a 3 c) (y := 1) (by omega) (by omega)).mp c_38
        rw [if_pos hu] at hv hP
        refine hp_aload_nR C dX1_releaseFrom_41 e0 ?_
        refine hp_aloadR C dX1_releaseFrom_42 rfl ?_
        refine hp_aload_nR C dX1_releaseFrom_44 e2 ?_
        refine hp_callV (ci := 2) C ml_X1_102 im_X1_release se_X1_release rfl (by decide) (kc_release (d := d - 1) (f := f) (c := c) (t := j) K T hn hk hjl hcc (by rw [hdep]; omega) (by omega) (Nat.lt_of_le_of_lt (a_rF_k2 f p fr j _).ev hv)) (by omega) dX1_releaseFrom_45 (K.isK hn hk) rfl rfl (by simp [Value.category]) (fun v_45 h_45 hp => ?_) (fun _ _ hf => hf.elim)
        obtain ⟨rfl, μ1, K_45⟩ := hp
        refine hp_iinc C dX1_releaseFrom_48 e3 (by decide) rfl ?_
        refine hp_goto (tgt := 10) C dX1_releaseFrom_51 (by decide) ?_
        have k1 := a_rl_k2 f p c j a
        exact ih _ _ _ μ1 K_45 (k1.T T) (by rw [k1.mk]; exact hn) (by rw [k1.nd]; exact hk) (by rw [k1.nd]; exact h8) (by have := (a_rl_len f p c j a).1; omega) hv e0 e1 e2 ((va_up_self _ _ _).trans (by rw [k_dec])) hP
set_option maxRecDepth 20000 in
set_option maxHeartbeats 4000000 in
theorem kc_relF {l : Launch} {G : hpG} {pr : Nat → Prop} {B : hpT} {N S : Nat} {h : hpT} {γ : Nat → Nat → Nat} {μ : Nat → Int32} {ρ : Nat → List Nat} {a : aS} {d : Nat} (K : KR G pr B N S h (γ, μ, ρ) a) {p f : Nat} (T : a_T a) (hn : p < a_mk a) (hk : a_nd a 0 p = 1) {fr : Nat} (h8 : (8 : Int) ≤ f + a_nd a 2 p) (hfr : fr < 2 ^ 31) (hD : 2 * f + 9 ≤ d) (hv : (a_ev (a_rF f p fr (a_rw a p).length a)).length < 2 ^ 30) : hp_C l G yX1_releaseFrom (.code yX1_releaseFrom cX1_releaseFrom 5 none) d [.ref (γ 0 p), .int (nI fr), .ref (γ 5 1)] (h) (fun v h' => v = none ∧ ∃ μ', KR G pr B N S h' (γ, μ', ρ) (a_rF f p fr (a_rw a p).length a)) (fun _ _ => False) := by
  refine hp_ofV (by decide) (by simp [Value.category]) (Nat.le_of_ble_eq_true rfl) (fun M C hr hx el => ?_)
  refine hp_aload_nR C dX1_releaseFrom_0 rfl ?_
  refine hp_get C fl_X1_14_2 dX1_releaseFrom_1 (K.isK hn hk) (K.f69 hn hk) ?_
  refine hp_callV (ci := 0) C ml_X1_64 im_Jx4a65c_size_8abf5 se_Jx4a65c_size_8abf5 rfl (by decide) (kc_size (d := d - 1) K hn hk) (by omega) dX1_releaseFrom_4 (K.isL hn hk) rfl rfl (by simp [Value.category]) (fun v_4 h_4 hp => ?_) (fun _ _ hf => hf.elim)
  obtain ⟨rfl, e_4⟩ := hp
  rw [e_4]
  refine hp_iconst (v := 1) C dX1_releaseFrom_7 (by decide) ?_
  refine hp_isub C dX1_releaseFrom_8 ?_
  refine hp_istore_n C dX1_releaseFrom_9 (by decide) ?_
  exact kl_rel C hr hD hfr (a_rw a p).length _ h a μ K T hn hk h8 (Nat.le_refl _) hv rfl rfl rfl rfl (fun h' μ' K' => ⟨rfl, μ', K'⟩)
set_option maxRecDepth 20000 in
set_option maxHeartbeats 4000000 in
theorem kc_giveUp {l : Launch} {G : hpG} {pr : Nat → Prop} {B : hpT} {N S : Nat} {h : hpT} {κ : kS} {a : aS} {d : Nat} (K : KR G pr B N S h κ a) {p f : Nat} (T : a_T a) (hn : p < a_mk a) (hk : a_nd a 0 p = 1) (h8 : (8 : Int) ≤ f + a_nd a 2 p) (hD : 2 * f + 9 ≤ d) (hv : (a_ev (a_gu f p a)).length < 2 ^ 30) : hp_C l G yX1_giveUp (.code yX1_giveUp cX1_giveUp 2 none) d [.ref (κ.1 0 p), .ref (κ.1 5 1)] (h) (fun v h' => v = none ∧ KR G pr B N S h' κ (a_gu f p a)) (fun _ _ => False) := by
  have hv0 : (a_ev a).length < 2 ^ 30 := Nat.lt_of_le_of_lt (a_gu_kp f p a).ev hv
  have k1 := a_cR_kp (a_ce_kp false f) (a_rw a p).reverse (a_no a 6 p 0)
  have hn1 : p < a_mk (a_cR (a_ce false f) (a_rw a p).reverse (a_no a 6 p 0)).2 := by rw [k1.mk]; exact hn
  have hk1 : a_nd (a_cR (a_ce false f) (a_rw a p).reverse (a_no a 6 p 0)).2 0 p = 1 := by rw [k1.nd]; exact hk
  have X : a_lv f p (a_rw a p) (a_no a 6 p 0) := ⟨T, hn, hk, h8, rfl⟩
  refine hp_ofV (by decide) (by simp [Value.category]) (Nat.le_of_ble_eq_true rfl) (fun M C hr hx el => ?_)
  refine hp_aload_nR C dX1_giveUp_0 rfl ?_
  refine hp_bipush (v := 6) C dX1_giveUp_1 (by decide) ?_
  refine hp_aload_nR C dX1_giveUp_3 rfl ?_
  refine hp_get C fl_X1_55_2 dX1_giveUp_4 (K.isK hn hk) (K.f64 hn) ?_
  refine hp_iconst (v := 0) C dX1_giveUp_7 (by decide) ?_
  refine hp_callV (ci := 1) C ml_X1_58 im_X0_tell se_X0_tell rfl (by decide) (kc_tell (d := d - 1) (w := 6) (n := p) (r := 0) K hv0) (by omega) dX1_giveUp_8 K.isJ rfl rfl (by simp [Value.category]) (fun v_8 h_8 hp => ?_) (fun _ _ hf => hf.elim)
  obtain ⟨rfl, K_8⟩ := hp
  refine hp_aload_nR C dX1_giveUp_11 rfl ?_
  refine hp_aload_nR C dX1_giveUp_12 rfl ?_
  refine hp_callV (ci := 2) C ml_X1_44 im_X1_fallAll se_X1_fallAll rfl (by decide) (kc_fa (d := d - 1) (D := d - 2) K_8 X (by omega) (by omega) (fun c a h K T hc h9 hv => kc_fall f c a h (d - 2) K T hc h9 (by omega) hv) hv) (by omega) dX1_giveUp_13 (K_8.isK hn hk) rfl rfl (by simp [Value.category]) (fun v_13 h_13 hp => ?_) (fun _ _ hf => hf.elim)
  obtain ⟨rfl, K_13⟩ := hp
  refine hp_aload_nR C dX1_giveUp_16 rfl ?_
  refine hp_iconst (v := 0) C dX1_giveUp_17 (by decide) ?_
  refine kp_68K C K_13 hn1 hk1 fl_X1_52_2 0 (by decide) dX1_giveUp_18 (fun h_18 K_18 => ?_)
  refine hp_vret C hr dX1_giveUp_21 ?_
  exact ⟨rfl, K_18⟩
/-! ===== the restarts' times grow ===== -/
section NB
variable {g : Nat → Nat} {b : Int}
theorem k_nb_lt : ∀ L, k_nb g b L < L → (g (L - k_nb g b L - 1) : Int) < b
  | 0, h => absurd h (Nat.not_lt_zero _)
  | L + 1, h => by
    unfold k_nb at h ⊢
    split at h
    · rename_i c
      rw [if_pos c]
      exact c
    · rename_i c
      rw [if_neg c, show L + 1 - (k_nb g b L + 1) - 1 = L - k_nb g b L - 1 by omega]
      exact k_nb_lt L (by omega)
theorem k_nb_ge : ∀ L i, L - k_nb g b L ≤ i → i < L → b ≤ (g i : Int)
  | 0, i, _, h => absurd h (Nat.not_lt_zero _)
  | L + 1, i, h1, h2 => by
    unfold k_nb at h1
    split at h1
    · omega
    · rename_i c
      by_cases e : i = L
      · subst e; omega
      · exact k_nb_ge L i (by omega) (by omega)
end NB
theorem k_asc {R : List Nat} (h : R.Pairwise (· ≤ ·)) {i j : Nat} (hij : i ≤ j) (hj : j < R.length) : R.getD i 0 ≤ R.getD j 0 := by
  rw [List.getD_eq_getElem?_getD, List.getD_eq_getElem?_getD, List.getElem?_eq_getElem hj, List.getElem?_eq_getElem (show i < R.length by omega)]
  show R[i] ≤ R[j]
  by_cases e : i = j
  · subst e; exact Nat.le_refl _
  · exact (List.pairwise_iff_getElem.mp h) i j (by omega) hj (by omega)
theorem a_srt_self (a : aS) (n : Nat) : a_srt a n (a_rt a n) = a := by
  have : va_up (a_rt a) n (a_rt a n) = a_rt a := by
    funext m
    by_cases e : m = n
    · rw [e, va_up_self]
    · rw [va_up_ne _ _ e]
  unfold a_srt
  rw [this]
def k_stm (κ : kS) (n b : Nat) (R : List Nat) : kS := (va_up κ.1 4 (va_up (κ.1 4) n b), κ.2.1, va_up κ.2.2 n R)
section KRT
variable {G : hpG} {pr : Nat → Prop} {B : hpT} {N S : Nat} {h : hpT} {κ : kS} {a : aS} {n : Nat}
theorem KR.ltA (K : KR G pr B N S h κ a) {f : Nat} (ok : k_ok a f n) : k_at κ f n < hp_nx h := by
  rcases ok with ⟨h1, h2, h3⟩ | ⟨h1, h2, h3⟩ | ⟨h1, h2, h3⟩ | ⟨h1, h2, h3, h4⟩ | ⟨h1, h2, h3, h4⟩ | ⟨h1, h2, h3, h4⟩ | ⟨h1, h2, h3⟩ <;> unfold k_at
  · rw [if_pos h1]; exact (K.1.2.1 n h2 h3).1.1.2.1
  · rw [if_neg (by omega), if_pos h2]; exact K.1.2.2.2.1.1.2.1
  · rw [if_neg (by omega), if_neg (by omega), if_pos (by omega)]; exact (K.1.1 n h3).1.2.1
  · rw [if_neg (by omega), if_neg (by omega), if_pos (by omega)]; exact (K.1.1 n h3).1.2.1
  · rw [if_neg (by omega), if_neg (by omega), if_neg (by omega), if_pos (by omega)]; exact (K.1.2.1 n h3 h4).2.1.1.2.1
  · rw [if_neg (by omega), if_neg (by omega), if_neg (by omega), if_neg (by omega), if_pos (by omega)]; exact (K.1.1 n h3).1.2.1
  · rw [if_neg (by omega), if_neg (by omega), if_neg (by omega), if_neg (by omega), if_neg (by omega)]; exact K.1.2.2.1.1.2.1
/-- keeper n's times are R now, in the array b (its own, or a new one) -/
theorem KR.tms (K : KR G pr B N S h κ a) (hd : hp_dE G < hp_n0 G) (hn : n < a_mk a) (hk : a_nd a 0 n = 1) {h' : hpT} {b : Nat} {R A : List Nat} {N' S' : Nat} (hb : b = κ.1 4 n ∨ hp_nx h ≤ b) (hb0 : hp_n0 G ≤ b) (hb1 : b < hp_nx h') (hkb : hp_kd h' b = 10) (hpb : ¬ pr b)
    (e1 : hp_nx h ≤ hp_nx h') (e3 : ∀ c, c < hp_nx h → hp_kd h' c = hp_kd h c) (e4 : ∀ c, c < hp_nx h → hp_ln h' c = hp_ln h c) (hf : ∀ f c, c < hp_nx h → (f = 96 ∨ f = 97 → c ≠ κ.1 3 n) → hp_fl h' f c = hp_fl h f c) (h96 : hp_fl h' 96 (κ.1 3 n) = .ref b) (h97 : hp_fl h' 97 (κ.1 3 n) = .int (nI R.length))
    (ha : ∀ c, c < hp_nx h → c ≠ b → hp_ar h' c = hp_ar h c) (hE : ∀ i, i < R.length → hp_ar h' b i = .int (nI (R.getD i 0))) (hl : R.length ≤ hp_ln h' b ∧ 2 ≤ hp_ln h' b ∧ hp_ln h' b ≤ 16777216) (hN : hp_nx h' ≤ N') (hS : hp_sl h' + (hp_sm (k_po (hp_ln h) κ (a_nd a 0)) 0 (a_mk a) + 4 * (R.length - hp_ln h' b / 2)) ≤ S' + 4 * ((κ.2.2 n).length - hp_ln h (κ.1 4 n) / 2))
    (hT : ∃ dr, A = dr ++ R ∧ ∀ x ∈ dr, x + 1000 < a_tm a) : KR G pr B N' S' h' (k_stm κ n b R) (a_srt a n A) := by
  have is : ∀ c k, k_is G pr h c k → k_is G pr h' c k := fun c k z => ⟨⟨z.1.1, Nat.lt_of_lt_of_le z.1.2.1 e1, by rw [e3 c z.1.2.1]; exact z.1.2.2⟩, z.2⟩
  have g4n : (k_stm κ n b R).1 4 n = b := by show va_up κ.1 4 (va_up (κ.1 4) n b) 4 n = b; rw [va_up_self, va_up_self]
  have g4m : ∀ m, m ≠ n → (k_stm κ n b R).1 4 m = κ.1 4 m := fun m hm => by show va_up κ.1 4 (va_up (κ.1 4) n b) 4 m = _; rw [va_up_self, va_up_ne _ _ hm]
  have gr : ∀ r, r ≠ 4 → (k_stm κ n b R).1 r = κ.1 r := fun r hr => va_up_ne _ _ hr
  have rn : (k_stm κ n b R).2.2 n = R := va_up_self _ _ _
  have rm : ∀ m, m ≠ n → (k_stm κ n b R).2.2 m = κ.2.2 m := fun m hm => va_up_ne _ _ hm
  have hnew : ∀ r m, k_rok G κ a r m → κ.1 r m = b → r = 4 ∧ m = n := fun r m ok e => by
    rcases hb with hb | hb
    · have := K.dis hd ok (Or.inr (Or.inl ⟨rfl, hn, hk⟩)) (e.trans hb)
      exact this
    · have := (K.rkd hd ok).1.2.1
      omega
  refine ⟨⟨fun m hm => is _ _ (K.1.1 m hm), fun m hm hkm => ?_, is _ _ K.1.2.2.1, is _ _ K.1.2.2.2.1, ⟨is _ _ K.1.2.2.2.2.1.1, (e4 _ K.1.2.2.2.2.1.1.1.2.1).trans K.1.2.2.2.2.1.2⟩, fun j hj => ⟨is _ _ (K.1.2.2.2.2.2.1 j hj).1, (e4 _ (K.1.2.2.2.2.2.1 j hj).1.1.2.1).trans (K.1.2.2.2.2.2.1 j hj).2⟩, is _ _ K.1.2.2.2.2.2.2.1, (e4 _ K.1.2.2.2.2.2.2.1.1.2.1).trans K.1.2.2.2.2.2.2.2⟩, ⟨K.2.1.1, fun r q m hr hq hm hkq hkm e => ?_, fun m j hm hkm hj => ?_, K.2.1.2.2.2⟩, fun f m ok => ?_, fun r m i ok => ?_, fun c hc => ?_, ⟨hN, ?_⟩, fun m hm hkm => ?_⟩
  · obtain ⟨z1, z2, z3, z4, z5⟩ := K.1.2.1 m hm hkm
    have z5' : (a_rw a m = [] ∧ κ.1 2 m = hp_dE G) ∨ (k_is G pr h' (κ.1 2 m) 13 ∧ (a_rw a m).length ≤ hp_ln h' (κ.1 2 m)) := by
      rcases z5 with z5 | z5
      · exact Or.inl z5
      · exact Or.inr ⟨is _ _ z5.1, by rw [e4 _ z5.1.1.2.1]; exact z5.2⟩
    by_cases em : m = n
    · subst em
      rw [g4n, rn]
      exact ⟨is _ _ z1, is _ _ z2, ⟨⟨hb0, hb1, hkb⟩, hpb⟩, hl, z5'⟩
    · rw [g4m m em, rm m em]
      exact ⟨is _ _ z1, is _ _ z2, is _ _ z3, by rw [e4 _ z3.1.2.1]; exact z4, z5'⟩
  · by_cases er : r = 4
    · subst er
      by_cases eq : q = n
      · by_cases em : m = n
        · rw [eq, em]
        · subst eq
          rw [g4n, g4m m em] at e
          exact absurd (hnew 4 m (Or.inr (Or.inl ⟨rfl, hm, hkm⟩)) e.symm).2 em
      · by_cases em : m = n
        · subst em
          rw [g4n, g4m q eq] at e
          exact absurd (hnew 4 q (Or.inr (Or.inl ⟨rfl, hq, hkq⟩)) e).2 eq
        · rw [g4m q eq, g4m m em] at e
          exact K.2.1.2.1 4 q m (Or.inr (Or.inr (Or.inl rfl))) hq hm hkq hkm e
    · rw [gr r er] at e
      refine K.2.1.2.1 r q m ?_ hq hm hkq hkm e
      rcases hr with z | z | z | z
      · exact Or.inl z
      · exact Or.inr (Or.inl z)
      · exact absurd z er
      · exact Or.inr (Or.inr (Or.inr z))
  · have h5 : (k_stm κ n b R).1 5 (3 + j) = κ.1 5 (3 + j) := by rw [gr 5 (by decide)]
    rw [h5]
    by_cases em : m = n
    · subst em
      rw [g4n]
      intro z
      have := (hnew 5 (3 + j) (Or.inr (Or.inr (Or.inr (Or.inl ⟨rfl, by omega, by omega⟩)))) z.symm).1
      omega
    · rw [g4m m em]
      exact K.2.1.2.2.1 m j hm hkm hj
  · have ea : k_at (k_stm κ n b R) f m = k_at κ f m := rfl
    have ok' : k_ok a f m := ok
    rw [ea]
    by_cases e6 : f = 96
    · subst e6
      have hm : m < a_mk a ∧ a_nd a 0 m = 1 := by
        rcases ok' with ⟨z1, -⟩ | ⟨-, z1, -⟩ | ⟨-, z1, -⟩ | ⟨-, z1, -⟩ | ⟨-, -, z3, z4⟩ | ⟨z1, -⟩ | ⟨z1, -⟩ <;> first | exact ⟨z3, z4⟩ | omega
      show hp_fl h' 96 (κ.1 3 m) = Value.ref ((k_stm κ n b R).1 4 m)
      by_cases em : m = n
      · subst em; rw [h96, g4n]
      · rw [hf 96 _ (K.isR hm.1 hm.2).2.1 (fun _ z => em (K.2.1.2.1 3 m n (Or.inr (Or.inl rfl)) hm.1 hn hm.2 hk z)), g4m m em]
        exact K.f96 hm.1 hm.2
    · by_cases e7 : f = 97
      · subst e7
        have hm : m < a_mk a ∧ a_nd a 0 m = 1 := by
          rcases ok' with ⟨z1, -⟩ | ⟨-, z1, -⟩ | ⟨-, z1, -⟩ | ⟨-, z1, -⟩ | ⟨-, -, z3, z4⟩ | ⟨z1, -⟩ | ⟨z1, -⟩ <;> first | exact ⟨z3, z4⟩ | omega
        show hp_fl h' 97 (κ.1 3 m) = Value.int (nI ((k_stm κ n b R).2.2 m).length)
        by_cases em : m = n
        · subst em; rw [h97, rn]
        · rw [hf 97 _ (K.isR hm.1 hm.2).2.1 (fun _ z => em (K.2.1.2.1 3 m n (Or.inr (Or.inl rfl)) hm.1 hn hm.2 hk z)), rm m em]
          exact K.f97 hm.1 hm.2
      · rw [hf f _ (K.ltA ok') (fun z => by omega), K.V f m ok']
        unfold k_fv
        by_cases e : k_isN f = true
        · rw [if_pos e, if_pos e]; rfl
        · rw [if_neg e, if_neg e]
          unfold k_fo
          simp only [e6, e7, if_false]
          rfl
  · by_cases er : r = 4 ∧ m = n
    · obtain ⟨rfl, rfl⟩ := er
      have hi : i < R.length := by
        rcases ok with ⟨z, -⟩ | ⟨-, -, -, z⟩ | ⟨z, -⟩ | ⟨z, -⟩ | ⟨z, -⟩ <;> first | (have z' : i < ((k_stm κ m b R).2.2 m).length := z; rw [rn] at z'; exact z') | omega
      rw [g4n, hE i hi]
      show _ = Value.int (nI (((k_stm κ m b R).2.2 m).getD i 0))
      rw [rn]
    · have ok' : k_aok κ a r m i := by
        rcases ok with z | ⟨z1, z2, z3, z4⟩ | z
        · exact Or.inl z
        · exact Or.inr (Or.inl ⟨z1, z2, z3, by have z4' : i < ((k_stm κ n b R).2.2 m).length := z4; rw [rm m (fun z => er ⟨z1, z⟩)] at z4'; exact z4'⟩)
        · exact Or.inr (Or.inr z)
      have rk := K.rok ok'
      have hg : (k_stm κ n b R).1 r m = κ.1 r m := by
        by_cases e4' : r = 4
        · subst e4'; exact g4m m (fun z => er ⟨rfl, z⟩)
        · rw [gr r e4']
      rw [hg, ha _ (K.rkd hd rk).1.2.1 (fun z => er (hnew r m rk z)), K.A r m i ok']
      by_cases e4' : r = 4
      · subst e4'
        show Value.int (nI ((κ.2.2 m).getD i 0)) = Value.int (nI (((k_stm κ n b R).2.2 m).getD i 0))
        rw [rm m (fun z => er ⟨rfl, z⟩)]
      · unfold k_av
        rw [if_neg e4', if_neg e4']
        rfl
  · obtain ⟨y1, y2, y3, y4, y5⟩ := K.2.2.2.2.1 c hc
    have hc1 : c ≠ κ.1 3 n := fun z => (K.1.2.1 n hn hk).2.1.2 (z ▸ hc)
    have hc2 : c ≠ b := fun z => hpb (z ▸ hc)
    exact ⟨Nat.lt_of_lt_of_le y1 e1, (e3 c y1).trans y2, (e4 c y1).trans y3, fun f => (hf f c y1 (fun _ => hc1)).trans (y4 f), (ha c y1 hc2).trans y5⟩
  · have hp : hp_sm (k_po (hp_ln h') (k_stm κ n b R) (a_nd a 0)) 0 (a_mk a) + k_po (hp_ln h) κ (a_nd a 0) n = hp_sm (k_po (hp_ln h) κ (a_nd a 0)) 0 (a_mk a) + k_po (hp_ln h') (k_stm κ n b R) (a_nd a 0) n := by
      have q := hp_sm_up (f := fun m => if m < a_mk a then k_po (hp_ln h') (k_stm κ n b R) (a_nd a 0) m else 0) (g := fun m => if m < a_mk a then k_po (hp_ln h) κ (a_nd a 0) m else 0) (q := n) (a_mk a) 0 (Nat.zero_le _) (by omega) (fun i hi => by
        by_cases c : i < a_mk a
        · rw [if_pos c, if_pos c]
          unfold k_po
          by_cases c2 : a_nd a 0 i = 1
          · rw [if_pos c2, if_pos c2, g4m i hi, rm i hi, e4 _ (K.isI c c2).1.2.1]
          · rw [if_neg c2, if_neg c2]
        · rw [if_neg c, if_neg c])
      rw [hp_sm_congr (g := k_po (hp_ln h') (k_stm κ n b R) (a_nd a 0)) (a_mk a) 0 (fun i _ hi => if_pos (by omega)), hp_sm_congr (f := fun m => if m < a_mk a then k_po (hp_ln h) κ (a_nd a 0) m else 0) (g := k_po (hp_ln h) κ (a_nd a 0)) (a_mk a) 0 (fun i _ hi => if_pos (by omega))] at q
      simp only [if_pos hn] at q
      exact q
    have p1 : k_po (hp_ln h) κ (a_nd a 0) n = 4 * ((κ.2.2 n).length - hp_ln h (κ.1 4 n) / 2) := if_pos hk
    have p2 : k_po (hp_ln h') (k_stm κ n b R) (a_nd a 0) n = 4 * (R.length - hp_ln h' b / 2) := by
      unfold k_po
      rw [if_pos hk, g4n, rn]
    show hp_sl h' + hp_sm (k_po (hp_ln h') (k_stm κ n b R) (a_nd a 0)) 0 (a_mk a) ≤ S'
    omega
  · by_cases em : m = n
    · subst em
      obtain ⟨dr, y1, y2⟩ := hT
      refine ⟨dr, ?_, y2⟩
      show va_up (a_rt a) m A m = dr ++ (k_stm κ m b R).2.2 m
      rw [va_up_self, rn, y1]
    · obtain ⟨dr, y1, y2⟩ := K.2.2.2.2.2.2 m hm hkm
      refine ⟨dr, ?_, y2⟩
      show va_up (a_rt a) n A m = dr ++ (k_stm κ n b R).2.2 m
      rw [va_up_ne _ _ em, rm m em]
      exact y1
theorem hp_sm_one {f : Nat → Nat} {q : Nat} : ∀ (n b : Nat), b ≤ q → q < b + n → f q ≤ hp_sm f b n
  | 0, b, h1, h2 => by omega
  | n + 1, b, h1, h2 => by
    show f q ≤ f b + hp_sm f (b + 1) n
    by_cases e : b = q
    · subst e; exact Nat.le_add_right _ _
    · have := hp_sm_one (f := f) (q := q) n (b + 1) (by omega) (by omega)
      omega
/-- the row of times is no longer than the room has slots -/
theorem KR.tl (K : KR G pr B N S h κ a) (hn : n < a_mk a) (hk : a_nd a 0 n = 1) : hp_sl h + 4 * ((κ.2.2 n).length - hp_ln h (κ.1 4 n) / 2) ≤ S := by
  have h1 := K.2.2.2.2.2.1.2
  have h2 := hp_sm_one (f := k_po (hp_ln h) κ (a_nd a 0)) (q := n) (a_mk a) 0 (Nat.zero_le _) (by omega)
  have p1 : k_po (hp_ln h) κ (a_nd a 0) n = 4 * ((κ.2.2 n).length - hp_ln h (κ.1 4 n) / 2) := if_pos hk
  omega
end KRT
/-! ===== makeRoom, add ===== -/
theorem k_div2 {L : Nat} (h : L < 2 ^ 30) : nI L / 2 = nI (L / 2) := by
  have e1 := nI_toInt (n := L) (by omega)
  have e2 := nI_toInt (n := L / 2) (by omega)
  have e3 : (2 : Int32).toInt = 2 := by decide
  refine Int32.toInt_inj.mp ?_
  rw [Int32.toInt_div_of_ne_right _ _ (by decide), e1, e2, e3]
  rw [Int.tdiv_eq_ediv_of_nonneg (by omega)]
  omega
section KRO
variable {G : hpG} {pr : Nat → Prop} {B : hpT} {N S : Nat} {h : hpT} {κ : kS} {a : aS} {n : Nat}
/-- what is not kept is older than any t reaches -/
theorem k_drop (K : KR G pr B N S h κ a) (AA : a_A a) (hn : n < a_mk a) (hk : a_nd a 0 n = 1) {q : Nat} (hq : k_nb (fun i => (κ.2.2 n).getD i 0) ((a_tm a : Int) - 1000) (κ.2.2 n).length = q) : ∃ dr, a_rt a n = dr ++ (κ.2.2 n).drop ((κ.2.2 n).length - q) ∧ ∀ x ∈ dr, x + 1000 < a_tm a := by
  obtain ⟨dr, y1, y2⟩ := K.2.2.2.2.2.2 n hn hk
  have ap : (κ.2.2 n).Pairwise (· ≤ ·) := by
    have := (AA n hn).1
    rw [y1] at this
    exact (List.pairwise_append.mp this).2.1
  refine ⟨dr ++ (κ.2.2 n).take ((κ.2.2 n).length - q), by rw [List.append_assoc, List.take_append_drop, y1], fun x hx => ?_⟩
  rcases List.mem_append.mp hx with hx | hx
  · exact y2 x hx
  · obtain ⟨i, hi, ex⟩ := List.getElem_of_mem hx
    rw [List.length_take] at hi
    rw [List.getElem_take] at ex
    have hle := k_nb_le (fun i => (κ.2.2 n).getD i 0) ((a_tm a : Int) - 1000) (κ.2.2 n).length
    have h1 := k_nb_lt (g := fun i => (κ.2.2 n).getD i 0) (b := (a_tm a : Int) - 1000) (κ.2.2 n).length (by omega)
    rw [hq] at h1
    have h2 := k_asc ap (i := i) (j := (κ.2.2 n).length - q - 1) (by omega) (by omega)
    have h3 : (κ.2.2 n).getD i 0 = x := by
      rw [List.getD_eq_getElem?_getD, List.getElem?_eq_getElem (by omega), ← ex]
      rfl
    have h1' : (((κ.2.2 n).getD ((κ.2.2 n).length - q - 1) 0 : Nat) : Int) < (a_tm a : Int) - 1000 := h1
    omega
theorem k_dropL {R : List Nat} {q : Nat} (h : q ≤ R.length) : (R.drop (R.length - q)).length = q := by rw [List.length_drop]; omega
theorem k_dropD {R : List Nat} {k i : Nat} : (R.drop k).getD i 0 = R.getD (k + i) 0 := by rw [List.getD_eq_getElem?_getD, List.getD_eq_getElem?_getD, List.getElem?_drop]
theorem KR.nxp (K : KR G pr B N S h κ a) : ¬ pr (hp_nx h) := fun z => Nat.lt_irrefl _ (K.2.2.2.2.1 _ z).1
/-- the last q times, in place -/
theorem KR.mrB (K : KR G pr B N S h κ a) (AA : a_A a) (hd : hp_dE G < hp_n0 G) (hn : n < a_mk a) (hk : a_nd a 0 n = 1) {q : Nat} (hq : k_nb (fun i => (κ.2.2 n).getD i 0) ((a_tm a : Int) - 1000) (κ.2.2 n).length = q) :
    KR G pr B N S (hp_put (hp_put (hp_cpy h (κ.1 4 n) (κ.1 4 n) ((κ.2.2 n).length - q) 0 q) 96 (κ.1 3 n) (.ref (κ.1 4 n))) 97 (κ.1 3 n) (.int (nI q))) (k_stm κ n (κ.1 4 n) ((κ.2.2 n).drop ((κ.2.2 n).length - q))) a := by
  have hle := k_nb_le (fun i => (κ.2.2 n).getD i 0) ((a_tm a : Int) - 1000) (κ.2.2 n).length
  rw [hq] at hle
  have hI := K.isI hn hk
  have ef : ∀ f c, hp_fl (hp_put (hp_put (hp_cpy h (κ.1 4 n) (κ.1 4 n) ((κ.2.2 n).length - q) 0 q) 96 (κ.1 3 n) (.ref (κ.1 4 n))) 97 (κ.1 3 n) (.int (nI q))) f c = va_up (va_up (hp_fl h) 96 (va_up (hp_fl h 96) (κ.1 3 n) (.ref (κ.1 4 n)))) 97 (va_up (va_up (hp_fl h) 96 (va_up (hp_fl h 96) (κ.1 3 n) (.ref (κ.1 4 n))) 97) (κ.1 3 n) (.int (nI q))) f c := fun _ _ => rfl
  have ea : ∀ c, hp_ar (hp_put (hp_put (hp_cpy h (κ.1 4 n) (κ.1 4 n) ((κ.2.2 n).length - q) 0 q) 96 (κ.1 3 n) (.ref (κ.1 4 n))) 97 (κ.1 3 n) (.int (nI q))) c = va_up (hp_ar h) (κ.1 4 n) (va_cpy (hp_ar h (κ.1 4 n)) (hp_ar h (κ.1 4 n)) ((κ.2.2 n).length - q) 0 q) c := fun _ => rfl
  have hK := K.tms (A := a_rt a n) (N' := N) (S' := S) hd hn hk (Or.inl rfl) hI.1.1 hI.1.2.1 hI.1.2.2 (K.1.2.1 n hn hk).2.2.1.2 (h' := hp_put (hp_put (hp_cpy h (κ.1 4 n) (κ.1 4 n) ((κ.2.2 n).length - q) 0 q) 96 (κ.1 3 n) (.ref (κ.1 4 n))) 97 (κ.1 3 n) (.int (nI q))) (R := (κ.2.2 n).drop ((κ.2.2 n).length - q)) (Nat.le_refl _) (fun _ _ => rfl) (fun _ _ => rfl) (fun f c _ hfc => ?_) ?_ ?_ (fun c _ hc => ?_) (fun i hi => ?_) ⟨?_, K.isI2 hn hk⟩ K.2.2.2.2.2.1.1 ?_ (k_drop K AA hn hk hq)
  · rw [a_srt_self] at hK
    exact hK
  · rw [ef]
    by_cases e7 : f = 97
    · rw [e7, va_up_self, va_up_ne _ _ (hfc (Or.inr e7)), va_up_ne _ _ (by decide)]
    · rw [va_up_ne _ _ e7]
      by_cases e6 : f = 96
      · rw [e6, va_up_self, va_up_ne _ _ (hfc (Or.inl e6))]
      · rw [va_up_ne _ _ e6]
  · rw [ef, va_up_ne _ _ (by decide), va_up_self, va_up_self]
  · rw [ef, va_up_self, va_up_self, k_dropL hle]
  · rw [ea, va_up_ne _ _ hc]
  · rw [k_dropL hle] at hi
    rw [ea, va_up_self, k_dropD]
    unfold va_cpy
    rw [if_pos (by omega), Nat.sub_zero]
    exact K.tim hn hk (by omega)
  · rw [k_dropL hle]
    have := hI.2
    show q ≤ hp_ln h (κ.1 4 n)
    omega
  · rw [k_dropL hle]
    have h1 := K.2.2.2.2.2.1.2
    show hp_sl h + (_ + 4 * (q - hp_ln h (κ.1 4 n) / 2)) ≤ _
    omega
/-- the last q times, in a row of twice the length -/
theorem KR.mrA (K : KR G pr B N S h κ a) (hSS : S ≤ hp_LS) (AA : a_A a) (hd : hp_dE G < hp_n0 G) (hn : n < a_mk a) (hk : a_nd a 0 n = 1) (hful : (κ.2.2 n).length = hp_ln h (κ.1 4 n)) {q : Nat} (hq : k_nb (fun i => (κ.2.2 n).getD i 0) ((a_tm a : Int) - 1000) (κ.2.2 n).length = q) :
    KR G pr B (N + 1) S (hp_put (hp_put (hp_cpy (hp_mkA h 0 (hp_ln h (κ.1 4 n) * 2) (.int 0)) (κ.1 4 n) (hp_nx h) ((κ.2.2 n).length - q) 0 q) 96 (κ.1 3 n) (.ref (hp_nx h))) 97 (κ.1 3 n) (.int (nI q))) (k_stm κ n (hp_nx h) ((κ.2.2 n).drop ((κ.2.2 n).length - q))) a := by
  have hle := k_nb_le (fun i => (κ.2.2 n).getD i 0) ((a_tm a : Int) - 1000) (κ.2.2 n).length
  rw [hq] at hle
  have hI := K.isI hn hk
  have hI2 := K.isI2 hn hk
  have hlt := hI.1.2.1
  have hn0 : hp_n0 G ≤ hp_nx h := by have := hI.1.1; omega
  generalize hH : hp_put (hp_put (hp_cpy (hp_mkA h 0 (hp_ln h (κ.1 4 n) * 2) (.int 0)) (κ.1 4 n) (hp_nx h) ((κ.2.2 n).length - q) 0 q) 96 (κ.1 3 n) (.ref (hp_nx h))) 97 (κ.1 3 n) (.int (nI q)) = H
  have ef : ∀ f c, hp_fl H f c = va_up (va_up (hp_fl h) 96 (va_up (hp_fl h 96) (κ.1 3 n) (.ref (hp_nx h)))) 97 (va_up (va_up (hp_fl h) 96 (va_up (hp_fl h 96) (κ.1 3 n) (.ref (hp_nx h))) 97) (κ.1 3 n) (.int (nI q))) f c := fun _ _ => by rw [← hH]; rfl
  have ea : ∀ c, hp_ar H c = va_up (va_up (hp_ar h) (hp_nx h) (fun _ => .int 0)) (hp_nx h) (va_cpy (va_up (hp_ar h) (hp_nx h) (fun _ => .int 0) (κ.1 4 n)) (va_up (hp_ar h) (hp_nx h) (fun _ => .int 0) (hp_nx h)) ((κ.2.2 n).length - q) 0 q) c := fun _ => by rw [← hH]; rfl
  have ek : ∀ c, hp_kd H c = va_up (hp_kd h) (hp_nx h) 10 c := fun _ => by rw [← hH]; rfl
  have el : ∀ c, hp_ln H c = va_up (hp_ln h) (hp_nx h) (hp_ln h (κ.1 4 n) * 2) c := fun _ => by rw [← hH]; rfl
  have en : hp_nx H = hp_nx h + 1 := by rw [← hH]; rfl
  have es : hp_sl H = hp_sl h + hp_ln h (κ.1 4 n) * 2 := by rw [← hH]; rfl
  have hK := K.tms (h' := H) (b := hp_nx h) (A := a_rt a n) (N' := N + 1) (S' := S) (R := (κ.2.2 n).drop ((κ.2.2 n).length - q)) hd hn hk (Or.inr (Nat.le_refl _)) hn0 (by rw [en]; omega) (by rw [ek, va_up_self]) K.nxp (by rw [en]; omega) (fun c hc => by rw [ek, va_up_ne _ _ (by omega)]) (fun c hc => by rw [el, va_up_ne _ _ (by omega)]) (fun f c _ hfc => ?_) ?_ ?_ (fun c hc _ => ?_) (fun i hi => ?_) ⟨?_, ?_⟩ (by rw [en]; have := K.2.2.2.2.2.1.1; omega) ?_ (k_drop K AA hn hk hq)
  · rw [a_srt_self] at hK
    exact hK
  · rw [ef]
    by_cases e7 : f = 97
    · rw [e7, va_up_self, va_up_ne _ _ (hfc (Or.inr e7)), va_up_ne _ _ (by decide)]
    · rw [va_up_ne _ _ e7]
      by_cases e6 : f = 96
      · rw [e6, va_up_self, va_up_ne _ _ (hfc (Or.inl e6))]
      · rw [va_up_ne _ _ e6]
  · rw [ef, va_up_ne _ _ (by decide), va_up_self, va_up_self]
  · rw [ef, va_up_self, va_up_self, k_dropL hle]
  · rw [ea, va_up_ne _ _ (by omega), va_up_ne _ _ (by omega)]
  · rw [k_dropL hle] at hi
    rw [ea, va_up_self, k_dropD]
    unfold va_cpy
    rw [if_pos (by omega), Nat.sub_zero, va_up_ne _ _ (by omega)]
    exact K.tim hn hk (by omega)
  · rw [k_dropL hle, el, va_up_self]
    omega
  · rw [el, va_up_self]
    have hL := K.tl hn hk
    have hLS : hp_LS = 7290000 := rfl
    omega
  · rw [k_dropL hle, el, va_up_self, es]
    have h1 := K.2.2.2.2.2.1.2
    omega
/-- a time is added behind -/
theorem KR.mad (K : KR G pr B N S h κ a) (hd : hp_dE G < hp_n0 G) (hn : n < a_mk a) (hk : a_nd a 0 n = 1) (hl : (κ.2.2 n).length < hp_ln h (κ.1 4 n)) {t : Nat} :
    KR G pr B N (S + 4) (hp_put (hp_set h (κ.1 4 n) (κ.2.2 n).length (.int (nI t))) 97 (κ.1 3 n) (.int (nI ((κ.2.2 n).length + 1)))) (k_stm κ n (κ.1 4 n) (κ.2.2 n ++ [t])) (a_srt a n (a_rt a n ++ [t])) := by
  have hI := K.isI hn hk
  have el : (κ.2.2 n ++ [t]).length = (κ.2.2 n).length + 1 := by rw [List.length_append]; rfl
  refine K.tms hd hn hk (Or.inl rfl) hI.1.1 hI.1.2.1 hI.1.2.2 (K.1.2.1 n hn hk).2.2.1.2 (Nat.le_refl _) (fun _ _ => rfl) (fun _ _ => rfl) (fun f c _ hfc => ?_) ?_ ?_ (fun c _ hc => ?_) (fun i hi => ?_) ⟨by rw [el]; exact hl, K.isI2 hn hk⟩ K.2.2.2.2.2.1.1 ?_ ?_
  · show va_up (hp_fl h) 97 (va_up (hp_fl h 97) (κ.1 3 n) _) f c = _
    by_cases e7 : f = 97
    · rw [e7, va_up_self, va_up_ne _ _ (hfc (Or.inr e7))]
    · rw [va_up_ne _ _ e7]
  · exact K.f96 hn hk
  · show va_up (hp_fl h) 97 (va_up (hp_fl h 97) (κ.1 3 n) _) 97 (κ.1 3 n) = _
    rw [va_up_self, va_up_self, el]
  · show va_up (hp_ar h) (κ.1 4 n) _ c = _
    rw [va_up_ne _ _ hc]
  · rw [el] at hi
    show va_up (hp_ar h) (κ.1 4 n) (va_up (hp_ar h (κ.1 4 n)) (κ.2.2 n).length (.int (nI t))) (κ.1 4 n) i = _
    rw [va_up_self]
    by_cases e : i = (κ.2.2 n).length
    · subst e
      rw [va_up_self, List.getD_eq_getElem?_getD, List.getElem?_append_right (Nat.le_refl _), Nat.sub_self]
      rfl
    · rw [va_up_ne _ _ e, List.getD_eq_getElem?_getD, List.getElem?_append_left (by omega), ← List.getD_eq_getElem?_getD]
      exact K.tim hn hk (by omega)
  · rw [el]
    have h1 := K.2.2.2.2.2.1.2
    show hp_sl h + (_ + 4 * ((κ.2.2 n).length + 1 - hp_ln h (κ.1 4 n) / 2)) ≤ _
    omega
  · obtain ⟨dr, y1, y2⟩ := K.2.2.2.2.2.2 n hn hk
    exact ⟨dr, by rw [y1, List.append_assoc], y2⟩
end KRO
theorem k_small {G : hpG} {pr : Nat → Prop} {B : hpT} {N S : Nat} {h : hpT} {κ : kS} {a : aS} {n : Nat} (K : KR G pr B N S h κ a) (AA : a_A a) (hn : n < a_mk a) (hk : a_nd a 0 n = 1) (htm : a_tm a < 2 ^ 30) : ∀ i, i < (κ.2.2 n).length → (κ.2.2 n).getD i 0 < 2 ^ 31 := by
  intro i hi
  obtain ⟨dr, y1, y2⟩ := K.2.2.2.2.2.2 n hn hk
  have hm : (κ.2.2 n).getD i 0 ∈ a_rt a n := by
    rw [y1, List.getD_eq_getElem?_getD, List.getElem?_eq_getElem hi]
    exact List.mem_append_right _ (List.getElem_mem hi)
  have := (AA n hn).2 _ hm
  omega
theorem k_more {G : hpG} {pr : Nat → Prop} {B : hpT} {N N' S : Nat} {h : hpT} {κ : kS} {a : aS} (K : KR G pr B N S h κ a) (hN : N ≤ N') : KR G pr B N' S h κ a := ⟨K.1, K.2.1, K.2.2.1, K.2.2.2.1, K.2.2.2.2.1, ⟨Nat.le_trans K.2.2.2.2.2.1.1 hN, K.2.2.2.2.2.1.2⟩, K.2.2.2.2.2.2⟩
set_option maxRecDepth 20000 in
set_option maxHeartbeats 4000000 in
theorem kc_room {l : Launch} {G : hpG} {pr : Nat → Prop} {B : hpT} {N S : Nat} {h : hpT} {κ : kS} {a : aS} {d : Nat} (K : KR G pr B N S h κ a) {n : Nat} {b : Int32} (AA : a_A a) (hn : n < a_mk a) (hk : a_nd a 0 n = 1) (htm : a_tm a < 2 ^ 30) (hful : (κ.2.2 n).length = hp_ln h (κ.1 4 n)) (hb : b.toInt = (a_tm a : Int) - 1000) (hN : N + 1 ≤ hp_n0 G + hp_LC) (hS : S ≤ hp_LS) (hd : 1 ≤ d) : hp_C l G yX3_makeRoom (.code yX3_makeRoom cX3_makeRoom 4 none) d [.ref (κ.1 3 n), .int b] (h) (fun v h' => v = none ∧ ∃ γ' ρ', KR G pr B (N + 1) S h' (γ', κ.2.1, ρ') a ∧ (ρ' n).length < hp_ln h' (γ' 4 n) ∧ ∀ r, r ≠ 4 → γ' r = κ.1 r) (fun _ _ => False) := by
  have hs : ∀ i, i < (κ.2.2 n).length → (κ.2.2 n).getD i 0 < 2 ^ 31 := k_small K AA hn hk htm
  have hI := K.isI hn hk
  have hI2 := K.isI2 hn hk
  have hL := K.tl hn hk
  have hLS : hp_LS = 7290000 := rfl
  have hlen : hp_ln h (κ.1 4 n) ≤ hp_LS := by omega
  have hle := k_nb_le (fun i => (κ.2.2 n).getD i 0) ((a_tm a : Int) - 1000) (κ.2.2 n).length
  refine hp_ofV (by decide) (by simp [Value.category]) (Nat.le_of_ble_eq_true rfl) (fun M C hr hx el => ?_)
  refine hp_aload_nR C dX3_makeRoom_0 rfl ?_
  refine hp_iload_n C dX3_makeRoom_1 rfl ?_
  refine hp_callV (ci := 3) C ml_X3_23 im_X3_notBefore se_X3_notBefore rfl (by decide) (kc_nb (d := d - 1) K hn hk hs (by omega)) (by omega) dX3_makeRoom_2 (K.isR hn hk) rfl rfl (by simp [Value.category]) (fun v_2 h_2 hp => ?_) (fun _ _ hf => hf.elim)
  rw [hb] at hp
  obtain ⟨rfl, e_2⟩ := hp
  rw [e_2]
  generalize hq : k_nb (fun i => (κ.2.2 n).getD i 0) ((a_tm a : Int) - 1000) (κ.2.2 n).length = q at hle
  have hle2 : q ≤ (κ.2.2 n).length := hle
  refine hp_istore_n C dX3_makeRoom_5 (by decide) ?_
  refine hp_iload_n C dX3_makeRoom_6 rfl ?_
  refine hp_aload_nR C dX3_makeRoom_7 rfl ?_
  refine hp_get C fl_X3_9_3 dX3_makeRoom_8 (K.isR hn hk) (K.f96 hn hk) ?_
  refine hp_alen C 0 rfl (by decide) dX3_makeRoom_11 hI.1 ?_
  refine hp_iconst (v := 2) C dX3_makeRoom_12 (by decide) ?_
  refine hp_idiv C dX3_makeRoom_13 (by decide) ?_
  rw [k_div2 (by omega)]
  refine hp_icmp_le (tgt := 29) C dX3_makeRoom_14 (by decide) (fun c_14 => ?_) (fun c_14 => ?_)
  · refine hp_aload_nR C dX3_makeRoom_29 rfl ?_
    refine hp_get C fl_X3_9_3 dX3_makeRoom_30 (K.isR hn hk) (K.f96 hn hk) ?_
    have hqs : q ≤ hp_ln h (κ.1 4 n) / 2 := (nI_leI (by omega) (by omega)).mp c_14
    refine hp_astore_n (r := some _) C dX3_makeRoom_33 (by decide) ?_
    refine hp_aload_nR C dX3_makeRoom_34 rfl ?_
    refine hp_get C fl_X3_9_3 dX3_makeRoom_35 (K.isR hn hk) (K.f96 hn hk) ?_
    refine hp_aload_nR C dX3_makeRoom_38 rfl ?_
    refine hp_get C fl_X3_15_3 dX3_makeRoom_39 (K.isR hn hk) (K.f97 hn hk) ?_
    refine hp_iload_n C dX3_makeRoom_42 rfl ?_
    refine hp_isub C dX3_makeRoom_43 ?_
    rw [k_sub hle2 (by omega)]
    refine hp_aload_nR C dX3_makeRoom_44 rfl ?_
    refine hp_iconst (v := 0) C dX3_makeRoom_45 (by decide) ?_
    refine hp_iload_n C dX3_makeRoom_46 rfl ?_
    refine hp_copyI (dp := 0) C ac_X3_27 (by omega) hI.1 hI.1 ?_ ?_ (by omega) (by omega) (fun i hi => ?_) (by simp [Value.category]) dX3_makeRoom_47 ?_
    · omega
    · omega
    · exact ⟨_, K.tim hn hk (by omega)⟩
    · refine hp_aload_nR C dX3_makeRoom_50 rfl ?_
      refine hp_aload_nR C dX3_makeRoom_51 rfl ?_
      refine hp_putf C fl_X3_9_3 rfl rfl rfl dX3_makeRoom_52 (K.isR hn hk) ?_
      refine hp_aload_nR C dX3_makeRoom_55 rfl ?_
      refine hp_iload_n C dX3_makeRoom_56 rfl ?_
      refine hp_putf C fl_X3_15_3 rfl rfl rfl dX3_makeRoom_57 (K.isR hn hk) ?_
      refine hp_vret C hr dX3_makeRoom_60 ?_
      refine ⟨rfl, _, _, k_more (K.mrB AA (hp_dlt C) hn hk hq) (Nat.le_succ N), ?_, fun r hr => va_up_ne _ _ hr⟩
      show (va_up κ.2.2 n ((κ.2.2 n).drop ((κ.2.2 n).length - q)) n).length < hp_ln h (va_up κ.1 4 (va_up (κ.1 4) n (κ.1 4 n)) 4 n)
      rw [va_up_self, va_up_self, va_up_self, k_dropL hle]
      omega
  · refine hp_aload_nR C dX3_makeRoom_17 rfl ?_
    refine hp_get C fl_X3_9_3 dX3_makeRoom_18 (K.isR hn hk) (K.f96 hn hk) ?_
    refine hp_alen C 0 rfl (by decide) dX3_makeRoom_21 hI.1 ?_
    refine hp_iconst (v := 2) C dX3_makeRoom_22 (by decide) ?_
    refine hp_imul C dX3_makeRoom_23 ?_
    rw [show (2 : Int32) = nI 2 from rfl, pk_mul]
    refine hp_newa C 0 (atype := .int) (ty := .int) (N := hp_ln h (κ.1 4 n) * 2) rfl rfl (fun U hU => hU) (by decide) ac_int dX3_makeRoom_24 (nI_pos (by omega)) (nI_clamp (by omega)) (by show _ * 4 ≤ _; omega) (by have := K.2.2.2.2.2.1.1; omega) (by omega) ?_
    refine hp_goto (tgt := 33) C dX3_makeRoom_26 (by decide) ?_
    have hn0 : hp_n0 G ≤ hp_nx h := by have := hI.1.1; have := hI.1.2.1; omega
    have hlt : κ.1 4 n < hp_nx h := hI.1.2.1
    refine hp_astore_n (r := some _) C dX3_makeRoom_33 (by decide) ?_
    refine hp_aload_nR C dX3_makeRoom_34 rfl ?_
    refine hp_get C fl_X3_9_3 dX3_makeRoom_35 ((K.isR hn hk).mkA 0 _ _) (K.f96 hn hk) ?_
    refine hp_aload_nR C dX3_makeRoom_38 rfl ?_
    refine hp_get C fl_X3_15_3 dX3_makeRoom_39 ((K.isR hn hk).mkA 0 _ _) (K.f97 hn hk) ?_
    refine hp_iload_n C dX3_makeRoom_42 rfl ?_
    refine hp_isub C dX3_makeRoom_43 ?_
    rw [k_sub hle2 (by omega)]
    refine hp_aload_nR C dX3_makeRoom_44 rfl ?_
    refine hp_iconst (v := 0) C dX3_makeRoom_45 (by decide) ?_
    refine hp_iload_n C dX3_makeRoom_46 rfl ?_
    refine hp_copyI (dp := 0) C ac_X3_27 (by omega) (hI.1.mkA 0 _ _) (hp_isA hn0 0 _ _) ?_ ?_ (by omega) (by omega) (fun i hi => ?_) (by simp [Value.category]) dX3_makeRoom_47 ?_
    · show _ ≤ va_up (hp_ln h) (hp_nx h) _ (κ.1 4 n)
      rw [va_up_ne _ _ (by omega)]
      omega
    · show _ ≤ va_up (hp_ln h) (hp_nx h) _ (hp_nx h)
      rw [va_up_self]
      omega
    · refine ⟨nI ((κ.2.2 n).getD ((κ.2.2 n).length - q + i) 0), ?_⟩
      show va_up (hp_ar h) (hp_nx h) _ (κ.1 4 n) _ = _
      rw [va_up_ne _ _ (by omega)]
      exact K.tim hn hk (by omega)
    · refine hp_aload_nR C dX3_makeRoom_50 rfl ?_
      refine hp_aload_nR C dX3_makeRoom_51 rfl ?_
      refine hp_putf C fl_X3_9_3 rfl rfl rfl dX3_makeRoom_52 ((K.isR hn hk).mkA 0 (hp_ln h (κ.1 4 n) * 2) (.int 0)) ?_
      refine hp_aload_nR C dX3_makeRoom_55 rfl ?_
      refine hp_iload_n C dX3_makeRoom_56 rfl ?_
      refine hp_putf C fl_X3_15_3 rfl rfl rfl dX3_makeRoom_57 ((K.isR hn hk).mkA 0 (hp_ln h (κ.1 4 n) * 2) (.int 0)) ?_
      refine hp_vret C hr dX3_makeRoom_60 ?_
      refine ⟨rfl, _, _, K.mrA hS AA (hp_dlt C) hn hk hful hq, ?_, fun r hr => va_up_ne _ _ hr⟩
      show (va_up κ.2.2 n ((κ.2.2 n).drop ((κ.2.2 n).length - q)) n).length < va_up (hp_ln h) (hp_nx h) _ (va_up κ.1 4 (va_up (κ.1 4) n (hp_nx h)) 4 n)
      rw [va_up_self, va_up_self, va_up_self, va_up_self, k_dropL hle]
      omega
theorem k_ago {t : Nat} (h : t < 2 ^ 30) : (nI t - 1000 : Int32).toInt = (t : Int) - 1000 := by
  have e1 := nI_toInt (n := t) (by omega)
  have e3 : (1000 : Int32).toInt = 1000 := by decide
  rw [Int32.toInt_sub, e1, e3]
  exact Int.bmod_eq_of_le (by omega) (by omega)
set_option maxRecDepth 20000 in
set_option maxHeartbeats 4000000 in
theorem kc_add {l : Launch} {G : hpG} {pr : Nat → Prop} {B : hpT} {N S : Nat} {h : hpT} {κ : kS} {a : aS} {d : Nat} (K : KR G pr B N S h κ a) {n : Nat} (AA : a_A a) (hn : n < a_mk a) (hk : a_nd a 0 n = 1) (htm : a_tm a < 2 ^ 30) (hN : N + 1 ≤ hp_n0 G + hp_LC) (hS : S ≤ hp_LS) (hd : 2 ≤ d) : hp_C l G yX3_add (.code yX3_add cX3_add 2 none) d [.ref (κ.1 3 n), .int (nI (a_tm a))] (h) (fun v h' => v = none ∧ ∃ γ' ρ', KR G pr B (N + 1) (S + 4) h' (γ', κ.2.1, ρ') (a_srt a n (a_rt a n ++ [a_tm a])) ∧ ∀ r, r ≠ 4 → γ' r = κ.1 r) (fun _ _ => False) := by
  have hI := K.isI hn hk
  have hI2 := K.isI2 hn hk
  have hL := K.tl hn hk
  refine hp_ofV (by decide) (by simp [Value.category]) (Nat.le_of_ble_eq_true rfl) (fun M C hr hx el => ?_)
  refine hp_aload_nR C dX3_add_0 rfl ?_
  refine hp_get C fl_X3_15_3 dX3_add_1 (K.isR hn hk) (K.f97 hn hk) ?_
  refine hp_aload_nR C dX3_add_4 rfl ?_
  refine hp_get C fl_X3_9_3 dX3_add_5 (K.isR hn hk) (K.f96 hn hk) ?_
  refine hp_alen C 0 rfl (by decide) dX3_add_8 hI.1 ?_
  refine hp_icmp_lt (tgt := 21) C dX3_add_9 (by decide) (fun c_9 => ?_) (fun c_9 => ?_)
  · have hin : (κ.2.2 n).length < hp_ln h (κ.1 4 n) := (nI_ltI (by omega) (by omega)).mp c_9
    refine hp_aload_nR C dX3_add_21 rfl ?_
    refine hp_get C fl_X3_9_3 dX3_add_22 (K.isR hn hk) (K.f96 hn hk) ?_
    refine hp_aload_nR C dX3_add_25 rfl ?_
    refine hp_get C fl_X3_15_3 dX3_add_26 (K.isR hn hk) (K.f97 hn hk) ?_
    refine hp_iload_n C dX3_add_29 rfl ?_
    refine hp_iast C dX3_add_30 (K.isI hn hk).1 (nI_in hin (by omega)) ?_
    rw [nI_clamp (by omega)]
    refine hp_aload_nR C dX3_add_31 rfl ?_
    refine hp_dup C dX3_add_32 rfl ?_
    refine hp_get C fl_X3_15_3 dX3_add_33 (K.isR hn hk) (K.f97 hn hk) ?_
    refine hp_iconst (v := 1) C dX3_add_36 (by decide) ?_
    refine hp_iadd C dX3_add_37 ?_
    rw [nI_1]
    refine hp_putf C fl_X3_15_3 rfl rfl rfl dX3_add_38 (K.isR hn hk) ?_
    refine hp_vret C hr dX3_add_41 ?_
    exact ⟨rfl, _, _, k_more (K.mad (hp_dlt C) hn hk hin) (Nat.le_succ N), fun r hr => va_up_ne _ _ hr⟩
  · have hful : (κ.2.2 n).length = hp_ln h (κ.1 4 n) := by
      have := (not_congr (nI_ltI (by omega) (by omega))).mp c_9
      have := hI.2
      omega
    refine hp_aload_nR C dX3_add_12 rfl ?_
    refine hp_iload_n C dX3_add_13 rfl ?_
    refine hp_sipush (v := 1000) C dX3_add_14 (by decide) ?_
    refine hp_isub C dX3_add_17 ?_
    refine hp_callV (ci := 3) C ml_X3_19 im_X3_makeRoom se_X3_makeRoom rfl (by decide) (kc_room (d := d - 1) K AA hn hk htm hful (k_ago htm) hN hS (by omega)) (by omega) dX3_add_18 (K.isR hn hk) rfl rfl (by simp [Value.category]) (fun v_18 h_18 hp => ?_) (fun _ _ hf => hf.elim)
    obtain ⟨rfl, γ1, ρ1, K_18, hin, g1⟩ := hp
    have hL1 := K_18.tl hn hk
    have hI3 := K_18.isI2 hn hk
    have hin2 : (ρ1 n).length < 2 ^ 30 := by
      have q2 : 2 ≤ hp_ln h_18 (γ1 4 n) ∧ hp_ln h_18 (γ1 4 n) ≤ 16777216 := hI3
      omega
    refine hp_aload_nR C dX3_add_21 (show some (Value.ref (κ.1 3 n)) = some (Value.ref (γ1 3 n)) from by rw [g1 3 (by decide)]) ?_
    refine hp_get C fl_X3_9_3 dX3_add_22 (K_18.isR hn hk) (K_18.f96 hn hk) ?_
    refine hp_aload_nR C dX3_add_25 (show some (Value.ref (κ.1 3 n)) = some (Value.ref (γ1 3 n)) from by rw [g1 3 (by decide)]) ?_
    refine hp_get C fl_X3_15_3 dX3_add_26 (K_18.isR hn hk) (K_18.f97 hn hk) ?_
    refine hp_iload_n C dX3_add_29 rfl ?_
    refine hp_iast C dX3_add_30 (K_18.isI hn hk).1 (nI_in hin (by omega)) ?_
    rw [nI_clamp (Nat.lt_trans hin2 (by decide))]
    refine hp_aload_nR C dX3_add_31 (show some (Value.ref (κ.1 3 n)) = some (Value.ref (γ1 3 n)) from by rw [g1 3 (by decide)]) ?_
    refine hp_dup C dX3_add_32 rfl ?_
    refine hp_get C fl_X3_15_3 dX3_add_33 (K_18.isR hn hk) (K_18.f97 hn hk) ?_
    refine hp_iconst (v := 1) C dX3_add_36 (by decide) ?_
    refine hp_iadd C dX3_add_37 ?_
    rw [nI_1]
    refine hp_putf C fl_X3_15_3 rfl rfl rfl dX3_add_38 (K_18.isR hn hk) ?_
    refine hp_vret C hr dX3_add_41 ?_
    exact ⟨rfl, _, _, K_18.mad (hp_dlt C) hn hk hin, fun r hr => (va_up_ne _ _ hr).trans (g1 r hr)⟩
