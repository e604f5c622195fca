/-! ===== a child is taken out of the row ===== -/
def k_smc (κ : kS) (n : Nat) (x : Int32) : kS := (κ.1, va_up κ.2.1 n x, κ.2.2)
section KRX
variable {G : hpG} {pr : Nat → Prop} {B : hpT} {N S : Nat} {h : hpT} {κ : kS} {a : aS} {n : Nat}
theorem KR.mc (K : KR G pr B N S h κ a) (hn : n < a_mk a) (hk : a_nd a 0 n = 1) (x : Int32) : KR G pr B N S (hp_put h 0 (κ.1 1 n) (.int x)) (k_smc κ n x) a := by
  refine ⟨K.1, K.2.1, K.putV (n := n) (f := 0) (k_o0 hn hk) (fun _ _ z => z) (fun _ _ => rfl) ?_ (fun g m ok hg => ?_), K.2.2.2.1, K.2.2.2.2.1.put (K.1.2.1 n hn hk).1.2, K.2.2.2.2.2.1, K.2.2.2.2.2.2⟩
  · show Value.int (va_up κ.2.1 n x n) = _
    rw [va_up_self]
  · unfold k_fv
    by_cases e : k_isN g = true
    · rw [if_pos e, if_pos e]
    · rw [if_neg e, if_neg e]
      by_cases e2 : g = 0
      · subst e2
        show Value.int (va_up κ.2.1 n x m) = Value.int (κ.2.1 m)
        rw [va_up_ne _ _ (hg rfl)]
      · unfold k_fo
        rw [if_neg e2, if_neg e2]
        rfl
/-- the row of keeper n is L: its size and its elements are written -/
theorem KR.row (K : KR G pr B N S h κ a) (hd : hp_dE G < hp_n0 G) (hn : n < a_mk a) (hk : a_nd a 0 n = 1) (h0 : hp_n0 G ≤ κ.1 2 n) {h' : hpT} {L : List Nat} (e1 : hp_nx h' = hp_nx h) (e2 : hp_sl h' = hp_sl h) (e3 : hp_kd h' = hp_kd h) (e4 : hp_ln h' = hp_ln h) (hf : ∀ f b, (f = 2 → b ≠ κ.1 1 n) → hp_fl h' f b = hp_fl h f b) (h2 : hp_fl h' 2 (κ.1 1 n) = .int (nI L.length)) (ha : ∀ b, b ≠ κ.1 2 n → hp_ar h' b = hp_ar h b) (hE : ∀ i, i < L.length → hp_ar h' (κ.1 2 n) i = .ref (κ.1 0 (L.getD i 0))) (hl : L.length ≤ hp_ln h (κ.1 2 n)) : KR G pr B N S h' κ (a_sr a n L) := by
  obtain ⟨x1, x2⟩ := K.eltA hd hn hk h0
  have is : ∀ b k, k_is G pr h b k → k_is G pr h' b k := fun b k z => ⟨⟨z.1.1, by rw [e1]; exact z.1.2.1, by rw [e3]; exact z.1.2.2⟩, z.2⟩
  have rs : a_rw (a_sr a n L) n = L := va_up_self _ _ _
  have rn : ∀ m, m ≠ n → a_rw (a_sr a n L) m = a_rw a m := fun m hm => va_up_ne _ _ hm
  have rok2 : k_rok G κ a 2 n := Or.inl ⟨rfl, hn, hk, h0⟩
  refine ⟨⟨fun m hm => is _ _ (K.1.1 m hm), fun m hm hkm => ?_, is _ _ K.1.2.2.1, is _ _ K.1.2.2.2.1, ⟨is _ _ K.1.2.2.2.2.1.1, by rw [e4]; exact K.1.2.2.2.2.1.2⟩, fun j hj => ⟨is _ _ (K.1.2.2.2.2.2.1 j hj).1, by rw [e4]; exact (K.1.2.2.2.2.2.1 j hj).2⟩, is _ _ K.1.2.2.2.2.2.2.1, by rw [e4]; exact K.1.2.2.2.2.2.2.2⟩, K.2.1, fun f m ok => ?_, fun r m i ok => ?_, fun b hb => ?_, ⟨by rw [e1]; exact K.2.2.2.2.2.1.1, by rw [e2, e4]; exact K.2.2.2.2.2.1.2⟩, K.2.2.2.2.2.2⟩
  · obtain ⟨z1, z2, z3, z4, z5⟩ := K.1.2.1 m hm hkm
    refine ⟨is _ _ z1, is _ _ z2, is _ _ z3, by rw [e4]; exact z4, ?_⟩
    by_cases em : m = n
    · subst em
      rw [rs]
      exact Or.inr ⟨is _ _ x1, by rw [e4]; exact hl⟩
    · rw [rn m em]
      rcases z5 with z5 | z5
      · exact Or.inl z5
      · exact Or.inr ⟨is _ _ z5.1, by rw [e4]; exact z5.2⟩
  · by_cases ef : f = 2
    · subst ef
      by_cases em : m = n
      · subst em
        show hp_fl h' 2 (κ.1 1 m) = Value.int (nI (a_rw (a_sr a m L) m).length)
        rw [h2, rs]
      · have hm : m < a_mk a ∧ a_nd a 0 m = 1 := by
          rcases ok with ⟨-, z2, z3⟩ | ⟨z1, -⟩ | ⟨z1, -⟩ | ⟨z1, -⟩ | ⟨z1, -⟩ | ⟨z1, -⟩ | ⟨z1, -⟩ <;> first | exact ⟨z2, z3⟩ | omega
        have hne : κ.1 1 m ≠ κ.1 1 n := fun z => em (K.2.1.2.1 1 m n (Or.inl rfl) hm.1 hn hm.2 hk z)
        show hp_fl h' 2 (κ.1 1 m) = Value.int (nI (a_rw (a_sr a n L) m).length)
        rw [hf 2 _ (fun _ => hne), rn m em]
        exact K.f2 hm.1 hm.2
    · rw [hf f _ (fun z => absurd z ef), K.V f m ok]
      unfold k_fv
      by_cases e : k_isN f = true
      · rw [if_pos e, if_pos e]; rfl
      · rw [if_neg e, if_neg e]
        unfold k_fo
        simp only [ef, if_false]
        rfl
  · by_cases er : r = 2 ∧ m = n
    · obtain ⟨rfl, rfl⟩ := er
      have hi : i < L.length := by
        rcases ok with ⟨-, -, -, z⟩ | ⟨z, -⟩ | ⟨z, -⟩ | ⟨z, -⟩ | ⟨z, -⟩ <;> first | (rw [rs] at z; exact z) | omega
      rw [hE i hi]
      show _ = Value.ref (κ.1 0 ((a_rw (a_sr a m L) m).getD i 0))
      rw [rs]
    · have ok' : k_aok κ a r m i := by
        rcases ok with ⟨z1, z2, z3, z4⟩ | z | z
        · exact Or.inl ⟨z1, z2, z3, by rw [rn m (fun z => er ⟨z1, z⟩)] at z4; exact z4⟩
        · exact Or.inr (Or.inl z)
        · exact Or.inr (Or.inr z)
      have hne : κ.1 r m ≠ κ.1 2 n := fun z => er (K.dis hd (K.rok ok') rok2 z)
      rw [ha _ hne, K.A r m i ok']
      unfold k_av
      by_cases c1 : r = 2
      · rw [if_pos c1, if_pos c1, rn m (fun z => er ⟨c1, z⟩)]
      · rw [if_neg c1, if_neg c1]
        rfl
  · obtain ⟨y1, y2, y3, y4, y5⟩ := K.2.2.2.2.1 b hb
    have hb1 : b ≠ κ.1 1 n := fun z => (K.1.2.1 n hn hk).1.2 (z ▸ hb)
    have hb2 : b ≠ κ.1 2 n := fun z => x1.2 (z ▸ hb)
    exact ⟨by rw [e1]; exact y1, by rw [e3]; exact y2, by rw [e4]; exact y3, fun f => by rw [hf f b (fun _ => hb1)]; exact y4 f, by rw [ha b hb2]; exact y5⟩
theorem kp_0 {M : hpM} {y : MethodName} {cc : ByteArray} {nL d : Nat} {h0 : hpT} {Q : State → Prop} {pc : Nat} {lo : Nat → Option Value} {st : List Value} {idx : Nat} (C : hp_F M G y cc nL d h0) (K : KR G pr B N S h κ a) (hn : n < a_mk a) (hk : a_nd a 0 n = 1) (fl : hp_FL y.cls idx 0 0) {v : Int32} (dd : decode cc pc = .ok (.putfield idx, 3)) (kk : ∀ h', KR G pr B N S h' (k_smc κ n v) a → hp_V M G nL Q h' (pc + 3) lo st) : hp_V M G nL Q h pc lo (.int v :: .ref (κ.1 1 n) :: st) := hp_putf C fl rfl rfl rfl dd (K.isL hn hk) (kk _ (K.mc hn hk v))
end KRX
theorem k_erD {L : List Nat} {t i : Nat} : (L.eraseIdx t).getD i 0 = if i < t then L.getD i 0 else L.getD (i + 1) 0 := by
  rw [List.getD_eq_getElem?_getD, List.getElem?_eraseIdx]
  split
  · rw [List.getD_eq_getElem?_getD]
  · rw [List.getD_eq_getElem?_getD]
theorem k_erL {L : List Nat} {t : Nat} (h : t < L.length) : (L.eraseIdx t).length = L.length - 1 := by
  rw [List.length_eraseIdx, if_pos h]
theorem k_sub {a b : Nat} (h : b ≤ a) (ha : a < 2 ^ 31) : nI a - nI b = nI (a - b) := by
  have e1 := nI_toInt (n := a) (by omega)
  have e2 := nI_toInt (n := b) (by omega)
  have e3 := nI_toInt (n := a - b) (by omega)
  refine Int32.toInt_inj.mp ?_
  rw [Int32.toInt_sub, e1, e2, e3]
  rw [show ((a - b : Nat) : Int) = (a : Int) - b by omega]
  exact Int.bmod_eq_of_le (by omega) (by omega)
set_option maxRecDepth 20000 in
set_option maxHeartbeats 4000000 in
theorem kc_fast {l : Launch} {G : hpG} {pr : Nat → Prop} {B : hpT} {N S : Nat} {h : hpT} {κ : kS} {a : aS} {d : Nat} (K : KR G pr B N S h κ a) {n t : Nat} (hn : n < a_mk a) (hk : a_nd a 0 n = 1) (T : a_T a) (hl : (a_rw a n).length ≤ 79) (ht : t < (a_rw a n).length) (hd : 1 ≤ d) : hp_C l G yJx4a65c_fastRemove_b59b0 (.code yJx4a65c_fastRemove_b59b0 cJx4a65c_fastRemove_b59b0 4 none) d [.ref (κ.1 1 n), .ref (κ.1 2 n), .int (nI t)] (h) (fun v h' => v = none ∧ KR G pr B N S h' (k_smc κ n (κ.2.1 n + 1)) (a_sr a n ((a_rw a n).eraseIdx t))) (fun _ _ => False) := by
  refine hp_ofV (by decide) (by simp [Value.category]) (Nat.le_of_ble_eq_true rfl) (fun M C hr hx el => ?_)
  have h0 := (K.isE2 hn hk ht).1.1.1
  refine hp_aload_nR C dJx4a65c_fastRemove_b59b0_0 rfl ?_
  refine hp_dup C dJx4a65c_fastRemove_b59b0_1 rfl ?_
  refine hp_get C fl_Jx4a65c_63_0 dJx4a65c_fastRemove_b59b0_2 (K.isL hn hk) (K.f0 hn hk) ?_
  refine hp_iconst (v := 1) C dJx4a65c_fastRemove_b59b0_5 (by decide) ?_
  refine hp_iadd C dJx4a65c_fastRemove_b59b0_6 ?_
  refine kp_0 C K hn hk fl_Jx4a65c_63_0 dJx4a65c_fastRemove_b59b0_7 (fun h_7 K1 => ?_)
  have hln := (K1.isE2 hn hk ht).2
  have hins : vp_in (nI ((a_rw a n).length - 1)) (hp_ln h_7 (κ.1 2 n)) := vp_in_iff.mpr (by have : (a_rw a n).length ≤ hp_ln h_7 (κ.1 2 n) := hln; rw [nI_toInt (by omega)]; omega)
  have ecl : (nI ((a_rw a n).length - 1)).toNatClampNeg = (a_rw a n).length - 1 := nI_clamp (by omega)
  have epd : nI (a_rw a n).length - 1 = nI ((a_rw a n).length - 1) := by
    have := nI_pred ((a_rw a n).length - 1)
    rwa [show (a_rw a n).length - 1 + 1 = (a_rw a n).length by omega] at this
  refine hp_aload_nR C dJx4a65c_fastRemove_b59b0_10 rfl ?_
  refine hp_get C fl_Jx4a65c_48_0 dJx4a65c_fastRemove_b59b0_11 (K1.isL hn hk) (K1.f2 hn hk) ?_
  refine hp_iconst (v := 1) C dJx4a65c_fastRemove_b59b0_14 (by decide) ?_
  refine hp_isub C dJx4a65c_fastRemove_b59b0_15 ?_
  rw [epd]
  refine hp_dup C dJx4a65c_fastRemove_b59b0_16 rfl ?_
  refine hp_istore_n C dJx4a65c_fastRemove_b59b0_17 (by decide) ?_
  refine hp_iload_n C dJx4a65c_fastRemove_b59b0_18 rfl ?_
  refine hp_icmp_le (tgt := 34) C dJx4a65c_fastRemove_b59b0_19 (by decide) (fun c_19 => ?_) (fun c_19 => ?_)
  · have hle : (a_rw a n).length - 1 ≤ t := (nI_leI (by omega) (by omega)).mp c_19
    refine hp_aload_nR C dJx4a65c_fastRemove_b59b0_34 rfl ?_
    refine hp_aload_nR C dJx4a65c_fastRemove_b59b0_35 rfl ?_
    refine hp_iload_n C dJx4a65c_fastRemove_b59b0_36 rfl ?_
    refine hp_dup_x1 C dJx4a65c_fastRemove_b59b0_37 rfl rfl ?_
    refine hp_putf C fl_Jx4a65c_48_0 rfl rfl rfl dJx4a65c_fastRemove_b59b0_38 (K1.isL hn hk) ?_
    refine hp_null C dJx4a65c_fastRemove_b59b0_41 ?_
    refine hp_aastN C 3 rfl (by decide) dJx4a65c_fastRemove_b59b0_42 (K1.isE2 hn hk ht).1.1 hins ?_
    rw [ecl]
    refine hp_vret C hr dJx4a65c_fastRemove_b59b0_43 ?_
    refine ⟨rfl, K1.row (hp_dlt C) hn hk h0 rfl rfl rfl rfl (fun f b hfb => ?_) ?_ (fun b hb => ?_) (fun i hi => ?_) (by rw [k_erL ht]; exact Nat.le_trans (Nat.sub_le _ _) hln)⟩
    · show va_up (hp_fl h_7) 2 (va_up (hp_fl h_7 2) (κ.1 1 n) _) f b = _
      by_cases e : f = 2
      · subst e
        have hfb1 : b ≠ κ.1 1 n := hfb rfl
        rw [va_up_self, va_up_ne _ _ hfb1]
      · rw [va_up_ne _ _ e]
    · show va_up (hp_fl h_7) 2 (va_up (hp_fl h_7 2) (κ.1 1 n) _) 2 (κ.1 1 n) = _
      rw [va_up_self, va_up_self, k_erL ht]
    · show va_up (hp_ar h_7) (κ.1 2 n) _ b = _
      have hb1 : b ≠ κ.1 2 n := hb
      rw [va_up_ne _ _ hb1]
    · rw [k_erL ht] at hi
      show va_up (hp_ar h_7) (κ.1 2 n) (va_up (hp_ar h_7 (κ.1 2 n)) ((a_rw a n).length - 1) .null) (κ.1 2 n) i = _
      rw [va_up_self, va_up_ne _ _ (by omega), k_erD, if_pos (by omega)]
      exact K1.elt hn hk (by omega)
  · have hgt : ¬ (a_rw a n).length - 1 ≤ t := (not_congr (nI_leI (by omega) (by omega))).mp c_19
    refine hp_aload_nR C dJx4a65c_fastRemove_b59b0_22 rfl ?_
    refine hp_iload_n C dJx4a65c_fastRemove_b59b0_23 rfl ?_
    refine hp_iconst (v := 1) C dJx4a65c_fastRemove_b59b0_24 (by decide) ?_
    refine hp_iadd C dJx4a65c_fastRemove_b59b0_25 ?_
    rw [nI_1]
    refine hp_aload_nR C dJx4a65c_fastRemove_b59b0_26 rfl ?_
    refine hp_iload_n C dJx4a65c_fastRemove_b59b0_27 rfl ?_
    refine hp_iload_n C dJx4a65c_fastRemove_b59b0_28 rfl ?_
    refine hp_iload_n C dJx4a65c_fastRemove_b59b0_29 rfl ?_
    refine hp_isub C dJx4a65c_fastRemove_b59b0_30 ?_
    rw [show nI ((a_rw a n).length - 1) - nI t = nI ((a_rw a n).length - 1 - t) from k_sub (by omega) (by omega)]
    refine hp_copyR C ac_Jx4a65c_112 (by omega) (K1.isE2 hn hk ht).1.1 (K1.isE2 hn hk ht).1.1 (by have : (a_rw a n).length ≤ hp_ln h_7 (κ.1 2 n) := hln; omega) (by have : (a_rw a n).length ≤ hp_ln h_7 (κ.1 2 n) := hln; omega) (by omega) (by omega) (fun i hi => Or.inr ?_) (by simp [Value.category]) dJx4a65c_fastRemove_b59b0_31 ?_
    · have hc := (T.rc hn (k_rc T hn (i := t + 1 + i) (by omega))).1
      rcases T.kb hc with hb | hb
      · exact ⟨_, 4, _, K1.elt hn hk (by omega), K1.isW hc hb, by decide, rfl, by decide⟩
      · exact ⟨_, 2, _, K1.elt hn hk (by omega), K1.isK hc hb, by decide, rfl, by decide⟩
    refine hp_aload_nR C dJx4a65c_fastRemove_b59b0_34 rfl ?_
    refine hp_aload_nR C dJx4a65c_fastRemove_b59b0_35 rfl ?_
    refine hp_iload_n C dJx4a65c_fastRemove_b59b0_36 rfl ?_
    refine hp_dup_x1 C dJx4a65c_fastRemove_b59b0_37 rfl rfl ?_
    refine hp_putf C fl_Jx4a65c_48_0 rfl rfl rfl dJx4a65c_fastRemove_b59b0_38 (K1.isL hn hk) ?_
    refine hp_null C dJx4a65c_fastRemove_b59b0_41 ?_
    refine hp_aastN C 3 rfl (by decide) dJx4a65c_fastRemove_b59b0_42 (K1.isE2 hn hk ht).1.1 hins ?_
    rw [ecl]
    refine hp_vret C hr dJx4a65c_fastRemove_b59b0_43 ?_
    refine ⟨rfl, K1.row (hp_dlt C) hn hk h0 rfl rfl rfl rfl (fun f b hfb => ?_) ?_ (fun b hb => ?_) (fun i hi => ?_) (by rw [k_erL ht]; exact Nat.le_trans (Nat.sub_le _ _) hln)⟩
    · show va_up (hp_fl h_7) 2 (va_up (hp_fl h_7 2) (κ.1 1 n) _) f b = _
      by_cases e : f = 2
      · subst e
        have hfb1 : b ≠ κ.1 1 n := hfb rfl
        rw [va_up_self, va_up_ne _ _ hfb1]
      · rw [va_up_ne _ _ e]
    · show va_up (hp_fl h_7) 2 (va_up (hp_fl h_7 2) (κ.1 1 n) _) 2 (κ.1 1 n) = _
      rw [va_up_self, va_up_self, k_erL ht]
    · show va_up (va_up (hp_ar h_7) (κ.1 2 n) _) (κ.1 2 n) _ b = _
      have hb1 : b ≠ κ.1 2 n := hb
      rw [va_up_ne _ _ hb1, va_up_ne _ _ hb1]
    · rw [k_erL ht] at hi
      show va_up (va_up (hp_ar h_7) (κ.1 2 n) (va_cpy (hp_ar h_7 (κ.1 2 n)) (hp_ar h_7 (κ.1 2 n)) (t + 1) t ((a_rw a n).length - 1 - t))) (κ.1 2 n) (va_up (va_up (hp_ar h_7) (κ.1 2 n) (va_cpy (hp_ar h_7 (κ.1 2 n)) (hp_ar h_7 (κ.1 2 n)) (t + 1) t ((a_rw a n).length - 1 - t)) (κ.1 2 n)) ((a_rw a n).length - 1) .null) (κ.1 2 n) i = _
      rw [va_up_self, va_up_self, va_up_ne _ _ (by omega), k_erD]
      unfold va_cpy
      by_cases c : t ≤ i
      · rw [if_pos (by omega), if_neg (by omega), show t + 1 + (i - t) = i + 1 by omega]
        exact K1.elt hn hk (by omega)
      · rw [if_neg (by omega), if_pos (by omega)]
        exact K1.elt hn hk (by omega)
set_option maxRecDepth 20000 in
set_option maxHeartbeats 4000000 in
theorem kc_remove {l : Launch} {G : hpG} {pr : Nat → Prop} {B : hpT} {N S : Nat} {h : hpT} {κ : kS} {a : aS} {d : Nat} (K : KR G pr B N S h κ a) {n t : Nat} (T : a_T a) (hn : n < a_mk a) (hk : a_nd a 0 n = 1) (ht : t < (a_rw a n).length) (hd : 2 ≤ d) : hp_C l G yJx4a65c_remove_915e3 (.code yJx4a65c_remove_915e3 cJx4a65c_remove_915e3 4 (some (.object "java/lang/Object"))) d [.ref (κ.1 1 n), .int (nI t)] (h) (fun v h' => v = some (.ref (κ.1 0 ((a_rw a n).getD t 0))) ∧ KR G pr B N S h' (k_smc κ n (κ.2.1 n + 1)) (a_sr a n ((a_rw a n).eraseIdx t))) (fun _ _ => False) := by
  have hl := T.rl hn
  refine hp_ofV (by decide) (by simp [Value.category]) (Nat.le_of_ble_eq_true rfl) (fun M C hr hx el => ?_)
  refine hp_iload_n C dJx4a65c_remove_915e3_0 rfl ?_
  refine hp_aload_nR C dJx4a65c_remove_915e3_1 rfl ?_
  refine hp_get C fl_Jx4a65c_48_0 dJx4a65c_remove_915e3_2 (K.isL hn hk) (K.f2 hn hk) ?_
  refine hp_callS C ml_Jx4a65c_118 sm_J15_checkIndex_7cf53 (kj_ci (d := d - 1) (i := t) (n := (a_rw a n).length) ht (by omega) (by omega)) (by omega) dJx4a65c_remove_915e3_5 rfl rfl (by simp [Value.category]) (fun v_5 h_5 hp => ?_) (fun _ _ hf => hf.elim)
  obtain ⟨rfl, e_5⟩ := hp
  rw [e_5]
  refine hp_pop C dJx4a65c_remove_915e3_8 rfl ?_
  refine hp_aload_nR C dJx4a65c_remove_915e3_9 rfl ?_
  refine hp_get C fl_Jx4a65c_9_0 dJx4a65c_remove_915e3_10 (K.isL hn hk) (K.f1 hn hk) ?_
  refine hp_astore_n (r := some _) C dJx4a65c_remove_915e3_13 (by decide) ?_
  refine hp_aload_nR C dJx4a65c_remove_915e3_14 rfl ?_
  refine hp_iload_n C dJx4a65c_remove_915e3_15 rfl ?_
  refine hp_aald C 3 rfl rfl (by decide) dJx4a65c_remove_915e3_16 (K.isE2 hn hk ht).1.1 (vp_in_iff.mpr (by have := (K.isE2 hn hk ht).2; rw [nI_toInt (by omega)]; omega)) ((congrArg (hp_ar h (κ.1 2 n)) (nI_clamp (by omega))).trans (K.elt hn hk ht)) ?_
  refine hp_astore_n (r := some _) C dJx4a65c_remove_915e3_17 (by decide) ?_
  refine hp_aload_nR C dJx4a65c_remove_915e3_18 rfl ?_
  refine hp_aload_nR C dJx4a65c_remove_915e3_19 rfl ?_
  refine hp_iload_n C dJx4a65c_remove_915e3_20 rfl ?_
  refine hp_callV (ci := 0) C ml_Jx4a65c_144 im_Jx4a65c_fastRemove_b59b0 se_Jx4a65c_fastRemove_b59b0 rfl (by decide) (kc_fast (d := d - 1) K hn hk T hl ht (by omega)) (by omega) dJx4a65c_remove_915e3_21 (K.isL hn hk) rfl rfl (by simp [Value.category]) (fun v_21 h_21 hp => ?_) (fun _ _ hf => hf.elim)
  obtain ⟨rfl, K_21⟩ := hp
  refine hp_aload_nR C dJx4a65c_remove_915e3_24 rfl ?_
  refine hp_aret (r := some _) C hr (Or.inl ⟨_, rfl⟩) dJx4a65c_remove_915e3_25 ?_
  exact ⟨rfl, K_21⟩
