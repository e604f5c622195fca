/-! ===== makeRoom, add ===== -/
theorem k_div2 {L : Nat} (h : L < 2 ^ 30) : nI L / 2 = nI (L / 2) := by
  have e1 := nI_toInt (n := L) (by omega)
  have e2 := nI_toInt (n := L / 2) (by omega)
  have e3 : (2 : Int32).toInt = 2 := by decide
  refine Int32.toInt_inj.mp ?_
  rw [Int32.toInt_div_of_ne_right _ _ (by decide), e1, e2, e3]
  rw [Int.tdiv_eq_ediv_of_nonneg (by omega)]
  omega
section KRO
variable {G : hpG} {pr : Nat → Prop} {B : hpT} {N S : Nat} {h : hpT} {κ : kS} {a : aS} {n : Nat}
/-- what is not kept is older than any t reaches -/
theorem k_drop (K : KR G pr B N S h κ a) (AA : a_A a) (hn : n < a_mk a) (hk : a_nd a 0 n = 1) {q : Nat} (hq : k_nb (fun i => (κ.2.2 n).getD i 0) ((a_tm a : Int) - 1000) (κ.2.2 n).length = q) : ∃ dr, a_rt a n = dr ++ (κ.2.2 n).drop ((κ.2.2 n).length - q) ∧ ∀ x ∈ dr, x + 1000 < a_tm a := by
  obtain ⟨dr, y1, y2⟩ := K.2.2.2.2.2.2 n hn hk
  have ap : (κ.2.2 n).Pairwise (· ≤ ·) := by
    have := (AA n hn).1
    rw [y1] at this
    exact (List.pairwise_append.mp this).2.1
  refine ⟨dr ++ (κ.2.2 n).take ((κ.2.2 n).length - q), by rw [List.append_assoc, List.take_append_drop, y1], fun x hx => ?_⟩
  rcases List.mem_append.mp hx with hx | hx
  · exact y2 x hx
  · obtain ⟨i, hi, ex⟩ := List.getElem_of_mem hx
    rw [List.length_take] at hi
    rw [List.getElem_take] at ex
    have hle := k_nb_le (fun i => (κ.2.2 n).getD i 0) ((a_tm a : Int) - 1000) (κ.2.2 n).length
    have h1 := k_nb_lt (g := fun i => (κ.2.2 n).getD i 0) (b := (a_tm a : Int) - 1000) (κ.2.2 n).length (by omega)
    rw [hq] at h1
    have h2 := k_asc ap (i := i) (j := (κ.2.2 n).length - q - 1) (by omega) (by omega)
    have h3 : (κ.2.2 n).getD i 0 = x := by
      rw [List.getD_eq_getElem?_getD, List.getElem?_eq_getElem (by omega), ← ex]
      rfl
    have h1' : (((κ.2.2 n).getD ((κ.2.2 n).length - q - 1) 0 : Nat) : Int) < (a_tm a : Int) - 1000 := h1
    omega
theorem k_dropL {R : List Nat} {q : Nat} (h : q ≤ R.length) : (R.drop (R.length - q)).length = q := by rw [List.length_drop]; omega
theorem k_dropD {R : List Nat} {k i : Nat} : (R.drop k).getD i 0 = R.getD (k + i) 0 := by rw [List.getD_eq_getElem?_getD, List.getD_eq_getElem?_getD, List.getElem?_drop]
theorem KR.nxp (K : KR G pr B N S h κ a) : ¬ pr (hp_nx h) := fun z => Nat.lt_irrefl _ (K.2.2.2.2.1 _ z).1
/-- the last q times, in place -/
theorem KR.mrB (K : KR G pr B N S h κ a) (AA : a_A a) (hd : hp_dE G < hp_n0 G) (hn : n < a_mk a) (hk : a_nd a 0 n = 1) {q : Nat} (hq : k_nb (fun i => (κ.2.2 n).getD i 0) ((a_tm a : Int) - 1000) (κ.2.2 n).length = q) :
    KR G pr B N S (hp_put (hp_put (hp_cpy h (κ.1 4 n) (κ.1 4 n) ((κ.2.2 n).length - q) 0 q) 96 (κ.1 3 n) (.ref (κ.1 4 n))) 97 (κ.1 3 n) (.int (nI q))) (k_stm κ n (κ.1 4 n) ((κ.2.2 n).drop ((κ.2.2 n).length - q))) a := by
  have hle := k_nb_le (fun i => (κ.2.2 n).getD i 0) ((a_tm a : Int) - 1000) (κ.2.2 n).length
  rw [hq] at hle
  have hI := K.isI hn hk
  have ef : ∀ f c, hp_fl (hp_put (hp_put (hp_cpy h (κ.1 4 n) (κ.1 4 n) ((κ.2.2 n).length - q) 0 q) 96 (κ.1 3 n) (.ref (κ.1 4 n))) 97 (κ.1 3 n) (.int (nI q))) f c = va_up (va_up (hp_fl h) 96 (va_up (hp_fl h 96) (κ.1 3 n) (.ref (κ.1 4 n)))) 97 (va_up (va_up (hp_fl h) 96 (va_up (hp_fl h 96) (κ.1 3 n) (.ref (κ.1 4 n))) 97) (κ.1 3 n) (.int (nI q))) f c := fun _ _ => rfl
  have ea : ∀ c, hp_ar (hp_put (hp_put (hp_cpy h (κ.1 4 n) (κ.1 4 n) ((κ.2.2 n).length - q) 0 q) 96 (κ.1 3 n) (.ref (κ.1 4 n))) 97 (κ.1 3 n) (.int (nI q))) c = va_up (hp_ar h) (κ.1 4 n) (va_cpy (hp_ar h (κ.1 4 n)) (hp_ar h (κ.1 4 n)) ((κ.2.2 n).length - q) 0 q) c := fun _ => rfl
  have hK := K.tms (A := a_rt a n) (N' := N) (S' := S) hd hn hk (Or.inl rfl) hI.1.1 hI.1.2.1 hI.1.2.2 (K.1.2.1 n hn hk).2.2.1.2 (h' := hp_put (hp_put (hp_cpy h (κ.1 4 n) (κ.1 4 n) ((κ.2.2 n).length - q) 0 q) 96 (κ.1 3 n) (.ref (κ.1 4 n))) 97 (κ.1 3 n) (.int (nI q))) (R := (κ.2.2 n).drop ((κ.2.2 n).length - q)) (Nat.le_refl _) (fun _ _ => rfl) (fun _ _ => rfl) (fun f c _ hfc => ?_) ?_ ?_ (fun c _ hc => ?_) (fun i hi => ?_) ⟨?_, K.isI2 hn hk⟩ K.2.2.2.2.2.1.1 ?_ (k_drop K AA hn hk hq)
  · rw [a_srt_self] at hK
    exact hK
  · rw [ef]
    by_cases e7 : f = 97
    · rw [e7, va_up_self, va_up_ne _ _ (hfc (Or.inr e7)), va_up_ne _ _ (by decide)]
    · rw [va_up_ne _ _ e7]
      by_cases e6 : f = 96
      · rw [e6, va_up_self, va_up_ne _ _ (hfc (Or.inl e6))]
      · rw [va_up_ne _ _ e6]
  · rw [ef, va_up_ne _ _ (by decide), va_up_self, va_up_self]
  · rw [ef, va_up_self, va_up_self, k_dropL hle]
  · rw [ea, va_up_ne _ _ hc]
  · rw [k_dropL hle] at hi
    rw [ea, va_up_self, k_dropD]
    unfold va_cpy
    rw [if_pos (by omega), Nat.sub_zero]
    exact K.tim hn hk (by omega)
  · rw [k_dropL hle]
    have := hI.2
    show q ≤ hp_ln h (κ.1 4 n)
    omega
  · rw [k_dropL hle]
    have h1 := K.2.2.2.2.2.1.2
    show hp_sl h + (_ + 4 * (q - hp_ln h (κ.1 4 n) / 2)) ≤ _
    omega
/-- the last q times, in a row of twice the length -/
theorem KR.mrA (K : KR G pr B N S h κ a) (hSS : S ≤ hp_LS) (AA : a_A a) (hd : hp_dE G < hp_n0 G) (hn : n < a_mk a) (hk : a_nd a 0 n = 1) (hful : (κ.2.2 n).length = hp_ln h (κ.1 4 n)) {q : Nat} (hq : k_nb (fun i => (κ.2.2 n).getD i 0) ((a_tm a : Int) - 1000) (κ.2.2 n).length = q) :
    KR G pr B (N + 1) S (hp_put (hp_put (hp_cpy (hp_mkA h 0 (hp_ln h (κ.1 4 n) * 2) (.int 0)) (κ.1 4 n) (hp_nx h) ((κ.2.2 n).length - q) 0 q) 96 (κ.1 3 n) (.ref (hp_nx h))) 97 (κ.1 3 n) (.int (nI q))) (k_stm κ n (hp_nx h) ((κ.2.2 n).drop ((κ.2.2 n).length - q))) a := by
  have hle := k_nb_le (fun i => (κ.2.2 n).getD i 0) ((a_tm a : Int) - 1000) (κ.2.2 n).length
  rw [hq] at hle
  have hI := K.isI hn hk
  have hI2 := K.isI2 hn hk
  have hlt := hI.1.2.1
  have hn0 : hp_n0 G ≤ hp_nx h := by have := hI.1.1; omega
  generalize hH : hp_put (hp_put (hp_cpy (hp_mkA h 0 (hp_ln h (κ.1 4 n) * 2) (.int 0)) (κ.1 4 n) (hp_nx h) ((κ.2.2 n).length - q) 0 q) 96 (κ.1 3 n) (.ref (hp_nx h))) 97 (κ.1 3 n) (.int (nI q)) = H
  have ef : ∀ f c, hp_fl H f c = va_up (va_up (hp_fl h) 96 (va_up (hp_fl h 96) (κ.1 3 n) (.ref (hp_nx h)))) 97 (va_up (va_up (hp_fl h) 96 (va_up (hp_fl h 96) (κ.1 3 n) (.ref (hp_nx h))) 97) (κ.1 3 n) (.int (nI q))) f c := fun _ _ => by rw [← hH]; rfl
  have ea : ∀ c, hp_ar H c = va_up (va_up (hp_ar h) (hp_nx h) (fun _ => .int 0)) (hp_nx h) (va_cpy (va_up (hp_ar h) (hp_nx h) (fun _ => .int 0) (κ.1 4 n)) (va_up (hp_ar h) (hp_nx h) (fun _ => .int 0) (hp_nx h)) ((κ.2.2 n).length - q) 0 q) c := fun _ => by rw [← hH]; rfl
  have ek : ∀ c, hp_kd H c = va_up (hp_kd h) (hp_nx h) 10 c := fun _ => by rw [← hH]; rfl
  have el : ∀ c, hp_ln H c = va_up (hp_ln h) (hp_nx h) (hp_ln h (κ.1 4 n) * 2) c := fun _ => by rw [← hH]; rfl
  have en : hp_nx H = hp_nx h + 1 := by rw [← hH]; rfl
  have es : hp_sl H = hp_sl h + hp_ln h (κ.1 4 n) * 2 := by rw [← hH]; rfl
  have hK := K.tms (h' := H) (b := hp_nx h) (A := a_rt a n) (N' := N + 1) (S' := S) (R := (κ.2.2 n).drop ((κ.2.2 n).length - q)) hd hn hk (Or.inr (Nat.le_refl _)) hn0 (by rw [en]; omega) (by rw [ek, va_up_self]) K.nxp (by rw [en]; omega) (fun c hc => by rw [ek, va_up_ne _ _ (by omega)]) (fun c hc => by rw [el, va_up_ne _ _ (by omega)]) (fun f c _ hfc => ?_) ?_ ?_ (fun c hc _ => ?_) (fun i hi => ?_) ⟨?_, ?_⟩ (by rw [en]; have := K.2.2.2.2.2.1.1; omega) ?_ (k_drop K AA hn hk hq)
  · rw [a_srt_self] at hK
    exact hK
  · rw [ef]
    by_cases e7 : f = 97
    · rw [e7, va_up_self, va_up_ne _ _ (hfc (Or.inr e7)), va_up_ne _ _ (by decide)]
    · rw [va_up_ne _ _ e7]
      by_cases e6 : f = 96
      · rw [e6, va_up_self, va_up_ne _ _ (hfc (Or.inl e6))]
      · rw [va_up_ne _ _ e6]
  · rw [ef, va_up_ne _ _ (by decide), va_up_self, va_up_self]
  · rw [ef, va_up_self, va_up_self, k_dropL hle]
  · rw [ea, va_up_ne _ _ (by omega), va_up_ne _ _ (by omega)]
  · rw [k_dropL hle] at hi
    rw [ea, va_up_self, k_dropD]
    unfold va_cpy
    rw [if_pos (by omega), Nat.sub_zero, va_up_ne _ _ (by omega)]
    exact K.tim hn hk (by omega)
  · rw [k_dropL hle, el, va_up_self]
    omega
  · rw [el, va_up_self]
    have hL := K.tl hn hk
    have hLS : hp_LS = 7290000 := rfl
    omega
  · rw [k_dropL hle, el, va_up_self, es]
    have h1 := K.2.2.2.2.2.1.2
    omega
/-- a time is added behind -/
theorem KR.mad (K : KR G pr B N S h κ a) (hd : hp_dE G < hp_n0 G) (hn : n < a_mk a) (hk : a_nd a 0 n = 1) (hl : (κ.2.2 n).length < hp_ln h (κ.1 4 n)) {t : Nat} :
    KR G pr B N (S + 4) (hp_put (hp_set h (κ.1 4 n) (κ.2.2 n).length (.int (nI t))) 97 (κ.1 3 n) (.int (nI ((κ.2.2 n).length + 1)))) (k_stm κ n (κ.1 4 n) (κ.2.2 n ++ [t])) (a_srt a n (a_rt a n ++ [t])) := by
  have hI := K.isI hn hk
  have el : (κ.2.2 n ++ [t]).length = (κ.2.2 n).length + 1 := by rw [List.length_append]; rfl
  refine K.tms hd hn hk (Or.inl rfl) hI.1.1 hI.1.2.1 hI.1.2.2 (K.1.2.1 n hn hk).2.2.1.2 (Nat.le_refl _) (fun _ _ => rfl) (fun _ _ => rfl) (fun f c _ hfc => ?_) ?_ ?_ (fun c _ hc => ?_) (fun i hi => ?_) ⟨by rw [el]; exact hl, K.isI2 hn hk⟩ K.2.2.2.2.2.1.1 ?_ ?_
  · show va_up (hp_fl h) 97 (va_up (hp_fl h 97) (κ.1 3 n) _) f c = _
    by_cases e7 : f = 97
    · rw [e7, va_up_self, va_up_ne _ _ (hfc (Or.inr e7))]
    · rw [va_up_ne _ _ e7]
  · exact K.f96 hn hk
  · show va_up (hp_fl h) 97 (va_up (hp_fl h 97) (κ.1 3 n) _) 97 (κ.1 3 n) = _
    rw [va_up_self, va_up_self, el]
  · show va_up (hp_ar h) (κ.1 4 n) _ c = _
    rw [va_up_ne _ _ hc]
  · rw [el] at hi
    show va_up (hp_ar h) (κ.1 4 n) (va_up (hp_ar h (κ.1 4 n)) (κ.2.2 n).length (.int (nI t))) (κ.1 4 n) i = _
    rw [va_up_self]
    by_cases e : i = (κ.2.2 n).length
    · subst e
      rw [va_up_self, List.getD_eq_getElem?_getD, List.getElem?_append_right (Nat.le_refl _), Nat.sub_self]
      rfl
    · rw [va_up_ne _ _ e, List.getD_eq_getElem?_getD, List.getElem?_append_left (by omega), ← List.getD_eq_getElem?_getD]
      exact K.tim hn hk (by omega)
  · rw [el]
    have h1 := K.2.2.2.2.2.1.2
    show hp_sl h + (_ + 4 * ((κ.2.2 n).length + 1 - hp_ln h (κ.1 4 n) / 2)) ≤ _
    omega
  · obtain ⟨dr, y1, y2⟩ := K.2.2.2.2.2.2 n hn hk
    exact ⟨dr, by rw [y1, List.append_assoc], y2⟩
end KRO
theorem k_small {G : hpG} {pr : Nat → Prop} {B : hpT} {N S : Nat} {h : hpT} {κ : kS} {a : aS} {n : Nat} (K : KR G pr B N S h κ a) (AA : a_A a) (hn : n < a_mk a) (hk : a_nd a 0 n = 1) (htm : a_tm a < 2 ^ 30) : ∀ i, i < (κ.2.2 n).length → (κ.2.2 n).getD i 0 < 2 ^ 31 := by
  intro i hi
  obtain ⟨dr, y1, y2⟩ := K.2.2.2.2.2.2 n hn hk
  have hm : (κ.2.2 n).getD i 0 ∈ a_rt a n := by
    rw [y1, List.getD_eq_getElem?_getD, List.getElem?_eq_getElem hi]
    exact List.mem_append_right _ (List.getElem_mem hi)
  have := (AA n hn).2 _ hm
  omega
theorem k_more {G : hpG} {pr : Nat → Prop} {B : hpT} {N N' S : Nat} {h : hpT} {κ : kS} {a : aS} (K : KR G pr B N S h κ a) (hN : N ≤ N') : KR G pr B N' S h κ a := ⟨K.1, K.2.1, K.2.2.1, K.2.2.2.1, K.2.2.2.2.1, ⟨Nat.le_trans K.2.2.2.2.2.1.1 hN, K.2.2.2.2.2.1.2⟩, K.2.2.2.2.2.2⟩
set_option maxRecDepth 20000 in
set_option maxHeartbeats 4000000 in
theorem kc_room {l : Launch} {G : hpG} {pr : Nat → Prop} {B : hpT} {N S : Nat} {h : hpT} {κ : kS} {a : aS} {d : Nat} (K : KR G pr B N S h κ a) {n : Nat} {b : Int32} (AA : a_A a) (hn : n < a_mk a) (hk : a_nd a 0 n = 1) (htm : a_tm a < 2 ^ 30) (hful : (κ.2.2 n).length = hp_ln h (κ.1 4 n)) (hb : b.toInt = (a_tm a : Int) - 1000) (hN : N + 1 ≤ hp_n0 G + hp_LC) (hS : S ≤ hp_LS) (hd : 1 ≤ d) : hp_C l G yX3_makeRoom (.code yX3_makeRoom cX3_makeRoom 4 none) d [.ref (κ.1 3 n), .int b] (h) (fun v h' => v = none ∧ ∃ γ' ρ', KR G pr B (N + 1) S h' (γ', κ.2.1, ρ') a ∧ (ρ' n).length < hp_ln h' (γ' 4 n) ∧ ∀ r, r ≠ 4 → γ' r = κ.1 r) (fun _ _ => False) := by
  have hs : ∀ i, i < (κ.2.2 n).length → (κ.2.2 n).getD i 0 < 2 ^ 31 := k_small K AA hn hk htm
  have hI := K.isI hn hk
  have hI2 := K.isI2 hn hk
  have hL := K.tl hn hk
  have hLS : hp_LS = 7290000 := rfl
  have hlen : hp_ln h (κ.1 4 n) ≤ hp_LS := by omega
  have hle := k_nb_le (fun i => (κ.2.2 n).getD i 0) ((a_tm a : Int) - 1000) (κ.2.2 n).length
  refine hp_ofV (by decide) (by simp [Value.category]) (Nat.le_of_ble_eq_true rfl) (fun M C hr hx el => ?_)
  refine hp_aload_nR C dX3_makeRoom_0 rfl ?_
  refine hp_iload_n C dX3_makeRoom_1 rfl ?_
  refine hp_callV (ci := 3) C ml_X3_23 im_X3_notBefore se_X3_notBefore rfl (by decide) (kc_nb (d := d - 1) K hn hk hs (by omega)) (by omega) dX3_makeRoom_2 (K.isR hn hk) rfl rfl (by simp [Value.category]) (fun v_2 h_2 hp => ?_) (fun _ _ hf => hf.elim)
  rw [hb] at hp
  obtain ⟨rfl, e_2⟩ := hp
  rw [e_2]
  generalize hq : k_nb (fun i => (κ.2.2 n).getD i 0) ((a_tm a : Int) - 1000) (κ.2.2 n).length = q at hle
  have hle2 : q ≤ (κ.2.2 n).length := hle
  refine hp_istore_n C dX3_makeRoom_5 (by decide) ?_
  refine hp_iload_n C dX3_makeRoom_6 rfl ?_
  refine hp_aload_nR C dX3_makeRoom_7 rfl ?_
  refine hp_get C fl_X3_9_3 dX3_makeRoom_8 (K.isR hn hk) (K.f96 hn hk) ?_
  refine hp_alen C 0 rfl (by decide) dX3_makeRoom_11 hI.1 ?_
  refine hp_iconst (v := 2) C dX3_makeRoom_12 (by decide) ?_
  refine hp_idiv C dX3_makeRoom_13 (by decide) ?_
  rw [k_div2 (by omega)]
  refine hp_icmp_le (tgt := 29) C dX3_makeRoom_14 (by decide) (fun c_14 => ?_) (fun c_14 => ?_)
  · refine hp_aload_nR C dX3_makeRoom_29 rfl ?_
    refine hp_get C fl_X3_9_3 dX3_makeRoom_30 (K.isR hn hk) (K.f96 hn hk) ?_
    have hqs : q ≤ hp_ln h (κ.1 4 n) / 2 := (nI_leI (by omega) (by omega)).mp c_14
    refine hp_astore_n (r := some _) C dX3_makeRoom_33 (by decide) ?_
    refine hp_aload_nR C dX3_makeRoom_34 rfl ?_
    refine hp_get C fl_X3_9_3 dX3_makeRoom_35 (K.isR hn hk) (K.f96 hn hk) ?_
    refine hp_aload_nR C dX3_makeRoom_38 rfl ?_
    refine hp_get C fl_X3_15_3 dX3_makeRoom_39 (K.isR hn hk) (K.f97 hn hk) ?_
    refine hp_iload_n C dX3_makeRoom_42 rfl ?_
    refine hp_isub C dX3_makeRoom_43 ?_
    rw [k_sub hle2 (by omega)]
    refine hp_aload_nR C dX3_makeRoom_44 rfl ?_
    refine hp_iconst (v := 0) C dX3_makeRoom_45 (by decide) ?_
    refine hp_iload_n C dX3_makeRoom_46 rfl ?_
    refine hp_copyI (dp := 0) C ac_X3_27 (by omega) hI.1 hI.1 ?_ ?_ (by omega) (by omega) (fun i hi => ?_) (by simp [Value.category]) dX3_makeRoom_47 ?_
    · omega
    · omega
    · exact ⟨_, K.tim hn hk (by omega)⟩
    · refine hp_aload_nR C dX3_makeRoom_50 rfl ?_
      refine hp_aload_nR C dX3_makeRoom_51 rfl ?_
      refine hp_putf C fl_X3_9_3 rfl rfl rfl dX3_makeRoom_52 (K.isR hn hk) ?_
      refine hp_aload_nR C dX3_makeRoom_55 rfl ?_
      refine hp_iload_n C dX3_makeRoom_56 rfl ?_
      refine hp_putf C fl_X3_15_3 rfl rfl rfl dX3_makeRoom_57 (K.isR hn hk) ?_
      refine hp_vret C hr dX3_makeRoom_60 ?_
      refine ⟨rfl, _, _, k_more (K.mrB AA (hp_dlt C) hn hk hq) (Nat.le_succ N), ?_, fun r hr => va_up_ne _ _ hr⟩
      show (va_up κ.2.2 n ((κ.2.2 n).drop ((κ.2.2 n).length - q)) n).length < hp_ln h (va_up κ.1 4 (va_up (κ.1 4) n (κ.1 4 n)) 4 n)
      rw [va_up_self, va_up_self, va_up_self, k_dropL hle]
      omega
  · refine hp_aload_nR C dX3_makeRoom_17 rfl ?_
    refine hp_get C fl_X3_9_3 dX3_makeRoom_18 (K.isR hn hk) (K.f96 hn hk) ?_
    refine hp_alen C 0 rfl (by decide) dX3_makeRoom_21 hI.1 ?_
    refine hp_iconst (v := 2) C dX3_makeRoom_22 (by decide) ?_
    refine hp_imul C dX3_makeRoom_23 ?_
    rw [show (2 : Int32) = nI 2 from rfl, pk_mul]
    refine hp_newa C 0 (atype := .int) (ty := .int) (N := hp_ln h (κ.1 4 n) * 2) rfl rfl (fun U hU => hU) (by decide) ac_int dX3_makeRoom_24 (nI_pos (by omega)) (nI_clamp (by omega)) (by show _ * 4 ≤ _; omega) (by have := K.2.2.2.2.2.1.1; omega) (by omega) ?_
    refine hp_goto (tgt := 33) C dX3_makeRoom_26 (by decide) ?_
    have hn0 : hp_n0 G ≤ hp_nx h := by have := hI.1.1; have := hI.1.2.1; omega
    have hlt : κ.1 4 n < hp_nx h := hI.1.2.1
    refine hp_astore_n (r := some _) C dX3_makeRoom_33 (by decide) ?_
    refine hp_aload_nR C dX3_makeRoom_34 rfl ?_
    refine hp_get C fl_X3_9_3 dX3_makeRoom_35 ((K.isR hn hk).mkA 0 _ _) (K.f96 hn hk) ?_
    refine hp_aload_nR C dX3_makeRoom_38 rfl ?_
    refine hp_get C fl_X3_15_3 dX3_makeRoom_39 ((K.isR hn hk).mkA 0 _ _) (K.f97 hn hk) ?_
    refine hp_iload_n C dX3_makeRoom_42 rfl ?_
    refine hp_isub C dX3_makeRoom_43 ?_
    rw [k_sub hle2 (by omega)]
    refine hp_aload_nR C dX3_makeRoom_44 rfl ?_
    refine hp_iconst (v := 0) C dX3_makeRoom_45 (by decide) ?_
    refine hp_iload_n C dX3_makeRoom_46 rfl ?_
    refine hp_copyI (dp := 0) C ac_X3_27 (by omega) (hI.1.mkA 0 _ _) (hp_isA hn0 0 _ _) ?_ ?_ (by omega) (by omega) (fun i hi => ?_) (by simp [Value.category]) dX3_makeRoom_47 ?_
    · show _ ≤ va_up (hp_ln h) (hp_nx h) _ (κ.1 4 n)
      rw [va_up_ne _ _ (by omega)]
      omega
    · show _ ≤ va_up (hp_ln h) (hp_nx h) _ (hp_nx h)
      rw [va_up_self]
      omega
    · refine ⟨nI ((κ.2.2 n).getD ((κ.2.2 n).length - q + i) 0), ?_⟩
      show va_up (hp_ar h) (hp_nx h) _ (κ.1 4 n) _ = _
      rw [va_up_ne _ _ (by omega)]
      exact K.tim hn hk (by omega)
    · refine hp_aload_nR C dX3_makeRoom_50 rfl ?_
      refine hp_aload_nR C dX3_makeRoom_51 rfl ?_
      refine hp_putf C fl_X3_9_3 rfl rfl rfl dX3_makeRoom_52 ((K.isR hn hk).mkA 0 (hp_ln h (κ.1 4 n) * 2) (.int 0)) ?_
      refine hp_aload_nR C dX3_makeRoom_55 rfl ?_
      refine hp_iload_n C dX3_makeRoom_56 rfl ?_
      refine hp_putf C fl_X3_15_3 rfl rfl rfl dX3_makeRoom_57 ((K.isR hn hk).mkA 0 (hp_ln h (κ.1 4 n) * 2) (.int 0)) ?_
      refine hp_vret C hr dX3_makeRoom_60 ?_
      refine ⟨rfl, _, _, K.mrA hS AA (hp_dlt C) hn hk hful hq, ?_, fun r hr => va_up_ne _ _ hr⟩
      show (va_up κ.2.2 n ((κ.2.2 n).drop ((κ.2.2 n).length - q)) n).length < va_up (hp_ln h) (hp_nx h) _ (va_up κ.1 4 (va_up (κ.1 4) n (hp_nx h)) 4 n)
      rw [va_up_self, va_up_self, va_up_self, va_up_self, k_dropL hle]
      omega
theorem k_ago {t : Nat} (h : t < 2 ^ 30) : (nI t - 1000 : Int32).toInt = (t : Int) - 1000 := by
  have e1 := nI_toInt (n := t) (by omega)
  have e3 : (1000 : Int32).toInt = 1000 := by decide
  rw [Int32.toInt_sub, e1, e3]
  exact Int.bmod_eq_of_le (by omega) (by omega)
set_option maxRecDepth 20000 in
set_option maxHeartbeats 4000000 in
theorem kc_add {l : Launch} {G : hpG} {pr : Nat → Prop} {B : hpT} {N S : Nat} {h : hpT} {κ : kS} {a : aS} {d : Nat} (K : KR G pr B N S h κ a) {n : Nat} (AA : a_A a) (hn : n < a_mk a) (hk : a_nd a 0 n = 1) (htm : a_tm a < 2 ^ 30) (hN : N + 1 ≤ hp_n0 G + hp_LC) (hS : S ≤ hp_LS) (hd : 2 ≤ d) : hp_C l G yX3_add (.code yX3_add cX3_add 2 none) d [.ref (κ.1 3 n), .int (nI (a_tm a))] (h) (fun v h' => v = none ∧ ∃ γ' ρ', KR G pr B (N + 1) (S + 4) h' (γ', κ.2.1, ρ') (a_srt a n (a_rt a n ++ [a_tm a])) ∧ ∀ r, r ≠ 4 → γ' r = κ.1 r) (fun _ _ => False) := by
  have hI := K.isI hn hk
  have hI2 := K.isI2 hn hk
  have hL := K.tl hn hk
  refine hp_ofV (by decide) (by simp [Value.category]) (Nat.le_of_ble_eq_true rfl) (fun M C hr hx el => ?_)
  refine hp_aload_nR C dX3_add_0 rfl ?_
  refine hp_get C fl_X3_15_3 dX3_add_1 (K.isR hn hk) (K.f97 hn hk) ?_
  refine hp_aload_nR C dX3_add_4 rfl ?_
  refine hp_get C fl_X3_9_3 dX3_add_5 (K.isR hn hk) (K.f96 hn hk) ?_
  refine hp_alen C 0 rfl (by decide) dX3_add_8 hI.1 ?_
  refine hp_icmp_lt (tgt := 21) C dX3_add_9 (by decide) (fun c_9 => ?_) (fun c_9 => ?_)
  · have hin : (κ.2.2 n).length < hp_ln h (κ.1 4 n) := (nI_ltI (by omega) (by omega)).mp c_9
    refine hp_aload_nR C dX3_add_21 rfl ?_
    refine hp_get C fl_X3_9_3 dX3_add_22 (K.isR hn hk) (K.f96 hn hk) ?_
    refine hp_aload_nR C dX3_add_25 rfl ?_
    refine hp_get C fl_X3_15_3 dX3_add_26 (K.isR hn hk) (K.f97 hn hk) ?_
    refine hp_iload_n C dX3_add_29 rfl ?_
    refine hp_iast C dX3_add_30 (K.isI hn hk).1 (nI_in hin (by omega)) ?_
    rw [nI_clamp (by omega)]
    refine hp_aload_nR C dX3_add_31 rfl ?_
    refine hp_dup C dX3_add_32 rfl ?_
    refine hp_get C fl_X3_15_3 dX3_add_33 (K.isR hn hk) (K.f97 hn hk) ?_
    refine hp_iconst (v := 1) C dX3_add_36 (by decide) ?_
    refine hp_iadd C dX3_add_37 ?_
    rw [nI_1]
    refine hp_putf C fl_X3_15_3 rfl rfl rfl dX3_add_38 (K.isR hn hk) ?_
    refine hp_vret C hr dX3_add_41 ?_
    exact ⟨rfl, _, _, k_more (K.mad (hp_dlt C) hn hk hin) (Nat.le_succ N), fun r hr => va_up_ne _ _ hr⟩
  · have hful : (κ.2.2 n).length = hp_ln h (κ.1 4 n) := by
      have := (not_congr (nI_ltI (by omega) (by omega))).mp c_9
      have := hI.2
      omega
    refine hp_aload_nR C dX3_add_12 rfl ?_
    refine hp_iload_n C dX3_add_13 rfl ?_
    refine hp_sipush (v := 1000) C dX3_add_14 (by decide) ?_
    refine hp_isub C dX3_add_17 ?_
    refine hp_callV (ci := 3) C ml_X3_19 im_X3_makeRoom se_X3_makeRoom rfl (by decide) (kc_room (d := d - 1) K AA hn hk htm hful (k_ago htm) hN hS (by omega)) (by omega) dX3_add_18 (K.isR hn hk) rfl rfl (by simp [Value.category]) (fun v_18 h_18 hp => ?_) (fun _ _ hf => hf.elim)
    obtain ⟨rfl, γ1, ρ1, K_18, hin, g1⟩ := hp
    have hL1 := K_18.tl hn hk
    have hI3 := K_18.isI2 hn hk
    have hin2 : (ρ1 n).length < 2 ^ 30 := by
      have q2 : 2 ≤ hp_ln h_18 (γ1 4 n) ∧ hp_ln h_18 (γ1 4 n) ≤ 16777216 := hI3
      omega
    refine hp_aload_nR C dX3_add_21 (show some (Value.ref (κ.1 3 n)) = some (Value.ref (γ1 3 n)) from by rw [g1 3 (by decide)]) ?_
    refine hp_get C fl_X3_9_3 dX3_add_22 (K_18.isR hn hk) (K_18.f96 hn hk) ?_
    refine hp_aload_nR C dX3_add_25 (show some (Value.ref (κ.1 3 n)) = some (Value.ref (γ1 3 n)) from by rw [g1 3 (by decide)]) ?_
    refine hp_get C fl_X3_15_3 dX3_add_26 (K_18.isR hn hk) (K_18.f97 hn hk) ?_
    refine hp_iload_n C dX3_add_29 rfl ?_
    refine hp_iast C dX3_add_30 (K_18.isI hn hk).1 (nI_in hin (by omega)) ?_
    rw [nI_clamp (Nat.lt_trans hin2 (by decide))]
    refine hp_aload_nR C dX3_add_31 (show some (Value.ref (κ.1 3 n)) = some (Value.ref (γ1 3 n)) from by rw [g1 3 (by decide)]) ?_
    refine hp_dup C dX3_add_32 rfl ?_
    refine hp_get C fl_X3_15_3 dX3_add_33 (K_18.isR hn hk) (K_18.f97 hn hk) ?_
    refine hp_iconst (v := 1) C dX3_add_36 (by decide) ?_
    refine hp_iadd C dX3_add_37 ?_
    rw [nI_1]
    refine hp_putf C fl_X3_15_3 rfl rfl rfl dX3_add_38 (K_18.isR hn hk) ?_
    refine hp_vret C hr dX3_add_41 ?_
    exact ⟨rfl, _, _, K_18.mad (hp_dlt C) hn hk hin, fun r hr => (va_up_ne _ _ hr).trans (g1 r hr)⟩
