/-! ===== the reference: goes ===== -/
section RBG
variable {s : moS} {a : aS} {ex : Nat}
/-- place t of p's row is taken out -/
theorem rb_R.er (x : rb_R s a ex) {p t : Nat} (hp : p < 80) (ht : t < (a_rw a p).length) : rb_R (mo_g1 s p t (a_rw a p).length) (a_sr a p ((a_rw a p).eraseIdx t)) ex := by
  obtain ⟨x1, x2, x3, x4, x5, x6, x7, x8, x9⟩ := x
  have ne : ∀ k, k ≠ 14 → k ≠ 15 → (mo_g1 s p t (a_rw a p).length).2 k = s.2 k := fun k h1 h2 => mo_g1_ne h1 h2
  have e15 : ∀ n, (mo_g1 s p t (a_rw a p).length).2 15 n = if n = p then nI (a_rw a p).length - 1 else s.2 15 n := fun n => by
    have hX : (mo_rb s p (mo_shf (fun j => s.2 14 (80 * p + j)) t ((a_rw a p).length - 1))).2 15 = s.2 15 := mo_rb_ne (by decide)
    show va_up (mo_rb s p (mo_shf (fun j => s.2 14 (80 * p + j)) t ((a_rw a p).length - 1))).2 15 (va_up ((mo_rb s p (mo_shf (fun j => s.2 14 (80 * p + j)) t ((a_rw a p).length - 1))).2 15) p (nI (a_rw a p).length - 1)) 15 n = _
    rw [va_up_self, hX]
    by_cases e : n = p
    · rw [e, va_up_self, if_pos rfl]
    · rw [va_up_ne _ _ e, if_neg e]
  have e14 : ∀ q, (mo_g1 s p t (a_rw a p).length).2 14 q = (mo_rb s p (mo_shf (fun j => s.2 14 (80 * p + j)) t ((a_rw a p).length - 1))).2 14 q := fun q => by
    show va_up (mo_rb s p (mo_shf (fun j => s.2 14 (80 * p + j)) t ((a_rw a p).length - 1))).2 15 (va_up ((mo_rb s p (mo_shf (fun j => s.2 14 (80 * p + j)) t ((a_rw a p).length - 1))).2 15) p (nI (a_rw a p).length - 1)) 14 q = _
    rw [va_up_ne _ _ (by decide)]
  refine ⟨x1, x2, x3, x4, x5, fun f n hf hn => ?_, fun n hn => ?_, fun i hi q hq => ?_, fun n hn => ?_⟩
  · rw [ne _ (by omega) (by omega)]
    exact x6 f n hf hn
  · obtain ⟨y1, y2, y3⟩ := x7 n hn
    show _ ∧ (va_up (a_rw a) p ((a_rw a p).eraseIdx t) n).length ≤ 80 ∧ _
    by_cases e : n = p
    · subst e
      have er : a_rw (a_sr a n ((a_rw a n).eraseIdx t)) n = (a_rw a n).eraseIdx t := va_up_self _ _ _
      rw [er, va_up_self, e15, if_pos rfl, k_erL ht]
      refine ⟨?_, by omega, fun i hi => ?_⟩
      · have := nI_pred ((a_rw a n).length - 1)
        rwa [show (a_rw a n).length - 1 + 1 = (a_rw a n).length by omega] at this
      · rw [e14, mo_rb_at (by omega), k_erD]
        unfold mo_shf
        by_cases l : i < t
        · rw [if_neg (by omega), if_pos l]
          exact y3 i (by omega)
        · rw [if_pos (by omega), if_neg l]
          exact y3 (i + 1) (by omega)
    · have er : a_rw (a_sr a p ((a_rw a p).eraseIdx t)) n = a_rw a n := va_up_ne _ _ e
      rw [er, va_up_ne _ _ e, e15, if_neg e]
      refine ⟨y1, y2, fun i hi => ?_⟩
      rw [e14, mo_rb_14, if_neg (by omega)]
      exact y3 i hi
  · rw [ne 20 (by decide) (by decide)]
    exact x8 i hi q hq
  · obtain ⟨q, y⟩ := x9 n hn
    refine ⟨q, ?_⟩
    unfold rb_t
    rw [ne 17 (by decide) (by decide), ne 16 (by decide) (by decide)]
    exact y
/-- the states are replaced: none becomes up -/
theorem rb_R.sv (x : rb_R s a ex) {b : aS} {F : Nat → Int32} (h1 : a_mk b = a_mk a) (h2 : a_tm b = a_tm a) (h3 : a_ev b = a_ev a) (h4 : a_rs b = a_rs a) (h5 : a_gv b = a_gv a) (h6 : a_rw b = a_rw a) (h7 : a_rt b = a_rt a) (h8 : ∀ g, g ≠ 3 → a_nd b g = a_nd a g) (hF : ∀ n, n < 80 → F n = Int32.ofInt (a_nd b 3 n) ∧ a_sm (a_nd b 3 n) ∧ (a_nd b 3 n = 1 → a_nd a 3 n = 1)) : rb_R (mo_sv s F) b ex := by
  obtain ⟨x1, x2, x3, x4, x5, x6, x7, x8, x9⟩ := x
  have ne : ∀ k, k ≠ 5 → (mo_sv s F).2 k = s.2 k := fun k hk => mo_sv_ne hk
  refine ⟨by rw [h1]; exact x1, by rw [h2]; exact x2, by rw [h3]; exact x3, by rw [h4]; exact x4, by rw [h5]; exact x5, fun f n hf hn => ?_, fun n hn => ?_, fun i hi q hq => ?_, fun n hn => ?_⟩
  · by_cases e : f = 3
    · subst e
      rw [mo_sv_5]
      exact ⟨(hF n hn).1, (hF n hn).2.1⟩
    · rw [ne _ (by omega), h8 f e]
      exact x6 f n hf hn
  · rw [ne _ (by decide), ne _ (by decide), h6]
    exact x7 n hn
  · rw [ne _ (by decide)]
    rw [h3] at hq
    exact x8 i hi q hq
  · obtain ⟨q, y1, y2, y3, y4, dr, y5, y6⟩ := x9 n hn
    refine ⟨q, ?_⟩
    unfold rb_t
    rw [ne _ (by decide), ne _ (by decide), h7, h2, h8 7 (by decide)]
    exact ⟨y1, y2, fun e => y3 ((hF n hn).2.2 e), y4, dr, y5, fun e => y6 ((hF n hn).2.2 e)⟩
end RBG
set_option maxHeartbeats 4000000 in
theorem mc_goes {l : Launch} {G : hpG} {h H : hpT} {m d : Nat} {a : aS} {z : mrZ} (sh : mo_sh G h m) (R : MR h m H a z) (T : a_T a) (AR : a_R a) {c f : Nat} (hc : c < a_mk a) (hc0 : c ≠ 0) (h3 : ¬ a_nd a 3 c = 2) (h9 : (9 : Int) ≤ f + a_nd a 2 c) (hl : (a_ev a).length < 2 ^ 30) (hd : 2 ≤ d) : hp_C l G yX6_goes (.code yX6_goes cX6_goes 5 (some .int)) d [.ref m, .int (nI c)] H
    (fun v h' => (∃ x, v = some (.int x)) ∧ MR h m h' (a_dis f (a_pa a c) c (a_ix c (a_rw a (a_pa a c))) a).2 z) (fun _ _ => False) := by
  obtain ⟨s, rfl, r, r1, r2, r3⟩ := R
  obtain ⟨m1, m2, m3⟩ := AR.2.2.1 c hc hc0 h3
  have m80 := T.1.2
  have q1 := T.r1 hc hc0
  have epa : a_pa a c = (a_nd a 1 c).toNat := rfl
  have hp8 : a_pa a c < 80 := by omega
  obtain ⟨i1, i2, i3⟩ := a_ix_ok m1
  obtain ⟨y1, y2, y3⟩ := r.2.2.2.2.2.2.1 (a_pa a c) hp8
  have hev : mo_evk s := by
    unfold mo_evk
    rw [r.2.2.1, nI_toInt (by omega)]
    omega
  have hpar : s.2 3 c = nI (a_pa a c) := by rw [r.nd (f := 1) (by omega) (by omega), a_ofN q1.1]
  have con := mo_goes (l := l) (d := d) sh hd (a := c) (p := a_pa a c) (c := (a_rw a (a_pa a c)).length) (t := a_ix c (a_rw a (a_pa a c))) (mk := a_mk a) hc m80 r.1.1 hp8 hpar y2 y1 i1 (by rw [(y3 _ i1).1, i2]) (fun j hj e => by
    have hj' : j < (a_rw a (a_pa a c)).length := by omega
    rw [(y3 j hj').1] at e
    have := (nI_eq (by have := (y3 j hj').2; omega) (by omega)).mp e
    exact i3 j hj this) hev (fun j hj1 hj2 => by
    have qj := T.r1 (n := j) hj2 (by omega)
    rw [r.nd (f := 1) (by omega) (by omega), a_ofN qj.1]
    exact nI_in (by omega) (by omega))
  refine hp_Cw con (fun v h' hv => ⟨⟨_, hv.1⟩, _, hv.2, ?_, ?_, ?_, ?_⟩)
  · generalize hb : a_no (a_sr a (a_pa a c) ((a_rw a (a_pa a c)).eraseIdx (a_ix c (a_rw a (a_pa a c))))) 7 c 0 = b
    have rg : rb_R (mo_g2 s c (a_pa a c) (a_ix c (a_rw a (a_pa a c))) (a_rw a (a_pa a c)).length) b z.2.2.2 := by
      rw [← hb]
      exact (r.er hp8 i1).no hl
    have kb : a_k2 a b := by rw [← hb]; exact (a_k2.er a _ _).tr (a_kp.no _ _ _ _).k2
    have b3 : a_nd b 3 = a_nd a 3 := by rw [← hb]; rfl
    obtain ⟨n1, n2, n3, n4, n5⟩ := a_va_nd f c b
    have kv := a_va_kp f c b
    have ed : (a_dis f (a_pa a c) c (a_ix c (a_rw a (a_pa a c))) a).2 = (a_va f c b).2 := by unfold a_dis; rw [hb]
    rw [ed]
    refine rg.sv kv.mk n4 n3 kv.rs n5 kv.rw' n2 n1 (fun n hn => ?_)
    have sw := mo_gs_va (f := f) (p := a_pa a c) (t := a_ix c (a_rw a (a_pa a c))) r T AR hc h3 hc0 rfl hb.symm h9 (a_mk a - (c + 1)) (by omega) n hn
    have V := a_va_st f c n b
    have hsm : a_sm (a_nd (a_va f c b).2 3 n) := by
      rw [V, b3]
      split
      · omega
      · exact r.sm (f := 3) (by omega) hn
    refine ⟨?_, hsm, fun e => ?_⟩
    · show (mo_gz s c (a_mk a)).1 n = _
      unfold mo_gz
      rw [sw]
      by_cases l : n < c + 1 + (a_mk a - (c + 1))
      · rw [if_pos l]
      · rw [if_neg l, V, if_neg, b3]
        intro vm
        have hcb : c < a_mk b := by rw [kb.mk]; exact hc
        have := (a_vm_up (kb.T T) (by rw [kb.nd]; exact AR.1) f c n hcb vm).1
        rw [kb.mk] at this
        omega
    · rw [V] at e
      split at e
      · cases e
      · exact e
  · rw [mo_sv_ne (by decide), mo_g2_ne (by decide) (by decide) (by decide)]
    exact r1
  · rw [mo_sv_ne (by decide), mo_g2_ne (by decide) (by decide) (by decide)]
    exact r2
  · show (mo_g2 s c _ _ _).1 0 = _
    unfold mo_g2
    rw [mo_note_1 (by decide)]
    exact r3
