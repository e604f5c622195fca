/-! ===== the potential of restarts and of handling ===== -/
theorem a_dis_pw (f p c t : Nat) (a : aS) (hc : c < 80) (h : ¬ a_nd a 3 c = 2) : a_w (a_dis (f + 1) p c t a).2 ≤ a_w a := by
  obtain ⟨n1, n2, n3, n4, n5⟩ := a_va_nd (f + 1) c (a_no (a_sr a p ((a_rw a p).eraseIdx t)) 7 c 0)
  have V : ∀ n, a_nd (a_dis (f + 1) p c t a).2 3 n = if a_vm (a_no (a_sr a p ((a_rw a p).eraseIdx t)) 7 c 0) (f + 1) c n = true then 2 else a_nd a 3 n := fun n => a_va_st (f + 1) c n _
  have vc : a_vm (a_no (a_sr a p ((a_rw a p).eraseIdx t)) 7 c 0) (f + 1) c c = true := by
    unfold a_vm
    simp
  have c1 := a_ci_mono (a_dis_dn (f + 1) p c t a) 80
  have c2 := a_ci_out (a := (a_dis (f + 1) p c t a).2) (b := a) (s := 2) (n := c) (fun m hm => by rw [V]; split; rfl; exact hm) (by rw [V, if_pos vc]) h 80 hc
  have c3 := a_ci_80 (a_dis (f + 1) p c t a).2 2
  have et : a_tm (a_dis (f + 1) p c t a).2 = a_tm a := n4
  have ee : (a_ev (a_dis (f + 1) p c t a).2).length = (a_ev a).length + 1 := by
    have : a_ev (a_dis (f + 1) p c t a).2 = a_ev a ++ [(7, c, a_tm a, 0)] := n3
    rw [this, List.length_append]
    rfl
  unfold a_w a_u
  rw [et, ee]
  omega
theorem a_rl_pw {a : aS} (I : a_I a) {f p c t : Nat} (hc : c < a_mk a) (hu : a_nd a 3 c = 1) : a_w (a_rl (f + 1) p c t a) ≤ a_w a := by
  have kg := a_ce_gk false (f + 1) c a I.1 hc (by omega)
  have w1 := a_ce_pw false (f + 1) c a I.1 I.2.1.1 hc hu
  unfold a_rl
  split
  · exact Nat.le_trans (a_dis_pw f p c t _ (Nat.lt_of_lt_of_le hc I.1.1.2) (by rw [kg.2.1]; omega)) w1
  · exact w1
theorem a_rF_pw {f p fr : Nat} : ∀ (j : Nat) (a : aS), a_I a → p < a_mk a → ¬ a_nd a 3 p = 2 → (8 : Int) ≤ (f + 1 : Nat) + a_nd a 2 p → j ≤ (a_rw a p).length → a_w (a_rF (f + 1) p fr j a) ≤ a_w a
  | 0, _, _, _, _, _, _ => Nat.le_refl _
  | j + 1, a, I, hp, h3, h8, hj => by
    unfold a_rF
    split
    · exact Nat.le_refl _
    · by_cases hu : a_nd a 3 ((a_rw a p).getD j 0) = 1
      · rw [if_pos hu]
        have hjl : j < (a_rw a p).length := by omega
        obtain ⟨y1, y2⟩ := a_rl_I (f := f + 1) I hp h3 h8 hjl
        have k := a_rl_k2 (f + 1) p ((a_rw a p).getD j 0) j a
        have hl := (a_rl_len (f + 1) p ((a_rw a p).getD j 0) j a).1
        exact Nat.le_trans (a_rF_pw j _ y1 (by rw [k.mk]; exact hp) (by rw [y2]; exact h3) (by rw [k.nd]; exact h8) (by omega)) (a_rl_pw I (I.1.rc hp (k_rc I.1 hp hjl)).1 hu)
      · rw [if_neg hu]
        exact a_rF_pw j a I hp h3 h8 (by omega)
theorem a_sF_pt {f p : Nat} (hf9 : f ≤ 9) {l : List Nat} {b : aS} (x : a_U b) (I : a_I b) (hp : p < a_mk b) (hg : ¬ a_nd b 3 p = 2) (hd : l.Nodup) (hl : ∀ c ∈ l, c ∈ a_rw b p ∧ ¬ a_nd b 3 c = 1 ∧ (9 : Int) ≤ f + a_nd b 2 c) : a_w (a_sF (a_go f) l b).2 ≤ a_w b + 17800 := by
  have z := a_sF_pw (f := f) (n := p) (d := a_nd b 2 p) (E := fun y => y = p) rfl (fun c b Tb Rb h1 h2 h3 h4 h5 h6 h7 => a_go_pw f c (fun y => y = p) b Tb Rb h1 h2 h3 h4 h5 h6 h7) l b I.1 I.2.1 hd (fun y hy => by rw [hy]; omega) (fun c hc => by
    obtain ⟨c1, c2, c3⟩ := hl c hc
    obtain ⟨d1, d2, d3, d4, d5⟩ := a_kid I.1 I.2.1.1 hp c1
    exact ⟨d4, I.2.1.2.2.2.1 p c hp c1 hg, c3, c2, d5, Or.inr d3, d3⟩) (fun m hm hm0 hum => Or.inl (a_U.up x hm hm0 hum))
  have u8 : a_u (a_sF (a_go f) l b).2 ≤ 80 := a_ci_80 _ 1
  cases hs : (a_sF (a_go f) l b).1 with
  | none =>
    have := (z.1 hs).2
    omega
  | some c =>
    have := z.2 (by rw [hs]; exact fun q => by cases q)
    omega
theorem a_rd_pw {a : aS} (x : a_U a) (I : a_I a) {f p due : Nat} (hf9 : f + 1 ≤ 9) (hp : p < a_mk a) (hu : a_nd a 3 p = 1) (h8 : (8 : Int) ≤ (f + 1 : Nat) + a_nd a 2 p) (hd : due ∈ a_rw a p) (hdn : ¬ a_nd a 3 due = 1) : a_w (a_rd (f + 1) p due a).2 ≤ a_w a + 17800 := by
  have h3 : ¬ a_nd a 3 p = 2 := by omega
  by_cases h5 : a_nd a 5 p = 0
  · have e : a_rd (f + 1) p due a = a_sF (a_go (f + 1)) [due] a := by
      unfold a_rd
      rw [if_pos h5]
      unfold a_sF
      split <;> rfl
    rw [e]
    have kd := a_kid I.1 I.2.1.1 hp hd
    exact a_sF_pt hf9 x I hp h3 (List.nodup_cons.mpr ⟨List.not_mem_nil, List.nodup_nil⟩) (fun c hc => by
      rw [List.mem_singleton.mp hc]
      exact ⟨hd, hdn, by omega⟩)
  · generalize hfr : (if a_nd a 5 p = 1 then 0 else a_ix due (a_rw a p)) = fr
    have e : a_rd (f + 1) p due a = a_sF (a_go (f + 1)) ((a_rw (a_rF (f + 1) p fr (a_rw a p).length a) p).drop fr) (a_rF (f + 1) p fr (a_rw a p).length a) := by
      unfold a_rd
      rw [if_neg h5, hfr]
    rw [e]
    obtain ⟨y1, y2⟩ := a_rF_I (f := f + 1) (p := p) (fr := fr) (a_rw a p).length a I hp h3 h8 (Nat.le_refl _)
    obtain ⟨u1, u2, u3⟩ := a_rF_U (f := f + 1) (p := p) (fr := fr) (a_rw a p).length a x I hp h3 h8 (Nat.le_refl _) (fun i h1 hi => absurd hi (by omega))
    have k := a_rF_k2 (f + 1) p fr (a_rw a p).length a
    have hw := a_rF_pw (f := f) (p := p) (fr := fr) (a_rw a p).length a I hp h3 h8 (Nat.le_refl _)
    have hp2 : p < a_mk (a_rF (f + 1) p fr (a_rw a p).length a) := by rw [k.mk]; exact hp
    generalize a_rF (f + 1) p fr (a_rw a p).length a = b at *
    have := a_sF_pt (f := f + 1) (p := p) hf9 (l := (a_rw b p).drop fr) u1 y1 hp2 (by rw [y2]; exact h3) ((y1.1.nd hp2).sublist (List.drop_sublist _ _)) (fun c hc => by
      obtain ⟨i, hi⟩ := List.getElem?_of_mem hc
      rw [List.getElem?_drop] at hi
      have hil : fr + i < (a_rw b p).length := (List.getElem?_eq_some_iff.mp hi).1
      have ec : (a_rw b p).getD (fr + i) 0 = c := by rw [List.getD_eq_getElem?_getD, hi]; rfl
      have hm := List.mem_of_mem_drop hc
      have kd := a_kid y1.1 y1.2.1.1 hp2 hm
      refine ⟨hm, ?_, ?_⟩
      · rw [← ec]
        exact u3 (fr + i) (Nat.le_add_right _ _) hil
      · rw [kd.2.2.2.2, k.nd]
        omega)
    omega
theorem a_gu_pw {a : aS} (I : a_I a) {f p : Nat} (hp : p < a_mk a) (h3 : ¬ a_nd a 3 p = 2) : a_w (a_gu f p a) ≤ a_w a + 10 ∧ a_nd (a_gu f p a) 11 = a_nd a 11 := by
  have kg := (a_gu_gk (f := f) I.1 hp h3).g
  have k0 := a_gk.no a 6 p 0
  have wc := a_cR_pw (k := false) (f := f) (a_ce_pw false f) (a_rw a p).reverse (a_no a 6 p 0) (k0.1.T I.1) I.2.1.1 (fun c hc => (I.1.rc hp (List.mem_reverse.mp hc)).1)
  have w0 : a_w (a_no a 6 p 0) = a_w a + 10 := by
    have e1 : a_ci (a_no a 6 p 0) 1 80 = a_ci a 1 80 := a_ci_eq (fun _ => Iff.rfl) 80
    have e2 : a_ci (a_no a 6 p 0) 2 80 = a_ci a 2 80 := a_ci_eq (fun _ => Iff.rfl) 80
    have ee : (a_ev (a_no a 6 p 0)).length = (a_ev a).length + 1 := by
      show (a_ev a ++ [_]).length = _
      rw [List.length_append]
      rfl
    have et : a_tm (a_no a 6 p 0) = a_tm a := rfl
    unfold a_w a_u
    rw [e1, e2, ee, et]
    omega
  have kc := (k0.tr (a_cR_gk (fun c b Tb hc h1 => a_ce_gk false f c b Tb hc (by omega)) (a_rw a p).reverse (a_no a 6 p 0) (k0.1.T I.1) (fun c hc => (I.1.rc hp (List.mem_reverse.mp hc)).1))).g
  refine ⟨?_, (a_nd_sne (f := 3) (g := 11) _ p 0 (by decide)).trans (a_cR_11 (a_ce_11 false f) _ _)⟩
  unfold a_gu at kg ⊢
  generalize (a_cR (a_ce false f) (a_rw a p).reverse (a_no a 6 p 0)).2 = e at *
  have c1 := a_ci_mono (a := e) (b := a_sn e 3 p 0) (s := 1) (fun m h => by
    rw [a_nd_sn3] at h
    split at h
    · cases h
    · exact h) 80
  have et : a_tm (a_sn e 3 p 0) = a_tm e := rfl
  have ee : a_ev (a_sn e 3 p 0) = a_ev e := rfl
  have we : a_w (a_sn e 3 p 0) ≤ a_w e := by
    unfold a_w a_u
    rw [kg, kc, et, ee]
    omega
  omega
