/-! ===== restarts keep it ===== -/
abbrev a_U (a : aS) : Prop := a_Us (fun _ => False) a
theorem a_U.up {a : aS} (x : a_U a) {m : Nat} (hm : m < a_mk a) (h0 : m ≠ 0) (hu : a_nd a 3 m = 1) : a_nd a 3 (a_pa a m) = 1 := (x m hm h0 hu).resolve_right id
theorem a_dis_dn (f p c t : Nat) (a : aS) : a_dn a (a_dis f p c t a).2 := fun m h => by
  unfold a_dis at h
  rw [a_va_st] at h
  split at h
  · cases h
  · exact h
theorem a_rl_dn (f p c t : Nat) (a : aS) : a_dn a (a_rl f p c t a) := by
  unfold a_rl
  split
  · exact (a_ce_dn false f c a).tr (a_dis_dn f p c t _)
  · exact a_ce_dn false f c a
theorem a_U.dis {a : aS} (x : a_U a) (I : a_I a) {c f : Nat} (hc : c < a_mk a) (hc0 : c ≠ 0) (h3 : ¬ a_nd a 3 c = 2) (h9 : (9 : Int) ≤ f + a_nd a 2 c) : a_U (a_dis f (a_pa a c) c (a_ix c (a_rw a (a_pa a c))) a).2 := by
  have k := a_dis_k2 f (a_pa a c) c (a_ix c (a_rw a (a_pa a c))) a
  obtain ⟨d1, d2, d3, d4⟩ := a_dis_R I.1 I.2.1 hc hc0 h3 h9
  generalize (a_dis f (a_pa a c) c (a_ix c (a_rw a (a_pa a c))) a).2 = b at *
  intro m hm hm0 hu
  have hm' := hm
  rw [k.mk] at hm'
  have ep : a_pa b m = a_pa a m := by show (a_nd b 1 m).toNat = (a_nd a 1 m).toNat; rw [k.nd]
  have hua : a_nd a 3 m = 1 := by
    rcases d2 m with q | q
    · omega
    · rw [q] at hu; exact hu
  have hp := x.up hm' hm0 hua
  have hg := (d1.2.2.1 m hm hm0 (by omega)).2.2
  left
  rcases d2 (a_pa b m) with q | q
  · exact absurd q hg
  · rw [q, ep]; exact hp
theorem a_rl_U {a : aS} (x : a_U a) (I : a_I a) {f p j : Nat} (hp : p < a_mk a) (h3 : ¬ a_nd a 3 p = 2) (h8 : (8 : Int) ≤ f + a_nd a 2 p) (hj : j < (a_rw a p).length) : a_U (a_rl f p ((a_rw a p).getD j 0) j a) ∧ a_lo (p + 1) a (a_rl f p ((a_rw a p).getD j 0) j a) ∧ ¬ a_nd (a_rl f p ((a_rw a p).getD j 0) j a) 3 ((a_rw a p).getD j 0) = 1 := by
  have T := I.1
  have AR := I.2.1
  have hm := k_rc T hp hj
  have hix := a_ix_at (T.nd hp) hj
  obtain ⟨d1, d2, d3, d4, d5⟩ := a_kid T AR.1 hp hm
  have hg := AR.2.2.2.1 p _ hp hm h3
  generalize hc : (a_rw a p).getD j 0 = c at *
  have k := a_ce_gk false f c a T d4 hg
  have lo := (a_ce_lo false f c a T AR.1 d4).le (show p + 1 ≤ c by omega)
  obtain ⟨u1, u2⟩ := a_ce_Us false f c a T AR d4 hg (by omega) x
  unfold a_rl
  split
  · have epa : a_pa (a_ce false f c a).2 c = p := by
      show (a_nd (a_ce false f c a).2 1 c).toNat = p
      rw [k.1.nd]
      exact d3
    have hI : a_I (a_ce false f c a).2 := I.gk k
    have hc' : c < a_mk (a_ce false f c a).2 := by rw [k.1.mk]; exact d4
    have hg' : ¬ a_nd (a_ce false f c a).2 3 c = 2 := by rw [k.2.1]; exact hg
    have h9 : (9 : Int) ≤ f + a_nd (a_ce false f c a).2 2 c := by rw [k.1.nd]; omega
    have ix : a_ix c (a_rw (a_ce false f c a).2 p) = j := by rw [k.1.rw']; exact hix
    have r1 := a_U.dis u1 hI hc' d2 hg' h9
    have r2 := (a_dis_R hI.1 hI.2.1 hc' d2 hg' h9).2.2.1
    have r3 := a_dis_dn f p c j (a_ce false f c a).2
    rw [epa, ix] at r1 r2
    refine ⟨r1, fun n hn => (r2 n (by omega)).trans (lo n hn), fun e => ?_⟩
    have := r3 c e
    omega
  · exact ⟨u1, lo, by omega⟩
theorem a_rl_row (f p j : Nat) (a : aS) : ∀ i, j ≤ i → i < (a_rw (a_rl f p ((a_rw a p).getD j 0) j a) p).length → j < (a_rw a p).length → ((a_rw (a_rl f p ((a_rw a p).getD j 0) j a) p).getD i 0 = (a_rw a p).getD i 0 ∧ i < (a_rw a p).length) ∨ ((a_rw (a_rl f p ((a_rw a p).getD j 0) j a) p).getD i 0 = (a_rw a p).getD (i + 1) 0 ∧ i + 1 < (a_rw a p).length) := by
  intro i hi hl hj
  unfold a_rl at hl ⊢
  split at hl
  · next h4 =>
    rw [if_pos h4]
    rw [a_dis_rw, va_up_self, (a_ce_kp false f _ a).rw', k_erL hj] at hl
    rw [a_dis_rw, va_up_self, (a_ce_kp false f _ a).rw', k_erD, if_neg (by omega)]
    exact Or.inr ⟨rfl, by omega⟩
  · next h4 =>
    rw [if_neg h4]
    rw [(a_ce_kp false f _ a).rw'] at hl ⊢
    exact Or.inl ⟨rfl, hl⟩
theorem a_rF_U {f p fr : Nat} : ∀ (j : Nat) (a : aS), a_U a → a_I a → p < a_mk a → ¬ a_nd a 3 p = 2 → (8 : Int) ≤ f + a_nd a 2 p → j ≤ (a_rw a p).length → (∀ i, j ≤ i → i < (a_rw a p).length → ¬ a_nd a 3 ((a_rw a p).getD i 0) = 1) → a_U (a_rF f p fr j a) ∧ a_lo (p + 1) a (a_rF f p fr j a) ∧ ∀ i, fr ≤ i → i < (a_rw (a_rF f p fr j a) p).length → ¬ a_nd (a_rF f p fr j a) 3 ((a_rw (a_rF f p fr j a) p).getD i 0) = 1
  | 0, a, x, _, _, _, _, _, hd => ⟨x, fun _ _ => rfl, fun i _ hi => hd i (Nat.zero_le _) hi⟩
  | j + 1, a, x, I, hp, h3, h8, hj, hd => by
    unfold a_rF
    by_cases hf : j < fr
    · rw [if_pos hf]
      exact ⟨x, fun _ _ => rfl, fun i h1 hi => hd i (by omega) hi⟩
    · rw [if_neg hf]
      by_cases hu : a_nd a 3 ((a_rw a p).getD j 0) = 1
      · rw [if_pos hu]
        have hjl : j < (a_rw a p).length := by omega
        obtain ⟨y1, y2⟩ := a_rl_I (f := f) I hp h3 h8 hjl
        obtain ⟨u1, u2, u3⟩ := a_rl_U (f := f) x I hp h3 h8 hjl
        have k := a_rl_k2 f p ((a_rw a p).getD j 0) j a
        have hl := (a_rl_len f p ((a_rw a p).getD j 0) j a).1
        have dn := a_rl_dn f p ((a_rw a p).getD j 0) j a
        obtain ⟨w1, w2, w3⟩ := a_rF_U (fr := fr) j _ u1 y1 (by rw [k.mk]; exact hp) (by rw [y2]; exact h3) (by rw [k.nd]; exact h8) (by omega) (fun i h1 hi e => by
          rcases a_rl_row f p j a i h1 hi hjl with ⟨q1, q2⟩ | ⟨q1, q2⟩
          · rw [q1] at e
            by_cases ei : i = j
            · subst ei
              exact u3 e
            · exact hd i (by omega) q2 (dn _ e)
          · rw [q1] at e
            exact hd (i + 1) (by omega) q2 (dn _ e))
        exact ⟨w1, u2.tr w2, w3⟩
      · rw [if_neg hu]
        exact a_rF_U (fr := fr) j a x I hp h3 h8 (by omega) (fun i h1 hi => by
          by_cases ei : i = j
          · rw [ei]; exact hu
          · exact hd i (by omega) hi)
theorem a_sF_U {f p : Nat} : ∀ (l : List Nat) (b : aS), a_U b → a_I b → p < a_mk b → a_nd b 3 p = 1 → l.Nodup → (∀ c ∈ l, c ∈ a_rw b p ∧ ¬ a_nd b 3 c = 1 ∧ (9 : Int) ≤ f + a_nd b 2 c) → a_U (a_sF (a_go f) l b).2 ∧ a_lo (p + 1) b (a_sF (a_go f) l b).2 ∧ ∀ c, (a_sF (a_go f) l b).1 = some c → a_nd (a_sF (a_go f) l b).2 3 c = 0
  | [], b, x, _, _, _, _, _ => ⟨x, fun _ _ => rfl, fun c hc => by cases hc⟩
  | c :: r, b, x, I, hp, hu, hd, hl => by
    obtain ⟨c1, c2, c3⟩ := hl c List.mem_cons_self
    obtain ⟨d1, d2, d3, d4, d5⟩ := a_kid I.1 I.2.1.1 hp c1
    have hg := I.2.1.2.2.2.1 p c hp c1 (by omega)
    have kg := a_go_gk f c b I.1 I.2.1 d4 hg
    have lo := (a_go_lo f c b I.1 I.2.1.1 d4).le (show p + 1 ≤ c by omega)
    obtain ⟨u1, u2⟩ := a_go_Us f c (fun _ => False) b I.1 I.2.1 d4 hg c3 c2 (fun _ h => h.elim) (Or.inr (Or.inl (by rw [d3]; exact hu))) x
    obtain ⟨n1, n2⟩ := List.nodup_cons.mp hd
    by_cases g : (a_go f c b).1 = true
    · have e : a_sF (a_go f) (c :: r) b = a_sF (a_go f) r (a_go f c b).2 := by rw [a_sF, if_pos g]
      rw [e]
      obtain ⟨w1, w2, w3⟩ := a_sF_U (f := f) (p := p) r _ u1 (I.gk kg) (by rw [kg.1.mk]; exact hp) (by rw [lo p (by omega)]; exact hu) n2 (fun q hq => by
        obtain ⟨e1, e2, e3⟩ := hl q (List.mem_cons_of_mem _ hq)
        have hqd := (a_kid I.1 I.2.1.1 hp e1).2.2.2.2
        have hqc : q ≠ c := fun e => n1 (by rw [← e]; exact hq)
        have s3 := a_go_ds f c b I.1 d4 q hqc (by omega)
        have s2 : a_nd (a_go f c b).2 2 q = a_nd b 2 q := by rw [kg.1.nd]
        rw [kg.1.rw', s3, s2]
        exact ⟨e1, e2, e3⟩)
      exact ⟨w1, lo.tr w2, w3⟩
    · have e : a_sF (a_go f) (c :: r) b = (some c, (a_go f c b).2) := by rw [a_sF, if_neg g]
      rw [e]
      refine ⟨u1, lo, fun q hq => ?_⟩
      cases hq
      rw [if_neg g] at u2
      exact u2
theorem a_rd_U {a : aS} (x : a_U a) (I : a_I a) {f p due : Nat} (hp : p < a_mk a) (hu : a_nd a 3 p = 1) (h8 : (8 : Int) ≤ f + a_nd a 2 p) (hd : due ∈ a_rw a p) (hdn : ¬ a_nd a 3 due = 1) : a_U (a_rd f p due a).2 ∧ a_lo (p + 1) a (a_rd f p due a).2 ∧ ∀ c, (a_rd f p due a).1 = some c → a_nd (a_rd f p due a).2 3 c = 0 := by
  by_cases h5 : a_nd a 5 p = 0
  · have e : a_rd f p due a = a_sF (a_go f) [due] a := by
      unfold a_rd
      rw [if_pos h5]
      unfold a_sF
      split <;> rfl
    rw [e]
    have kd := a_kid I.1 I.2.1.1 hp hd
    exact a_sF_U [due] a x I hp hu (List.nodup_cons.mpr ⟨List.not_mem_nil, List.nodup_nil⟩) (fun c hc => by
      rw [List.mem_singleton.mp hc]
      exact ⟨hd, hdn, by omega⟩)
  · generalize hfr : (if a_nd a 5 p = 1 then 0 else a_ix due (a_rw a p)) = fr
    have e : a_rd f p due a = a_sF (a_go f) ((a_rw (a_rF f p fr (a_rw a p).length a) p).drop fr) (a_rF f p fr (a_rw a p).length a) := by
      unfold a_rd
      rw [if_neg h5, hfr]
    rw [e]
    have h3 : ¬ a_nd a 3 p = 2 := by omega
    obtain ⟨y1, y2⟩ := a_rF_I (f := f) (p := p) (fr := fr) (a_rw a p).length a I hp h3 h8 (Nat.le_refl _)
    obtain ⟨u1, u2, u3⟩ := a_rF_U (f := f) (p := p) (fr := fr) (a_rw a p).length a x I hp h3 h8 (Nat.le_refl _) (fun i h1 hi => absurd hi (by omega))
    have k := a_rF_k2 f p fr (a_rw a p).length a
    have hp2 : p < a_mk (a_rF f p fr (a_rw a p).length a) := by rw [k.mk]; exact hp
    generalize a_rF f p fr (a_rw a p).length a = b at *
    obtain ⟨w1, w2, w3⟩ := a_sF_U (f := f) (p := p) ((a_rw b p).drop fr) b u1 y1 hp2 (by rw [y2]; exact hu) ((y1.1.nd hp2).sublist (List.drop_sublist _ _)) (fun c hc => by
      obtain ⟨i, hi⟩ := List.getElem?_of_mem hc
      rw [List.getElem?_drop] at hi
      have hil : fr + i < (a_rw b p).length := (List.getElem?_eq_some_iff.mp hi).1
      have ec : (a_rw b p).getD (fr + i) 0 = c := by rw [List.getD_eq_getElem?_getD, hi]; rfl
      have hm := List.mem_of_mem_drop hc
      have kd := a_kid y1.1 y1.2.1.1 hp2 hm
      refine ⟨hm, ?_, ?_⟩
      · rw [← ec]
        exact u3 (fr + i) (Nat.le_add_right _ _) hil
      · rw [kd.2.2.2.2, k.nd]
        omega)
    exact ⟨w1, u2.tr w2, w3⟩
theorem a_gu_U {a : aS} (x : a_U a) (I : a_I a) {f p : Nat} (hp : p < a_mk a) (h3 : ¬ a_nd a 3 p = 2) (h8 : (8 : Int) ≤ f + a_nd a 2 p) : a_U (a_gu f p a) ∧ a_lo p a (a_gu f p a) := by
  have T := I.1
  have AR := I.2.1
  have k0 := a_gk.no a 6 p 0
  have hl : ∀ c ∈ (a_rw a p).reverse, c < a_mk (a_no a 6 p 0) ∧ ¬ a_nd (a_no a 6 p 0) 3 c = 2 ∧ (9 : Int) ≤ f + a_nd (a_no a 6 p 0) 2 c := fun c hc => by
    have hc' := List.mem_reverse.mp hc
    obtain ⟨d1, d2, d3, d4, d5⟩ := a_kid T AR.1 hp hc'
    refine ⟨d4, AR.2.2.2.1 p c hp hc' h3, ?_⟩
    show (9 : Int) ≤ f + a_nd a 2 c
    omega
  have x0 : a_U (a_no a 6 p 0) := x
  obtain ⟨w1, w2⟩ := a_cR_Us (k := false) (f := f) (fun c b => a_ce_Us false f c b) (a_rw a p).reverse (a_no a 6 p 0) (k0.1.T T) (AR.gk k0) hl x0
  have kg := a_cR_gk (fun c b Tb hc h1 => a_ce_gk false f c b Tb hc (by omega)) (a_rw a p).reverse (a_no a 6 p 0) (k0.1.T T) (fun c hc => (hl c hc).1)
  have l1 := a_cR_lo (q := p) (a_ce_kp false f) (fun c b Tb hb hc hq => (a_ce_lo false f c b Tb hb hc).le hq) (a_rw a p).reverse (a_no a 6 p 0) (k0.1.T T) AR.1 (fun c hc => ⟨(hl c hc).1, by have := (a_kid T AR.1 hp (List.mem_reverse.mp hc)).1; omega⟩)
  unfold a_gu
  generalize (a_cR (a_ce false f) (a_rw a p).reverse (a_no a 6 p 0)).2 = c at *
  have erw : a_rw c = a_rw a := kg.1.rw'
  refine ⟨w1.put ((AR.gk k0).gk kg) (n := p) (fun q hq => w2 q (List.mem_reverse.mpr (by rw [erw] at hq; exact hq))) rfl (a_nd_sne (f := 3) (g := 1) c p 0 (by decide)) (fun m => a_nd_sn3 c p m 0), fun n hn => ?_⟩
  rw [a_nd_sn3, if_neg (by omega)]
  exact l1 n hn
theorem a_lp_U {f p : Nat} : ∀ (k due : Nat) (a : aS), a_U a → a_I a → p < a_mk a → a_nd a 0 p = 1 → a_nd a 3 p = 1 → (8 : Int) ≤ f + a_nd a 2 p → due ∈ a_rw a p → ¬ a_nd a 3 due = 1 → a_U (a_lp f p k due a).2 ∧ a_lo p a (a_lp f p k due a).2
  | 0, _, a, x, _, _, _, _, _, _, _ => ⟨x, fun _ _ => rfl⟩
  | k + 1, due, a, x, I, hp, hk, hu, h8, hm, hdn => by
    have xc := I.cn hp hk
    have uc : a_U (a_cn p a) := x
    have h3 : ¬ a_nd a 3 p = 2 := by omega
    by_cases hx : a_nd a 6 p < (a_rec (a_cn p a) p : Int)
    · rw [a_lp_gu hx]
      exact a_gu_U (f := f) (p := p) (a := a_sgv (a_cn p a) (a_gv a + 1)) uc (xc.gv (a_gv a + 1)) hp h3 h8
    · obtain ⟨y1, y2⟩ := a_rd_I (f := f) xc hp h3 h8 hm
      obtain ⟨u1, u2, u3⟩ := a_rd_U (f := f) uc xc hp hu h8 hm hdn
      have k2 := a_rd_k2 f p due (a_cn p a)
      cases hr1 : (a_rd f p due (a_cn p a)).1 with
      | none =>
        rw [a_lp_no hx hr1]
        exact ⟨u1, u2.le (Nat.le_succ p)⟩
      | some c =>
        rw [a_lp_so hx hr1]
        have hm2 := a_rd_mem (a := a_cn p a) hm hr1
        obtain ⟨w1, w2⟩ := a_lp_U k c _ u1 y1 (by rw [k2.mk]; exact hp) (by rw [k2.nd]; exact hk) (by rw [y2]; exact hu) (by rw [k2.nd]; exact h8) hm2 (by rw [u3 c hr1]; decide)
        exact ⟨w1, (u2.le (Nat.le_succ p)).tr w2⟩
