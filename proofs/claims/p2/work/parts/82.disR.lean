/-! ===== a node that goes leaves the rows in order ===== -/
theorem k_getD {L : List Nat} {i : Nat} (h : i < L.length) : L[i]? = some (L.getD i 0) := by
  rw [List.getD_eq_getElem?_getD, List.getElem?_eq_getElem h]
  rfl
theorem k_erM {L : List Nat} {t x : Nat} (ht : t < L.length) (hx : x ∈ L) (hne : x ≠ L.getD t 0) : x ∈ L.eraseIdx t := by
  obtain ⟨i, hi⟩ := List.getElem?_of_mem hx
  refine List.mem_eraseIdx_iff_getElem?.mpr ⟨i, fun e => ?_, hi⟩
  subst e
  rw [k_getD ht] at hi
  exact hne (Option.some.inj hi).symm
theorem k_erN {L : List Nat} {t : Nat} (hd : L.Nodup) (ht : t < L.length) : L.getD t 0 ∉ L.eraseIdx t := by
  intro h
  obtain ⟨i, hne, hi⟩ := List.mem_eraseIdx_iff_getElem?.mp h
  have e : L[t]? = L[i]? := by rw [k_getD ht, hi]
  exact hne ((List.getElem?_inj ht hd).mp e).symm
theorem a_dis_R {a : aS} (T : a_T a) (AR : a_R a) {c f : Nat} (hc : c < a_mk a) (hc0 : c ≠ 0) (h3 : ¬ a_nd a 3 c = 2) (h9 : (9 : Int) ≤ f + a_nd a 2 c) : a_R (a_dis f (a_pa a c) c (a_ix c (a_rw a (a_pa a c))) a).2 ∧ (∀ n, a_nd (a_dis f (a_pa a c) c (a_ix c (a_rw a (a_pa a c))) a).2 3 n = 2 ∨ a_nd (a_dis f (a_pa a c) c (a_ix c (a_rw a (a_pa a c))) a).2 3 n = a_nd a 3 n) ∧ (∀ n, n < c → a_nd (a_dis f (a_pa a c) c (a_ix c (a_rw a (a_pa a c))) a).2 3 n = a_nd a 3 n) ∧ a_rt (a_dis f (a_pa a c) c (a_ix c (a_rw a (a_pa a c))) a).2 = a_rt a := by
  obtain ⟨m1, m2, m3⟩ := AR.2.2.1 c hc hc0 h3
  have m80 := T.1.2
  have q1 := T.r1 hc hc0
  have q2 := T.r2 hc
  have epa : a_pa a c = (a_nd a 1 c).toNat := rfl
  generalize hp : a_pa a c = p at *
  have hpm : p < a_mk a := by omega
  obtain ⟨i1, i2, i3⟩ := a_ix_ok m1
  generalize ht : a_ix c (a_rw a p) = t at *
  generalize hb : a_no (a_sr a p ((a_rw a p).eraseIdx t)) 7 c 0 = b
  have kb : a_k2 a b := by rw [← hb]; exact (a_k2.er a _ _).tr (a_kp.no _ _ _ _).k2
  have Tb := kb.T T
  have b3 : a_nd b 3 = a_nd a 3 := by rw [← hb]; rfl
  have b11 : a_nd b 11 = a_nd a 11 := by rw [← hb]; rfl
  have brt : a_rt b = a_rt a := by rw [← hb]; rfl
  have brw : a_rw b = va_up (a_rw a) p ((a_rw a p).eraseIdx t) := by rw [← hb]; rfl
  have b02 : a_nd b 2 0 = 0 := by rw [kb.nd]; exact AR.1
  have hcb : c < a_mk b := by rw [kb.mk]; exact hc
  obtain ⟨n1, n2, n3, n4, n5⟩ := a_va_nd f c b
  have kv := a_va_kp f c b
  have ed : (a_dis f p c t a).2 = (a_va f c b).2 := by unfold a_dis; rw [hb]
  have V : ∀ n, a_nd (a_va f c b).2 3 n = if a_vm b f c n = true then 2 else a_nd a 3 n := fun n => by rw [a_va_st, b3]
  have inb : ∀ x n, x ∈ a_rw b n → x ∈ a_rw a n := fun x n hx => by
    rw [brw] at hx
    by_cases e : n = p
    · rw [e, va_up_self] at hx
      rw [e]
      exact List.mem_of_mem_eraseIdx hx
    · rw [va_up_ne _ _ e] at hx
      exact hx
  have ina : ∀ x n, x ∈ a_rw a n → x ≠ c → x ∈ a_rw b n := fun x n hx hxc => by
    rw [brw]
    by_cases e : n = p
    · rw [e, va_up_self]
      rw [e] at hx
      exact k_erM i1 hx (by rw [i2]; exact hxc)
    · rw [va_up_ne _ _ e]
      exact hx
  have noc : ∀ n, n < a_mk a → c ∉ a_rw b n := fun n hn hx => by
    have h1 := (T.rc hn (inb c n hx)).2.1
    have en : n = p := by omega
    subst en
    rw [brw, va_up_self] at hx
    have := k_erN (T.nd hn) i1
    rw [i2] at this
    exact this hx
  have vc : a_vm b f c c = true := by
    cases f with
    | zero => omega
    | succ f =>
      unfold a_vm
      simp
  rw [ed]
  refine ⟨⟨?_, ?_, fun n hn h0 h2 => ?_, fun n x hn hx h2 => ?_, fun n hn h8 => ?_⟩, fun n => ?_, fun n hn => ?_, n2.trans brt⟩
  · rw [n1 2 (by decide)]; exact b02
  · rw [n1 0 (by decide), kb.nd]; exact AR.2.1
  · rw [kv.mk, kb.mk] at hn
    have ep : a_pa (a_va f c b).2 n = a_pa a n := by show (a_nd (a_va f c b).2 1 n).toNat = (a_nd a 1 n).toNat; rw [n1 1 (by decide), kb.nd]
    rw [ep, kv.rw', n1 0 (by decide), kb.nd]
    rw [V] at h2
    by_cases vn : a_vm b f c n = true
    · rw [if_pos vn] at h2; exact absurd rfl h2
    · rw [if_neg vn] at h2
      obtain ⟨w1, w2, w3⟩ := AR.2.2.1 n hn h0 h2
      have hnc : n ≠ c := fun e => vn (by rw [e]; exact vc)
      have hin := ina n _ w1 hnc
      refine ⟨hin, w2, ?_⟩
      rw [V]
      by_cases vp : a_vm b f c (a_pa a n) = true
      · exfalso
        have r1 := T.r1 hn h0
        have epn : a_pa a n = (a_nd a 1 n).toNat := rfl
        exact vn (a_vm_down Tb f c _ n hcb (by rw [kb.nd]; exact h9) vp (by rw [kb.mk]; omega) hin)
      · rw [if_neg vp]; exact w3
  · rw [kv.mk, kb.mk] at hn
    rw [kv.rw'] at hx
    rw [V] at h2 ⊢
    by_cases vn : a_vm b f c n = true
    · rw [if_pos vn] at h2; exact absurd rfl h2
    · rw [if_neg vn] at h2
      have hxa := inb x n hx
      by_cases vx : a_vm b f c x = true
      · exfalso
        obtain ⟨u1, u2, u3⟩ := a_vm_up Tb b02 f c x hcb vx
        rcases u3 with u3 | ⟨y, y1, y2, y3⟩
        · subst u3
          exact noc n hn hx
        · rw [kb.mk] at y1
          have e1 := (T.rc y1 (inb x y y2)).2.1
          have e2 := (T.rc hn hxa).2.1
          have : y = n := by omega
          subst this
          exact vn y3
      · rw [if_neg vx]
        exact AR.2.2.2.1 n x hn hxa h2
  · rw [kv.mk, kb.mk] at hn
    obtain ⟨w1, w2, w3⟩ := AR.2.2.2.2 n hn h8
    refine ⟨fun g hg => ?_, ?_, by rw [n2, brt]; exact w3⟩
    · by_cases e : g = 3
      · subst e
        rw [V]
        have hv : ¬ a_vm b f c n = true := fun vm => by
          have := (a_vm_up Tb b02 f c n hcb vm).1
          rw [kb.mk] at this
          omega
        rw [if_neg hv]
        exact w1 3 hg
      · rw [n1 g e]
        by_cases e11 : g = 11
        · subst e11
          rw [b11]
          exact w1 11 hg
        · rw [kb.nd e e11]
          exact w1 g hg
    · rw [kv.rw', brw, va_up_ne _ _ (by omega)]
      exact w2
  · rw [V]
    by_cases vn : a_vm b f c n = true
    · rw [if_pos vn]; exact Or.inl rfl
    · rw [if_neg vn]; exact Or.inr rfl
  · rw [V, if_neg]
    intro vm
    have := (a_vm_up Tb b02 f c n hcb vm).2.1
    omega
