/-! ===== what a vanishing marks, and the reference's sweep ===== -/
/-- is n marked where c vanishes -/
def a_vm (a : aS) : Nat → Nat → Nat → Bool
  | 0, _, _ => false
  | f + 1, c, n => (n == c) || (!(a_nd a 0 c == 0) && (a_rw a c).any (fun x => a_vm a f x n))
theorem a_vm_eq {a b : aS} (hr : a_rw b = a_rw a) (hk : a_nd b 0 = a_nd a 0) : ∀ (f c n : Nat), a_vm b f c n = a_vm a f c n
  | 0, _, _ => rfl
  | f + 1, c, n => by
    unfold a_vm
    rw [hr, hk]
    have : (fun x => a_vm b f x n) = (fun x => a_vm a f x n) := funext fun x => a_vm_eq hr hk f x n
    rw [this]
theorem a_vR_st {f : Nat} (hf : ∀ (c n : Nat) (a : aS), a_nd (a_va f c a).2 3 n = if a_vm a f c n = true then 2 else a_nd a 3 n) : ∀ (l : List Nat) (n : Nat) (a : aS), a_nd (a_vR (a_va f) l a).2 3 n = if l.any (fun x => a_vm a f x n) = true then 2 else a_nd a 3 n
  | [], n, a => rfl
  | c :: r, n, a => by
    have k := a_va_kp f c a
    have e : ∀ x, a_vm (a_va f c a).2 f x n = a_vm a f x n := fun x => a_vm_eq k.rw' (k.2.2.1 0 (by decide) (by decide)) f x n
    show a_nd (a_vR (a_va f) r (a_va f c a).2).2 3 n = _
    rw [a_vR_st hf r n (a_va f c a).2, hf c n a, List.any_cons]
    have e2 : (fun x => a_vm (a_va f c a).2 f x n) = (fun x => a_vm a f x n) := funext e
    rw [e2]
    cases a_vm a f c n <;> cases r.any (fun x => a_vm a f x n) <;> rfl
theorem a_va_st : ∀ (f c n : Nat) (a : aS), a_nd (a_va f c a).2 3 n = if a_vm a f c n = true then 2 else a_nd a 3 n
  | 0, _, _, _ => rfl
  | f + 1, c, n, a => by
    have sn : ∀ n, a_nd (a_sn a 3 c 2) 3 n = if n = c then 2 else a_nd a 3 n := fun n => by
      show va_up (a_nd a) 3 (va_up (a_nd a 3) c 2) 3 n = _
      rw [va_up_self]
      by_cases e : n = c
      · rw [e, va_up_self, if_pos rfl]
      · rw [va_up_ne _ _ e, if_neg e]
    unfold a_va a_vm
    by_cases hw : a_nd a 0 c = 0
    · rw [if_pos hw, hw]
      show a_nd (a_sn a 3 c 2) 3 n = _
      rw [sn]
      by_cases e : n = c
      · simp [e]
      · simp [e]
    · rw [if_neg hw]
      show a_nd (a_vR (a_va f) (a_rw a c) (a_sn a 3 c 2)).2 3 n = _
      rw [a_vR_st (fun c n a => a_va_st f c n a), sn]
      have e2 : (fun x => a_vm (a_sn a 3 c 2) f x n) = (fun x => a_vm a f x n) := funext fun x => a_vm_eq (a := a) (b := a_sn a 3 c 2) rfl rfl f x n
      rw [e2]
      by_cases e : n = c
      · simp [e, hw]
      · simp [e, hw]
/-- all below a marked keeper is marked -/
theorem a_vm_down {a : aS} (T : a_T a) : ∀ (f c x y : Nat), c < a_mk a → (9 : Int) ≤ f + a_nd a 2 c → a_vm a f c x = true → x < a_mk a → y ∈ a_rw a x → a_vm a f c y = true := by
  intro f
  induction f with
  | zero => intro c x y _ _ h; cases h
  | succ f ih =>
    intro c x y hc h9 h hx hy
    unfold a_vm at h ⊢
    have hkx : a_nd a 0 x ≠ 0 := fun e => by rw [T.2.2.2.2.1 x hx e] at hy; cases hy
    by_cases e : x = c
    · subst e
      obtain ⟨y1, y2, y3⟩ := T.rc hx hy
      have r2 := T.r2 y1
      obtain ⟨g, rfl⟩ : ∃ g, f = g + 1 := ⟨f - 1, by omega⟩
      have hyy : a_vm a (g + 1) y y = true := by unfold a_vm; simp
      have : (a_rw a x).any (fun z => a_vm a (g + 1) z y) = true := List.any_eq_true.mpr ⟨y, hy, hyy⟩
      rw [this]
      simp [hkx]
    · simp only [beq_iff_eq, e, Bool.or_eq_true, Bool.and_eq_true, Bool.not_eq_true', beq_eq_false_iff_ne, false_or] at h
      obtain ⟨hk, h2⟩ := h
      obtain ⟨q, hq, hqv⟩ := List.any_eq_true.mp h2
      obtain ⟨q1, q2, q3⟩ := T.rc hc hq
      have := ih q x y q1 (by rw [q3]; omega) hqv hx hy
      have h3 : (a_rw a c).any (fun z => a_vm a f z y) = true := List.any_eq_true.mpr ⟨q, hq, this⟩
      rw [h3]
      simp [hk]
/-- a marked node is the first, or in a marked keeper's row -/
theorem a_vm_up {a : aS} (T : a_T a) (h02 : a_nd a 2 0 = 0) : ∀ (f c y : Nat), c < a_mk a → a_vm a f c y = true → y < a_mk a ∧ c ≤ y ∧ (y = c ∨ ∃ x, x < a_mk a ∧ y ∈ a_rw a x ∧ a_vm a f c x = true) := by
  intro f
  induction f with
  | zero => intro c y _ h; cases h
  | succ f ih =>
    intro c y hc h
    by_cases e : y = c
    · exact ⟨by rw [e]; exact hc, Nat.le_of_eq e.symm, Or.inl e⟩
    · unfold a_vm at h
      simp only [beq_iff_eq, e, Bool.or_eq_true, Bool.and_eq_true, Bool.not_eq_true', beq_eq_false_iff_ne, false_or] at h
      obtain ⟨hk, h2⟩ := h
      obtain ⟨q, hq, hqv⟩ := List.any_eq_true.mp h2
      obtain ⟨q1, q2, q3⟩ := T.rc hc hq
      obtain ⟨g1, g2, g3⟩ := ih q y q1 hqv
      have hq0 : q ≠ 0 := fun z => by
        have hc0 := T.r2 hc
        subst z
        omega
      have hqc := T.r1 q1 hq0
      refine ⟨g1, by rw [q2] at hqc; omega, Or.inr ?_⟩
      rcases g3 with g3 | ⟨x, x1, x2, x3⟩
      · subst g3
        exact ⟨c, hc, hq, by unfold a_vm; simp⟩
      · exact ⟨x, x1, x2, by
          unfold a_vm
          have : (a_rw a c).any (fun z => a_vm a f z x) = true := List.any_eq_true.mpr ⟨q, hq, x3⟩
          rw [this]
          simp [hk]⟩
/-- what holds between calls: nodes that are not gone are in their keepers' rows; nothing is beyond mk -/
def a_R (a : aS) : Prop := a_nd a 2 0 = 0 ∧ a_nd a 0 0 = 1 ∧ (∀ n, n < a_mk a → n ≠ 0 → ¬ a_nd a 3 n = 2 → n ∈ a_rw a (a_pa a n) ∧ a_nd a 0 (a_pa a n) = 1 ∧ ¬ a_nd a 3 (a_pa a n) = 2) ∧ (∀ n c, n < a_mk a → c ∈ a_rw a n → ¬ a_nd a 3 n = 2 → ¬ a_nd a 3 c = 2) ∧ (∀ n, a_mk a ≤ n → n < 80 → (∀ f, f < 12 → a_nd a f n = 0) ∧ a_rw a n = [] ∧ a_rt a n = [])
theorem a_va_nd : ∀ (f c : Nat) (a : aS), (∀ g, g ≠ 3 → a_nd (a_va f c a).2 g = a_nd a g) ∧ a_rt (a_va f c a).2 = a_rt a ∧ a_ev (a_va f c a).2 = a_ev a ∧ a_tm (a_va f c a).2 = a_tm a ∧ a_gv (a_va f c a).2 = a_gv a := by
  intro f
  induction f with
  | zero => intro c a; exact ⟨fun _ _ => rfl, rfl, rfl, rfl, rfl⟩
  | succ f ih =>
    intro c a
    have hR : ∀ (l : List Nat) (a : aS), (∀ g, g ≠ 3 → a_nd (a_vR (a_va f) l a).2 g = a_nd a g) ∧ a_rt (a_vR (a_va f) l a).2 = a_rt a ∧ a_ev (a_vR (a_va f) l a).2 = a_ev a ∧ a_tm (a_vR (a_va f) l a).2 = a_tm a ∧ a_gv (a_vR (a_va f) l a).2 = a_gv a := by
      intro l
      induction l with
      | nil => intro a; exact ⟨fun _ _ => rfl, rfl, rfl, rfl, rfl⟩
      | cons c r ihr =>
        intro a
        obtain ⟨x1, x2, x3, x4, x5⟩ := ih c a
        obtain ⟨y1, y2, y3, y4, y5⟩ := ihr (a_va f c a).2
        exact ⟨fun g hg => (y1 g hg).trans (x1 g hg), y2.trans x2, y3.trans x3, y4.trans x4, y5.trans x5⟩
    have e : ∀ g, g ≠ 3 → a_nd (a_sn a 3 c 2) g = a_nd a g := fun g hg => va_up_ne _ _ hg
    unfold a_va
    split
    · exact ⟨e, rfl, rfl, rfl, rfl⟩
    · obtain ⟨y1, y2, y3, y4, y5⟩ := hR (a_rw a c) (a_sn a 3 c 2)
      exact ⟨fun g hg => (y1 g hg).trans (e g hg), y2, y3, y4, y5⟩
/-- the reference's sweep marks what vanishing marks -/
theorem mo_gs_va {s : moS} {a b : aS} {f p c t ex : Nat} (r : rb_R s a ex) (T : a_T a) (AR : a_R a) (hc : c < a_mk a) (h3 : ¬ a_nd a 3 c = 2) (hc0 : c ≠ 0) (hpa : a_pa a c = p) (hb : b = a_no (a_sr a p ((a_rw a p).eraseIdx t)) 7 c 0) (h9 : (9 : Int) ≤ f + a_nd a 2 c) : ∀ (k : Nat), c + 1 + k ≤ a_mk a → ∀ n, n < 80 → (mo_gs (va_up (s.2 5) c 2) (s.2 3) (c + 1) k).1 n = Int32.ofInt (if n < c + 1 + k then a_nd (a_va f c b).2 3 n else a_nd a 3 n) := by
  have kb : a_k2 a b := by rw [hb]; exact (a_k2.er a p t).tr (a_kp.no _ _ _ _).k2
  have Tb := kb.T T
  have hbr : ∀ x, x ≠ p → a_rw b x = a_rw a x := fun x hx => by rw [hb]; exact va_up_ne _ _ hx
  have b3 : a_nd b 3 = a_nd a 3 := by rw [hb]; rfl
  have bmk : a_mk b = a_mk a := kb.mk
  have b02 : a_nd b 2 0 = 0 := by rw [kb.nd]; exact AR.1
  have V : ∀ n, a_nd (a_va f c b).2 3 n = if a_vm b f c n = true then 2 else a_nd a 3 n := fun n => by rw [a_va_st, b3]
  have hcb : c < a_mk b := by rw [bmk]; exact hc
  have h9b : (9 : Int) ≤ f + a_nd b 2 c := by rw [kb.nd]; exact h9
  have r1c := T.r1 hc hc0
  have hpc : p < c := by rw [← hpa]; have : a_pa a c = (a_nd a 1 c).toNat := rfl; omega
  have r2c := T.r2 hc
  have Vc : a_nd (a_va f c b).2 3 c = 2 := by
    rw [V, if_pos]
    obtain ⟨g, rfl⟩ : ∃ g, f = g + 1 := ⟨f - 1, by omega⟩
    unfold a_vm
    simp
  have up : ∀ n, a_vm b f c n = true → n < a_mk a ∧ c ≤ n ∧ (n = c ∨ ∃ x, x < a_mk b ∧ n ∈ a_rw b x ∧ a_vm b f c x = true) := fun n hn => by
    have := a_vm_up Tb b02 f c n hcb hn
    rw [bmk] at this ⊢
    exact this
  intro k
  induction k with
  | zero =>
    intro _ n hn
    show va_up (s.2 5) c 2 n = _
    have e5 : s.2 5 n = Int32.ofInt (a_nd a 3 n) := r.nd (f := 3) (by omega) hn
    by_cases e : n = c
    · subst e
      rw [va_up_self, if_pos (by omega), Vc]
      rfl
    · rw [va_up_ne _ _ e, e5]
      by_cases l : n < c + 1 + 0
      · rw [if_pos l, V]
        by_cases vm : a_vm b f c n = true
        · have := (up n vm).2.1; omega
        · rw [if_neg vm]
      · rw [if_neg l]
  | succ k ih =>
    intro hk n hn
    have ih' := ih (by omega)
    have hq : c + 1 + k < a_mk a := by omega
    have hq8 : c + 1 + k < 80 := Nat.lt_of_lt_of_le hq T.1.2
    have gq := ih' (c + 1 + k) hq8
    rw [if_neg (by omega)] at gq
    have r3 := T.r3 hq
    have hpar := T.r1 hq (by omega)
    have epar : (s.2 3 (c + 1 + k)).toNatClampNeg = a_pa a (c + 1 + k) := by
      rw [r.nd (f := 1) (by omega) hq8, a_ofN hpar.1, nI_clamp (by omega)]
    have hpl : a_pa a (c + 1 + k) < c + 1 + k := by
      have : a_pa a (c + 1 + k) = (a_nd a 1 (c + 1 + k)).toNat := rfl
      omega
    have gp := ih' (a_pa a (c + 1 + k)) (by omega)
    rw [if_pos hpl] at gp
    have r3p : 0 ≤ a_nd (a_va f c b).2 3 (a_pa a (c + 1 + k)) ∧ a_nd (a_va f c b).2 3 (a_pa a (c + 1 + k)) ≤ 2 := by
      have := ((a_va_kp f c b).T Tb).r3 (n := a_pa a (c + 1 + k)) (by rw [(a_va_kp f c b).mk, bmk]; omega)
      exact this
    -- what becomes of n elsewhere
    have other : n ≠ c + 1 + k → (if n < c + 1 + (k + 1) then a_nd (a_va f c b).2 3 n else a_nd a 3 n) = (if n < c + 1 + k then a_nd (a_va f c b).2 3 n else a_nd a 3 n) := fun hne => by
      by_cases l : n < c + 1 + k
      · rw [if_pos l, if_pos (by omega)]
      · rw [if_neg l, if_neg (by omega)]
    have i2 : ∀ x : Int, 0 ≤ x ∧ x ≤ 2 → (Int32.ofInt x = 2 ↔ x = 2) := fun x hx => a_ofI_eq (x := x) (y := 2) (by omega) (by omega)
    show (if (mo_gs (va_up (s.2 5) c 2) (s.2 3) (c + 1) k).1 (c + 1 + k) = 2 then mo_gs (va_up (s.2 5) c 2) (s.2 3) (c + 1) k else if (mo_gs (va_up (s.2 5) c 2) (s.2 3) (c + 1) k).1 ((s.2 3) (c + 1 + k)).toNatClampNeg = 2 then (va_up (mo_gs (va_up (s.2 5) c 2) (s.2 3) (c + 1) k).1 (c + 1 + k) 2, (mo_gs (va_up (s.2 5) c 2) (s.2 3) (c + 1) k).2 + 1) else mo_gs (va_up (s.2 5) c 2) (s.2 3) (c + 1) k).1 n = _
    rw [gq, epar, gp]
    by_cases g2 : a_nd a 3 (c + 1 + k) = 2
    · rw [if_pos ((i2 _ r3).mpr g2), ih' n hn]
      by_cases en : n = c + 1 + k
      · subst en
        rw [if_neg (by omega), if_pos (by omega), V, g2]
        split <;> rfl
      · rw [other en]
    · rw [if_neg (fun z => g2 ((i2 _ r3).mp z))]
      obtain ⟨m1, m2, m3⟩ := AR.2.2.1 (c + 1 + k) hq (by omega) g2
      by_cases v2 : a_nd (a_va f c b).2 3 (a_pa a (c + 1 + k)) = 2
      · rw [if_pos ((i2 _ r3p).mpr v2)]
        show va_up (mo_gs (va_up (s.2 5) c 2) (s.2 3) (c + 1) k).1 (c + 1 + k) 2 n = _
        by_cases en : n = c + 1 + k
        · subst en
          rw [va_up_self, if_pos (by omega), V]
          have vp : a_vm b f c (a_pa a (c + 1 + k)) = true := Classical.byContradiction fun z => by
            rw [V, if_neg z] at v2
            exact m3 v2
          have hge := (up _ vp).2.1
          have hin : c + 1 + k ∈ a_rw b (a_pa a (c + 1 + k)) := by rw [hbr _ (by omega)]; exact m1
          rw [if_pos (a_vm_down Tb f c _ _ hcb h9b vp (by rw [bmk]; omega) hin)]
          rfl
        · rw [va_up_ne _ _ en, ih' n hn, other en]
      · rw [if_neg (fun z => v2 ((i2 _ r3p).mp z)), ih' n hn]
        by_cases en : n = c + 1 + k
        · subst en
          rw [if_neg (by omega), if_pos (by omega), V]
          rw [if_neg]
          intro vm
          rcases (up _ vm).2.2 with z | ⟨x, x1, x2, x3⟩
          · omega
          · have hx := (Tb.rc x1 x2).2.1
            rw [kb.nd] at hx
            have ex : a_pa a (c + 1 + k) = x := by
              have : a_pa a (c + 1 + k) = (a_nd a 1 (c + 1 + k)).toNat := rfl
              omega
            apply v2
            rw [ex, V, if_pos x3]
        · rw [other en]
