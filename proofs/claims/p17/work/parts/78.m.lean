/-! ===== what a vanishing marks, and the reference's sweep ===== -/
/-- is n marked where c vanishes -/
def a_vm (a : aS) : Nat → Nat → Nat → Bool
  | 0, _, _ => false
  | f + 1, c, n => (n == c) || (!(a_nd a 0 c == 0) && (a_rw a c).any (fun x => a_vm a f x n))
theorem a_vm_eq {a b : aS} (hr : a_rw b = a_rw a) (hk : a_nd b 0 = a_nd a 0) : ∀ (f c n : Nat), a_vm b f c n = a_vm a f c n
  | 0, _, _ => rfl
  | f + 1, c, n => by
    unfold a_vm
    rw [hr, hk]
    have : (fun x => a_vm b f x n) = (fun x => a_vm a f x n) := funext fun x => a_vm_eq hr hk f x n
    rw [this]
theorem a_vR_st {f : Nat} (hf : ∀ (c n : Nat) (a : aS), a_nd (a_va f c a).2 3 n = if a_vm a f c n = true then 2 else a_nd a 3 n) : ∀ (l : List Nat) (n : Nat) (a : aS), a_nd (a_vR (a_va f) l a).2 3 n = if l.any (fun x => a_vm a f x n) = true then 2 else a_nd a 3 n
  | [], n, a => rfl
  | c :: r, n, a => by
    have k := a_va_kp f c a
    have e : ∀ x, a_vm (a_va f c a).2 f x n = a_vm a f x n := fun x => a_vm_eq k.rw' (k.2.2.1 0 (by decide) (by decide)) f x n
    show a_nd (a_vR (a_va f) r (a_va f c a).2).2 3 n = _
    rw [a_vR_st hf r n (a_va f c a).2, hf c n a, List.any_cons]
    have e2 : (fun x => a_vm (a_va f c a).2 f x n) = (fun x => a_vm a f x n) := funext e
    rw [e2]
    cases a_vm a f c n <;> cases r.any (fun x => a_vm a f x n) <;> rfl
theorem a_va_st : ∀ (f c n : Nat) (a : aS), a_nd (a_va f c a).2 3 n = if a_vm a f c n = true then 2 else a_nd a 3 n
  | 0, _, _, _ => rfl
  | f + 1, c, n, a => by
    have sn : ∀ n, a_nd (a_sn a 3 c 2) 3 n = if n = c then 2 else a_nd a 3 n := fun n => by
      show va_up (a_nd a) 3 (va_up (a_nd a 3) c 2) 3 n = _
      rw [va_up_self]
      by_cases e : n = c
      · rw [e, va_up_self, if_pos rfl]
      · rw [va_up_ne _ _ e, if_neg e]
    unfold a_va a_vm
    by_cases hw : a_nd a 0 c = 0
    · rw [if_pos hw, hw]
      show a_nd (a_sn a 3 c 2) 3 n = _
      rw [sn]
      by_cases e : n = c
      · simp [e]
      · simp [e]
    · rw [if_neg hw]
      show a_nd (a_vR (a_va f) (a_rw a c) (a_sn a 3 c 2)).2 3 n = _
      rw [a_vR_st (fun c n a => a_va_st f c n a), sn]
      have e2 : (fun x => a_vm (a_sn a 3 c 2) f x n) = (fun x => a_vm a f x n) := funext fun x => a_vm_eq (a := a) (b := a_sn a 3 c 2) rfl rfl f x n
      rw [e2]
      by_cases e : n = c
      · simp [e, hw]
      · simp [e, hw]
/-- all below a marked keeper is marked -/
theorem a_vm_down {a : aS} (T : a_T a) : ∀ (f c x y : Nat), c < a_mk a → (9 : Int) ≤ f + a_nd a 2 c → a_vm a f c x = true → x < a_mk a → y ∈ a_rw a x → a_vm a f c y = true := by
  intro f
  induction f with
  | zero => intro c x y _ _ h; cases h
  | succ f ih =>
    intro c x y hc h9 h hx hy
    unfold a_vm at h ⊢
    have hkx : a_nd a 0 x ≠ 0 := fun e => by rw [T.2.2.2.2.1 x hx e] at hy; cases hy
    by_cases e : x = c
    · subst e
      obtain ⟨y1, y2, y3⟩ := T.rc hx hy
      have r2 := T.r2 y1
      obtain ⟨g, rfl⟩ : ∃ g, f = g + 1 := ⟨f - 1, by omega⟩
      have hyy : a_vm a (g + 1) y y = true := by unfold a_vm; simp
      have : (a_rw a x).any (fun z => a_vm a (g + 1) z y) = true := List.any_eq_true.mpr ⟨y, hy, hyy⟩
      rw [this]
      simp [hkx]
    · simp only [beq_iff_eq, e, Bool.or_eq_true, Bool.and_eq_true, Bool.not_eq_true', beq_eq_false_iff_ne, false_or] at h
      obtain ⟨hk, h2⟩ := h
      obtain ⟨q, hq, hqv⟩ := List.any_eq_true.mp h2
      obtain ⟨q1, q2, q3⟩ := T.rc hc hq
      have := ih q x y q1 (by rw [q3]; omega) hqv hx hy
      have h3 : (a_rw a c).any (fun z => a_vm a f z y) = true := List.any_eq_true.mpr ⟨q, hq, this⟩
      rw [h3]
      simp [hk]
/-- a marked node is the first, or in a marked keeper's row -/
theorem a_vm_up {a : aS} (T : a_T a) (h02 : a_nd a 2 0 = 0) : ∀ (f c y : Nat), c < a_mk a → a_vm a f c y = true → y < a_mk a ∧ c ≤ y ∧ (y = c ∨ ∃ x, x < a_mk a ∧ y ∈ a_rw a x ∧ a_vm a f c x = true) := by
  intro f
  induction f with
  | zero => intro c y _ h; cases h
  | succ f ih =>
    intro c y hc h
    by_cases e : y = c
    · exact ⟨by rw [e]; exact hc, Nat.le_of_eq e.symm, Or.inl e⟩
    · unfold a_vm at h
      simp only [beq_iff_eq, e, Bool.or_eq_true, Bool.and_eq_true, Bool.not_eq_true', beq_eq_false_iff_ne, false_or] at h
      obtain ⟨hk, h2⟩ := h
      obtain ⟨q, hq, hqv⟩ := List.any_eq_true.mp h2
      obtain ⟨q1, q2, q3⟩ := T.rc hc hq
      obtain ⟨g1, g2, g3⟩ := ih q y q1 hqv
      have hq0 : q ≠ 0 := fun z => by
        have hc0 := T.r2 hc
        subst z
        omega
      have hqc := T.r1 q1 hq0
      refine ⟨g1, by rw [q2] at hqc; omega, Or.inr ?_⟩
      rcases g3 with g3 | ⟨x, x1, x2, x3⟩
      · subst g3
        exact ⟨c, hc, hq, by unfold a_vm; simp⟩
      · exact ⟨x, x1, x2, by
          unfold a_vm
          have : (a_rw a c).any (fun z => a_vm a f z x) = true := List.any_eq_true.mpr ⟨q, hq, x3⟩
          rw [this]
          simp [hk]⟩
/-- what holds between calls: nodes that are not gone are in their keepers' rows; nothing is beyond mk -/
def a_R (a : aS) : Prop := a_nd a 2 0 = 0 ∧ a_nd a 0 0 = 1 ∧ (∀ n, n < a_mk a → n ≠ 0 → ¬ a_nd a 3 n = 2 → n ∈ a_rw a (a_pa a n) ∧ a_nd a 0 (a_pa a n) = 1 ∧ ¬ a_nd a 3 (a_pa a n) = 2) ∧ (∀ n c, n < a_mk a → c ∈ a_rw a n → ¬ a_nd a 3 n = 2 → ¬ a_nd a 3 c = 2) ∧ (∀ n, a_mk a ≤ n → n < 80 → (∀ f, f < 12 → a_nd a f n = 0) ∧ a_rw a n = [] ∧ a_rt a n = [])
theorem a_va_nd : ∀ (f c : Nat) (a : aS), (∀ g, g ≠ 3 → a_nd (a_va f c a).2 g = a_nd a g) ∧ a_rt (a_va f c a).2 = a_rt a ∧ a_ev (a_va f c a).2 = a_ev a ∧ a_tm (a_va f c a).2 = a_tm a ∧ a_gv (a_va f c a).2 = a_gv a := by
  intro f
  induction f with
  | zero => intro c a; exact ⟨fun _ _ => rfl, rfl, rfl, rfl, rfl⟩
  | succ f ih =>
    intro c a
    have hR : ∀ (l : List Nat) (a : aS), (∀ g, g ≠ 3 → a_nd (a_vR (a_va f) l a).2 g = a_nd a g) ∧ a_rt (a_vR (a_va f) l a).2 = a_rt a ∧ a_ev (a_vR (a_va f) l a).2 = a_ev a ∧ a_tm (a_vR (a_va f) l a).2 = a_tm a ∧ a_gv (a_vR (a_va f) l a).2 = a_gv a := by
      intro l
      induction l with
      | nil => intro a; exact ⟨fun _ _ => rfl, rfl, rfl, rfl, rfl⟩
      | cons c r ihr =>
        intro a
        obtain ⟨x1, x2, x3, x4, x5⟩ := ih c a
        obtain ⟨y1, y2, y3, y4, y5⟩ := ihr (a_va f c a).2
        exact ⟨fun g hg => (y1 g hg).trans (x1 g hg), y2.trans x2, y3.trans x3, y4.trans x4, y5.trans x5⟩
    have e : ∀ g, g ≠ 3 → a_nd (a_sn a 3 c 2) g = a_nd a g := fun g hg => va_up_ne _ _ hg
    unfold a_va
    split
    · exact ⟨e, rfl, rfl, rfl, rfl⟩
    · obtain ⟨y1, y2, y3, y4, y5⟩ := hR (a_rw a c) (a_sn a 3 c 2)
      exact ⟨fun g hg => (y1 g hg).trans (e g hg), y2, y3, y4, y5⟩
/-- the reference's sweep marks what vanishing marks -/
theorem mo_gs_va {s : moS} {a b : aS} {f p c t ex : Nat} (r : rb_R s a ex) (T : a_T a) (AR : a_R a) (hc : c < a_mk a) (h3 : ¬ a_nd a 3 c = 2) (hc0 : c ≠ 0) (hpa : a_pa a c = p) (hb : b = a_no (a_sr a p ((a_rw a p).eraseIdx t)) 7 c 0) (h9 : (9 : Int) ≤ f + a_nd a 2 c) : ∀ (k : Nat), c + 1 + k ≤ a_mk a → ∀ n, n < 80 → (mo_gs (va_up (s.2 5) c 2) (s.2 3) (c + 1) k).1 n = Int32.ofInt (if n < c + 1 + k then a_nd (a_va f c b).2 3 n else a_nd a 3 n) := by
  have kb : a_k2 a b := by rw [hb]; exact (a_k2.er a p t).tr (a_kp.no _ _ _ _).k2
  have Tb := kb.T T
  have hbr : ∀ x, x ≠ p → a_rw b x = a_rw a x := fun x hx => by rw [hb]; exact va_up_ne _ _ hx
  have b3 : a_nd b 3 = a_nd a 3 := by rw [hb]; rfl
  have bmk : a_mk b = a_mk a := kb.mk
  have b02 : a_nd b 2 0 = 0 := by rw [kb.nd]; exact AR.1
  have V : ∀ n, a_nd (a_va f c b).2 3 n = if a_vm b f c n = true then 2 else a_nd a 3 n := fun n => by rw [a_va_st, b3]
  have hcb : c < a_mk b := by rw [bmk]; exact hc
  have h9b : (9 : Int) ≤ f + a_nd b 2 c := by rw [kb.nd]; exact h9
  have r1c := T.r1 hc hc0
  have hpc : p < c := by rw [← hpa]; have : a_pa a c = (a_nd a 1 c).toNat := rfl; omega
  have r2c := T.r2 hc
  have Vc : a_nd (a_va f c b).2 3 c = 2 := by
    rw [V, if_pos]
    obtain ⟨g, rfl⟩ : ∃ g, f = g + 1 := ⟨f - 1, by omega⟩
    unfold a_vm
    simp
  have up : ∀ n, a_vm b f c n = true → n < a_mk a ∧ c ≤ n ∧ (n = c ∨ ∃ x, x < a_mk b ∧ n ∈ a_rw b x ∧ a_vm b f c x = true) := fun n hn => by
    have := a_vm_up Tb b02 f c n hcb hn
    rw [bmk] at this ⊢
    exact this
  intro k
  induction k with
  | zero =>
    intro _ n hn
    show va_up (s.2 5) c 2 n = _
    have e5 : s.2 5 n = Int32.ofInt (a_nd a 3 n) := r.nd (f := 3) (by omega) hn
    by_cases e : n = c
    · subst e
      rw [va_up_self, if_pos (by omega), Vc]
      rfl
    · rw [va_up_ne _ _ e, e5]
      by_cases l : n < c + 1 + 0
      · rw [if_pos l, V]
        by_cases vm : a_vm b f c n = true
        · have := (up n vm).2.1; omega
        · rw [if_neg vm]
      · rw [if_neg l]
  | succ k ih =>
    intro hk n hn
    have ih' := ih (by omega)
    have hq : c + 1 + k < a_mk a := by omega
    have hq8 : c + 1 + k < 80 := Nat.lt_of_lt_of_le hq T.1.2
    have gq := ih' (c + 1 + k) hq8
    rw [if_neg (by omega)] at gq
    have r3 := T.r3 hq
    have hpar := T.r1 hq (by omega)
    have epar : (s.2 3 (c + 1 + k)).toNatClampNeg = a_pa a (c + 1 + k) := by
      rw [r.nd (f := 1) (by omega) hq8, a_ofN hpar.1, nI_clamp (by omega)]
    have hpl : a_pa a (c + 1 + k) < c + 1 + k := by
      have : a_pa a (c + 1 + k) = (a_nd a 1 (c + 1 + k)).toNat := rfl
      omega
    have gp := ih' (a_pa a (c + 1 + k)) (by omega)
    rw [if_pos hpl] at gp
    have r3p : 0 ≤ a_nd (a_va f c b).2 3 (a_pa a (c + 1 + k)) ∧ a_nd (a_va f c b).2 3 (a_pa a (c + 1 + k)) ≤ 2 := by
      have := ((a_va_kp f c b).T Tb).r3 (n := a_pa a (c + 1 + k)) (by rw [(a_va_kp f c b).mk, bmk]; omega)
      exact this
    -- what becomes of n elsewhere
    have other : n ≠ c + 1 + k → (if n < c + 1 + (k + 1) then a_nd (a_va f c b).2 3 n else a_nd a 3 n) = (if n < c + 1 + k then a_nd (a_va f c b).2 3 n else a_nd a 3 n) := fun hne => by
      by_cases l : n < c + 1 + k
      · rw [if_pos l, if_pos (by omega)]
      · rw [if_neg l, if_neg (by omega)]
    have i2 : ∀ x : Int, 0 ≤ x ∧ x ≤ 2 → (Int32.ofInt x = 2 ↔ x = 2) := fun x hx => a_ofI_eq (x := x) (y := 2) (by omega) (by omega)
    show (if (mo_gs (va_up (s.2 5) c 2) (s.2 3) (c + 1) k).1 (c + 1 + k) = 2 then mo_gs (va_up (s.2 5) c 2) (s.2 3) (c + 1) k else if (mo_gs (va_up (s.2 5) c 2) (s.2 3) (c + 1) k).1 ((s.2 3) (c + 1 + k)).toNatClampNeg = 2 then (va_up (mo_gs (va_up (s.2 5) c 2) (s.2 3) (c + 1) k).1 (c + 1 + k) 2, (mo_gs (va_up (s.2 5) c 2) (s.2 3) (c + 1) k).2 + 1) else mo_gs (va_up (s.2 5) c 2) (s.2 3) (c + 1) k).1 n = _
    rw [gq, epar, gp]
    by_cases g2 : a_nd a 3 (c + 1 + k) = 2
    · rw [if_pos ((i2 _ r3).mpr g2), ih' n hn]
      by_cases en : n = c + 1 + k
      · subst en
        rw [if_neg (by omega), if_pos (by omega), V, g2]
        split <;> rfl
      · rw [other en]
    · rw [if_neg (fun z => g2 ((i2 _ r3).mp z))]
      obtain ⟨m1, m2, m3⟩ := AR.2.2.1 (c + 1 + k) hq (by omega) g2
      by_cases v2 : a_nd (a_va f c b).2 3 (a_pa a (c + 1 + k)) = 2
      · rw [if_pos ((i2 _ r3p).mpr v2)]
        show va_up (mo_gs (va_up (s.2 5) c 2) (s.2 3) (c + 1) k).1 (c + 1 + k) 2 n = _
        by_cases en : n = c + 1 + k
        · subst en
          rw [va_up_self, if_pos (by omega), V]
          have vp : a_vm b f c (a_pa a (c + 1 + k)) = true := Classical.byContradiction fun z => by
            rw [V, if_neg z] at v2
            exact m3 v2
          have hge := (up _ vp).2.1
          have hin : c + 1 + k ∈ a_rw b (a_pa a (c + 1 + k)) := by rw [hbr _ (by omega)]; exact m1
          rw [if_pos (a_vm_down Tb f c _ _ hcb h9b vp (by rw [bmk]; omega) hin)]
          rfl
        · rw [va_up_ne _ _ en, ih' n hn, other en]
      · rw [if_neg (fun z => v2 ((i2 _ r3p).mp z)), ih' n hn]
        by_cases en : n = c + 1 + k
        · subst en
          rw [if_neg (by omega), if_pos (by omega), V]
          rw [if_neg]
          intro vm
          rcases (up _ vm).2.2 with z | ⟨x, x1, x2, x3⟩
          · omega
          · have hx := (Tb.rc x1 x2).2.1
            rw [kb.nd] at hx
            have ex : a_pa a (c + 1 + k) = x := by
              have : a_pa a (c + 1 + k) = (a_nd a 1 (c + 1 + k)).toNat := rfl
              omega
            apply v2
            rw [ex, V, if_pos x3]
        · rw [other en]
/-! ===== the reference: goes ===== -/
section RBG
variable {s : moS} {a : aS} {ex : Nat}
/-- place t of p's row is taken out -/
theorem rb_R.er (x : rb_R s a ex) {p t : Nat} (hp : p < 80) (ht : t < (a_rw a p).length) : rb_R (mo_g1 s p t (a_rw a p).length) (a_sr a p ((a_rw a p).eraseIdx t)) ex := by
  obtain ⟨x1, x2, x3, x4, x5, x6, x7, x8, x9⟩ := x
  have ne : ∀ k, k ≠ 14 → k ≠ 15 → (mo_g1 s p t (a_rw a p).length).2 k = s.2 k := fun k h1 h2 => mo_g1_ne h1 h2
  have e15 : ∀ n, (mo_g1 s p t (a_rw a p).length).2 15 n = if n = p then nI (a_rw a p).length - 1 else s.2 15 n := fun n => by
    have hX : (mo_rb s p (mo_shf (fun j => s.2 14 (80 * p + j)) t ((a_rw a p).length - 1))).2 15 = s.2 15 := mo_rb_ne (by decide)
    show va_up (mo_rb s p (mo_shf (fun j => s.2 14 (80 * p + j)) t ((a_rw a p).length - 1))).2 15 (va_up ((mo_rb s p (mo_shf (fun j => s.2 14 (80 * p + j)) t ((a_rw a p).length - 1))).2 15) p (nI (a_rw a p).length - 1)) 15 n = _
    rw [va_up_self, hX]
    by_cases e : n = p
    · rw [e, va_up_self, if_pos rfl]
    · rw [va_up_ne _ _ e, if_neg e]
  have e14 : ∀ q, (mo_g1 s p t (a_rw a p).length).2 14 q = (mo_rb s p (mo_shf (fun j => s.2 14 (80 * p + j)) t ((a_rw a p).length - 1))).2 14 q := fun q => by
    show va_up (mo_rb s p (mo_shf (fun j => s.2 14 (80 * p + j)) t ((a_rw a p).length - 1))).2 15 (va_up ((mo_rb s p (mo_shf (fun j => s.2 14 (80 * p + j)) t ((a_rw a p).length - 1))).2 15) p (nI (a_rw a p).length - 1)) 14 q = _
    rw [va_up_ne _ _ (by decide)]
  refine ⟨x1, x2, x3, x4, x5, fun f n hf hn => ?_, fun n hn => ?_, fun i hi q hq => ?_, fun n hn => ?_⟩
  · rw [ne _ (by omega) (by omega)]
    exact x6 f n hf hn
  · obtain ⟨y1, y2, y3⟩ := x7 n hn
    show _ ∧ (va_up (a_rw a) p ((a_rw a p).eraseIdx t) n).length ≤ 80 ∧ _
    by_cases e : n = p
    · subst e
      have er : a_rw (a_sr a n ((a_rw a n).eraseIdx t)) n = (a_rw a n).eraseIdx t := va_up_self _ _ _
      rw [er, va_up_self, e15, if_pos rfl, k_erL ht]
      refine ⟨?_, by omega, fun i hi => ?_⟩
      · have := nI_pred ((a_rw a n).length - 1)
        rwa [show (a_rw a n).length - 1 + 1 = (a_rw a n).length by omega] at this
      · rw [e14, mo_rb_at (by omega), k_erD]
        unfold mo_shf
        by_cases l : i < t
        · rw [if_neg (by omega), if_pos l]
          exact y3 i (by omega)
        · rw [if_pos (by omega), if_neg l]
          exact y3 (i + 1) (by omega)
    · have er : a_rw (a_sr a p ((a_rw a p).eraseIdx t)) n = a_rw a n := va_up_ne _ _ e
      rw [er, va_up_ne _ _ e, e15, if_neg e]
      refine ⟨y1, y2, fun i hi => ?_⟩
      rw [e14, mo_rb_14, if_neg (by omega)]
      exact y3 i hi
  · rw [ne 20 (by decide) (by decide)]
    exact x8 i hi q hq
  · obtain ⟨q, y⟩ := x9 n hn
    refine ⟨q, ?_⟩
    unfold rb_t
    rw [ne 17 (by decide) (by decide), ne 16 (by decide) (by decide)]
    exact y
/-- the states are replaced: none becomes up -/
theorem rb_R.sv (x : rb_R s a ex) {b : aS} {F : Nat → Int32} (h1 : a_mk b = a_mk a) (h2 : a_tm b = a_tm a) (h3 : a_ev b = a_ev a) (h4 : a_rs b = a_rs a) (h5 : a_gv b = a_gv a) (h6 : a_rw b = a_rw a) (h7 : a_rt b = a_rt a) (h8 : ∀ g, g ≠ 3 → a_nd b g = a_nd a g) (hF : ∀ n, n < 80 → F n = Int32.ofInt (a_nd b 3 n) ∧ a_sm (a_nd b 3 n) ∧ (a_nd b 3 n = 1 → a_nd a 3 n = 1)) : rb_R (mo_sv s F) b ex := by
  obtain ⟨x1, x2, x3, x4, x5, x6, x7, x8, x9⟩ := x
  have ne : ∀ k, k ≠ 5 → (mo_sv s F).2 k = s.2 k := fun k hk => mo_sv_ne hk
  refine ⟨by rw [h1]; exact x1, by rw [h2]; exact x2, by rw [h3]; exact x3, by rw [h4]; exact x4, by rw [h5]; exact x5, fun f n hf hn => ?_, fun n hn => ?_, fun i hi q hq => ?_, fun n hn => ?_⟩
  · by_cases e : f = 3
    · subst e
      rw [mo_sv_5]
      exact ⟨(hF n hn).1, (hF n hn).2.1⟩
    · rw [ne _ (by omega), h8 f e]
      exact x6 f n hf hn
  · rw [ne _ (by decide), ne _ (by decide), h6]
    exact x7 n hn
  · rw [ne _ (by decide)]
    rw [h3] at hq
    exact x8 i hi q hq
  · obtain ⟨q, y1, y2, y3, y4, dr, y5, y6⟩ := x9 n hn
    refine ⟨q, ?_⟩
    unfold rb_t
    rw [ne _ (by decide), ne _ (by decide), h7, h2, h8 7 (by decide)]
    exact ⟨y1, y2, fun e => y3 ((hF n hn).2.2 e), y4, dr, y5, fun e => y6 ((hF n hn).2.2 e)⟩
end RBG
set_option maxHeartbeats 4000000 in
theorem mc_goes {l : Launch} {G : hpG} {h H : hpT} {m d : Nat} {a : aS} {z : mrZ} (sh : mo_sh G h m) (R : MR h m H a z) (T : a_T a) (AR : a_R a) {c f : Nat} (hc : c < a_mk a) (hc0 : c ≠ 0) (h3 : ¬ a_nd a 3 c = 2) (h9 : (9 : Int) ≤ f + a_nd a 2 c) (hl : (a_ev a).length < 2 ^ 30) (hd : 2 ≤ d) : hp_C l G yX6_goes (.code yX6_goes cX6_goes 5 (some .int)) d [.ref m, .int (nI c)] H
    (fun v h' => (∃ x, v = some (.int x)) ∧ MR h m h' (a_dis f (a_pa a c) c (a_ix c (a_rw a (a_pa a c))) a).2 z) (fun _ _ => False) := by
  obtain ⟨s, rfl, r, r1, r2, r3⟩ := R
  obtain ⟨m1, m2, m3⟩ := AR.2.2.1 c hc hc0 h3
  have m80 := T.1.2
  have q1 := T.r1 hc hc0
  have epa : a_pa a c = (a_nd a 1 c).toNat := rfl
  have hp8 : a_pa a c < 80 := by omega
  obtain ⟨i1, i2, i3⟩ := a_ix_ok m1
  obtain ⟨y1, y2, y3⟩ := r.2.2.2.2.2.2.1 (a_pa a c) hp8
  have hev : mo_evk s := by
    unfold mo_evk
    rw [r.2.2.1, nI_toInt (by omega)]
    omega
  have hpar : s.2 3 c = nI (a_pa a c) := by rw [r.nd (f := 1) (by omega) (by omega), a_ofN q1.1]
  have con := mo_goes (l := l) (d := d) sh hd (a := c) (p := a_pa a c) (c := (a_rw a (a_pa a c)).length) (t := a_ix c (a_rw a (a_pa a c))) (mk := a_mk a) hc m80 r.1.1 hp8 hpar y2 y1 i1 (by rw [(y3 _ i1).1, i2]) (fun j hj e => by
    have hj' : j < (a_rw a (a_pa a c)).length := by omega
    rw [(y3 j hj').1] at e
    have := (nI_eq (by have := (y3 j hj').2; omega) (by omega)).mp e
    exact i3 j hj this) hev (fun j hj1 hj2 => by
    have qj := T.r1 (n := j) hj2 (by omega)
    rw [r.nd (f := 1) (by omega) (by omega), a_ofN qj.1]
    exact nI_in (by omega) (by omega))
  refine hp_Cw con (fun v h' hv => ⟨⟨_, hv.1⟩, _, hv.2, ?_, ?_, ?_, ?_⟩)
  · generalize hb : a_no (a_sr a (a_pa a c) ((a_rw a (a_pa a c)).eraseIdx (a_ix c (a_rw a (a_pa a c))))) 7 c 0 = b
    have rg : rb_R (mo_g2 s c (a_pa a c) (a_ix c (a_rw a (a_pa a c))) (a_rw a (a_pa a c)).length) b z.2.2.2 := by
      rw [← hb]
      exact (r.er hp8 i1).no hl
    have kb : a_k2 a b := by rw [← hb]; exact (a_k2.er a _ _).tr (a_kp.no _ _ _ _).k2
    have b3 : a_nd b 3 = a_nd a 3 := by rw [← hb]; rfl
    obtain ⟨n1, n2, n3, n4, n5⟩ := a_va_nd f c b
    have kv := a_va_kp f c b
    have ed : (a_dis f (a_pa a c) c (a_ix c (a_rw a (a_pa a c))) a).2 = (a_va f c b).2 := by unfold a_dis; rw [hb]
    rw [ed]
    refine rg.sv kv.mk n4 n3 kv.rs n5 kv.rw' n2 n1 (fun n hn => ?_)
    have sw := mo_gs_va (f := f) (p := a_pa a c) (t := a_ix c (a_rw a (a_pa a c))) r T AR hc h3 hc0 rfl hb.symm h9 (a_mk a - (c + 1)) (by omega) n hn
    have V := a_va_st f c n b
    have hsm : a_sm (a_nd (a_va f c b).2 3 n) := by
      rw [V, b3]
      split
      · omega
      · exact r.sm (f := 3) (by omega) hn
    refine ⟨?_, hsm, fun e => ?_⟩
    · show (mo_gz s c (a_mk a)).1 n = _
      unfold mo_gz
      rw [sw]
      by_cases l : n < c + 1 + (a_mk a - (c + 1))
      · rw [if_pos l]
      · rw [if_neg l, V, if_neg, b3]
        intro vm
        have hcb : c < a_mk b := by rw [kb.mk]; exact hc
        have := (a_vm_up (kb.T T) (by rw [kb.nd]; exact AR.1) f c n hcb vm).1
        rw [kb.mk] at this
        omega
    · rw [V] at e
      split at e
      · cases e
      · exact e
  · rw [mo_sv_ne (by decide), mo_g2_ne (by decide) (by decide) (by decide)]
    exact r1
  · rw [mo_sv_ne (by decide), mo_g2_ne (by decide) (by decide) (by decide)]
    exact r2
  · show (mo_g2 s c _ _ _).1 0 = _
    unfold mo_g2
    rw [mo_note_1 (by decide)]
    exact r3
/-! ===== the reference: counts ===== -/
theorem k_tks {L : List Nat} {i : Nat} (h : i < L.length) : L.take (i + 1) = L.take i ++ [L.getD i 0] := by
  rw [List.take_add_one, List.getElem?_eq_getElem h, List.getD_eq_getElem?_getD, List.getElem?_eq_getElem h]
  rfl
/-- of times that ascend the last ones are left -/
theorem mo_flt_sp {P : List Nat} {g : Nat → Int32} {b : Int32} (hP : P.Pairwise (· ≤ ·)) (hg : ∀ i, i < P.length → g i = nI (P.getD i 0)) (hs : ∀ x ∈ P, x < 2 ^ 30) : ∀ i, i ≤ P.length → ∃ lo hi, P.take i = lo ++ hi ∧ (∀ x ∈ lo, (x : Int) < b.toInt) ∧ (∀ x ∈ hi, ¬ (x : Int) < b.toInt) ∧ mo_flt g b i = hi.map nI
  | 0, _ => ⟨[], [], rfl, fun x hx => (by cases hx), fun x hx => (by cases hx), rfl⟩
  | i + 1, hi => by
    obtain ⟨lo, hh, e1, e2, e3, e4⟩ := mo_flt_sp (b := b) hP hg hs i (by omega)
    have hm : P.getD i 0 ∈ P := by
      rw [List.getD_eq_getElem?_getD, List.getElem?_eq_getElem (by omega)]
      exact List.getElem_mem _
    have hx := hs _ hm
    have ht := k_tks (L := P) (i := i) (by omega)
    have hlt : (g i < b) ↔ ((P.getD i 0 : Nat) : Int) < b.toInt := by
      rw [hg i (by omega), Int32.lt_iff_toInt_lt, nI_toInt (by omega)]
    have hpw : ∀ x ∈ P.take i, x ≤ P.getD i 0 := by
      have h1 : (P.take (i + 1)).Pairwise (· ≤ ·) := hP.sublist (List.take_sublist _ _)
      rw [ht] at h1
      intro x hx
      exact (List.pairwise_append.mp h1).2.2 x hx _ (List.mem_singleton.mpr rfl)
    by_cases c : ((P.getD i 0 : Nat) : Int) < b.toInt
    · have hn : hh = [] := by
        cases hh with
        | nil => rfl
        | cons y r =>
          exfalso
          have h1 := e3 y List.mem_cons_self
          have h2 := hpw y (by rw [e1]; exact List.mem_append_right _ List.mem_cons_self)
          omega
      subst hn
      refine ⟨lo ++ [P.getD i 0], [], by rw [ht, e1, List.append_nil, List.append_nil], fun x hx => ?_, fun x hx => (by cases hx), ?_⟩
      · rcases List.mem_append.mp hx with h | h
        · exact e2 x h
        · rw [List.mem_singleton.mp h]; exact c
      · unfold mo_flt
        rw [if_pos (hlt.mpr c), e4]
        rfl
    · refine ⟨lo, hh ++ [P.getD i 0], by rw [ht, e1, List.append_assoc], e2, fun x hx => ?_, ?_⟩
      · rcases List.mem_append.mp hx with h | h
        · exact e3 x h
        · rw [List.mem_singleton.mp h]; exact c
      · unfold mo_flt
        rw [if_neg (fun z => c (hlt.mp z)), e4, List.map_append, hg i (by omega)]
        rfl
theorem k_nb_all {R : List Nat} {b : Int} (h : ∀ x ∈ R, ¬ (x : Int) < b) : ∀ j, j ≤ R.length → k_nb (fun i => R.getD i 0) b j = j
  | 0, _ => rfl
  | j + 1, hj => by
    have hm : R.getD j 0 ∈ R := by
      rw [List.getD_eq_getElem?_getD, List.getElem?_eq_getElem (by omega)]
      exact List.getElem_mem _
    show (if ((R.getD j 0 : Nat) : Int) < b then 0 else k_nb (fun i => R.getD i 0) b j + 1) = j + 1
    rw [if_neg (h _ hm), k_nb_all h j (by omega)]
/-- the keeper that was about to give up is down -/
theorem MR.clr {h H : hpT} {m : Nat} {a : aS} {z : mrZ} (R : MR h m H a z) (hx : z.2.2.2 < 80 → ¬ a_nd a 3 z.2.2.2 = 1) : MR h m H a (z.1, z.2.1, z.2.2.1, 80) := by
  obtain ⟨s, rfl, r, r1, r2, r3⟩ := R
  obtain ⟨x1, x2, x3, x4, x5, x6, x7, x8, x9⟩ := r
  refine ⟨s, rfl, ⟨x1, x2, x3, x4, x5, x6, x7, x8, fun n hn => ?_⟩, r1, r2, r3⟩
  obtain ⟨p, y1, y2, y3, y4, y5⟩ := x9 n hn
  refine ⟨p, y1, y2, fun e _ => ?_, y4, y5⟩
  by_cases c : n = z.2.2.2
  · subst c
    exact absurd e (hx hn)
  · exact y3 e c
theorem mc_cnt {l : Launch} {G : hpG} {h H : hpT} {m d : Nat} {a : aS} {z : mrZ} (sh : mo_sh G h m) (R : MR h m H a z) (T : a_T a) (A : a_A a) {p : Nat} (hp : p < a_mk a) (hu : a_nd a 3 p = 1) (hz : z.2.2.2 = 80) (htm : a_tm a < 2 ^ 30) : hp_C l G yX6_counts (.code yX6_counts cX6_counts 5 (some .boolean)) d [.ref m, .int (nI p)] H
    (fun v h' => v = some (.int (if a_nd a 6 p < (a_rec (a_cn p a) p : Int) then 1 else 0)) ∧ MR h m h' (a_cn p a) (z.1, z.2.1, z.2.2.1, if a_nd a 6 p < (a_rec (a_cn p a) p : Int) then p else 80)) (fun _ _ => False) := by
  obtain ⟨s, rfl, r, r1, r2, r3⟩ := R
  have hp8 : p < 80 := Nat.lt_of_lt_of_le hp T.1.2
  have t6 := T.r6 hp
  have t7 := T.r7 hp
  obtain ⟨x1, x2, x3, x4, x5, x6, x7, x8, x9⟩ := r
  obtain ⟨P, y1, y2, y3, y4, dr, y5, y6⟩ := x9 p hp8
  have y6 := y6 hu
  have hl50 : P.length ≤ 50 := y3 hu (by omega)
  obtain ⟨A1, A2⟩ := A p hp
  have hPw : P.Pairwise (· ≤ ·) := by
    rw [y5] at A1
    exact (List.pairwise_append.mp A1).2.1
  have hPs : ∀ x ∈ P, x < 2 ^ 30 := fun x hx => by
    have := A2 x (by rw [y5]; exact List.mem_append_right _ hx)
    omega
  have e9 : s.2 9 p = Int32.ofInt (a_nd a 7 p) := (x6 7 p (by omega) hp8).1
  have e8 : s.2 8 p = Int32.ofInt (a_nd a 6 p) := (x6 6 p (by omega) hp8).1
  have hbI : (s.1 18 - s.2 9 p).toInt = (a_tm a : Int) - a_nd a 7 p := by
    rw [x2, e9]
    exact k_ago2 htm t7
  obtain ⟨lo, hi, f1, f2, f3, f4⟩ := mo_flt_sp (g := fun j => s.2 16 (52 * p + j)) (b := s.1 18 - s.2 9 p) hPw (fun i hi => y4 i hi) hPs P.length (Nat.le_refl _)
  rw [List.take_length] at f1
  rw [hbI] at f2 f3
  have ec : mo_cnt s p P.length = (hi ++ [a_tm a]).map nI := by
    unfold mo_cnt
    rw [f4, x2, List.map_append]
    rfl
  have ecl : (mo_cnt s p P.length).length = (hi ++ [a_tm a]).length := by rw [ec, List.length_map]
  have er : a_rt (a_cn p a) p = (dr ++ lo) ++ (hi ++ [a_tm a]) := by
    show va_up (a_rt a) p (a_rt a p ++ [a_tm a]) p = _
    rw [va_up_self, y5, f1]
    simp only [List.append_assoc]
  have hdl : ∀ x ∈ dr ++ lo, (x : Int) < (a_tm a : Int) - a_nd a 7 p := fun x hx => by
    rcases List.mem_append.mp hx with h | h
    · exact y6 x h
    · exact f2 x h
  have hhi : ∀ x ∈ hi ++ [a_tm a], ¬ (x : Int) < (a_tm a : Int) - a_nd a 7 p := fun x hx => by
    rcases List.mem_append.mp hx with h | h
    · exact f3 x h
    · rw [List.mem_singleton.mp h]; omega
  have erec : a_rec (a_cn p a) p = (hi ++ [a_tm a]).length := by
    unfold a_rec
    rw [er, List.length_append]
    show k_nb (fun i => ((dr ++ lo) ++ (hi ++ [a_tm a])).getD i 0) ((a_tm a : Int) - a_nd a 7 p) _ = _
    rw [k_nb_app hdl _ (Nat.le_refl _), k_nb_all hhi _ (Nat.le_refl _)]
  have hl51 : (hi ++ [a_tm a]).length ≤ 51 := by
    have h1 : P.length = lo.length + hi.length := by rw [f1, List.length_append]
    rw [List.length_append]
    show hi.length + 1 ≤ 51
    omega
  have con := mo_counts (l := l) (d := d) sh (s := s) hp8 (show P.length ≤ 51 by omega) y1
  have hle : (nI (mo_cnt s p P.length).length ≤ s.2 8 p) ↔ ¬ a_nd a 6 p < (a_rec (a_cn p a) p : Int) := by
    rw [ecl, erec, e8, Int32.le_iff_toInt_le, nI_toInt (by omega), a_ofI (by omega)]
    omega
  refine hp_Cw con (fun v h' hv => ?_)
  obtain ⟨f, v1, v2, v3⟩ := hv
  refine ⟨?_, _, v2, ?_, ?_, ?_, ?_⟩
  · rw [v1]
    by_cases c : a_nd a 6 p < (a_rec (a_cn p a) p : Int)
    · rw [if_pos c, if_neg (fun q => hle.mp q c)]
    · rw [if_neg c, if_pos (hle.mpr c)]
  · rw [ecl]
    have ne : ∀ k, k ≠ 16 → k ≠ 17 → (mo_pt (mo_up (mo_blk s p f) 17 p (nI (hi ++ [a_tm a]).length)) 21 (s.1 21 + 1)).2 k = s.2 k := fun k h1 h2 => by
      show va_up (mo_blk s p f).2 17 _ k = _
      rw [va_up_ne _ _ h2, mo_blk_ne h1]
    have e17 : ∀ n, (mo_pt (mo_up (mo_blk s p f) 17 p (nI (hi ++ [a_tm a]).length)) 21 (s.1 21 + 1)).2 17 n = if n = p then nI (hi ++ [a_tm a]).length else s.2 17 n := fun n => by
      show va_up (mo_blk s p f).2 17 (va_up ((mo_blk s p f).2 17) p _) 17 n = _
      rw [va_up_self]
      by_cases e : n = p
      · rw [e, va_up_self, if_pos rfl]
      · rw [va_up_ne _ _ e, if_neg e, mo_blk_ne (by decide)]
    have e16 : ∀ q, (mo_pt (mo_up (mo_blk s p f) 17 p (nI (hi ++ [a_tm a]).length)) 21 (s.1 21 + 1)).2 16 q = if 52 * p ≤ q ∧ q < 52 * p + 52 then f (q - 52 * p) else s.2 16 q := fun q => by
      show va_up (mo_blk s p f).2 17 (va_up ((mo_blk s p f).2 17) p (nI (hi ++ [a_tm a]).length)) 16 q = _
      rw [va_up_ne _ _ (by decide), mo_blk_16]
    refine ⟨x1, x2, x3, ?_, x5, fun g n hg hn => ?_, fun n hn => ?_, fun i hi q hq => ?_, fun n hn => ?_⟩
    · show va_up s.1 21 (s.1 21 + 1) 21 = nI (a_rs a + 1)
      rw [va_up_self, x4, nI_1]
    · rw [ne _ (by omega) (by omega)]
      exact x6 g n hg hn
    · rw [ne _ (by decide) (by decide), ne _ (by decide) (by decide)]
      exact x7 n hn
    · rw [ne _ (by decide) (by decide)]
      exact x8 i hi q hq
    · by_cases e : n = p
      · subst e
        refine ⟨hi ++ [a_tm a], ?_, hl51, fun _ hne => ?_, fun i hi' => ?_, dr ++ lo, er, fun _ => hdl⟩
        · rw [e17, if_pos rfl]
        · by_cases c : a_nd a 6 n < (a_rec (a_cn n a) n : Int)
          · exact absurd (show n = if a_nd a 6 n < (a_rec (a_cn n a) n : Int) then n else 80 by rw [if_pos c]) hne
          · rw [erec] at c
            omega
        · rw [e16, if_pos ⟨by omega, by omega⟩, Nat.add_sub_cancel_left]
          refine v3 i _ ?_
          rw [ec, List.getElem?_map, List.getElem?_eq_getElem hi', List.getD_eq_getElem?_getD, List.getElem?_eq_getElem hi']
          rfl
      · obtain ⟨P', w1, w2, w3, w4, w5⟩ := x9 n hn
        have ert : a_rt (a_cn p a) n = a_rt a n := va_up_ne _ _ e
        refine ⟨P', ?_, w2, fun q _ => w3 q (by omega), fun i hi' => ?_, ?_⟩
        · rw [e17, if_neg e]; exact w1
        · rw [e16, if_neg (by omega)]; exact w4 i hi'
        · rw [ert]; exact w5
  · show va_up (mo_blk s p f).2 17 (va_up ((mo_blk s p f).2 17) p (nI (mo_cnt s p P.length).length)) 23 = _
    rw [va_up_ne _ _ (by decide), mo_blk_ne (by decide)]
    exact r1
  · show va_up (mo_blk s p f).2 17 (va_up ((mo_blk s p f).2 17) p (nI (mo_cnt s p P.length).length)) 24 = _
    rw [va_up_ne _ _ (by decide), mo_blk_ne (by decide)]
    exact r2
  · show va_up s.1 21 (s.1 21 + 1) 0 = _
    rw [va_up_ne _ _ (by decide)]
    exact r3
/-! ===== what leaves the gone gone ===== -/
/-- b comes of a, nothing goes, nothing comes back, and nothing is made -/
def a_gk (a b : aS) : Prop := a_kp a b ∧ (∀ n, a_nd b 3 n = 2 ↔ a_nd a 3 n = 2) ∧ (∀ n, a_mk a ≤ n → a_nd b 3 n = a_nd a 3 n ∧ a_nd b 11 n = a_nd a 11 n) ∧ a_rtk a b
theorem a_gk.rf (a : aS) : a_gk a a := ⟨a_kp.rf a, fun _ => Iff.rfl, fun _ _ => ⟨rfl, rfl⟩, a_rtk.of rfl⟩
theorem a_gk.tr {a b c : aS} (x : a_gk a b) (y : a_gk b c) : a_gk a c := ⟨x.1.tr y.1, fun n => (y.2.1 n).trans (x.2.1 n), fun n hn => by
  have hb := y.2.2.1 n (by rw [x.1.mk]; exact hn)
  have ha := x.2.2.1 n hn
  exact ⟨hb.1.trans ha.1, hb.2.trans ha.2⟩, x.2.2.2.tr y.2.2.2⟩
theorem a_gk.st (a : aS) {t : Nat} (ht : a_tm a ≤ t) : a_gk a (a_st a t) := ⟨a_kp.st a ht, fun _ => Iff.rfl, fun _ _ => ⟨rfl, rfl⟩, a_rtk.of rfl⟩
theorem a_gk.no (a : aS) (w n r : Nat) : a_gk a (a_no a w n r) := ⟨a_kp.no a w n r, fun _ => Iff.rfl, fun _ _ => ⟨rfl, rfl⟩, a_rtk.of rfl⟩
theorem a_gk.srt (a : aS) (n : Nat) : a_gk a (a_srt a n []) := ⟨a_kp.srt a n [], fun _ => Iff.rfl, fun _ _ => ⟨rfl, rfl⟩, a_srt_rtk a n⟩
theorem a_nd_sne (a : aS) {f g : Nat} (n : Nat) (x : Int) (h : g ≠ f) : a_nd (a_sn a f n x) g = a_nd a g := va_up_ne _ _ h
theorem a_nd_sn3 (a : aS) (n m : Nat) (x : Int) : a_nd (a_sn a 3 n x) 3 m = if m = n then x else a_nd a 3 m := by
  show va_up (a_nd a) 3 (va_up (a_nd a 3) n x) 3 m = _
  rw [va_up_self]
  by_cases e : m = n
  · rw [e, va_up_self, if_pos rfl]
  · rw [va_up_ne _ _ e, if_neg e]
theorem a_gk.sn3 (a : aS) {n : Nat} {x : Int} (hn : n < a_mk a) (h2 : ¬ a_nd a 3 n = 2) (hx : 0 ≤ x ∧ x ≤ 1) : a_gk a (a_sn a 3 n x) := by
  refine ⟨a_kp.sn3 a n (by omega), fun m => ?_, fun m hm => ⟨?_, congrFun (a_nd_sne a n x (by decide)) m⟩, a_rtk.of rfl⟩
  · rw [a_nd_sn3]
    by_cases e : m = n
    · rw [if_pos e, e]
      exact ⟨fun z => by omega, fun z => absurd z h2⟩
    · rw [if_neg e]
  · rw [a_nd_sn3, if_neg (by omega)]
theorem a_gk.sn11 (a : aS) {n : Nat} {x : Int} (hn : n < a_mk a) (hx : a_T a → n < a_mk a → 0 ≤ x ∧ x ≤ 50) : a_gk a (a_sn a 11 n x) := by
  refine ⟨a_kp.sn11 a n hx, fun m => ?_, fun m hm => ⟨congrFun (a_nd_sne a n x (by decide)) m, ?_⟩, a_rtk.of rfl⟩
  · have e : a_nd (a_sn a 11 n x) 3 = a_nd a 3 := a_nd_sne a n x (by decide)
    rw [e]
  · show va_up (a_nd a) 11 (va_up (a_nd a 11) n x) 11 m = _
    rw [va_up_self, va_up_ne _ _ (by omega)]
theorem a_R.gk {a b : aS} (x : a_R a) (k : a_gk a b) : a_R b := by
  obtain ⟨x1, x2, x3, x4, x5⟩ := x
  obtain ⟨k1, k2, k3, k4⟩ := k
  have epa : ∀ n, a_pa b n = a_pa a n := fun n => by show (a_nd b 1 n).toNat = (a_nd a 1 n).toNat; rw [k1.nd]
  refine ⟨by rw [k1.nd]; exact x1, by rw [k1.nd]; exact x2, fun n hn h0 h2 => ?_, fun n c hn hc h2 => ?_, fun n hn h8 => ?_⟩
  · rw [k1.mk] at hn
    rw [k2] at h2
    obtain ⟨q1, q2, q3⟩ := x3 n hn h0 h2
    rw [epa, k1.rw', k1.nd, k2]
    exact ⟨q1, q2, q3⟩
  · rw [k1.mk] at hn
    rw [k1.rw'] at hc
    rw [k2] at h2 ⊢
    exact x4 n c hn hc h2
  · rw [k1.mk] at hn
    obtain ⟨q1, q2, q3⟩ := x5 n hn h8
    refine ⟨fun f hf => ?_, by rw [k1.rw']; exact q2, k4.nil q3⟩
    by_cases e3 : f = 3
    · subst e3
      rw [(k3 n hn).1]
      exact q1 3 hf
    · by_cases e11 : f = 11
      · subst e11
        rw [(k3 n hn).2]
        exact q1 11 hf
      · rw [k1.nd e3 e11]
        exact q1 f hf
theorem a_gk.W {a b : aS} (k : a_gk a b) (x : a_W a) : a_W b := x.k k.1 k.2.2.2
theorem a_end_gk (k : Bool) {n : Nat} {a : aS} (hn : n < a_mk a) (h2 : ¬ a_nd a 3 n = 2) : a_gk a (a_end k n a) := by
  unfold a_end
  split
  · exact ((a_gk.st a (Nat.le_add_right _ _)).tr (a_gk.sn3 _ hn h2 (by omega))).tr (a_gk.no _ _ _ _)
  · exact (a_gk.sn3 a hn h2 (by omega)).tr (a_gk.no _ _ _ _)
theorem a_cR_gk {f : Nat → aS → Nat × aS} (hf : ∀ c a, a_T a → c < a_mk a → a_nd a 3 c = 1 → a_gk a (f c a).2) : ∀ (l : List Nat) (a : aS), a_T a → (∀ c ∈ l, c < a_mk a) → a_gk a (a_cR f l a).2
  | [], a, _, _ => a_gk.rf a
  | c :: r, a, T, hl => by
    unfold a_cR
    split
    · next h =>
      have k1 := hf c a T (hl c List.mem_cons_self) h
      exact k1.tr (a_cR_gk hf r _ (k1.1.T T) (fun x hx => by rw [k1.1.mk]; exact hl x (List.mem_cons_of_mem _ hx)))
    · exact a_cR_gk hf r a T (fun x hx => hl x (List.mem_cons_of_mem _ hx))
theorem a_ce_gk (k : Bool) : ∀ (f n : Nat) (a : aS), a_T a → n < a_mk a → ¬ a_nd a 3 n = 2 → a_gk a (a_ce k f n a).2
  | 0, _, a, _, _, _ => a_gk.rf a
  | f + 1, n, a, T, hn, h2 => by
    unfold a_ce
    split
    · exact a_end_gk k hn h2
    · have k1 := a_cR_gk (fun c b Tb hc h1 => a_ce_gk k f c b Tb hc (by omega)) (a_rw a n).reverse a T (fun c hc => (T.rc hn (List.mem_reverse.mp hc)).1)
      exact k1.tr (a_end_gk k (by rw [k1.1.mk]; exact hn) (by rw [k1.2.1]; exact h2))
theorem a_sF_gk {f : Nat → aS → Bool × aS} (hf : ∀ c a, a_T a → a_R a → c < a_mk a → ¬ a_nd a 3 c = 2 → a_gk a (f c a).2) : ∀ (l : List Nat) (a : aS), a_T a → a_R a → (∀ c ∈ l, c < a_mk a ∧ ¬ a_nd a 3 c = 2) → a_gk a (a_sF f l a).2
  | [], a, _, _, _ => a_gk.rf a
  | c :: r, a, T, X, hl => by
    have k1 := hf c a T X (hl c List.mem_cons_self).1 (hl c List.mem_cons_self).2
    unfold a_sF
    split
    · exact k1.tr (a_sF_gk hf r _ (k1.1.T T) (X.gk k1) (fun x hx => by rw [k1.1.mk, k1.2.1]; exact hl x (List.mem_cons_of_mem _ hx)))
    · exact k1
theorem a_go_gk : ∀ (f n : Nat) (a : aS), a_T a → a_R a → n < a_mk a → ¬ a_nd a 3 n = 2 → a_gk a (a_go f n a).2
  | 0, _, a, _, _, _, _ => a_gk.rf a
  | f + 1, n, a, T, X, hn, h2 => by
    by_cases hw : a_nd a 0 n = 0
    · rw [a_go_w hw]
      split
      · refine (((a_gk.st a (Nat.le_add_right _ _)).tr (a_gk.sn11 _ hn (fun T hn => ?_))).tr (a_gk.sn3 _ hn ?_ (by omega))).tr (a_gk.no _ _ _ _)
        · have := T.r11 (n := n) hn
          have e : a_nd (a_st a (a_tm a + (a_nd a 9 n).toNat)) 11 n = a_nd a 11 n := rfl
          omega
        · have e : ∀ (b : aS) (x : Int), a_nd (a_sn b 11 n x) 3 = a_nd b 3 := fun b x => a_nd_sne b n x (by decide)
          rw [e]
          exact h2
      · exact ((a_gk.st a (Nat.le_add_right _ _)).tr (a_gk.sn3 _ hn h2 (by omega))).tr (a_gk.no _ _ _ _)
    · have e : a_go (f + 1) n a = (if (a_sR (a_go f) (a_rw a n) (a_srt a n [])).1 = true then (true, a_no (a_sn (a_sR (a_go f) (a_rw a n) (a_srt a n [])).2 3 n 1) 1 n 0) else (false, a_no (a_sn (a_cR (a_ce false f) (a_rw a n).reverse (a_sR (a_go f) (a_rw a n) (a_srt a n [])).2).2 3 n 0) 2 n 0)) := by
        show (if a_nd a 0 n = 0 then _ else _) = _
        rw [if_neg hw]
      rw [e, a_sF_R]
      have k0 := a_gk.srt a n
      have k1 := k0.tr (a_sF_gk (fun c b Tb Xb hc h => a_go_gk f c b Tb Xb hc h) (a_rw a n) (a_srt a n []) (k0.1.T T) (X.gk k0) (fun c hc => ⟨(T.rc hn hc).1, X.2.2.2.1 n c hn hc h2⟩))
      split
      · exact (k1.tr (a_gk.sn3 _ (by rw [k1.1.mk]; exact hn) (by rw [k1.2.1]; exact h2) (by omega))).tr (a_gk.no _ _ _ _)
      · have k2 := k1.tr (a_cR_gk (fun c b Tb hc h1 => a_ce_gk false f c b Tb hc (by omega)) (a_rw a n).reverse _ (k1.1.T T) (fun c hc => by rw [k1.1.mk]; exact (T.rc hn (List.mem_reverse.mp hc)).1))
        exact (k2.tr (a_gk.sn3 _ (by rw [k2.1.mk]; exact hn) (by rw [k2.2.1]; exact h2) (by omega))).tr (a_gk.no _ _ _ _)
/-! ===== a node that goes leaves the rows in order ===== -/
theorem k_getD {L : List Nat} {i : Nat} (h : i < L.length) : L[i]? = some (L.getD i 0) := by
  rw [List.getD_eq_getElem?_getD, List.getElem?_eq_getElem h]
  rfl
theorem k_erM {L : List Nat} {t x : Nat} (ht : t < L.length) (hx : x ∈ L) (hne : x ≠ L.getD t 0) : x ∈ L.eraseIdx t := by
  obtain ⟨i, hi⟩ := List.getElem?_of_mem hx
  refine List.mem_eraseIdx_iff_getElem?.mpr ⟨i, fun e => ?_, hi⟩
  subst e
  rw [k_getD ht] at hi
  exact hne (Option.some.inj hi).symm
theorem k_erN {L : List Nat} {t : Nat} (hd : L.Nodup) (ht : t < L.length) : L.getD t 0 ∉ L.eraseIdx t := by
  intro h
  obtain ⟨i, hne, hi⟩ := List.mem_eraseIdx_iff_getElem?.mp h
  have e : L[t]? = L[i]? := by rw [k_getD ht, hi]
  exact hne ((List.getElem?_inj ht hd).mp e).symm
theorem a_dis_R {a : aS} (T : a_T a) (AR : a_R a) {c f : Nat} (hc : c < a_mk a) (hc0 : c ≠ 0) (h3 : ¬ a_nd a 3 c = 2) (h9 : (9 : Int) ≤ f + a_nd a 2 c) : a_R (a_dis f (a_pa a c) c (a_ix c (a_rw a (a_pa a c))) a).2 ∧ (∀ n, a_nd (a_dis f (a_pa a c) c (a_ix c (a_rw a (a_pa a c))) a).2 3 n = 2 ∨ a_nd (a_dis f (a_pa a c) c (a_ix c (a_rw a (a_pa a c))) a).2 3 n = a_nd a 3 n) ∧ (∀ n, n < c → a_nd (a_dis f (a_pa a c) c (a_ix c (a_rw a (a_pa a c))) a).2 3 n = a_nd a 3 n) ∧ a_rt (a_dis f (a_pa a c) c (a_ix c (a_rw a (a_pa a c))) a).2 = a_rt a := by
  obtain ⟨m1, m2, m3⟩ := AR.2.2.1 c hc hc0 h3
  have m80 := T.1.2
  have q1 := T.r1 hc hc0
  have q2 := T.r2 hc
  have epa : a_pa a c = (a_nd a 1 c).toNat := rfl
  generalize hp : a_pa a c = p at *
  have hpm : p < a_mk a := by omega
  obtain ⟨i1, i2, i3⟩ := a_ix_ok m1
  generalize ht : a_ix c (a_rw a p) = t at *
  generalize hb : a_no (a_sr a p ((a_rw a p).eraseIdx t)) 7 c 0 = b
  have kb : a_k2 a b := by rw [← hb]; exact (a_k2.er a _ _).tr (a_kp.no _ _ _ _).k2
  have Tb := kb.T T
  have b3 : a_nd b 3 = a_nd a 3 := by rw [← hb]; rfl
  have b11 : a_nd b 11 = a_nd a 11 := by rw [← hb]; rfl
  have brt : a_rt b = a_rt a := by rw [← hb]; rfl
  have brw : a_rw b = va_up (a_rw a) p ((a_rw a p).eraseIdx t) := by rw [← hb]; rfl
  have b02 : a_nd b 2 0 = 0 := by rw [kb.nd]; exact AR.1
  have hcb : c < a_mk b := by rw [kb.mk]; exact hc
  obtain ⟨n1, n2, n3, n4, n5⟩ := a_va_nd f c b
  have kv := a_va_kp f c b
  have ed : (a_dis f p c t a).2 = (a_va f c b).2 := by unfold a_dis; rw [hb]
  have V : ∀ n, a_nd (a_va f c b).2 3 n = if a_vm b f c n = true then 2 else a_nd a 3 n := fun n => by rw [a_va_st, b3]
  have inb : ∀ x n, x ∈ a_rw b n → x ∈ a_rw a n := fun x n hx => by
    rw [brw] at hx
    by_cases e : n = p
    · rw [e, va_up_self] at hx
      rw [e]
      exact List.mem_of_mem_eraseIdx hx
    · rw [va_up_ne _ _ e] at hx
      exact hx
  have ina : ∀ x n, x ∈ a_rw a n → x ≠ c → x ∈ a_rw b n := fun x n hx hxc => by
    rw [brw]
    by_cases e : n = p
    · rw [e, va_up_self]
      rw [e] at hx
      exact k_erM i1 hx (by rw [i2]; exact hxc)
    · rw [va_up_ne _ _ e]
      exact hx
  have noc : ∀ n, n < a_mk a → c ∉ a_rw b n := fun n hn hx => by
    have h1 := (T.rc hn (inb c n hx)).2.1
    have en : n = p := by omega
    subst en
    rw [brw, va_up_self] at hx
    have := k_erN (T.nd hn) i1
    rw [i2] at this
    exact this hx
  have vc : a_vm b f c c = true := by
    cases f with
    | zero => omega
    | succ f =>
      unfold a_vm
      simp
  rw [ed]
  refine ⟨⟨?_, ?_, fun n hn h0 h2 => ?_, fun n x hn hx h2 => ?_, fun n hn h8 => ?_⟩, fun n => ?_, fun n hn => ?_, n2.trans brt⟩
  · rw [n1 2 (by decide)]; exact b02
  · rw [n1 0 (by decide), kb.nd]; exact AR.2.1
  · rw [kv.mk, kb.mk] at hn
    have ep : a_pa (a_va f c b).2 n = a_pa a n := by show (a_nd (a_va f c b).2 1 n).toNat = (a_nd a 1 n).toNat; rw [n1 1 (by decide), kb.nd]
    rw [ep, kv.rw', n1 0 (by decide), kb.nd]
    rw [V] at h2
    by_cases vn : a_vm b f c n = true
    · rw [if_pos vn] at h2; exact absurd rfl h2
    · rw [if_neg vn] at h2
      obtain ⟨w1, w2, w3⟩ := AR.2.2.1 n hn h0 h2
      have hnc : n ≠ c := fun e => vn (by rw [e]; exact vc)
      have hin := ina n _ w1 hnc
      refine ⟨hin, w2, ?_⟩
      rw [V]
      by_cases vp : a_vm b f c (a_pa a n) = true
      · exfalso
        have r1 := T.r1 hn h0
        have epn : a_pa a n = (a_nd a 1 n).toNat := rfl
        exact vn (a_vm_down Tb f c _ n hcb (by rw [kb.nd]; exact h9) vp (by rw [kb.mk]; omega) hin)
      · rw [if_neg vp]; exact w3
  · rw [kv.mk, kb.mk] at hn
    rw [kv.rw'] at hx
    rw [V] at h2 ⊢
    by_cases vn : a_vm b f c n = true
    · rw [if_pos vn] at h2; exact absurd rfl h2
    · rw [if_neg vn] at h2
      have hxa := inb x n hx
      by_cases vx : a_vm b f c x = true
      · exfalso
        obtain ⟨u1, u2, u3⟩ := a_vm_up Tb b02 f c x hcb vx
        rcases u3 with u3 | ⟨y, y1, y2, y3⟩
        · subst u3
          exact noc n hn hx
        · rw [kb.mk] at y1
          have e1 := (T.rc y1 (inb x y y2)).2.1
          have e2 := (T.rc hn hxa).2.1
          have : y = n := by omega
          subst this
          exact vn y3
      · rw [if_neg vx]
        exact AR.2.2.2.1 n x hn hxa h2
  · rw [kv.mk, kb.mk] at hn
    obtain ⟨w1, w2, w3⟩ := AR.2.2.2.2 n hn h8
    refine ⟨fun g hg => ?_, ?_, by rw [n2, brt]; exact w3⟩
    · by_cases e : g = 3
      · subst e
        rw [V]
        have hv : ¬ a_vm b f c n = true := fun vm => by
          have := (a_vm_up Tb b02 f c n hcb vm).1
          rw [kb.mk] at this
          omega
        rw [if_neg hv]
        exact w1 3 hg
      · rw [n1 g e]
        by_cases e11 : g = 11
        · subst e11
          rw [b11]
          exact w1 11 hg
        · rw [kb.nd e e11]
          exact w1 g hg
    · rw [kv.rw', brw, va_up_ne _ _ (by omega)]
      exact w2
  · rw [V]
    by_cases vn : a_vm b f c n = true
    · rw [if_pos vn]; exact Or.inl rfl
    · rw [if_neg vn]; exact Or.inr rfl
  · rw [V, if_neg]
    intro vm
    have := (a_vm_up Tb b02 f c n hcb vm).2.1
    omega
/-! ===== what holds between the steps ===== -/
def a_I (a : aS) : Prop := a_T a ∧ a_R a ∧ a_W a ∧ a_A a
theorem a_I.gk {a b : aS} (x : a_I a) (k : a_gk a b) : a_I b := ⟨k.1.T x.1, x.2.1.gk k, k.W x.2.2.1, k.1.A x.2.2.2⟩
theorem a_ix_at {L : List Nat} {j : Nat} (hd : L.Nodup) (hj : j < L.length) : a_ix (L.getD j 0) L = j := by
  have hm : L.getD j 0 ∈ L := by
    rw [List.getD_eq_getElem?_getD, List.getElem?_eq_getElem hj]
    exact List.getElem_mem _
  obtain ⟨i1, i2, -⟩ := a_ix_ok hm
  refine (List.getElem?_inj i1 hd).mp ?_
  rw [k_getD i1, k_getD hj, i2]
theorem a_kid {a : aS} (T : a_T a) (h0 : a_nd a 2 0 = 0) {n c : Nat} (hn : n < a_mk a) (hc : c ∈ a_rw a n) : n < c ∧ c ≠ 0 ∧ a_pa a c = n ∧ c < a_mk a ∧ a_nd a 2 c = a_nd a 2 n + 1 := by
  obtain ⟨c1, c2, c3⟩ := T.rc hn hc
  have r2 := T.r2 hn
  have hc0 : c ≠ 0 := fun e => by rw [e] at c3; omega
  have r1 := T.r1 c1 hc0
  have ep : a_pa a c = (a_nd a 1 c).toNat := rfl
  exact ⟨by omega, hc0, by omega, c1, c3⟩
theorem a_I.dis {a : aS} (x : a_I a) {c f : Nat} (hc : c < a_mk a) (hc0 : c ≠ 0) (h3 : ¬ a_nd a 3 c = 2) (h9 : (9 : Int) ≤ f + a_nd a 2 c) : a_I (a_dis f (a_pa a c) c (a_ix c (a_rw a (a_pa a c))) a).2 := by
  have k := a_dis_k2 f (a_pa a c) c (a_ix c (a_rw a (a_pa a c))) a
  obtain ⟨d1, d2, d3, d4⟩ := a_dis_R x.1 x.2.1 hc hc0 h3 h9
  refine ⟨k.T x.1, d1, fun n hn hw => ?_, k.A x.2.2.2⟩
  rw [d4]
  rw [k.mk] at hn
  rw [k.nd] at hw
  exact x.2.2.1 n hn hw
/-- nothing under c changes its state -/
def a_lo (c : Nat) (a b : aS) : Prop := ∀ n, n < c → a_nd b 3 n = a_nd a 3 n
theorem a_lo.tr {c : Nat} {a b e : aS} (x : a_lo c a b) (y : a_lo c b e) : a_lo c a e := fun n hn => (y n hn).trans (x n hn)
theorem a_lo.le {c q : Nat} {a b : aS} (x : a_lo c a b) (h : q ≤ c) : a_lo q a b := fun n hn => x n (by omega)
theorem a_lo.sn3 (a : aS) (n : Nat) (x : Int) : a_lo n a (a_sn a 3 n x) := fun m hm => by rw [a_nd_sn3, if_neg (by omega)]
theorem a_end_lo (k : Bool) (n : Nat) (a : aS) : a_lo n a (a_end k n a) := by
  unfold a_end
  split
  · exact a_lo.sn3 (a_st a _) n _
  · exact a_lo.sn3 a n _
theorem a_cR_lo {q : Nat} {f : Nat → aS → Nat × aS} (hk : ∀ c a, a_kp a (f c a).2) (hf : ∀ c a, a_T a → a_nd a 2 0 = 0 → c < a_mk a → q ≤ c → a_lo q a (f c a).2) : ∀ (l : List Nat) (a : aS), a_T a → a_nd a 2 0 = 0 → (∀ c ∈ l, c < a_mk a ∧ q ≤ c) → a_lo q a (a_cR f l a).2
  | [], a, _, _, _ => fun _ _ => rfl
  | c :: r, a, T, h0, hl => by
    unfold a_cR
    split
    · have k := hk c a
      exact (hf c a T h0 (hl c List.mem_cons_self).1 (hl c List.mem_cons_self).2).tr (a_cR_lo hk hf r _ (k.T T) (by rw [k.nd]; exact h0) (fun x hx => by rw [k.mk]; exact hl x (List.mem_cons_of_mem _ hx)))
    · exact a_cR_lo hk hf r a T h0 (fun x hx => hl x (List.mem_cons_of_mem _ hx))
theorem a_ce_lo (k : Bool) : ∀ (f n : Nat) (a : aS), a_T a → a_nd a 2 0 = 0 → n < a_mk a → a_lo n a (a_ce k f n a).2
  | 0, _, a, _, _, _ => fun _ _ => rfl
  | f + 1, n, a, T, h0, hn => by
    unfold a_ce
    split
    · exact a_end_lo k n a
    · exact (a_cR_lo (q := n) (a_ce_kp k f) (fun c b Tb hb hc hq => (a_ce_lo k f c b Tb hb hc).le hq) (a_rw a n).reverse a T h0 (fun c hc => by
        have := a_kid T h0 hn (List.mem_reverse.mp hc)
        exact ⟨this.2.2.2.1, by omega⟩)).tr (a_end_lo k n _)
theorem a_sF_lo {q : Nat} {f : Nat → aS → Bool × aS} (hk : ∀ c a, a_kp a (f c a).2) (hf : ∀ c a, a_T a → a_nd a 2 0 = 0 → c < a_mk a → q ≤ c → a_lo q a (f c a).2) : ∀ (l : List Nat) (a : aS), a_T a → a_nd a 2 0 = 0 → (∀ c ∈ l, c < a_mk a ∧ q ≤ c) → a_lo q a (a_sF f l a).2
  | [], a, _, _, _ => fun _ _ => rfl
  | c :: r, a, T, h0, hl => by
    have k := hk c a
    have l1 := hf c a T h0 (hl c List.mem_cons_self).1 (hl c List.mem_cons_self).2
    unfold a_sF
    split
    · exact l1.tr (a_sF_lo hk hf r _ (k.T T) (by rw [k.nd]; exact h0) (fun x hx => by rw [k.mk]; exact hl x (List.mem_cons_of_mem _ hx)))
    · exact l1
theorem a_go_lo : ∀ (f n : Nat) (a : aS), a_T a → a_nd a 2 0 = 0 → n < a_mk a → a_lo n a (a_go f n a).2
  | 0, _, a, _, _, _ => fun _ _ => rfl
  | f + 1, n, a, T, h0, hn => by
    by_cases hw : a_nd a 0 n = 0
    · rw [a_go_w hw]
      split
      · intro m hm
        show a_nd (a_sn (a_sn (a_st a _) 11 n _) 3 n _) 3 m = _
        rw [a_nd_sn3, if_neg (by omega), a_nd_sne _ _ _ (by decide)]
        rfl
      · intro m hm
        show a_nd (a_sn (a_st a _) 3 n _) 3 m = _
        rw [a_nd_sn3, if_neg (by omega)]
        rfl
    · have e : a_go (f + 1) n a = (if (a_sR (a_go f) (a_rw a n) (a_srt a n [])).1 = true then (true, a_no (a_sn (a_sR (a_go f) (a_rw a n) (a_srt a n [])).2 3 n 1) 1 n 0) else (false, a_no (a_sn (a_cR (a_ce false f) (a_rw a n).reverse (a_sR (a_go f) (a_rw a n) (a_srt a n [])).2).2 3 n 0) 2 n 0)) := by
        show (if a_nd a 0 n = 0 then _ else _) = _
        rw [if_neg hw]
      rw [e, a_sF_R]
      have k0 := a_kp.srt a n []
      have T0 := k0.T T
      have hl : ∀ c ∈ a_rw a n, c < a_mk a ∧ n ≤ c := fun c hc => by
        have := a_kid T h0 hn hc
        exact ⟨this.2.2.2.1, by omega⟩
      have l1 := a_sF_lo (q := n) (a_go_kp f) (fun c b Tb hb hc hq => (a_go_lo f c b Tb hb hc).le hq) (a_rw a n) (a_srt a n []) T0 h0 hl
      have k1 := k0.tr (a_sF_kp (a_go_kp f) (a_rw a n) (a_srt a n []))
      split
      · intro m hm
        show a_nd (a_sn (a_sF (a_go f) (a_rw a n) (a_srt a n [])).2 3 n 1) 3 m = _
        rw [a_nd_sn3, if_neg (by omega), l1 m hm]
        rfl
      · have l2 := a_cR_lo (q := n) (a_ce_kp false f) (fun c b Tb hb hc hq => (a_ce_lo false f c b Tb hb hc).le hq) (a_rw a n).reverse (a_sF (a_go f) (a_rw a n) (a_srt a n [])).2 (k1.T T) (by rw [k1.nd]; exact h0) (fun c hc => by rw [k1.mk]; exact hl c (List.mem_reverse.mp hc))
        intro m hm
        show a_nd (a_sn (a_cR (a_ce false f) (a_rw a n).reverse (a_sF (a_go f) (a_rw a n) (a_srt a n [])).2).2 3 n 0) 3 m = _
        rw [a_nd_sn3, if_neg (by omega), l2 m hm, l1 m hm]
        rfl
/-! ===== a round of restarts ===== -/
theorem a_rl_I {a : aS} (x : a_I a) {f p j : Nat} (hp : p < a_mk a) (h3 : ¬ a_nd a 3 p = 2) (h8 : (8 : Int) ≤ f + a_nd a 2 p) (hj : j < (a_rw a p).length) : a_I (a_rl f p ((a_rw a p).getD j 0) j a) ∧ a_nd (a_rl f p ((a_rw a p).getD j 0) j a) 3 p = a_nd a 3 p := by
  obtain ⟨T, AR, W, A⟩ := x
  have hm := k_rc T hp hj
  have hix := a_ix_at (T.nd hp) hj
  obtain ⟨d1, d2, d3, d4, d5⟩ := a_kid T AR.1 hp hm
  have hg := AR.2.2.2.1 p _ hp hm h3
  generalize hc : (a_rw a p).getD j 0 = c at *
  have k := a_ce_gk false f c a T d4 hg
  have lo := a_ce_lo false f c a T AR.1 d4
  unfold a_rl
  split
  · have epa : a_pa (a_ce false f c a).2 c = p := by
      show (a_nd (a_ce false f c a).2 1 c).toNat = p
      rw [k.1.nd]
      exact d3
    have hI : a_I (a_ce false f c a).2 := a_I.gk ⟨T, AR, W, A⟩ k
    have hc' : c < a_mk (a_ce false f c a).2 := by rw [k.1.mk]; exact d4
    have hg' : ¬ a_nd (a_ce false f c a).2 3 c = 2 := by rw [k.2.1]; exact hg
    have h9 : (9 : Int) ≤ f + a_nd (a_ce false f c a).2 2 c := by rw [k.1.nd]; omega
    have ix : a_ix c (a_rw (a_ce false f c a).2 p) = j := by rw [k.1.rw']; exact hix
    have r1 := hI.dis hc' d2 hg' h9
    have r2 := (a_dis_R hI.1 hI.2.1 hc' d2 hg' h9).2.2.1 p d1
    rw [epa, ix] at r1 r2
    exact ⟨r1, r2.trans (lo p d1)⟩
  · exact ⟨a_I.gk ⟨T, AR, W, A⟩ k, lo p d1⟩
theorem a_rF_I {f p fr : Nat} : ∀ (j : Nat) (a : aS), a_I a → p < a_mk a → ¬ a_nd a 3 p = 2 → (8 : Int) ≤ f + a_nd a 2 p → j ≤ (a_rw a p).length → a_I (a_rF f p fr j a) ∧ a_nd (a_rF f p fr j a) 3 p = a_nd a 3 p
  | 0, a, x, _, _, _, _ => ⟨x, rfl⟩
  | j + 1, a, x, hp, h3, h8, hj => by
    unfold a_rF
    split
    · exact ⟨x, rfl⟩
    · split
      · obtain ⟨y1, y2⟩ := a_rl_I x hp h3 h8 (show j < (a_rw a p).length by omega)
        have k := a_rl_k2 f p ((a_rw a p).getD j 0) j a
        have hl := (a_rl_len f p ((a_rw a p).getD j 0) j a).1
        obtain ⟨w1, w2⟩ := a_rF_I j _ y1 (by rw [k.mk]; exact hp) (by rw [y2]; exact h3) (by rw [k.nd]; exact h8) (by omega)
        exact ⟨w1, w2.trans y2⟩
      · exact a_rF_I j a x hp h3 h8 (by omega)
theorem a_rd_I {a : aS} (x : a_I a) {f p due : Nat} (hp : p < a_mk a) (h3 : ¬ a_nd a 3 p = 2) (h8 : (8 : Int) ≤ f + a_nd a 2 p) (hd : due ∈ a_rw a p) : a_I (a_rd f p due a).2 ∧ a_nd (a_rd f p due a).2 3 p = a_nd a 3 p := by
  have st : ∀ (l : List Nat) (b : aS), a_I b → p < a_mk b → ¬ a_nd b 3 p = 2 → (∀ c ∈ l, c ∈ a_rw b p) → a_I (a_sF (a_go f) l b).2 ∧ a_nd (a_sF (a_go f) l b).2 3 p = a_nd b 3 p := fun l b y hpb h3b hl => by
    have k := a_sF_gk (fun c e Te Xe hc h => a_go_gk f c e Te Xe hc h) l b y.1 y.2.1 (fun c hc => ⟨(a_kid y.1 y.2.1.1 hpb (hl c hc)).2.2.2.1, y.2.1.2.2.2.1 p c hpb (hl c hc) h3b⟩)
    have lo := a_sF_lo (q := p + 1) (a_go_kp f) (fun c e Te he hc hq => (a_go_lo f c e Te he hc).le hq) l b y.1 y.2.1.1 (fun c hc => by
      have := a_kid y.1 y.2.1.1 hpb (hl c hc)
      exact ⟨this.2.2.2.1, by omega⟩)
    exact ⟨y.gk k, lo p (by omega)⟩
  unfold a_rd
  split
  · have e := st [due] a x hp h3 (fun c hc => by rw [List.mem_singleton.mp hc]; exact hd)
    have e2 : (a_sF (a_go f) [due] a).2 = (a_go f due a).2 := by
      unfold a_sF
      split <;> rfl
    rw [e2] at e
    split <;> exact e
  · obtain ⟨y1, y2⟩ := a_rF_I (f := f) (p := p) (fr := if a_nd a 5 p = 1 then 0 else a_ix due (a_rw a p)) (a_rw a p).length a x hp h3 h8 (Nat.le_refl _)
    have k := a_rF_k2 f p (if a_nd a 5 p = 1 then 0 else a_ix due (a_rw a p)) (a_rw a p).length a
    obtain ⟨w1, w2⟩ := st ((a_rw (a_rF f p (if a_nd a 5 p = 1 then 0 else a_ix due (a_rw a p)) (a_rw a p).length a) p).drop (if a_nd a 5 p = 1 then 0 else a_ix due (a_rw a p))) _ y1 (by rw [k.mk]; exact hp) (by rw [y2]; exact h3) (fun c hc => List.mem_of_mem_drop hc)
    exact ⟨w1, w2.trans y2⟩
