/-- a contract that says less -/
theorem hp_Cw {l : Launch} {G : hpG} {y : MethodName} {wd : Cond} {d : Nat} {av : List Value} {h : hpT} {P P' : Option Value → hpT → Prop} {X : String → hpT → Prop} (x : hp_C l G y wd d av h P X) (hP : ∀ v h', P v h' → P' v h') : hp_C l G y wd d av h P' X := fun hl => by
  intro p e ha hc hk s m args below hf happ hP0 hK
  obtain ⟨n, o, h1, h2, h3, h4⟩ := x hl p e ha hc hk s m args below hf happ hP0 hK
  refine ⟨n, o, h1, h2, h3, ?_⟩
  rcases h4 with ⟨⟨v, h', e1, e2, e3⟩, hf2⟩ | h4
  · exact Or.inl ⟨⟨v, h', e1, hP v h' e2, e3⟩, hf2⟩
  · exact Or.inr h4
/-! ===== THE REFERENCE IN GENERAL ===== -/
/-- the times that the reference keeps of keeper n: p -/
def rb_t (s : moS) (a : aS) (ex n : Nat) (p : List Nat) : Prop := s.2 17 n = nI p.length ∧ p.length ≤ 51 ∧ (a_nd a 3 n = 1 → n ≠ ex → p.length ≤ 50) ∧ (∀ i, i < p.length → s.2 16 (52 * n + i) = nI (p.getD i 0)) ∧ ∃ dr, a_rt a n = dr ++ p ∧ (a_nd a 3 n = 1 → ∀ x ∈ dr, (x : Int) < (a_tm a : Int) - a_nd a 7 n)
/-- the reference's state s is a -/
def rb_R (s : moS) (a : aS) (ex : Nat) : Prop :=
  (s.1 1 = nI (a_mk a) ∧ 1 ≤ a_mk a ∧ a_mk a ≤ 80) ∧ s.1 18 = nI (a_tm a) ∧ s.1 19 = nI (a_ev a).length ∧ s.1 21 = nI (a_rs a) ∧ s.1 22 = nI (a_gv a) ∧
  (∀ f n, f < 12 → n < 80 → s.2 (f + 2) n = Int32.ofInt (a_nd a f n) ∧ a_sm (a_nd a f n)) ∧
  (∀ n, n < 80 → s.2 15 n = nI (a_rw a n).length ∧ (a_rw a n).length ≤ 80 ∧ ∀ i, i < (a_rw a n).length → s.2 14 (80 * n + i) = nI ((a_rw a n).getD i 0) ∧ (a_rw a n).getD i 0 < 80) ∧
  (∀ i, i < 600 → ∀ q, (a_ev a)[i]? = some q → s.2 20 (4 * i) = nI q.1 ∧ s.2 20 (4 * i + 1) = nI q.2.1 ∧ s.2 20 (4 * i + 2) = nI q.2.2.1 ∧ s.2 20 (4 * i + 3) = nI q.2.2.2) ∧
  (∀ n, n < 80 → ∃ p, rb_t s a ex n p)
section RBR
variable {s : moS} {a : aS} {ex : Nat}
theorem rb_R.ok (x : rb_R s a ex) : mo_ok s := ⟨a_mk a, x.1⟩
theorem rb_R.nd (x : rb_R s a ex) {f n : Nat} (hf : f < 12) (hn : n < 80) : s.2 (f + 2) n = Int32.ofInt (a_nd a f n) := (x.2.2.2.2.2.1 f n hf hn).1
theorem rb_R.sm (x : rb_R s a ex) {f n : Nat} (hf : f < 12) (hn : n < 80) : a_sm (a_nd a f n) := (x.2.2.2.2.2.1 f n hf hn).2
theorem rb_R.sn (x : rb_R s a ex) {f n : Nat} {v : Int} (hf : f < 12) (h3 : f ≠ 3) (h7 : f ≠ 7) (hn : n < 80) (hv : a_sm v) : rb_R (mo_up s (f + 2) n (Int32.ofInt v)) (a_sn a f n v) ex := by
  obtain ⟨x1, x2, x3, x4, x5, x6, x7, x8, x9⟩ := x
  have ne : ∀ k, k ≠ f + 2 → (mo_up s (f + 2) n (Int32.ofInt v)).2 k = s.2 k := fun k hk => va_up_ne _ _ hk
  have nn : ∀ g, g ≠ f → a_nd (a_sn a f n v) g = a_nd a g := fun g hg => va_up_ne _ _ hg
  refine ⟨x1, x2, x3, x4, x5, fun g q hg hq => ?_, fun q hq => ?_, fun i hi q hq => ?_, fun q hq => ?_⟩
  · show va_up s.2 (f + 2) (va_up (s.2 (f + 2)) n (Int32.ofInt v)) (g + 2) q = Int32.ofInt (va_up (a_nd a) f (va_up (a_nd a f) n v) g q) ∧ a_sm (va_up (a_nd a) f (va_up (a_nd a f) n v) g q)
    by_cases e : g = f
    · subst e
      rw [va_up_self, va_up_self]
      by_cases e2 : q = n
      · subst e2
        rw [va_up_self, va_up_self]
        exact ⟨rfl, hv⟩
      · rw [va_up_ne _ _ e2, va_up_ne _ _ e2]
        exact x6 g q hg hq
    · rw [va_up_ne _ _ e, va_up_ne _ _ (show g + 2 ≠ f + 2 by omega)]
      exact x6 g q hg hq
  · rw [ne 15 (by omega), ne 14 (by omega)]
    exact x7 q hq
  · rw [ne 20 (by omega)]
    exact x8 i hi q hq
  · obtain ⟨p, y1, y2, y3, y4, y5⟩ := x9 q hq
    refine ⟨p, ?_⟩
    unfold rb_t
    rw [ne 17 (by omega), ne 16 (by omega), nn 3 (Ne.symm h3), nn 7 (Ne.symm h7)]
    exact ⟨y1, y2, y3, y4, y5⟩
/-- the state of a node is set -/
theorem rb_R.s3 (x : rb_R s a ex) {n : Nat} {v : Int} (hn : n < 80) (hv : a_sm v) (ht : v = 1 → a_rt a n = []) : rb_R (mo_up s 5 n (Int32.ofInt v)) (a_sn a 3 n v) ex := by
  obtain ⟨x1, x2, x3, x4, x5, x6, x7, x8, x9⟩ := x
  have ne : ∀ k, k ≠ 5 → (mo_up s 5 n (Int32.ofInt v)).2 k = s.2 k := fun k hk => va_up_ne _ _ hk
  have nn : ∀ g, g ≠ 3 → a_nd (a_sn a 3 n v) g = a_nd a g := fun g hg => va_up_ne _ _ hg
  refine ⟨x1, x2, x3, x4, x5, fun g q hg hq => ?_, fun q hq => ?_, fun i hi q hq => ?_, fun q hq => ?_⟩
  · show va_up s.2 5 (va_up (s.2 5) n (Int32.ofInt v)) (g + 2) q = Int32.ofInt (va_up (a_nd a) 3 (va_up (a_nd a 3) n v) g q) ∧ a_sm (va_up (a_nd a) 3 (va_up (a_nd a 3) n v) g q)
    by_cases e : g = 3
    · subst e
      rw [va_up_self, va_up_self]
      by_cases e2 : q = n
      · subst e2
        rw [va_up_self, va_up_self]
        exact ⟨rfl, hv⟩
      · rw [va_up_ne _ _ e2, va_up_ne _ _ e2]
        exact x6 3 q hg hq
    · rw [va_up_ne _ _ e, va_up_ne _ _ (show g + 2 ≠ 5 by omega)]
      exact x6 g q hg hq
  · rw [ne 15 (by omega), ne 14 (by omega)]
    exact x7 q hq
  · rw [ne 20 (by omega)]
    exact x8 i hi q hq
  · obtain ⟨p, y1, y2, y3, y4, dr, y5, y6⟩ := x9 q hq
    refine ⟨p, ?_⟩
    unfold rb_t
    rw [ne 17 (by omega), ne 16 (by omega), nn 7 (by omega)]
    have en : a_nd (a_sn a 3 n v) 3 q = if q = n then v else a_nd a 3 q := by
      show va_up (a_nd a) 3 (va_up (a_nd a 3) n v) 3 q = _
      rw [va_up_self]
      by_cases e2 : q = n
      · rw [e2, va_up_self, if_pos rfl]
      · rw [va_up_ne _ _ e2, if_neg e2]
    rw [en]
    by_cases e2 : q = n
    · subst e2
      rw [if_pos rfl]
      have hp0 : v = 1 → dr = [] ∧ p = [] := fun ev => by
        have h0 := ht ev
        rw [y5] at h0
        exact List.append_eq_nil_iff.mp h0
      exact ⟨y1, y2, fun ev _ => by rw [(hp0 ev).2]; exact Nat.zero_le _, y4, dr, y5, fun ev z hz => by rw [(hp0 ev).1] at hz; cases hz⟩
    · rw [if_neg e2]
      exact ⟨y1, y2, y3, y4, dr, y5, y6⟩
/-- TIME goes on -/
theorem rb_R.st (x : rb_R s a ex) {t : Nat} (ht : a_tm a ≤ t) : rb_R (mo_pt s 18 (nI t)) (a_st a t) ex := by
  obtain ⟨x1, x2, x3, x4, x5, x6, x7, x8, x9⟩ := x
  refine ⟨x1, (show va_up s.1 18 (nI t) 18 = nI t from va_up_self _ _ _), x3, x4, x5, x6, x7, x8, fun q hq => ?_⟩
  obtain ⟨p, y1, y2, y3, y4, dr, y5, y6⟩ := x9 q hq
  refine ⟨p, y1, y2, y3, y4, dr, y5, fun h z hz => ?_⟩
  have := y6 h z hz
  show (z : Int) < (t : Int) - a_nd a 7 q
  omega
theorem rb_R.gv (x : rb_R s a ex) (t : Nat) : rb_R (mo_pt s 22 (nI t)) (a_sgv a t) ex := by
  obtain ⟨x1, x2, x3, x4, x5, x6, x7, x8, x9⟩ := x
  exact ⟨x1, x2, x3, x4, (show va_up s.1 22 (nI t) 22 = nI t from va_up_self _ _ _), x6, x7, x8, x9⟩
/-- an event is told -/
theorem rb_R.no (x : rb_R s a ex) {w n r : Nat} (hl : (a_ev a).length < 2 ^ 30) : rb_R (mo_note s (nI w) (nI n) (nI r)) (a_no a w n r) ex := by
  obtain ⟨x1, x2, x3, x4, x5, x6, x7, x8, x9⟩ := x
  have e600 : (600 : Int32) = nI 600 := rfl
  have el : (a_ev (a_no a w n r)).length = (a_ev a).length + 1 := by
    show (a_ev a ++ [_]).length = _
    rw [List.length_append]
    rfl
  unfold mo_note
  rw [x3, e600]
  by_cases c : 600 ≤ (a_ev a).length
  · rw [if_pos (nI_le c (by omega))]
    refine ⟨x1, x2, ?_, x4, x5, x6, x7, fun i hi q hq => x8 i hi q ?_, x9⟩
    · show va_up s.1 19 (nI (a_ev a).length + 1) 19 = _
      rw [va_up_self, el, nI_1]
    · have hq' : (a_ev a ++ [(w, n, a_tm a, r)])[i]? = some q := hq
      rwa [List.getElem?_append_left (by omega)] at hq'
  · rw [if_neg (nI_ge (by omega) (by omega))]
    generalize hL : (a_ev a).length = L at *
    have e4 : (4 : Int32) = nI 4 := rfl
    have c0 : (4 * nI L).toNatClampNeg = 4 * L := by rw [e4, pk_mul, nI_clamp (by omega)]
    have c1 : (4 * nI L + 1).toNatClampNeg = 4 * L + 1 := by rw [e4, pk_mul, nI_1, nI_clamp (by omega)]
    have c2 : (4 * nI L + 2).toNatClampNeg = 4 * L + 2 := by rw [e4, pk_mul, show (2 : Int32) = nI 2 from rfl, nI_add, nI_clamp (by omega)]
    have c3 : (4 * nI L + 3).toNatClampNeg = 4 * L + 3 := by rw [e4, pk_mul, show (3 : Int32) = nI 3 from rfl, nI_add, nI_clamp (by omega)]
    rw [c0, c1, c2, c3]
    have ne : ∀ k, k ≠ 20 → (mo_pt (mo_up (mo_up (mo_up (mo_up s 20 (4 * L) (nI w)) 20 (4 * L + 1) (nI n)) 20 (4 * L + 2) (s.1 18)) 20 (4 * L + 3) (nI r)) 19 (nI L + 1)).2 k = s.2 k := fun k hk => by
      show va_up (va_up (va_up (va_up s.2 20 _) 20 _) 20 _) 20 _ k = _
      rw [va_up_ne _ _ hk, va_up_ne _ _ hk, va_up_ne _ _ hk, va_up_ne _ _ hk]
    have at20 : ∀ i, (mo_pt (mo_up (mo_up (mo_up (mo_up s 20 (4 * L) (nI w)) 20 (4 * L + 1) (nI n)) 20 (4 * L + 2) (s.1 18)) 20 (4 * L + 3) (nI r)) 19 (nI L + 1)).2 20 i = if i = 4 * L + 3 then nI r else if i = 4 * L + 2 then s.1 18 else if i = 4 * L + 1 then nI n else if i = 4 * L then nI w else s.2 20 i := fun i => by
      simp only [mo_pt, mo_up, va_up]
      rfl
    refine ⟨x1, x2, ?_, x4, x5, fun f q hf hq => ?_, fun q hq => ?_, fun i hi q hq => ?_, fun q hq => ?_⟩
    · show va_up s.1 19 (nI L + 1) 19 = _
      rw [va_up_self, el, nI_1]
    · rw [ne _ (by omega)]
      exact x6 f q hf hq
    · rw [ne _ (by omega), ne _ (by omega)]
      exact x7 q hq
    · have hq' : (a_ev a ++ [(w, n, a_tm a, r)])[i]? = some q := hq
      rw [at20, at20, at20, at20]
      by_cases ci : i < L
      · rw [List.getElem?_append_left (by omega)] at hq'
        have z := x8 i hi q hq'
        refine ⟨?_, ?_, ?_, ?_⟩
        · rw [if_neg (by omega), if_neg (by omega), if_neg (by omega), if_neg (by omega)]; exact z.1
        · rw [if_neg (by omega), if_neg (by omega), if_neg (by omega), if_neg (by omega)]; exact z.2.1
        · rw [if_neg (by omega), if_neg (by omega), if_neg (by omega), if_neg (by omega)]; exact z.2.2.1
        · rw [if_neg (by omega), if_neg (by omega), if_neg (by omega), if_neg (by omega)]; exact z.2.2.2
      · have hle : i < (a_ev a ++ [(w, n, a_tm a, r)]).length := (List.getElem?_eq_some_iff.mp hq').1
        rw [List.length_append, hL] at hle
        have ei : i = L := by simp at hle; omega
        subst ei
        rw [List.getElem?_append_right (by omega), hL, Nat.sub_self] at hq'
        cases hq'
        refine ⟨?_, ?_, ?_, ?_⟩
        · rw [if_neg (by omega), if_neg (by omega), if_neg (by omega), if_pos rfl]
        · rw [if_neg (by omega), if_neg (by omega), if_pos rfl]
        · rw [if_neg (by omega), if_pos rfl]; exact x2
        · rw [if_pos rfl]
    · obtain ⟨p, y⟩ := x9 q hq
      refine ⟨p, ?_⟩
      unfold rb_t
      rw [ne _ (by omega), ne _ (by omega)]
      exact y
/-- way and at are the loops' own -/
theorem rb_R.own (x : rb_R s a ex) {k i : Nat} {v : Int32} (hk : k = 23 ∨ k = 24) : rb_R (mo_up s k i v) a ex := by
  obtain ⟨x1, x2, x3, x4, x5, x6, x7, x8, x9⟩ := x
  have ne : ∀ j, j < 21 → (mo_up s k i v).2 j = s.2 j := fun j hj => va_up_ne _ _ (by omega)
  refine ⟨x1, x2, x3, x4, x5, fun f q hf hq => ?_, fun q hq => ?_, fun j hj q hq => ?_, fun q hq => ?_⟩
  · rw [ne _ (by omega)]; exact x6 f q hf hq
  · rw [ne _ (by omega), ne _ (by omega)]; exact x7 q hq
  · rw [ne _ (by omega)]; exact x8 j hj q hq
  · obtain ⟨p, y⟩ := x9 q hq
    refine ⟨p, ?_⟩
    unfold rb_t
    rw [ne _ (by omega), ne _ (by omega)]
    exact y
/-- keeper n's times are forgotten -/
theorem rb_R.c0 (x : rb_R s a ex) {n : Nat} : rb_R (mo_up s 17 n 0) (a_srt a n []) ex := by
  obtain ⟨x1, x2, x3, x4, x5, x6, x7, x8, x9⟩ := x
  have ne : ∀ k, k ≠ 17 → (mo_up s 17 n 0).2 k = s.2 k := fun k hk => va_up_ne _ _ hk
  refine ⟨x1, x2, x3, x4, x5, fun f q hf hq => ?_, fun q hq => ?_, fun j hj q hq => ?_, fun q hq => ?_⟩
  · rw [ne _ (by omega)]; exact x6 f q hf hq
  · rw [ne _ (by omega), ne _ (by omega)]; exact x7 q hq
  · rw [ne _ (by omega)]; exact x8 j hj q hq
  · obtain ⟨p, y1, y2, y3, y4, dr, y5, y6⟩ := x9 q hq
    by_cases e : q = n
    · subst e
      refine ⟨[], ?_, by decide, fun _ _ => by decide, fun i hi => absurd hi (Nat.not_lt_zero _), [], ?_, fun _ z hz => by cases hz⟩
      · show va_up s.2 17 (va_up (s.2 17) q 0) 17 q = _
        rw [va_up_self, va_up_self]
        rfl
      · show va_up (a_rt a) q [] q = _
        rw [va_up_self]
        rfl
    · refine ⟨p, ?_, y2, y3, ?_, dr, ?_, y6⟩
      · show va_up s.2 17 (va_up (s.2 17) n 0) 17 q = _
        rw [va_up_self, va_up_ne _ _ e]
        exact y1
      · rw [ne _ (by omega)]; exact y4
      · show va_up (a_rt a) n [] q = _
        rw [va_up_ne _ _ e]
        exact y5
end RBR
/-- the loops' own: way, at; the code of the last refusal; the keeper that is about to give up -/
abbrev mrZ : Type := (Nat → Int32) × (Nat → Int32) × Int32 × Nat
/-- the heap H is h with the reference at m in state a -/
def MR (h : hpT) (m : Nat) (H : hpT) (a : aS) (z : mrZ) : Prop := ∃ s, H = mo_w h m s ∧ rb_R s a z.2.2.2 ∧ s.2 23 = z.1 ∧ s.2 24 = z.2.1 ∧ s.1 0 = z.2.2.1
theorem k_row {p i : Nat} (hp : p < 80) (hi : i < 80) : vp_in (80 * nI p + nI i) 6400 ∧ (80 * nI p + nI i).toNatClampNeg = 80 * p + i := mo_row_in hp hi
section MRR
variable {M : hpM} {G : hpG} {y : MethodName} {cc : ByteArray} {nL d : Nat} {h0 h H : hpT} {Q : State → Prop} {pc : Nat} {lo : Nat → Option Value} {st : List Value} {m : Nat} {a : aS} {z : mrZ} {n idx : Nat}
theorem MR.o (R : MR h m H a z) (x : mo_sh G h m) : hp_is G H m 6 := by
  obtain ⟨s, rfl, -⟩ := R
  exact x.o
theorem mr_A (C : hp_F M G y cc nL d h0) (x : mo_sh G h m) (R : MR h m H a z) {k : Nat} (fl : hp_FL y.cls idx 6 k) (hk : mo_isA k = true) (h25 : k < 25) (dd : decode cc pc = .ok (.getfield idx, 3)) (kk : hp_V M G nL Q H (pc + 3) lo (.ref (mo_arr m k) :: st)) : hp_V M G nL Q H pc lo (.ref m :: st) := by
  obtain ⟨s, rfl, -⟩ := R
  exact mo_getA C x fl hk h25 dd kk
theorem mr_S (C : hp_F M G y cc nL d h0) (x : mo_sh G h m) (R : MR h m H a z) {k : Nat} (fl : hp_FL y.cls idx 6 k) {v : Int32} (hk : (k = 0 ∧ v = z.2.2.1) ∨ (k = 1 ∧ v = nI (a_mk a)) ∨ (k = 18 ∧ v = nI (a_tm a)) ∨ (k = 19 ∧ v = nI (a_ev a).length) ∨ (k = 21 ∧ v = nI (a_rs a)) ∨ (k = 22 ∧ v = nI (a_gv a))) (dd : decode cc pc = .ok (.getfield idx, 3)) (kk : hp_V M G nL Q H (pc + 3) lo (.int v :: st)) : hp_V M G nL Q H pc lo (.ref m :: st) := by
  obtain ⟨s, rfl, r, -, -, r0⟩ := R
  rcases hk with ⟨rfl, rfl⟩ | ⟨rfl, rfl⟩ | ⟨rfl, rfl⟩ | ⟨rfl, rfl⟩ | ⟨rfl, rfl⟩ | ⟨rfl, rfl⟩
  · exact mo_getS C x fl rfl (by decide) r0 dd kk
  · exact mo_getS C x fl rfl (by decide) r.1.1 dd kk
  · exact mo_getS C x fl rfl (by decide) r.2.1 dd kk
  · exact mo_getS C x fl rfl (by decide) r.2.2.1 dd kk
  · exact mo_getS C x fl rfl (by decide) r.2.2.2.1 dd kk
  · exact mo_getS C x fl rfl (by decide) r.2.2.2.2.1 dd kk
theorem mr_nd (C : hp_F M G y cc nL d h0) (x : mo_sh G h m) (R : MR h m H a z) (k f : Nat) (hf : f < 12) (hf0 : f ≠ 0) (e : k = f + 2) (hn : n < 80) (dd : decode cc pc = .ok (.iaload, 1)) (kk : hp_V M G nL Q H (pc + 1) lo (.int (Int32.ofInt (a_nd a f n)) :: st)) : hp_V M G nL Q H pc lo (.int (nI n) :: .ref (mo_arr m k) :: st) := by
  subst e
  obtain ⟨s, rfl, r, -⟩ := R
  have hA : mo_isA (f + 2) = true := by
    unfold mo_isA
    simp only [Bool.or_eq_true, Bool.and_eq_true, decide_eq_true_eq, beq_iff_eq]
    omega
  have hL : mo_len (f + 2) = 80 := by
    unfold mo_len
    rw [if_neg (by omega), if_neg (by omega), if_neg (by omega), if_neg (by omega), if_neg (by omega)]
  refine mo_ald C x hA (by omega) rfl dd (by rw [hL]; exact nI_in hn (by omega)) ?_
  rw [nI_clamp (by omega), r.nd hf hn]
  exact kk
theorem mr_kp (C : hp_F M G y cc nL d h0) (x : mo_sh G h m) (R : MR h m H a z) (hn : n < 80) (dd : decode cc pc = .ok (.baload, 1)) (kk : hp_V M G nL Q H (pc + 1) lo (.int (Int32.ofInt (a_nd a 0 n)) :: st)) : hp_V M G nL Q H pc lo (.int (nI n) :: .ref (mo_arr m 2) :: st) := by
  obtain ⟨s, rfl, r, -⟩ := R
  refine mo_zld C x rfl dd (nI_in hn (by decide)) ?_
  have := r.nd (f := 0) (by omega) hn
  rw [nI_clamp (by omega), this]
  exact kk
theorem mr_many (C : hp_F M G y cc nL d h0) (x : mo_sh G h m) (R : MR h m H a z) (hn : n < 80) (dd : decode cc pc = .ok (.iaload, 1)) (kk : hp_V M G nL Q H (pc + 1) lo (.int (nI (a_rw a n).length) :: st)) : hp_V M G nL Q H pc lo (.int (nI n) :: .ref (mo_arr m 15) :: st) := by
  obtain ⟨s, rfl, r, -⟩ := R
  refine mo_ald C x rfl (by decide) rfl dd (nI_in hn (by decide)) ?_
  rw [nI_clamp (by omega), (r.2.2.2.2.2.2.1 n hn).1]
  exact kk
theorem mr_row (C : hp_F M G y cc nL d h0) (x : mo_sh G h m) (R : MR h m H a z) (hn : n < 80) {i : Nat} (hi : i < (a_rw a n).length) {v : Int32} (ev : v = 80 * nI n + nI i) (dd : decode cc pc = .ok (.iaload, 1)) (kk : hp_V M G nL Q H (pc + 1) lo (.int (nI ((a_rw a n).getD i 0)) :: st)) : hp_V M G nL Q H pc lo (.int v :: .ref (mo_arr m 14) :: st) := by
  subst ev
  obtain ⟨s, rfl, r, -⟩ := R
  obtain ⟨r1, r2, r3⟩ := r.2.2.2.2.2.2.1 n hn
  obtain ⟨q1, q2⟩ := k_row hn (show i < 80 by omega)
  refine mo_ald C x rfl (by decide) rfl dd q1 ?_
  rw [q2, (r3 i hi).1]
  exact kk
theorem mr_way (C : hp_F M G y cc nL d h0) (x : mo_sh G h m) (R : MR h m H a z) {l : Nat} (hl : l < 10) {v : Int32} (ev : z.1 l = v) (dd : decode cc pc = .ok (.iaload, 1)) (kk : hp_V M G nL Q H (pc + 1) lo (.int v :: st)) : hp_V M G nL Q H pc lo (.int (nI l) :: .ref (mo_arr m 23) :: st) := by
  obtain ⟨s, rfl, r, r1, r2, r3⟩ := R
  refine mo_ald C x rfl (by decide) r1 dd (nI_in hl (by decide)) ?_
  rw [nI_clamp (by omega), ev]
  exact kk
theorem mr_at (C : hp_F M G y cc nL d h0) (x : mo_sh G h m) (R : MR h m H a z) {l : Nat} (hl : l < 10) {v : Int32} (ev : z.2.1 l = v) (dd : decode cc pc = .ok (.iaload, 1)) (kk : hp_V M G nL Q H (pc + 1) lo (.int v :: st)) : hp_V M G nL Q H pc lo (.int (nI l) :: .ref (mo_arr m 24) :: st) := by
  obtain ⟨s, rfl, r, r1, r2, r3⟩ := R
  refine mo_ald C x rfl (by decide) r2 dd (nI_in hl (by decide)) ?_
  rw [nI_clamp (by omega), ev]
  exact kk
theorem ms_way (C : hp_F M G y cc nL d h0) (x : mo_sh G h m) (R : MR h m H a z) {l : Nat} (hl : l < 10) {v : Int32} (dd : decode cc pc = .ok (.iastore, 1)) (kk : ∀ H', MR h m H' a (va_up z.1 l v, z.2) → hp_V M G nL Q H' (pc + 1) lo st) : hp_V M G nL Q H pc lo (.int v :: .int (nI l) :: .ref (mo_arr m 23) :: st) := by
  obtain ⟨s, rfl, r, r1, r2, r3⟩ := R
  refine mo_ast C x rfl (by decide) dd (nI_in hl (by decide)) ?_
  rw [nI_clamp (by omega)]
  refine kk _ ⟨_, rfl, r.own (Or.inl rfl), ?_, (show va_up s.2 23 (va_up (s.2 23) l v) 24 = z.2.1 from (va_up_ne _ _ (by decide)).trans r2), r3⟩
  show va_up s.2 23 (va_up (s.2 23) l v) 23 = va_up z.1 l v
  rw [va_up_self, r1]
theorem ms_at (C : hp_F M G y cc nL d h0) (x : mo_sh G h m) (R : MR h m H a z) {l : Nat} (hl : l < 10) {v : Int32} (dd : decode cc pc = .ok (.iastore, 1)) (kk : ∀ H', MR h m H' a (z.1, va_up z.2.1 l v, z.2.2) → hp_V M G nL Q H' (pc + 1) lo st) : hp_V M G nL Q H pc lo (.int v :: .int (nI l) :: .ref (mo_arr m 24) :: st) := by
  obtain ⟨s, rfl, r, r1, r2, r3⟩ := R
  refine mo_ast C x rfl (by decide) dd (nI_in hl (by decide)) ?_
  rw [nI_clamp (by omega)]
  refine kk _ ⟨_, rfl, r.own (Or.inr rfl), (show va_up s.2 24 (va_up (s.2 24) l v) 23 = z.1 from (va_up_ne _ _ (by decide)).trans r1), ?_, r3⟩
  show va_up s.2 24 (va_up (s.2 24) l v) 24 = va_up z.2.1 l v
  rw [va_up_self, r2]
theorem ms_sn (C : hp_F M G y cc nL d h0) (x : mo_sh G h m) (R : MR h m H a z) (k f : Nat) (hf : f < 12) (hf0 : f ≠ 0) (hf3 : f ≠ 3) (hf7 : f ≠ 7) (e : k = f + 2) (hn : n < 80) {v : Int32} (q : Int) (hq : a_sm q) (ev : v = Int32.ofInt q) (dd : decode cc pc = .ok (.iastore, 1)) (kk : ∀ H', MR h m H' (a_sn a f n q) z → hp_V M G nL Q H' (pc + 1) lo st) : hp_V M G nL Q H pc lo (.int v :: .int (nI n) :: .ref (mo_arr m k) :: st) := by
  subst e ev
  obtain ⟨s, rfl, r, r1, r2, r3⟩ := R
  have hA : mo_isA (f + 2) = true := by
    unfold mo_isA
    simp only [Bool.or_eq_true, Bool.and_eq_true, decide_eq_true_eq, beq_iff_eq]
    omega
  have hL : mo_len (f + 2) = 80 := by
    unfold mo_len
    rw [if_neg (by omega), if_neg (by omega), if_neg (by omega), if_neg (by omega), if_neg (by omega)]
  refine mo_ast C x hA (by omega) dd (by rw [hL]; exact nI_in hn (by omega)) ?_
  rw [nI_clamp (by omega)]
  exact kk _ ⟨_, rfl, r.sn hf hf3 hf7 hn hq, (va_up_ne _ _ (by omega)).trans r1, (va_up_ne _ _ (by omega)).trans r2, r3⟩
theorem ms_st (C : hp_F M G y cc nL d h0) (x : mo_sh G h m) (R : MR h m H a z) (hn : n < 80) {v : Int32} (q : Int) (hq : a_sm q) (ht : q = 1 → a_rt a n = []) (ev : v = Int32.ofInt q) (dd : decode cc pc = .ok (.iastore, 1)) (kk : ∀ H', MR h m H' (a_sn a 3 n q) z → hp_V M G nL Q H' (pc + 1) lo st) : hp_V M G nL Q H pc lo (.int v :: .int (nI n) :: .ref (mo_arr m 5) :: st) := by
  subst ev
  obtain ⟨s, rfl, r, r1, r2, r3⟩ := R
  refine mo_ast C x rfl (by decide) dd (nI_in hn (by decide)) ?_
  rw [nI_clamp (by omega)]
  exact kk _ ⟨_, rfl, r.s3 hn hq ht, (show va_up s.2 5 (va_up (s.2 5) n (Int32.ofInt q)) 23 = z.1 from (va_up_ne _ _ (by decide)).trans r1), (show va_up s.2 5 (va_up (s.2 5) n (Int32.ofInt q)) 24 = z.2.1 from (va_up_ne _ _ (by decide)).trans r2), r3⟩
theorem ms_tm (C : hp_F M G y cc nL d h0) (x : mo_sh G h m) (R : MR h m H a z) (fl : hp_FL y.cls idx 6 18) {v : Int32} (t : Nat) (ht : a_tm a ≤ t) (ev : v = nI t) (dd : decode cc pc = .ok (.putfield idx, 3)) (kk : ∀ H', MR h m H' (a_st a t) z → hp_V M G nL Q H' (pc + 3) lo st) : hp_V M G nL Q H pc lo (.int v :: .ref m :: st) := by
  subst ev
  obtain ⟨s, rfl, r, r1, r2, r3⟩ := R
  exact mo_putS C x fl rfl (by decide) rfl rfl rfl dd (kk _ ⟨_, rfl, r.st ht, r1, r2, r3⟩)
theorem ms_gv (C : hp_F M G y cc nL d h0) (x : mo_sh G h m) (R : MR h m H a z) (fl : hp_FL y.cls idx 6 22) {v : Int32} (t : Nat) (ev : v = nI t) (dd : decode cc pc = .ok (.putfield idx, 3)) (kk : ∀ H', MR h m H' (a_sgv a t) z → hp_V M G nL Q H' (pc + 3) lo st) : hp_V M G nL Q H pc lo (.int v :: .ref m :: st) := by
  subst ev
  obtain ⟨s, rfl, r, r1, r2, r3⟩ := R
  exact mo_putS C x fl rfl (by decide) rfl rfl rfl dd (kk _ ⟨_, rfl, r.gv t, r1, r2, r3⟩)
theorem ms_c0 (C : hp_F M G y cc nL d h0) (x : mo_sh G h m) (R : MR h m H a z) (hn : n < 80) (dd : decode cc pc = .ok (.iastore, 1)) (kk : ∀ H', MR h m H' (a_srt a n []) z → hp_V M G nL Q H' (pc + 1) lo st) : hp_V M G nL Q H pc lo (.int 0 :: .int (nI n) :: .ref (mo_arr m 17) :: st) := by
  obtain ⟨s, rfl, r, r1, r2, r3⟩ := R
  refine mo_ast C x rfl (by decide) dd (nI_in hn (by decide)) ?_
  rw [nI_clamp (by omega)]
  exact kk _ ⟨_, rfl, r.c0, (show va_up s.2 17 (va_up (s.2 17) n 0) 23 = z.1 from (va_up_ne _ _ (by decide)).trans r1), (show va_up s.2 17 (va_up (s.2 17) n 0) 24 = z.2.1 from (va_up_ne _ _ (by decide)).trans r2), r3⟩
end MRR
theorem mc_note {l : Launch} {G : hpG} {h H : hpT} {m d : Nat} {a : aS} {z : mrZ} (x : mo_sh G h m) (R : MR h m H a z) {w n r : Nat} (hl : (a_ev a).length < 2 ^ 30) : hp_C l G yX6_note (.code yX6_note cX6_note 4 none) d [.ref m, .int (nI w), .int (nI n), .int (nI r)] H (fun v h' => v = none ∧ MR h m h' (a_no a w n r) z) (fun _ _ => False) := by
  obtain ⟨s, rfl, q, r1, r2, r3⟩ := R
  have ev : mo_evk s := by
    unfold mo_evk
    rw [q.2.2.1, nI_toInt (by omega)]
    omega
  have c := mo_noteC (l := l) (d := d) (a := nI w) (b := nI n) (c := nI r) x ev
  exact hp_Cw c (fun v h' hv => ⟨hv.1, _, hv.2, q.no hl, by rw [mo_note_ne (by decide)]; exact r1, by rw [mo_note_ne (by decide)]; exact r2, by rw [mo_note_1 (by decide)]; exact r3⟩)
/-! ===== the reference: ceases ===== -/
set_option maxHeartbeats 4000000 in
theorem mo_ceE {M : hpM} {G : hpG} {d : Nat} {h0 h : hpT} {m : Nat} {Q : State → Prop} (sh : mo_sh G h m) (C : hp_F M G yX6_ceases cX6_ceases 8 d h0) (hd : 1 ≤ d) {k : Bool} {fr : Nat} : ∀ (n lv al : Nat) (lo : Nat → Option Value) (H : hpT) (a : aS) (z : mrZ), MR h m H a z → a_T a → n < a_mk a → (a_ev a).length < 2 ^ 30 → lo 0 = some (.ref m) → lo 2 = some (.int (nI fr)) → lo 3 = some (.int (if k = true then 1 else 0)) → lo 4 = some (.int (nI lv)) → lo 5 = some (.int (nI al)) → lo 6 = some (.int (nI n)) → (∀ (lo' : Nat → Option Value) (H' : hpT) (z' : mrZ), MR h m H' (a_end k n a) z' → (∀ i, i < lv → z'.1 i = z.1 i ∧ z'.2.1 i = z.2.1 i) → z'.2.2 = z.2.2 → lo' 0 = some (.ref m) → lo' 2 = some (.int (nI fr)) → lo' 3 = some (.int (if k = true then 1 else 0)) → lo' 4 = some (.int (nI lv - 1)) → lo' 5 = some (.int (nI (al + 1))) → hp_V M G 8 Q H' 29 lo' []) → hp_V M G 8 Q H 187 lo [] := by
  intro n lv al lo H a z R T hn hv e0 e2 e3 e4 e5 e6 hP
  have hn8 : n < 80 := Nat.lt_of_lt_of_le hn T.1.2
  have r8 := T.r8 hn
  have r10 := T.r10 hn
  have hb := T.kb hn
  cases k with
  | true =>
    have ee : a_end true n a = a_no (a_sn a 3 n 0) 4 n 0 := by unfold a_end; rw [if_neg (fun z => by cases z.2)]; rfl
    rw [ee] at hP
    rcases hb with hk | hk
    · refine hp_iload_n C dX6_ceases_187 e3 ?_
      refine hp_istore C dX6_ceases_188 (by decide) ?_
      refine hp_aload_nR C dX6_ceases_190 e0 ?_
      refine mr_A C sh R fl_X6_7_6 rfl (by decide) dX6_ceases_191 ?_
      refine hp_iload C dX6_ceases_194 e6 ?_
      refine mr_kp C sh R hn8 dX6_ceases_196 ?_
      refine hp_if_ne (tgt := 301) C dX6_ceases_197 (by decide) (fun z_9 => absurd z_9 (fun z_8 => z_8 (by rw [hk]; decide))) (fun _ => ?_)
      refine hp_iload_n C dX6_ceases_200 e3 ?_
      refine hp_if_ne (tgt := 301) C dX6_ceases_201 (by decide) (fun _ => ?_) (fun z_9 => absurd z_9 (show ¬ (1 : Int32) = 0 by decide))
      refine hp_aload_nR C dX6_ceases_301 e0 ?_
      refine mr_A C sh R fl_X6_20_6 rfl (by decide) dX6_ceases_302 ?_
      refine hp_iload C dX6_ceases_305 e6 ?_
      refine hp_iconst (v := 0) C dX6_ceases_307 (by decide) ?_
      refine ms_st C sh R hn8 0 (by omega) (fun z_7 => by cases z_7) (by decide) dX6_ceases_308 (fun H_308 R_308 => ?_)
      refine hp_aload_nR C dX6_ceases_309 e0 ?_
      refine hp_iload C dX6_ceases_310 rfl ?_
      refine hp_if_eq (tgt := 319) C dX6_ceases_312 (by decide) (fun z_9 => absurd z_9 (show ¬ (1 : Int32) = 0 by decide)) (fun _ => ?_)
      refine hp_iconst (v := 4) C dX6_ceases_315 (by decide) ?_
      refine hp_goto (tgt := 320) C dX6_ceases_316 (by decide) ?_
      refine hp_iload C dX6_ceases_320 e6 ?_
      refine hp_iconst (v := 0) C dX6_ceases_322 (by decide) ?_
      refine hp_callV (ci := 6) C ml_X6_89 im_X6_note se_X6_note rfl (by decide) (mc_note (d := d - 1) (w := 4) (n := n) (r := 0) sh R_308 hv) (by omega) dX6_ceases_323 (R_308.o sh) rfl rfl (by simp [Value.category]) (fun v_323 h_323 hp => ?_) (fun _ _ hf => hf.elim)
      obtain ⟨rfl, R_323⟩ := hp
      refine hp_iinc C dX6_ceases_326 e5 (by decide) rfl ?_
      refine hp_iinc C dX6_ceases_329 e4 (by decide) rfl ?_
      refine hp_goto (tgt := 29) C dX6_ceases_332 (by decide) ?_
      exact hP _ _ z R_323 (fun _ _ => ⟨rfl, rfl⟩) rfl e0 e2 e3 ((va_up_self _ _ _).trans (by rw [k_dec])) (by show some (Value.int (nI al + Int32.ofInt 1)) = _; rw [show Int32.ofInt 1 = 1 from rfl, nI_1])
    · refine hp_iload_n C dX6_ceases_187 e3 ?_
      refine hp_istore C dX6_ceases_188 (by decide) ?_
      refine hp_aload_nR C dX6_ceases_190 e0 ?_
      refine mr_A C sh R fl_X6_7_6 rfl (by decide) dX6_ceases_191 ?_
      refine hp_iload C dX6_ceases_194 e6 ?_
      refine mr_kp C sh R hn8 dX6_ceases_196 ?_
      refine hp_if_ne (tgt := 301) C dX6_ceases_197 (by decide) (fun _ => ?_) (fun z_9 => absurd z_9 (show ¬ Int32.ofInt (a_nd a 0 n) = 0 by rw [hk]; decide))
      refine hp_aload_nR C dX6_ceases_301 e0 ?_
      refine mr_A C sh R fl_X6_20_6 rfl (by decide) dX6_ceases_302 ?_
      refine hp_iload C dX6_ceases_305 e6 ?_
      refine hp_iconst (v := 0) C dX6_ceases_307 (by decide) ?_
      refine ms_st C sh R hn8 0 (by omega) (fun z_7 => by cases z_7) (by decide) dX6_ceases_308 (fun H_308 R_308 => ?_)
      refine hp_aload_nR C dX6_ceases_309 e0 ?_
      refine hp_iload C dX6_ceases_310 rfl ?_
      refine hp_if_eq (tgt := 319) C dX6_ceases_312 (by decide) (fun z_9 => absurd z_9 (show ¬ (1 : Int32) = 0 by decide)) (fun _ => ?_)
      refine hp_iconst (v := 4) C dX6_ceases_315 (by decide) ?_
      refine hp_goto (tgt := 320) C dX6_ceases_316 (by decide) ?_
      refine hp_iload C dX6_ceases_320 e6 ?_
      refine hp_iconst (v := 0) C dX6_ceases_322 (by decide) ?_
      refine hp_callV (ci := 6) C ml_X6_89 im_X6_note se_X6_note rfl (by decide) (mc_note (d := d - 1) (w := 4) (n := n) (r := 0) sh R_308 hv) (by omega) dX6_ceases_323 (R_308.o sh) rfl rfl (by simp [Value.category]) (fun v_323 h_323 hp => ?_) (fun _ _ hf => hf.elim)
      obtain ⟨rfl, R_323⟩ := hp
      refine hp_iinc C dX6_ceases_326 e5 (by decide) rfl ?_
      refine hp_iinc C dX6_ceases_329 e4 (by decide) rfl ?_
      refine hp_goto (tgt := 29) C dX6_ceases_332 (by decide) ?_
      exact hP _ _ z R_323 (fun _ _ => ⟨rfl, rfl⟩) rfl e0 e2 e3 ((va_up_self _ _ _).trans (by rw [k_dec])) (by show some (Value.int (nI al + Int32.ofInt 1)) = _; rw [show Int32.ofInt 1 = 1 from rfl, nI_1])
  | false =>
    rcases hb with hk | hk
    · refine hp_iload_n C dX6_ceases_187 e3 ?_
      refine hp_istore C dX6_ceases_188 (by decide) ?_
      refine hp_aload_nR C dX6_ceases_190 e0 ?_
      refine mr_A C sh R fl_X6_7_6 rfl (by decide) dX6_ceases_191 ?_
      refine hp_iload C dX6_ceases_194 e6 ?_
      refine mr_kp C sh R hn8 dX6_ceases_196 ?_
      refine hp_if_ne (tgt := 301) C dX6_ceases_197 (by decide) (fun z_9 => absurd z_9 (fun z_8 => z_8 (by rw [hk]; decide))) (fun _ => ?_)
      refine hp_iload_n C dX6_ceases_200 e3 ?_
      refine hp_if_ne (tgt := 301) C dX6_ceases_201 (by decide) (fun z_9 => absurd z_9 (fun z_8 => z_8 (show (0 : Int32) = 0 by decide))) (fun _ => ?_)
      refine hp_aload_nR C dX6_ceases_204 e0 ?_
      refine mr_A C sh R fl_X6_35_6 rfl (by decide) dX6_ceases_205 ?_
      refine hp_iload C dX6_ceases_208 e6 ?_
      refine mr_nd C sh R 10 8 (by decide) (by decide) rfl hn8 dX6_ceases_210 ?_
      refine hp_if_eq (tgt := 241) C dX6_ceases_211 (by decide) (fun c_211 => ?_) (fun c_211 => ?_)
      · refine hp_iconst (v := 1) C dX6_ceases_241 (by decide) ?_
        refine hp_goto (tgt := 246) C dX6_ceases_242 (by decide) ?_
        have g8 : a_nd a 8 n = 0 := (a_ofI_eq (x := a_nd a 8 n) (y := 0) (by omega) (by omega)).mp c_211
        have ds : a_dies a n = true := by simp [a_dies, g8]
        refine hp_istore C dX6_ceases_246 (by decide) ?_
        refine hp_aload_nR C dX6_ceases_248 e0 ?_
        refine hp_dup C dX6_ceases_249 rfl ?_
        refine mr_S C sh R fl_X6_82_6 (Or.inr (Or.inr (Or.inl ⟨rfl, rfl⟩))) dX6_ceases_250 ?_
        refine hp_aload_nR C dX6_ceases_253 e0 ?_
        refine mr_A C sh R fl_X6_35_6 rfl (by decide) dX6_ceases_254 ?_
        refine hp_iload C dX6_ceases_257 e6 ?_
        refine mr_nd C sh R 10 8 (by decide) (by decide) rfl hn8 dX6_ceases_259 ?_
        refine hp_if_lt (tgt := 280) C dX6_ceases_260 (by decide) (fun c_260 => ?_) (fun c_260 => ?_)
        · have h8 : a_nd a 8 n < 0 := (a_ofI_lt (x := a_nd a 8 n) (y := 0) (by omega) (by omega)).mp c_260
          have lg : a_long a n = (a_nd a 10 n).toNat := by unfold a_long; rw [if_pos (Or.inl h8)]
          refine hp_aload_nR C dX6_ceases_280 e0 ?_
          refine mr_A C sh R fl_X6_41_6 rfl (by decide) dX6_ceases_281 ?_
          refine hp_iload C dX6_ceases_284 e6 ?_
          refine mr_nd C sh R 12 10 (by decide) (by decide) rfl hn8 dX6_ceases_286 ?_
          refine hp_goto (tgt := 297) C dX6_ceases_287 (by decide) ?_
          refine hp_iadd C dX6_ceases_297 ?_
          refine ms_tm C sh R fl_X6_82_6 (a_tm a + a_long a n) (Nat.le_add_right _ _) (by rw [lg, a_ofN (by omega), nI_add]) dX6_ceases_298 (fun H_298 R_298 => ?_)
          refine hp_aload_nR C dX6_ceases_301 e0 ?_
          refine mr_A C sh R_298 fl_X6_20_6 rfl (by decide) dX6_ceases_302 ?_
          refine hp_iload C dX6_ceases_305 e6 ?_
          refine hp_iconst (v := 0) C dX6_ceases_307 (by decide) ?_
          refine ms_st C sh R_298 hn8 0 (by omega) (fun z_7 => by cases z_7) (by decide) dX6_ceases_308 (fun H_308 R_308 => ?_)
          refine hp_aload_nR C dX6_ceases_309 e0 ?_
          refine hp_iload C dX6_ceases_310 rfl ?_
          refine hp_if_eq (tgt := 319) C dX6_ceases_312 (by decide) (fun z_9 => absurd z_9 (by decide)) (fun _ => ?_)
          refine hp_iconst (v := 4) C dX6_ceases_315 (by decide) ?_
          refine hp_goto (tgt := 320) C dX6_ceases_316 (by decide) ?_
          refine hp_iload C dX6_ceases_320 e6 ?_
          refine hp_iconst (v := 0) C dX6_ceases_322 (by decide) ?_
          refine hp_callV (ci := 6) C ml_X6_89 im_X6_note se_X6_note rfl (by decide) (mc_note (d := d - 1) (w := 4) (n := n) (r := 0) sh R_308 hv) (by omega) dX6_ceases_323 (R_308.o sh) rfl rfl (by simp [Value.category]) (fun v_323 h_323 hp => ?_) (fun _ _ hf => hf.elim)
          obtain ⟨rfl, R_323⟩ := hp
          refine hp_iinc C dX6_ceases_326 e5 (by decide) rfl ?_
          refine hp_iinc C dX6_ceases_329 e4 (by decide) rfl ?_
          refine hp_goto (tgt := 29) C dX6_ceases_332 (by decide) ?_
          rw [← a_end_w hk rfl ds] at hP
          exact hP _ _ z R_323 (fun _ _ => ⟨rfl, rfl⟩) rfl e0 e2 e3 ((va_up_self _ _ _).trans (by rw [k_dec])) (by show some (Value.int (nI al + Int32.ofInt 1)) = _; rw [show Int32.ofInt 1 = 1 from rfl, nI_1])
        · refine hp_aload_nR C dX6_ceases_263 e0 ?_
          refine mr_A C sh R fl_X6_41_6 rfl (by decide) dX6_ceases_264 ?_
          refine hp_iload C dX6_ceases_267 e6 ?_
          refine mr_nd C sh R 12 10 (by decide) (by decide) rfl hn8 dX6_ceases_269 ?_
          refine hp_aload_nR C dX6_ceases_270 e0 ?_
          refine mr_A C sh R fl_X6_35_6 rfl (by decide) dX6_ceases_271 ?_
          refine hp_iload C dX6_ceases_274 e6 ?_
          refine mr_nd C sh R 10 8 (by decide) (by decide) rfl hn8 dX6_ceases_276 ?_
          refine hp_icmp_ge (tgt := 290) C dX6_ceases_277 (by decide) (fun c_277 => ?_) (fun c_277 => ?_)
          · have h8 : ¬ a_nd a 8 n < 0 := (not_congr (a_ofI_lt (x := a_nd a 8 n) (y := 0) (by omega) (by omega))).mp c_260
            have h9 : a_nd a 8 n ≤ a_nd a 10 n := (a_ofI_le (by omega) (by omega)).mp c_277
            have lg : a_long a n = (a_nd a 8 n).toNat := by unfold a_long; rw [if_neg (by omega)]
            refine hp_aload_nR C dX6_ceases_290 e0 ?_
            refine mr_A C sh R fl_X6_35_6 rfl (by decide) dX6_ceases_291 ?_
            refine hp_iload C dX6_ceases_294 e6 ?_
            refine mr_nd C sh R 10 8 (by decide) (by decide) rfl hn8 dX6_ceases_296 ?_
            refine hp_iadd C dX6_ceases_297 ?_
            refine ms_tm C sh R fl_X6_82_6 (a_tm a + a_long a n) (Nat.le_add_right _ _) (by rw [lg, a_ofN (by omega), nI_add]) dX6_ceases_298 (fun H_298 R_298 => ?_)
            refine hp_aload_nR C dX6_ceases_301 e0 ?_
            refine mr_A C sh R_298 fl_X6_20_6 rfl (by decide) dX6_ceases_302 ?_
            refine hp_iload C dX6_ceases_305 e6 ?_
            refine hp_iconst (v := 0) C dX6_ceases_307 (by decide) ?_
            refine ms_st C sh R_298 hn8 0 (by omega) (fun z_7 => by cases z_7) (by decide) dX6_ceases_308 (fun H_308 R_308 => ?_)
            refine hp_aload_nR C dX6_ceases_309 e0 ?_
            refine hp_iload C dX6_ceases_310 rfl ?_
            refine hp_if_eq (tgt := 319) C dX6_ceases_312 (by decide) (fun z_9 => absurd z_9 (by decide)) (fun _ => ?_)
            refine hp_iconst (v := 4) C dX6_ceases_315 (by decide) ?_
            refine hp_goto (tgt := 320) C dX6_ceases_316 (by decide) ?_
            refine hp_iload C dX6_ceases_320 e6 ?_
            refine hp_iconst (v := 0) C dX6_ceases_322 (by decide) ?_
            refine hp_callV (ci := 6) C ml_X6_89 im_X6_note se_X6_note rfl (by decide) (mc_note (d := d - 1) (w := 4) (n := n) (r := 0) sh R_308 hv) (by omega) dX6_ceases_323 (R_308.o sh) rfl rfl (by simp [Value.category]) (fun v_323 h_323 hp => ?_) (fun _ _ hf => hf.elim)
            obtain ⟨rfl, R_323⟩ := hp
            refine hp_iinc C dX6_ceases_326 e5 (by decide) rfl ?_
            refine hp_iinc C dX6_ceases_329 e4 (by decide) rfl ?_
            refine hp_goto (tgt := 29) C dX6_ceases_332 (by decide) ?_
            rw [← a_end_w hk rfl ds] at hP
            exact hP _ _ z R_323 (fun _ _ => ⟨rfl, rfl⟩) rfl e0 e2 e3 ((va_up_self _ _ _).trans (by rw [k_dec])) (by show some (Value.int (nI al + Int32.ofInt 1)) = _; rw [show Int32.ofInt 1 = 1 from rfl, nI_1])
          · have h9 : ¬ a_nd a 8 n ≤ a_nd a 10 n := (not_congr (a_ofI_le (by omega) (by omega))).mp c_277
            have lg : a_long a n = (a_nd a 10 n).toNat := by unfold a_long; rw [if_pos (Or.inr (by omega))]
            refine hp_aload_nR C dX6_ceases_280 e0 ?_
            refine mr_A C sh R fl_X6_41_6 rfl (by decide) dX6_ceases_281 ?_
            refine hp_iload C dX6_ceases_284 e6 ?_
            refine mr_nd C sh R 12 10 (by decide) (by decide) rfl hn8 dX6_ceases_286 ?_
            refine hp_goto (tgt := 297) C dX6_ceases_287 (by decide) ?_
            refine hp_iadd C dX6_ceases_297 ?_
            refine ms_tm C sh R fl_X6_82_6 (a_tm a + a_long a n) (Nat.le_add_right _ _) (by rw [lg, a_ofN (by omega), nI_add]) dX6_ceases_298 (fun H_298 R_298 => ?_)
            refine hp_aload_nR C dX6_ceases_301 e0 ?_
            refine mr_A C sh R_298 fl_X6_20_6 rfl (by decide) dX6_ceases_302 ?_
            refine hp_iload C dX6_ceases_305 e6 ?_
            refine hp_iconst (v := 0) C dX6_ceases_307 (by decide) ?_
            refine ms_st C sh R_298 hn8 0 (by omega) (fun z_7 => by cases z_7) (by decide) dX6_ceases_308 (fun H_308 R_308 => ?_)
            refine hp_aload_nR C dX6_ceases_309 e0 ?_
            refine hp_iload C dX6_ceases_310 rfl ?_
            refine hp_if_eq (tgt := 319) C dX6_ceases_312 (by decide) (fun z_9 => absurd z_9 (by decide)) (fun _ => ?_)
            refine hp_iconst (v := 4) C dX6_ceases_315 (by decide) ?_
            refine hp_goto (tgt := 320) C dX6_ceases_316 (by decide) ?_
            refine hp_iload C dX6_ceases_320 e6 ?_
            refine hp_iconst (v := 0) C dX6_ceases_322 (by decide) ?_
            refine hp_callV (ci := 6) C ml_X6_89 im_X6_note se_X6_note rfl (by decide) (mc_note (d := d - 1) (w := 4) (n := n) (r := 0) sh R_308 hv) (by omega) dX6_ceases_323 (R_308.o sh) rfl rfl (by simp [Value.category]) (fun v_323 h_323 hp => ?_) (fun _ _ hf => hf.elim)
            obtain ⟨rfl, R_323⟩ := hp
            refine hp_iinc C dX6_ceases_326 e5 (by decide) rfl ?_
            refine hp_iinc C dX6_ceases_329 e4 (by decide) rfl ?_
            refine hp_goto (tgt := 29) C dX6_ceases_332 (by decide) ?_
            rw [← a_end_w hk rfl ds] at hP
            exact hP _ _ z R_323 (fun _ _ => ⟨rfl, rfl⟩) rfl e0 e2 e3 ((va_up_self _ _ _).trans (by rw [k_dec])) (by show some (Value.int (nI al + Int32.ofInt 1)) = _; rw [show Int32.ofInt 1 = 1 from rfl, nI_1])
      · refine hp_aload_nR C dX6_ceases_214 e0 ?_
        refine mr_A C sh R fl_X6_35_6 rfl (by decide) dX6_ceases_215 ?_
        refine hp_iload C dX6_ceases_218 e6 ?_
        refine mr_nd C sh R 10 8 (by decide) (by decide) rfl hn8 dX6_ceases_220 ?_
        refine hp_if_le (tgt := 245) C dX6_ceases_221 (by decide) (fun c_221 => ?_) (fun c_221 => ?_)
        · refine hp_iconst (v := 0) C dX6_ceases_245 (by decide) ?_
          have g8 : ¬ a_nd a 8 n = 0 := fun e => c_211 (by rw [e]; decide)
          have f8 : a_nd a 8 n ≤ 0 := (a_ofI_le (x := a_nd a 8 n) (y := 0) (by omega) (by omega)).mp c_221
          have ds : a_dies a n = false := by unfold a_dies; simp only [Bool.or_eq_false_iff, Bool.and_eq_false_iff, decide_eq_false_iff_not]; omega
          refine hp_istore C dX6_ceases_246 (by decide) ?_
          refine hp_aload_nR C dX6_ceases_248 e0 ?_
          refine hp_dup C dX6_ceases_249 rfl ?_
          refine mr_S C sh R fl_X6_82_6 (Or.inr (Or.inr (Or.inl ⟨rfl, rfl⟩))) dX6_ceases_250 ?_
          refine hp_aload_nR C dX6_ceases_253 e0 ?_
          refine mr_A C sh R fl_X6_35_6 rfl (by decide) dX6_ceases_254 ?_
          refine hp_iload C dX6_ceases_257 e6 ?_
          refine mr_nd C sh R 10 8 (by decide) (by decide) rfl hn8 dX6_ceases_259 ?_
          refine hp_if_lt (tgt := 280) C dX6_ceases_260 (by decide) (fun c_260 => ?_) (fun c_260 => ?_)
          · have h8 : a_nd a 8 n < 0 := (a_ofI_lt (x := a_nd a 8 n) (y := 0) (by omega) (by omega)).mp c_260
            have lg : a_long a n = (a_nd a 10 n).toNat := by unfold a_long; rw [if_pos (Or.inl h8)]
            refine hp_aload_nR C dX6_ceases_280 e0 ?_
            refine mr_A C sh R fl_X6_41_6 rfl (by decide) dX6_ceases_281 ?_
            refine hp_iload C dX6_ceases_284 e6 ?_
            refine mr_nd C sh R 12 10 (by decide) (by decide) rfl hn8 dX6_ceases_286 ?_
            refine hp_goto (tgt := 297) C dX6_ceases_287 (by decide) ?_
            refine hp_iadd C dX6_ceases_297 ?_
            refine ms_tm C sh R fl_X6_82_6 (a_tm a + a_long a n) (Nat.le_add_right _ _) (by rw [lg, a_ofN (by omega), nI_add]) dX6_ceases_298 (fun H_298 R_298 => ?_)
            refine hp_aload_nR C dX6_ceases_301 e0 ?_
            refine mr_A C sh R_298 fl_X6_20_6 rfl (by decide) dX6_ceases_302 ?_
            refine hp_iload C dX6_ceases_305 e6 ?_
            refine hp_iconst (v := 0) C dX6_ceases_307 (by decide) ?_
            refine ms_st C sh R_298 hn8 0 (by omega) (fun z_7 => by cases z_7) (by decide) dX6_ceases_308 (fun H_308 R_308 => ?_)
            refine hp_aload_nR C dX6_ceases_309 e0 ?_
            refine hp_iload C dX6_ceases_310 rfl ?_
            refine hp_if_eq (tgt := 319) C dX6_ceases_312 (by decide) (fun _ => ?_) (fun z_9 => absurd z_9 (by decide))
            refine hp_iconst (v := 3) C dX6_ceases_319 (by decide) ?_
            refine hp_iload C dX6_ceases_320 e6 ?_
            refine hp_iconst (v := 0) C dX6_ceases_322 (by decide) ?_
            refine hp_callV (ci := 6) C ml_X6_89 im_X6_note se_X6_note rfl (by decide) (mc_note (d := d - 1) (w := 3) (n := n) (r := 0) sh R_308 hv) (by omega) dX6_ceases_323 (R_308.o sh) rfl rfl (by simp [Value.category]) (fun v_323 h_323 hp => ?_) (fun _ _ hf => hf.elim)
            obtain ⟨rfl, R_323⟩ := hp
            refine hp_iinc C dX6_ceases_326 e5 (by decide) rfl ?_
            refine hp_iinc C dX6_ceases_329 e4 (by decide) rfl ?_
            refine hp_goto (tgt := 29) C dX6_ceases_332 (by decide) ?_
            rw [← a_end_w hk rfl ds] at hP
            exact hP _ _ z R_323 (fun _ _ => ⟨rfl, rfl⟩) rfl e0 e2 e3 ((va_up_self _ _ _).trans (by rw [k_dec])) (by show some (Value.int (nI al + Int32.ofInt 1)) = _; rw [show Int32.ofInt 1 = 1 from rfl, nI_1])
          · refine hp_aload_nR C dX6_ceases_263 e0 ?_
            refine mr_A C sh R fl_X6_41_6 rfl (by decide) dX6_ceases_264 ?_
            refine hp_iload C dX6_ceases_267 e6 ?_
            refine mr_nd C sh R 12 10 (by decide) (by decide) rfl hn8 dX6_ceases_269 ?_
            refine hp_aload_nR C dX6_ceases_270 e0 ?_
            refine mr_A C sh R fl_X6_35_6 rfl (by decide) dX6_ceases_271 ?_
            refine hp_iload C dX6_ceases_274 e6 ?_
            refine mr_nd C sh R 10 8 (by decide) (by decide) rfl hn8 dX6_ceases_276 ?_
            refine hp_icmp_ge (tgt := 290) C dX6_ceases_277 (by decide) (fun c_277 => ?_) (fun c_277 => ?_)
            · have h8 : ¬ a_nd a 8 n < 0 := (not_congr (a_ofI_lt (x := a_nd a 8 n) (y := 0) (by omega) (by omega))).mp c_260
              have h9 : a_nd a 8 n ≤ a_nd a 10 n := (a_ofI_le (by omega) (by omega)).mp c_277
              have lg : a_long a n = (a_nd a 8 n).toNat := by unfold a_long; rw [if_neg (by omega)]
              refine hp_aload_nR C dX6_ceases_290 e0 ?_
              refine mr_A C sh R fl_X6_35_6 rfl (by decide) dX6_ceases_291 ?_
              refine hp_iload C dX6_ceases_294 e6 ?_
              refine mr_nd C sh R 10 8 (by decide) (by decide) rfl hn8 dX6_ceases_296 ?_
              refine hp_iadd C dX6_ceases_297 ?_
              refine ms_tm C sh R fl_X6_82_6 (a_tm a + a_long a n) (Nat.le_add_right _ _) (by rw [lg, a_ofN (by omega), nI_add]) dX6_ceases_298 (fun H_298 R_298 => ?_)
              refine hp_aload_nR C dX6_ceases_301 e0 ?_
              refine mr_A C sh R_298 fl_X6_20_6 rfl (by decide) dX6_ceases_302 ?_
              refine hp_iload C dX6_ceases_305 e6 ?_
              refine hp_iconst (v := 0) C dX6_ceases_307 (by decide) ?_
              refine ms_st C sh R_298 hn8 0 (by omega) (fun z_7 => by cases z_7) (by decide) dX6_ceases_308 (fun H_308 R_308 => ?_)
              refine hp_aload_nR C dX6_ceases_309 e0 ?_
              refine hp_iload C dX6_ceases_310 rfl ?_
              refine hp_if_eq (tgt := 319) C dX6_ceases_312 (by decide) (fun _ => ?_) (fun z_9 => absurd z_9 (by decide))
              refine hp_iconst (v := 3) C dX6_ceases_319 (by decide) ?_
              refine hp_iload C dX6_ceases_320 e6 ?_
              refine hp_iconst (v := 0) C dX6_ceases_322 (by decide) ?_
              refine hp_callV (ci := 6) C ml_X6_89 im_X6_note se_X6_note rfl (by decide) (mc_note (d := d - 1) (w := 3) (n := n) (r := 0) sh R_308 hv) (by omega) dX6_ceases_323 (R_308.o sh) rfl rfl (by simp [Value.category]) (fun v_323 h_323 hp => ?_) (fun _ _ hf => hf.elim)
              obtain ⟨rfl, R_323⟩ := hp
              refine hp_iinc C dX6_ceases_326 e5 (by decide) rfl ?_
              refine hp_iinc C dX6_ceases_329 e4 (by decide) rfl ?_
              refine hp_goto (tgt := 29) C dX6_ceases_332 (by decide) ?_
              rw [← a_end_w hk rfl ds] at hP
              exact hP _ _ z R_323 (fun _ _ => ⟨rfl, rfl⟩) rfl e0 e2 e3 ((va_up_self _ _ _).trans (by rw [k_dec])) (by show some (Value.int (nI al + Int32.ofInt 1)) = _; rw [show Int32.ofInt 1 = 1 from rfl, nI_1])
            · have h9 : ¬ a_nd a 8 n ≤ a_nd a 10 n := (not_congr (a_ofI_le (by omega) (by omega))).mp c_277
              have lg : a_long a n = (a_nd a 10 n).toNat := by unfold a_long; rw [if_pos (Or.inr (by omega))]
              refine hp_aload_nR C dX6_ceases_280 e0 ?_
              refine mr_A C sh R fl_X6_41_6 rfl (by decide) dX6_ceases_281 ?_
              refine hp_iload C dX6_ceases_284 e6 ?_
              refine mr_nd C sh R 12 10 (by decide) (by decide) rfl hn8 dX6_ceases_286 ?_
              refine hp_goto (tgt := 297) C dX6_ceases_287 (by decide) ?_
              refine hp_iadd C dX6_ceases_297 ?_
              refine ms_tm C sh R fl_X6_82_6 (a_tm a + a_long a n) (Nat.le_add_right _ _) (by rw [lg, a_ofN (by omega), nI_add]) dX6_ceases_298 (fun H_298 R_298 => ?_)
              refine hp_aload_nR C dX6_ceases_301 e0 ?_
              refine mr_A C sh R_298 fl_X6_20_6 rfl (by decide) dX6_ceases_302 ?_
              refine hp_iload C dX6_ceases_305 e6 ?_
              refine hp_iconst (v := 0) C dX6_ceases_307 (by decide) ?_
              refine ms_st C sh R_298 hn8 0 (by omega) (fun z_7 => by cases z_7) (by decide) dX6_ceases_308 (fun H_308 R_308 => ?_)
              refine hp_aload_nR C dX6_ceases_309 e0 ?_
              refine hp_iload C dX6_ceases_310 rfl ?_
              refine hp_if_eq (tgt := 319) C dX6_ceases_312 (by decide) (fun _ => ?_) (fun z_9 => absurd z_9 (by decide))
              refine hp_iconst (v := 3) C dX6_ceases_319 (by decide) ?_
              refine hp_iload C dX6_ceases_320 e6 ?_
              refine hp_iconst (v := 0) C dX6_ceases_322 (by decide) ?_
              refine hp_callV (ci := 6) C ml_X6_89 im_X6_note se_X6_note rfl (by decide) (mc_note (d := d - 1) (w := 3) (n := n) (r := 0) sh R_308 hv) (by omega) dX6_ceases_323 (R_308.o sh) rfl rfl (by simp [Value.category]) (fun v_323 h_323 hp => ?_) (fun _ _ hf => hf.elim)
              obtain ⟨rfl, R_323⟩ := hp
              refine hp_iinc C dX6_ceases_326 e5 (by decide) rfl ?_
              refine hp_iinc C dX6_ceases_329 e4 (by decide) rfl ?_
              refine hp_goto (tgt := 29) C dX6_ceases_332 (by decide) ?_
              rw [← a_end_w hk rfl ds] at hP
              exact hP _ _ z R_323 (fun _ _ => ⟨rfl, rfl⟩) rfl e0 e2 e3 ((va_up_self _ _ _).trans (by rw [k_dec])) (by show some (Value.int (nI al + Int32.ofInt 1)) = _; rw [show Int32.ofInt 1 = 1 from rfl, nI_1])
        · refine hp_aload_nR C dX6_ceases_224 e0 ?_
          refine mr_A C sh R fl_X6_41_6 rfl (by decide) dX6_ceases_225 ?_
          refine hp_iload C dX6_ceases_228 e6 ?_
          refine mr_nd C sh R 12 10 (by decide) (by decide) rfl hn8 dX6_ceases_230 ?_
          refine hp_aload_nR C dX6_ceases_231 e0 ?_
          refine mr_A C sh R fl_X6_35_6 rfl (by decide) dX6_ceases_232 ?_
          refine hp_iload C dX6_ceases_235 e6 ?_
          refine mr_nd C sh R 10 8 (by decide) (by decide) rfl hn8 dX6_ceases_237 ?_
          refine hp_icmp_le (tgt := 245) C dX6_ceases_238 (by decide) (fun c_238 => ?_) (fun c_238 => ?_)
          · refine hp_iconst (v := 0) C dX6_ceases_245 (by decide) ?_
            have g8 : ¬ a_nd a 8 n = 0 := fun e => c_211 (by rw [e]; decide)
            have f8 : ¬ a_nd a 8 n ≤ 0 := (not_congr (a_ofI_le (x := a_nd a 8 n) (y := 0) (by omega) (by omega))).mp c_221
            have f9 : a_nd a 10 n ≤ a_nd a 8 n := (a_ofI_le (by omega) (by omega)).mp c_238
            have ds : a_dies a n = false := by unfold a_dies; simp only [Bool.or_eq_false_iff, Bool.and_eq_false_iff, decide_eq_false_iff_not]; omega
            refine hp_istore C dX6_ceases_246 (by decide) ?_
            refine hp_aload_nR C dX6_ceases_248 e0 ?_
            refine hp_dup C dX6_ceases_249 rfl ?_
            refine mr_S C sh R fl_X6_82_6 (Or.inr (Or.inr (Or.inl ⟨rfl, rfl⟩))) dX6_ceases_250 ?_
            refine hp_aload_nR C dX6_ceases_253 e0 ?_
            refine mr_A C sh R fl_X6_35_6 rfl (by decide) dX6_ceases_254 ?_
            refine hp_iload C dX6_ceases_257 e6 ?_
            refine mr_nd C sh R 10 8 (by decide) (by decide) rfl hn8 dX6_ceases_259 ?_
            refine hp_if_lt (tgt := 280) C dX6_ceases_260 (by decide) (fun c_260 => ?_) (fun c_260 => ?_)
            · have h8 : a_nd a 8 n < 0 := (a_ofI_lt (x := a_nd a 8 n) (y := 0) (by omega) (by omega)).mp c_260
              have lg : a_long a n = (a_nd a 10 n).toNat := by unfold a_long; rw [if_pos (Or.inl h8)]
              refine hp_aload_nR C dX6_ceases_280 e0 ?_
              refine mr_A C sh R fl_X6_41_6 rfl (by decide) dX6_ceases_281 ?_
              refine hp_iload C dX6_ceases_284 e6 ?_
              refine mr_nd C sh R 12 10 (by decide) (by decide) rfl hn8 dX6_ceases_286 ?_
              refine hp_goto (tgt := 297) C dX6_ceases_287 (by decide) ?_
              refine hp_iadd C dX6_ceases_297 ?_
              refine ms_tm C sh R fl_X6_82_6 (a_tm a + a_long a n) (Nat.le_add_right _ _) (by rw [lg, a_ofN (by omega), nI_add]) dX6_ceases_298 (fun H_298 R_298 => ?_)
              refine hp_aload_nR C dX6_ceases_301 e0 ?_
              refine mr_A C sh R_298 fl_X6_20_6 rfl (by decide) dX6_ceases_302 ?_
              refine hp_iload C dX6_ceases_305 e6 ?_
              refine hp_iconst (v := 0) C dX6_ceases_307 (by decide) ?_
              refine ms_st C sh R_298 hn8 0 (by omega) (fun z_7 => by cases z_7) (by decide) dX6_ceases_308 (fun H_308 R_308 => ?_)
              refine hp_aload_nR C dX6_ceases_309 e0 ?_
              refine hp_iload C dX6_ceases_310 rfl ?_
              refine hp_if_eq (tgt := 319) C dX6_ceases_312 (by decide) (fun _ => ?_) (fun z_9 => absurd z_9 (by decide))
              refine hp_iconst (v := 3) C dX6_ceases_319 (by decide) ?_
              refine hp_iload C dX6_ceases_320 e6 ?_
              refine hp_iconst (v := 0) C dX6_ceases_322 (by decide) ?_
              refine hp_callV (ci := 6) C ml_X6_89 im_X6_note se_X6_note rfl (by decide) (mc_note (d := d - 1) (w := 3) (n := n) (r := 0) sh R_308 hv) (by omega) dX6_ceases_323 (R_308.o sh) rfl rfl (by simp [Value.category]) (fun v_323 h_323 hp => ?_) (fun _ _ hf => hf.elim)
              obtain ⟨rfl, R_323⟩ := hp
              refine hp_iinc C dX6_ceases_326 e5 (by decide) rfl ?_
              refine hp_iinc C dX6_ceases_329 e4 (by decide) rfl ?_
              refine hp_goto (tgt := 29) C dX6_ceases_332 (by decide) ?_
              rw [← a_end_w hk rfl ds] at hP
              exact hP _ _ z R_323 (fun _ _ => ⟨rfl, rfl⟩) rfl e0 e2 e3 ((va_up_self _ _ _).trans (by rw [k_dec])) (by show some (Value.int (nI al + Int32.ofInt 1)) = _; rw [show Int32.ofInt 1 = 1 from rfl, nI_1])
            · refine hp_aload_nR C dX6_ceases_263 e0 ?_
              refine mr_A C sh R fl_X6_41_6 rfl (by decide) dX6_ceases_264 ?_
              refine hp_iload C dX6_ceases_267 e6 ?_
              refine mr_nd C sh R 12 10 (by decide) (by decide) rfl hn8 dX6_ceases_269 ?_
              refine hp_aload_nR C dX6_ceases_270 e0 ?_
              refine mr_A C sh R fl_X6_35_6 rfl (by decide) dX6_ceases_271 ?_
              refine hp_iload C dX6_ceases_274 e6 ?_
              refine mr_nd C sh R 10 8 (by decide) (by decide) rfl hn8 dX6_ceases_276 ?_
              refine hp_icmp_ge (tgt := 290) C dX6_ceases_277 (by decide) (fun c_277 => ?_) (fun c_277 => ?_)
              · have h8 : ¬ a_nd a 8 n < 0 := (not_congr (a_ofI_lt (x := a_nd a 8 n) (y := 0) (by omega) (by omega))).mp c_260
                have h9 : a_nd a 8 n ≤ a_nd a 10 n := (a_ofI_le (by omega) (by omega)).mp c_277
                have lg : a_long a n = (a_nd a 8 n).toNat := by unfold a_long; rw [if_neg (by omega)]
                refine hp_aload_nR C dX6_ceases_290 e0 ?_
                refine mr_A C sh R fl_X6_35_6 rfl (by decide) dX6_ceases_291 ?_
                refine hp_iload C dX6_ceases_294 e6 ?_
                refine mr_nd C sh R 10 8 (by decide) (by decide) rfl hn8 dX6_ceases_296 ?_
                refine hp_iadd C dX6_ceases_297 ?_
                refine ms_tm C sh R fl_X6_82_6 (a_tm a + a_long a n) (Nat.le_add_right _ _) (by rw [lg, a_ofN (by omega), nI_add]) dX6_ceases_298 (fun H_298 R_298 => ?_)
                refine hp_aload_nR C dX6_ceases_301 e0 ?_
                refine mr_A C sh R_298 fl_X6_20_6 rfl (by decide) dX6_ceases_302 ?_
                refine hp_iload C dX6_ceases_305 e6 ?_
                refine hp_iconst (v := 0) C dX6_ceases_307 (by decide) ?_
                refine ms_st C sh R_298 hn8 0 (by omega) (fun z_7 => by cases z_7) (by decide) dX6_ceases_308 (fun H_308 R_308 => ?_)
                refine hp_aload_nR C dX6_ceases_309 e0 ?_
                refine hp_iload C dX6_ceases_310 rfl ?_
                refine hp_if_eq (tgt := 319) C dX6_ceases_312 (by decide) (fun _ => ?_) (fun z_9 => absurd z_9 (by decide))
                refine hp_iconst (v := 3) C dX6_ceases_319 (by decide) ?_
                refine hp_iload C dX6_ceases_320 e6 ?_
                refine hp_iconst (v := 0) C dX6_ceases_322 (by decide) ?_
                refine hp_callV (ci := 6) C ml_X6_89 im_X6_note se_X6_note rfl (by decide) (mc_note (d := d - 1) (w := 3) (n := n) (r := 0) sh R_308 hv) (by omega) dX6_ceases_323 (R_308.o sh) rfl rfl (by simp [Value.category]) (fun v_323 h_323 hp => ?_) (fun _ _ hf => hf.elim)
                obtain ⟨rfl, R_323⟩ := hp
                refine hp_iinc C dX6_ceases_326 e5 (by decide) rfl ?_
                refine hp_iinc C dX6_ceases_329 e4 (by decide) rfl ?_
                refine hp_goto (tgt := 29) C dX6_ceases_332 (by decide) ?_
                rw [← a_end_w hk rfl ds] at hP
                exact hP _ _ z R_323 (fun _ _ => ⟨rfl, rfl⟩) rfl e0 e2 e3 ((va_up_self _ _ _).trans (by rw [k_dec])) (by show some (Value.int (nI al + Int32.ofInt 1)) = _; rw [show Int32.ofInt 1 = 1 from rfl, nI_1])
              · have h9 : ¬ a_nd a 8 n ≤ a_nd a 10 n := (not_congr (a_ofI_le (by omega) (by omega))).mp c_277
                have lg : a_long a n = (a_nd a 10 n).toNat := by unfold a_long; rw [if_pos (Or.inr (by omega))]
                refine hp_aload_nR C dX6_ceases_280 e0 ?_
                refine mr_A C sh R fl_X6_41_6 rfl (by decide) dX6_ceases_281 ?_
                refine hp_iload C dX6_ceases_284 e6 ?_
                refine mr_nd C sh R 12 10 (by decide) (by decide) rfl hn8 dX6_ceases_286 ?_
                refine hp_goto (tgt := 297) C dX6_ceases_287 (by decide) ?_
                refine hp_iadd C dX6_ceases_297 ?_
                refine ms_tm C sh R fl_X6_82_6 (a_tm a + a_long a n) (Nat.le_add_right _ _) (by rw [lg, a_ofN (by omega), nI_add]) dX6_ceases_298 (fun H_298 R_298 => ?_)
                refine hp_aload_nR C dX6_ceases_301 e0 ?_
                refine mr_A C sh R_298 fl_X6_20_6 rfl (by decide) dX6_ceases_302 ?_
                refine hp_iload C dX6_ceases_305 e6 ?_
                refine hp_iconst (v := 0) C dX6_ceases_307 (by decide) ?_
                refine ms_st C sh R_298 hn8 0 (by omega) (fun z_7 => by cases z_7) (by decide) dX6_ceases_308 (fun H_308 R_308 => ?_)
                refine hp_aload_nR C dX6_ceases_309 e0 ?_
                refine hp_iload C dX6_ceases_310 rfl ?_
                refine hp_if_eq (tgt := 319) C dX6_ceases_312 (by decide) (fun _ => ?_) (fun z_9 => absurd z_9 (by decide))
                refine hp_iconst (v := 3) C dX6_ceases_319 (by decide) ?_
                refine hp_iload C dX6_ceases_320 e6 ?_
                refine hp_iconst (v := 0) C dX6_ceases_322 (by decide) ?_
                refine hp_callV (ci := 6) C ml_X6_89 im_X6_note se_X6_note rfl (by decide) (mc_note (d := d - 1) (w := 3) (n := n) (r := 0) sh R_308 hv) (by omega) dX6_ceases_323 (R_308.o sh) rfl rfl (by simp [Value.category]) (fun v_323 h_323 hp => ?_) (fun _ _ hf => hf.elim)
                obtain ⟨rfl, R_323⟩ := hp
                refine hp_iinc C dX6_ceases_326 e5 (by decide) rfl ?_
                refine hp_iinc C dX6_ceases_329 e4 (by decide) rfl ?_
                refine hp_goto (tgt := 29) C dX6_ceases_332 (by decide) ?_
                rw [← a_end_w hk rfl ds] at hP
                exact hP _ _ z R_323 (fun _ _ => ⟨rfl, rfl⟩) rfl e0 e2 e3 ((va_up_self _ _ _).trans (by rw [k_dec])) (by show some (Value.int (nI al + Int32.ofInt 1)) = _; rw [show Int32.ofInt 1 = 1 from rfl, nI_1])
          · refine hp_iconst (v := 1) C dX6_ceases_241 (by decide) ?_
            refine hp_goto (tgt := 246) C dX6_ceases_242 (by decide) ?_
            have g8 : ¬ a_nd a 8 n = 0 := fun e => c_211 (by rw [e]; decide)
            have f8 : ¬ a_nd a 8 n ≤ 0 := (not_congr (a_ofI_le (x := a_nd a 8 n) (y := 0) (by omega) (by omega))).mp c_221
            have f9 : ¬ a_nd a 10 n ≤ a_nd a 8 n := (not_congr (a_ofI_le (by omega) (by omega))).mp c_238
            have ds : a_dies a n = true := by unfold a_dies; simp only [Bool.or_eq_true, Bool.and_eq_true, decide_eq_true_eq]; omega
            refine hp_istore C dX6_ceases_246 (by decide) ?_
            refine hp_aload_nR C dX6_ceases_248 e0 ?_
            refine hp_dup C dX6_ceases_249 rfl ?_
            refine mr_S C sh R fl_X6_82_6 (Or.inr (Or.inr (Or.inl ⟨rfl, rfl⟩))) dX6_ceases_250 ?_
            refine hp_aload_nR C dX6_ceases_253 e0 ?_
            refine mr_A C sh R fl_X6_35_6 rfl (by decide) dX6_ceases_254 ?_
            refine hp_iload C dX6_ceases_257 e6 ?_
            refine mr_nd C sh R 10 8 (by decide) (by decide) rfl hn8 dX6_ceases_259 ?_
            refine hp_if_lt (tgt := 280) C dX6_ceases_260 (by decide) (fun c_260 => ?_) (fun c_260 => ?_)
            · have h8 : a_nd a 8 n < 0 := (a_ofI_lt (x := a_nd a 8 n) (y := 0) (by omega) (by omega)).mp c_260
              have lg : a_long a n = (a_nd a 10 n).toNat := by unfold a_long; rw [if_pos (Or.inl h8)]
              refine hp_aload_nR C dX6_ceases_280 e0 ?_
              refine mr_A C sh R fl_X6_41_6 rfl (by decide) dX6_ceases_281 ?_
              refine hp_iload C dX6_ceases_284 e6 ?_
              refine mr_nd C sh R 12 10 (by decide) (by decide) rfl hn8 dX6_ceases_286 ?_
              refine hp_goto (tgt := 297) C dX6_ceases_287 (by decide) ?_
              refine hp_iadd C dX6_ceases_297 ?_
              refine ms_tm C sh R fl_X6_82_6 (a_tm a + a_long a n) (Nat.le_add_right _ _) (by rw [lg, a_ofN (by omega), nI_add]) dX6_ceases_298 (fun H_298 R_298 => ?_)
              refine hp_aload_nR C dX6_ceases_301 e0 ?_
              refine mr_A C sh R_298 fl_X6_20_6 rfl (by decide) dX6_ceases_302 ?_
              refine hp_iload C dX6_ceases_305 e6 ?_
              refine hp_iconst (v := 0) C dX6_ceases_307 (by decide) ?_
              refine ms_st C sh R_298 hn8 0 (by omega) (fun z_7 => by cases z_7) (by decide) dX6_ceases_308 (fun H_308 R_308 => ?_)
              refine hp_aload_nR C dX6_ceases_309 e0 ?_
              refine hp_iload C dX6_ceases_310 rfl ?_
              refine hp_if_eq (tgt := 319) C dX6_ceases_312 (by decide) (fun z_9 => absurd z_9 (by decide)) (fun _ => ?_)
              refine hp_iconst (v := 4) C dX6_ceases_315 (by decide) ?_
              refine hp_goto (tgt := 320) C dX6_ceases_316 (by decide) ?_
              refine hp_iload C dX6_ceases_320 e6 ?_
              refine hp_iconst (v := 0) C dX6_ceases_322 (by decide) ?_
              refine hp_callV (ci := 6) C ml_X6_89 im_X6_note se_X6_note rfl (by decide) (mc_note (d := d - 1) (w := 4) (n := n) (r := 0) sh R_308 hv) (by omega) dX6_ceases_323 (R_308.o sh) rfl rfl (by simp [Value.category]) (fun v_323 h_323 hp => ?_) (fun _ _ hf => hf.elim)
              obtain ⟨rfl, R_323⟩ := hp
              refine hp_iinc C dX6_ceases_326 e5 (by decide) rfl ?_
              refine hp_iinc C dX6_ceases_329 e4 (by decide) rfl ?_
              refine hp_goto (tgt := 29) C dX6_ceases_332 (by decide) ?_
              rw [← a_end_w hk rfl ds] at hP
              exact hP _ _ z R_323 (fun _ _ => ⟨rfl, rfl⟩) rfl e0 e2 e3 ((va_up_self _ _ _).trans (by rw [k_dec])) (by show some (Value.int (nI al + Int32.ofInt 1)) = _; rw [show Int32.ofInt 1 = 1 from rfl, nI_1])
            · refine hp_aload_nR C dX6_ceases_263 e0 ?_
              refine mr_A C sh R fl_X6_41_6 rfl (by decide) dX6_ceases_264 ?_
              refine hp_iload C dX6_ceases_267 e6 ?_
              refine mr_nd C sh R 12 10 (by decide) (by decide) rfl hn8 dX6_ceases_269 ?_
              refine hp_aload_nR C dX6_ceases_270 e0 ?_
              refine mr_A C sh R fl_X6_35_6 rfl (by decide) dX6_ceases_271 ?_
              refine hp_iload C dX6_ceases_274 e6 ?_
              refine mr_nd C sh R 10 8 (by decide) (by decide) rfl hn8 dX6_ceases_276 ?_
              refine hp_icmp_ge (tgt := 290) C dX6_ceases_277 (by decide) (fun c_277 => ?_) (fun c_277 => ?_)
              · have h8 : ¬ a_nd a 8 n < 0 := (not_congr (a_ofI_lt (x := a_nd a 8 n) (y := 0) (by omega) (by omega))).mp c_260
                have h9 : a_nd a 8 n ≤ a_nd a 10 n := (a_ofI_le (by omega) (by omega)).mp c_277
                have lg : a_long a n = (a_nd a 8 n).toNat := by unfold a_long; rw [if_neg (by omega)]
                refine hp_aload_nR C dX6_ceases_290 e0 ?_
                refine mr_A C sh R fl_X6_35_6 rfl (by decide) dX6_ceases_291 ?_
                refine hp_iload C dX6_ceases_294 e6 ?_
                refine mr_nd C sh R 10 8 (by decide) (by decide) rfl hn8 dX6_ceases_296 ?_
                refine hp_iadd C dX6_ceases_297 ?_
                refine ms_tm C sh R fl_X6_82_6 (a_tm a + a_long a n) (Nat.le_add_right _ _) (by rw [lg, a_ofN (by omega), nI_add]) dX6_ceases_298 (fun H_298 R_298 => ?_)
                refine hp_aload_nR C dX6_ceases_301 e0 ?_
                refine mr_A C sh R_298 fl_X6_20_6 rfl (by decide) dX6_ceases_302 ?_
                refine hp_iload C dX6_ceases_305 e6 ?_
                refine hp_iconst (v := 0) C dX6_ceases_307 (by decide) ?_
                refine ms_st C sh R_298 hn8 0 (by omega) (fun z_7 => by cases z_7) (by decide) dX6_ceases_308 (fun H_308 R_308 => ?_)
                refine hp_aload_nR C dX6_ceases_309 e0 ?_
                refine hp_iload C dX6_ceases_310 rfl ?_
                refine hp_if_eq (tgt := 319) C dX6_ceases_312 (by decide) (fun z_9 => absurd z_9 (by decide)) (fun _ => ?_)
                refine hp_iconst (v := 4) C dX6_ceases_315 (by decide) ?_
                refine hp_goto (tgt := 320) C dX6_ceases_316 (by decide) ?_
                refine hp_iload C dX6_ceases_320 e6 ?_
                refine hp_iconst (v := 0) C dX6_ceases_322 (by decide) ?_
                refine hp_callV (ci := 6) C ml_X6_89 im_X6_note se_X6_note rfl (by decide) (mc_note (d := d - 1) (w := 4) (n := n) (r := 0) sh R_308 hv) (by omega) dX6_ceases_323 (R_308.o sh) rfl rfl (by simp [Value.category]) (fun v_323 h_323 hp => ?_) (fun _ _ hf => hf.elim)
                obtain ⟨rfl, R_323⟩ := hp
                refine hp_iinc C dX6_ceases_326 e5 (by decide) rfl ?_
                refine hp_iinc C dX6_ceases_329 e4 (by decide) rfl ?_
                refine hp_goto (tgt := 29) C dX6_ceases_332 (by decide) ?_
                rw [← a_end_w hk rfl ds] at hP
                exact hP _ _ z R_323 (fun _ _ => ⟨rfl, rfl⟩) rfl e0 e2 e3 ((va_up_self _ _ _).trans (by rw [k_dec])) (by show some (Value.int (nI al + Int32.ofInt 1)) = _; rw [show Int32.ofInt 1 = 1 from rfl, nI_1])
              · have h9 : ¬ a_nd a 8 n ≤ a_nd a 10 n := (not_congr (a_ofI_le (by omega) (by omega))).mp c_277
                have lg : a_long a n = (a_nd a 10 n).toNat := by unfold a_long; rw [if_pos (Or.inr (by omega))]
                refine hp_aload_nR C dX6_ceases_280 e0 ?_
                refine mr_A C sh R fl_X6_41_6 rfl (by decide) dX6_ceases_281 ?_
                refine hp_iload C dX6_ceases_284 e6 ?_
                refine mr_nd C sh R 12 10 (by decide) (by decide) rfl hn8 dX6_ceases_286 ?_
                refine hp_goto (tgt := 297) C dX6_ceases_287 (by decide) ?_
                refine hp_iadd C dX6_ceases_297 ?_
                refine ms_tm C sh R fl_X6_82_6 (a_tm a + a_long a n) (Nat.le_add_right _ _) (by rw [lg, a_ofN (by omega), nI_add]) dX6_ceases_298 (fun H_298 R_298 => ?_)
                refine hp_aload_nR C dX6_ceases_301 e0 ?_
                refine mr_A C sh R_298 fl_X6_20_6 rfl (by decide) dX6_ceases_302 ?_
                refine hp_iload C dX6_ceases_305 e6 ?_
                refine hp_iconst (v := 0) C dX6_ceases_307 (by decide) ?_
                refine ms_st C sh R_298 hn8 0 (by omega) (fun z_7 => by cases z_7) (by decide) dX6_ceases_308 (fun H_308 R_308 => ?_)
                refine hp_aload_nR C dX6_ceases_309 e0 ?_
                refine hp_iload C dX6_ceases_310 rfl ?_
                refine hp_if_eq (tgt := 319) C dX6_ceases_312 (by decide) (fun z_9 => absurd z_9 (by decide)) (fun _ => ?_)
                refine hp_iconst (v := 4) C dX6_ceases_315 (by decide) ?_
                refine hp_goto (tgt := 320) C dX6_ceases_316 (by decide) ?_
                refine hp_iload C dX6_ceases_320 e6 ?_
                refine hp_iconst (v := 0) C dX6_ceases_322 (by decide) ?_
                refine hp_callV (ci := 6) C ml_X6_89 im_X6_note se_X6_note rfl (by decide) (mc_note (d := d - 1) (w := 4) (n := n) (r := 0) sh R_308 hv) (by omega) dX6_ceases_323 (R_308.o sh) rfl rfl (by simp [Value.category]) (fun v_323 h_323 hp => ?_) (fun _ _ hf => hf.elim)
                obtain ⟨rfl, R_323⟩ := hp
                refine hp_iinc C dX6_ceases_326 e5 (by decide) rfl ?_
                refine hp_iinc C dX6_ceases_329 e4 (by decide) rfl ?_
                refine hp_goto (tgt := 29) C dX6_ceases_332 (by decide) ?_
                rw [← a_end_w hk rfl ds] at hP
                exact hP _ _ z R_323 (fun _ _ => ⟨rfl, rfl⟩) rfl e0 e2 e3 ((va_up_self _ _ _).trans (by rw [k_dec])) (by show some (Value.int (nI al + Int32.ofInt 1)) = _; rw [show Int32.ofInt 1 = 1 from rfl, nI_1])
    · have ee : a_end false n a = a_no (a_sn a 3 n 0) 3 n 0 := by unfold a_end; rw [if_neg (fun z => by have := z.1; omega)]; rfl
      rw [ee] at hP
      refine hp_iload_n C dX6_ceases_187 e3 ?_
      refine hp_istore C dX6_ceases_188 (by decide) ?_
      refine hp_aload_nR C dX6_ceases_190 e0 ?_
      refine mr_A C sh R fl_X6_7_6 rfl (by decide) dX6_ceases_191 ?_
      refine hp_iload C dX6_ceases_194 e6 ?_
      refine mr_kp C sh R hn8 dX6_ceases_196 ?_
      refine hp_if_ne (tgt := 301) C dX6_ceases_197 (by decide) (fun _ => ?_) (fun z_9 => absurd z_9 (show ¬ Int32.ofInt (a_nd a 0 n) = 0 by rw [hk]; decide))
      refine hp_aload_nR C dX6_ceases_301 e0 ?_
      refine mr_A C sh R fl_X6_20_6 rfl (by decide) dX6_ceases_302 ?_
      refine hp_iload C dX6_ceases_305 e6 ?_
      refine hp_iconst (v := 0) C dX6_ceases_307 (by decide) ?_
      refine ms_st C sh R hn8 0 (by omega) (fun z_7 => by cases z_7) (by decide) dX6_ceases_308 (fun H_308 R_308 => ?_)
      refine hp_aload_nR C dX6_ceases_309 e0 ?_
      refine hp_iload C dX6_ceases_310 rfl ?_
      refine hp_if_eq (tgt := 319) C dX6_ceases_312 (by decide) (fun _ => ?_) (fun z_9 => absurd (show (0 : Int32) = 0 by decide) z_9)
      refine hp_iconst (v := 3) C dX6_ceases_319 (by decide) ?_
      refine hp_iload C dX6_ceases_320 e6 ?_
      refine hp_iconst (v := 0) C dX6_ceases_322 (by decide) ?_
      refine hp_callV (ci := 6) C ml_X6_89 im_X6_note se_X6_note rfl (by decide) (mc_note (d := d - 1) (w := 3) (n := n) (r := 0) sh R_308 hv) (by omega) dX6_ceases_323 (R_308.o sh) rfl rfl (by simp [Value.category]) (fun v_323 h_323 hp => ?_) (fun _ _ hf => hf.elim)
      obtain ⟨rfl, R_323⟩ := hp
      refine hp_iinc C dX6_ceases_326 e5 (by decide) rfl ?_
      refine hp_iinc C dX6_ceases_329 e4 (by decide) rfl ?_
      refine hp_goto (tgt := 29) C dX6_ceases_332 (by decide) ?_
      exact hP _ _ z R_323 (fun _ _ => ⟨rfl, rfl⟩) rfl e0 e2 e3 ((va_up_self _ _ _).trans (by rw [k_dec])) (by show some (Value.int (nI al + Int32.ofInt 1)) = _; rw [show Int32.ofInt 1 = 1 from rfl, nI_1])
set_option maxHeartbeats 4000000 in
theorem mo_ceJ {M : hpM} {G : hpG} {d : Nat} {h0 h : hpT} {m : Nat} {Q : State → Prop} (sh : mo_sh G h m) (C : hp_F M G yX6_ceases cX6_ceases 8 d h0) (hd : 1 ≤ d) {k : Bool} {fr : Nat} {f n : Nat} {L : List Nat} (hA : ∀ (c lv al : Nat) (lo : Nat → Option Value) (H : hpT) (a : aS) (z : mrZ), MR h m H a z → a_T a → c < a_mk a → (9 : Int) ≤ f + a_nd a 2 c → (lv : Int) ≤ a_nd a 2 c → fr ≤ lv → (a_ev (a_ce k f c a).2).length < 2 ^ 30 → z.1 lv = nI c → z.2.1 lv = nI (a_rw a c).length - 1 → lo 0 = some (.ref m) → lo 2 = some (.int (nI fr)) → lo 3 = some (.int (if k = true then 1 else 0)) → lo 4 = some (.int (nI lv)) → lo 5 = some (.int (nI al)) → (∀ (lo' : Nat → Option Value) (H' : hpT) (z' : mrZ), MR h m H' (a_ce k f c a).2 z' → (∀ i, i < lv → z'.1 i = z.1 i ∧ z'.2.1 i = z.2.1 i) → z'.2.2 = z.2.2 → lo' 0 = some (.ref m) → lo' 2 = some (.int (nI fr)) → lo' 3 = some (.int (if k = true then 1 else 0)) → lo' 4 = some (.int (nI lv - 1)) → lo' 5 = some (.int (nI (al + (a_ce k f c a).1))) → hp_V M G 8 Q H' 29 lo' []) → hp_V M G 8 Q H 29 lo []) : ∀ (j lv al : Nat) (lo : Nat → Option Value) (H : hpT) (a : aS) (z : mrZ), MR h m H a z → a_lv f n L a → j ≤ L.length → (lv : Int) ≤ a_nd a 2 n → fr ≤ lv → (a_ev (a_end k n (a_cR (a_ce k f) (L.take j).reverse a).2)).length < 2 ^ 30 → z.1 lv = nI n → z.2.1 lv = nI j - 1 → lo 0 = some (.ref m) → lo 2 = some (.int (nI fr)) → lo 3 = some (.int (if k = true then 1 else 0)) → lo 4 = some (.int (nI lv)) → lo 5 = some (.int (nI al)) → lo 6 = some (.int (nI n)) → (∀ (lo' : Nat → Option Value) (H' : hpT) (z' : mrZ), MR h m H' (a_end k n (a_cR (a_ce k f) (L.take j).reverse a).2) z' → (∀ i, i < lv → z'.1 i = z.1 i ∧ z'.2.1 i = z.2.1 i) → z'.2.2 = z.2.2 → lo' 0 = some (.ref m) → lo' 2 = some (.int (nI fr)) → lo' 3 = some (.int (if k = true then 1 else 0)) → lo' 4 = some (.int (nI lv - 1)) → lo' 5 = some (.int (nI (al + ((a_cR (a_ce k f) (L.take j).reverse a).1 + 1)))) → hp_V M G 8 Q H' 29 lo' []) → hp_V M G 8 Q H 44 lo [] := by
  intro j
  induction j with
  | zero =>
    intro lv al lo H a z R X hj hlv hfr hv zw zt e0 e2 e3 e4 e5 e6 hP
    have T := X.1
    have hn := X.2.1
    have hk := X.2.2.1
    have hn8 : n < 80 := Nat.lt_of_lt_of_le hn T.1.2
    have r2 := T.r2 hn
    have hl10 : lv < 10 := by omega
    refine hp_aload_nR C dX6_ceases_44 e0 ?_
    refine mr_A C sh R fl_X6_7_6 rfl (by decide) dX6_ceases_45 ?_
    refine hp_iload C dX6_ceases_48 e6 ?_
    refine mr_kp C sh R hn8 dX6_ceases_50 ?_
    refine hp_if_eq (tgt := 105) C dX6_ceases_51 (by decide) (fun z_9 => absurd z_9 (show ¬ Int32.ofInt (a_nd a 0 n) = 0 by rw [hk]; decide)) (fun _ => ?_)
    refine hp_aload_nR C dX6_ceases_54 e0 ?_
    refine mr_A C sh R fl_X6_65_6 rfl (by decide) dX6_ceases_55 ?_
    refine hp_iload C dX6_ceases_58 e4 ?_
    refine mr_at C sh R hl10 zt dX6_ceases_60 ?_
    refine hp_if_lt (tgt := 105) C dX6_ceases_61 (by decide) (fun _ => ?_) (fun z_9 => absurd (show (nI 0 - 1 : Int32) < 0 by decide) z_9)
    refine hp_aload_nR C dX6_ceases_105 e0 ?_
    refine mr_A C sh R fl_X6_7_6 rfl (by decide) dX6_ceases_106 ?_
    refine hp_iload C dX6_ceases_109 e6 ?_
    refine mr_kp C sh R hn8 dX6_ceases_111 ?_
    refine hp_if_eq (tgt := 187) C dX6_ceases_112 (by decide) (fun z_9 => absurd z_9 (show ¬ Int32.ofInt (a_nd a 0 n) = 0 by rw [hk]; decide)) (fun _ => ?_)
    refine hp_aload_nR C dX6_ceases_115 e0 ?_
    refine mr_A C sh R fl_X6_65_6 rfl (by decide) dX6_ceases_116 ?_
    refine hp_iload C dX6_ceases_119 e4 ?_
    refine mr_at C sh R hl10 zt dX6_ceases_121 ?_
    refine hp_if_lt (tgt := 187) C dX6_ceases_122 (by decide) (fun _ => ?_) (fun z_9 => absurd (show (nI 0 - 1 : Int32) < 0 by decide) z_9)
    exact mo_ceE sh C hd n lv al lo H a z R T hn (Nat.lt_of_le_of_lt (a_end_kp k n a).ev hv) e0 e2 e3 e4 e5 e6 hP
  | succ j ih =>
    intro lv al lo H a z R X hj hlv hfr hv zw zt e0 e2 e3 e4 e5 e6 hP
    rw [nI_pred] at zt
    have T := X.1
    have hn := X.2.1
    have hk := X.2.2.1
    have hn8 : n < 80 := Nat.lt_of_lt_of_le hn T.1.2
    have r2 := T.r2 hn
    have hl10 : lv < 10 := by omega
    have eL := X.2.2.2.2
    subst eL
    have hjl : j < (a_rw a n).length := by omega
    have hl79 := T.rl hn
    obtain ⟨hc, h9⟩ := X.c hjl
    have hc8 : (a_rw a n).getD j 0 < 80 := Nat.lt_of_lt_of_le hc T.1.2
    have r3 := T.r3 hc
    have hdc := (T.rc hn (k_rc T hn hjl)).2.2
    rw [k_tk hjl] at hv hP
    generalize hcc : (a_rw a n).getD j 0 = c at hc hc8 h9 r3 hdc hv hP
    refine hp_aload_nR C dX6_ceases_44 e0 ?_
    refine mr_A C sh R fl_X6_7_6 rfl (by decide) dX6_ceases_45 ?_
    refine hp_iload C dX6_ceases_48 e6 ?_
    refine mr_kp C sh R hn8 dX6_ceases_50 ?_
    refine hp_if_eq (tgt := 105) C dX6_ceases_51 (by decide) (fun z_9 => absurd z_9 (show ¬ Int32.ofInt (a_nd a 0 n) = 0 by rw [hk]; decide)) (fun _ => ?_)
    refine hp_aload_nR C dX6_ceases_54 e0 ?_
    refine mr_A C sh R fl_X6_65_6 rfl (by decide) dX6_ceases_55 ?_
    refine hp_iload C dX6_ceases_58 e4 ?_
    refine mr_at C sh R hl10 zt dX6_ceases_60 ?_
    refine hp_if_lt (tgt := 105) C dX6_ceases_61 (by decide) (fun z_9 => absurd z_9 (nI_pos (by omega))) (fun _ => ?_)
    refine hp_aload_nR C dX6_ceases_64 e0 ?_
    refine mr_A C sh R fl_X6_20_6 rfl (by decide) dX6_ceases_65 ?_
    refine hp_aload_nR C dX6_ceases_68 e0 ?_
    refine mr_A C sh R fl_X6_47_6 rfl (by decide) dX6_ceases_69 ?_
    refine hp_bipush (v := 80) C dX6_ceases_72 (by decide) ?_
    refine hp_iload C dX6_ceases_74 e6 ?_
    refine hp_imul C dX6_ceases_76 ?_
    refine hp_aload_nR C dX6_ceases_77 e0 ?_
    refine mr_A C sh R fl_X6_65_6 rfl (by decide) dX6_ceases_78 ?_
    refine hp_iload C dX6_ceases_81 e4 ?_
    refine mr_at C sh R hl10 zt dX6_ceases_83 ?_
    refine hp_iadd C dX6_ceases_84 ?_
    refine mr_row C sh R hn8 hjl rfl dX6_ceases_85 ?_
    rw [hcc]
    refine mr_nd C sh R 5 3 (by decide) (by decide) rfl hc8 dX6_ceases_86 ?_
    refine hp_iconst (v := 1) C dX6_ceases_87 (by decide) ?_
    refine hp_icmp_eq (tgt := 105) C dX6_ceases_88 (by decide) (fun c_88 => ?_) (fun c_88 => ?_)
    · refine hp_aload_nR C dX6_ceases_105 e0 ?_
      refine mr_A C sh R fl_X6_7_6 rfl (by decide) dX6_ceases_106 ?_
      refine hp_iload C dX6_ceases_109 e6 ?_
      refine mr_kp C sh R hn8 dX6_ceases_111 ?_
      refine hp_if_eq (tgt := 187) C dX6_ceases_112 (by decide) (fun z_9 => absurd z_9 (show ¬ Int32.ofInt (a_nd a 0 n) = 0 by rw [hk]; decide)) (fun _ => ?_)
      refine hp_aload_nR C dX6_ceases_115 e0 ?_
      refine mr_A C sh R fl_X6_65_6 rfl (by decide) dX6_ceases_116 ?_
      refine hp_iload C dX6_ceases_119 e4 ?_
      refine mr_at C sh R hl10 zt dX6_ceases_121 ?_
      refine hp_if_lt (tgt := 187) C dX6_ceases_122 (by decide) (fun z_9 => absurd z_9 (nI_pos (by omega))) (fun _ => ?_)
      refine hp_aload_nR C dX6_ceases_125 e0 ?_
      refine mr_A C sh R fl_X6_47_6 rfl (by decide) dX6_ceases_126 ?_
      refine hp_bipush (v := 80) C dX6_ceases_129 (by decide) ?_
      refine hp_iload C dX6_ceases_131 e6 ?_
      refine hp_imul C dX6_ceases_133 ?_
      refine hp_aload_nR C dX6_ceases_134 e0 ?_
      refine mr_A C sh R fl_X6_65_6 rfl (by decide) dX6_ceases_135 ?_
      refine hp_iload C dX6_ceases_138 e4 ?_
      refine mr_at C sh R hl10 zt dX6_ceases_140 ?_
      refine hp_iadd C dX6_ceases_141 ?_
      refine mr_row C sh R hn8 hjl rfl dX6_ceases_142 ?_
      rw [hcc]
      refine hp_istore C dX6_ceases_143 (by decide) ?_
      refine hp_aload_nR C dX6_ceases_145 e0 ?_
      refine mr_A C sh R fl_X6_65_6 rfl (by decide) dX6_ceases_146 ?_
      refine hp_iload C dX6_ceases_149 e4 ?_
      refine hp_dup2 C dX6_ceases_151 rfl rfl ?_
      refine mr_at C sh R hl10 zt dX6_ceases_152 ?_
      refine hp_iconst (v := 1) C dX6_ceases_153 (by decide) ?_
      refine hp_isub C dX6_ceases_154 ?_
      refine ms_at C sh R hl10 dX6_ceases_155 (fun H_155 R_155 => ?_)
      refine hp_iinc C dX6_ceases_156 e4 (by decide) rfl ?_
      rw [show nI lv + Int32.ofInt 1 = nI (lv + 1) from by rw [show Int32.ofInt 1 = 1 from rfl, nI_1]]
      refine hp_aload_nR C dX6_ceases_159 e0 ?_
      refine mr_A C sh R_155 fl_X6_62_6 rfl (by decide) dX6_ceases_160 ?_
      refine hp_iload C dX6_ceases_163 rfl ?_
      refine hp_iload C dX6_ceases_165 rfl ?_
      refine ms_way C sh R_155 (show lv + 1 < 10 by omega) dX6_ceases_167 (fun H_167 R_167 => ?_)
      refine hp_aload_nR C dX6_ceases_168 e0 ?_
      refine mr_A C sh R_167 fl_X6_65_6 rfl (by decide) dX6_ceases_169 ?_
      refine hp_iload C dX6_ceases_172 rfl ?_
      refine hp_aload_nR C dX6_ceases_174 e0 ?_
      refine mr_A C sh R_167 fl_X6_50_6 rfl (by decide) dX6_ceases_175 ?_
      refine hp_iload C dX6_ceases_178 rfl ?_
      refine mr_many C sh R_167 hc8 dX6_ceases_180 ?_
      refine hp_iconst (v := 1) C dX6_ceases_181 (by decide) ?_
      refine hp_isub C dX6_ceases_182 ?_
      refine ms_at C sh R_167 (show lv + 1 < 10 by omega) dX6_ceases_183 (fun H_183 R_183 => ?_)
      refine hp_goto (tgt := 29) C dX6_ceases_184 (by decide) ?_
      have hu : a_nd a 3 c = 1 := (a_ofI_eq (x := a_nd a 3 c) (y := 1) (by omega) (by omega)).mp c_88
      rw [a_cR_up hu] at hv hP
      have kc := a_ce_kp k f c a
      have hvc : (a_ev (a_ce k f c a).2).length < 2 ^ 30 := Nat.lt_of_le_of_lt (Nat.le_trans (a_cR_kp (a_ce_kp k f) ((a_rw a n).take j).reverse _).ev (a_end_kp k n _).ev) hv
      refine hA c (lv + 1) al _ _ a _ R_183 T hc h9 (by omega) (by omega) hvc (va_up_self _ _ _) (va_up_self _ _ _) e0 e2 e3 rfl e5 (fun lo1 H1 z1 R1 g1 g2 f0 f2 f3 f4 f5 => ?_)
      rw [nI_pred] at f4
      have w1 : z1.1 lv = nI n := ((g1 lv (by omega)).1.trans (va_up_ne _ _ (by omega))).trans zw
      have t1 : z1.2.1 lv = nI j - 1 := (g1 lv (by omega)).2.trans ((va_up_ne _ _ (by omega)).trans (va_up_self _ _ _))
      refine hp_iload C dX6_ceases_29 f4 ?_
      refine hp_iload_n C dX6_ceases_31 f2 ?_
      refine hp_icmp_lt (tgt := 335) C dX6_ceases_32 (by decide) (fun z_9 => absurd z_9 (nI_nlt hfr (by omega))) (fun _ => ?_)
      refine hp_aload_nR C dX6_ceases_35 f0 ?_
      refine mr_A C sh R1 fl_X6_62_6 rfl (by decide) dX6_ceases_36 ?_
      refine hp_iload C dX6_ceases_39 f4 ?_
      refine mr_way C sh R1 hl10 w1 dX6_ceases_41 ?_
      refine hp_istore C dX6_ceases_42 (by decide) ?_
      exact ih lv (al + (a_ce k f c a).1) _ _ _ z1 R1 (X.kp kc) (by omega) (by rw [kc.nd]; exact hlv) hfr hv w1 t1 f0 f2 f3 f4 f5 rfl (fun lo' H' z' R' g3 g4 q0 q2 q3 q4 q5 => hP lo' H' z' R' (fun i hi => ⟨(g3 i hi).1.trans ((g1 i (by omega)).1.trans (va_up_ne _ _ (by omega))), (g3 i hi).2.trans ((g1 i (by omega)).2.trans ((va_up_ne _ _ (by omega)).trans (va_up_ne _ _ (by omega))))⟩) (g4.trans g2) q0 q2 q3 q4 (by rw [show al + ((a_ce k f c a).1 + (a_cR (a_ce k f) ((a_rw a n).take j).reverse (a_ce k f c a).2).1 + 1) = al + (a_ce k f c a).1 + ((a_cR (a_ce k f) ((a_rw a n).take j).reverse (a_ce k f c a).2).1 + 1) by omega]; exact q5))
    · refine hp_aload_nR C dX6_ceases_91 e0 ?_
      refine mr_A C sh R fl_X6_65_6 rfl (by decide) dX6_ceases_92 ?_
      refine hp_iload C dX6_ceases_95 e4 ?_
      refine hp_dup2 C dX6_ceases_97 rfl rfl ?_
      refine mr_at C sh R hl10 zt dX6_ceases_98 ?_
      refine hp_iconst (v := 1) C dX6_ceases_99 (by decide) ?_
      refine hp_isub C dX6_ceases_100 ?_
      refine ms_at C sh R hl10 dX6_ceases_101 (fun H_101 R_101 => ?_)
      refine hp_goto (tgt := 44) C dX6_ceases_102 (by decide) ?_
      have hu : ¬ a_nd a 3 c = 1 := fun e => c_88 (by rw [e]; decide)
      rw [a_cR_dn hu] at hv hP
      exact ih lv al _ _ a _ R_101 X (by omega) hlv hfr hv zw (va_up_self _ _ _) e0 e2 e3 e4 e5 e6 (fun lo' H' z' R' g1 => hP lo' H' z' R' (fun i hi => ⟨(g1 i hi).1, (g1 i hi).2.trans (va_up_ne _ _ (by omega))⟩))
set_option maxHeartbeats 4000000 in
theorem mo_ceA {M : hpM} {G : hpG} {d : Nat} {h0 h : hpT} {m : Nat} {Q : State → Prop} (sh : mo_sh G h m) (C : hp_F M G yX6_ceases cX6_ceases 8 d h0) (hd : 1 ≤ d) {k : Bool} {fr : Nat} : ∀ (f : Nat), ∀ (n lv al : Nat) (lo : Nat → Option Value) (H : hpT) (a : aS) (z : mrZ), MR h m H a z → a_T a → n < a_mk a → (9 : Int) ≤ f + a_nd a 2 n → (lv : Int) ≤ a_nd a 2 n → fr ≤ lv → (a_ev (a_ce k f n a).2).length < 2 ^ 30 → z.1 lv = nI n → z.2.1 lv = nI (a_rw a n).length - 1 → lo 0 = some (.ref m) → lo 2 = some (.int (nI fr)) → lo 3 = some (.int (if k = true then 1 else 0)) → lo 4 = some (.int (nI lv)) → lo 5 = some (.int (nI al)) → (∀ (lo' : Nat → Option Value) (H' : hpT) (z' : mrZ), MR h m H' (a_ce k f n a).2 z' → (∀ i, i < lv → z'.1 i = z.1 i ∧ z'.2.1 i = z.2.1 i) → z'.2.2 = z.2.2 → lo' 0 = some (.ref m) → lo' 2 = some (.int (nI fr)) → lo' 3 = some (.int (if k = true then 1 else 0)) → lo' 4 = some (.int (nI lv - 1)) → lo' 5 = some (.int (nI (al + (a_ce k f n a).1))) → hp_V M G 8 Q H' 29 lo' []) → hp_V M G 8 Q H 29 lo [] := by
  intro f
  induction f with
  | zero =>
    intro n lv al lo H a z R T hn h9
    have := (T.r2 hn).2
    omega
  | succ f ih =>
    intro n lv al lo H a z R T hn h9 hlv hfr hv zw zt e0 e2 e3 e4 e5 hP
    have hn8 : n < 80 := Nat.lt_of_lt_of_le hn T.1.2
    have r2 := T.r2 hn
    have hl10 : lv < 10 := by omega
    rcases T.kb hn with hk | hk
    · rw [a_ce_w hk] at hv hP
      refine hp_iload C dX6_ceases_29 e4 ?_
      refine hp_iload_n C dX6_ceases_31 e2 ?_
      refine hp_icmp_lt (tgt := 335) C dX6_ceases_32 (by decide) (fun z_9 => absurd z_9 (nI_nlt hfr (by omega))) (fun _ => ?_)
      refine hp_aload_nR C dX6_ceases_35 e0 ?_
      refine mr_A C sh R fl_X6_62_6 rfl (by decide) dX6_ceases_36 ?_
      refine hp_iload C dX6_ceases_39 e4 ?_
      refine mr_way C sh R hl10 zw dX6_ceases_41 ?_
      refine hp_istore C dX6_ceases_42 (by decide) ?_
      refine hp_aload_nR C dX6_ceases_44 e0 ?_
      refine mr_A C sh R fl_X6_7_6 rfl (by decide) dX6_ceases_45 ?_
      refine hp_iload C dX6_ceases_48 rfl ?_
      refine mr_kp C sh R hn8 dX6_ceases_50 ?_
      refine hp_if_eq (tgt := 105) C dX6_ceases_51 (by decide) (fun _ => ?_) (fun z_9 => absurd (show Int32.ofInt (a_nd a 0 n) = 0 by rw [hk]; decide) z_9)
      refine hp_aload_nR C dX6_ceases_105 e0 ?_
      refine mr_A C sh R fl_X6_7_6 rfl (by decide) dX6_ceases_106 ?_
      refine hp_iload C dX6_ceases_109 rfl ?_
      refine mr_kp C sh R hn8 dX6_ceases_111 ?_
      refine hp_if_eq (tgt := 187) C dX6_ceases_112 (by decide) (fun _ => ?_) (fun z_9 => absurd (show Int32.ofInt (a_nd a 0 n) = 0 by rw [hk]; decide) z_9)
      exact mo_ceE sh C hd n lv al _ H a z R T hn (Nat.lt_of_le_of_lt (a_end_kp k n a).ev hv) e0 e2 e3 e4 e5 rfl hP
    · have X : a_lv f n (a_rw a n) a := ⟨T, hn, hk, by omega, rfl⟩
      have ec : a_ce k (f + 1) n a = ((a_cR (a_ce k f) (a_rw a n).reverse a).1 + 1, a_end k n (a_cR (a_ce k f) (a_rw a n).reverse a).2) := if_neg (by omega)
      rw [ec] at hv hP
      refine hp_iload C dX6_ceases_29 e4 ?_
      refine hp_iload_n C dX6_ceases_31 e2 ?_
      refine hp_icmp_lt (tgt := 335) C dX6_ceases_32 (by decide) (fun z_9 => absurd z_9 (nI_nlt hfr (by omega))) (fun _ => ?_)
      refine hp_aload_nR C dX6_ceases_35 e0 ?_
      refine mr_A C sh R fl_X6_62_6 rfl (by decide) dX6_ceases_36 ?_
      refine hp_iload C dX6_ceases_39 e4 ?_
      refine mr_way C sh R hl10 zw dX6_ceases_41 ?_
      refine hp_istore C dX6_ceases_42 (by decide) ?_
      refine mo_ceJ sh C hd (fun c lv al lo H a z => ih c lv al lo H a z) (a_rw a n).length lv al _ H a z R X (Nat.le_refl _) hlv hfr (by rw [List.take_length]; exact hv) zw zt e0 e2 e3 e4 e5 rfl ?_
      rw [List.take_length]
      exact hP
theorem k_pred1 {x : Nat} (h : x < 1000) : (nI x - 1 : Int32).toInt = (x : Int) - 1 := by
  have e1 := nI_toInt (n := x) (by omega)
  have e3 : (1 : Int32).toInt = 1 := by decide
  rw [Int32.toInt_sub, e1, e3]
  exact Int.bmod_eq_of_le (by omega) (by omega)
set_option maxRecDepth 20000 in
set_option maxHeartbeats 4000000 in
theorem mc_cea {l : Launch} {G : hpG} {h H : hpT} {m d : Nat} {a : aS} {z : mrZ} (sh : mo_sh G h m) (R : MR h m H a z) (T : a_T a) {n f fr : Nat} {k : Bool} (hn : n < a_mk a) (h9 : (9 : Int) ≤ f + a_nd a 2 n) (hlv : (fr : Int) ≤ a_nd a 2 n) (hv : (a_ev (a_ce k f n a).2).length < 2 ^ 30) (hd : 1 ≤ d) : hp_C l G yX6_ceases (.code yX6_ceases cX6_ceases 8 (some .int)) d [.ref m, .int (nI n), .int (nI fr), .int (if k = true then 1 else 0)] (H) (fun v h' => v = some (.int (nI (a_ce k f n a).1)) ∧ ∃ z', MR h m h' (a_ce k f n a).2 z' ∧ (∀ i, i < fr → z'.1 i = z.1 i ∧ z'.2.1 i = z.2.1 i) ∧ z'.2.2 = z.2.2) (fun _ _ => False) := by
  have hn8 : n < 80 := Nat.lt_of_lt_of_le hn T.1.2
  have r2 := T.r2 hn
  have hf10 : fr < 10 := by omega
  refine hp_ofV (by decide) (by simp [Value.category]) (Nat.le_of_ble_eq_true rfl) (fun M C hr hx el => ?_)
  refine hp_iload_n C dX6_ceases_0 rfl ?_
  refine hp_istore C dX6_ceases_1 (by decide) ?_
  refine hp_iconst (v := 0) C dX6_ceases_3 (by decide) ?_
  refine hp_istore C dX6_ceases_4 (by decide) ?_
  refine hp_aload_nR C dX6_ceases_6 rfl ?_
  refine mr_A C sh R fl_X6_62_6 rfl (by decide) dX6_ceases_7 ?_
  refine hp_iload C dX6_ceases_10 rfl ?_
  refine hp_iload_n C dX6_ceases_12 rfl ?_
  refine ms_way C sh R hf10 dX6_ceases_13 (fun H_13 R_13 => ?_)
  refine hp_aload_nR C dX6_ceases_14 rfl ?_
  refine mr_A C sh R_13 fl_X6_65_6 rfl (by decide) dX6_ceases_15 ?_
  refine hp_iload C dX6_ceases_18 rfl ?_
  refine hp_aload_nR C dX6_ceases_20 rfl ?_
  refine mr_A C sh R_13 fl_X6_50_6 rfl (by decide) dX6_ceases_21 ?_
  refine hp_iload_n C dX6_ceases_24 rfl ?_
  refine mr_many C sh R_13 hn8 dX6_ceases_25 ?_
  refine hp_iconst (v := 1) C dX6_ceases_26 (by decide) ?_
  refine hp_isub C dX6_ceases_27 ?_
  refine ms_at C sh R_13 hf10 dX6_ceases_28 (fun H_28 R_28 => ?_)
  refine mo_ceA sh C hd f n fr 0 _ _ a _ R_28 T hn h9 hlv (Nat.le_refl _) hv (va_up_self _ _ _) (va_up_self _ _ _) rfl rfl rfl rfl rfl (fun lo' H' z' R' g1 g2 q0 q2 q3 q4 q5 => ?_)
  rw [Nat.zero_add] at q5
  refine hp_iload C dX6_ceases_29 q4 ?_
  refine hp_iload_n C dX6_ceases_31 q2 ?_
  refine hp_icmp_lt (tgt := 335) C dX6_ceases_32 (by decide) (fun _ => ?_) (fun z_9 => absurd (show nI fr - 1 < nI fr by rw [Int32.lt_iff_toInt_lt, k_pred1 (by omega), nI_toInt (by omega)]; omega) z_9)
  refine hp_iload C dX6_ceases_335 q5 ?_
  refine hp_iret C hr rfl dX6_ceases_337 ?_
  exact ⟨rfl, z', R', fun i hi => ⟨(g1 i hi).1.trans (va_up_ne _ _ (by omega)), (g1 i hi).2.trans (va_up_ne _ _ (by omega))⟩, g2⟩
/-! ===== the reference: stopsBelow, starts ===== -/
theorem a_end_rt (k : Bool) (n : Nat) (a : aS) : a_rt (a_end k n a) = a_rt a := by
  unfold a_end
  split <;> rfl
theorem a_cR_rt {f : Nat → aS → Nat × aS} (hf : ∀ c a, a_rt (f c a).2 = a_rt a) : ∀ (l : List Nat) (a : aS), a_rt (a_cR f l a).2 = a_rt a
  | [], _ => rfl
  | c :: r, a => by
    unfold a_cR
    split
    · exact (a_cR_rt hf r _).trans (hf c a)
    · exact a_cR_rt hf r a
theorem a_ce_rt (k : Bool) : ∀ (f n : Nat) (a : aS), a_rt (a_ce k f n a).2 = a_rt a
  | 0, _, _ => rfl
  | f + 1, n, a => by
    unfold a_ce
    split
    · exact a_end_rt k n a
    · exact (a_end_rt k n _).trans (a_cR_rt (a_ce_rt k f) _ a)
/-- starting forgets times, no more -/
def a_rtk (a b : aS) : Prop := ∀ m, a_rt b m = a_rt a m ∨ a_rt b m = []
theorem a_rtk.tr {a b c : aS} (x : a_rtk a b) (y : a_rtk b c) : a_rtk a c := fun m => by
  rcases y m with h | h
  · rcases x m with g | g
    · exact Or.inl (h.trans g)
    · exact Or.inr (h.trans g)
  · exact Or.inr h
theorem a_rtk.nil {a b : aS} (x : a_rtk a b) {n : Nat} (h : a_rt a n = []) : a_rt b n = [] := by
  rcases x n with g | g
  · exact g.trans h
  · exact g
theorem a_rtk.of {a b : aS} (h : a_rt b = a_rt a) : a_rtk a b := fun m => Or.inl (congrFun h m)
theorem a_sF_rtk {f : Nat → aS → Bool × aS} (hf : ∀ c a, a_rtk a (f c a).2) : ∀ (l : List Nat) (a : aS), a_rtk a (a_sF f l a).2
  | [], a => a_rtk.of rfl
  | c :: r, a => by
    unfold a_sF
    split
    · exact (hf c a).tr (a_sF_rtk hf r _)
    · exact hf c a
theorem a_srt_rtk (a : aS) (n : Nat) : a_rtk a (a_srt a n []) := fun m => by
  show va_up (a_rt a) n [] m = a_rt a m ∨ va_up (a_rt a) n [] m = []
  by_cases e : m = n
  · rw [e, va_up_self]; exact Or.inr rfl
  · rw [va_up_ne _ _ e]; exact Or.inl rfl
theorem a_go_rtk : ∀ (f n : Nat) (a : aS), a_rtk a (a_go f n a).2
  | 0, _, a => a_rtk.of rfl
  | f + 1, n, a => by
    by_cases hw : a_nd a 0 n = 0
    · rw [a_go_w hw]
      split <;> exact a_rtk.of rfl
    · have e : a_go (f + 1) n a = (if (a_sR (a_go f) (a_rw a n) (a_srt a n [])).1 = true then (true, a_no (a_sn (a_sR (a_go f) (a_rw a n) (a_srt a n [])).2 3 n 1) 1 n 0) else (false, a_no (a_sn (a_cR (a_ce false f) (a_rw a n).reverse (a_sR (a_go f) (a_rw a n) (a_srt a n [])).2).2 3 n 0) 2 n 0)) := by
        show (if a_nd a 0 n = 0 then _ else _) = _
        rw [if_neg hw]
      rw [e, a_sF_R]
      have k1 := (a_srt_rtk a n).tr (a_sF_rtk (a_go_rtk f) (a_rw a n) (a_srt a n []))
      split
      · exact k1.tr (a_rtk.of rfl)
      · exact k1.tr (a_rtk.of (a_cR_rt (a_ce_rt false f) _ _))
/-- workers have no times -/
def a_W (a : aS) : Prop := ∀ n, n < a_mk a → a_nd a 0 n = 0 → a_rt a n = []
theorem a_W.k {a b : aS} (x : a_W a) (k : a_kp a b) (r : a_rtk a b) : a_W b := fun n hn hw => r.nil (x n (by rw [k.mk] at hn; exact hn) (by rw [k.nd] at hw; exact hw))
set_option maxHeartbeats 4000000 in
theorem ml_stb {M : hpM} {G : hpG} {d : Nat} {h0 h : hpT} {m : Nat} (sh : mo_sh G h m) (C : hp_F M G yX6_stopsBelow cX6_stopsBelow 6 d h0) (hr : (hp_mt M).sig.returnType = none) {f n lv : Nat} {L : List Nat} (hd : 2 ≤ d) {X : String → hpT → Prop} {P : Option Value → hpT → Prop} : ∀ (j : Nat) (lo : Nat → Option Value) (H : hpT) (a : aS) (z : mrZ), MR h m H a z → a_lv f n L a → j ≤ L.length → (lv : Int) ≤ a_nd a 2 n + 1 → (a_ev (a_cR (a_ce false f) (L.take j).reverse a).2).length < 2 ^ 30 → lo 0 = some (.ref m) → lo 1 = some (.int (nI n)) → lo 2 = some (.int (nI lv)) → lo 3 = some (.int 0) → lo 4 = some (.int (nI j - 1)) → (∀ H' z', MR h m H' (a_cR (a_ce false f) (L.take j).reverse a).2 z' → (∀ i, i < lv → z'.1 i = z.1 i ∧ z'.2.1 i = z.2.1 i) → z'.2.2 = z.2.2 → P none H') → hp_V M G 6 (hp_Q M G h0 P X) H 10 lo [] := by
  intro j
  induction j with
  | zero =>
    intro lo H a z R X hj hlv hv e0 e1 e2 e3 e4 hP
    refine hp_iload C dX6_stopsBelow_10 e4 ?_
    refine hp_iload_n C dX6_stopsBelow_12 e3 ?_
    refine hp_icmp_lt (tgt := 56) C dX6_stopsBelow_13 (by decide) (fun _ => ?_) (fun z_9 => absurd (show (nI 0 - 1 : Int32) < 0 by decide) z_9)
    refine hp_vret C hr dX6_stopsBelow_56 ?_
    exact hP H z R (fun _ _ => ⟨rfl, rfl⟩) rfl
  | succ j ih =>
    intro lo H a z R X hj hlv hv e0 e1 e2 e3 e4 hP
    rw [nI_pred] at e4
    have T := X.1
    have hn := X.2.1
    have hn8 : n < 80 := Nat.lt_of_lt_of_le hn T.1.2
    have eL := X.2.2.2.2
    subst eL
    have hjl : j < (a_rw a n).length := by omega
    have hl79 := T.rl hn
    obtain ⟨hc, h9⟩ := X.c hjl
    have hc8 : (a_rw a n).getD j 0 < 80 := Nat.lt_of_lt_of_le hc T.1.2
    have r3 := T.r3 hc
    have hdc := (T.rc hn (k_rc T hn hjl)).2.2
    rw [k_tk hjl] at hv hP
    generalize hcc : (a_rw a n).getD j 0 = c at hc hc8 h9 r3 hdc hv hP
    refine hp_iload C dX6_stopsBelow_10 e4 ?_
    refine hp_iload_n C dX6_stopsBelow_12 e3 ?_
    refine hp_icmp_lt (tgt := 56) C dX6_stopsBelow_13 (by decide) (fun z_9 => absurd z_9 (nI_pos (by omega))) (fun _ => ?_)
    refine hp_aload_nR C dX6_stopsBelow_16 e0 ?_
    refine mr_A C sh R fl_X6_47_6 rfl (by decide) dX6_stopsBelow_17 ?_
    refine hp_bipush (v := 80) C dX6_stopsBelow_20 (by decide) ?_
    refine hp_iload_n C dX6_stopsBelow_22 e1 ?_
    refine hp_imul C dX6_stopsBelow_23 ?_
    refine hp_iload C dX6_stopsBelow_24 e4 ?_
    refine hp_iadd C dX6_stopsBelow_26 ?_
    refine mr_row C sh R hn8 hjl rfl dX6_stopsBelow_27 ?_
    rw [hcc]
    refine hp_istore C dX6_stopsBelow_28 (by decide) ?_
    refine hp_aload_nR C dX6_stopsBelow_30 e0 ?_
    refine mr_A C sh R fl_X6_20_6 rfl (by decide) dX6_stopsBelow_31 ?_
    refine hp_iload C dX6_stopsBelow_34 rfl ?_
    refine mr_nd C sh R 5 3 (by decide) (by decide) rfl hc8 dX6_stopsBelow_36 ?_
    refine hp_iconst (v := 1) C dX6_stopsBelow_37 (by decide) ?_
    refine hp_icmp_ne (tgt := 50) C dX6_stopsBelow_38 (by decide) (fun c_38 => ?_) (fun c_38 => ?_)
    · refine hp_iinc C dX6_stopsBelow_50 e4 (by decide) rfl ?_
      refine hp_goto (tgt := 10) C dX6_stopsBelow_53 (by decide) ?_
      have hu : ¬ a_nd a 3 c = 1 := fun e => c_38 (by rw [e]; decide)
      rw [a_cR_dn hu] at hv hP
      exact ih _ _ a z R X (by omega) hlv hv e0 e1 e2 e3 ((va_up_self _ _ _).trans (by rw [k_dec])) hP
    · have hu : a_nd a 3 c = 1 := (a_ofI_eq (x := a_nd a 3 c) (y := 1) (by omega) (by omega)).mp c_38
      rw [a_cR_up hu] at hv hP
      refine hp_aload_nR C dX6_stopsBelow_41 e0 ?_
      refine hp_iload C dX6_stopsBelow_42 rfl ?_
      refine hp_iload_n C dX6_stopsBelow_44 e2 ?_
      refine hp_iconst (v := 0) C dX6_stopsBelow_45 (by decide) ?_
      refine hp_callV (ci := 6) C ml_X6_92 im_X6_ceases se_X6_ceases rfl (by decide) (mc_cea (d := d - 1) (k := false) (f := f) (fr := lv) sh R T hc h9 (by omega) (Nat.lt_of_le_of_lt (a_cR_kp (a_ce_kp false f) _ _).ev hv) (by omega)) (by omega) dX6_stopsBelow_46 (R.o sh) rfl rfl (by simp [Value.category]) (fun v_46 h_46 hp => ?_) (fun _ _ hf => hf.elim)
      obtain ⟨rfl, z1, R_46, g1, g2⟩ := hp
      refine hp_pop C dX6_stopsBelow_49 rfl ?_
      refine hp_iinc C dX6_stopsBelow_50 e4 (by decide) rfl ?_
      refine hp_goto (tgt := 10) C dX6_stopsBelow_53 (by decide) ?_
      have kc := a_ce_kp false f c a
      exact ih _ _ _ z1 R_46 (X.kp kc) (by omega) (by rw [kc.nd]; exact hlv) hv e0 e1 e2 e3 ((va_up_self _ _ _).trans (by rw [k_dec])) (fun H' z' R' g3 g4 => hP H' z' R' (fun i hi => ⟨(g3 i hi).1.trans (g1 i hi).1, (g3 i hi).2.trans (g1 i hi).2⟩) (g4.trans g2))
set_option maxRecDepth 20000 in
set_option maxHeartbeats 4000000 in
theorem mc_stb {l : Launch} {G : hpG} {h H : hpT} {m d : Nat} {a : aS} {z : mrZ} (sh : mo_sh G h m) (R : MR h m H a z) {f n lv : Nat} (X : a_lv f n (a_rw a n) a) (hlv : (lv : Int) ≤ a_nd a 2 n + 1) (hv : (a_ev (a_cR (a_ce false f) (a_rw a n).reverse a).2).length < 2 ^ 30) (hd : 2 ≤ d) : hp_C l G yX6_stopsBelow (.code yX6_stopsBelow cX6_stopsBelow 6 none) d [.ref m, .int (nI n), .int (nI lv), .int 0] (H) (fun v h' => v = none ∧ ∃ z', MR h m h' (a_cR (a_ce false f) (a_rw a n).reverse a).2 z' ∧ (∀ i, i < lv → z'.1 i = z.1 i ∧ z'.2.1 i = z.2.1 i) ∧ z'.2.2 = z.2.2) (fun _ _ => False) := by
  have hn8 : n < 80 := Nat.lt_of_lt_of_le X.2.1 X.1.1.2
  refine hp_ofV (by decide) (by simp [Value.category]) (Nat.le_of_ble_eq_true rfl) (fun M C hr hx el => ?_)
  refine hp_aload_nR C dX6_stopsBelow_0 rfl ?_
  refine mr_A C sh R fl_X6_50_6 rfl (by decide) dX6_stopsBelow_1 ?_
  refine hp_iload_n C dX6_stopsBelow_4 rfl ?_
  refine mr_many C sh R hn8 dX6_stopsBelow_5 ?_
  refine hp_iconst (v := 1) C dX6_stopsBelow_6 (by decide) ?_
  refine hp_isub C dX6_stopsBelow_7 ?_
  refine hp_istore C dX6_stopsBelow_8 (by decide) ?_
  exact ml_stb sh C hr hd (a_rw a n).length _ H a z R X (Nat.le_refl _) hlv (by rw [List.take_length]; exact hv) rfl rfl rfl rfl rfl (fun H' z' R' g1 g2 => ⟨rfl, z', by rw [List.take_length] at R'; exact R', g1, g2⟩)
theorem ms_cs {M : hpM} {G : hpG} {y : MethodName} {cc : ByteArray} {nL d : Nat} {h0 h H : hpT} {Q : State → Prop} {pc : Nat} {lo : Nat → Option Value} {st : List Value} {m : Nat} {a : aS} {z : mrZ} {n : Nat} (C : hp_F M G y cc nL d h0) (x : mo_sh G h m) (R : MR h m H a z) (hn : n < 80) (d1 : decode cc pc = .ok (.iaload, 1)) (d2 : decode cc (pc + 1) = .ok (.iastore, 1)) (kk : ∀ H', MR h m H' a z → hp_V M G nL Q H' (pc + 2) lo st) : hp_V M G nL Q H pc lo (.int (nI n) :: .ref (mo_arr m 17) :: .int (nI n) :: .ref (mo_arr m 17) :: st) := by
  obtain ⟨s, rfl, r, r1, r2, r3⟩ := R
  refine mo_ald C x rfl (by decide) rfl d1 (nI_in hn (by decide)) ?_
  refine mo_ast C x rfl (by decide) d2 (nI_in hn (by decide)) ?_
  rw [nI_clamp (by omega)]
  have e : mo_up s 17 n (s.2 17 n) = s := by
    refine Prod.ext rfl (funext fun k => ?_)
    show va_up s.2 17 (va_up (s.2 17) n (s.2 17 n)) k = s.2 k
    by_cases e1 : k = 17
    · subst e1
      rw [va_up_self]
      funext i
      by_cases e2 : i = n
      · rw [e2, va_up_self]
      · rw [va_up_ne _ _ e2]
    · rw [va_up_ne _ _ e1]
  rw [e]
  exact kk _ ⟨s, rfl, r, r1, r2, r3⟩
theorem a_sn_self (a : aS) (f n : Nat) : a_sn a f n (a_nd a f n) = a := by
  have : va_up (a_nd a) f (va_up (a_nd a f) n (a_nd a f n)) = a_nd a := by
    funext g q
    by_cases e : g = f
    · subst e
      rw [va_up_self]
      by_cases e2 : q = n
      · rw [e2, va_up_self]
      · rw [va_up_ne _ _ e2]
    · rw [va_up_ne _ _ e]
  unfold a_sn
  rw [this]
set_option maxHeartbeats 4000000 in
theorem mo_staW {M : hpM} {G : hpG} {d : Nat} {h0 h : hpT} {m : Nat} {Q : State → Prop} (sh : mo_sh G h m) (C : hp_F M G yX6_starts cX6_starts 6 d h0) (hd : 3 ≤ d) {f : Nat} : ∀ (n lv : Nat) (lo : Nat → Option Value) (H : hpT) (a : aS) (z : mrZ), MR h m H a z → a_T a → a_W a → n < a_mk a → a_nd a 0 n = 0 → lv < 10 → (a_ev a).length < 2 ^ 30 → z.1 lv = nI n → lo 0 = some (.ref m) → lo 2 = some (.int (nI lv)) → lo 3 = some (.int (-1)) → (∀ (lo' : Nat → Option Value) (H' : hpT) (z' : mrZ), MR h m H' (a_go (f + 1) n a).2 z' → (∀ i, i < lv → z'.1 i = z.1 i ∧ z'.2.1 i = z.2.1 i) → z'.2.2 = z.2.2 → lo' 0 = some (.ref m) → lo' 2 = some (.int (nI lv - 1)) → lo' 3 = some (.int (if (a_go (f + 1) n a).1 = true then 1 else 0)) → hp_V M G 6 Q H' 18 lo' []) → hp_V M G 6 Q H 18 lo [] := by
  intro n lv lo H a z R T W hn hk hl10 hv zw e0 e2 e3 hP
  have hn8 : n < 80 := Nat.lt_of_lt_of_le hn T.1.2
  have r9 := T.r9 hn
  have r11 := T.r11 hn
  rw [a_go_w hk] at hP
  refine hp_iload_n C dX6_starts_18 e2 ?_
  refine hp_if_lt (tgt := 279) C dX6_starts_19 (by decide) (fun z_9 => absurd z_9 (nI_pos (by omega))) (fun _ => ?_)
  refine hp_aload_nR C dX6_starts_22 e0 ?_
  refine mr_A C sh R fl_X6_62_6 rfl (by decide) dX6_starts_23 ?_
  refine hp_iload_n C dX6_starts_26 e2 ?_
  refine mr_way C sh R hl10 zw dX6_starts_27 ?_
  refine hp_istore C dX6_starts_28 (by decide) ?_
  refine hp_iconst (v := 1) C dX6_starts_30 (by decide) ?_
  refine hp_istore C dX6_starts_31 (by decide) ?_
  refine hp_aload_nR C dX6_starts_33 e0 ?_
  refine mr_A C sh R fl_X6_7_6 rfl (by decide) dX6_starts_34 ?_
  refine hp_iload C dX6_starts_37 rfl ?_
  refine mr_kp C sh R hn8 dX6_starts_39 ?_
  refine hp_if_ne (tgt := 97) C dX6_starts_40 (by decide) (fun z_9 => absurd z_9 (fun z_8 => z_8 (show Int32.ofInt (a_nd a 0 n) = 0 by rw [hk]; decide))) (fun _ => ?_)
  refine hp_aload_nR C dX6_starts_43 e0 ?_
  refine hp_dup C dX6_starts_44 rfl ?_
  refine mr_S C sh R fl_X6_82_6 (Or.inr (Or.inr (Or.inl ⟨rfl, rfl⟩))) dX6_starts_45 ?_
  refine hp_aload_nR C dX6_starts_48 e0 ?_
  refine mr_A C sh R fl_X6_38_6 rfl (by decide) dX6_starts_49 ?_
  refine hp_iload C dX6_starts_52 rfl ?_
  refine mr_nd C sh R 11 9 (by decide) (by decide) rfl hn8 dX6_starts_54 ?_
  refine hp_iadd C dX6_starts_55 ?_
  refine ms_tm C sh R fl_X6_82_6 (a_tm a + (a_nd a 9 n).toNat) (Nat.le_add_right _ _) (by rw [a_ofN r9.1, nI_add]) dX6_starts_56 (fun H_56 R_56 => ?_)
  refine hp_aload_nR C dX6_starts_59 e0 ?_
  refine mr_A C sh R_56 fl_X6_44_6 rfl (by decide) dX6_starts_60 ?_
  refine hp_iload C dX6_starts_63 rfl ?_
  refine mr_nd C sh R_56 13 11 (by decide) (by decide) rfl hn8 dX6_starts_65 ?_
  refine hp_if_le (tgt := 73) C dX6_starts_66 (by decide) (fun c_66 => ?_) (fun c_66 => ?_)
  · have hp : ¬ 0 < a_nd a 11 n := by
      have := (a_ofI_le (x := a_nd a 11 n) (y := 0) (by omega) (by omega)).mp c_66
      omega
    rw [if_neg hp] at hP
    refine hp_iconst (v := 1) C dX6_starts_73 (by decide) ?_
    refine hp_istore_n C dX6_starts_74 (by decide) ?_
    refine hp_aload_nR C dX6_starts_75 e0 ?_
    refine mr_A C sh R_56 fl_X6_44_6 rfl (by decide) dX6_starts_76 ?_
    refine hp_iload C dX6_starts_79 rfl ?_
    refine hp_dup2 C dX6_starts_81 rfl rfl ?_
    refine mr_nd C sh R_56 13 11 (by decide) (by decide) rfl hn8 dX6_starts_82 ?_
    refine hp_iload_n C dX6_starts_83 rfl ?_
    refine hp_if_ne (tgt := 91) C dX6_starts_84 (by decide) (fun _ => ?_) (fun z_9 => absurd z_9 (by decide))
    refine hp_iconst (v := 0) C dX6_starts_91 (by decide) ?_
    refine hp_isub C dX6_starts_92 ?_
    refine ms_sn C sh R_56 13 11 (by decide) (by decide) (by decide) (by decide) rfl hn8 (a_nd a 11 n) (by omega) (Int32.sub_zero _) dX6_starts_93 (fun H_93 R_93 => ?_)
    refine hp_goto (tgt := 224) C dX6_starts_94 (by decide) ?_
    refine hp_iload C dX6_starts_224 rfl ?_
    refine hp_if_eq (tgt := 263) C dX6_starts_226 (by decide) (fun z_9 => absurd z_9 (by decide)) (fun _ => ?_)
    refine hp_aload_nR C dX6_starts_229 e0 ?_
    refine mr_A C sh R_93 fl_X6_20_6 rfl (by decide) dX6_starts_230 ?_
    refine hp_iload C dX6_starts_233 rfl ?_
    refine hp_iload_n C dX6_starts_235 rfl ?_
    refine hp_iconst (v := 1) C dX6_starts_236 (by decide) ?_
    refine hp_icmp_ne (tgt := 244) C dX6_starts_237 (by decide) (fun z_9 => absurd z_9 (by decide)) (fun _ => ?_)
    refine hp_iconst (v := 1) C dX6_starts_240 (by decide) ?_
    refine hp_goto (tgt := 245) C dX6_starts_241 (by decide) ?_
    refine ms_st C sh R_93 hn8 1 (by omega) (fun _ => W n hn hk) (by decide) dX6_starts_245 (fun H_245 R_245 => ?_)
    refine hp_aload_nR C dX6_starts_246 e0 ?_
    refine hp_iload_n C dX6_starts_247 rfl ?_
    refine hp_iconst (v := 1) C dX6_starts_248 (by decide) ?_
    refine hp_icmp_ne (tgt := 256) C dX6_starts_249 (by decide) (fun z_9 => absurd z_9 (by decide)) (fun _ => ?_)
    refine hp_iconst (v := 1) C dX6_starts_252 (by decide) ?_
    refine hp_goto (tgt := 257) C dX6_starts_253 (by decide) ?_
    refine hp_iload C dX6_starts_257 rfl ?_
    refine hp_iconst (v := 0) C dX6_starts_259 (by decide) ?_
    refine hp_callV (ci := 6) C ml_X6_89 im_X6_note se_X6_note rfl (by decide) (mc_note (d := d - 1) (w := 1) (n := n) (r := 0) sh R_245 hv) (by omega) dX6_starts_260 (R_245.o sh) rfl rfl (by simp [Value.category]) (fun v_260 h_260 hp => ?_) (fun _ _ hf => hf.elim)
    obtain ⟨rfl, R_260⟩ := hp
    refine hp_iload_n C dX6_starts_263 e2 ?_
    refine hp_iload C dX6_starts_264 rfl ?_
    refine hp_if_eq (tgt := 273) C dX6_starts_266 (by decide) (fun z_9 => absurd z_9 (by decide)) (fun _ => ?_)
    refine hp_iconst (v := (-1)) C dX6_starts_269 (by decide) ?_
    refine hp_goto (tgt := 274) C dX6_starts_270 (by decide) ?_
    refine hp_iadd C dX6_starts_274 ?_
    refine hp_istore_n C dX6_starts_275 (by decide) ?_
    refine hp_goto (tgt := 18) C dX6_starts_276 (by decide) ?_
    have es : a_sn (a_st a (a_tm a + (a_nd a 9 n).toNat)) 11 n (a_nd a 11 n) = a_st a (a_tm a + (a_nd a 9 n).toNat) := a_sn_self _ _ _
    rw [es] at R_260
    exact hP _ _ z R_260 (fun _ _ => ⟨rfl, rfl⟩) rfl e0 ((va_up_self _ _ _).trans (by rw [show (-1 : Int32) = Int32.ofInt (-1) by decide, k_dec])) rfl
  · have hp : 0 < a_nd a 11 n := by
      have := (not_congr (a_ofI_le (x := a_nd a 11 n) (y := 0) (by omega) (by omega))).mp c_66
      omega
    rw [if_pos hp] at hP
    refine hp_iconst (v := 0) C dX6_starts_69 (by decide) ?_
    refine hp_goto (tgt := 74) C dX6_starts_70 (by decide) ?_
    refine hp_istore_n C dX6_starts_74 (by decide) ?_
    refine hp_aload_nR C dX6_starts_75 e0 ?_
    refine mr_A C sh R_56 fl_X6_44_6 rfl (by decide) dX6_starts_76 ?_
    refine hp_iload C dX6_starts_79 rfl ?_
    refine hp_dup2 C dX6_starts_81 rfl rfl ?_
    refine mr_nd C sh R_56 13 11 (by decide) (by decide) rfl hn8 dX6_starts_82 ?_
    refine hp_iload_n C dX6_starts_83 rfl ?_
    refine hp_if_ne (tgt := 91) C dX6_starts_84 (by decide) (fun z_9 => absurd z_9 (by decide)) (fun _ => ?_)
    refine hp_iconst (v := 1) C dX6_starts_87 (by decide) ?_
    refine hp_goto (tgt := 92) C dX6_starts_88 (by decide) ?_
    refine hp_isub C dX6_starts_92 ?_
    refine ms_sn C sh R_56 13 11 (by decide) (by decide) (by decide) (by decide) rfl hn8 (a_nd a 11 n - 1) (by omega) (a_ofI_pred _) dX6_starts_93 (fun H_93 R_93 => ?_)
    refine hp_goto (tgt := 224) C dX6_starts_94 (by decide) ?_
    refine hp_iload C dX6_starts_224 rfl ?_
    refine hp_if_eq (tgt := 263) C dX6_starts_226 (by decide) (fun z_9 => absurd z_9 (by decide)) (fun _ => ?_)
    refine hp_aload_nR C dX6_starts_229 e0 ?_
    refine mr_A C sh R_93 fl_X6_20_6 rfl (by decide) dX6_starts_230 ?_
    refine hp_iload C dX6_starts_233 rfl ?_
    refine hp_iload_n C dX6_starts_235 rfl ?_
    refine hp_iconst (v := 1) C dX6_starts_236 (by decide) ?_
    refine hp_icmp_ne (tgt := 244) C dX6_starts_237 (by decide) (fun _ => ?_) (fun z_9 => absurd z_9 (by decide))
    refine hp_iconst (v := 0) C dX6_starts_244 (by decide) ?_
    refine ms_st C sh R_93 hn8 0 (by omega) (fun z_7 => by cases z_7) (by decide) dX6_starts_245 (fun H_245 R_245 => ?_)
    refine hp_aload_nR C dX6_starts_246 e0 ?_
    refine hp_iload_n C dX6_starts_247 rfl ?_
    refine hp_iconst (v := 1) C dX6_starts_248 (by decide) ?_
    refine hp_icmp_ne (tgt := 256) C dX6_starts_249 (by decide) (fun _ => ?_) (fun z_9 => absurd z_9 (by decide))
    refine hp_iconst (v := 2) C dX6_starts_256 (by decide) ?_
    refine hp_iload C dX6_starts_257 rfl ?_
    refine hp_iconst (v := 0) C dX6_starts_259 (by decide) ?_
    refine hp_callV (ci := 6) C ml_X6_89 im_X6_note se_X6_note rfl (by decide) (mc_note (d := d - 1) (w := 2) (n := n) (r := 0) sh R_245 hv) (by omega) dX6_starts_260 (R_245.o sh) rfl rfl (by simp [Value.category]) (fun v_260 h_260 hp => ?_) (fun _ _ hf => hf.elim)
    obtain ⟨rfl, R_260⟩ := hp
    refine hp_iload_n C dX6_starts_263 e2 ?_
    refine hp_iload C dX6_starts_264 rfl ?_
    refine hp_if_eq (tgt := 273) C dX6_starts_266 (by decide) (fun z_9 => absurd z_9 (by decide)) (fun _ => ?_)
    refine hp_iconst (v := (-1)) C dX6_starts_269 (by decide) ?_
    refine hp_goto (tgt := 274) C dX6_starts_270 (by decide) ?_
    refine hp_iadd C dX6_starts_274 ?_
    refine hp_istore_n C dX6_starts_275 (by decide) ?_
    refine hp_goto (tgt := 18) C dX6_starts_276 (by decide) ?_
    exact hP _ _ z R_260 (fun _ _ => ⟨rfl, rfl⟩) rfl e0 ((va_up_self _ _ _).trans (by rw [show (-1 : Int32) = Int32.ofInt (-1) by decide, k_dec])) rfl
/-- what becomes of a keeper's start, once its row is started (r: the first that failed) -/
def a_gf (f n : Nat) (L : List Nat) (r : Option Nat × aS) : Bool × aS := if r.1.isNone = true then (true, a_no (a_sn r.2 3 n 1) 1 n 0) else (false, a_no (a_sn (a_cR (a_ce false f) L.reverse r.2).2 3 n 0) 2 n 0)
theorem a_gf_ev (f n : Nat) (L : List Nat) (r : Option Nat × aS) : (a_ev r.2).length ≤ (a_ev (a_gf f n L r).2).length := by
  unfold a_gf
  split
  · exact (a_kp.no (a_sn r.2 3 n 1) 1 n 0).ev
  · exact Nat.le_trans (a_cR_kp (a_ce_kp false f) L.reverse r.2).ev (a_kp.no (a_sn (a_cR (a_ce false f) L.reverse r.2).2 3 n 0) 2 n 0).ev
set_option maxHeartbeats 4000000 in
theorem mo_staJ {M : hpM} {G : hpG} {d : Nat} {h0 h : hpT} {m : Nat} {Q : State → Prop} (sh : mo_sh G h m) (C : hp_F M G yX6_starts cX6_starts 6 d h0) (hd : 3 ≤ d) {f n : Nat} {L : List Nat} (hA : ∀ (c lv : Nat) (lo : Nat → Option Value) (H : hpT) (a : aS) (z : mrZ), MR h m H a z → a_T a → a_W a → c < a_mk a → (9 : Int) ≤ f + a_nd a 2 c → (lv : Int) ≤ a_nd a 2 c → (a_ev (a_go f c a).2).length < 2 ^ 30 → z.1 lv = nI c → z.2.1 lv = nI 0 → lo 0 = some (.ref m) → lo 2 = some (.int (nI lv)) → lo 3 = some (.int (-1)) → (∀ (lo' : Nat → Option Value) (H' : hpT) (z' : mrZ), MR h m H' (a_go f c a).2 z' → (∀ i, i < lv → z'.1 i = z.1 i ∧ z'.2.1 i = z.2.1 i) → z'.2.2 = z.2.2 → lo' 0 = some (.ref m) → lo' 2 = some (.int (nI lv - 1)) → lo' 3 = some (.int (if (a_go f c a).1 = true then 1 else 0)) → hp_V M G 6 Q H' 18 lo' []) → hp_V M G 6 Q H 18 lo []) : ∀ (k j lv : Nat) (lo : Nat → Option Value) (H : hpT) (a : aS) (z : mrZ), j + k = L.length → MR h m H a z → a_W a → a_lv f n L a → a_rt a n = [] → (lv : Int) ≤ a_nd a 2 n → (a_ev (a_gf f n L (a_sF (a_go f) (L.drop j) a)).2).length < 2 ^ 30 → z.1 lv = nI n → z.2.1 lv = nI j → lo 0 = some (.ref m) → lo 2 = some (.int (nI lv)) → lo 4 = some (.int (nI n)) → (∀ (lo' : Nat → Option Value) (H' : hpT) (z' : mrZ), MR h m H' (a_gf f n L (a_sF (a_go f) (L.drop j) a)).2 z' → (∀ i, i < lv → z'.1 i = z.1 i ∧ z'.2.1 i = z.2.1 i) → z'.2.2 = z.2.2 → lo' 0 = some (.ref m) → lo' 2 = some (.int (nI lv - 1)) → lo' 3 = some (.int (if (a_gf f n L (a_sF (a_go f) (L.drop j) a)).1 = true then 1 else 0)) → hp_V M G 6 Q H' 18 lo' []) → hp_V M G 6 Q H 141 lo [] := by
  intro k
  induction k with
  | zero =>
    intro j lv lo H a z hjk R W X hrt hlv hv zw zt e0 e2 e4 hP
    have T := X.1
    have hn := X.2.1
    have hk := X.2.2.1
    have hn8 : n < 80 := Nat.lt_of_lt_of_le hn T.1.2
    have r2 := T.r2 hn
    have hl10 : lv < 10 := by omega
    have hl79 := T.rl hn
    have eL := X.2.2.2.2
    subst eL
    have ej : (a_rw a n).drop j = [] := List.drop_eq_nil_of_le (by omega)
    rw [ej] at hv hP
    have hv0 : (a_ev a).length < 2 ^ 30 := Nat.lt_of_le_of_lt (a_gf_ev f n (a_rw a n) (a_sF (a_go f) [] a)) hv
    have ejl : j = (a_rw a n).length := by omega
    refine hp_aload_nR C dX6_starts_141 e0 ?_
    refine mr_A C sh R fl_X6_65_6 rfl (by decide) dX6_starts_142 ?_
    refine hp_iload_n C dX6_starts_145 e2 ?_
    refine mr_at C sh R hl10 zt dX6_starts_146 ?_
    refine hp_aload_nR C dX6_starts_147 e0 ?_
    refine mr_A C sh R fl_X6_50_6 rfl (by decide) dX6_starts_148 ?_
    refine hp_iload C dX6_starts_151 e4 ?_
    refine mr_many C sh R hn8 dX6_starts_153 ?_
    refine hp_icmp_ne (tgt := 161) C dX6_starts_154 (by decide) (fun z_9 => absurd z_9 (fun z_8 => z_8 (by rw [ejl]))) (fun _ => ?_)
    refine hp_iconst (v := 1) C dX6_starts_157 (by decide) ?_
    refine hp_goto (tgt := 162) C dX6_starts_158 (by decide) ?_
    refine hp_istore C dX6_starts_162 (by decide) ?_
    refine hp_iload C dX6_starts_164 rfl ?_
    refine hp_if_eq (tgt := 173) C dX6_starts_166 (by decide) (fun z_9 => absurd z_9 (by decide)) (fun _ => ?_)
    refine hp_iconst (v := 1) C dX6_starts_169 (by decide) ?_
    refine hp_goto (tgt := 174) C dX6_starts_170 (by decide) ?_
    refine hp_istore_n C dX6_starts_174 (by decide) ?_
    refine hp_iload C dX6_starts_175 rfl ?_
    refine hp_if_ne (tgt := 224) C dX6_starts_177 (by decide) (fun _ => ?_) (fun z_9 => absurd z_9 (by decide))
    refine hp_iload C dX6_starts_224 rfl ?_
    refine hp_if_eq (tgt := 263) C dX6_starts_226 (by decide) (fun z_9 => absurd z_9 (by decide)) (fun _ => ?_)
    refine hp_aload_nR C dX6_starts_229 e0 ?_
    refine mr_A C sh R fl_X6_20_6 rfl (by decide) dX6_starts_230 ?_
    refine hp_iload C dX6_starts_233 e4 ?_
    refine hp_iload_n C dX6_starts_235 rfl ?_
    refine hp_iconst (v := 1) C dX6_starts_236 (by decide) ?_
    refine hp_icmp_ne (tgt := 244) C dX6_starts_237 (by decide) (fun z_9 => absurd z_9 (by decide)) (fun _ => ?_)
    refine hp_iconst (v := 1) C dX6_starts_240 (by decide) ?_
    refine hp_goto (tgt := 245) C dX6_starts_241 (by decide) ?_
    refine ms_st C sh R hn8 1 (by omega) (fun _ => hrt) (by decide) dX6_starts_245 (fun H_245 R_245 => ?_)
    refine hp_aload_nR C dX6_starts_246 e0 ?_
    refine hp_iload_n C dX6_starts_247 rfl ?_
    refine hp_iconst (v := 1) C dX6_starts_248 (by decide) ?_
    refine hp_icmp_ne (tgt := 256) C dX6_starts_249 (by decide) (fun z_9 => absurd z_9 (by decide)) (fun _ => ?_)
    refine hp_iconst (v := 1) C dX6_starts_252 (by decide) ?_
    refine hp_goto (tgt := 257) C dX6_starts_253 (by decide) ?_
    refine hp_iload C dX6_starts_257 e4 ?_
    refine hp_iconst (v := 0) C dX6_starts_259 (by decide) ?_
    refine hp_callV (ci := 6) C ml_X6_89 im_X6_note se_X6_note rfl (by decide) (mc_note (d := d - 1) (w := 1) (n := n) (r := 0) sh R_245 hv0) (by omega) dX6_starts_260 (R_245.o sh) rfl rfl (by simp [Value.category]) (fun v_260 h_260 hp => ?_) (fun _ _ hf => hf.elim)
    obtain ⟨rfl, R_260⟩ := hp
    refine hp_iload_n C dX6_starts_263 e2 ?_
    refine hp_iload C dX6_starts_264 rfl ?_
    refine hp_if_eq (tgt := 273) C dX6_starts_266 (by decide) (fun z_9 => absurd z_9 (by decide)) (fun _ => ?_)
    refine hp_iconst (v := (-1)) C dX6_starts_269 (by decide) ?_
    refine hp_goto (tgt := 274) C dX6_starts_270 (by decide) ?_
    refine hp_iadd C dX6_starts_274 ?_
    refine hp_istore_n C dX6_starts_275 (by decide) ?_
    refine hp_goto (tgt := 18) C dX6_starts_276 (by decide) ?_
    exact hP _ _ z R_260 (fun _ _ => ⟨rfl, rfl⟩) rfl e0 ((va_up_self _ _ _).trans (by rw [show (-1 : Int32) = Int32.ofInt (-1) by decide, k_dec])) rfl
  | succ k ih =>
    intro j lv lo H a z hjk R W X hrt hlv hv zw zt e0 e2 e4 hP
    have T := X.1
    have hn := X.2.1
    have hk := X.2.2.1
    have hn8 : n < 80 := Nat.lt_of_lt_of_le hn T.1.2
    have r2 := T.r2 hn
    have hl10 : lv < 10 := by omega
    have hl79 := T.rl hn
    have eL := X.2.2.2.2
    subst eL
    have hjl : j < (a_rw a n).length := by omega
    obtain ⟨hc, h9⟩ := X.c hjl
    have hdc := (T.rc hn (k_rc T hn hjl)).2.2
    rw [k_dp hjl] at hv hP
    generalize hcc : (a_rw a n).getD j 0 = c at hc h9 hdc hv hP
    have kg := a_go_kp f c a
    have hvg : (a_ev (a_go f c a).2).length < 2 ^ 30 := by
      refine Nat.lt_of_le_of_lt (Nat.le_trans ?_ (a_gf_ev f n (a_rw a n) _)) hv
      by_cases g : (a_go f c a).1 = true
      · rw [a_sF_ok g]
        exact (a_sF_kp (a_go_kp f) _ _).ev
      · rw [a_sF_no g]
        exact Nat.le_refl _
    refine hp_aload_nR C dX6_starts_141 e0 ?_
    refine mr_A C sh R fl_X6_65_6 rfl (by decide) dX6_starts_142 ?_
    refine hp_iload_n C dX6_starts_145 e2 ?_
    refine mr_at C sh R hl10 zt dX6_starts_146 ?_
    refine hp_aload_nR C dX6_starts_147 e0 ?_
    refine mr_A C sh R fl_X6_50_6 rfl (by decide) dX6_starts_148 ?_
    refine hp_iload C dX6_starts_151 e4 ?_
    refine mr_many C sh R hn8 dX6_starts_153 ?_
    refine hp_icmp_ne (tgt := 161) C dX6_starts_154 (by decide) (fun _ => ?_) (fun z_9 => absurd z_9 (fun z_8 => absurd ((nI_eq (by omega) (by omega)).mp z_8) (by omega)))
    refine hp_iconst (v := 0) C dX6_starts_161 (by decide) ?_
    refine hp_istore C dX6_starts_162 (by decide) ?_
    refine hp_iload C dX6_starts_164 rfl ?_
    refine hp_if_eq (tgt := 173) C dX6_starts_166 (by decide) (fun _ => ?_) (fun z_9 => absurd z_9 (by decide))
    refine hp_iconst (v := (-1)) C dX6_starts_173 (by decide) ?_
    refine hp_istore_n C dX6_starts_174 (by decide) ?_
    refine hp_iload C dX6_starts_175 rfl ?_
    refine hp_if_ne (tgt := 224) C dX6_starts_177 (by decide) (fun z_9 => absurd z_9 (by decide)) (fun _ => ?_)
    refine hp_aload_nR C dX6_starts_180 e0 ?_
    refine mr_A C sh R fl_X6_62_6 rfl (by decide) dX6_starts_181 ?_
    refine hp_iload_n C dX6_starts_184 e2 ?_
    refine hp_iconst (v := 1) C dX6_starts_185 (by decide) ?_
    refine hp_iadd C dX6_starts_186 ?_
    rw [nI_1]
    refine hp_aload_nR C dX6_starts_187 e0 ?_
    refine mr_A C sh R fl_X6_47_6 rfl (by decide) dX6_starts_188 ?_
    refine hp_bipush (v := 80) C dX6_starts_191 (by decide) ?_
    refine hp_iload C dX6_starts_193 e4 ?_
    refine hp_imul C dX6_starts_195 ?_
    refine hp_aload_nR C dX6_starts_196 e0 ?_
    refine mr_A C sh R fl_X6_65_6 rfl (by decide) dX6_starts_197 ?_
    refine hp_iload_n C dX6_starts_200 e2 ?_
    refine mr_at C sh R hl10 zt dX6_starts_201 ?_
    refine hp_iadd C dX6_starts_202 ?_
    refine mr_row C sh R hn8 hjl rfl dX6_starts_203 ?_
    rw [hcc]
    refine ms_way C sh R (show lv + 1 < 10 by omega) dX6_starts_204 (fun H_204 R_204 => ?_)
    refine hp_aload_nR C dX6_starts_205 e0 ?_
    refine mr_A C sh R_204 fl_X6_65_6 rfl (by decide) dX6_starts_206 ?_
    refine hp_iload_n C dX6_starts_209 e2 ?_
    refine hp_iconst (v := 1) C dX6_starts_210 (by decide) ?_
    refine hp_iadd C dX6_starts_211 ?_
    rw [nI_1]
    refine hp_iconst (v := 0) C dX6_starts_212 (by decide) ?_
    refine ms_at C sh R_204 (show lv + 1 < 10 by omega) dX6_starts_213 (fun H_213 R_213 => ?_)
    refine hp_aload_nR C dX6_starts_214 e0 ?_
    refine mr_A C sh R_213 fl_X6_65_6 rfl (by decide) dX6_starts_215 ?_
    refine hp_iload_n C dX6_starts_218 e2 ?_
    refine hp_dup2 C dX6_starts_219 rfl rfl ?_
    refine mr_at C sh R_213 hl10 ((va_up_ne _ _ (by omega)).trans zt) dX6_starts_220 ?_
    refine hp_iconst (v := 1) C dX6_starts_221 (by decide) ?_
    refine hp_iadd C dX6_starts_222 ?_
    rw [nI_1]
    refine ms_at C sh R_213 hl10 dX6_starts_223 (fun H_223 R_223 => ?_)
    refine hp_iload C dX6_starts_224 rfl ?_
    refine hp_if_eq (tgt := 263) C dX6_starts_226 (by decide) (fun _ => ?_) (fun z_9 => absurd z_9 (by decide))
    refine hp_iload_n C dX6_starts_263 e2 ?_
    refine hp_iload C dX6_starts_264 rfl ?_
    refine hp_if_eq (tgt := 273) C dX6_starts_266 (by decide) (fun _ => ?_) (fun z_9 => absurd z_9 (by decide))
    refine hp_iconst (v := 1) C dX6_starts_273 (by decide) ?_
    refine hp_iadd C dX6_starts_274 ?_
    refine hp_istore_n C dX6_starts_275 (by decide) ?_
    refine hp_goto (tgt := 18) C dX6_starts_276 (by decide) ?_
    refine hA c (lv + 1) _ _ a _ R_223 T W hc h9 (by omega) hvg (va_up_self _ _ _) ((va_up_ne _ _ (by omega)).trans (va_up_self _ _ _)) e0 ((va_up_self _ _ _).trans (by rw [nI_1])) rfl (fun lo1 H1 z1 R1 g1 g2 f0 f2 f3 => ?_)
    rw [nI_pred] at f2
    have w1 : z1.1 lv = nI n := (g1 lv (by omega)).1.trans ((va_up_ne _ _ (by omega)).trans zw)
    have t1 : z1.2.1 lv = nI (j + 1) := (g1 lv (by omega)).2.trans (va_up_self _ _ _)
    have X1 := X.kp kg
    have W1 := W.k kg (a_go_rtk f c a)
    have hrt1 := (a_go_rtk f c a).nil hrt
    have hk1 : a_nd (a_go f c a).2 0 n = 1 := X1.2.2.1
    by_cases g : (a_go f c a).1 = true
    · rw [if_pos g] at f3
      rw [a_sF_ok g] at hv hP
      refine hp_iload_n C dX6_starts_18 f2 ?_
      refine hp_if_lt (tgt := 279) C dX6_starts_19 (by decide) (fun z_9 => absurd z_9 (nI_pos (by omega))) (fun _ => ?_)
      refine hp_aload_nR C dX6_starts_22 f0 ?_
      refine mr_A C sh R1 fl_X6_62_6 rfl (by decide) dX6_starts_23 ?_
      refine hp_iload_n C dX6_starts_26 f2 ?_
      refine mr_way C sh R1 hl10 w1 dX6_starts_27 ?_
      refine hp_istore C dX6_starts_28 (by decide) ?_
      refine hp_iconst (v := 1) C dX6_starts_30 (by decide) ?_
      refine hp_istore C dX6_starts_31 (by decide) ?_
      refine hp_aload_nR C dX6_starts_33 f0 ?_
      refine mr_A C sh R1 fl_X6_7_6 rfl (by decide) dX6_starts_34 ?_
      refine hp_iload C dX6_starts_37 rfl ?_
      refine mr_kp C sh R1 hn8 dX6_starts_39 ?_
      refine hp_if_ne (tgt := 97) C dX6_starts_40 (by decide) (fun _ => ?_) (fun z_9 => absurd z_9 (show ¬ Int32.ofInt (a_nd (a_go f c a).2 0 n) = 0 by rw [hk1]; decide))
      refine hp_iload_n C dX6_starts_97 f3 ?_
      refine hp_if_ne (tgt := 114) C dX6_starts_98 (by decide) (fun _ => ?_) (fun z_9 => absurd z_9 (by decide))
      refine hp_aload_nR C dX6_starts_114 f0 ?_
      refine mr_A C sh R1 fl_X6_56_6 rfl (by decide) dX6_starts_115 ?_
      refine hp_iload C dX6_starts_118 rfl ?_
      refine hp_aload_nR C dX6_starts_120 f0 ?_
      refine mr_A C sh R1 fl_X6_65_6 rfl (by decide) dX6_starts_121 ?_
      refine hp_iload_n C dX6_starts_124 f2 ?_
      refine mr_at C sh R1 hl10 t1 dX6_starts_125 ?_
      refine hp_if_ne (tgt := 133) C dX6_starts_126 (by decide) (fun _ => ?_) (fun z_9 => absurd z_9 (nI_ne0 (by omega) (by omega)))
      refine hp_aload_nR C dX6_starts_133 f0 ?_
      refine mr_A C sh R1 fl_X6_56_6 rfl (by decide) dX6_starts_134 ?_
      refine hp_iload C dX6_starts_137 rfl ?_
      refine ms_cs C sh R1 hn8 dX6_starts_139 dX6_starts_140 (fun H_139 R_139 => ?_)
      exact ih (j + 1) lv _ _ _ z1 (by omega) R_139 W1 X1 hrt1 (by rw [kg.nd]; exact hlv) hv w1 t1 f0 f2 rfl (fun lo' H' z' R' g3 g4 => hP lo' H' z' R' (fun i hi => ⟨(g3 i hi).1.trans ((g1 i (by omega)).1.trans (va_up_ne _ _ (by omega))), (g3 i hi).2.trans ((g1 i (by omega)).2.trans ((va_up_ne _ _ (by omega)).trans (va_up_ne _ _ (by omega))))⟩) (g4.trans g2))
    · rw [if_neg g] at f3
      rw [a_sF_no g] at hv hP
      have hv2 : (a_ev (a_cR (a_ce false f) (a_rw a n).reverse (a_go f c a).2).2).length < 2 ^ 30 := Nat.lt_of_le_of_lt (a_kp.no (a_sn (a_cR (a_ce false f) (a_rw a n).reverse (a_go f c a).2).2 3 n 0) 2 n 0).ev hv
      have eR : a_rw (a_go f c a).2 n = a_rw a n := congrFun kg.rw' n
      refine hp_iload_n C dX6_starts_18 f2 ?_
      refine hp_if_lt (tgt := 279) C dX6_starts_19 (by decide) (fun z_9 => absurd z_9 (nI_pos (by omega))) (fun _ => ?_)
      refine hp_aload_nR C dX6_starts_22 f0 ?_
      refine mr_A C sh R1 fl_X6_62_6 rfl (by decide) dX6_starts_23 ?_
      refine hp_iload_n C dX6_starts_26 f2 ?_
      refine mr_way C sh R1 hl10 w1 dX6_starts_27 ?_
      refine hp_istore C dX6_starts_28 (by decide) ?_
      refine hp_iconst (v := 1) C dX6_starts_30 (by decide) ?_
      refine hp_istore C dX6_starts_31 (by decide) ?_
      refine hp_aload_nR C dX6_starts_33 f0 ?_
      refine mr_A C sh R1 fl_X6_7_6 rfl (by decide) dX6_starts_34 ?_
      refine hp_iload C dX6_starts_37 rfl ?_
      refine mr_kp C sh R1 hn8 dX6_starts_39 ?_
      refine hp_if_ne (tgt := 97) C dX6_starts_40 (by decide) (fun _ => ?_) (fun z_9 => absurd z_9 (show ¬ Int32.ofInt (a_nd (a_go f c a).2 0 n) = 0 by rw [hk1]; decide))
      refine hp_iload_n C dX6_starts_97 f3 ?_
      refine hp_if_ne (tgt := 114) C dX6_starts_98 (by decide) (fun z_9 => absurd z_9 (by decide)) (fun _ => ?_)
      refine hp_aload_nR C dX6_starts_101 f0 ?_
      refine hp_iload C dX6_starts_102 rfl ?_
      refine hp_iload_n C dX6_starts_104 f2 ?_
      refine hp_iconst (v := 1) C dX6_starts_105 (by decide) ?_
      refine hp_iadd C dX6_starts_106 ?_
      rw [nI_1]
      refine hp_iconst (v := 0) C dX6_starts_107 (by decide) ?_
      refine hp_callV (ci := 6) C ml_X6_85 im_X6_stopsBelow se_X6_stopsBelow rfl (by decide) (mc_stb (d := d - 1) (f := f) (n := n) (lv := lv + 1) sh R1 (by rw [eR]; exact X1) (by rw [kg.nd]; omega) (by rw [eR]; exact hv2) (by omega)) (by omega) dX6_starts_108 (R1.o sh) rfl rfl (by simp [Value.category]) (fun v_108 h_108 hp => ?_) (fun _ _ hf => hf.elim)
      rw [eR] at hp
      obtain ⟨rfl, z2, R_108, g3, g4⟩ := hp
      refine hp_goto (tgt := 224) C dX6_starts_111 (by decide) ?_
      refine hp_iload C dX6_starts_224 rfl ?_
      refine hp_if_eq (tgt := 263) C dX6_starts_226 (by decide) (fun z_9 => absurd z_9 (by decide)) (fun _ => ?_)
      refine hp_aload_nR C dX6_starts_229 f0 ?_
      refine mr_A C sh R_108 fl_X6_20_6 rfl (by decide) dX6_starts_230 ?_
      refine hp_iload C dX6_starts_233 rfl ?_
      refine hp_iload_n C dX6_starts_235 f3 ?_
      refine hp_iconst (v := 1) C dX6_starts_236 (by decide) ?_
      refine hp_icmp_ne (tgt := 244) C dX6_starts_237 (by decide) (fun _ => ?_) (fun z_9 => absurd z_9 (by decide))
      refine hp_iconst (v := 0) C dX6_starts_244 (by decide) ?_
      refine ms_st C sh R_108 hn8 0 (by omega) (fun z_7 => by cases z_7) (by decide) dX6_starts_245 (fun H_245 R_245 => ?_)
      refine hp_aload_nR C dX6_starts_246 f0 ?_
      refine hp_iload_n C dX6_starts_247 f3 ?_
      refine hp_iconst (v := 1) C dX6_starts_248 (by decide) ?_
      refine hp_icmp_ne (tgt := 256) C dX6_starts_249 (by decide) (fun _ => ?_) (fun z_9 => absurd z_9 (by decide))
      refine hp_iconst (v := 2) C dX6_starts_256 (by decide) ?_
      refine hp_iload C dX6_starts_257 rfl ?_
      refine hp_iconst (v := 0) C dX6_starts_259 (by decide) ?_
      refine hp_callV (ci := 6) C ml_X6_89 im_X6_note se_X6_note rfl (by decide) (mc_note (d := d - 1) (w := 2) (n := n) (r := 0) sh R_245 hv2) (by omega) dX6_starts_260 (R_245.o sh) rfl rfl (by simp [Value.category]) (fun v_260 h_260 hp => ?_) (fun _ _ hf => hf.elim)
      obtain ⟨rfl, R_260⟩ := hp
      refine hp_iload_n C dX6_starts_263 f2 ?_
      refine hp_iload C dX6_starts_264 rfl ?_
      refine hp_if_eq (tgt := 273) C dX6_starts_266 (by decide) (fun z_9 => absurd z_9 (by decide)) (fun _ => ?_)
      refine hp_iconst (v := (-1)) C dX6_starts_269 (by decide) ?_
      refine hp_goto (tgt := 274) C dX6_starts_270 (by decide) ?_
      refine hp_iadd C dX6_starts_274 ?_
      refine hp_istore_n C dX6_starts_275 (by decide) ?_
      refine hp_goto (tgt := 18) C dX6_starts_276 (by decide) ?_
      exact hP _ _ z2 R_260 (fun i hi => ⟨(g3 i (by omega)).1.trans ((g1 i (by omega)).1.trans (va_up_ne _ _ (by omega))), (g3 i (by omega)).2.trans ((g1 i (by omega)).2.trans ((va_up_ne _ _ (by omega)).trans (va_up_ne _ _ (by omega))))⟩) (g4.trans g2) f0 ((va_up_self _ _ _).trans (by rw [show (-1 : Int32) = Int32.ofInt (-1) by decide, k_dec])) f3
set_option maxHeartbeats 4000000 in
theorem mo_staA {M : hpM} {G : hpG} {d : Nat} {h0 h : hpT} {m : Nat} {Q : State → Prop} (sh : mo_sh G h m) (C : hp_F M G yX6_starts cX6_starts 6 d h0) (hd : 3 ≤ d) : ∀ (f : Nat), ∀ (n lv : Nat) (lo : Nat → Option Value) (H : hpT) (a : aS) (z : mrZ), MR h m H a z → a_T a → a_W a → n < a_mk a → (9 : Int) ≤ f + a_nd a 2 n → (lv : Int) ≤ a_nd a 2 n → (a_ev (a_go f n a).2).length < 2 ^ 30 → z.1 lv = nI n → z.2.1 lv = nI 0 → lo 0 = some (.ref m) → lo 2 = some (.int (nI lv)) → lo 3 = some (.int (-1)) → (∀ (lo' : Nat → Option Value) (H' : hpT) (z' : mrZ), MR h m H' (a_go f n a).2 z' → (∀ i, i < lv → z'.1 i = z.1 i ∧ z'.2.1 i = z.2.1 i) → z'.2.2 = z.2.2 → lo' 0 = some (.ref m) → lo' 2 = some (.int (nI lv - 1)) → lo' 3 = some (.int (if (a_go f n a).1 = true then 1 else 0)) → hp_V M G 6 Q H' 18 lo' []) → hp_V M G 6 Q H 18 lo [] := by
  intro f
  induction f with
  | zero =>
    intro n lv lo H a z R T W hn h9
    have := (T.r2 hn).2
    omega
  | succ f ih =>
    intro n lv lo H a z R T W hn h9 hlv hv zw zt e0 e2 e3 hP
    have hn8 : n < 80 := Nat.lt_of_lt_of_le hn T.1.2
    have r2 := T.r2 hn
    have hl10 : lv < 10 := by omega
    rcases T.kb hn with hk | hk
    · exact mo_staW sh C hd n lv lo H a z R T W hn hk hl10 (Nat.lt_of_le_of_lt (a_go_kp (f + 1) n a).ev hv) zw e0 e2 e3 hP
    · have eg : a_go (f + 1) n a = a_gf f n (a_rw a n) (a_sF (a_go f) ((a_rw a n).drop 0) (a_srt a n [])) := a_go_k hk
      rw [eg] at hv hP
      have k0 := a_kp.srt a n []
      have X0 : a_lv f n (a_rw a n) (a_srt a n []) := ⟨T, hn, hk, by show (8 : Int) ≤ f + a_nd a 2 n; omega, rfl⟩
      refine hp_iload_n C dX6_starts_18 e2 ?_
      refine hp_if_lt (tgt := 279) C dX6_starts_19 (by decide) (fun z_9 => absurd z_9 (nI_pos (by omega))) (fun _ => ?_)
      refine hp_aload_nR C dX6_starts_22 e0 ?_
      refine mr_A C sh R fl_X6_62_6 rfl (by decide) dX6_starts_23 ?_
      refine hp_iload_n C dX6_starts_26 e2 ?_
      refine mr_way C sh R hl10 zw dX6_starts_27 ?_
      refine hp_istore C dX6_starts_28 (by decide) ?_
      refine hp_iconst (v := 1) C dX6_starts_30 (by decide) ?_
      refine hp_istore C dX6_starts_31 (by decide) ?_
      refine hp_aload_nR C dX6_starts_33 e0 ?_
      refine mr_A C sh R fl_X6_7_6 rfl (by decide) dX6_starts_34 ?_
      refine hp_iload C dX6_starts_37 rfl ?_
      refine mr_kp C sh R hn8 dX6_starts_39 ?_
      refine hp_if_ne (tgt := 97) C dX6_starts_40 (by decide) (fun _ => ?_) (fun z_9 => absurd z_9 (show ¬ Int32.ofInt (a_nd a 0 n) = 0 by rw [hk]; decide))
      refine hp_iload_n C dX6_starts_97 e3 ?_
      refine hp_if_ne (tgt := 114) C dX6_starts_98 (by decide) (fun _ => ?_) (fun z_9 => absurd z_9 (by decide))
      refine hp_aload_nR C dX6_starts_114 e0 ?_
      refine mr_A C sh R fl_X6_56_6 rfl (by decide) dX6_starts_115 ?_
      refine hp_iload C dX6_starts_118 rfl ?_
      refine hp_aload_nR C dX6_starts_120 e0 ?_
      refine mr_A C sh R fl_X6_65_6 rfl (by decide) dX6_starts_121 ?_
      refine hp_iload_n C dX6_starts_124 e2 ?_
      refine mr_at C sh R hl10 zt dX6_starts_125 ?_
      refine hp_if_ne (tgt := 133) C dX6_starts_126 (by decide) (fun z_9 => absurd z_9 (fun z_8 => z_8 (show nI 0 = 0 by decide))) (fun _ => ?_)
      refine hp_iconst (v := 0) C dX6_starts_129 (by decide) ?_
      refine hp_goto (tgt := 140) C dX6_starts_130 (by decide) ?_
      refine ms_c0 C sh R hn8 dX6_starts_140 (fun H_140 R_140 => ?_)
      exact mo_staJ sh C hd (fun c lv lo H a z => ih c lv lo H a z) (a_rw a n).length 0 lv _ _ _ z (by omega) R_140 (W.k k0 (a_srt_rtk a n)) X0 (va_up_self _ _ _) hlv hv zw zt e0 e2 rfl hP
set_option maxRecDepth 20000 in
set_option maxHeartbeats 4000000 in
theorem mc_sta {l : Launch} {G : hpG} {h H : hpT} {m d : Nat} {a : aS} {z : mrZ} (sh : mo_sh G h m) (R : MR h m H a z) (T : a_T a) (W : a_W a) {n f : Nat} (hn : n < a_mk a) (h9 : (9 : Int) ≤ f + a_nd a 2 n) (hv : (a_ev (a_go f n a).2).length < 2 ^ 30) (hd : 3 ≤ d) : hp_C l G yX6_starts (.code yX6_starts cX6_starts 6 (some .boolean)) d [.ref m, .int (nI n)] (H) (fun v h' => v = some (.int (if (a_go f n a).1 = true then 1 else 0)) ∧ ∃ z', MR h m h' (a_go f n a).2 z' ∧ z'.2.2 = z.2.2) (fun _ _ => False) := by
  have hn8 : n < 80 := Nat.lt_of_lt_of_le hn T.1.2
  have r2 := T.r2 hn
  refine hp_ofV (by decide) (by simp [Value.category]) (Nat.le_of_ble_eq_true rfl) (fun M C hr hx el => ?_)
  refine hp_iconst (v := 0) C dX6_starts_0 (by decide) ?_
  refine hp_istore_n C dX6_starts_1 (by decide) ?_
  refine hp_aload_nR C dX6_starts_2 rfl ?_
  refine mr_A C sh R fl_X6_62_6 rfl (by decide) dX6_starts_3 ?_
  refine hp_iconst (v := 0) C dX6_starts_6 (by decide) ?_
  refine hp_iload_n C dX6_starts_7 rfl ?_
  refine ms_way C sh R (show 0 < 10 by decide) dX6_starts_8 (fun H_8 R_8 => ?_)
  refine hp_aload_nR C dX6_starts_9 rfl ?_
  refine mr_A C sh R_8 fl_X6_65_6 rfl (by decide) dX6_starts_10 ?_
  refine hp_iconst (v := 0) C dX6_starts_13 (by decide) ?_
  refine hp_iconst (v := 0) C dX6_starts_14 (by decide) ?_
  refine ms_at C sh R_8 (show 0 < 10 by decide) dX6_starts_15 (fun H_15 R_15 => ?_)
  refine hp_iconst (v := (-1)) C dX6_starts_16 (by decide) ?_
  refine hp_istore_n C dX6_starts_17 (by decide) ?_
  refine mo_staA sh C hd f n 0 _ _ a _ R_15 T W hn h9 (by omega) hv (show va_up z.1 0 (nI n) 0 = nI n from va_up_self _ _ _) (show va_up z.2.1 0 0 0 = nI 0 from (va_up_self _ _ _).trans nI_0.symm) rfl rfl rfl (fun lo' H' z' R' g1 g2 q0 q2 q3 => ?_)
  cases hg : (a_go f n a).1 with
  | true =>
    rw [hg] at q3
    refine hp_iload_n C dX6_starts_18 q2 ?_
    refine hp_if_lt (tgt := 279) C dX6_starts_19 (by decide) (fun _ => ?_) (fun z_9 => absurd (show (nI 0 - 1 : Int32) < 0 by decide) z_9)
    refine hp_iload_n C dX6_starts_279 q3 ?_
    refine hp_iconst (v := 1) C dX6_starts_280 (by decide) ?_
    refine hp_icmp_ne (tgt := 288) C dX6_starts_281 (by decide) (fun z_9 => absurd z_9 (by decide)) (fun _ => ?_)
    refine hp_iconst (v := 1) C dX6_starts_284 (by decide) ?_
    refine hp_goto (tgt := 289) C dX6_starts_285 (by decide) ?_
    refine hp_iret C hr (by decide) dX6_starts_289 ?_
    exact ⟨rfl, z', R', g2⟩
  | false =>
    rw [hg] at q3
    refine hp_iload_n C dX6_starts_18 q2 ?_
    refine hp_if_lt (tgt := 279) C dX6_starts_19 (by decide) (fun _ => ?_) (fun z_9 => absurd (show (nI 0 - 1 : Int32) < 0 by decide) z_9)
    refine hp_iload_n C dX6_starts_279 q3 ?_
    refine hp_iconst (v := 1) C dX6_starts_280 (by decide) ?_
    refine hp_icmp_ne (tgt := 288) C dX6_starts_281 (by decide) (fun _ => ?_) (fun z_9 => absurd z_9 (by decide))
    refine hp_iconst (v := 0) C dX6_starts_288 (by decide) ?_
    refine hp_iret C hr (by decide) dX6_starts_289 ?_
    exact ⟨rfl, z', R', g2⟩
