/-- a contract that says less -/
theorem hp_Cw {l : Launch} {G : hpG} {y : MethodName} {wd : Cond} {d : Nat} {av : List Value} {h : hpT} {P P' : Option Value → hpT → Prop} {X : String → hpT → Prop} (x : hp_C l G y wd d av h P X) (hP : ∀ v h', P v h' → P' v h') : hp_C l G y wd d av h P' X := fun hl => by
  intro p e ha hc hk s m args below hf happ hP0 hK
  obtain ⟨n, o, h1, h2, h3, h4⟩ := x hl p e ha hc hk s m args below hf happ hP0 hK
  refine ⟨n, o, h1, h2, h3, ?_⟩
  rcases h4 with ⟨⟨v, h', e1, e2, e3⟩, hf2⟩ | h4
  · exact Or.inl ⟨⟨v, h', e1, hP v h' e2, e3⟩, hf2⟩
  · exact Or.inr h4
/-! ===== THE REFERENCE IN GENERAL ===== -/
/-- the times that the reference keeps of keeper n: p -/
def rb_t (s : moS) (a : aS) (ex n : Nat) (p : List Nat) : Prop := s.2 17 n = nI p.length ∧ p.length ≤ 51 ∧ (a_nd a 3 n = 1 → n ≠ ex → p.length ≤ 50) ∧ (∀ i, i < p.length → s.2 16 (52 * n + i) = nI (p.getD i 0)) ∧ ∃ dr, a_rt a n = dr ++ p ∧ (a_nd a 3 n = 1 → ∀ x ∈ dr, (x : Int) < (a_tm a : Int) - a_nd a 7 n)
/-- the reference's state s is a -/
def rb_R (s : moS) (a : aS) (ex : Nat) : Prop :=
  (s.1 1 = nI (a_mk a) ∧ 1 ≤ a_mk a ∧ a_mk a ≤ 80) ∧ s.1 18 = nI (a_tm a) ∧ s.1 19 = nI (a_ev a).length ∧ s.1 21 = nI (a_rs a) ∧ s.1 22 = nI (a_gv a) ∧
  (∀ f n, f < 12 → n < 80 → s.2 (f + 2) n = Int32.ofInt (a_nd a f n) ∧ a_sm (a_nd a f n)) ∧
  (∀ n, n < 80 → s.2 15 n = nI (a_rw a n).length ∧ (a_rw a n).length ≤ 80 ∧ ∀ i, i < (a_rw a n).length → s.2 14 (80 * n + i) = nI ((a_rw a n).getD i 0) ∧ (a_rw a n).getD i 0 < 80) ∧
  (∀ i, i < 600 → ∀ q, (a_ev a)[i]? = some q → s.2 20 (4 * i) = nI q.1 ∧ s.2 20 (4 * i + 1) = nI q.2.1 ∧ s.2 20 (4 * i + 2) = nI q.2.2.1 ∧ s.2 20 (4 * i + 3) = nI q.2.2.2) ∧
  (∀ n, n < 80 → ∃ p, rb_t s a ex n p)
section RBR
variable {s : moS} {a : aS} {ex : Nat}
theorem rb_R.ok (x : rb_R s a ex) : mo_ok s := ⟨a_mk a, x.1⟩
theorem rb_R.nd (x : rb_R s a ex) {f n : Nat} (hf : f < 12) (hn : n < 80) : s.2 (f + 2) n = Int32.ofInt (a_nd a f n) := (x.2.2.2.2.2.1 f n hf hn).1
theorem rb_R.sm (x : rb_R s a ex) {f n : Nat} (hf : f < 12) (hn : n < 80) : a_sm (a_nd a f n) := (x.2.2.2.2.2.1 f n hf hn).2
theorem rb_R.sn (x : rb_R s a ex) {f n : Nat} {v : Int} (hf : f < 12) (h3 : f ≠ 3) (h7 : f ≠ 7) (hn : n < 80) (hv : a_sm v) : rb_R (mo_up s (f + 2) n (Int32.ofInt v)) (a_sn a f n v) ex := by
  obtain ⟨x1, x2, x3, x4, x5, x6, x7, x8, x9⟩ := x
  have ne : ∀ k, k ≠ f + 2 → (mo_up s (f + 2) n (Int32.ofInt v)).2 k = s.2 k := fun k hk => va_up_ne _ _ hk
  have nn : ∀ g, g ≠ f → a_nd (a_sn a f n v) g = a_nd a g := fun g hg => va_up_ne _ _ hg
  refine ⟨x1, x2, x3, x4, x5, fun g q hg hq => ?_, fun q hq => ?_, fun i hi q hq => ?_, fun q hq => ?_⟩
  · show va_up s.2 (f + 2) (va_up (s.2 (f + 2)) n (Int32.ofInt v)) (g + 2) q = Int32.ofInt (va_up (a_nd a) f (va_up (a_nd a f) n v) g q) ∧ a_sm (va_up (a_nd a) f (va_up (a_nd a f) n v) g q)
    by_cases e : g = f
    · subst e
      rw [va_up_self, va_up_self]
      by_cases e2 : q = n
      · subst e2
        rw [va_up_self, va_up_self]
        exact ⟨rfl, hv⟩
      · rw [va_up_ne _ _ e2, va_up_ne _ _ e2]
        exact x6 g q hg hq
    · rw [va_up_ne _ _ e, va_up_ne _ _ (show g + 2 ≠ f + 2 by omega)]
      exact x6 g q hg hq
  · rw [ne 15 (by omega), ne 14 (by omega)]
    exact x7 q hq
  · rw [ne 20 (by omega)]
    exact x8 i hi q hq
  · obtain ⟨p, y1, y2, y3, y4, y5⟩ := x9 q hq
    refine ⟨p, ?_⟩
    unfold rb_t
    rw [ne 17 (by omega), ne 16 (by omega), nn 3 (Ne.symm h3), nn 7 (Ne.symm h7)]
    exact ⟨y1, y2, y3, y4, y5⟩
/-- the state of a node is set -/
theorem rb_R.s3 (x : rb_R s a ex) {n : Nat} {v : Int} (hn : n < 80) (hv : a_sm v) (ht : v = 1 → a_rt a n = []) : rb_R (mo_up s 5 n (Int32.ofInt v)) (a_sn a 3 n v) ex := by
  obtain ⟨x1, x2, x3, x4, x5, x6, x7, x8, x9⟩ := x
  have ne : ∀ k, k ≠ 5 → (mo_up s 5 n (Int32.ofInt v)).2 k = s.2 k := fun k hk => va_up_ne _ _ hk
  have nn : ∀ g, g ≠ 3 → a_nd (a_sn a 3 n v) g = a_nd a g := fun g hg => va_up_ne _ _ hg
  refine ⟨x1, x2, x3, x4, x5, fun g q hg hq => ?_, fun q hq => ?_, fun i hi q hq => ?_, fun q hq => ?_⟩
  · show va_up s.2 5 (va_up (s.2 5) n (Int32.ofInt v)) (g + 2) q = Int32.ofInt (va_up (a_nd a) 3 (va_up (a_nd a 3) n v) g q) ∧ a_sm (va_up (a_nd a) 3 (va_up (a_nd a 3) n v) g q)
    by_cases e : g = 3
    · subst e
      rw [va_up_self, va_up_self]
      by_cases e2 : q = n
      · subst e2
        rw [va_up_self, va_up_self]
        exact ⟨rfl, hv⟩
      · rw [va_up_ne _ _ e2, va_up_ne _ _ e2]
        exact x6 3 q hg hq
    · rw [va_up_ne _ _ e, va_up_ne _ _ (show g + 2 ≠ 5 by omega)]
      exact x6 g q hg hq
  · rw [ne 15 (by omega), ne 14 (by omega)]
    exact x7 q hq
  · rw [ne 20 (by omega)]
    exact x8 i hi q hq
  · obtain ⟨p, y1, y2, y3, y4, dr, y5, y6⟩ := x9 q hq
    refine ⟨p, ?_⟩
    unfold rb_t
    rw [ne 17 (by omega), ne 16 (by omega), nn 7 (by omega)]
    have en : a_nd (a_sn a 3 n v) 3 q = if q = n then v else a_nd a 3 q := by
      show va_up (a_nd a) 3 (va_up (a_nd a 3) n v) 3 q = _
      rw [va_up_self]
      by_cases e2 : q = n
      · rw [e2, va_up_self, if_pos rfl]
      · rw [va_up_ne _ _ e2, if_neg e2]
    rw [en]
    by_cases e2 : q = n
    · subst e2
      rw [if_pos rfl]
      have hp0 : v = 1 → dr = [] ∧ p = [] := fun ev => by
        have h0 := ht ev
        rw [y5] at h0
        exact List.append_eq_nil_iff.mp h0
      exact ⟨y1, y2, fun ev _ => by rw [(hp0 ev).2]; exact Nat.zero_le _, y4, dr, y5, fun ev z hz => by rw [(hp0 ev).1] at hz; cases hz⟩
    · rw [if_neg e2]
      exact ⟨y1, y2, y3, y4, dr, y5, y6⟩
/-- TIME goes on -/
theorem rb_R.st (x : rb_R s a ex) {t : Nat} (ht : a_tm a ≤ t) : rb_R (mo_pt s 18 (nI t)) (a_st a t) ex := by
  obtain ⟨x1, x2, x3, x4, x5, x6, x7, x8, x9⟩ := x
  refine ⟨x1, (show va_up s.1 18 (nI t) 18 = nI t from va_up_self _ _ _), x3, x4, x5, x6, x7, x8, fun q hq => ?_⟩
  obtain ⟨p, y1, y2, y3, y4, dr, y5, y6⟩ := x9 q hq
  refine ⟨p, y1, y2, y3, y4, dr, y5, fun h z hz => ?_⟩
  have := y6 h z hz
  show (z : Int) < (t : Int) - a_nd a 7 q
  omega
theorem rb_R.gv (x : rb_R s a ex) (t : Nat) : rb_R (mo_pt s 22 (nI t)) (a_sgv a t) ex := by
  obtain ⟨x1, x2, x3, x4, x5, x6, x7, x8, x9⟩ := x
  exact ⟨x1, x2, x3, x4, (show va_up s.1 22 (nI t) 22 = nI t from va_up_self _ _ _), x6, x7, x8, x9⟩
/-- an event is told -/
theorem rb_R.no (x : rb_R s a ex) {w n r : Nat} (hl : (a_ev a).length < 2 ^ 30) : rb_R (mo_note s (nI w) (nI n) (nI r)) (a_no a w n r) ex := by
  obtain ⟨x1, x2, x3, x4, x5, x6, x7, x8, x9⟩ := x
  have e600 : (600 : Int32) = nI 600 := rfl
  have el : (a_ev (a_no a w n r)).length = (a_ev a).length + 1 := by
    show (a_ev a ++ [_]).length = _
    rw [List.length_append]
    rfl
  unfold mo_note
  rw [x3, e600]
  by_cases c : 600 ≤ (a_ev a).length
  · rw [if_pos (nI_le c (by omega))]
    refine ⟨x1, x2, ?_, x4, x5, x6, x7, fun i hi q hq => x8 i hi q ?_, x9⟩
    · show va_up s.1 19 (nI (a_ev a).length + 1) 19 = _
      rw [va_up_self, el, nI_1]
    · have hq' : (a_ev a ++ [(w, n, a_tm a, r)])[i]? = some q := hq
      rwa [List.getElem?_append_left (by omega)] at hq'
  · rw [if_neg (nI_ge (by omega) (by omega))]
    generalize hL : (a_ev a).length = L at *
    have e4 : (4 : Int32) = nI 4 := rfl
    have c0 : (4 * nI L).toNatClampNeg = 4 * L := by rw [e4, pk_mul, nI_clamp (by omega)]
    have c1 : (4 * nI L + 1).toNatClampNeg = 4 * L + 1 := by rw [e4, pk_mul, nI_1, nI_clamp (by omega)]
    have c2 : (4 * nI L + 2).toNatClampNeg = 4 * L + 2 := by rw [e4, pk_mul, show (2 : Int32) = nI 2 from rfl, nI_add, nI_clamp (by omega)]
    have c3 : (4 * nI L + 3).toNatClampNeg = 4 * L + 3 := by rw [e4, pk_mul, show (3 : Int32) = nI 3 from rfl, nI_add, nI_clamp (by omega)]
    rw [c0, c1, c2, c3]
    have ne : ∀ k, k ≠ 20 → (mo_pt (mo_up (mo_up (mo_up (mo_up s 20 (4 * L) (nI w)) 20 (4 * L + 1) (nI n)) 20 (4 * L + 2) (s.1 18)) 20 (4 * L + 3) (nI r)) 19 (nI L + 1)).2 k = s.2 k := fun k hk => by
      show va_up (va_up (va_up (va_up s.2 20 _) 20 _) 20 _) 20 _ k = _
      rw [va_up_ne _ _ hk, va_up_ne _ _ hk, va_up_ne _ _ hk, va_up_ne _ _ hk]
    have at20 : ∀ i, (mo_pt (mo_up (mo_up (mo_up (mo_up s 20 (4 * L) (nI w)) 20 (4 * L + 1) (nI n)) 20 (4 * L + 2) (s.1 18)) 20 (4 * L + 3) (nI r)) 19 (nI L + 1)).2 20 i = if i = 4 * L + 3 then nI r else if i = 4 * L + 2 then s.1 18 else if i = 4 * L + 1 then nI n else if i = 4 * L then nI w else s.2 20 i := fun i => by
      simp only [mo_pt, mo_up, va_up]
      rfl
    refine ⟨x1, x2, ?_, x4, x5, fun f q hf hq => ?_, fun q hq => ?_, fun i hi q hq => ?_, fun q hq => ?_⟩
    · show va_up s.1 19 (nI L + 1) 19 = _
      rw [va_up_self, el, nI_1]
    · rw [ne _ (by omega)]
      exact x6 f q hf hq
    · rw [ne _ (by omega), ne _ (by omega)]
      exact x7 q hq
    · have hq' : (a_ev a ++ [(w, n, a_tm a, r)])[i]? = some q := hq
      rw [at20, at20, at20, at20]
      by_cases ci : i < L
      · rw [List.getElem?_append_left (by omega)] at hq'
        have z := x8 i hi q hq'
        refine ⟨?_, ?_, ?_, ?_⟩
        · rw [if_neg (by omega), if_neg (by omega), if_neg (by omega), if_neg (by omega)]; exact z.1
        · rw [if_neg (by omega), if_neg (by omega), if_neg (by omega), if_neg (by omega)]; exact z.2.1
        · rw [if_neg (by omega), if_neg (by omega), if_neg (by omega), if_neg (by omega)]; exact z.2.2.1
        · rw [if_neg (by omega), if_neg (by omega), if_neg (by omega), if_neg (by omega)]; exact z.2.2.2
      · have hle : i < (a_ev a ++ [(w, n, a_tm a, r)]).length := (List.getElem?_eq_some_iff.mp hq').1
        rw [List.length_append, hL] at hle
        have ei : i = L := by simp at hle; omega
        subst ei
        rw [List.getElem?_append_right (by omega), hL, Nat.sub_self] at hq'
        cases hq'
        refine ⟨?_, ?_, ?_, ?_⟩
        · rw [if_neg (by omega), if_neg (by omega), if_neg (by omega), if_pos rfl]
        · rw [if_neg (by omega), if_neg (by omega), if_pos rfl]
        · rw [if_neg (by omega), if_pos rfl]; exact x2
        · rw [if_pos rfl]
    · obtain ⟨p, y⟩ := x9 q hq
      refine ⟨p, ?_⟩
      unfold rb_t
      rw [ne _ (by omega), ne _ (by omega)]
      exact y
/-- way and at are the loops' own -/
theorem rb_R.own (x : rb_R s a ex) {k i : Nat} {v : Int32} (hk : k = 23 ∨ k = 24) : rb_R (mo_up s k i v) a ex := by
  obtain ⟨x1, x2, x3, x4, x5, x6, x7, x8, x9⟩ := x
  have ne : ∀ j, j < 21 → (mo_up s k i v).2 j = s.2 j := fun j hj => va_up_ne _ _ (by omega)
  refine ⟨x1, x2, x3, x4, x5, fun f q hf hq => ?_, fun q hq => ?_, fun j hj q hq => ?_, fun q hq => ?_⟩
  · rw [ne _ (by omega)]; exact x6 f q hf hq
  · rw [ne _ (by omega), ne _ (by omega)]; exact x7 q hq
  · rw [ne _ (by omega)]; exact x8 j hj q hq
  · obtain ⟨p, y⟩ := x9 q hq
    refine ⟨p, ?_⟩
    unfold rb_t
    rw [ne _ (by omega), ne _ (by omega)]
    exact y
/-- keeper n's times are forgotten -/
theorem rb_R.c0 (x : rb_R s a ex) {n : Nat} : rb_R (mo_up s 17 n 0) (a_srt a n []) ex := by
  obtain ⟨x1, x2, x3, x4, x5, x6, x7, x8, x9⟩ := x
  have ne : ∀ k, k ≠ 17 → (mo_up s 17 n 0).2 k = s.2 k := fun k hk => va_up_ne _ _ hk
  refine ⟨x1, x2, x3, x4, x5, fun f q hf hq => ?_, fun q hq => ?_, fun j hj q hq => ?_, fun q hq => ?_⟩
  · rw [ne _ (by omega)]; exact x6 f q hf hq
  · rw [ne _ (by omega), ne _ (by omega)]; exact x7 q hq
  · rw [ne _ (by omega)]; exact x8 j hj q hq
  · obtain ⟨p, y1, y2, y3, y4, dr, y5, y6⟩ := x9 q hq
    by_cases e : q = n
    · subst e
      refine ⟨[], ?_, by decide, fun _ _ => by decide, fun i hi => absurd hi (Nat.not_lt_zero _), [], ?_, fun _ z hz => by cases hz⟩
      · show va_up s.2 17 (va_up (s.2 17) q 0) 17 q = _
        rw [va_up_self, va_up_self]
        rfl
      · show va_up (a_rt a) q [] q = _
        rw [va_up_self]
        rfl
    · refine ⟨p, ?_, y2, y3, ?_, dr, ?_, y6⟩
      · show va_up s.2 17 (va_up (s.2 17) n 0) 17 q = _
        rw [va_up_self, va_up_ne _ _ e]
        exact y1
      · rw [ne _ (by omega)]; exact y4
      · show va_up (a_rt a) n [] q = _
        rw [va_up_ne _ _ e]
        exact y5
end RBR
/-- the loops' own: way, at; the code of the last refusal; the keeper that is about to give up -/
abbrev mrZ : Type := (Nat → Int32) × (Nat → Int32) × Int32 × Nat
/-- the heap H is h with the reference at m in state a -/
def MR (h : hpT) (m : Nat) (H : hpT) (a : aS) (z : mrZ) : Prop := ∃ s, H = mo_w h m s ∧ rb_R s a z.2.2.2 ∧ s.2 23 = z.1 ∧ s.2 24 = z.2.1 ∧ s.1 0 = z.2.2.1
theorem k_row {p i : Nat} (hp : p < 80) (hi : i < 80) : vp_in (80 * nI p + nI i) 6400 ∧ (80 * nI p + nI i).toNatClampNeg = 80 * p + i := mo_row_in hp hi
section MRR
variable {M : hpM} {G : hpG} {y : MethodName} {cc : ByteArray} {nL d : Nat} {h0 h H : hpT} {Q : State → Prop} {pc : Nat} {lo : Nat → Option Value} {st : List Value} {m : Nat} {a : aS} {z : mrZ} {n idx : Nat}
theorem MR.o (R : MR h m H a z) (x : mo_sh G h m) : hp_is G H m 6 := by
  obtain ⟨s, rfl, -⟩ := R
  exact x.o
theorem mr_A (C : hp_F M G y cc nL d h0) (x : mo_sh G h m) (R : MR h m H a z) {k : Nat} (fl : hp_FL y.cls idx 6 k) (hk : mo_isA k = true) (h25 : k < 25) (dd : decode cc pc = .ok (.getfield idx, 3)) (kk : hp_V M G nL Q H (pc + 3) lo (.ref (mo_arr m k) :: st)) : hp_V M G nL Q H pc lo (.ref m :: st) := by
  obtain ⟨s, rfl, -⟩ := R
  exact mo_getA C x fl hk h25 dd kk
theorem mr_S (C : hp_F M G y cc nL d h0) (x : mo_sh G h m) (R : MR h m H a z) {k : Nat} (fl : hp_FL y.cls idx 6 k) {v : Int32} (hk : (k = 0 ∧ v = z.2.2.1) ∨ (k = 1 ∧ v = nI (a_mk a)) ∨ (k = 18 ∧ v = nI (a_tm a)) ∨ (k = 19 ∧ v = nI (a_ev a).length) ∨ (k = 21 ∧ v = nI (a_rs a)) ∨ (k = 22 ∧ v = nI (a_gv a))) (dd : decode cc pc = .ok (.getfield idx, 3)) (kk : hp_V M G nL Q H (pc + 3) lo (.int v :: st)) : hp_V M G nL Q H pc lo (.ref m :: st) := by
  obtain ⟨s, rfl, r, -, -, r0⟩ := R
  rcases hk with ⟨rfl, rfl⟩ | ⟨rfl, rfl⟩ | ⟨rfl, rfl⟩ | ⟨rfl, rfl⟩ | ⟨rfl, rfl⟩ | ⟨rfl, rfl⟩
  · exact mo_getS C x fl rfl (by decide) r0 dd kk
  · exact mo_getS C x fl rfl (by decide) r.1.1 dd kk
  · exact mo_getS C x fl rfl (by decide) r.2.1 dd kk
  · exact mo_getS C x fl rfl (by decide) r.2.2.1 dd kk
  · exact mo_getS C x fl rfl (by decide) r.2.2.2.1 dd kk
  · exact mo_getS C x fl rfl (by decide) r.2.2.2.2.1 dd kk
theorem mr_nd (C : hp_F M G y cc nL d h0) (x : mo_sh G h m) (R : MR h m H a z) (k f : Nat) (hf : f < 12) (hf0 : f ≠ 0) (e : k = f + 2) (hn : n < 80) (dd : decode cc pc = .ok (.iaload, 1)) (kk : hp_V M G nL Q H (pc + 1) lo (.int (Int32.ofInt (a_nd a f n)) :: st)) : hp_V M G nL Q H pc lo (.int (nI n) :: .ref (mo_arr m k) :: st) := by
  subst e
  obtain ⟨s, rfl, r, -⟩ := R
  have hA : mo_isA (f + 2) = true := by
    unfold mo_isA
    simp only [Bool.or_eq_true, Bool.and_eq_true, decide_eq_true_eq, beq_iff_eq]
    omega
  have hL : mo_len (f + 2) = 80 := by
    unfold mo_len
    rw [if_neg (by omega), if_neg (by omega), if_neg (by omega), if_neg (by omega), if_neg (by omega)]
  refine mo_ald C x hA (by omega) rfl dd (by rw [hL]; exact nI_in hn (by omega)) ?_
  rw [nI_clamp (by omega), r.nd hf hn]
  exact kk
theorem mr_kp (C : hp_F M G y cc nL d h0) (x : mo_sh G h m) (R : MR h m H a z) (hn : n < 80) (dd : decode cc pc = .ok (.baload, 1)) (kk : hp_V M G nL Q H (pc + 1) lo (.int (Int32.ofInt (a_nd a 0 n)) :: st)) : hp_V M G nL Q H pc lo (.int (nI n) :: .ref (mo_arr m 2) :: st) := by
  obtain ⟨s, rfl, r, -⟩ := R
  refine mo_zld C x rfl dd (nI_in hn (by decide)) ?_
  have := r.nd (f := 0) (by omega) hn
  rw [nI_clamp (by omega), this]
  exact kk
theorem mr_many (C : hp_F M G y cc nL d h0) (x : mo_sh G h m) (R : MR h m H a z) (hn : n < 80) (dd : decode cc pc = .ok (.iaload, 1)) (kk : hp_V M G nL Q H (pc + 1) lo (.int (nI (a_rw a n).length) :: st)) : hp_V M G nL Q H pc lo (.int (nI n) :: .ref (mo_arr m 15) :: st) := by
  obtain ⟨s, rfl, r, -⟩ := R
  refine mo_ald C x rfl (by decide) rfl dd (nI_in hn (by decide)) ?_
  rw [nI_clamp (by omega), (r.2.2.2.2.2.2.1 n hn).1]
  exact kk
theorem mr_row (C : hp_F M G y cc nL d h0) (x : mo_sh G h m) (R : MR h m H a z) (hn : n < 80) {i : Nat} (hi : i < (a_rw a n).length) {v : Int32} (ev : v = 80 * nI n + nI i) (dd : decode cc pc = .ok (.iaload, 1)) (kk : hp_V M G nL Q H (pc + 1) lo (.int (nI ((a_rw a n).getD i 0)) :: st)) : hp_V M G nL Q H pc lo (.int v :: .ref (mo_arr m 14) :: st) := by
  subst ev
  obtain ⟨s, rfl, r, -⟩ := R
  obtain ⟨r1, r2, r3⟩ := r.2.2.2.2.2.2.1 n hn
  obtain ⟨q1, q2⟩ := k_row hn (show i < 80 by omega)
  refine mo_ald C x rfl (by decide) rfl dd q1 ?_
  rw [q2, (r3 i hi).1]
  exact kk
theorem mr_way (C : hp_F M G y cc nL d h0) (x : mo_sh G h m) (R : MR h m H a z) {l : Nat} (hl : l < 10) {v : Int32} (ev : z.1 l = v) (dd : decode cc pc = .ok (.iaload, 1)) (kk : hp_V M G nL Q H (pc + 1) lo (.int v :: st)) : hp_V M G nL Q H pc lo (.int (nI l) :: .ref (mo_arr m 23) :: st) := by
  obtain ⟨s, rfl, r, r1, r2, r3⟩ := R
  refine mo_ald C x rfl (by decide) r1 dd (nI_in hl (by decide)) ?_
  rw [nI_clamp (by omega), ev]
  exact kk
theorem mr_at (C : hp_F M G y cc nL d h0) (x : mo_sh G h m) (R : MR h m H a z) {l : Nat} (hl : l < 10) {v : Int32} (ev : z.2.1 l = v) (dd : decode cc pc = .ok (.iaload, 1)) (kk : hp_V M G nL Q H (pc + 1) lo (.int v :: st)) : hp_V M G nL Q H pc lo (.int (nI l) :: .ref (mo_arr m 24) :: st) := by
  obtain ⟨s, rfl, r, r1, r2, r3⟩ := R
  refine mo_ald C x rfl (by decide) r2 dd (nI_in hl (by decide)) ?_
  rw [nI_clamp (by omega), ev]
  exact kk
theorem ms_way (C : hp_F M G y cc nL d h0) (x : mo_sh G h m) (R : MR h m H a z) {l : Nat} (hl : l < 10) {v : Int32} (dd : decode cc pc = .ok (.iastore, 1)) (kk : ∀ H', MR h m H' a (va_up z.1 l v, z.2) → hp_V M G nL Q H' (pc + 1) lo st) : hp_V M G nL Q H pc lo (.int v :: .int (nI l) :: .ref (mo_arr m 23) :: st) := by
  obtain ⟨s, rfl, r, r1, r2, r3⟩ := R
  refine mo_ast C x rfl (by decide) dd (nI_in hl (by decide)) ?_
  rw [nI_clamp (by omega)]
  refine kk _ ⟨_, rfl, r.own (Or.inl rfl), ?_, (show va_up s.2 23 (va_up (s.2 23) l v) 24 = z.2.1 from (va_up_ne _ _ (by decide)).trans r2), r3⟩
  show va_up s.2 23 (va_up (s.2 23) l v) 23 = va_up z.1 l v
  rw [va_up_self, r1]
theorem ms_at (C : hp_F M G y cc nL d h0) (x : mo_sh G h m) (R : MR h m H a z) {l : Nat} (hl : l < 10) {v : Int32} (dd : decode cc pc = .ok (.iastore, 1)) (kk : ∀ H', MR h m H' a (z.1, va_up z.2.1 l v, z.2.2) → hp_V M G nL Q H' (pc + 1) lo st) : hp_V M G nL Q H pc lo (.int v :: .int (nI l) :: .ref (mo_arr m 24) :: st) := by
  obtain ⟨s, rfl, r, r1, r2, r3⟩ := R
  refine mo_ast C x rfl (by decide) dd (nI_in hl (by decide)) ?_
  rw [nI_clamp (by omega)]
  refine kk _ ⟨_, rfl, r.own (Or.inr rfl), (show va_up s.2 24 (va_up (s.2 24) l v) 23 = z.1 from (va_up_ne _ _ (by decide)).trans r1), ?_, r3⟩
  show va_up s.2 24 (va_up (s.2 24) l v) 24 = va_up z.2.1 l v
  rw [va_up_self, r2]
theorem ms_sn (C : hp_F M G y cc nL d h0) (x : mo_sh G h m) (R : MR h m H a z) (k f : Nat) (hf : f < 12) (hf0 : f ≠ 0) (hf3 : f ≠ 3) (hf7 : f ≠ 7) (e : k = f + 2) (hn : n < 80) {v : Int32} (q : Int) (hq : a_sm q) (ev : v = Int32.ofInt q) (dd : decode cc pc = .ok (.iastore, 1)) (kk : ∀ H', MR h m H' (a_sn a f n q) z → hp_V M G nL Q H' (pc + 1) lo st) : hp_V M G nL Q H pc lo (.int v :: .int (nI n) :: .ref (mo_arr m k) :: st) := by
  subst e ev
  obtain ⟨s, rfl, r, r1, r2, r3⟩ := R
  have hA : mo_isA (f + 2) = true := by
    unfold mo_isA
    simp only [Bool.or_eq_true, Bool.and_eq_true, decide_eq_true_eq, beq_iff_eq]
    omega
  have hL : mo_len (f + 2) = 80 := by
    unfold mo_len
    rw [if_neg (by omega), if_neg (by omega), if_neg (by omega), if_neg (by omega), if_neg (by omega)]
  refine mo_ast C x hA (by omega) dd (by rw [hL]; exact nI_in hn (by omega)) ?_
  rw [nI_clamp (by omega)]
  exact kk _ ⟨_, rfl, r.sn hf hf3 hf7 hn hq, (va_up_ne _ _ (by omega)).trans r1, (va_up_ne _ _ (by omega)).trans r2, r3⟩
theorem ms_st (C : hp_F M G y cc nL d h0) (x : mo_sh G h m) (R : MR h m H a z) (hn : n < 80) {v : Int32} (q : Int) (hq : a_sm q) (ht : q = 1 → a_rt a n = []) (ev : v = Int32.ofInt q) (dd : decode cc pc = .ok (.iastore, 1)) (kk : ∀ H', MR h m H' (a_sn a 3 n q) z → hp_V M G nL Q H' (pc + 1) lo st) : hp_V M G nL Q H pc lo (.int v :: .int (nI n) :: .ref (mo_arr m 5) :: st) := by
  subst ev
  obtain ⟨s, rfl, r, r1, r2, r3⟩ := R
  refine mo_ast C x rfl (by decide) dd (nI_in hn (by decide)) ?_
  rw [nI_clamp (by omega)]
  exact kk _ ⟨_, rfl, r.s3 hn hq ht, (show va_up s.2 5 (va_up (s.2 5) n (Int32.ofInt q)) 23 = z.1 from (va_up_ne _ _ (by decide)).trans r1), (show va_up s.2 5 (va_up (s.2 5) n (Int32.ofInt q)) 24 = z.2.1 from (va_up_ne _ _ (by decide)).trans r2), r3⟩
theorem ms_tm (C : hp_F M G y cc nL d h0) (x : mo_sh G h m) (R : MR h m H a z) (fl : hp_FL y.cls idx 6 18) {v : Int32} (t : Nat) (ht : a_tm a ≤ t) (ev : v = nI t) (dd : decode cc pc = .ok (.putfield idx, 3)) (kk : ∀ H', MR h m H' (a_st a t) z → hp_V M G nL Q H' (pc + 3) lo st) : hp_V M G nL Q H pc lo (.int v :: .ref m :: st) := by
  subst ev
  obtain ⟨s, rfl, r, r1, r2, r3⟩ := R
  exact mo_putS C x fl rfl (by decide) rfl rfl rfl dd (kk _ ⟨_, rfl, r.st ht, r1, r2, r3⟩)
theorem ms_gv (C : hp_F M G y cc nL d h0) (x : mo_sh G h m) (R : MR h m H a z) (fl : hp_FL y.cls idx 6 22) {v : Int32} (t : Nat) (ev : v = nI t) (dd : decode cc pc = .ok (.putfield idx, 3)) (kk : ∀ H', MR h m H' (a_sgv a t) z → hp_V M G nL Q H' (pc + 3) lo st) : hp_V M G nL Q H pc lo (.int v :: .ref m :: st) := by
  subst ev
  obtain ⟨s, rfl, r, r1, r2, r3⟩ := R
  exact mo_putS C x fl rfl (by decide) rfl rfl rfl dd (kk _ ⟨_, rfl, r.gv t, r1, r2, r3⟩)
theorem ms_c0 (C : hp_F M G y cc nL d h0) (x : mo_sh G h m) (R : MR h m H a z) (hn : n < 80) (dd : decode cc pc = .ok (.iastore, 1)) (kk : ∀ H', MR h m H' (a_srt a n []) z → hp_V M G nL Q H' (pc + 1) lo st) : hp_V M G nL Q H pc lo (.int 0 :: .int (nI n) :: .ref (mo_arr m 17) :: st) := by
  obtain ⟨s, rfl, r, r1, r2, r3⟩ := R
  refine mo_ast C x rfl (by decide) dd (nI_in hn (by decide)) ?_
  rw [nI_clamp (by omega)]
  exact kk _ ⟨_, rfl, r.c0, (show va_up s.2 17 (va_up (s.2 17) n 0) 23 = z.1 from (va_up_ne _ _ (by decide)).trans r1), (show va_up s.2 17 (va_up (s.2 17) n 0) 24 = z.2.1 from (va_up_ne _ _ (by decide)).trans r2), r3⟩
end MRR
theorem mc_note {l : Launch} {G : hpG} {h H : hpT} {m d : Nat} {a : aS} {z : mrZ} (x : mo_sh G h m) (R : MR h m H a z) {w n r : Nat} (hl : (a_ev a).length < 2 ^ 30) : hp_C l G yX6_note (.code yX6_note cX6_note 4 none) d [.ref m, .int (nI w), .int (nI n), .int (nI r)] H (fun v h' => v = none ∧ MR h m h' (a_no a w n r) z) (fun _ _ => False) := by
  obtain ⟨s, rfl, q, r1, r2, r3⟩ := R
  have ev : mo_evk s := by
    unfold mo_evk
    rw [q.2.2.1, nI_toInt (by omega)]
    omega
  have c := mo_noteC (l := l) (d := d) (a := nI w) (b := nI n) (c := nI r) x ev
  exact hp_Cw c (fun v h' hv => ⟨hv.1, _, hv.2, q.no hl, by rw [mo_note_ne (by decide)]; exact r1, by rw [mo_note_ne (by decide)]; exact r2, by rw [mo_note_1 (by decide)]; exact r3⟩)
