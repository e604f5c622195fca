/-! ===== goes: a row closes up, all below are gone ===== -/
/-- keeper p's row holds f -/
def mo_rb (s : moS) (p : Nat) (f : Nat → Int32) : moS := (s.1, va_up s.2 14 (fun q => if 80 * p ≤ q ∧ q < 80 * p + 80 then f (q - 80 * p) else s.2 14 q))
theorem mo_rb_14 {s : moS} {p q : Nat} {f : Nat → Int32} : (mo_rb s p f).2 14 q = if 80 * p ≤ q ∧ q < 80 * p + 80 then f (q - 80 * p) else s.2 14 q := by
  show (va_up s.2 14 (fun q => if 80 * p ≤ q ∧ q < 80 * p + 80 then f (q - 80 * p) else s.2 14 q)) 14 q = _
  rw [va_up_self]
theorem mo_rb_at {s : moS} {p j : Nat} {f : Nat → Int32} (hj : j < 80) : (mo_rb s p f).2 14 (80 * p + j) = f j := by
  rw [mo_rb_14, if_pos ⟨by omega, by omega⟩, Nat.add_sub_cancel_left]
theorem mo_rb_ne {s : moS} {p k : Nat} {f : Nat → Int32} (hk : k ≠ 14) : (mo_rb s p f).2 k = s.2 k := va_up_ne _ _ hk
theorem mo_rb_up {s : moS} {p j : Nat} {f : Nat → Int32} {v : Int32} (hj : j < 80) : mo_up (mo_rb s p f) 14 (80 * p + j) v = mo_rb s p (va_up f j v) := by
  refine Prod.ext rfl (funext fun k => ?_)
  by_cases hk : k = 14
  · subst hk
    funext q
    rw [mo_rb_14]
    show va_up (mo_rb s p f).2 14 (va_up ((mo_rb s p f).2 14) (80 * p + j) v) 14 q = _
    rw [va_up_self]
    by_cases e : q = 80 * p + j
    · rw [e, va_up_self, if_pos ⟨by omega, by omega⟩, Nat.add_sub_cancel_left, va_up_self]
    · rw [va_up_ne _ _ e, mo_rb_14]
      by_cases c : 80 * p ≤ q ∧ q < 80 * p + 80
      · rw [if_pos c, if_pos c, va_up_ne _ _ (by omega)]
      · rw [if_neg c, if_neg c]
  · rw [mo_rb_ne hk]
    show va_up (mo_rb s p f).2 14 _ k = _
    rw [va_up_ne _ _ hk, mo_rb_ne hk]
theorem mo_rb_self (s : moS) (p : Nat) : mo_rb s p (fun j => s.2 14 (80 * p + j)) = s := by
  refine Prod.ext rfl (funext fun k => ?_)
  by_cases hk : k = 14
  · subst hk
    funext q
    rw [mo_rb_14]
    by_cases c : 80 * p ≤ q ∧ q < 80 * p + 80
    · rw [if_pos c, show 80 * p + (q - 80 * p) = q by omega]
    · rw [if_neg c]
  · exact mo_rb_ne hk
theorem mo_ltI {a b : Nat} (ha : a < 1000000) (hb : b < 1000000) : nI a < nI b ↔ a < b := by
  rw [Int32.lt_iff_toInt_lt, nI_toInt (n := a) (by omega), nI_toInt (n := b) (by omega)]
  omega
theorem mo_leI {a b : Nat} (ha : a < 1000000) (hb : b < 1000000) : nI a ≤ nI b ↔ a ≤ b := by
  rw [Int32.le_iff_toInt_le, nI_toInt (n := a) (by omega), nI_toInt (n := b) (by omega)]
  omega
/-- the row closes up from place t on, as far as place i -/
def mo_shf (g : Nat → Int32) (t i : Nat) : Nat → Int32 := fun j => if t ≤ j ∧ j < i then g (j + 1) else g j
theorem mo_shf_up {g : Nat → Int32} {t i : Nat} (h : t ≤ i) : va_up (mo_shf g t i) i (g (i + 1)) = mo_shf g t (i + 1) := by
  funext j
  by_cases e : j = i
  · subst e
    rw [va_up_self]
    unfold mo_shf
    rw [if_pos ⟨h, by omega⟩]
  · rw [va_up_ne _ _ e]
    unfold mo_shf
    by_cases c : t ≤ j ∧ j < i
    · rw [if_pos c, if_pos ⟨c.1, by omega⟩]
    · rw [if_neg c, if_neg (by omega)]
set_option maxRecDepth 20000 in
set_option maxHeartbeats 4000000 in
theorem mo_goeL {M : hpM} {G : hpG} {d : Nat} {h0 h : hpT} {m : Nat} {s : moS} {Q : State → Prop} (sh : mo_sh G h m) (C : hp_F M G yX6_goes cX6_goes 5 d h0) {n : Int32} {p c t : Nat} (hp : p < 80) (hc : c ≤ 80) (hcn : s.2 15 p = nI c) {g : Nat → Int32} (ht : t < c)
    (kk : ∀ (lo : Nat → Option Value), lo 0 = some (.ref m) → lo 1 = some (.int n) → lo 2 = some (.int (nI p)) → hp_V M G 5 Q (mo_w h m (mo_rb s p (mo_shf g t (c - 1)))) 55 lo []) :
    ∀ (r : Nat) (lo : Nat → Option Value) (i : Nat), i + 1 + r = c → t ≤ i → lo 0 = some (.ref m) → lo 1 = some (.int n) → lo 2 = some (.int (nI p)) → lo 3 = some (.int (nI i)) → hp_V M G 5 Q (mo_w h m (mo_rb s p (mo_shf g t i))) 13 lo [] := by
  obtain ⟨p1, p2⟩ := nI_80 hp
  intro r
  induction r with
  | zero =>
    intro lo i hi hti e0 e1 e2 e3
    refine hp_iload_n C dX6_goes_13 e3 ?_
    refine hp_iconst (v := 1) C dX6_goes_14 (by decide) ?_
    refine hp_iadd C dX6_goes_15 ?_
    refine hp_aload_nR C dX6_goes_16 e0 ?_
    refine mo_getA C sh fl_X6_50_6 rfl (by decide) dX6_goes_17 ?_
    refine hp_iload_n C dX6_goes_20 e2 ?_
    refine mo_aldv (v := nI c) C sh rfl (by decide) (by rw [p2, mo_rb_ne (by decide)]; exact hcn) dX6_goes_21 (by exact p1) ?_
    have es : nI i + 1 = nI (i + 1) := mo_succ (by omega)
    rw [es]
    refine hp_icmp_ge (tgt := 55) C dX6_goes_22 (by decide) (fun _ => ?_) (fun z_9 => absurd ((mo_leI (by omega) (by omega)).mpr (by omega)) z_9)
    have := kk lo e0 e1 e2
    rw [show c - 1 = i by omega] at this
    exact this
  | succ r ih =>
    intro lo i hi hti e0 e1 e2 e3
    obtain ⟨t1, t2⟩ := mo_row_in hp (show i < 80 by omega)
    obtain ⟨u1, u2⟩ := mo_row_in hp (show i + 1 < 80 by omega)
    have es : nI i + 1 = nI (i + 1) := mo_succ (by omega)
    refine hp_iload_n C dX6_goes_13 e3 ?_
    refine hp_iconst (v := 1) C dX6_goes_14 (by decide) ?_
    refine hp_iadd C dX6_goes_15 ?_
    refine hp_aload_nR C dX6_goes_16 e0 ?_
    refine mo_getA C sh fl_X6_50_6 rfl (by decide) dX6_goes_17 ?_
    refine hp_iload_n C dX6_goes_20 e2 ?_
    refine mo_aldv (v := nI c) C sh rfl (by decide) (by rw [p2, mo_rb_ne (by decide)]; exact hcn) dX6_goes_21 (by exact p1) ?_
    rw [es]
    refine hp_icmp_ge (tgt := 55) C dX6_goes_22 (by decide) (fun z_9 => absurd ((mo_leI (by omega) (by omega)).mp z_9) (by omega)) (fun _ => ?_)
    refine hp_aload_nR C dX6_goes_25 e0 ?_
    refine mo_getA C sh fl_X6_47_6 rfl (by decide) dX6_goes_26 ?_
    refine hp_bipush (v := 80) C dX6_goes_29 (by decide) ?_
    refine hp_iload_n C dX6_goes_31 e2 ?_
    refine hp_imul C dX6_goes_32 ?_
    refine hp_iload_n C dX6_goes_33 e3 ?_
    refine hp_iadd C dX6_goes_34 ?_
    refine hp_aload_nR C dX6_goes_35 e0 ?_
    refine mo_getA C sh fl_X6_47_6 rfl (by decide) dX6_goes_36 ?_
    refine hp_bipush (v := 80) C dX6_goes_39 (by decide) ?_
    refine hp_iload_n C dX6_goes_41 e2 ?_
    refine hp_imul C dX6_goes_42 ?_
    refine hp_iload_n C dX6_goes_43 e3 ?_
    refine hp_iadd C dX6_goes_44 ?_
    refine hp_iconst (v := 1) C dX6_goes_45 (by decide) ?_
    refine hp_iadd C dX6_goes_46 ?_
    rw [show 80 * nI p + nI i + 1 = 80 * nI p + nI (i + 1) by rw [← es, Int32.add_assoc]]
    refine mo_aldv (v := g (i + 1)) C sh rfl (by decide) (by rw [u2, mo_rb_at (by omega)]; unfold mo_shf; rw [if_neg (by omega)]) dX6_goes_47 (by exact u1) ?_
    refine mo_ast C sh rfl (by decide) dX6_goes_48 (by exact t1) ?_
    rw [t2, mo_rb_up (by omega), mo_shf_up hti]
    refine hp_iinc C dX6_goes_49 e3 (by decide) rfl ?_
    refine hp_goto (tgt := 13) C dX6_goes_52 (by decide) ?_
    exact ih _ (i + 1) (by omega) (by omega) e0 e1 e2 ((va_up_self _ _ _).trans (by rw [mo_succ (by omega)]))
/-- the nodes' states, and how many are gone, behind k steps from q on -/
def mo_gs (st par : Nat → Int32) (q : Nat) : Nat → (Nat → Int32) × Nat
  | 0 => (st, 1)
  | k + 1 => if (mo_gs st par q k).1 (q + k) = 2 then mo_gs st par q k else if (mo_gs st par q k).1 (par (q + k)).toNatClampNeg = 2 then (va_up (mo_gs st par q k).1 (q + k) 2, (mo_gs st par q k).2 + 1) else mo_gs st par q k
theorem mo_gs_le (st par : Nat → Int32) (q : Nat) : ∀ k, (mo_gs st par q k).2 ≤ k + 1
  | 0 => Nat.le_refl _
  | k + 1 => by
    have := mo_gs_le st par q k
    unfold mo_gs
    split
    · omega
    · split
      · show (mo_gs st par q k).2 + 1 ≤ _
        omega
      · omega
/-- the nodes' states are f -/
def mo_sv (s : moS) (f : Nat → Int32) : moS := (s.1, va_up s.2 5 f)
theorem mo_sv_up {s : moS} {f : Nat → Int32} {j : Nat} {v : Int32} : mo_up (mo_sv s f) 5 j v = mo_sv s (va_up f j v) := by
  refine Prod.ext rfl (funext fun k => ?_)
  show va_up (va_up s.2 5 f) 5 (va_up (va_up s.2 5 f 5) j v) k = va_up s.2 5 (va_up f j v) k
  by_cases hk : k = 5
  · subst hk
    rw [va_up_self, va_up_self, va_up_self]
  · rw [va_up_ne _ _ hk, va_up_ne _ _ hk, va_up_ne _ _ hk]
theorem mo_sv_5 {s : moS} {f : Nat → Int32} : (mo_sv s f).2 5 = f := by
  show va_up s.2 5 f 5 = f
  rw [va_up_self]
theorem mo_sv_ne {s : moS} {f : Nat → Int32} {k : Nat} (hk : k ≠ 5) : (mo_sv s f).2 k = s.2 k := va_up_ne _ _ hk
theorem mo_sv_self (s : moS) : mo_sv s (s.2 5) = s := by
  refine Prod.ext rfl (funext fun k => ?_)
  by_cases hk : k = 5
  · subst hk; exact mo_sv_5
  · exact mo_sv_ne hk
set_option maxRecDepth 20000 in
set_option maxHeartbeats 4000000 in
theorem mo_gonL {M : hpM} {G : hpG} {d : Nat} {h0 h : hpT} {m : Nat} {s : moS} {X : String → hpT → Prop} {P : Option Value → hpT → Prop} (sh : mo_sh G h m) (C : hp_F M G yX6_goes cX6_goes 5 d h0) (hr : (hp_mt M).sig.returnType = some .int) {q mk : Nat} (hmk : mk ≤ 80) (hmn : s.1 1 = nI mk) (hq : q ≤ mk) (hpar : ∀ j, q ≤ j → j < mk → vp_in (s.2 3 j) 80) {st : Nat → Int32}
    (hP : P (some (.int (nI (mo_gs st (s.2 3) q (mk - q)).2))) (mo_w h m (mo_sv s (mo_gs st (s.2 3) q (mk - q)).1))) :
    ∀ (r : Nat) (lo : Nat → Option Value) (k : Nat), q + k + r = mk → lo 0 = some (.ref m) → lo 3 = some (.int (nI (mo_gs st (s.2 3) q k).2)) → lo 4 = some (.int (nI (q + k))) → hp_V M G 5 (hp_Q M G h0 P X) (mo_w h m (mo_sv s (mo_gs st (s.2 3) q k).1)) 87 lo [] := by
  intro r
  induction r with
  | zero =>
    intro lo k hk e0 e3 e4
    have hk2 : k = mk - q := by omega
    rw [← hk2] at hP
    refine hp_iload C dX6_goes_87 e4 ?_
    refine hp_aload_nR C dX6_goes_89 e0 ?_
    refine mo_getS C sh fl_X6_68_6 rfl (by decide) (v := nI mk) hmn dX6_goes_90 ?_
    refine hp_icmp_ge (tgt := 140) C dX6_goes_93 (by decide) (fun _ => ?_) (fun z_9 => absurd ((mo_leI (by omega) (by omega)).mpr (by omega)) z_9)
    refine hp_iload_n C dX6_goes_140 e3 ?_
    refine hp_iret C hr rfl dX6_goes_141 ?_
    exact hP
  | succ r ih =>
    intro lo k hk e0 e3 e4
    obtain ⟨j1, j2⟩ := nI_80 (show q + k < 80 by omega)
    have hg : mo_gs st (s.2 3) q (k + 1) = if (mo_gs st (s.2 3) q k).1 (q + k) = 2 then mo_gs st (s.2 3) q k else if (mo_gs st (s.2 3) q k).1 (s.2 3 (q + k)).toNatClampNeg = 2 then (va_up (mo_gs st (s.2 3) q k).1 (q + k) 2, (mo_gs st (s.2 3) q k).2 + 1) else mo_gs st (s.2 3) q k := rfl
    have hle := mo_gs_le st (s.2 3) q k
    have en : nI (q + k) + Int32.ofInt 1 = nI (q + (k + 1)) := mo_succ (by omega)
    refine hp_iload C dX6_goes_87 e4 ?_
    refine hp_aload_nR C dX6_goes_89 e0 ?_
    refine mo_getS C sh fl_X6_68_6 rfl (by decide) (v := nI mk) hmn dX6_goes_90 ?_
    refine hp_icmp_ge (tgt := 140) C dX6_goes_93 (by decide) (fun z_9 => absurd ((mo_leI (by omega) (by omega)).mp z_9) (by omega)) (fun _ => ?_)
    refine hp_aload_nR C dX6_goes_96 e0 ?_
    refine mo_getA C sh fl_X6_20_6 rfl (by decide) dX6_goes_97 ?_
    refine hp_iload C dX6_goes_100 e4 ?_
    refine mo_aldv (v := (mo_gs st (s.2 3) q k).1 (q + k)) C sh rfl (by decide) (by rw [j2, mo_sv_5]) dX6_goes_102 (by exact j1) ?_
    refine hp_iconst (v := 2) C dX6_goes_103 (by decide) ?_
    refine hp_icmp_eq (tgt := 134) C dX6_goes_104 (by decide) (fun c_104 => ?_) (fun c_104 => ?_)
    · rw [if_pos c_104] at hg
      refine hp_iinc C dX6_goes_134 e4 (by decide) rfl ?_
      refine hp_goto (tgt := 87) C dX6_goes_137 (by decide) ?_
      have := ih (va_up lo 4 (some (.int (nI (q + k) + Int32.ofInt 1)))) (k + 1) (by omega) e0 (by rw [hg]; exact e3) ((va_up_self _ _ _).trans (by rw [en]))
      rw [hg] at this
      exact this
    · rw [if_neg c_104] at hg
      refine hp_aload_nR C dX6_goes_107 e0 ?_
      refine mo_getA C sh fl_X6_20_6 rfl (by decide) dX6_goes_108 ?_
      refine hp_aload_nR C dX6_goes_111 e0 ?_
      refine mo_getA C sh fl_X6_13_6 rfl (by decide) dX6_goes_112 ?_
      refine hp_iload C dX6_goes_115 e4 ?_
      refine mo_aldv (v := s.2 3 (q + k)) C sh rfl (by decide) (by rw [j2, mo_sv_ne (by decide)]) dX6_goes_117 (by exact j1) ?_
      refine mo_aldv (v := (mo_gs st (s.2 3) q k).1 (s.2 3 (q + k)).toNatClampNeg) C sh rfl (by decide) (by rw [mo_sv_5]) dX6_goes_118 (by exact hpar _ (by omega) (by omega)) ?_
      refine hp_iconst (v := 2) C dX6_goes_119 (by decide) ?_
      refine hp_icmp_ne (tgt := 134) C dX6_goes_120 (by decide) (fun c_120 => ?_) (fun c_120 => ?_)
      · rw [if_neg c_120] at hg
        refine hp_iinc C dX6_goes_134 e4 (by decide) rfl ?_
        refine hp_goto (tgt := 87) C dX6_goes_137 (by decide) ?_
        have := ih (va_up lo 4 (some (.int (nI (q + k) + Int32.ofInt 1)))) (k + 1) (by omega) e0 (by rw [hg]; exact e3) ((va_up_self _ _ _).trans (by rw [en]))
        rw [hg] at this
        exact this
      · rw [if_pos c_120] at hg
        refine hp_aload_nR C dX6_goes_123 e0 ?_
        refine mo_getA C sh fl_X6_20_6 rfl (by decide) dX6_goes_124 ?_
        refine hp_iload C dX6_goes_127 e4 ?_
        refine hp_iconst (v := 2) C dX6_goes_129 (by decide) ?_
        refine mo_ast C sh rfl (by decide) dX6_goes_130 (by exact j1) ?_
        rw [j2, mo_sv_up]
        refine hp_iinc C dX6_goes_131 e3 (by decide) rfl ?_
        refine hp_iinc C dX6_goes_134 e4 (by decide) rfl ?_
        refine hp_goto (tgt := 87) C dX6_goes_137 (by decide) ?_
        have := ih (va_up (va_up lo 3 (some (.int (nI (mo_gs st (s.2 3) q k).2 + Int32.ofInt 1)))) 4 (some (.int (nI (q + k) + Int32.ofInt 1)))) (k + 1) (by omega) e0 (by rw [hg, ← mo_succ (by omega)]; rfl) ((va_up_self _ _ _).trans (by rw [en]))
        rw [hg] at this
        exact this
