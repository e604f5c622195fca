/-! ===== counts: the restarts' times that are left ===== -/
/-- those of g's first i that are not under b -/
def mo_flt (g : Nat → Int32) (b : Int32) : Nat → List Int32
  | 0 => []
  | i + 1 => mo_flt g b i ++ (if g i < b then [] else [g i])
theorem mo_flt_len (g : Nat → Int32) (b : Int32) : ∀ i, (mo_flt g b i).length ≤ i
  | 0 => Nat.le_refl _
  | i + 1 => by
    have := mo_flt_len g b i
    unfold mo_flt
    rw [List.length_append]
    split
    · simp; omega
    · simp; omega
/-- keeper p's block of times holds f -/
def mo_blk (s : moS) (p : Nat) (f : Nat → Int32) : moS := (s.1, va_up s.2 16 (fun q => if 52 * p ≤ q ∧ q < 52 * p + 52 then f (q - 52 * p) else s.2 16 q))
theorem mo_blk_16 {s : moS} {p q : Nat} {f : Nat → Int32} : (mo_blk s p f).2 16 q = if 52 * p ≤ q ∧ q < 52 * p + 52 then f (q - 52 * p) else s.2 16 q := by
  show (va_up s.2 16 (fun q => if 52 * p ≤ q ∧ q < 52 * p + 52 then f (q - 52 * p) else s.2 16 q)) 16 q = _
  rw [va_up_self]
theorem mo_blk_at {s : moS} {p j : Nat} {f : Nat → Int32} (hj : j < 52) : (mo_blk s p f).2 16 (52 * p + j) = f j := by
  rw [mo_blk_16, if_pos ⟨by omega, by omega⟩, Nat.add_sub_cancel_left]
theorem mo_blk_ne {s : moS} {p k : Nat} {f : Nat → Int32} (hk : k ≠ 16) : (mo_blk s p f).2 k = s.2 k := va_up_ne _ _ hk
theorem mo_blk_up {s : moS} {p j : Nat} {f : Nat → Int32} {v : Int32} (hj : j < 52) : mo_up (mo_blk s p f) 16 (52 * p + j) v = mo_blk s p (va_up f j v) := by
  refine Prod.ext rfl (funext fun k => ?_)
  by_cases hk : k = 16
  · subst hk
    funext q
    rw [mo_blk_16]
    show va_up (mo_blk s p f).2 16 (va_up ((mo_blk s p f).2 16) (52 * p + j) v) 16 q = _
    rw [va_up_self]
    by_cases e : q = 52 * p + j
    · rw [e, va_up_self, if_pos ⟨by omega, by omega⟩, Nat.add_sub_cancel_left, va_up_self]
    · rw [va_up_ne _ _ e, mo_blk_16]
      by_cases c : 52 * p ≤ q ∧ q < 52 * p + 52
      · rw [if_pos c, if_pos c, va_up_ne _ _ (by omega)]
      · rw [if_neg c, if_neg c]
  · rw [mo_blk_ne hk]
    show va_up (mo_blk s p f).2 16 _ k = _
    rw [va_up_ne _ _ hk, mo_blk_ne hk]
theorem mo_blk_self (s : moS) (p : Nat) : mo_blk s p (fun j => s.2 16 (52 * p + j)) = s := by
  refine Prod.ext rfl (funext fun k => ?_)
  by_cases hk : k = 16
  · subst hk
    funext q
    rw [mo_blk_16]
    by_cases c : 52 * p ≤ q ∧ q < 52 * p + 52
    · rw [if_pos c, show 52 * p + (q - 52 * p) = q by omega]
    · rw [if_neg c]
  · exact mo_blk_ne hk
theorem mo_tim_in {p i : Nat} (hp : p < 80) (hi : i < 52) : vp_in (52 * nI p + nI i) 4160 ∧ (52 * nI p + nI i).toNatClampNeg = 52 * p + i := by
  have e1 := nI_toInt (n := p) (by omega)
  have e2 := nI_toInt (n := i) (by omega)
  have e8 : (52 : Int32).toInt = 52 := by decide
  have m1 : (52 * nI p).toInt = 52 * (p : Int) := by
    rw [Int32.toInt_mul, e8, e1]
    exact Int.bmod_eq_of_le (by omega) (by omega)
  have m2 : (52 * nI p + nI i).toInt = 52 * (p : Int) + i := by
    rw [Int32.toInt_add, m1, e2]
    exact Int.bmod_eq_of_le (by omega) (by omega)
  refine ⟨vp_in_iff.mpr (by omega), ?_⟩
  have f : ∀ x : Int32, x.toNatClampNeg = x.toInt.toNat := fun _ => rfl
  rw [f, m2]
  omega
theorem nI_80 {p : Nat} (hp : p < 80) : vp_in (nI p) 80 ∧ (nI p).toNatClampNeg = p := by
  have e1 := nI_toInt (n := p) (by omega)
  refine ⟨vp_in_iff.mpr (by omega), ?_⟩
  have f : ∀ x : Int32, x.toNatClampNeg = x.toInt.toNat := fun _ => rfl
  rw [f, e1]
  rfl
set_option maxRecDepth 20000 in
set_option maxHeartbeats 4000000 in
theorem mo_cntL {M : hpM} {G : hpG} {d : Nat} {h0 h : hpT} {m : Nat} {s : moS} {Q : State → Prop} (sh : mo_sh G h m) (C : hp_F M G yX6_counts cX6_counts 5 d h0) {p c : Nat} (hp : p < 80) (hc : c ≤ 51) (hcn : s.2 17 p = nI c) {g : Nat → Int32} {b : Int32} (hb : s.1 18 - s.2 9 p = b)
    (kk : ∀ (lo : Nat → Option Value) (f : Nat → Int32), lo 0 = some (.ref m) → lo 1 = some (.int (nI p)) → lo 2 = some (.int (52 * nI p)) → lo 3 = some (.int (nI (mo_flt g b c).length)) → (∀ j v, (mo_flt g b c)[j]? = some v → f j = v) → hp_V M G 5 Q (mo_w h m (mo_blk s p f)) 70 lo []) :
    ∀ (r : Nat) (lo : Nat → Option Value) (i : Nat) (f : Nat → Int32), i + r = c → (∀ j v, (mo_flt g b i)[j]? = some v → f j = v) → (∀ j, i ≤ j → f j = g j) → lo 0 = some (.ref m) → lo 1 = some (.int (nI p)) → lo 2 = some (.int (52 * nI p)) → lo 3 = some (.int (nI (mo_flt g b i).length)) → lo 4 = some (.int (nI i)) → hp_V M G 5 Q (mo_w h m (mo_blk s p f)) 10 lo [] := by
  obtain ⟨p1, p2⟩ := nI_80 hp
  intro r
  induction r with
  | zero =>
    intro lo i f hi q1 q2 e0 e1 e2 e3 e4
    have hic : i = c := by omega
    subst hic
    refine hp_iload C dX6_counts_10 e4 ?_
    refine hp_aload_nR C dX6_counts_12 e0 ?_
    refine mo_getA C sh fl_X6_56_6 rfl (by decide) dX6_counts_13 ?_
    refine hp_iload_n C dX6_counts_16 e1 ?_
    refine mo_aldv (v := nI i) C sh rfl (by decide) (by rw [p2, mo_blk_ne (by decide)]; exact hcn) dX6_counts_17 (by exact p1) ?_
    refine hp_icmp_ge (tgt := 70) C dX6_counts_18 (by decide) (fun _ => ?_) (fun z_9 => absurd (Int32.le_refl _) z_9)
    exact kk lo f e0 e1 e2 e3 q1
  | succ r ih =>
    intro lo i f hi q1 q2 e0 e1 e2 e3 e4
    have hlt : ¬ nI c ≤ nI i := by
      rw [Int32.le_iff_toInt_le, nI_toInt (n := c) (by omega), nI_toInt (n := i) (by omega)]
      omega
    have hlen := mo_flt_len g b i
    obtain ⟨t1, t2⟩ := mo_tim_in hp (show i < 52 by omega)
    obtain ⟨u1, u2⟩ := mo_tim_in hp (show (mo_flt g b i).length < 52 by omega)
    have hval : (mo_blk s p f).2 16 (52 * nI p + nI i).toNatClampNeg = g i := by rw [t2, mo_blk_at (by omega)]; exact q2 i (Nat.le_refl _)
    refine hp_iload C dX6_counts_10 e4 ?_
    refine hp_aload_nR C dX6_counts_12 e0 ?_
    refine mo_getA C sh fl_X6_56_6 rfl (by decide) dX6_counts_13 ?_
    refine hp_iload_n C dX6_counts_16 e1 ?_
    refine mo_aldv (v := nI c) C sh rfl (by decide) (by rw [p2, mo_blk_ne (by decide)]; exact hcn) dX6_counts_17 (by exact p1) ?_
    refine hp_icmp_ge (tgt := 70) C dX6_counts_18 (by decide) (fun z_9 => absurd z_9 hlt) (fun _ => ?_)
    refine hp_aload_nR C dX6_counts_21 e0 ?_
    refine mo_getA C sh fl_X6_53_6 rfl (by decide) dX6_counts_22 ?_
    refine hp_iload_n C dX6_counts_25 e2 ?_
    refine hp_iload C dX6_counts_26 e4 ?_
    refine hp_iadd C dX6_counts_28 ?_
    refine mo_aldv (v := g i) C sh rfl (by decide) hval dX6_counts_29 (by exact t1) ?_
    refine hp_aload_nR C dX6_counts_30 e0 ?_
    refine mo_getS C sh fl_X6_82_6 rfl (by decide) (v := s.1 18) rfl dX6_counts_31 ?_
    refine hp_aload_nR C dX6_counts_34 e0 ?_
    refine mo_getA C sh fl_X6_32_6 rfl (by decide) dX6_counts_35 ?_
    refine hp_iload_n C dX6_counts_38 e1 ?_
    refine mo_aldv (v := s.2 9 p) C sh rfl (by decide) (by rw [p2, mo_blk_ne (by decide)]) dX6_counts_39 (by exact p1) ?_
    refine hp_isub C dX6_counts_40 ?_
    rw [hb]
    refine hp_icmp_lt (tgt := 64) C dX6_counts_41 (by decide) (fun c_41 => ?_) (fun c_41 => ?_)
    · have hf : mo_flt g b (i + 1) = mo_flt g b i := by
        show mo_flt g b i ++ (if g i < b then [] else [g i]) = _
        rw [if_pos c_41, List.append_nil]
      refine hp_iinc C dX6_counts_64 e4 (by decide) rfl ?_
      refine hp_goto (tgt := 10) C dX6_counts_67 (by decide) ?_
      exact ih _ (i + 1) f (by omega) (by rw [hf]; exact q1) (fun j hj => q2 j (by omega)) e0 e1 e2 (by rw [hf]; exact e3) ((va_up_self _ _ _).trans (by rw [mo_succ (by omega)]))
    · have hf : mo_flt g b (i + 1) = mo_flt g b i ++ [g i] := by
        show mo_flt g b i ++ (if g i < b then [] else [g i]) = _
        rw [if_neg c_41]
      refine hp_aload_nR C dX6_counts_44 e0 ?_
      refine mo_getA C sh fl_X6_53_6 rfl (by decide) dX6_counts_45 ?_
      refine hp_iload_n C dX6_counts_48 e2 ?_
      refine hp_iload_n C dX6_counts_49 e3 ?_
      refine hp_iadd C dX6_counts_50 ?_
      refine hp_aload_nR C dX6_counts_51 e0 ?_
      refine mo_getA C sh fl_X6_53_6 rfl (by decide) dX6_counts_52 ?_
      refine hp_iload_n C dX6_counts_55 e2 ?_
      refine hp_iload C dX6_counts_56 e4 ?_
      refine hp_iadd C dX6_counts_58 ?_
      refine mo_aldv (v := g i) C sh rfl (by decide) hval dX6_counts_59 (by exact t1) ?_
      refine mo_ast C sh rfl (by decide) dX6_counts_60 (by exact u1) ?_
      rw [u2, mo_blk_up (by omega)]
      refine hp_iinc C dX6_counts_61 e3 (by decide) rfl ?_
      refine hp_iinc C dX6_counts_64 e4 (by decide) rfl ?_
      refine hp_goto (tgt := 10) C dX6_counts_67 (by decide) ?_
      have hl2 : (mo_flt g b (i + 1)).length = (mo_flt g b i).length + 1 := by rw [hf, List.length_append]; rfl
      refine ih _ (i + 1) _ (by omega) (fun j v hj => ?_) (fun j hj => ?_) e0 e1 e2 ?_ ?_
      · rw [hf] at hj
        by_cases c1 : j < (mo_flt g b i).length
        · rw [List.getElem?_append_left c1] at hj
          rw [va_up_ne _ _ (by omega)]
          exact q1 j v hj
        · rw [List.getElem?_append_right (by omega)] at hj
          have hz : j - (mo_flt g b i).length < 1 := (List.getElem?_eq_some_iff.mp hj).1
          have ej : j = (mo_flt g b i).length := by omega
          rw [ej, Nat.sub_self] at hj
          cases hj
          rw [ej, va_up_self]
      · rw [va_up_ne _ _ (by omega)]
        exact q2 j (by omega)
      · rw [hl2, ← mo_succ (by omega)]
        rfl
      · exact (va_up_self _ _ _).trans (by rw [mo_succ (by omega)])
theorem hp_Vc {M : hpM} {G : hpG} {nL : Nat} {Q : State → Prop} {h1 h2 : hpT} {pc : Nat} {lo : Nat → Option Value} {st : List Value} (e : h1 = h2) (x : hp_V M G nL Q h2 pc lo st) : hp_V M G nL Q h1 pc lo st := by
  rw [e]
  exact x
/-- what counts leaves: L times and this one -/
def mo_cnt (s : moS) (p c : Nat) : List Int32 := mo_flt (fun j => s.2 16 (52 * p + j)) (s.1 18 - s.2 9 p) c ++ [s.1 18]
set_option maxRecDepth 20000 in
set_option maxHeartbeats 4000000 in
theorem mo_counts {l : Launch} {G : hpG} {h : hpT} {m d : Nat} {s : moS} (sh : mo_sh G h m) {p c : Nat} (hp : p < 80) (hc : c ≤ 51) (hcn : s.2 17 p = nI c) : hp_C l G yX6_counts (.code yX6_counts cX6_counts 5 (some .boolean)) d [.ref m, .int (nI p)] (mo_w h m s)
    (fun v h' => ∃ f : Nat → Int32, v = some (.int (if nI (mo_cnt s p c).length ≤ s.2 8 p then 0 else 1)) ∧ h' = mo_w h m (mo_pt (mo_up (mo_blk s p f) 17 p (nI (mo_cnt s p c).length)) 21 (s.1 21 + 1)) ∧ ∀ j v, (mo_cnt s p c)[j]? = some v → f j = v) (fun _ _ => False) := by
  refine hp_ofV (by decide) (by simp [Value.category]) (Nat.le_of_ble_eq_true rfl) (fun M C hr hx el => ?_)
  obtain ⟨p1, p2⟩ := nI_80 hp
  have hlen := mo_flt_len (fun j => s.2 16 (52 * p + j)) (s.1 18 - s.2 9 p) c
  have hl2 : (mo_cnt s p c).length = (mo_flt (fun j => s.2 16 (52 * p + j)) (s.1 18 - s.2 9 p) c).length + 1 := by unfold mo_cnt; rw [List.length_append]; rfl
  obtain ⟨u1, u2⟩ := mo_tim_in hp (show (mo_flt (fun j => s.2 16 (52 * p + j)) (s.1 18 - s.2 9 p) c).length < 52 by omega)
  refine hp_bipush (v := 52) C dX6_counts_0 (by decide) ?_
  refine hp_iload_n C dX6_counts_2 rfl ?_
  refine hp_imul C dX6_counts_3 ?_
  refine hp_istore_n C dX6_counts_4 (by decide) ?_
  refine hp_iconst (v := 0) C dX6_counts_5 (by decide) ?_
  refine hp_istore_n C dX6_counts_6 (by decide) ?_
  refine hp_iconst (v := 0) C dX6_counts_7 (by decide) ?_
  refine hp_istore C dX6_counts_8 (by decide) ?_
  refine hp_Vc (h2 := mo_w h m (mo_blk s p (fun j => s.2 16 (52 * p + j)))) (by rw [mo_blk_self]) ?_
  refine mo_cntL sh C hp hc hcn (g := fun j => s.2 16 (52 * p + j)) rfl (fun lo f e0 e1 e2 e3 q1 => ?_) c _ 0 _ (by omega) (fun j v hj => by cases hj) (fun j _ => rfl) rfl rfl rfl rfl rfl
  refine hp_aload_nR C dX6_counts_70 e0 ?_
  refine mo_getA C sh fl_X6_53_6 rfl (by decide) dX6_counts_71 ?_
  refine hp_iload_n C dX6_counts_74 e2 ?_
  refine hp_iload_n C dX6_counts_75 e3 ?_
  refine hp_iadd C dX6_counts_76 ?_
  refine hp_aload_nR C dX6_counts_77 e0 ?_
  refine mo_getS C sh fl_X6_82_6 rfl (by decide) (v := s.1 18) rfl dX6_counts_78 ?_
  refine mo_ast C sh rfl (by decide) dX6_counts_81 (by exact u1) ?_
  rw [u2, mo_blk_up (by omega)]
  refine hp_aload_nR C dX6_counts_82 e0 ?_
  refine mo_getA C sh fl_X6_56_6 rfl (by decide) dX6_counts_83 ?_
  refine hp_iload_n C dX6_counts_86 e1 ?_
  refine hp_iload_n C dX6_counts_87 e3 ?_
  refine hp_iconst (v := 1) C dX6_counts_88 (by decide) ?_
  refine hp_iadd C dX6_counts_89 ?_
  have es : nI (mo_flt (fun j => s.2 16 (52 * p + j)) (s.1 18 - s.2 9 p) c).length + 1 = nI (mo_cnt s p c).length := by rw [hl2, ← mo_succ (by omega)]; rfl
  refine mo_ast C sh rfl (by decide) dX6_counts_90 (by exact p1) ?_
  rw [p2, es]
  refine hp_aload_nR C dX6_counts_91 e0 ?_
  refine hp_dup C dX6_counts_92 rfl ?_
  refine mo_getS C sh fl_X6_100_6 rfl (by decide) (v := s.1 21) rfl dX6_counts_93 ?_
  refine hp_iconst (v := 1) C dX6_counts_96 (by decide) ?_
  refine hp_iadd C dX6_counts_97 ?_
  refine mo_putS C sh fl_X6_100_6 rfl (by decide) rfl rfl rfl dX6_counts_98 ?_
  refine hp_iload_n C dX6_counts_101 e3 ?_
  refine hp_iconst (v := 1) C dX6_counts_102 (by decide) ?_
  refine hp_iadd C dX6_counts_103 ?_
  rw [es]
  refine hp_aload_nR C dX6_counts_104 e0 ?_
  refine mo_getA C sh fl_X6_29_6 rfl (by decide) dX6_counts_105 ?_
  refine hp_iload_n C dX6_counts_108 e1 ?_
  refine mo_aldv (v := s.2 8 p) C sh rfl (by decide) (by rw [p2]; rfl) dX6_counts_109 (by exact p1) ?_
  have hf : ∀ j v, (mo_cnt s p c)[j]? = some v → va_up f (mo_flt (fun j => s.2 16 (52 * p + j)) (s.1 18 - s.2 9 p) c).length (s.1 18) j = v := by
    intro j v hj
    unfold mo_cnt at hj
    by_cases c1 : j < (mo_flt (fun j => s.2 16 (52 * p + j)) (s.1 18 - s.2 9 p) c).length
    · rw [List.getElem?_append_left c1] at hj
      rw [va_up_ne _ _ (by omega)]
      exact q1 j v hj
    · rw [List.getElem?_append_right (by omega)] at hj
      have hz : j - (mo_flt (fun j => s.2 16 (52 * p + j)) (s.1 18 - s.2 9 p) c).length < 1 := (List.getElem?_eq_some_iff.mp hj).1
      have ej : j = (mo_flt (fun j => s.2 16 (52 * p + j)) (s.1 18 - s.2 9 p) c).length := by omega
      rw [ej, Nat.sub_self] at hj
      cases hj
      rw [ej, va_up_self]
  refine hp_icmp_le (tgt := 117) C dX6_counts_110 (by decide) (fun c_110 => ?_) (fun c_110 => ?_)
  · refine hp_iconst (v := 0) C dX6_counts_117 (by decide) ?_
    refine hp_iret C hr (by decide) dX6_counts_118 ?_
    exact ⟨_, by rw [if_pos c_110], rfl, hf⟩
  · refine hp_iconst (v := 1) C dX6_counts_113 (by decide) ?_
    refine hp_goto (tgt := 118) C dX6_counts_114 (by decide) ?_
    refine hp_iret C hr (by decide) dX6_counts_118 ?_
    exact ⟨_, by rw [if_neg c_110], rfl, hf⟩
