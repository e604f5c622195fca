/-! ===== the reference's loops, in general ===== -/
/-- place i of keeper p's row -/
theorem mo_row_in {p i : Nat} (hp : p < 80) (hi : i < 80) : vp_in (80 * nI p + nI i) 6400 ∧ (80 * nI p + nI i).toNatClampNeg = 80 * p + i := by
  have e1 := nI_toInt (n := p) (by omega)
  have e2 := nI_toInt (n := i) (by omega)
  have e8 : (80 : Int32).toInt = 80 := by decide
  have m1 : (80 * nI p).toInt = 80 * (p : Int) := by
    rw [Int32.toInt_mul, e8, e1]
    exact Int.bmod_eq_of_le (by omega) (by omega)
  have m2 : (80 * nI p + nI i).toInt = 80 * (p : Int) + i := by
    rw [Int32.toInt_add, m1, e2]
    exact Int.bmod_eq_of_le (by omega) (by omega)
  refine ⟨vp_in_iff.mpr (by omega), ?_⟩
  have f : ∀ x : Int32, x.toNatClampNeg = x.toInt.toNat := fun _ => rfl
  rw [f, m2]
  omega
theorem mo_succ {i : Nat} (hi : i < 1000000) : nI i + Int32.ofInt 1 = nI (i + 1) := by
  have e1 := nI_toInt (n := i) (by omega)
  have e2 := nI_toInt (n := i + 1) (by omega)
  refine Int32.toInt_inj.mp ?_
  rw [kt_inc (by omega), e1, e2]
  rfl
set_option maxHeartbeats 4000000 in
theorem mo_placeL {M : hpM} {G : hpG} {d : Nat} {h0 h : hpT} {m : Nat} {s : moS} (sh : mo_sh G h m) (C : hp_F M G yX6_place cX6_place 4 d h0) (hr : (hp_mt M).sig.returnType = some .int) {n : Int32} {p t : Nat} (hp : p < 80) (ht : t < 80) (hat : s.2 14 (80 * p + t) = n) (hno : ∀ j, j < t → ¬ s.2 14 (80 * p + j) = n) {X : String → hpT → Prop} : ∀ (k : Nat) (lo : Nat → Option Value) (i : Nat), i + k = t → lo 0 = some (.ref m) → lo 1 = some (.int n) → lo 2 = some (.int (nI p)) → lo 3 = some (.int (nI i)) → hp_V M G 4 (hp_Q M G h0 (fun v h' => v = some (.int (nI t)) ∧ h' = mo_w h m s) X) (mo_w h m s) 9 lo [] := by
  intro k
  induction k with
  | zero =>
    intro lo i hi e0 e1 e2 e3
    obtain ⟨r1, r2⟩ := mo_row_in hp (show i < 80 by omega)
    have hit : i = t := by omega
    subst hit
    refine hp_aload_nR C dX6_place_9 e0 ?_
    refine mo_getA C sh fl_X6_47_6 rfl (by decide) dX6_place_10 ?_
    refine hp_bipush (v := 80) C dX6_place_13 (by decide) ?_
    refine hp_iload_n C dX6_place_15 e2 ?_
    refine hp_imul C dX6_place_16 ?_
    refine hp_iload_n C dX6_place_17 e3 ?_
    refine hp_iadd C dX6_place_18 ?_
    refine mo_ald C sh (f := s.2 14) rfl (by decide) rfl dX6_place_19 (by exact r1) ?_
    refine hp_iload_n C dX6_place_20 e1 ?_
    refine hp_icmp_eq (tgt := 30) C dX6_place_21 (by decide) (fun c_21 => ?_) (fun c_21 => ?_)
    · refine hp_iload_n C dX6_place_30 e3 ?_
      refine hp_iret C hr rfl dX6_place_31 ?_
      exact ⟨rfl, rfl⟩
    · exact absurd (by rw [r2]; exact hat) c_21
  | succ k ih =>
    intro lo i hi e0 e1 e2 e3
    obtain ⟨r1, r2⟩ := mo_row_in hp (show i < 80 by omega)
    refine hp_aload_nR C dX6_place_9 e0 ?_
    refine mo_getA C sh fl_X6_47_6 rfl (by decide) dX6_place_10 ?_
    refine hp_bipush (v := 80) C dX6_place_13 (by decide) ?_
    refine hp_iload_n C dX6_place_15 e2 ?_
    refine hp_imul C dX6_place_16 ?_
    refine hp_iload_n C dX6_place_17 e3 ?_
    refine hp_iadd C dX6_place_18 ?_
    refine mo_ald C sh (f := s.2 14) rfl (by decide) rfl dX6_place_19 (by exact r1) ?_
    refine hp_iload_n C dX6_place_20 e1 ?_
    refine hp_icmp_eq (tgt := 30) C dX6_place_21 (by decide) (fun c_21 => ?_) (fun c_21 => ?_)
    · exact absurd c_21 (by rw [r2]; exact hno i (by omega))
    · refine hp_iinc C dX6_place_24 e3 (by decide) rfl ?_
      refine hp_goto (tgt := 9) C dX6_place_27 (by decide) ?_
      exact ih _ (i + 1) (by omega) e0 e1 e2 ((va_up_self _ _ _).trans (by rw [mo_succ (by omega)]))
set_option maxRecDepth 20000 in
set_option maxHeartbeats 4000000 in
theorem mo_place {l : Launch} {G : hpG} {h : hpT} {m d : Nat} {s : moS} (sh : mo_sh G h m) {n : Int32} {p t : Nat} (hn : vp_in n 80) (hpa : s.2 3 n.toNatClampNeg = nI p) (hp : p < 80) (ht : t < 80) (hat : s.2 14 (80 * p + t) = n) (hno : ∀ j, j < t → ¬ s.2 14 (80 * p + j) = n) : hp_C l G yX6_place (.code yX6_place cX6_place 4 (some .int)) d [.ref m, .int n] (mo_w h m s) (fun v h' => v = some (.int (nI t)) ∧ h' = mo_w h m s) (fun _ _ => False) := by
  refine hp_ofV (by decide) (by simp [Value.category]) (Nat.le_of_ble_eq_true rfl) (fun M C hr hx el => ?_)
  refine hp_aload_nR C dX6_place_0 rfl ?_
  refine mo_getA C sh fl_X6_13_6 rfl (by decide) dX6_place_1 ?_
  refine hp_iload_n C dX6_place_4 rfl ?_
  refine mo_ald C sh (f := s.2 3) rfl (by decide) rfl dX6_place_5 (by exact hn) ?_
  rw [hpa]
  refine hp_istore_n C dX6_place_6 (by decide) ?_
  refine hp_iconst (v := 0) C dX6_place_7 (by decide) ?_
  refine hp_istore_n C dX6_place_8 (by decide) ?_
  exact mo_placeL sh C hr hp ht hat hno t _ 0 (by omega) rfl rfl rfl rfl
/-! ===== counts: the restarts' times that are left ===== -/
/-- those of g's first i that are not under b -/
def mo_flt (g : Nat → Int32) (b : Int32) : Nat → List Int32
  | 0 => []
  | i + 1 => mo_flt g b i ++ (if g i < b then [] else [g i])
theorem mo_flt_len (g : Nat → Int32) (b : Int32) : ∀ i, (mo_flt g b i).length ≤ i
  | 0 => Nat.le_refl _
  | i + 1 => by
    have := mo_flt_len g b i
    unfold mo_flt
    rw [List.length_append]
    split
    · simp; omega
    · simp; omega
/-- keeper p's block of times holds f -/
def mo_blk (s : moS) (p : Nat) (f : Nat → Int32) : moS := (s.1, va_up s.2 16 (fun q => if 52 * p ≤ q ∧ q < 52 * p + 52 then f (q - 52 * p) else s.2 16 q))
theorem mo_blk_16 {s : moS} {p q : Nat} {f : Nat → Int32} : (mo_blk s p f).2 16 q = if 52 * p ≤ q ∧ q < 52 * p + 52 then f (q - 52 * p) else s.2 16 q := by
  show (va_up s.2 16 (fun q => if 52 * p ≤ q ∧ q < 52 * p + 52 then f (q - 52 * p) else s.2 16 q)) 16 q = _
  rw [va_up_self]
theorem mo_blk_at {s : moS} {p j : Nat} {f : Nat → Int32} (hj : j < 52) : (mo_blk s p f).2 16 (52 * p + j) = f j := by
  rw [mo_blk_16, if_pos ⟨by omega, by omega⟩, Nat.add_sub_cancel_left]
theorem mo_blk_ne {s : moS} {p k : Nat} {f : Nat → Int32} (hk : k ≠ 16) : (mo_blk s p f).2 k = s.2 k := va_up_ne _ _ hk
theorem mo_blk_up {s : moS} {p j : Nat} {f : Nat → Int32} {v : Int32} (hj : j < 52) : mo_up (mo_blk s p f) 16 (52 * p + j) v = mo_blk s p (va_up f j v) := by
  refine Prod.ext rfl (funext fun k => ?_)
  by_cases hk : k = 16
  · subst hk
    funext q
    rw [mo_blk_16]
    show va_up (mo_blk s p f).2 16 (va_up ((mo_blk s p f).2 16) (52 * p + j) v) 16 q = _
    rw [va_up_self]
    by_cases e : q = 52 * p + j
    · rw [e, va_up_self, if_pos ⟨by omega, by omega⟩, Nat.add_sub_cancel_left, va_up_self]
    · rw [va_up_ne _ _ e, mo_blk_16]
      by_cases c : 52 * p ≤ q ∧ q < 52 * p + 52
      · rw [if_pos c, if_pos c, va_up_ne _ _ (by omega)]
      · rw [if_neg c, if_neg c]
  · rw [mo_blk_ne hk]
    show va_up (mo_blk s p f).2 16 _ k = _
    rw [va_up_ne _ _ hk, mo_blk_ne hk]
theorem mo_blk_self (s : moS) (p : Nat) : mo_blk s p (fun j => s.2 16 (52 * p + j)) = s := by
  refine Prod.ext rfl (funext fun k => ?_)
  by_cases hk : k = 16
  · subst hk
    funext q
    rw [mo_blk_16]
    by_cases c : 52 * p ≤ q ∧ q < 52 * p + 52
    · rw [if_pos c, show 52 * p + (q - 52 * p) = q by omega]
    · rw [if_neg c]
  · exact mo_blk_ne hk
theorem mo_tim_in {p i : Nat} (hp : p < 80) (hi : i < 52) : vp_in (52 * nI p + nI i) 4160 ∧ (52 * nI p + nI i).toNatClampNeg = 52 * p + i := by
  have e1 := nI_toInt (n := p) (by omega)
  have e2 := nI_toInt (n := i) (by omega)
  have e8 : (52 : Int32).toInt = 52 := by decide
  have m1 : (52 * nI p).toInt = 52 * (p : Int) := by
    rw [Int32.toInt_mul, e8, e1]
    exact Int.bmod_eq_of_le (by omega) (by omega)
  have m2 : (52 * nI p + nI i).toInt = 52 * (p : Int) + i := by
    rw [Int32.toInt_add, m1, e2]
    exact Int.bmod_eq_of_le (by omega) (by omega)
  refine ⟨vp_in_iff.mpr (by omega), ?_⟩
  have f : ∀ x : Int32, x.toNatClampNeg = x.toInt.toNat := fun _ => rfl
  rw [f, m2]
  omega
theorem nI_80 {p : Nat} (hp : p < 80) : vp_in (nI p) 80 ∧ (nI p).toNatClampNeg = p := by
  have e1 := nI_toInt (n := p) (by omega)
  refine ⟨vp_in_iff.mpr (by omega), ?_⟩
  have f : ∀ x : Int32, x.toNatClampNeg = x.toInt.toNat := fun _ => rfl
  rw [f, e1]
  rfl
set_option maxRecDepth 20000 in
set_option maxHeartbeats 4000000 in
theorem mo_cntL {M : hpM} {G : hpG} {d : Nat} {h0 h : hpT} {m : Nat} {s : moS} {Q : State → Prop} (sh : mo_sh G h m) (C : hp_F M G yX6_counts cX6_counts 5 d h0) {p c : Nat} (hp : p < 80) (hc : c ≤ 51) (hcn : s.2 17 p = nI c) {g : Nat → Int32} {b : Int32} (hb : s.1 18 - s.2 9 p = b)
    (kk : ∀ (lo : Nat → Option Value) (f : Nat → Int32), lo 0 = some (.ref m) → lo 1 = some (.int (nI p)) → lo 2 = some (.int (52 * nI p)) → lo 3 = some (.int (nI (mo_flt g b c).length)) → (∀ j v, (mo_flt g b c)[j]? = some v → f j = v) → hp_V M G 5 Q (mo_w h m (mo_blk s p f)) 70 lo []) :
    ∀ (r : Nat) (lo : Nat → Option Value) (i : Nat) (f : Nat → Int32), i + r = c → (∀ j v, (mo_flt g b i)[j]? = some v → f j = v) → (∀ j, i ≤ j → f j = g j) → lo 0 = some (.ref m) → lo 1 = some (.int (nI p)) → lo 2 = some (.int (52 * nI p)) → lo 3 = some (.int (nI (mo_flt g b i).length)) → lo 4 = some (.int (nI i)) → hp_V M G 5 Q (mo_w h m (mo_blk s p f)) 10 lo [] := by
  obtain ⟨p1, p2⟩ := nI_80 hp
  intro r
  induction r with
  | zero =>
    intro lo i f hi q1 q2 e0 e1 e2 e3 e4
    have hic : i = c := by omega
    subst hic
    refine hp_iload C dX6_counts_10 e4 ?_
    refine hp_aload_nR C dX6_counts_12 e0 ?_
    refine mo_getA C sh fl_X6_56_6 rfl (by decide) dX6_counts_13 ?_
    refine hp_iload_n C dX6_counts_16 e1 ?_
    refine mo_aldv (v := nI i) C sh rfl (by decide) (by rw [p2, mo_blk_ne (by decide)]; exact hcn) dX6_counts_17 (by exact p1) ?_
    refine hp_icmp_ge (tgt := 70) C dX6_counts_18 (by decide) (fun _ => ?_) (fun z_9 => absurd (Int32.le_refl _) z_9)
    exact kk lo f e0 e1 e2 e3 q1
  | succ r ih =>
    intro lo i f hi q1 q2 e0 e1 e2 e3 e4
    have hlt : ¬ nI c ≤ nI i := by
      rw [Int32.le_iff_toInt_le, nI_toInt (n := c) (by omega), nI_toInt (n := i) (by omega)]
      omega
    have hlen := mo_flt_len g b i
    obtain ⟨t1, t2⟩ := mo_tim_in hp (show i < 52 by omega)
    obtain ⟨u1, u2⟩ := mo_tim_in hp (show (mo_flt g b i).length < 52 by omega)
    have hval : (mo_blk s p f).2 16 (52 * nI p + nI i).toNatClampNeg = g i := by rw [t2, mo_blk_at (by omega)]; exact q2 i (Nat.le_refl _)
    refine hp_iload C dX6_counts_10 e4 ?_
    refine hp_aload_nR C dX6_counts_12 e0 ?_
    refine mo_getA C sh fl_X6_56_6 rfl (by decide) dX6_counts_13 ?_
    refine hp_iload_n C dX6_counts_16 e1 ?_
    refine mo_aldv (v := nI c) C sh rfl (by decide) (by rw [p2, mo_blk_ne (by decide)]; exact hcn) dX6_counts_17 (by exact p1) ?_
    refine hp_icmp_ge (tgt := 70) C dX6_counts_18 (by decide) (fun z_9 => absurd z_9 hlt) (fun _ => ?_)
    refine hp_aload_nR C dX6_counts_21 e0 ?_
    refine mo_getA C sh fl_X6_53_6 rfl (by decide) dX6_counts_22 ?_
    refine hp_iload_n C dX6_counts_25 e2 ?_
    refine hp_iload C dX6_counts_26 e4 ?_
    refine hp_iadd C dX6_counts_28 ?_
    refine mo_aldv (v := g i) C sh rfl (by decide) hval dX6_counts_29 (by exact t1) ?_
    refine hp_aload_nR C dX6_counts_30 e0 ?_
    refine mo_getS C sh fl_X6_82_6 rfl (by decide) (v := s.1 18) rfl dX6_counts_31 ?_
    refine hp_aload_nR C dX6_counts_34 e0 ?_
    refine mo_getA C sh fl_X6_32_6 rfl (by decide) dX6_counts_35 ?_
    refine hp_iload_n C dX6_counts_38 e1 ?_
    refine mo_aldv (v := s.2 9 p) C sh rfl (by decide) (by rw [p2, mo_blk_ne (by decide)]) dX6_counts_39 (by exact p1) ?_
    refine hp_isub C dX6_counts_40 ?_
    rw [hb]
    refine hp_icmp_lt (tgt := 64) C dX6_counts_41 (by decide) (fun c_41 => ?_) (fun c_41 => ?_)
    · have hf : mo_flt g b (i + 1) = mo_flt g b i := by
        show mo_flt g b i ++ (if g i < b then [] else [g i]) = _
        rw [if_pos c_41, List.append_nil]
      refine hp_iinc C dX6_counts_64 e4 (by decide) rfl ?_
      refine hp_goto (tgt := 10) C dX6_counts_67 (by decide) ?_
      exact ih _ (i + 1) f (by omega) (by rw [hf]; exact q1) (fun j hj => q2 j (by omega)) e0 e1 e2 (by rw [hf]; exact e3) ((va_up_self _ _ _).trans (by rw [mo_succ (by omega)]))
    · have hf : mo_flt g b (i + 1) = mo_flt g b i ++ [g i] := by
        show mo_flt g b i ++ (if g i < b then [] else [g i]) = _
        rw [if_neg c_41]
      refine hp_aload_nR C dX6_counts_44 e0 ?_
      refine mo_getA C sh fl_X6_53_6 rfl (by decide) dX6_counts_45 ?_
      refine hp_iload_n C dX6_counts_48 e2 ?_
      refine hp_iload_n C dX6_counts_49 e3 ?_
      refine hp_iadd C dX6_counts_50 ?_
      refine hp_aload_nR C dX6_counts_51 e0 ?_
      refine mo_getA C sh fl_X6_53_6 rfl (by decide) dX6_counts_52 ?_
      refine hp_iload_n C dX6_counts_55 e2 ?_
      refine hp_iload C dX6_counts_56 e4 ?_
      refine hp_iadd C dX6_counts_58 ?_
      refine mo_aldv (v := g i) C sh rfl (by decide) hval dX6_counts_59 (by exact t1) ?_
      refine mo_ast C sh rfl (by decide) dX6_counts_60 (by exact u1) ?_
      rw [u2, mo_blk_up (by omega)]
      refine hp_iinc C dX6_counts_61 e3 (by decide) rfl ?_
      refine hp_iinc C dX6_counts_64 e4 (by decide) rfl ?_
      refine hp_goto (tgt := 10) C dX6_counts_67 (by decide) ?_
      have hl2 : (mo_flt g b (i + 1)).length = (mo_flt g b i).length + 1 := by rw [hf, List.length_append]; rfl
      refine ih _ (i + 1) _ (by omega) (fun j v hj => ?_) (fun j hj => ?_) e0 e1 e2 ?_ ?_
      · rw [hf] at hj
        by_cases c1 : j < (mo_flt g b i).length
        · rw [List.getElem?_append_left c1] at hj
          rw [va_up_ne _ _ (by omega)]
          exact q1 j v hj
        · rw [List.getElem?_append_right (by omega)] at hj
          have hz : j - (mo_flt g b i).length < 1 := (List.getElem?_eq_some_iff.mp hj).1
          have ej : j = (mo_flt g b i).length := by omega
          rw [ej, Nat.sub_self] at hj
          cases hj
          rw [ej, va_up_self]
      · rw [va_up_ne _ _ (by omega)]
        exact q2 j (by omega)
      · rw [hl2, ← mo_succ (by omega)]
        rfl
      · exact (va_up_self _ _ _).trans (by rw [mo_succ (by omega)])
theorem hp_Vc {M : hpM} {G : hpG} {nL : Nat} {Q : State → Prop} {h1 h2 : hpT} {pc : Nat} {lo : Nat → Option Value} {st : List Value} (e : h1 = h2) (x : hp_V M G nL Q h2 pc lo st) : hp_V M G nL Q h1 pc lo st := by
  rw [e]
  exact x
/-- what counts leaves: L times and this one -/
def mo_cnt (s : moS) (p c : Nat) : List Int32 := mo_flt (fun j => s.2 16 (52 * p + j)) (s.1 18 - s.2 9 p) c ++ [s.1 18]
set_option maxRecDepth 20000 in
set_option maxHeartbeats 4000000 in
theorem mo_counts {l : Launch} {G : hpG} {h : hpT} {m d : Nat} {s : moS} (sh : mo_sh G h m) {p c : Nat} (hp : p < 80) (hc : c ≤ 51) (hcn : s.2 17 p = nI c) : hp_C l G yX6_counts (.code yX6_counts cX6_counts 5 (some .boolean)) d [.ref m, .int (nI p)] (mo_w h m s)
    (fun v h' => ∃ f : Nat → Int32, v = some (.int (if nI (mo_cnt s p c).length ≤ s.2 8 p then 0 else 1)) ∧ h' = mo_w h m (mo_pt (mo_up (mo_blk s p f) 17 p (nI (mo_cnt s p c).length)) 21 (s.1 21 + 1)) ∧ ∀ j v, (mo_cnt s p c)[j]? = some v → f j = v) (fun _ _ => False) := by
  refine hp_ofV (by decide) (by simp [Value.category]) (Nat.le_of_ble_eq_true rfl) (fun M C hr hx el => ?_)
  obtain ⟨p1, p2⟩ := nI_80 hp
  have hlen := mo_flt_len (fun j => s.2 16 (52 * p + j)) (s.1 18 - s.2 9 p) c
  have hl2 : (mo_cnt s p c).length = (mo_flt (fun j => s.2 16 (52 * p + j)) (s.1 18 - s.2 9 p) c).length + 1 := by unfold mo_cnt; rw [List.length_append]; rfl
  obtain ⟨u1, u2⟩ := mo_tim_in hp (show (mo_flt (fun j => s.2 16 (52 * p + j)) (s.1 18 - s.2 9 p) c).length < 52 by omega)
  refine hp_bipush (v := 52) C dX6_counts_0 (by decide) ?_
  refine hp_iload_n C dX6_counts_2 rfl ?_
  refine hp_imul C dX6_counts_3 ?_
  refine hp_istore_n C dX6_counts_4 (by decide) ?_
  refine hp_iconst (v := 0) C dX6_counts_5 (by decide) ?_
  refine hp_istore_n C dX6_counts_6 (by decide) ?_
  refine hp_iconst (v := 0) C dX6_counts_7 (by decide) ?_
  refine hp_istore C dX6_counts_8 (by decide) ?_
  refine hp_Vc (h2 := mo_w h m (mo_blk s p (fun j => s.2 16 (52 * p + j)))) (by rw [mo_blk_self]) ?_
  refine mo_cntL sh C hp hc hcn (g := fun j => s.2 16 (52 * p + j)) rfl (fun lo f e0 e1 e2 e3 q1 => ?_) c _ 0 _ (by omega) (fun j v hj => by cases hj) (fun j _ => rfl) rfl rfl rfl rfl rfl
  refine hp_aload_nR C dX6_counts_70 e0 ?_
  refine mo_getA C sh fl_X6_53_6 rfl (by decide) dX6_counts_71 ?_
  refine hp_iload_n C dX6_counts_74 e2 ?_
  refine hp_iload_n C dX6_counts_75 e3 ?_
  refine hp_iadd C dX6_counts_76 ?_
  refine hp_aload_nR C dX6_counts_77 e0 ?_
  refine mo_getS C sh fl_X6_82_6 rfl (by decide) (v := s.1 18) rfl dX6_counts_78 ?_
  refine mo_ast C sh rfl (by decide) dX6_counts_81 (by exact u1) ?_
  rw [u2, mo_blk_up (by omega)]
  refine hp_aload_nR C dX6_counts_82 e0 ?_
  refine mo_getA C sh fl_X6_56_6 rfl (by decide) dX6_counts_83 ?_
  refine hp_iload_n C dX6_counts_86 e1 ?_
  refine hp_iload_n C dX6_counts_87 e3 ?_
  refine hp_iconst (v := 1) C dX6_counts_88 (by decide) ?_
  refine hp_iadd C dX6_counts_89 ?_
  have es : nI (mo_flt (fun j => s.2 16 (52 * p + j)) (s.1 18 - s.2 9 p) c).length + 1 = nI (mo_cnt s p c).length := by rw [hl2, ← mo_succ (by omega)]; rfl
  refine mo_ast C sh rfl (by decide) dX6_counts_90 (by exact p1) ?_
  rw [p2, es]
  refine hp_aload_nR C dX6_counts_91 e0 ?_
  refine hp_dup C dX6_counts_92 rfl ?_
  refine mo_getS C sh fl_X6_100_6 rfl (by decide) (v := s.1 21) rfl dX6_counts_93 ?_
  refine hp_iconst (v := 1) C dX6_counts_96 (by decide) ?_
  refine hp_iadd C dX6_counts_97 ?_
  refine mo_putS C sh fl_X6_100_6 rfl (by decide) rfl rfl rfl dX6_counts_98 ?_
  refine hp_iload_n C dX6_counts_101 e3 ?_
  refine hp_iconst (v := 1) C dX6_counts_102 (by decide) ?_
  refine hp_iadd C dX6_counts_103 ?_
  rw [es]
  refine hp_aload_nR C dX6_counts_104 e0 ?_
  refine mo_getA C sh fl_X6_29_6 rfl (by decide) dX6_counts_105 ?_
  refine hp_iload_n C dX6_counts_108 e1 ?_
  refine mo_aldv (v := s.2 8 p) C sh rfl (by decide) (by rw [p2]; rfl) dX6_counts_109 (by exact p1) ?_
  have hf : ∀ j v, (mo_cnt s p c)[j]? = some v → va_up f (mo_flt (fun j => s.2 16 (52 * p + j)) (s.1 18 - s.2 9 p) c).length (s.1 18) j = v := by
    intro j v hj
    unfold mo_cnt at hj
    by_cases c1 : j < (mo_flt (fun j => s.2 16 (52 * p + j)) (s.1 18 - s.2 9 p) c).length
    · rw [List.getElem?_append_left c1] at hj
      rw [va_up_ne _ _ (by omega)]
      exact q1 j v hj
    · rw [List.getElem?_append_right (by omega)] at hj
      have hz : j - (mo_flt (fun j => s.2 16 (52 * p + j)) (s.1 18 - s.2 9 p) c).length < 1 := (List.getElem?_eq_some_iff.mp hj).1
      have ej : j = (mo_flt (fun j => s.2 16 (52 * p + j)) (s.1 18 - s.2 9 p) c).length := by omega
      rw [ej, Nat.sub_self] at hj
      cases hj
      rw [ej, va_up_self]
  refine hp_icmp_le (tgt := 117) C dX6_counts_110 (by decide) (fun c_110 => ?_) (fun c_110 => ?_)
  · refine hp_iconst (v := 0) C dX6_counts_117 (by decide) ?_
    refine hp_iret C hr (by decide) dX6_counts_118 ?_
    exact ⟨_, by rw [if_pos c_110], rfl, hf⟩
  · refine hp_iconst (v := 1) C dX6_counts_113 (by decide) ?_
    refine hp_goto (tgt := 118) C dX6_counts_114 (by decide) ?_
    refine hp_iret C hr (by decide) dX6_counts_118 ?_
    exact ⟨_, by rw [if_neg c_110], rfl, hf⟩
/-! ===== goes: a row closes up, all below are gone ===== -/
/-- keeper p's row holds f -/
def mo_rb (s : moS) (p : Nat) (f : Nat → Int32) : moS := (s.1, va_up s.2 14 (fun q => if 80 * p ≤ q ∧ q < 80 * p + 80 then f (q - 80 * p) else s.2 14 q))
theorem mo_rb_14 {s : moS} {p q : Nat} {f : Nat → Int32} : (mo_rb s p f).2 14 q = if 80 * p ≤ q ∧ q < 80 * p + 80 then f (q - 80 * p) else s.2 14 q := by
  show (va_up s.2 14 (fun q => if 80 * p ≤ q ∧ q < 80 * p + 80 then f (q - 80 * p) else s.2 14 q)) 14 q = _
  rw [va_up_self]
theorem mo_rb_at {s : moS} {p j : Nat} {f : Nat → Int32} (hj : j < 80) : (mo_rb s p f).2 14 (80 * p + j) = f j := by
  rw [mo_rb_14, if_pos ⟨by omega, by omega⟩, Nat.add_sub_cancel_left]
theorem mo_rb_ne {s : moS} {p k : Nat} {f : Nat → Int32} (hk : k ≠ 14) : (mo_rb s p f).2 k = s.2 k := va_up_ne _ _ hk
theorem mo_rb_up {s : moS} {p j : Nat} {f : Nat → Int32} {v : Int32} (hj : j < 80) : mo_up (mo_rb s p f) 14 (80 * p + j) v = mo_rb s p (va_up f j v) := by
  refine Prod.ext rfl (funext fun k => ?_)
  by_cases hk : k = 14
  · subst hk
    funext q
    rw [mo_rb_14]
    show va_up (mo_rb s p f).2 14 (va_up ((mo_rb s p f).2 14) (80 * p + j) v) 14 q = _
    rw [va_up_self]
    by_cases e : q = 80 * p + j
    · rw [e, va_up_self, if_pos ⟨by omega, by omega⟩, Nat.add_sub_cancel_left, va_up_self]
    · rw [va_up_ne _ _ e, mo_rb_14]
      by_cases c : 80 * p ≤ q ∧ q < 80 * p + 80
      · rw [if_pos c, if_pos c, va_up_ne _ _ (by omega)]
      · rw [if_neg c, if_neg c]
  · rw [mo_rb_ne hk]
    show va_up (mo_rb s p f).2 14 _ k = _
    rw [va_up_ne _ _ hk, mo_rb_ne hk]
theorem mo_rb_self (s : moS) (p : Nat) : mo_rb s p (fun j => s.2 14 (80 * p + j)) = s := by
  refine Prod.ext rfl (funext fun k => ?_)
  by_cases hk : k = 14
  · subst hk
    funext q
    rw [mo_rb_14]
    by_cases c : 80 * p ≤ q ∧ q < 80 * p + 80
    · rw [if_pos c, show 80 * p + (q - 80 * p) = q by omega]
    · rw [if_neg c]
  · exact mo_rb_ne hk
theorem mo_ltI {a b : Nat} (ha : a < 1000000) (hb : b < 1000000) : nI a < nI b ↔ a < b := by
  rw [Int32.lt_iff_toInt_lt, nI_toInt (n := a) (by omega), nI_toInt (n := b) (by omega)]
  omega
theorem mo_leI {a b : Nat} (ha : a < 1000000) (hb : b < 1000000) : nI a ≤ nI b ↔ a ≤ b := by
  rw [Int32.le_iff_toInt_le, nI_toInt (n := a) (by omega), nI_toInt (n := b) (by omega)]
  omega
/-- the row closes up from place t on, as far as place i -/
def mo_shf (g : Nat → Int32) (t i : Nat) : Nat → Int32 := fun j => if t ≤ j ∧ j < i then g (j + 1) else g j
theorem mo_shf_up {g : Nat → Int32} {t i : Nat} (h : t ≤ i) : va_up (mo_shf g t i) i (g (i + 1)) = mo_shf g t (i + 1) := by
  funext j
  by_cases e : j = i
  · subst e
    rw [va_up_self]
    unfold mo_shf
    rw [if_pos ⟨h, by omega⟩]
  · rw [va_up_ne _ _ e]
    unfold mo_shf
    by_cases c : t ≤ j ∧ j < i
    · rw [if_pos c, if_pos ⟨c.1, by omega⟩]
    · rw [if_neg c, if_neg (by omega)]
set_option maxRecDepth 20000 in
set_option maxHeartbeats 4000000 in
theorem mo_goeL {M : hpM} {G : hpG} {d : Nat} {h0 h : hpT} {m : Nat} {s : moS} {Q : State → Prop} (sh : mo_sh G h m) (C : hp_F M G yX6_goes cX6_goes 5 d h0) {n : Int32} {p c t : Nat} (hp : p < 80) (hc : c ≤ 80) (hcn : s.2 15 p = nI c) {g : Nat → Int32} (ht : t < c)
    (kk : ∀ (lo : Nat → Option Value), lo 0 = some (.ref m) → lo 1 = some (.int n) → lo 2 = some (.int (nI p)) → hp_V M G 5 Q (mo_w h m (mo_rb s p (mo_shf g t (c - 1)))) 55 lo []) :
    ∀ (r : Nat) (lo : Nat → Option Value) (i : Nat), i + 1 + r = c → t ≤ i → lo 0 = some (.ref m) → lo 1 = some (.int n) → lo 2 = some (.int (nI p)) → lo 3 = some (.int (nI i)) → hp_V M G 5 Q (mo_w h m (mo_rb s p (mo_shf g t i))) 13 lo [] := by
  obtain ⟨p1, p2⟩ := nI_80 hp
  intro r
  induction r with
  | zero =>
    intro lo i hi hti e0 e1 e2 e3
    refine hp_iload_n C dX6_goes_13 e3 ?_
    refine hp_iconst (v := 1) C dX6_goes_14 (by decide) ?_
    refine hp_iadd C dX6_goes_15 ?_
    refine hp_aload_nR C dX6_goes_16 e0 ?_
    refine mo_getA C sh fl_X6_50_6 rfl (by decide) dX6_goes_17 ?_
    refine hp_iload_n C dX6_goes_20 e2 ?_
    refine mo_aldv (v := nI c) C sh rfl (by decide) (by rw [p2, mo_rb_ne (by decide)]; exact hcn) dX6_goes_21 (by exact p1) ?_
    have es : nI i + 1 = nI (i + 1) := mo_succ (by omega)
    rw [es]
    refine hp_icmp_ge (tgt := 55) C dX6_goes_22 (by decide) (fun _ => ?_) (fun z_9 => absurd ((mo_leI (by omega) (by omega)).mpr (by omega)) z_9)
    have := kk lo e0 e1 e2
    rw [show c - 1 = i by omega] at this
    exact this
  | succ r ih =>
    intro lo i hi hti e0 e1 e2 e3
    obtain ⟨t1, t2⟩ := mo_row_in hp (show i < 80 by omega)
    obtain ⟨u1, u2⟩ := mo_row_in hp (show i + 1 < 80 by omega)
    have es : nI i + 1 = nI (i + 1) := mo_succ (by omega)
    refine hp_iload_n C dX6_goes_13 e3 ?_
    refine hp_iconst (v := 1) C dX6_goes_14 (by decide) ?_
    refine hp_iadd C dX6_goes_15 ?_
    refine hp_aload_nR C dX6_goes_16 e0 ?_
    refine mo_getA C sh fl_X6_50_6 rfl (by decide) dX6_goes_17 ?_
    refine hp_iload_n C dX6_goes_20 e2 ?_
    refine mo_aldv (v := nI c) C sh rfl (by decide) (by rw [p2, mo_rb_ne (by decide)]; exact hcn) dX6_goes_21 (by exact p1) ?_
    rw [es]
    refine hp_icmp_ge (tgt := 55) C dX6_goes_22 (by decide) (fun z_9 => absurd ((mo_leI (by omega) (by omega)).mp z_9) (by omega)) (fun _ => ?_)
    refine hp_aload_nR C dX6_goes_25 e0 ?_
    refine mo_getA C sh fl_X6_47_6 rfl (by decide) dX6_goes_26 ?_
    refine hp_bipush (v := 80) C dX6_goes_29 (by decide) ?_
    refine hp_iload_n C dX6_goes_31 e2 ?_
    refine hp_imul C dX6_goes_32 ?_
    refine hp_iload_n C dX6_goes_33 e3 ?_
    refine hp_iadd C dX6_goes_34 ?_
    refine hp_aload_nR C dX6_goes_35 e0 ?_
    refine mo_getA C sh fl_X6_47_6 rfl (by decide) dX6_goes_36 ?_
    refine hp_bipush (v := 80) C dX6_goes_39 (by decide) ?_
    refine hp_iload_n C dX6_goes_41 e2 ?_
    refine hp_imul C dX6_goes_42 ?_
    refine hp_iload_n C dX6_goes_43 e3 ?_
    refine hp_iadd C dX6_goes_44 ?_
    refine hp_iconst (v := 1) C dX6_goes_45 (by decide) ?_
    refine hp_iadd C dX6_goes_46 ?_
    rw [show 80 * nI p + nI i + 1 = 80 * nI p + nI (i + 1) by rw [← es, Int32.add_assoc]]
    refine mo_aldv (v := g (i + 1)) C sh rfl (by decide) (by rw [u2, mo_rb_at (by omega)]; unfold mo_shf; rw [if_neg (by omega)]) dX6_goes_47 (by exact u1) ?_
    refine mo_ast C sh rfl (by decide) dX6_goes_48 (by exact t1) ?_
    rw [t2, mo_rb_up (by omega), mo_shf_up hti]
    refine hp_iinc C dX6_goes_49 e3 (by decide) rfl ?_
    refine hp_goto (tgt := 13) C dX6_goes_52 (by decide) ?_
    exact ih _ (i + 1) (by omega) (by omega) e0 e1 e2 ((va_up_self _ _ _).trans (by rw [mo_succ (by omega)]))
/-- the nodes' states, and how many are gone, behind k steps from q on -/
def mo_gs (st par : Nat → Int32) (q : Nat) : Nat → (Nat → Int32) × Nat
  | 0 => (st, 1)
  | k + 1 => if (mo_gs st par q k).1 (q + k) = 2 then mo_gs st par q k else if (mo_gs st par q k).1 (par (q + k)).toNatClampNeg = 2 then (va_up (mo_gs st par q k).1 (q + k) 2, (mo_gs st par q k).2 + 1) else mo_gs st par q k
theorem mo_gs_le (st par : Nat → Int32) (q : Nat) : ∀ k, (mo_gs st par q k).2 ≤ k + 1
  | 0 => Nat.le_refl _
  | k + 1 => by
    have := mo_gs_le st par q k
    unfold mo_gs
    split
    · omega
    · split
      · show (mo_gs st par q k).2 + 1 ≤ _
        omega
      · omega
/-- the nodes' states are f -/
def mo_sv (s : moS) (f : Nat → Int32) : moS := (s.1, va_up s.2 5 f)
theorem mo_sv_up {s : moS} {f : Nat → Int32} {j : Nat} {v : Int32} : mo_up (mo_sv s f) 5 j v = mo_sv s (va_up f j v) := by
  refine Prod.ext rfl (funext fun k => ?_)
  show va_up (va_up s.2 5 f) 5 (va_up (va_up s.2 5 f 5) j v) k = va_up s.2 5 (va_up f j v) k
  by_cases hk : k = 5
  · subst hk
    rw [va_up_self, va_up_self, va_up_self]
  · rw [va_up_ne _ _ hk, va_up_ne _ _ hk, va_up_ne _ _ hk]
theorem mo_sv_5 {s : moS} {f : Nat → Int32} : (mo_sv s f).2 5 = f := by
  show va_up s.2 5 f 5 = f
  rw [va_up_self]
theorem mo_sv_ne {s : moS} {f : Nat → Int32} {k : Nat} (hk : k ≠ 5) : (mo_sv s f).2 k = s.2 k := va_up_ne _ _ hk
theorem mo_sv_self (s : moS) : mo_sv s (s.2 5) = s := by
  refine Prod.ext rfl (funext fun k => ?_)
  by_cases hk : k = 5
  · subst hk; exact mo_sv_5
  · exact mo_sv_ne hk
set_option maxRecDepth 20000 in
set_option maxHeartbeats 4000000 in
theorem mo_gonL {M : hpM} {G : hpG} {d : Nat} {h0 h : hpT} {m : Nat} {s : moS} {X : String → hpT → Prop} {P : Option Value → hpT → Prop} (sh : mo_sh G h m) (C : hp_F M G yX6_goes cX6_goes 5 d h0) (hr : (hp_mt M).sig.returnType = some .int) {q mk : Nat} (hmk : mk ≤ 80) (hmn : s.1 1 = nI mk) (hq : q ≤ mk) (hpar : ∀ j, q ≤ j → j < mk → vp_in (s.2 3 j) 80) {st : Nat → Int32}
    (hP : P (some (.int (nI (mo_gs st (s.2 3) q (mk - q)).2))) (mo_w h m (mo_sv s (mo_gs st (s.2 3) q (mk - q)).1))) :
    ∀ (r : Nat) (lo : Nat → Option Value) (k : Nat), q + k + r = mk → lo 0 = some (.ref m) → lo 3 = some (.int (nI (mo_gs st (s.2 3) q k).2)) → lo 4 = some (.int (nI (q + k))) → hp_V M G 5 (hp_Q M G h0 P X) (mo_w h m (mo_sv s (mo_gs st (s.2 3) q k).1)) 87 lo [] := by
  intro r
  induction r with
  | zero =>
    intro lo k hk e0 e3 e4
    have hk2 : k = mk - q := by omega
    rw [← hk2] at hP
    refine hp_iload C dX6_goes_87 e4 ?_
    refine hp_aload_nR C dX6_goes_89 e0 ?_
    refine mo_getS C sh fl_X6_68_6 rfl (by decide) (v := nI mk) hmn dX6_goes_90 ?_
    refine hp_icmp_ge (tgt := 140) C dX6_goes_93 (by decide) (fun _ => ?_) (fun z_9 => absurd ((mo_leI (by omega) (by omega)).mpr (by omega)) z_9)
    refine hp_iload_n C dX6_goes_140 e3 ?_
    refine hp_iret C hr rfl dX6_goes_141 ?_
    exact hP
  | succ r ih =>
    intro lo k hk e0 e3 e4
    obtain ⟨j1, j2⟩ := nI_80 (show q + k < 80 by omega)
    have hg : mo_gs st (s.2 3) q (k + 1) = if (mo_gs st (s.2 3) q k).1 (q + k) = 2 then mo_gs st (s.2 3) q k else if (mo_gs st (s.2 3) q k).1 (s.2 3 (q + k)).toNatClampNeg = 2 then (va_up (mo_gs st (s.2 3) q k).1 (q + k) 2, (mo_gs st (s.2 3) q k).2 + 1) else mo_gs st (s.2 3) q k := rfl
    have hle := mo_gs_le st (s.2 3) q k
    have en : nI (q + k) + Int32.ofInt 1 = nI (q + (k + 1)) := mo_succ (by omega)
    refine hp_iload C dX6_goes_87 e4 ?_
    refine hp_aload_nR C dX6_goes_89 e0 ?_
    refine mo_getS C sh fl_X6_68_6 rfl (by decide) (v := nI mk) hmn dX6_goes_90 ?_
    refine hp_icmp_ge (tgt := 140) C dX6_goes_93 (by decide) (fun z_9 => absurd ((mo_leI (by omega) (by omega)).mp z_9) (by omega)) (fun _ => ?_)
    refine hp_aload_nR C dX6_goes_96 e0 ?_
    refine mo_getA C sh fl_X6_20_6 rfl (by decide) dX6_goes_97 ?_
    refine hp_iload C dX6_goes_100 e4 ?_
    refine mo_aldv (v := (mo_gs st (s.2 3) q k).1 (q + k)) C sh rfl (by decide) (by rw [j2, mo_sv_5]) dX6_goes_102 (by exact j1) ?_
    refine hp_iconst (v := 2) C dX6_goes_103 (by decide) ?_
    refine hp_icmp_eq (tgt := 134) C dX6_goes_104 (by decide) (fun c_104 => ?_) (fun c_104 => ?_)
    · rw [if_pos c_104] at hg
      refine hp_iinc C dX6_goes_134 e4 (by decide) rfl ?_
      refine hp_goto (tgt := 87) C dX6_goes_137 (by decide) ?_
      have := ih (va_up lo 4 (some (.int (nI (q + k) + Int32.ofInt 1)))) (k + 1) (by omega) e0 (by rw [hg]; exact e3) ((va_up_self _ _ _).trans (by rw [en]))
      rw [hg] at this
      exact this
    · rw [if_neg c_104] at hg
      refine hp_aload_nR C dX6_goes_107 e0 ?_
      refine mo_getA C sh fl_X6_20_6 rfl (by decide) dX6_goes_108 ?_
      refine hp_aload_nR C dX6_goes_111 e0 ?_
      refine mo_getA C sh fl_X6_13_6 rfl (by decide) dX6_goes_112 ?_
      refine hp_iload C dX6_goes_115 e4 ?_
      refine mo_aldv (v := s.2 3 (q + k)) C sh rfl (by decide) (by rw [j2, mo_sv_ne (by decide)]) dX6_goes_117 (by exact j1) ?_
      refine mo_aldv (v := (mo_gs st (s.2 3) q k).1 (s.2 3 (q + k)).toNatClampNeg) C sh rfl (by decide) (by rw [mo_sv_5]) dX6_goes_118 (by exact hpar _ (by omega) (by omega)) ?_
      refine hp_iconst (v := 2) C dX6_goes_119 (by decide) ?_
      refine hp_icmp_ne (tgt := 134) C dX6_goes_120 (by decide) (fun c_120 => ?_) (fun c_120 => ?_)
      · rw [if_neg c_120] at hg
        refine hp_iinc C dX6_goes_134 e4 (by decide) rfl ?_
        refine hp_goto (tgt := 87) C dX6_goes_137 (by decide) ?_
        have := ih (va_up lo 4 (some (.int (nI (q + k) + Int32.ofInt 1)))) (k + 1) (by omega) e0 (by rw [hg]; exact e3) ((va_up_self _ _ _).trans (by rw [en]))
        rw [hg] at this
        exact this
      · rw [if_pos c_120] at hg
        refine hp_aload_nR C dX6_goes_123 e0 ?_
        refine mo_getA C sh fl_X6_20_6 rfl (by decide) dX6_goes_124 ?_
        refine hp_iload C dX6_goes_127 e4 ?_
        refine hp_iconst (v := 2) C dX6_goes_129 (by decide) ?_
        refine mo_ast C sh rfl (by decide) dX6_goes_130 (by exact j1) ?_
        rw [j2, mo_sv_up]
        refine hp_iinc C dX6_goes_131 e3 (by decide) rfl ?_
        refine hp_iinc C dX6_goes_134 e4 (by decide) rfl ?_
        refine hp_goto (tgt := 87) C dX6_goes_137 (by decide) ?_
        have := ih (va_up (va_up lo 3 (some (.int (nI (mo_gs st (s.2 3) q k).2 + Int32.ofInt 1)))) 4 (some (.int (nI (q + k) + Int32.ofInt 1)))) (k + 1) (by omega) e0 (by rw [hg, ← mo_succ (by omega)]; rfl) ((va_up_self _ _ _).trans (by rw [en]))
        rw [hg] at this
        exact this
theorem mo_note_ne {s : moS} {a b c : Int32} {k : Nat} (hk : k ≠ 20) : (mo_note s a b c).2 k = s.2 k := by
  unfold mo_note
  split
  · rfl
  · show va_up (va_up (va_up (va_up s.2 20 _) 20 _) 20 _) 20 _ k = _
    rw [va_up_ne _ _ hk, va_up_ne _ _ hk, va_up_ne _ _ hk, va_up_ne _ _ hk]
theorem mo_note_1 {s : moS} {a b c : Int32} {k : Nat} (hk : k ≠ 19) : (mo_note s a b c).1 k = s.1 k := by
  unfold mo_note
  split
  · exact va_up_ne _ _ hk
  · exact va_up_ne _ _ hk
/-- behind goes: the row of keeper p without place t, the event -/
def mo_g1 (s : moS) (p t c : Nat) : moS := mo_up (mo_rb s p (mo_shf (fun j => s.2 14 (80 * p + j)) t (c - 1))) 15 p (nI c - 1)
def mo_g2 (s : moS) (a p t c : Nat) : moS := mo_note (mo_g1 s p t c) 7 (nI a) 0
def mo_gz (s : moS) (a mk : Nat) : (Nat → Int32) × Nat := mo_gs (va_up (s.2 5) a 2) (s.2 3) (a + 1) (mk - (a + 1))
theorem mo_g1_ne {s : moS} {p t c k : Nat} (h1 : k ≠ 14) (h2 : k ≠ 15) : (mo_g1 s p t c).2 k = s.2 k := by
  show va_up (mo_rb s p _).2 15 _ k = _
  rw [va_up_ne _ _ h2, mo_rb_ne h1]
theorem mo_g2_ne {s : moS} {a p t c k : Nat} (h1 : k ≠ 14) (h2 : k ≠ 15) (h3 : k ≠ 20) : (mo_g2 s a p t c).2 k = s.2 k := by
  unfold mo_g2
  rw [mo_note_ne h3, mo_g1_ne h1 h2]
set_option maxRecDepth 20000 in
set_option maxHeartbeats 4000000 in
theorem mo_goes {l : Launch} {G : hpG} {h : hpT} {m d : Nat} {s : moS} (sh : mo_sh G h m) (hd : 2 ≤ d) {a p c t mk : Nat} (ha : a < mk) (hmk : mk ≤ 80) (hmn : s.1 1 = nI mk) (hp : p < 80) (hpa : s.2 3 a = nI p) (hc : c ≤ 80) (hcn : s.2 15 p = nI c) (ht : t < c) (hat : s.2 14 (80 * p + t) = nI a) (hno : ∀ j, j < t → ¬ s.2 14 (80 * p + j) = nI a) (hev : mo_evk s) (hpar : ∀ j, a + 1 ≤ j → j < mk → vp_in (s.2 3 j) 80) :
    hp_C l G yX6_goes (.code yX6_goes cX6_goes 5 (some .int)) d [.ref m, .int (nI a)] (mo_w h m s) (fun v h' => v = some (.int (nI (mo_gz s a mk).2)) ∧ h' = mo_w h m (mo_sv (mo_g2 s a p t c) (mo_gz s a mk).1)) (fun _ _ => False) := by
  refine hp_ofV (by decide) (by simp [Value.category]) (Nat.le_of_ble_eq_true rfl) (fun M C hr hx el => ?_)
  obtain ⟨p1, p2⟩ := nI_80 hp
  obtain ⟨a1, a2⟩ := nI_80 (show a < 80 by omega)
  refine hp_aload_nR C dX6_goes_0 rfl ?_
  refine mo_getA C sh fl_X6_13_6 rfl (by decide) dX6_goes_1 ?_
  refine hp_iload_n C dX6_goes_4 rfl ?_
  refine mo_aldv (v := nI p) C sh rfl (by decide) (by rw [a2]; exact hpa) dX6_goes_5 (by exact a1) ?_
  refine hp_istore_n C dX6_goes_6 (by decide) ?_
  refine hp_aload_nR C dX6_goes_7 rfl ?_
  refine hp_iload_n C dX6_goes_8 rfl ?_
  refine hp_callV (ci := 6) C ml_X6_96 im_X6_place se_X6_place rfl (by decide) (mo_place (d := d - 1) sh (p := p) (t := t) a1 (by rw [a2]; exact hpa) hp (by omega) hat hno) (by omega) dX6_goes_9 sh.o rfl rfl (by simp [Value.category]) (fun v_1 h_1 hp9 => ?_) (fun _ _ hf => hf.elim)
  obtain ⟨rfl, rfl⟩ := hp9
  refine hp_istore_n C dX6_goes_12 (by decide) ?_
  refine hp_Vc (h2 := mo_w h m (mo_rb s p (mo_shf (fun j => s.2 14 (80 * p + j)) t t))) (by rw [show mo_shf (fun j => s.2 14 (80 * p + j)) t t = (fun j => s.2 14 (80 * p + j)) from funext fun j => if_neg (by omega), mo_rb_self]) ?_
  refine mo_goeL sh C (n := nI a) hp hc hcn (g := fun j => s.2 14 (80 * p + j)) ht (fun lo e0 e1 e2 => ?_) (c - (t + 1)) _ t (by omega) (Nat.le_refl _) rfl rfl rfl rfl
  refine hp_aload_nR C dX6_goes_55 e0 ?_
  refine mo_getA C sh fl_X6_50_6 rfl (by decide) dX6_goes_56 ?_
  refine hp_iload_n C dX6_goes_59 e2 ?_
  refine hp_dup2 C dX6_goes_60 rfl rfl ?_
  refine mo_aldv (v := nI c) C sh rfl (by decide) (by rw [p2, mo_rb_ne (by decide)]; exact hcn) dX6_goes_61 (by exact p1) ?_
  refine hp_iconst (v := 1) C dX6_goes_62 (by decide) ?_
  refine hp_isub C dX6_goes_63 ?_
  refine mo_ast C sh rfl (by decide) dX6_goes_64 (by exact p1) ?_
  rw [p2]
  refine hp_Vc (h2 := mo_w h m (mo_g1 s p t c)) rfl ?_
  refine hp_aload_nR C dX6_goes_65 e0 ?_
  refine hp_bipush (v := 7) C dX6_goes_66 (by decide) ?_
  refine hp_iload_n C dX6_goes_68 e1 ?_
  refine hp_iconst (v := 0) C dX6_goes_69 (by decide) ?_
  refine hp_callV (ci := 6) C ml_X6_89 im_X6_note se_X6_note rfl (by decide) (mo_noteC (d := d - 1) sh (s := mo_g1 s p t c) hev) (by omega) dX6_goes_70 sh.o rfl rfl (by simp [Value.category]) (fun v_1 h_1 hp9 => ?_) (fun _ _ hf => hf.elim)
  obtain ⟨rfl, rfl⟩ := hp9
  have g5 : (mo_g2 s a p t c).2 5 = s.2 5 := mo_g2_ne (by decide) (by decide) (by decide)
  have g3 : (mo_g2 s a p t c).2 3 = s.2 3 := mo_g2_ne (by decide) (by decide) (by decide)
  have g1 : (mo_g2 s a p t c).1 1 = nI mk := (mo_note_1 (by decide)).trans hmn
  refine hp_Vc (h2 := mo_w h m (mo_sv (mo_g2 s a p t c) (s.2 5))) (by rw [← g5, mo_sv_self]; rfl) ?_
  refine hp_aload_nR C dX6_goes_73 e0 ?_
  refine mo_getA C sh fl_X6_20_6 rfl (by decide) dX6_goes_74 ?_
  refine hp_iload_n C dX6_goes_77 e1 ?_
  refine hp_iconst (v := 2) C dX6_goes_78 (by decide) ?_
  refine mo_ast C sh rfl (by decide) dX6_goes_79 (by exact a1) ?_
  rw [a2, mo_sv_up]
  refine hp_iconst (v := 1) C dX6_goes_80 (by decide) ?_
  refine hp_istore_n C dX6_goes_81 (by decide) ?_
  refine hp_iload_n C dX6_goes_82 e1 ?_
  refine hp_iconst (v := 1) C dX6_goes_83 (by decide) ?_
  refine hp_iadd C dX6_goes_84 ?_
  refine hp_istore C dX6_goes_85 (by decide) ?_
  have en : nI a + 1 = nI (a + 1 + 0) := mo_succ (by omega)
  refine mo_gonL sh C hr hmk g1 (show a + 1 ≤ mk by omega) (by rw [g3]; exact hpar) (st := va_up (s.2 5) a 2) ?_ (mk - (a + 1)) _ 0 (by omega) e0 rfl ((va_up_self _ _ _).trans (by rw [en]))
  rw [g3]
  exact ⟨rfl, rfl⟩
/-! ===== ceases: the end of one node ===== -/
/-- a worker that is asked to stop: what is told of it (4: killed for it); how long it takes -/
def mo_die (s : moS) (n : Int32) : Int32 := if s.2 10 n.toNatClampNeg = 0 then 4 else if s.2 10 n.toNatClampNeg ≤ 0 then 3 else if s.2 12 n.toNatClampNeg ≤ s.2 10 n.toNatClampNeg then 3 else 4
def mo_dur (s : moS) (n : Int32) : Int32 := if s.2 10 n.toNatClampNeg < 0 then s.2 12 n.toNatClampNeg else if s.2 10 n.toNatClampNeg ≤ s.2 12 n.toNatClampNeg then s.2 10 n.toNatClampNeg else s.2 12 n.toNatClampNeg
def mo_end (kl n : Int32) (s : moS) : moS := if s.2 2 n.toNatClampNeg = 0 then (if kl = 0 then mo_note (mo_up (mo_pt s 18 (s.1 18 + mo_dur s n)) 5 n.toNatClampNeg 0) (mo_die s n) n 0 else mo_note (mo_up s 5 n.toNatClampNeg 0) 4 n 0) else mo_note (mo_up s 5 n.toNatClampNeg 0) (if kl = 0 then 3 else 4) n 0
set_option maxRecDepth 20000 in
set_option maxHeartbeats 4000000 in
theorem mo_endK {M : hpM} {G : hpG} {d : Nat} {h0 h : hpT} {m : Nat} {s : moS} {Q : State → Prop} (sh : mo_sh G h m) (C : hp_F M G yX6_ceases cX6_ceases 8 d h0) (hd : 1 ≤ d) (hev : mo_evk s) {n kl fr lv al : Int32} (hn : vp_in n 80) {lo : Nat → Option Value} (e0 : lo 0 = some (.ref m)) (e2 : lo 2 = some (.int fr)) (e3 : lo 3 = some (.int kl)) (e4 : lo 4 = some (.int lv)) (e5 : lo 5 = some (.int al)) (e6 : lo 6 = some (.int n))
    (kk : ∀ (lo9 : Nat → Option Value), lo9 0 = some (.ref m) → lo9 2 = some (.int fr) → lo9 3 = some (.int kl) → lo9 4 = some (.int (lv + Int32.ofInt (-1))) → lo9 5 = some (.int (al + Int32.ofInt 1)) → hp_V M G 8 Q (mo_w h m (mo_end kl n s)) 29 lo9 []) : hp_V M G 8 Q (mo_w h m s) 187 lo [] := by
  refine hp_iload_n C dX6_ceases_187 e3 ?_
  refine hp_istore C dX6_ceases_188 (by decide) ?_
  refine hp_aload_nR C dX6_ceases_190 e0 ?_
  refine mo_getA C sh fl_X6_7_6 rfl (by decide) dX6_ceases_191 ?_
  refine hp_iload C dX6_ceases_194 e6 ?_
  refine mo_zld C sh (f := s.2 2) rfl dX6_ceases_196 (by exact hn) ?_
  refine hp_if_ne (tgt := 301) C dX6_ceases_197 (by decide) (fun c_197 => ?_) (fun c_197 => ?_)
  · refine hp_aload_nR C dX6_ceases_301 e0 ?_
    refine mo_getA C sh fl_X6_20_6 rfl (by decide) dX6_ceases_302 ?_
    refine hp_iload C dX6_ceases_305 e6 ?_
    refine hp_iconst (v := 0) C dX6_ceases_307 (by decide) ?_
    refine mo_ast C sh rfl (by decide) dX6_ceases_308 (by exact hn) ?_
    refine hp_aload_nR C dX6_ceases_309 e0 ?_
    refine hp_iload C dX6_ceases_310 rfl ?_
    refine hp_if_eq (tgt := 319) C dX6_ceases_312 (by decide) (fun c_312 => ?_) (fun c_312 => ?_)
    · refine hp_iconst (v := 3) C dX6_ceases_319 (by decide) ?_
      refine hp_iload C dX6_ceases_320 e6 ?_
      refine hp_iconst (v := 0) C dX6_ceases_322 (by decide) ?_
      refine hp_callV (ci := 6) C ml_X6_89 im_X6_note se_X6_note rfl (by decide) (mo_noteC (d := d - 1) sh hev) (by omega) dX6_ceases_323 sh.o rfl rfl (by simp [Value.category]) (fun v_1 h_1 hp => ?_) (fun _ _ hf => hf.elim)
      obtain ⟨rfl, rfl⟩ := hp
      refine hp_iinc C dX6_ceases_326 e5 (by decide) rfl ?_
      refine hp_iinc C dX6_ceases_329 e4 (by decide) rfl ?_
      refine hp_goto (tgt := 29) C dX6_ceases_332 (by decide) ?_
      refine hp_Vc (h2 := mo_w h m (mo_end kl n s)) (by unfold mo_end mo_die mo_dur; (repeat' split) <;> first | rfl | contradiction) ?_
      exact kk _ e0 e2 e3 rfl rfl
    · refine hp_iconst (v := 4) C dX6_ceases_315 (by decide) ?_
      refine hp_goto (tgt := 320) C dX6_ceases_316 (by decide) ?_
      refine hp_iload C dX6_ceases_320 e6 ?_
      refine hp_iconst (v := 0) C dX6_ceases_322 (by decide) ?_
      refine hp_callV (ci := 6) C ml_X6_89 im_X6_note se_X6_note rfl (by decide) (mo_noteC (d := d - 1) sh hev) (by omega) dX6_ceases_323 sh.o rfl rfl (by simp [Value.category]) (fun v_1 h_1 hp => ?_) (fun _ _ hf => hf.elim)
      obtain ⟨rfl, rfl⟩ := hp
      refine hp_iinc C dX6_ceases_326 e5 (by decide) rfl ?_
      refine hp_iinc C dX6_ceases_329 e4 (by decide) rfl ?_
      refine hp_goto (tgt := 29) C dX6_ceases_332 (by decide) ?_
      refine hp_Vc (h2 := mo_w h m (mo_end kl n s)) (by unfold mo_end mo_die mo_dur; (repeat' split) <;> first | rfl | contradiction) ?_
      exact kk _ e0 e2 e3 rfl rfl
  · refine hp_iload_n C dX6_ceases_200 e3 ?_
    refine hp_if_ne (tgt := 301) C dX6_ceases_201 (by decide) (fun c_201 => ?_) (fun c_201 => ?_)
    · refine hp_aload_nR C dX6_ceases_301 e0 ?_
      refine mo_getA C sh fl_X6_20_6 rfl (by decide) dX6_ceases_302 ?_
      refine hp_iload C dX6_ceases_305 e6 ?_
      refine hp_iconst (v := 0) C dX6_ceases_307 (by decide) ?_
      refine mo_ast C sh rfl (by decide) dX6_ceases_308 (by exact hn) ?_
      refine hp_aload_nR C dX6_ceases_309 e0 ?_
      refine hp_iload C dX6_ceases_310 rfl ?_
      refine hp_if_eq (tgt := 319) C dX6_ceases_312 (by decide) (fun c_312 => ?_) (fun c_312 => ?_)
      · refine hp_iconst (v := 3) C dX6_ceases_319 (by decide) ?_
        refine hp_iload C dX6_ceases_320 e6 ?_
        refine hp_iconst (v := 0) C dX6_ceases_322 (by decide) ?_
        refine hp_callV (ci := 6) C ml_X6_89 im_X6_note se_X6_note rfl (by decide) (mo_noteC (d := d - 1) sh hev) (by omega) dX6_ceases_323 sh.o rfl rfl (by simp [Value.category]) (fun v_1 h_1 hp => ?_) (fun _ _ hf => hf.elim)
        obtain ⟨rfl, rfl⟩ := hp
        refine hp_iinc C dX6_ceases_326 e5 (by decide) rfl ?_
        refine hp_iinc C dX6_ceases_329 e4 (by decide) rfl ?_
        refine hp_goto (tgt := 29) C dX6_ceases_332 (by decide) ?_
        refine hp_Vc (h2 := mo_w h m (mo_end kl n s)) (by unfold mo_end mo_die mo_dur; (repeat' split) <;> first | rfl | contradiction) ?_
        exact kk _ e0 e2 e3 rfl rfl
      · refine hp_iconst (v := 4) C dX6_ceases_315 (by decide) ?_
        refine hp_goto (tgt := 320) C dX6_ceases_316 (by decide) ?_
        refine hp_iload C dX6_ceases_320 e6 ?_
        refine hp_iconst (v := 0) C dX6_ceases_322 (by decide) ?_
        refine hp_callV (ci := 6) C ml_X6_89 im_X6_note se_X6_note rfl (by decide) (mo_noteC (d := d - 1) sh hev) (by omega) dX6_ceases_323 sh.o rfl rfl (by simp [Value.category]) (fun v_1 h_1 hp => ?_) (fun _ _ hf => hf.elim)
        obtain ⟨rfl, rfl⟩ := hp
        refine hp_iinc C dX6_ceases_326 e5 (by decide) rfl ?_
        refine hp_iinc C dX6_ceases_329 e4 (by decide) rfl ?_
        refine hp_goto (tgt := 29) C dX6_ceases_332 (by decide) ?_
        refine hp_Vc (h2 := mo_w h m (mo_end kl n s)) (by unfold mo_end mo_die mo_dur; (repeat' split) <;> first | rfl | contradiction) ?_
        exact kk _ e0 e2 e3 rfl rfl
    · refine hp_aload_nR C dX6_ceases_204 e0 ?_
      refine mo_getA C sh fl_X6_35_6 rfl (by decide) dX6_ceases_205 ?_
      refine hp_iload C dX6_ceases_208 e6 ?_
      refine mo_ald C sh (f := s.2 10) rfl (by decide) rfl dX6_ceases_210 (by exact hn) ?_
      refine hp_if_eq (tgt := 241) C dX6_ceases_211 (by decide) (fun c_211 => ?_) (fun c_211 => ?_)
      · refine hp_iconst (v := 1) C dX6_ceases_241 (by decide) ?_
        refine hp_goto (tgt := 246) C dX6_ceases_242 (by decide) ?_
        refine hp_istore C dX6_ceases_246 (by decide) ?_
        refine hp_aload_nR C dX6_ceases_248 e0 ?_
        refine hp_dup C dX6_ceases_249 rfl ?_
        refine mo_getS C sh fl_X6_82_6 rfl (by decide) (v := s.1 18) rfl dX6_ceases_250 ?_
        refine hp_aload_nR C dX6_ceases_253 e0 ?_
        refine mo_getA C sh fl_X6_35_6 rfl (by decide) dX6_ceases_254 ?_
        refine hp_iload C dX6_ceases_257 e6 ?_
        refine mo_ald C sh (f := s.2 10) rfl (by decide) rfl dX6_ceases_259 (by exact hn) ?_
        refine hp_if_lt (tgt := 280) C dX6_ceases_260 (by decide) (fun c_260 => ?_) (fun c_260 => ?_)
        · refine hp_aload_nR C dX6_ceases_280 e0 ?_
          refine mo_getA C sh fl_X6_41_6 rfl (by decide) dX6_ceases_281 ?_
          refine hp_iload C dX6_ceases_284 e6 ?_
          refine mo_ald C sh (f := s.2 12) rfl (by decide) rfl dX6_ceases_286 (by exact hn) ?_
          refine hp_goto (tgt := 297) C dX6_ceases_287 (by decide) ?_
          refine hp_iadd C dX6_ceases_297 ?_
          refine mo_putS C sh fl_X6_82_6 rfl (by decide) rfl rfl rfl dX6_ceases_298 ?_
          refine hp_aload_nR C dX6_ceases_301 e0 ?_
          refine mo_getA C sh fl_X6_20_6 rfl (by decide) dX6_ceases_302 ?_
          refine hp_iload C dX6_ceases_305 e6 ?_
          refine hp_iconst (v := 0) C dX6_ceases_307 (by decide) ?_
          refine mo_ast C sh rfl (by decide) dX6_ceases_308 (by exact hn) ?_
          refine hp_aload_nR C dX6_ceases_309 e0 ?_
          refine hp_iload C dX6_ceases_310 rfl ?_
          refine hp_if_eq (tgt := 319) C dX6_ceases_312 (by decide) (fun z_9 => absurd z_9 (by decide)) (fun _ => ?_)
          refine hp_iconst (v := 4) C dX6_ceases_315 (by decide) ?_
          refine hp_goto (tgt := 320) C dX6_ceases_316 (by decide) ?_
          refine hp_iload C dX6_ceases_320 e6 ?_
          refine hp_iconst (v := 0) C dX6_ceases_322 (by decide) ?_
          refine hp_callV (ci := 6) C ml_X6_89 im_X6_note se_X6_note rfl (by decide) (mo_noteC (d := d - 1) sh hev) (by omega) dX6_ceases_323 sh.o rfl rfl (by simp [Value.category]) (fun v_1 h_1 hp => ?_) (fun _ _ hf => hf.elim)
          obtain ⟨rfl, rfl⟩ := hp
          refine hp_iinc C dX6_ceases_326 e5 (by decide) rfl ?_
          refine hp_iinc C dX6_ceases_329 e4 (by decide) rfl ?_
          refine hp_goto (tgt := 29) C dX6_ceases_332 (by decide) ?_
          refine hp_Vc (h2 := mo_w h m (mo_end kl n s)) (by unfold mo_end mo_die mo_dur; (repeat' split) <;> first | rfl | contradiction) ?_
          exact kk _ e0 e2 e3 rfl rfl
        · refine hp_aload_nR C dX6_ceases_263 e0 ?_
          refine mo_getA C sh fl_X6_41_6 rfl (by decide) dX6_ceases_264 ?_
          refine hp_iload C dX6_ceases_267 e6 ?_
          refine mo_ald C sh (f := s.2 12) rfl (by decide) rfl dX6_ceases_269 (by exact hn) ?_
          refine hp_aload_nR C dX6_ceases_270 e0 ?_
          refine mo_getA C sh fl_X6_35_6 rfl (by decide) dX6_ceases_271 ?_
          refine hp_iload C dX6_ceases_274 e6 ?_
          refine mo_ald C sh (f := s.2 10) rfl (by decide) rfl dX6_ceases_276 (by exact hn) ?_
          refine hp_icmp_ge (tgt := 290) C dX6_ceases_277 (by decide) (fun c_277 => ?_) (fun c_277 => ?_)
          · refine hp_aload_nR C dX6_ceases_290 e0 ?_
            refine mo_getA C sh fl_X6_35_6 rfl (by decide) dX6_ceases_291 ?_
            refine hp_iload C dX6_ceases_294 e6 ?_
            refine mo_ald C sh (f := s.2 10) rfl (by decide) rfl dX6_ceases_296 (by exact hn) ?_
            refine hp_iadd C dX6_ceases_297 ?_
            refine mo_putS C sh fl_X6_82_6 rfl (by decide) rfl rfl rfl dX6_ceases_298 ?_
            refine hp_aload_nR C dX6_ceases_301 e0 ?_
            refine mo_getA C sh fl_X6_20_6 rfl (by decide) dX6_ceases_302 ?_
            refine hp_iload C dX6_ceases_305 e6 ?_
            refine hp_iconst (v := 0) C dX6_ceases_307 (by decide) ?_
            refine mo_ast C sh rfl (by decide) dX6_ceases_308 (by exact hn) ?_
            refine hp_aload_nR C dX6_ceases_309 e0 ?_
            refine hp_iload C dX6_ceases_310 rfl ?_
            refine hp_if_eq (tgt := 319) C dX6_ceases_312 (by decide) (fun z_9 => absurd z_9 (by decide)) (fun _ => ?_)
            refine hp_iconst (v := 4) C dX6_ceases_315 (by decide) ?_
            refine hp_goto (tgt := 320) C dX6_ceases_316 (by decide) ?_
            refine hp_iload C dX6_ceases_320 e6 ?_
            refine hp_iconst (v := 0) C dX6_ceases_322 (by decide) ?_
            refine hp_callV (ci := 6) C ml_X6_89 im_X6_note se_X6_note rfl (by decide) (mo_noteC (d := d - 1) sh hev) (by omega) dX6_ceases_323 sh.o rfl rfl (by simp [Value.category]) (fun v_1 h_1 hp => ?_) (fun _ _ hf => hf.elim)
            obtain ⟨rfl, rfl⟩ := hp
            refine hp_iinc C dX6_ceases_326 e5 (by decide) rfl ?_
            refine hp_iinc C dX6_ceases_329 e4 (by decide) rfl ?_
            refine hp_goto (tgt := 29) C dX6_ceases_332 (by decide) ?_
            refine hp_Vc (h2 := mo_w h m (mo_end kl n s)) (by unfold mo_end mo_die mo_dur; (repeat' split) <;> first | rfl | contradiction) ?_
            exact kk _ e0 e2 e3 rfl rfl
          · refine hp_aload_nR C dX6_ceases_280 e0 ?_
            refine mo_getA C sh fl_X6_41_6 rfl (by decide) dX6_ceases_281 ?_
            refine hp_iload C dX6_ceases_284 e6 ?_
            refine mo_ald C sh (f := s.2 12) rfl (by decide) rfl dX6_ceases_286 (by exact hn) ?_
            refine hp_goto (tgt := 297) C dX6_ceases_287 (by decide) ?_
            refine hp_iadd C dX6_ceases_297 ?_
            refine mo_putS C sh fl_X6_82_6 rfl (by decide) rfl rfl rfl dX6_ceases_298 ?_
            refine hp_aload_nR C dX6_ceases_301 e0 ?_
            refine mo_getA C sh fl_X6_20_6 rfl (by decide) dX6_ceases_302 ?_
            refine hp_iload C dX6_ceases_305 e6 ?_
            refine hp_iconst (v := 0) C dX6_ceases_307 (by decide) ?_
            refine mo_ast C sh rfl (by decide) dX6_ceases_308 (by exact hn) ?_
            refine hp_aload_nR C dX6_ceases_309 e0 ?_
            refine hp_iload C dX6_ceases_310 rfl ?_
            refine hp_if_eq (tgt := 319) C dX6_ceases_312 (by decide) (fun z_9 => absurd z_9 (by decide)) (fun _ => ?_)
            refine hp_iconst (v := 4) C dX6_ceases_315 (by decide) ?_
            refine hp_goto (tgt := 320) C dX6_ceases_316 (by decide) ?_
            refine hp_iload C dX6_ceases_320 e6 ?_
            refine hp_iconst (v := 0) C dX6_ceases_322 (by decide) ?_
            refine hp_callV (ci := 6) C ml_X6_89 im_X6_note se_X6_note rfl (by decide) (mo_noteC (d := d - 1) sh hev) (by omega) dX6_ceases_323 sh.o rfl rfl (by simp [Value.category]) (fun v_1 h_1 hp => ?_) (fun _ _ hf => hf.elim)
            obtain ⟨rfl, rfl⟩ := hp
            refine hp_iinc C dX6_ceases_326 e5 (by decide) rfl ?_
            refine hp_iinc C dX6_ceases_329 e4 (by decide) rfl ?_
            refine hp_goto (tgt := 29) C dX6_ceases_332 (by decide) ?_
            refine hp_Vc (h2 := mo_w h m (mo_end kl n s)) (by unfold mo_end mo_die mo_dur; (repeat' split) <;> first | rfl | contradiction) ?_
            exact kk _ e0 e2 e3 rfl rfl
      · refine hp_aload_nR C dX6_ceases_214 e0 ?_
        refine mo_getA C sh fl_X6_35_6 rfl (by decide) dX6_ceases_215 ?_
        refine hp_iload C dX6_ceases_218 e6 ?_
        refine mo_ald C sh (f := s.2 10) rfl (by decide) rfl dX6_ceases_220 (by exact hn) ?_
        refine hp_if_le (tgt := 245) C dX6_ceases_221 (by decide) (fun c_221 => ?_) (fun c_221 => ?_)
        · refine hp_iconst (v := 0) C dX6_ceases_245 (by decide) ?_
          refine hp_istore C dX6_ceases_246 (by decide) ?_
          refine hp_aload_nR C dX6_ceases_248 e0 ?_
          refine hp_dup C dX6_ceases_249 rfl ?_
          refine mo_getS C sh fl_X6_82_6 rfl (by decide) (v := s.1 18) rfl dX6_ceases_250 ?_
          refine hp_aload_nR C dX6_ceases_253 e0 ?_
          refine mo_getA C sh fl_X6_35_6 rfl (by decide) dX6_ceases_254 ?_
          refine hp_iload C dX6_ceases_257 e6 ?_
          refine mo_ald C sh (f := s.2 10) rfl (by decide) rfl dX6_ceases_259 (by exact hn) ?_
          refine hp_if_lt (tgt := 280) C dX6_ceases_260 (by decide) (fun c_260 => ?_) (fun c_260 => ?_)
          · refine hp_aload_nR C dX6_ceases_280 e0 ?_
            refine mo_getA C sh fl_X6_41_6 rfl (by decide) dX6_ceases_281 ?_
            refine hp_iload C dX6_ceases_284 e6 ?_
            refine mo_ald C sh (f := s.2 12) rfl (by decide) rfl dX6_ceases_286 (by exact hn) ?_
            refine hp_goto (tgt := 297) C dX6_ceases_287 (by decide) ?_
            refine hp_iadd C dX6_ceases_297 ?_
            refine mo_putS C sh fl_X6_82_6 rfl (by decide) rfl rfl rfl dX6_ceases_298 ?_
            refine hp_aload_nR C dX6_ceases_301 e0 ?_
            refine mo_getA C sh fl_X6_20_6 rfl (by decide) dX6_ceases_302 ?_
            refine hp_iload C dX6_ceases_305 e6 ?_
            refine hp_iconst (v := 0) C dX6_ceases_307 (by decide) ?_
            refine mo_ast C sh rfl (by decide) dX6_ceases_308 (by exact hn) ?_
            refine hp_aload_nR C dX6_ceases_309 e0 ?_
            refine hp_iload C dX6_ceases_310 rfl ?_
            refine hp_if_eq (tgt := 319) C dX6_ceases_312 (by decide) (fun _ => ?_) (fun z_9 => absurd z_9 (by decide))
            refine hp_iconst (v := 3) C dX6_ceases_319 (by decide) ?_
            refine hp_iload C dX6_ceases_320 e6 ?_
            refine hp_iconst (v := 0) C dX6_ceases_322 (by decide) ?_
            refine hp_callV (ci := 6) C ml_X6_89 im_X6_note se_X6_note rfl (by decide) (mo_noteC (d := d - 1) sh hev) (by omega) dX6_ceases_323 sh.o rfl rfl (by simp [Value.category]) (fun v_1 h_1 hp => ?_) (fun _ _ hf => hf.elim)
            obtain ⟨rfl, rfl⟩ := hp
            refine hp_iinc C dX6_ceases_326 e5 (by decide) rfl ?_
            refine hp_iinc C dX6_ceases_329 e4 (by decide) rfl ?_
            refine hp_goto (tgt := 29) C dX6_ceases_332 (by decide) ?_
            refine hp_Vc (h2 := mo_w h m (mo_end kl n s)) (by unfold mo_end mo_die mo_dur; (repeat' split) <;> first | rfl | contradiction) ?_
            exact kk _ e0 e2 e3 rfl rfl
          · refine hp_aload_nR C dX6_ceases_263 e0 ?_
            refine mo_getA C sh fl_X6_41_6 rfl (by decide) dX6_ceases_264 ?_
            refine hp_iload C dX6_ceases_267 e6 ?_
            refine mo_ald C sh (f := s.2 12) rfl (by decide) rfl dX6_ceases_269 (by exact hn) ?_
            refine hp_aload_nR C dX6_ceases_270 e0 ?_
            refine mo_getA C sh fl_X6_35_6 rfl (by decide) dX6_ceases_271 ?_
            refine hp_iload C dX6_ceases_274 e6 ?_
            refine mo_ald C sh (f := s.2 10) rfl (by decide) rfl dX6_ceases_276 (by exact hn) ?_
            refine hp_icmp_ge (tgt := 290) C dX6_ceases_277 (by decide) (fun c_277 => ?_) (fun c_277 => ?_)
            · refine hp_aload_nR C dX6_ceases_290 e0 ?_
              refine mo_getA C sh fl_X6_35_6 rfl (by decide) dX6_ceases_291 ?_
              refine hp_iload C dX6_ceases_294 e6 ?_
              refine mo_ald C sh (f := s.2 10) rfl (by decide) rfl dX6_ceases_296 (by exact hn) ?_
              refine hp_iadd C dX6_ceases_297 ?_
              refine mo_putS C sh fl_X6_82_6 rfl (by decide) rfl rfl rfl dX6_ceases_298 ?_
              refine hp_aload_nR C dX6_ceases_301 e0 ?_
              refine mo_getA C sh fl_X6_20_6 rfl (by decide) dX6_ceases_302 ?_
              refine hp_iload C dX6_ceases_305 e6 ?_
              refine hp_iconst (v := 0) C dX6_ceases_307 (by decide) ?_
              refine mo_ast C sh rfl (by decide) dX6_ceases_308 (by exact hn) ?_
              refine hp_aload_nR C dX6_ceases_309 e0 ?_
              refine hp_iload C dX6_ceases_310 rfl ?_
              refine hp_if_eq (tgt := 319) C dX6_ceases_312 (by decide) (fun _ => ?_) (fun z_9 => absurd z_9 (by decide))
              refine hp_iconst (v := 3) C dX6_ceases_319 (by decide) ?_
              refine hp_iload C dX6_ceases_320 e6 ?_
              refine hp_iconst (v := 0) C dX6_ceases_322 (by decide) ?_
              refine hp_callV (ci := 6) C ml_X6_89 im_X6_note se_X6_note rfl (by decide) (mo_noteC (d := d - 1) sh hev) (by omega) dX6_ceases_323 sh.o rfl rfl (by simp [Value.category]) (fun v_1 h_1 hp => ?_) (fun _ _ hf => hf.elim)
              obtain ⟨rfl, rfl⟩ := hp
              refine hp_iinc C dX6_ceases_326 e5 (by decide) rfl ?_
              refine hp_iinc C dX6_ceases_329 e4 (by decide) rfl ?_
              refine hp_goto (tgt := 29) C dX6_ceases_332 (by decide) ?_
              refine hp_Vc (h2 := mo_w h m (mo_end kl n s)) (by unfold mo_end mo_die mo_dur; (repeat' split) <;> first | rfl | contradiction) ?_
              exact kk _ e0 e2 e3 rfl rfl
            · refine hp_aload_nR C dX6_ceases_280 e0 ?_
              refine mo_getA C sh fl_X6_41_6 rfl (by decide) dX6_ceases_281 ?_
              refine hp_iload C dX6_ceases_284 e6 ?_
              refine mo_ald C sh (f := s.2 12) rfl (by decide) rfl dX6_ceases_286 (by exact hn) ?_
              refine hp_goto (tgt := 297) C dX6_ceases_287 (by decide) ?_
              refine hp_iadd C dX6_ceases_297 ?_
              refine mo_putS C sh fl_X6_82_6 rfl (by decide) rfl rfl rfl dX6_ceases_298 ?_
              refine hp_aload_nR C dX6_ceases_301 e0 ?_
              refine mo_getA C sh fl_X6_20_6 rfl (by decide) dX6_ceases_302 ?_
              refine hp_iload C dX6_ceases_305 e6 ?_
              refine hp_iconst (v := 0) C dX6_ceases_307 (by decide) ?_
              refine mo_ast C sh rfl (by decide) dX6_ceases_308 (by exact hn) ?_
              refine hp_aload_nR C dX6_ceases_309 e0 ?_
              refine hp_iload C dX6_ceases_310 rfl ?_
              refine hp_if_eq (tgt := 319) C dX6_ceases_312 (by decide) (fun _ => ?_) (fun z_9 => absurd z_9 (by decide))
              refine hp_iconst (v := 3) C dX6_ceases_319 (by decide) ?_
              refine hp_iload C dX6_ceases_320 e6 ?_
              refine hp_iconst (v := 0) C dX6_ceases_322 (by decide) ?_
              refine hp_callV (ci := 6) C ml_X6_89 im_X6_note se_X6_note rfl (by decide) (mo_noteC (d := d - 1) sh hev) (by omega) dX6_ceases_323 sh.o rfl rfl (by simp [Value.category]) (fun v_1 h_1 hp => ?_) (fun _ _ hf => hf.elim)
              obtain ⟨rfl, rfl⟩ := hp
              refine hp_iinc C dX6_ceases_326 e5 (by decide) rfl ?_
              refine hp_iinc C dX6_ceases_329 e4 (by decide) rfl ?_
              refine hp_goto (tgt := 29) C dX6_ceases_332 (by decide) ?_
              refine hp_Vc (h2 := mo_w h m (mo_end kl n s)) (by unfold mo_end mo_die mo_dur; (repeat' split) <;> first | rfl | contradiction) ?_
              exact kk _ e0 e2 e3 rfl rfl
        · refine hp_aload_nR C dX6_ceases_224 e0 ?_
          refine mo_getA C sh fl_X6_41_6 rfl (by decide) dX6_ceases_225 ?_
          refine hp_iload C dX6_ceases_228 e6 ?_
          refine mo_ald C sh (f := s.2 12) rfl (by decide) rfl dX6_ceases_230 (by exact hn) ?_
          refine hp_aload_nR C dX6_ceases_231 e0 ?_
          refine mo_getA C sh fl_X6_35_6 rfl (by decide) dX6_ceases_232 ?_
          refine hp_iload C dX6_ceases_235 e6 ?_
          refine mo_ald C sh (f := s.2 10) rfl (by decide) rfl dX6_ceases_237 (by exact hn) ?_
          refine hp_icmp_le (tgt := 245) C dX6_ceases_238 (by decide) (fun c_238 => ?_) (fun c_238 => ?_)
          · refine hp_iconst (v := 0) C dX6_ceases_245 (by decide) ?_
            refine hp_istore C dX6_ceases_246 (by decide) ?_
            refine hp_aload_nR C dX6_ceases_248 e0 ?_
            refine hp_dup C dX6_ceases_249 rfl ?_
            refine mo_getS C sh fl_X6_82_6 rfl (by decide) (v := s.1 18) rfl dX6_ceases_250 ?_
            refine hp_aload_nR C dX6_ceases_253 e0 ?_
            refine mo_getA C sh fl_X6_35_6 rfl (by decide) dX6_ceases_254 ?_
            refine hp_iload C dX6_ceases_257 e6 ?_
            refine mo_ald C sh (f := s.2 10) rfl (by decide) rfl dX6_ceases_259 (by exact hn) ?_
            refine hp_if_lt (tgt := 280) C dX6_ceases_260 (by decide) (fun c_260 => ?_) (fun c_260 => ?_)
            · refine hp_aload_nR C dX6_ceases_280 e0 ?_
              refine mo_getA C sh fl_X6_41_6 rfl (by decide) dX6_ceases_281 ?_
              refine hp_iload C dX6_ceases_284 e6 ?_
              refine mo_ald C sh (f := s.2 12) rfl (by decide) rfl dX6_ceases_286 (by exact hn) ?_
              refine hp_goto (tgt := 297) C dX6_ceases_287 (by decide) ?_
              refine hp_iadd C dX6_ceases_297 ?_
              refine mo_putS C sh fl_X6_82_6 rfl (by decide) rfl rfl rfl dX6_ceases_298 ?_
              refine hp_aload_nR C dX6_ceases_301 e0 ?_
              refine mo_getA C sh fl_X6_20_6 rfl (by decide) dX6_ceases_302 ?_
              refine hp_iload C dX6_ceases_305 e6 ?_
              refine hp_iconst (v := 0) C dX6_ceases_307 (by decide) ?_
              refine mo_ast C sh rfl (by decide) dX6_ceases_308 (by exact hn) ?_
              refine hp_aload_nR C dX6_ceases_309 e0 ?_
              refine hp_iload C dX6_ceases_310 rfl ?_
              refine hp_if_eq (tgt := 319) C dX6_ceases_312 (by decide) (fun _ => ?_) (fun z_9 => absurd z_9 (by decide))
              refine hp_iconst (v := 3) C dX6_ceases_319 (by decide) ?_
              refine hp_iload C dX6_ceases_320 e6 ?_
              refine hp_iconst (v := 0) C dX6_ceases_322 (by decide) ?_
              refine hp_callV (ci := 6) C ml_X6_89 im_X6_note se_X6_note rfl (by decide) (mo_noteC (d := d - 1) sh hev) (by omega) dX6_ceases_323 sh.o rfl rfl (by simp [Value.category]) (fun v_1 h_1 hp => ?_) (fun _ _ hf => hf.elim)
              obtain ⟨rfl, rfl⟩ := hp
              refine hp_iinc C dX6_ceases_326 e5 (by decide) rfl ?_
              refine hp_iinc C dX6_ceases_329 e4 (by decide) rfl ?_
              refine hp_goto (tgt := 29) C dX6_ceases_332 (by decide) ?_
              refine hp_Vc (h2 := mo_w h m (mo_end kl n s)) (by unfold mo_end mo_die mo_dur; (repeat' split) <;> first | rfl | contradiction) ?_
              exact kk _ e0 e2 e3 rfl rfl
            · refine hp_aload_nR C dX6_ceases_263 e0 ?_
              refine mo_getA C sh fl_X6_41_6 rfl (by decide) dX6_ceases_264 ?_
              refine hp_iload C dX6_ceases_267 e6 ?_
              refine mo_ald C sh (f := s.2 12) rfl (by decide) rfl dX6_ceases_269 (by exact hn) ?_
              refine hp_aload_nR C dX6_ceases_270 e0 ?_
              refine mo_getA C sh fl_X6_35_6 rfl (by decide) dX6_ceases_271 ?_
              refine hp_iload C dX6_ceases_274 e6 ?_
              refine mo_ald C sh (f := s.2 10) rfl (by decide) rfl dX6_ceases_276 (by exact hn) ?_
              refine hp_icmp_ge (tgt := 290) C dX6_ceases_277 (by decide) (fun c_277 => ?_) (fun c_277 => ?_)
              · refine hp_aload_nR C dX6_ceases_290 e0 ?_
                refine mo_getA C sh fl_X6_35_6 rfl (by decide) dX6_ceases_291 ?_
                refine hp_iload C dX6_ceases_294 e6 ?_
                refine mo_ald C sh (f := s.2 10) rfl (by decide) rfl dX6_ceases_296 (by exact hn) ?_
                refine hp_iadd C dX6_ceases_297 ?_
                refine mo_putS C sh fl_X6_82_6 rfl (by decide) rfl rfl rfl dX6_ceases_298 ?_
                refine hp_aload_nR C dX6_ceases_301 e0 ?_
                refine mo_getA C sh fl_X6_20_6 rfl (by decide) dX6_ceases_302 ?_
                refine hp_iload C dX6_ceases_305 e6 ?_
                refine hp_iconst (v := 0) C dX6_ceases_307 (by decide) ?_
                refine mo_ast C sh rfl (by decide) dX6_ceases_308 (by exact hn) ?_
                refine hp_aload_nR C dX6_ceases_309 e0 ?_
                refine hp_iload C dX6_ceases_310 rfl ?_
                refine hp_if_eq (tgt := 319) C dX6_ceases_312 (by decide) (fun _ => ?_) (fun z_9 => absurd z_9 (by decide))
                refine hp_iconst (v := 3) C dX6_ceases_319 (by decide) ?_
                refine hp_iload C dX6_ceases_320 e6 ?_
                refine hp_iconst (v := 0) C dX6_ceases_322 (by decide) ?_
                refine hp_callV (ci := 6) C ml_X6_89 im_X6_note se_X6_note rfl (by decide) (mo_noteC (d := d - 1) sh hev) (by omega) dX6_ceases_323 sh.o rfl rfl (by simp [Value.category]) (fun v_1 h_1 hp => ?_) (fun _ _ hf => hf.elim)
                obtain ⟨rfl, rfl⟩ := hp
                refine hp_iinc C dX6_ceases_326 e5 (by decide) rfl ?_
                refine hp_iinc C dX6_ceases_329 e4 (by decide) rfl ?_
                refine hp_goto (tgt := 29) C dX6_ceases_332 (by decide) ?_
                refine hp_Vc (h2 := mo_w h m (mo_end kl n s)) (by unfold mo_end mo_die mo_dur; (repeat' split) <;> first | rfl | contradiction) ?_
                exact kk _ e0 e2 e3 rfl rfl
              · refine hp_aload_nR C dX6_ceases_280 e0 ?_
                refine mo_getA C sh fl_X6_41_6 rfl (by decide) dX6_ceases_281 ?_
                refine hp_iload C dX6_ceases_284 e6 ?_
                refine mo_ald C sh (f := s.2 12) rfl (by decide) rfl dX6_ceases_286 (by exact hn) ?_
                refine hp_goto (tgt := 297) C dX6_ceases_287 (by decide) ?_
                refine hp_iadd C dX6_ceases_297 ?_
                refine mo_putS C sh fl_X6_82_6 rfl (by decide) rfl rfl rfl dX6_ceases_298 ?_
                refine hp_aload_nR C dX6_ceases_301 e0 ?_
                refine mo_getA C sh fl_X6_20_6 rfl (by decide) dX6_ceases_302 ?_
                refine hp_iload C dX6_ceases_305 e6 ?_
                refine hp_iconst (v := 0) C dX6_ceases_307 (by decide) ?_
                refine mo_ast C sh rfl (by decide) dX6_ceases_308 (by exact hn) ?_
                refine hp_aload_nR C dX6_ceases_309 e0 ?_
                refine hp_iload C dX6_ceases_310 rfl ?_
                refine hp_if_eq (tgt := 319) C dX6_ceases_312 (by decide) (fun _ => ?_) (fun z_9 => absurd z_9 (by decide))
                refine hp_iconst (v := 3) C dX6_ceases_319 (by decide) ?_
                refine hp_iload C dX6_ceases_320 e6 ?_
                refine hp_iconst (v := 0) C dX6_ceases_322 (by decide) ?_
                refine hp_callV (ci := 6) C ml_X6_89 im_X6_note se_X6_note rfl (by decide) (mo_noteC (d := d - 1) sh hev) (by omega) dX6_ceases_323 sh.o rfl rfl (by simp [Value.category]) (fun v_1 h_1 hp => ?_) (fun _ _ hf => hf.elim)
                obtain ⟨rfl, rfl⟩ := hp
                refine hp_iinc C dX6_ceases_326 e5 (by decide) rfl ?_
                refine hp_iinc C dX6_ceases_329 e4 (by decide) rfl ?_
                refine hp_goto (tgt := 29) C dX6_ceases_332 (by decide) ?_
                refine hp_Vc (h2 := mo_w h m (mo_end kl n s)) (by unfold mo_end mo_die mo_dur; (repeat' split) <;> first | rfl | contradiction) ?_
                exact kk _ e0 e2 e3 rfl rfl
          · refine hp_iconst (v := 1) C dX6_ceases_241 (by decide) ?_
            refine hp_goto (tgt := 246) C dX6_ceases_242 (by decide) ?_
            refine hp_istore C dX6_ceases_246 (by decide) ?_
            refine hp_aload_nR C dX6_ceases_248 e0 ?_
            refine hp_dup C dX6_ceases_249 rfl ?_
            refine mo_getS C sh fl_X6_82_6 rfl (by decide) (v := s.1 18) rfl dX6_ceases_250 ?_
            refine hp_aload_nR C dX6_ceases_253 e0 ?_
            refine mo_getA C sh fl_X6_35_6 rfl (by decide) dX6_ceases_254 ?_
            refine hp_iload C dX6_ceases_257 e6 ?_
            refine mo_ald C sh (f := s.2 10) rfl (by decide) rfl dX6_ceases_259 (by exact hn) ?_
            refine hp_if_lt (tgt := 280) C dX6_ceases_260 (by decide) (fun c_260 => ?_) (fun c_260 => ?_)
            · refine hp_aload_nR C dX6_ceases_280 e0 ?_
              refine mo_getA C sh fl_X6_41_6 rfl (by decide) dX6_ceases_281 ?_
              refine hp_iload C dX6_ceases_284 e6 ?_
              refine mo_ald C sh (f := s.2 12) rfl (by decide) rfl dX6_ceases_286 (by exact hn) ?_
              refine hp_goto (tgt := 297) C dX6_ceases_287 (by decide) ?_
              refine hp_iadd C dX6_ceases_297 ?_
              refine mo_putS C sh fl_X6_82_6 rfl (by decide) rfl rfl rfl dX6_ceases_298 ?_
              refine hp_aload_nR C dX6_ceases_301 e0 ?_
              refine mo_getA C sh fl_X6_20_6 rfl (by decide) dX6_ceases_302 ?_
              refine hp_iload C dX6_ceases_305 e6 ?_
              refine hp_iconst (v := 0) C dX6_ceases_307 (by decide) ?_
              refine mo_ast C sh rfl (by decide) dX6_ceases_308 (by exact hn) ?_
              refine hp_aload_nR C dX6_ceases_309 e0 ?_
              refine hp_iload C dX6_ceases_310 rfl ?_
              refine hp_if_eq (tgt := 319) C dX6_ceases_312 (by decide) (fun z_9 => absurd z_9 (by decide)) (fun _ => ?_)
              refine hp_iconst (v := 4) C dX6_ceases_315 (by decide) ?_
              refine hp_goto (tgt := 320) C dX6_ceases_316 (by decide) ?_
              refine hp_iload C dX6_ceases_320 e6 ?_
              refine hp_iconst (v := 0) C dX6_ceases_322 (by decide) ?_
              refine hp_callV (ci := 6) C ml_X6_89 im_X6_note se_X6_note rfl (by decide) (mo_noteC (d := d - 1) sh hev) (by omega) dX6_ceases_323 sh.o rfl rfl (by simp [Value.category]) (fun v_1 h_1 hp => ?_) (fun _ _ hf => hf.elim)
              obtain ⟨rfl, rfl⟩ := hp
              refine hp_iinc C dX6_ceases_326 e5 (by decide) rfl ?_
              refine hp_iinc C dX6_ceases_329 e4 (by decide) rfl ?_
              refine hp_goto (tgt := 29) C dX6_ceases_332 (by decide) ?_
              refine hp_Vc (h2 := mo_w h m (mo_end kl n s)) (by unfold mo_end mo_die mo_dur; (repeat' split) <;> first | rfl | contradiction) ?_
              exact kk _ e0 e2 e3 rfl rfl
            · refine hp_aload_nR C dX6_ceases_263 e0 ?_
              refine mo_getA C sh fl_X6_41_6 rfl (by decide) dX6_ceases_264 ?_
              refine hp_iload C dX6_ceases_267 e6 ?_
              refine mo_ald C sh (f := s.2 12) rfl (by decide) rfl dX6_ceases_269 (by exact hn) ?_
              refine hp_aload_nR C dX6_ceases_270 e0 ?_
              refine mo_getA C sh fl_X6_35_6 rfl (by decide) dX6_ceases_271 ?_
              refine hp_iload C dX6_ceases_274 e6 ?_
              refine mo_ald C sh (f := s.2 10) rfl (by decide) rfl dX6_ceases_276 (by exact hn) ?_
              refine hp_icmp_ge (tgt := 290) C dX6_ceases_277 (by decide) (fun c_277 => ?_) (fun c_277 => ?_)
              · refine hp_aload_nR C dX6_ceases_290 e0 ?_
                refine mo_getA C sh fl_X6_35_6 rfl (by decide) dX6_ceases_291 ?_
                refine hp_iload C dX6_ceases_294 e6 ?_
                refine mo_ald C sh (f := s.2 10) rfl (by decide) rfl dX6_ceases_296 (by exact hn) ?_
                refine hp_iadd C dX6_ceases_297 ?_
                refine mo_putS C sh fl_X6_82_6 rfl (by decide) rfl rfl rfl dX6_ceases_298 ?_
                refine hp_aload_nR C dX6_ceases_301 e0 ?_
                refine mo_getA C sh fl_X6_20_6 rfl (by decide) dX6_ceases_302 ?_
                refine hp_iload C dX6_ceases_305 e6 ?_
                refine hp_iconst (v := 0) C dX6_ceases_307 (by decide) ?_
                refine mo_ast C sh rfl (by decide) dX6_ceases_308 (by exact hn) ?_
                refine hp_aload_nR C dX6_ceases_309 e0 ?_
                refine hp_iload C dX6_ceases_310 rfl ?_
                refine hp_if_eq (tgt := 319) C dX6_ceases_312 (by decide) (fun z_9 => absurd z_9 (by decide)) (fun _ => ?_)
                refine hp_iconst (v := 4) C dX6_ceases_315 (by decide) ?_
                refine hp_goto (tgt := 320) C dX6_ceases_316 (by decide) ?_
                refine hp_iload C dX6_ceases_320 e6 ?_
                refine hp_iconst (v := 0) C dX6_ceases_322 (by decide) ?_
                refine hp_callV (ci := 6) C ml_X6_89 im_X6_note se_X6_note rfl (by decide) (mo_noteC (d := d - 1) sh hev) (by omega) dX6_ceases_323 sh.o rfl rfl (by simp [Value.category]) (fun v_1 h_1 hp => ?_) (fun _ _ hf => hf.elim)
                obtain ⟨rfl, rfl⟩ := hp
                refine hp_iinc C dX6_ceases_326 e5 (by decide) rfl ?_
                refine hp_iinc C dX6_ceases_329 e4 (by decide) rfl ?_
                refine hp_goto (tgt := 29) C dX6_ceases_332 (by decide) ?_
                refine hp_Vc (h2 := mo_w h m (mo_end kl n s)) (by unfold mo_end mo_die mo_dur; (repeat' split) <;> first | rfl | contradiction) ?_
                exact kk _ e0 e2 e3 rfl rfl
              · refine hp_aload_nR C dX6_ceases_280 e0 ?_
                refine mo_getA C sh fl_X6_41_6 rfl (by decide) dX6_ceases_281 ?_
                refine hp_iload C dX6_ceases_284 e6 ?_
                refine mo_ald C sh (f := s.2 12) rfl (by decide) rfl dX6_ceases_286 (by exact hn) ?_
                refine hp_goto (tgt := 297) C dX6_ceases_287 (by decide) ?_
                refine hp_iadd C dX6_ceases_297 ?_
                refine mo_putS C sh fl_X6_82_6 rfl (by decide) rfl rfl rfl dX6_ceases_298 ?_
                refine hp_aload_nR C dX6_ceases_301 e0 ?_
                refine mo_getA C sh fl_X6_20_6 rfl (by decide) dX6_ceases_302 ?_
                refine hp_iload C dX6_ceases_305 e6 ?_
                refine hp_iconst (v := 0) C dX6_ceases_307 (by decide) ?_
                refine mo_ast C sh rfl (by decide) dX6_ceases_308 (by exact hn) ?_
                refine hp_aload_nR C dX6_ceases_309 e0 ?_
                refine hp_iload C dX6_ceases_310 rfl ?_
                refine hp_if_eq (tgt := 319) C dX6_ceases_312 (by decide) (fun z_9 => absurd z_9 (by decide)) (fun _ => ?_)
                refine hp_iconst (v := 4) C dX6_ceases_315 (by decide) ?_
                refine hp_goto (tgt := 320) C dX6_ceases_316 (by decide) ?_
                refine hp_iload C dX6_ceases_320 e6 ?_
                refine hp_iconst (v := 0) C dX6_ceases_322 (by decide) ?_
                refine hp_callV (ci := 6) C ml_X6_89 im_X6_note se_X6_note rfl (by decide) (mo_noteC (d := d - 1) sh hev) (by omega) dX6_ceases_323 sh.o rfl rfl (by simp [Value.category]) (fun v_1 h_1 hp => ?_) (fun _ _ hf => hf.elim)
                obtain ⟨rfl, rfl⟩ := hp
                refine hp_iinc C dX6_ceases_326 e5 (by decide) rfl ?_
                refine hp_iinc C dX6_ceases_329 e4 (by decide) rfl ?_
                refine hp_goto (tgt := 29) C dX6_ceases_332 (by decide) ?_
                refine hp_Vc (h2 := mo_w h m (mo_end kl n s)) (by unfold mo_end mo_die mo_dur; (repeat' split) <;> first | rfl | contradiction) ?_
                exact kk _ e0 e2 e3 rfl rfl
