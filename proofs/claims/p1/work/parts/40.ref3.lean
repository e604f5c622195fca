/-! ===== the reference's loops, in general ===== -/
/-- place i of keeper p's row -/
theorem mo_row_in {p i : Nat} (hp : p < 80) (hi : i < 80) : vp_in (80 * nI p + nI i) 6400 ∧ (80 * nI p + nI i).toNatClampNeg = 80 * p + i := by
  have e1 := nI_toInt (n := p) (by omega)
  have e2 := nI_toInt (n := i) (by omega)
  have e8 : (80 : Int32).toInt = 80 := by decide
  have m1 : (80 * nI p).toInt = 80 * (p : Int) := by
    rw [Int32.toInt_mul, e8, e1]
    exact Int.bmod_eq_of_le (by omega) (by omega)
  have m2 : (80 * nI p + nI i).toInt = 80 * (p : Int) + i := by
    rw [Int32.toInt_add, m1, e2]
    exact Int.bmod_eq_of_le (by omega) (by omega)
  refine ⟨vp_in_iff.mpr (by omega), ?_⟩
  have f : ∀ x : Int32, x.toNatClampNeg = x.toInt.toNat := fun _ => rfl
  rw [f, m2]
  omega
theorem mo_succ {i : Nat} (hi : i < 1000000) : nI i + Int32.ofInt 1 = nI (i + 1) := by
  have e1 := nI_toInt (n := i) (by omega)
  have e2 := nI_toInt (n := i + 1) (by omega)
  refine Int32.toInt_inj.mp ?_
  rw [kt_inc (by omega), e1, e2]
  rfl
set_option maxHeartbeats 4000000 in
theorem mo_placeL {M : hpM} {G : hpG} {d : Nat} {h0 h : hpT} {m : Nat} {s : moS} (sh : mo_sh G h m) (C : hp_F M G yX6_place cX6_place 4 d h0) (hr : (hp_mt M).sig.returnType = some .int) {n : Int32} {p t : Nat} (hp : p < 80) (ht : t < 80) (hat : s.2 14 (80 * p + t) = n) (hno : ∀ j, j < t → ¬ s.2 14 (80 * p + j) = n) {X : String → hpT → Prop} : ∀ (k : Nat) (lo : Nat → Option Value) (i : Nat), i + k = t → lo 0 = some (.ref m) → lo 1 = some (.int n) → lo 2 = some (.int (nI p)) → lo 3 = some (.int (nI i)) → hp_V M G 4 (hp_Q M G h0 (fun v h' => v = some (.int (nI t)) ∧ h' = mo_w h m s) X) (mo_w h m s) 9 lo [] := by
  intro k
  induction k with
  | zero =>
    intro lo i hi e0 e1 e2 e3
    obtain ⟨r1, r2⟩ := mo_row_in hp (show i < 80 by omega)
    have hit : i = t := by omega
    subst hit
    refine hp_aload_nR C dX6_place_9 e0 ?_
    refine mo_getA C sh fl_X6_47_6 rfl (by decide) dX6_place_10 ?_
    refine hp_bipush (v := 80) C dX6_place_13 (by decide) ?_
    refine hp_iload_n C dX6_place_15 e2 ?_
    refine hp_imul C dX6_place_16 ?_
    refine hp_iload_n C dX6_place_17 e3 ?_
    refine hp_iadd C dX6_place_18 ?_
    refine mo_ald C sh (f := s.2 14) rfl (by decide) rfl dX6_place_19 (by exact r1) ?_
    refine hp_iload_n C dX6_place_20 e1 ?_
    refine hp_icmp_eq (tgt := 30) C dX6_place_21 (by decide) (fun c_21 => ?_) (fun c_21 => ?_)
    · refine hp_iload_n C dX6_place_30 e3 ?_
      refine hp_iret C hr rfl dX6_place_31 ?_
      exact ⟨rfl, rfl⟩
    · exact absurd (by rw [r2]; exact hat) c_21
  | succ k ih =>
    intro lo i hi e0 e1 e2 e3
    obtain ⟨r1, r2⟩ := mo_row_in hp (show i < 80 by omega)
    refine hp_aload_nR C dX6_place_9 e0 ?_
    refine mo_getA C sh fl_X6_47_6 rfl (by decide) dX6_place_10 ?_
    refine hp_bipush (v := 80) C dX6_place_13 (by decide) ?_
    refine hp_iload_n C dX6_place_15 e2 ?_
    refine hp_imul C dX6_place_16 ?_
    refine hp_iload_n C dX6_place_17 e3 ?_
    refine hp_iadd C dX6_place_18 ?_
    refine mo_ald C sh (f := s.2 14) rfl (by decide) rfl dX6_place_19 (by exact r1) ?_
    refine hp_iload_n C dX6_place_20 e1 ?_
    refine hp_icmp_eq (tgt := 30) C dX6_place_21 (by decide) (fun c_21 => ?_) (fun c_21 => ?_)
    · exact absurd c_21 (by rw [r2]; exact hno i (by omega))
    · refine hp_iinc C dX6_place_24 e3 (by decide) rfl ?_
      refine hp_goto (tgt := 9) C dX6_place_27 (by decide) ?_
      exact ih _ (i + 1) (by omega) e0 e1 e2 ((va_up_self _ _ _).trans (by rw [mo_succ (by omega)]))
set_option maxRecDepth 20000 in
set_option maxHeartbeats 4000000 in
theorem mo_place {l : Launch} {G : hpG} {h : hpT} {m d : Nat} {s : moS} (sh : mo_sh G h m) {n : Int32} {p t : Nat} (hn : vp_in n 80) (hpa : s.2 3 n.toNatClampNeg = nI p) (hp : p < 80) (ht : t < 80) (hat : s.2 14 (80 * p + t) = n) (hno : ∀ j, j < t → ¬ s.2 14 (80 * p + j) = n) : hp_C l G yX6_place (.code yX6_place cX6_place 4 (some .int)) d [.ref m, .int n] (mo_w h m s) (fun v h' => v = some (.int (nI t)) ∧ h' = mo_w h m s) (fun _ _ => False) := by
  refine hp_ofV (by decide) (by simp [Value.category]) (Nat.le_of_ble_eq_true rfl) (fun M C hr hx el => ?_)
  refine hp_aload_nR C dX6_place_0 rfl ?_
  refine mo_getA C sh fl_X6_13_6 rfl (by decide) dX6_place_1 ?_
  refine hp_iload_n C dX6_place_4 rfl ?_
  refine mo_ald C sh (f := s.2 3) rfl (by decide) rfl dX6_place_5 (by exact hn) ?_
  rw [hpa]
  refine hp_istore_n C dX6_place_6 (by decide) ?_
  refine hp_iconst (v := 0) C dX6_place_7 (by decide) ?_
  refine hp_istore_n C dX6_place_8 (by decide) ?_
  exact mo_placeL sh C hr hp ht hat hno t _ 0 (by omega) rfl rfl rfl rfl
