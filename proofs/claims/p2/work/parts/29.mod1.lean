/-! ===== the reference's constructor ===== -/
def mo_z : moS := (fun _ => 0, fun _ _ => 0)
def mo_s0 : moS := mo_pt (mo_up (mo_up (mo_up (mo_up mo_z 2 0 1) 3 0 (-1)) 8 0 1) 9 0 5) 1 1
/-- an array is made (class of it, length, field) -/
def mc_st (m : Nat) (h : hpT) (q : Nat × Nat × Nat) : hpT := hp_put (hp_mkA h q.1 q.2.1 (.int 0)) (hp_fd 6 q.2.2) m (.ref (hp_nx h))
def mc_fd (m : Nat) : List (Nat × Nat × Nat) → hpT → hpT
  | [], h => h
  | q :: L, h => mc_fd m L (mc_st m h q)
def mc_L : List (Nat × Nat × Nat) := [(1, 80, 2), (0, 80, 3), (0, 80, 4), (0, 80, 5), (0, 80, 6), (0, 80, 7), (0, 80, 8), (0, 80, 9), (0, 80, 10), (0, 80, 11), (0, 80, 12), (0, 80, 13), (0, 6400, 14), (0, 80, 15), (0, 4160, 16), (0, 80, 17), (0, 2400, 20), (0, 10, 23), (0, 10, 24)]
theorem mc_nx (m : Nat) : ∀ (L : List (Nat × Nat × Nat)) (h : hpT), hp_nx (mc_fd m L h) = hp_nx h + L.length
  | [], h => rfl
  | q :: L, h => by
    show hp_nx (mc_fd m L (mc_st m h q)) = _
    rw [mc_nx m L]
    show hp_nx h + 1 + L.length = hp_nx h + (L.length + 1)
    omega
theorem mc_old (m : Nat) : ∀ (L : List (Nat × Nat × Nat)) (h : hpT) (b : Nat), b < hp_nx h → hp_kd (mc_fd m L h) b = hp_kd h b ∧ hp_ln (mc_fd m L h) b = hp_ln h b ∧ hp_ar (mc_fd m L h) b = hp_ar h b ∧ (∀ f, (b ≠ m ∨ ∀ q ∈ L, f ≠ hp_fd 6 q.2.2) → hp_fl (mc_fd m L h) f b = hp_fl h f b)
  | [], h, b, _ => ⟨rfl, rfl, rfl, fun _ _ => rfl⟩
  | q :: L, h, b, hb => by
    obtain ⟨e1, e2, e3, e4⟩ := mc_old m L (mc_st m h q) b (Nat.lt_succ_of_lt hb)
    refine ⟨e1.trans (va_up_ne _ _ (Nat.ne_of_lt hb)), e2.trans (va_up_ne _ _ (Nat.ne_of_lt hb)), e3.trans (va_up_ne _ _ (Nat.ne_of_lt hb)), fun f hf => ?_⟩
    refine (e4 f (hf.imp id fun z p hp => z p (List.mem_cons_of_mem _ hp))).trans ?_
    show hp_fl (hp_put (hp_mkA h q.1 q.2.1 (.int 0)) (hp_fd 6 q.2.2) m (.ref (hp_nx h))) f b = _
    rw [hp_put_fl]
    rcases hf with hf | hf
    · rw [if_neg hf]
      split
      · rename_i e; rw [e]; rfl
      · rfl
    · rw [if_neg (hf q List.mem_cons_self)]
      rfl
theorem mc_at (m : Nat) : ∀ (L : List (Nat × Nat × Nat)) (h : hpT) (j : Nat) (q : Nat × Nat × Nat), m < hp_nx h → L[j]? = some q → (L.map (fun q => hp_fd 6 q.2.2)).Nodup →
    hp_kd (mc_fd m L h) (hp_nx h + j) = 10 + q.1 ∧ hp_ln (mc_fd m L h) (hp_nx h + j) = q.2.1 ∧ hp_ar (mc_fd m L h) (hp_nx h + j) = (fun _ => .int 0) ∧ hp_fl (mc_fd m L h) (hp_fd 6 q.2.2) m = .ref (hp_nx h + j)
  | [], h, j, q, _, hj, _ => by cases hj
  | p :: L, h, 0, q, hm, hj, hd => by
    cases hj
    obtain ⟨e1, e2, e3, e4⟩ := mc_old m L (mc_st m h p) (hp_nx h) (Nat.lt_succ_self _)
    have hd' := List.nodup_cons.mp hd
    obtain ⟨-, -, -, e5⟩ := mc_old m L (mc_st m h p) m (Nat.lt_succ_of_lt hm)
    refine ⟨e1.trans (va_up_self _ _ _), e2.trans (va_up_self _ _ _), e3.trans (va_up_self _ _ _), (e5 _ (Or.inr fun z hz e => hd'.1 (List.mem_map.mpr ⟨z, hz, e.symm⟩))).trans ?_⟩
    show hp_fl (hp_put (hp_mkA h p.1 p.2.1 (.int 0)) (hp_fd 6 p.2.2) m (.ref (hp_nx h))) (hp_fd 6 p.2.2) m = _
    rw [hp_put_fl, if_pos rfl, if_pos rfl]
    rfl
  | p :: L, h, j + 1, q, hm, hj, hd => by
    have := mc_at m L (mc_st m h p) j q (Nat.lt_succ_of_lt hm) hj (List.nodup_cons.mp hd).2
    rw [show hp_nx h + (j + 1) = hp_nx (mc_st m h p) + j by show _ = hp_nx h + 1 + j; omega]
    exact this
theorem mc_idx {k : Nat} (hk : mo_isA k = true) : mc_L[mo_j k]? = some (if k = 2 then 1 else 0, mo_len k, k) := by
  unfold mo_isA at hk
  simp only [Bool.or_eq_true, Bool.and_eq_true, decide_eq_true_eq, beq_iff_eq] at hk
  have h2 : k = 2 ∨ k = 3 ∨ k = 4 ∨ k = 5 ∨ k = 6 ∨ k = 7 ∨ k = 8 ∨ k = 9 ∨ k = 10 ∨ k = 11 ∨ k = 12 ∨ k = 13 ∨ k = 14 ∨ k = 15 ∨ k = 16 ∨ k = 17 ∨ k = 20 ∨ k = 23 ∨ k = 24 := by omega
  rcases h2 with rfl | rfl | rfl | rfl | rfl | rfl | rfl | rfl | rfl | rfl | rfl | rfl | rfl | rfl | rfl | rfl | rfl | rfl | rfl <;> rfl
/-- behind the makings the reference lies there, all zero -/
theorem mc_view {G : hpG} {h : hpT} {m : Nat} (hm : hp_is G h m 6) (hx : hp_nx h = m + 1) (z : ∀ k, mo_isA k = false → k < 25 → hp_fl h (hp_fd 6 k) m = .int 0) : mo_sh G (mc_fd m mc_L h) m ∧ mc_fd m mc_L h = mo_w (mc_fd m mc_L h) m mo_z := by
  have hnd : (mc_L.map (fun q => hp_fd 6 q.2.2)).Nodup := by decide
  have hlt : m < hp_nx h := hm.2.1
  have at_ : ∀ k, mo_isA k = true → _ := fun k hk => mc_at m mc_L h (mo_j k) _ hlt (mc_idx hk) hnd
  obtain ⟨o1, -, -, o4⟩ := mc_old m mc_L h m hlt
  have hn : hp_nx (mc_fd m mc_L h) = m + 20 := by rw [mc_nx, hx]; rfl
  refine ⟨⟨hm.1, by omega, o1.trans hm.2.2, fun k hk => ?_⟩, hp_ext rfl rfl rfl rfl (fun f b => ?_) (fun b i => ?_)⟩
  · obtain ⟨e1, e2, -, -⟩ := at_ k hk
    rw [hx] at e1 e2
    refine ⟨e1.trans ?_, e2⟩
    show 10 + (if k = 2 then 1 else 0) = _
    split <;> rfl
  · rw [mo_w_fl]
    by_cases c : b = m ∧ 192 ≤ f ∧ f < 217
    · rw [if_pos c]
      obtain ⟨rfl, c1, c2⟩ := c
      have ef : f = hp_fd 6 (f - 192) := by rw [mo_fd]; omega
      by_cases a : mo_isA (f - 192) = true
      · rw [if_pos a]
        obtain ⟨-, -, -, e4⟩ := at_ (f - 192) a
        rw [hx] at e4
        rw [ef, e4, ← ef]
      · rw [if_neg a, o4 f (Or.inr fun q hq e => a ?_), ef]
        · exact z (f - 192) (by simpa using a) (by omega)
        · have hq2 : ∀ q ∈ mc_L, mo_isA q.2.2 = true := by decide
          have : f - 192 = q.2.2 := by rw [e, mo_fd]; omega
          rw [this]
          exact hq2 q hq
    · rw [if_neg c]
  · rw [mo_w_ar]
    by_cases c : m < b ∧ b < m + 20
    · rw [if_pos c]
      obtain ⟨e1, e2⟩ := mo_jk (j := b - (m + 1)) (by omega)
      obtain ⟨-, -, e3, -⟩ := at_ (mo_k (b - (m + 1))) e2
      rw [hx, e1, show m + 1 + (b - (m + 1)) = b by omega] at e3
      rw [e3]
      rfl
    · rw [if_neg c]
theorem mo_aldv {M : hpM} {G : hpG} {y : MethodName} {cc : ByteArray} {nL d : Nat} {h0 h : hpT} {m : Nat} {s : moS} {Q : State → Prop} {pc : Nat} {lo : Nat → Option Value} {st : List Value} (C : hp_F M G y cc nL d h0) (x : mo_sh G h m) {k : Nat} {i v : Int32} (hk : mo_isA k = true) (h2 : k ≠ 2) (ev : s.2 k i.toNatClampNeg = v) (dd : decode cc pc = .ok (.iaload, 1)) (hin : vp_in i (mo_len k)) (kk : hp_V M G nL Q (mo_w h m s) (pc + 1) lo (.int v :: st)) : hp_V M G nL Q (mo_w h m s) pc lo (.int i :: .ref (mo_arr m k) :: st) := mo_ald C x hk h2 rfl dd hin (by rw [ev]; exact kk)
theorem mo_zldv {M : hpM} {G : hpG} {y : MethodName} {cc : ByteArray} {nL d : Nat} {h0 h : hpT} {m : Nat} {s : moS} {Q : State → Prop} {pc : Nat} {lo : Nat → Option Value} {st : List Value} (C : hp_F M G y cc nL d h0) (x : mo_sh G h m) {i v : Int32} (ev : s.2 2 i.toNatClampNeg = v) (dd : decode cc pc = .ok (.baload, 1)) (hin : vp_in i 80) (kk : hp_V M G nL Q (mo_w h m s) (pc + 1) lo (.int v :: st)) : hp_V M G nL Q (mo_w h m s) pc lo (.int i :: .ref (mo_arr m 2) :: st) := mo_zld C x rfl dd hin (by rw [ev]; exact kk)
set_option maxRecDepth 20000 in
set_option maxHeartbeats 4000000 in
theorem mf_init {l : Launch} {G : hpG} {h : hpT} {m d : Nat} (hd : 1 ≤ d) (hi : hp_is G h m 6) (hx0 : hp_nx h = m + 1) (z0 : ∀ k, mo_isA k = false → k < 25 → hp_fl h (hp_fd 6 k) m = .int 0) (rm : hp_nx h + 100 ≤ hp_n0 G + hp_LC ∧ hp_sl h + 20000 ≤ hp_LS) : hp_C l G yX6_init (.code yX6_init cX6_init 1 none) d [.ref m] (h) (fun v h' => v = none ∧ ∃ h2, h' = mo_w h2 m mo_s0 ∧ mo_sh G h2 m ∧ hp_nx h2 = m + 20 ∧ hp_sl h2 ≤ hp_sl h + 20000 ∧ ∀ b, b < m → hp_kd h2 b = hp_kd h b ∧ hp_ln h2 b = hp_ln h b ∧ hp_ar h2 b = hp_ar h b ∧ ∀ f, hp_fl h2 f b = hp_fl h f b) (fun _ _ => False) := by
  refine hp_ofV (by decide) (by simp [Value.category]) (Nat.le_of_ble_eq_true rfl) (fun M C hr hx el => ?_)
  refine hp_aload_nR C dX6_init_0 rfl ?_
  refine hp_obj C ob_X6_1 ob_i ob_c (by omega) dX6_init_1 (by simp [Value.category]) ?_
  have r1 := rm.1
  have r2 := rm.2
  have i_0 := hi
  refine hp_aload_nR C dX6_init_4 rfl ?_
  refine hp_bipush (v := 80) C dX6_init_5 (by decide) ?_
  refine hp_newa C 1 (atype := .boolean) (ty := .boolean) (N := 80) rfl rfl (fun U hU => hU) (by decide) ac_boolean dX6_init_7 (by decide) rfl (by decide) (by omega) (by omega) ?_
  refine hp_putF C fl_X6_7_6 rfl rfl rfl rfl dX6_init_9 (i_0.mkA 1 80 (.int 0)) ?_
  have i_1 : hp_is G (mc_st m h (1, 80, 2)) m 6 := i_0.mkA 1 80 (.int 0)
  have n_1 : hp_nx (mc_st m h (1, 80, 2)) = hp_nx h + 1 := rfl
  have s_1 : hp_sl (mc_st m h (1, 80, 2)) = hp_sl h + 80 := rfl
  change hp_V M G 1 _ (mc_st m h (1, 80, 2)) _ _ _
  generalize e_1 : mc_st m h (1, 80, 2) = H_1 at i_1 n_1 s_1 ⊢
  refine hp_aload_nR C dX6_init_12 rfl ?_
  refine hp_bipush (v := 80) C dX6_init_13 (by decide) ?_
  refine hp_newa C 0 (atype := .int) (ty := .int) (N := 80) rfl rfl (fun U hU => hU) (by decide) ac_int dX6_init_15 (by decide) rfl (by decide) (by omega) (by omega) ?_
  refine hp_putF C fl_X6_13_6 rfl rfl rfl rfl dX6_init_17 (i_1.mkA 0 80 (.int 0)) ?_
  have i_2 : hp_is G (mc_st m H_1 (0, 80, 3)) m 6 := i_1.mkA 0 80 (.int 0)
  have n_2 : hp_nx (mc_st m H_1 (0, 80, 3)) = hp_nx H_1 + 1 := rfl
  have s_2 : hp_sl (mc_st m H_1 (0, 80, 3)) = hp_sl H_1 + 80 := rfl
  change hp_V M G 1 _ (mc_st m H_1 (0, 80, 3)) _ _ _
  generalize e_2 : mc_st m H_1 (0, 80, 3) = H_2 at i_2 n_2 s_2 ⊢
  refine hp_aload_nR C dX6_init_20 rfl ?_
  refine hp_bipush (v := 80) C dX6_init_21 (by decide) ?_
  refine hp_newa C 0 (atype := .int) (ty := .int) (N := 80) rfl rfl (fun U hU => hU) (by decide) ac_int dX6_init_23 (by decide) rfl (by decide) (by omega) (by omega) ?_
  refine hp_putF C fl_X6_17_6 rfl rfl rfl rfl dX6_init_25 (i_2.mkA 0 80 (.int 0)) ?_
  have i_3 : hp_is G (mc_st m H_2 (0, 80, 4)) m 6 := i_2.mkA 0 80 (.int 0)
  have n_3 : hp_nx (mc_st m H_2 (0, 80, 4)) = hp_nx H_2 + 1 := rfl
  have s_3 : hp_sl (mc_st m H_2 (0, 80, 4)) = hp_sl H_2 + 80 := rfl
  change hp_V M G 1 _ (mc_st m H_2 (0, 80, 4)) _ _ _
  generalize e_3 : mc_st m H_2 (0, 80, 4) = H_3 at i_3 n_3 s_3 ⊢
  refine hp_aload_nR C dX6_init_28 rfl ?_
  refine hp_bipush (v := 80) C dX6_init_29 (by decide) ?_
  refine hp_newa C 0 (atype := .int) (ty := .int) (N := 80) rfl rfl (fun U hU => hU) (by decide) ac_int dX6_init_31 (by decide) rfl (by decide) (by omega) (by omega) ?_
  refine hp_putF C fl_X6_20_6 rfl rfl rfl rfl dX6_init_33 (i_3.mkA 0 80 (.int 0)) ?_
  have i_4 : hp_is G (mc_st m H_3 (0, 80, 5)) m 6 := i_3.mkA 0 80 (.int 0)
  have n_4 : hp_nx (mc_st m H_3 (0, 80, 5)) = hp_nx H_3 + 1 := rfl
  have s_4 : hp_sl (mc_st m H_3 (0, 80, 5)) = hp_sl H_3 + 80 := rfl
  change hp_V M G 1 _ (mc_st m H_3 (0, 80, 5)) _ _ _
  generalize e_4 : mc_st m H_3 (0, 80, 5) = H_4 at i_4 n_4 s_4 ⊢
  refine hp_aload_nR C dX6_init_36 rfl ?_
  refine hp_bipush (v := 80) C dX6_init_37 (by decide) ?_
  refine hp_newa C 0 (atype := .int) (ty := .int) (N := 80) rfl rfl (fun U hU => hU) (by decide) ac_int dX6_init_39 (by decide) rfl (by decide) (by omega) (by omega) ?_
  refine hp_putF C fl_X6_23_6 rfl rfl rfl rfl dX6_init_41 (i_4.mkA 0 80 (.int 0)) ?_
  have i_5 : hp_is G (mc_st m H_4 (0, 80, 6)) m 6 := i_4.mkA 0 80 (.int 0)
  have n_5 : hp_nx (mc_st m H_4 (0, 80, 6)) = hp_nx H_4 + 1 := rfl
  have s_5 : hp_sl (mc_st m H_4 (0, 80, 6)) = hp_sl H_4 + 80 := rfl
  change hp_V M G 1 _ (mc_st m H_4 (0, 80, 6)) _ _ _
  generalize e_5 : mc_st m H_4 (0, 80, 6) = H_5 at i_5 n_5 s_5 ⊢
  refine hp_aload_nR C dX6_init_44 rfl ?_
  refine hp_bipush (v := 80) C dX6_init_45 (by decide) ?_
  refine hp_newa C 0 (atype := .int) (ty := .int) (N := 80) rfl rfl (fun U hU => hU) (by decide) ac_int dX6_init_47 (by decide) rfl (by decide) (by omega) (by omega) ?_
  refine hp_putF C fl_X6_26_6 rfl rfl rfl rfl dX6_init_49 (i_5.mkA 0 80 (.int 0)) ?_
  have i_6 : hp_is G (mc_st m H_5 (0, 80, 7)) m 6 := i_5.mkA 0 80 (.int 0)
  have n_6 : hp_nx (mc_st m H_5 (0, 80, 7)) = hp_nx H_5 + 1 := rfl
  have s_6 : hp_sl (mc_st m H_5 (0, 80, 7)) = hp_sl H_5 + 80 := rfl
  change hp_V M G 1 _ (mc_st m H_5 (0, 80, 7)) _ _ _
  generalize e_6 : mc_st m H_5 (0, 80, 7) = H_6 at i_6 n_6 s_6 ⊢
  refine hp_aload_nR C dX6_init_52 rfl ?_
  refine hp_bipush (v := 80) C dX6_init_53 (by decide) ?_
  refine hp_newa C 0 (atype := .int) (ty := .int) (N := 80) rfl rfl (fun U hU => hU) (by decide) ac_int dX6_init_55 (by decide) rfl (by decide) (by omega) (by omega) ?_
  refine hp_putF C fl_X6_29_6 rfl rfl rfl rfl dX6_init_57 (i_6.mkA 0 80 (.int 0)) ?_
  have i_7 : hp_is G (mc_st m H_6 (0, 80, 8)) m 6 := i_6.mkA 0 80 (.int 0)
  have n_7 : hp_nx (mc_st m H_6 (0, 80, 8)) = hp_nx H_6 + 1 := rfl
  have s_7 : hp_sl (mc_st m H_6 (0, 80, 8)) = hp_sl H_6 + 80 := rfl
  change hp_V M G 1 _ (mc_st m H_6 (0, 80, 8)) _ _ _
  generalize e_7 : mc_st m H_6 (0, 80, 8) = H_7 at i_7 n_7 s_7 ⊢
  refine hp_aload_nR C dX6_init_60 rfl ?_
  refine hp_bipush (v := 80) C dX6_init_61 (by decide) ?_
  refine hp_newa C 0 (atype := .int) (ty := .int) (N := 80) rfl rfl (fun U hU => hU) (by decide) ac_int dX6_init_63 (by decide) rfl (by decide) (by omega) (by omega) ?_
  refine hp_putF C fl_X6_32_6 rfl rfl rfl rfl dX6_init_65 (i_7.mkA 0 80 (.int 0)) ?_
  have i_8 : hp_is G (mc_st m H_7 (0, 80, 9)) m 6 := i_7.mkA 0 80 (.int 0)
  have n_8 : hp_nx (mc_st m H_7 (0, 80, 9)) = hp_nx H_7 + 1 := rfl
  have s_8 : hp_sl (mc_st m H_7 (0, 80, 9)) = hp_sl H_7 + 80 := rfl
  change hp_V M G 1 _ (mc_st m H_7 (0, 80, 9)) _ _ _
  generalize e_8 : mc_st m H_7 (0, 80, 9) = H_8 at i_8 n_8 s_8 ⊢
  refine hp_aload_nR C dX6_init_68 rfl ?_
  refine hp_bipush (v := 80) C dX6_init_69 (by decide) ?_
  refine hp_newa C 0 (atype := .int) (ty := .int) (N := 80) rfl rfl (fun U hU => hU) (by decide) ac_int dX6_init_71 (by decide) rfl (by decide) (by omega) (by omega) ?_
  refine hp_putF C fl_X6_35_6 rfl rfl rfl rfl dX6_init_73 (i_8.mkA 0 80 (.int 0)) ?_
  have i_9 : hp_is G (mc_st m H_8 (0, 80, 10)) m 6 := i_8.mkA 0 80 (.int 0)
  have n_9 : hp_nx (mc_st m H_8 (0, 80, 10)) = hp_nx H_8 + 1 := rfl
  have s_9 : hp_sl (mc_st m H_8 (0, 80, 10)) = hp_sl H_8 + 80 := rfl
  change hp_V M G 1 _ (mc_st m H_8 (0, 80, 10)) _ _ _
  generalize e_9 : mc_st m H_8 (0, 80, 10) = H_9 at i_9 n_9 s_9 ⊢
  refine hp_aload_nR C dX6_init_76 rfl ?_
  refine hp_bipush (v := 80) C dX6_init_77 (by decide) ?_
  refine hp_newa C 0 (atype := .int) (ty := .int) (N := 80) rfl rfl (fun U hU => hU) (by decide) ac_int dX6_init_79 (by decide) rfl (by decide) (by omega) (by omega) ?_
  refine hp_putF C fl_X6_38_6 rfl rfl rfl rfl dX6_init_81 (i_9.mkA 0 80 (.int 0)) ?_
  have i_10 : hp_is G (mc_st m H_9 (0, 80, 11)) m 6 := i_9.mkA 0 80 (.int 0)
  have n_10 : hp_nx (mc_st m H_9 (0, 80, 11)) = hp_nx H_9 + 1 := rfl
  have s_10 : hp_sl (mc_st m H_9 (0, 80, 11)) = hp_sl H_9 + 80 := rfl
  change hp_V M G 1 _ (mc_st m H_9 (0, 80, 11)) _ _ _
  generalize e_10 : mc_st m H_9 (0, 80, 11) = H_10 at i_10 n_10 s_10 ⊢
  refine hp_aload_nR C dX6_init_84 rfl ?_
  refine hp_bipush (v := 80) C dX6_init_85 (by decide) ?_
  refine hp_newa C 0 (atype := .int) (ty := .int) (N := 80) rfl rfl (fun U hU => hU) (by decide) ac_int dX6_init_87 (by decide) rfl (by decide) (by omega) (by omega) ?_
  refine hp_putF C fl_X6_41_6 rfl rfl rfl rfl dX6_init_89 (i_10.mkA 0 80 (.int 0)) ?_
  have i_11 : hp_is G (mc_st m H_10 (0, 80, 12)) m 6 := i_10.mkA 0 80 (.int 0)
  have n_11 : hp_nx (mc_st m H_10 (0, 80, 12)) = hp_nx H_10 + 1 := rfl
  have s_11 : hp_sl (mc_st m H_10 (0, 80, 12)) = hp_sl H_10 + 80 := rfl
  change hp_V M G 1 _ (mc_st m H_10 (0, 80, 12)) _ _ _
  generalize e_11 : mc_st m H_10 (0, 80, 12) = H_11 at i_11 n_11 s_11 ⊢
  refine hp_aload_nR C dX6_init_92 rfl ?_
  refine hp_bipush (v := 80) C dX6_init_93 (by decide) ?_
  refine hp_newa C 0 (atype := .int) (ty := .int) (N := 80) rfl rfl (fun U hU => hU) (by decide) ac_int dX6_init_95 (by decide) rfl (by decide) (by omega) (by omega) ?_
  refine hp_putF C fl_X6_44_6 rfl rfl rfl rfl dX6_init_97 (i_11.mkA 0 80 (.int 0)) ?_
  have i_12 : hp_is G (mc_st m H_11 (0, 80, 13)) m 6 := i_11.mkA 0 80 (.int 0)
  have n_12 : hp_nx (mc_st m H_11 (0, 80, 13)) = hp_nx H_11 + 1 := rfl
  have s_12 : hp_sl (mc_st m H_11 (0, 80, 13)) = hp_sl H_11 + 80 := rfl
  change hp_V M G 1 _ (mc_st m H_11 (0, 80, 13)) _ _ _
  generalize e_12 : mc_st m H_11 (0, 80, 13) = H_12 at i_12 n_12 s_12 ⊢
  refine hp_aload_nR C dX6_init_100 rfl ?_
  refine hp_sipush (v := 6400) C dX6_init_101 (by decide) ?_
  refine hp_newa C 0 (atype := .int) (ty := .int) (N := 6400) rfl rfl (fun U hU => hU) (by decide) ac_int dX6_init_104 (by decide) rfl (by decide) (by omega) (by omega) ?_
  refine hp_putF C fl_X6_47_6 rfl rfl rfl rfl dX6_init_106 (i_12.mkA 0 6400 (.int 0)) ?_
  have i_13 : hp_is G (mc_st m H_12 (0, 6400, 14)) m 6 := i_12.mkA 0 6400 (.int 0)
  have n_13 : hp_nx (mc_st m H_12 (0, 6400, 14)) = hp_nx H_12 + 1 := rfl
  have s_13 : hp_sl (mc_st m H_12 (0, 6400, 14)) = hp_sl H_12 + 6400 := rfl
  change hp_V M G 1 _ (mc_st m H_12 (0, 6400, 14)) _ _ _
  generalize e_13 : mc_st m H_12 (0, 6400, 14) = H_13 at i_13 n_13 s_13 ⊢
  refine hp_aload_nR C dX6_init_109 rfl ?_
  refine hp_bipush (v := 80) C dX6_init_110 (by decide) ?_
  refine hp_newa C 0 (atype := .int) (ty := .int) (N := 80) rfl rfl (fun U hU => hU) (by decide) ac_int dX6_init_112 (by decide) rfl (by decide) (by omega) (by omega) ?_
  refine hp_putF C fl_X6_50_6 rfl rfl rfl rfl dX6_init_114 (i_13.mkA 0 80 (.int 0)) ?_
  have i_14 : hp_is G (mc_st m H_13 (0, 80, 15)) m 6 := i_13.mkA 0 80 (.int 0)
  have n_14 : hp_nx (mc_st m H_13 (0, 80, 15)) = hp_nx H_13 + 1 := rfl
  have s_14 : hp_sl (mc_st m H_13 (0, 80, 15)) = hp_sl H_13 + 80 := rfl
  change hp_V M G 1 _ (mc_st m H_13 (0, 80, 15)) _ _ _
  generalize e_14 : mc_st m H_13 (0, 80, 15) = H_14 at i_14 n_14 s_14 ⊢
  refine hp_aload_nR C dX6_init_117 rfl ?_
  refine hp_sipush (v := 4160) C dX6_init_118 (by decide) ?_
  refine hp_newa C 0 (atype := .int) (ty := .int) (N := 4160) rfl rfl (fun U hU => hU) (by decide) ac_int dX6_init_121 (by decide) rfl (by decide) (by omega) (by omega) ?_
  refine hp_putF C fl_X6_53_6 rfl rfl rfl rfl dX6_init_123 (i_14.mkA 0 4160 (.int 0)) ?_
  have i_15 : hp_is G (mc_st m H_14 (0, 4160, 16)) m 6 := i_14.mkA 0 4160 (.int 0)
  have n_15 : hp_nx (mc_st m H_14 (0, 4160, 16)) = hp_nx H_14 + 1 := rfl
  have s_15 : hp_sl (mc_st m H_14 (0, 4160, 16)) = hp_sl H_14 + 4160 := rfl
  change hp_V M G 1 _ (mc_st m H_14 (0, 4160, 16)) _ _ _
  generalize e_15 : mc_st m H_14 (0, 4160, 16) = H_15 at i_15 n_15 s_15 ⊢
  refine hp_aload_nR C dX6_init_126 rfl ?_
  refine hp_bipush (v := 80) C dX6_init_127 (by decide) ?_
  refine hp_newa C 0 (atype := .int) (ty := .int) (N := 80) rfl rfl (fun U hU => hU) (by decide) ac_int dX6_init_129 (by decide) rfl (by decide) (by omega) (by omega) ?_
  refine hp_putF C fl_X6_56_6 rfl rfl rfl rfl dX6_init_131 (i_15.mkA 0 80 (.int 0)) ?_
  have i_16 : hp_is G (mc_st m H_15 (0, 80, 17)) m 6 := i_15.mkA 0 80 (.int 0)
  have n_16 : hp_nx (mc_st m H_15 (0, 80, 17)) = hp_nx H_15 + 1 := rfl
  have s_16 : hp_sl (mc_st m H_15 (0, 80, 17)) = hp_sl H_15 + 80 := rfl
  change hp_V M G 1 _ (mc_st m H_15 (0, 80, 17)) _ _ _
  generalize e_16 : mc_st m H_15 (0, 80, 17) = H_16 at i_16 n_16 s_16 ⊢
  refine hp_aload_nR C dX6_init_134 rfl ?_
  refine hp_sipush (v := 2400) C dX6_init_135 (by decide) ?_
  refine hp_newa C 0 (atype := .int) (ty := .int) (N := 2400) rfl rfl (fun U hU => hU) (by decide) ac_int dX6_init_138 (by decide) rfl (by decide) (by omega) (by omega) ?_
  refine hp_putF C fl_X6_59_6 rfl rfl rfl rfl dX6_init_140 (i_16.mkA 0 2400 (.int 0)) ?_
  have i_17 : hp_is G (mc_st m H_16 (0, 2400, 20)) m 6 := i_16.mkA 0 2400 (.int 0)
  have n_17 : hp_nx (mc_st m H_16 (0, 2400, 20)) = hp_nx H_16 + 1 := rfl
  have s_17 : hp_sl (mc_st m H_16 (0, 2400, 20)) = hp_sl H_16 + 2400 := rfl
  change hp_V M G 1 _ (mc_st m H_16 (0, 2400, 20)) _ _ _
  generalize e_17 : mc_st m H_16 (0, 2400, 20) = H_17 at i_17 n_17 s_17 ⊢
  refine hp_aload_nR C dX6_init_143 rfl ?_
  refine hp_bipush (v := 10) C dX6_init_144 (by decide) ?_
  refine hp_newa C 0 (atype := .int) (ty := .int) (N := 10) rfl rfl (fun U hU => hU) (by decide) ac_int dX6_init_146 (by decide) rfl (by decide) (by omega) (by omega) ?_
  refine hp_putF C fl_X6_62_6 rfl rfl rfl rfl dX6_init_148 (i_17.mkA 0 10 (.int 0)) ?_
  have i_18 : hp_is G (mc_st m H_17 (0, 10, 23)) m 6 := i_17.mkA 0 10 (.int 0)
  have n_18 : hp_nx (mc_st m H_17 (0, 10, 23)) = hp_nx H_17 + 1 := rfl
  have s_18 : hp_sl (mc_st m H_17 (0, 10, 23)) = hp_sl H_17 + 10 := rfl
  change hp_V M G 1 _ (mc_st m H_17 (0, 10, 23)) _ _ _
  generalize e_18 : mc_st m H_17 (0, 10, 23) = H_18 at i_18 n_18 s_18 ⊢
  refine hp_aload_nR C dX6_init_151 rfl ?_
  refine hp_bipush (v := 10) C dX6_init_152 (by decide) ?_
  refine hp_newa C 0 (atype := .int) (ty := .int) (N := 10) rfl rfl (fun U hU => hU) (by decide) ac_int dX6_init_154 (by decide) rfl (by decide) (by omega) (by omega) ?_
  refine hp_putF C fl_X6_65_6 rfl rfl rfl rfl dX6_init_156 (i_18.mkA 0 10 (.int 0)) ?_
  have i_19 : hp_is G (mc_st m H_18 (0, 10, 24)) m 6 := i_18.mkA 0 10 (.int 0)
  have n_19 : hp_nx (mc_st m H_18 (0, 10, 24)) = hp_nx H_18 + 1 := rfl
  have s_19 : hp_sl (mc_st m H_18 (0, 10, 24)) = hp_sl H_18 + 10 := rfl
  change hp_V M G 1 _ (mc_st m H_18 (0, 10, 24)) _ _ _
  generalize e_19 : mc_st m H_18 (0, 10, 24) = H_19 at i_19 n_19 s_19 ⊢
  have eF : H_19 = mc_fd m mc_L h := by rw [← e_19, ← e_18, ← e_17, ← e_16, ← e_15, ← e_14, ← e_13, ← e_12, ← e_11, ← e_10, ← e_9, ← e_8, ← e_7, ← e_6, ← e_5, ← e_4, ← e_3, ← e_2, ← e_1]; rfl
  obtain ⟨sh, vw⟩ := mc_view hi hx0 z0
  rw [← eF] at sh vw
  rw [vw]
  refine hp_aload_nR C dX6_init_159 rfl ?_
  refine mo_getA C sh fl_X6_7_6 rfl (by decide) dX6_init_160 ?_
  refine hp_iconst (v := 0) C dX6_init_163 (by decide) ?_
  refine hp_iconst (v := 1) C dX6_init_164 (by decide) ?_
  refine mo_zst C sh rfl dX6_init_165 (by unfold vp_in; decide) ?_
  refine hp_aload_nR C dX6_init_166 rfl ?_
  refine mo_getA C sh fl_X6_13_6 rfl (by decide) dX6_init_167 ?_
  refine hp_iconst (v := 0) C dX6_init_170 (by decide) ?_
  refine hp_iconst (v := (-1)) C dX6_init_171 (by decide) ?_
  refine mo_ast C sh rfl (by decide) dX6_init_172 (by unfold vp_in; decide) ?_
  refine hp_aload_nR C dX6_init_173 rfl ?_
  refine mo_getA C sh fl_X6_29_6 rfl (by decide) dX6_init_174 ?_
  refine hp_iconst (v := 0) C dX6_init_177 (by decide) ?_
  refine hp_iconst (v := 1) C dX6_init_178 (by decide) ?_
  refine mo_ast C sh rfl (by decide) dX6_init_179 (by unfold vp_in; decide) ?_
  refine hp_aload_nR C dX6_init_180 rfl ?_
  refine mo_getA C sh fl_X6_32_6 rfl (by decide) dX6_init_181 ?_
  refine hp_iconst (v := 0) C dX6_init_184 (by decide) ?_
  refine hp_iconst (v := 5) C dX6_init_185 (by decide) ?_
  refine mo_ast C sh rfl (by decide) dX6_init_186 (by unfold vp_in; decide) ?_
  refine hp_aload_nR C dX6_init_187 rfl ?_
  refine hp_iconst (v := 1) C dX6_init_188 (by decide) ?_
  refine mo_putS C sh fl_X6_68_6 rfl (by decide) rfl rfl rfl dX6_init_189 ?_
  refine hp_vret C hr dX6_init_192 ?_
  exact ⟨rfl, H_19, rfl, sh, by omega, by omega, fun b hb => by rw [eF]; exact ⟨(mc_old m mc_L h b (by omega)).1, (mc_old m mc_L h b (by omega)).2.1, (mc_old m mc_L h b (by omega)).2.2.1, fun f => (mc_old m mc_L h b (by omega)).2.2.2 f (Or.inl (by omega))⟩⟩
