/-! ===== the journal, a worker's own methods, the restarts' times ===== -/
section KRL
variable {M : hpM} {G : hpG} {y : MethodName} {cc : ByteArray} {nL d : Nat} {h0 h : hpT} {Q : State → Prop} {pc : Nat} {lo : Nat → Option Value} {st : List Value} {pr : Nat → Prop} {B : hpT} {N S : Nat} {κ : kS} {a : aS} {n idx : Nat}
theorem hp_dlt (C : hp_F M G y cc nL d h0) : hp_dE G < hp_n0 G := C.en.2.2.2.2.2.2.1
/-- an event's number is written behind those that are told -/
theorem ks_col (C : hp_F M G y cc nL d h0) (K : KR G pr B N S h κ a) (j : Nat) (hj : j < 4) (hL : (a_ev a).length < 600) {v : Int32} (dd : decode cc pc = .ok (.iastore, 1))
    (kk : ∀ h', KR G pr B N S h' κ a → hp_ar h' (κ.1 5 (3 + j)) (a_ev a).length = .int v → (∀ i, i < 4 → i ≠ j → hp_ar h' (κ.1 5 (3 + i)) (a_ev a).length = hp_ar h (κ.1 5 (3 + i)) (a_ev a).length) → hp_V M G nL Q h' (pc + 1) lo st) : hp_V M G nL Q h pc lo (.int v :: .int (nI (a_ev a).length) :: .ref (κ.1 5 (3 + j)) :: st) := by
  have e1 := nI_clamp (n := (a_ev a).length) (by omega)
  refine hp_iast C dd (K.isc hj).1 (by rw [(K.isc hj).2]; exact nI_in hL (by omega)) ?_
  rw [e1]
  refine kk _ (K.set (K.1.2.2.2.2.2.1 j hj).1.2 (fun r n i ok e => ?_)) ?_ (fun i hi hij => ?_)
  · obtain ⟨r1, r2⟩ := K.dis (hp_dlt C) (K.rok ok) (Or.inr (Or.inr (Or.inr (Or.inl ⟨rfl, by omega, by omega⟩)))) e
    subst r1 r2
    rcases ok with ⟨h1, -⟩ | ⟨h1, -⟩ | ⟨-, h1, -⟩ | ⟨-, -, -, -, h5⟩ | ⟨-, h1, -⟩ <;> omega
  · rw [hp_set_ar, if_pos rfl, if_pos rfl]
  · rw [hp_set_ar, if_neg]
    intro z
    exact hij (K.2.1.2.2.2 i j hi hj z)
end KRL
set_option maxRecDepth 20000 in
set_option maxHeartbeats 4000000 in
theorem kc_tell {l : Launch} {G : hpG} {pr : Nat → Prop} {B : hpT} {N S : Nat} {h : hpT} {κ : kS} {a : aS} {d : Nat} (K : KR G pr B N S h κ a) {w n r : Nat} (hl : (a_ev a).length < 2 ^ 30) : hp_C l G yX0_tell (.code yX0_tell cX0_tell 4 none) d [.ref (κ.1 5 1), .int (nI w), .int (nI n), .int (nI r)] (h) (fun v h' => v = none ∧ KR G pr B N S h' κ (a_no a w n r)) (fun _ _ => False) := by
  refine hp_ofV (by decide) (by simp [Value.category]) (Nat.le_of_ble_eq_true rfl) (fun M C hr hx el => ?_)
  refine hp_aload_nR C dX0_tell_0 rfl ?_
  refine hp_get C fl_X0_20_1 dX0_tell_1 K.isJ K.f34 ?_
  refine hp_sipush (v := 600) C dX0_tell_4 (by decide) ?_
  refine hp_icmp_ge (tgt := 61) C dX0_tell_7 (by decide) (fun c_7 => ?_) (fun c_7 => ?_)
  · refine hp_aload_nR C dX0_tell_61 rfl ?_
    refine hp_dup C dX0_tell_62 rfl ?_
    refine hp_get C fl_X0_20_1 dX0_tell_63 K.isJ K.f34 ?_
    refine hp_iconst (v := 1) C dX0_tell_66 (by decide) ?_
    refine hp_iadd C dX0_tell_67 ?_
    rw [nI_1]
    refine hp_putf C fl_X0_20_1 rfl rfl rfl dX0_tell_68 K.isJ ?_
    refine hp_vret C hr dX0_tell_71 ?_
    exact ⟨rfl, K.tell (fun hL_ => absurd hL_ (by have := (nI_leI (a := 600) (b := (a_ev a).length) (by omega) (by omega)).mp c_7; omega))⟩
  · have hL : (a_ev a).length < 600 := by
      have := (not_congr (nI_leI (a := 600) (b := (a_ev a).length) (by omega) (by omega))).mp c_7
      omega
    refine hp_aload_nR C dX0_tell_10 rfl ?_
    refine hp_get C fl_X0_13_1 dX0_tell_11 K.isJ K.f32 ?_
    refine hp_iconst (v := 0) C dX0_tell_14 (by decide) ?_
    refine hp_aald C 5 rfl rfl (by decide) dX0_tell_15 K.isC.1 (by rw [K.isC.2]; unfold vp_in; decide) (K.col (i := 0) (by decide)) ?_
    refine hp_aload_nR C dX0_tell_16 rfl ?_
    refine hp_get C fl_X0_20_1 dX0_tell_17 K.isJ K.f34 ?_
    refine hp_iload_n C dX0_tell_20 rfl ?_
    refine ks_col C K 0 (by decide) hL dX0_tell_21 (fun h_21 K_21 x_21 y_21 => ?_)
    refine hp_aload_nR C dX0_tell_22 rfl ?_
    refine hp_get C fl_X0_13_1 dX0_tell_23 K_21.isJ K_21.f32 ?_
    refine hp_iconst (v := 1) C dX0_tell_26 (by decide) ?_
    refine hp_aald C 5 rfl rfl (by decide) dX0_tell_27 K_21.isC.1 (by rw [K_21.isC.2]; unfold vp_in; decide) (K_21.col (i := 1) (by decide)) ?_
    refine hp_aload_nR C dX0_tell_28 rfl ?_
    refine hp_get C fl_X0_20_1 dX0_tell_29 K_21.isJ K_21.f34 ?_
    refine hp_iload_n C dX0_tell_32 rfl ?_
    refine ks_col C K_21 1 (by decide) hL dX0_tell_33 (fun h_33 K_33 x_33 y_33 => ?_)
    refine hp_aload_nR C dX0_tell_34 rfl ?_
    refine hp_get C fl_X0_13_1 dX0_tell_35 K_33.isJ K_33.f32 ?_
    refine hp_iconst (v := 2) C dX0_tell_38 (by decide) ?_
    refine hp_aald C 5 rfl rfl (by decide) dX0_tell_39 K_33.isC.1 (by rw [K_33.isC.2]; unfold vp_in; decide) (K_33.col (i := 2) (by decide)) ?_
    refine hp_aload_nR C dX0_tell_40 rfl ?_
    refine hp_get C fl_X0_20_1 dX0_tell_41 K_33.isJ K_33.f34 ?_
    refine hp_aload_nR C dX0_tell_44 rfl ?_
    refine hp_get C fl_X0_16_1 dX0_tell_45 K_33.isJ K_33.f33 ?_
    refine ks_col C K_33 2 (by decide) hL dX0_tell_48 (fun h_48 K_48 x_48 y_48 => ?_)
    refine hp_aload_nR C dX0_tell_49 rfl ?_
    refine hp_get C fl_X0_13_1 dX0_tell_50 K_48.isJ K_48.f32 ?_
    refine hp_iconst (v := 3) C dX0_tell_53 (by decide) ?_
    refine hp_aald C 5 rfl rfl (by decide) dX0_tell_54 K_48.isC.1 (by rw [K_48.isC.2]; unfold vp_in; decide) (K_48.col (i := 3) (by decide)) ?_
    refine hp_aload_nR C dX0_tell_55 rfl ?_
    refine hp_get C fl_X0_20_1 dX0_tell_56 K_48.isJ K_48.f34 ?_
    refine hp_iload_n C dX0_tell_59 rfl ?_
    refine ks_col C K_48 3 (by decide) hL dX0_tell_60 (fun h_60 K_60 x_60 y_60 => ?_)
    have hw : ∀ j, j < 4 → hp_ar h_60 (κ.1 5 (3 + j)) (a_ev a).length = .int (nI (k_ec j (w, n, a_tm a, r))) := by
      intro j hj
      have q : j = 0 ∨ j = 1 ∨ j = 2 ∨ j = 3 := by omega
      rcases q with rfl | rfl | rfl | rfl
      · exact (y_60 0 (by decide) (by decide)).trans ((y_48 0 (by decide) (by decide)).trans ((y_33 0 (by decide) (by decide)).trans x_21))
      · exact (y_60 1 (by decide) (by decide)).trans ((y_48 1 (by decide) (by decide)).trans x_33)
      · exact (y_60 2 (by decide) (by decide)).trans x_48
      · exact x_60
    refine hp_aload_nR C dX0_tell_61 rfl ?_
    refine hp_dup C dX0_tell_62 rfl ?_
    refine hp_get C fl_X0_20_1 dX0_tell_63 K_60.isJ K_60.f34 ?_
    refine hp_iconst (v := 1) C dX0_tell_66 (by decide) ?_
    refine hp_iadd C dX0_tell_67 ?_
    rw [nI_1]
    refine hp_putf C fl_X0_20_1 rfl rfl rfl dX0_tell_68 K_60.isJ ?_
    refine hp_vret C hr dX0_tell_71 ?_
    exact ⟨rfl, K_60.tell (fun hL_ => hw)⟩
/-- the tree's own facts: kinds, depths, rows; ranges of the numbers -/
def a_T (a : aS) : Prop := (1 ≤ a_mk a ∧ a_mk a ≤ 80) ∧
  (∀ n, n < a_mk a → (a_nd a 0 n = 0 ∨ a_nd a 0 n = 1) ∧ (0 ≤ a_nd a 2 n ∧ a_nd a 2 n ≤ 8) ∧ (0 ≤ a_nd a 4 n ∧ a_nd a 4 n ≤ 2) ∧ (0 ≤ a_nd a 5 n ∧ a_nd a 5 n ≤ 2) ∧ (0 ≤ a_nd a 6 n ∧ a_nd a 6 n ≤ 50) ∧ (0 ≤ a_nd a 7 n ∧ a_nd a 7 n ≤ 1000) ∧ (-1 ≤ a_nd a 8 n ∧ a_nd a 8 n ≤ 1000) ∧ (0 ≤ a_nd a 9 n ∧ a_nd a 9 n ≤ 100) ∧ (0 ≤ a_nd a 10 n ∧ a_nd a 10 n ≤ 100) ∧ (n ≠ 0 → 0 ≤ a_nd a 1 n ∧ a_nd a 1 n < n)) ∧
  (∀ n, n < a_mk a → 0 ≤ a_nd a 3 n ∧ a_nd a 3 n ≤ 2) ∧ (∀ n, n < a_mk a → 0 ≤ a_nd a 11 n ∧ a_nd a 11 n ≤ 50) ∧
  (∀ n, n < a_mk a → a_nd a 0 n = 0 → a_rw a n = []) ∧ (∀ n, n < a_mk a → (a_rw a n).length ≤ 79 ∧ (a_rw a n).Nodup ∧ ∀ c, c ∈ a_rw a n → c < a_mk a ∧ a_nd a 1 c = n ∧ a_nd a 2 c = a_nd a 2 n + 1)
/-- the times of the restarts ascend, none is ahead of TIME -/
def a_A (a : aS) : Prop := ∀ n, n < a_mk a → (a_rt a n).Pairwise (· ≤ ·) ∧ ∀ x, x ∈ a_rt a n → x ≤ a_tm a
section AT
variable {a : aS} {n : Nat}
theorem a_T.kb (T : a_T a) (hn : n < a_mk a) : a_nd a 0 n = 0 ∨ a_nd a 0 n = 1 := (T.2.1 n hn).1
theorem a_T.r2 (T : a_T a) (hn : n < a_mk a) : 0 ≤ a_nd a 2 n ∧ a_nd a 2 n ≤ 8 := (T.2.1 n hn).2.1
theorem a_T.r4 (T : a_T a) (hn : n < a_mk a) : 0 ≤ a_nd a 4 n ∧ a_nd a 4 n ≤ 2 := (T.2.1 n hn).2.2.1
theorem a_T.r5 (T : a_T a) (hn : n < a_mk a) : 0 ≤ a_nd a 5 n ∧ a_nd a 5 n ≤ 2 := (T.2.1 n hn).2.2.2.1
theorem a_T.r6 (T : a_T a) (hn : n < a_mk a) : 0 ≤ a_nd a 6 n ∧ a_nd a 6 n ≤ 50 := (T.2.1 n hn).2.2.2.2.1
theorem a_T.r7 (T : a_T a) (hn : n < a_mk a) : 0 ≤ a_nd a 7 n ∧ a_nd a 7 n ≤ 1000 := (T.2.1 n hn).2.2.2.2.2.1
theorem a_T.r8 (T : a_T a) (hn : n < a_mk a) : -1 ≤ a_nd a 8 n ∧ a_nd a 8 n ≤ 1000 := (T.2.1 n hn).2.2.2.2.2.2.1
theorem a_T.r9 (T : a_T a) (hn : n < a_mk a) : 0 ≤ a_nd a 9 n ∧ a_nd a 9 n ≤ 100 := (T.2.1 n hn).2.2.2.2.2.2.2.1
theorem a_T.r10 (T : a_T a) (hn : n < a_mk a) : 0 ≤ a_nd a 10 n ∧ a_nd a 10 n ≤ 100 := (T.2.1 n hn).2.2.2.2.2.2.2.2.1
theorem a_T.r1 (T : a_T a) (hn : n < a_mk a) (h0 : n ≠ 0) : 0 ≤ a_nd a 1 n ∧ a_nd a 1 n < n := (T.2.1 n hn).2.2.2.2.2.2.2.2.2 h0
theorem a_T.r3 (T : a_T a) (hn : n < a_mk a) : 0 ≤ a_nd a 3 n ∧ a_nd a 3 n ≤ 2 := T.2.2.1 n hn
theorem a_T.r11 (T : a_T a) (hn : n < a_mk a) : 0 ≤ a_nd a 11 n ∧ a_nd a 11 n ≤ 50 := T.2.2.2.1 n hn
theorem a_T.rc (T : a_T a) (hn : n < a_mk a) {c : Nat} (hc : c ∈ a_rw a n) : c < a_mk a ∧ a_nd a 1 c = n ∧ a_nd a 2 c = a_nd a 2 n + 1 := (T.2.2.2.2.2 n hn).2.2 c hc
theorem a_T.nd (T : a_T a) (hn : n < a_mk a) : (a_rw a n).Nodup := (T.2.2.2.2.2 n hn).2.1
theorem a_T.rl (T : a_T a) (hn : n < a_mk a) : (a_rw a n).length ≤ 79 := (T.2.2.2.2.2 n hn).1
end AT
theorem a_ofN {x : Int} (h : 0 ≤ x) : Int32.ofInt x = nI x.toNat := by
  have : x = ((x.toNat : Nat) : Int) := (Int.toNat_of_nonneg h).symm
  rw [this, Int.toNat_natCast]
  rfl
theorem a_ofI_le {x y : Int} (hx : a_sm x) (hy : a_sm y) : Int32.ofInt x ≤ Int32.ofInt y ↔ x ≤ y := by
  rw [Int32.le_iff_toInt_le, a_ofI hx, a_ofI hy]
theorem a_ofI_lt {x y : Int} (hx : a_sm x) (hy : a_sm y) : Int32.ofInt x < Int32.ofInt y ↔ x < y := by
  rw [Int32.lt_iff_toInt_lt, a_ofI hx, a_ofI hy]
theorem k_dec (x : Int32) : x + Int32.ofInt (-1) = x - 1 := by
  rw [Int32.sub_eq_add_neg]
  rfl
theorem a_ofI_pred (x : Int) : Int32.ofInt x - 1 = Int32.ofInt (x - 1) := (Int32.ofInt_sub x 1).symm
theorem a_end_w {a : aS} {n : Nat} (hw : a_nd a 0 n = 0) {x : Nat} (hx : a_long a n = x) {b : Bool} (hb : a_dies a n = b) : a_no (a_sn (a_st a (a_tm a + x)) 3 n 0) (if b = true then 4 else 3) n 0 = a_end false n a := by
  unfold a_end
  rw [if_pos (show a_nd a 0 n = 0 ∧ false = false from ⟨hw, rfl⟩), hx, hb]
theorem a_go_w {a : aS} {n d : Nat} (hw : a_nd a 0 n = 0) : a_go (d + 1) n a = (if 0 < a_nd a 11 n then (false, a_no (a_sn (a_sn (a_st a (a_tm a + (a_nd a 9 n).toNat)) 11 n (a_nd a 11 n - 1)) 3 n 0) 2 n 0) else (true, a_no (a_sn (a_st a (a_tm a + (a_nd a 9 n).toNat)) 3 n 1) 1 n 0)) := by
  show (if a_nd a 0 n = 0 then _ else _) = _
  rw [if_pos hw]
def a_evt (a : aS) (i : Int32) (j : Nat) : Int32 := if 0 ≤ i.toInt ∧ i.toInt < (a_ev a).length ∧ i.toInt < 600 then nI (k_ec j ((a_ev a).getD i.toInt.toNat (0, 0, 0, 0))) else -1
set_option maxRecDepth 20000 in
set_option maxHeartbeats 4000000 in
theorem kc_settle0 {l : Launch} {G : hpG} {pr : Nat → Prop} {B : hpT} {N S : Nat} {h : hpT} {κ : kS} {a : aS} {d : Nat} (K : KR G pr B N S h κ a) {n : Nat} (hn : n < a_mk a) (hb : a_nd a 0 n = 0 ∨ a_nd a 0 n = 1) (hl : (a_ev a).length < 2 ^ 30) (hd : 1 ≤ d) : hp_C l G yX2_settle (.code yX2_settle cX2_settle 3 (some .boolean)) d [.ref (κ.1 0 n), .int 0, .ref (κ.1 5 1)] (h) (fun v h' => v = some (.int 1) ∧ KR G pr B N S h' κ (a_no (a_sn a 3 n 1) 1 n 0)) (fun _ _ => False) := by
  refine hp_ofV (by decide) (by simp [Value.category]) (Nat.le_of_ble_eq_true rfl) (fun M C hr hx el => ?_)
  refine hp_aload_nR C dX2_settle_0 rfl ?_
  refine hp_iload_n C dX2_settle_1 rfl ?_
  refine hp_if_eq (tgt := 9) C dX2_settle_2 (by decide) (fun _ => ?_) (fun z_9 => absurd z_9 (by decide))
  refine hp_iconst (v := 1) C dX2_settle_9 (by decide) ?_
  refine kp_68N C K hn hb fl_X2_9_2 fl_X2_9_4 1 (by decide) dX2_settle_10 (fun h_10 K_10 => ?_)
  refine hp_aload_nR C dX2_settle_13 rfl ?_
  refine hp_iload_n C dX2_settle_14 rfl ?_
  refine hp_if_eq (tgt := 22) C dX2_settle_15 (by decide) (fun _ => ?_) (fun z_9 => absurd z_9 (by decide))
  refine hp_iconst (v := 1) C dX2_settle_22 (by decide) ?_
  refine hp_aload_nR C dX2_settle_23 rfl ?_
  refine kg_N C K_10 hn hb (by decide) fl_X2_15_2 fl_X2_15_4 dX2_settle_24 (K_10.f64 hn) ?_
  refine hp_iconst (v := 0) C dX2_settle_27 (by decide) ?_
  refine hp_callV (ci := 1) C ml_X2_31 im_X0_tell se_X0_tell rfl (by decide) (kc_tell (d := d - 1) (w := 1) (n := n) (r := 0) K_10 hl) (by omega) dX2_settle_28 K_10.isJ rfl rfl (by simp [Value.category]) (fun v_28 h_28 hp => ?_) (fun _ _ hf => hf.elim)
  obtain ⟨rfl, K_28⟩ := hp
  refine hp_iload_n C dX2_settle_31 rfl ?_
  refine hp_if_ne (tgt := 39) C dX2_settle_32 (by decide) (fun z_9 => absurd z_9 (by decide)) (fun _ => ?_)
  refine hp_iconst (v := 1) C dX2_settle_35 (by decide) ?_
  refine hp_goto (tgt := 40) C dX2_settle_36 (by decide) ?_
  refine hp_iret C hr (by decide) dX2_settle_40 ?_
  exact ⟨rfl, K_28⟩
set_option maxRecDepth 20000 in
set_option maxHeartbeats 4000000 in
theorem kc_settle1 {l : Launch} {G : hpG} {pr : Nat → Prop} {B : hpT} {N S : Nat} {h : hpT} {κ : kS} {a : aS} {d : Nat} (K : KR G pr B N S h κ a) {n : Nat} (hn : n < a_mk a) (hb : a_nd a 0 n = 0 ∨ a_nd a 0 n = 1) (hl : (a_ev a).length < 2 ^ 30) (hd : 1 ≤ d) : hp_C l G yX2_settle (.code yX2_settle cX2_settle 3 (some .boolean)) d [.ref (κ.1 0 n), .int 1, .ref (κ.1 5 1)] (h) (fun v h' => v = some (.int 0) ∧ KR G pr B N S h' κ (a_no (a_sn a 3 n 0) 2 n 0)) (fun _ _ => False) := by
  refine hp_ofV (by decide) (by simp [Value.category]) (Nat.le_of_ble_eq_true rfl) (fun M C hr hx el => ?_)
  refine hp_aload_nR C dX2_settle_0 rfl ?_
  refine hp_iload_n C dX2_settle_1 rfl ?_
  refine hp_if_eq (tgt := 9) C dX2_settle_2 (by decide) (fun z_9 => absurd z_9 (by decide)) (fun _ => ?_)
  refine hp_iconst (v := 0) C dX2_settle_5 (by decide) ?_
  refine hp_goto (tgt := 10) C dX2_settle_6 (by decide) ?_
  refine kp_68N C K hn hb fl_X2_9_2 fl_X2_9_4 0 (by decide) dX2_settle_10 (fun h_10 K_10 => ?_)
  refine hp_aload_nR C dX2_settle_13 rfl ?_
  refine hp_iload_n C dX2_settle_14 rfl ?_
  refine hp_if_eq (tgt := 22) C dX2_settle_15 (by decide) (fun z_9 => absurd z_9 (by decide)) (fun _ => ?_)
  refine hp_iconst (v := 2) C dX2_settle_18 (by decide) ?_
  refine hp_goto (tgt := 23) C dX2_settle_19 (by decide) ?_
  refine hp_aload_nR C dX2_settle_23 rfl ?_
  refine kg_N C K_10 hn hb (by decide) fl_X2_15_2 fl_X2_15_4 dX2_settle_24 (K_10.f64 hn) ?_
  refine hp_iconst (v := 0) C dX2_settle_27 (by decide) ?_
  refine hp_callV (ci := 1) C ml_X2_31 im_X0_tell se_X0_tell rfl (by decide) (kc_tell (d := d - 1) (w := 2) (n := n) (r := 0) K_10 hl) (by omega) dX2_settle_28 K_10.isJ rfl rfl (by simp [Value.category]) (fun v_28 h_28 hp => ?_) (fun _ _ hf => hf.elim)
  obtain ⟨rfl, K_28⟩ := hp
  refine hp_iload_n C dX2_settle_31 rfl ?_
  refine hp_if_ne (tgt := 39) C dX2_settle_32 (by decide) (fun _ => ?_) (fun z_9 => absurd z_9 (by decide))
  refine hp_iconst (v := 0) C dX2_settle_39 (by decide) ?_
  refine hp_iret C hr (by decide) dX2_settle_40 ?_
  exact ⟨rfl, K_28⟩
set_option maxRecDepth 20000 in
set_option maxHeartbeats 4000000 in
theorem kc_riseW {l : Launch} {G : hpG} {pr : Nat → Prop} {B : hpT} {N S : Nat} {h : hpT} {κ : kS} {a : aS} {d : Nat} (K : KR G pr B N S h κ a) {n q : Nat} (T : a_T a) (hn : n < a_mk a) (hk : a_nd a 0 n = 0) (hl : (a_ev a).length < 2 ^ 30) (hd : 2 ≤ d) : hp_C l G yX4_rise (.code yX4_rise cX4_rise 3 (some .boolean)) d [.ref (κ.1 0 n), .ref (κ.1 5 1)] (h) (fun v h' => v = some (.int (if (a_go (q + 1) n a).1 = true then 1 else 0)) ∧ ∃ ρ', KR G pr B N S h' (κ.1, κ.2.1, ρ') (a_go (q + 1) n a).2) (fun _ _ => False) := by
  rw [a_go_w hk]
  have r9 := T.r9 hn
  have r11 := T.r11 hn
  refine hp_ofV (by decide) (by simp [Value.category]) (Nat.le_of_ble_eq_true rfl) (fun M C hr hx el => ?_)
  refine hp_aload_nR C dX4_rise_0 rfl ?_
  refine hp_dup C dX4_rise_1 rfl ?_
  refine hp_get C fl_X4_24_1 dX4_rise_2 K.isJ K.f33 ?_
  refine hp_aload_nR C dX4_rise_5 rfl ?_
  refine hp_get C fl_X4_15_4 dX4_rise_6 (K.isW hn hk) (K.f134 hn hk) ?_
  refine hp_iadd C dX4_rise_9 ?_
  refine kp_33 C K fl_X4_24_1 (a_tm a + (a_nd a 9 n).toNat) (by rw [a_ofN r9.1, nI_add]) (Nat.le_add_right _ _) dX4_rise_10 (fun h_10 K_10 => ?_)
  refine hp_aload_nR C dX4_rise_13 rfl ?_
  refine hp_get C fl_X4_21_4 dX4_rise_14 (K_10.isW hn hk) (K_10.f136 hn hk) ?_
  refine hp_if_le (tgt := 24) C dX4_rise_17 (by decide) (fun c_17 => ?_) (fun c_17 => ?_)
  · have hp : ¬ 0 < a_nd a 11 n := by
      have := (a_ofI_le (x := a_nd a 11 n) (y := 0) (by omega) (by omega)).mp c_17
      omega
    rw [if_neg hp]
    refine hp_iconst (v := 0) C dX4_rise_24 (by decide) ?_
    refine hp_istore_n C dX4_rise_25 (by decide) ?_
    refine hp_iload_n C dX4_rise_26 rfl ?_
    refine hp_if_eq (tgt := 40) C dX4_rise_27 (by decide) (fun _ => ?_) (fun z_9 => absurd z_9 (by decide))
    refine hp_aload_nR C dX4_rise_40 rfl ?_
    refine hp_iload_n C dX4_rise_41 rfl ?_
    refine hp_aload_nR C dX4_rise_42 rfl ?_
    refine hp_callU C 4 ul_X4_29_X4 rfl (by decide) (kc_settle0 (d := d - 1) K_10 hn (Or.inl hk) hl (by omega)) (by omega) dX4_rise_43 (K_10.isW hn hk) rfl rfl (by simp [Value.category]) (fun v_43 h_43 hp => ?_)
    obtain ⟨rfl, K_43⟩ := hp
    refine hp_iret C hr (by decide) dX4_rise_46 ?_
    exact ⟨rfl, κ.2.2, K_43⟩
  · have hp : 0 < a_nd a 11 n := by
      have := (not_congr (a_ofI_le (x := a_nd a 11 n) (y := 0) (by omega) (by omega))).mp c_17
      omega
    rw [if_pos hp]
    refine hp_iconst (v := 1) C dX4_rise_20 (by decide) ?_
    refine hp_goto (tgt := 25) C dX4_rise_21 (by decide) ?_
    refine hp_istore_n C dX4_rise_25 (by decide) ?_
    refine hp_iload_n C dX4_rise_26 rfl ?_
    refine hp_if_eq (tgt := 40) C dX4_rise_27 (by decide) (fun z_9 => absurd z_9 (by decide)) (fun _ => ?_)
    refine hp_aload_nR C dX4_rise_30 rfl ?_
    refine hp_dup C dX4_rise_31 rfl ?_
    refine hp_get C fl_X4_21_4 dX4_rise_32 (K_10.isW hn hk) (K_10.f136 hn hk) ?_
    refine hp_iconst (v := 1) C dX4_rise_35 (by decide) ?_
    refine hp_isub C dX4_rise_36 ?_
    refine kp_136W C K_10 hn hk fl_X4_21_4 (a_nd a 11 n - 1) (a_ofI_pred _) dX4_rise_37 (fun h_37 K_37 => ?_)
    refine hp_aload_nR C dX4_rise_40 rfl ?_
    refine hp_iload_n C dX4_rise_41 rfl ?_
    refine hp_aload_nR C dX4_rise_42 rfl ?_
    refine hp_callU C 4 ul_X4_29_X4 rfl (by decide) (kc_settle1 (d := d - 1) K_37 hn (Or.inl hk) hl (by omega)) (by omega) dX4_rise_43 (K_37.isW hn hk) rfl rfl (by simp [Value.category]) (fun v_43 h_43 hp => ?_)
    obtain ⟨rfl, K_43⟩ := hp
    refine hp_iret C hr (by decide) dX4_rise_46 ?_
    exact ⟨rfl, κ.2.2, K_43⟩
set_option maxRecDepth 20000 in
set_option maxHeartbeats 4000000 in
theorem kc_fallW {l : Launch} {G : hpG} {pr : Nat → Prop} {B : hpT} {N S : Nat} {h : hpT} {κ : kS} {a : aS} {d : Nat} (K : KR G pr B N S h κ a) {n : Nat} (T : a_T a) (hn : n < a_mk a) (hk : a_nd a 0 n = 0) (hl : (a_ev a).length < 2 ^ 30) (hd : 2 ≤ d) : hp_C l G yX4_fall (.code yX4_fall cX4_fall 3 none) d [.ref (κ.1 0 n), .ref (κ.1 5 1)] (h) (fun v h' => v = none ∧ KR G pr B N S h' κ (a_end false n a)) (fun _ _ => False) := by
  have r8 := T.r8 hn
  have r10 := T.r10 hn
  refine hp_ofV (by decide) (by simp [Value.category]) (Nat.le_of_ble_eq_true rfl) (fun M C hr hx el => ?_)
  refine hp_aload_nR C dX4_fall_0 rfl ?_
  refine hp_get C fl_X4_9_4 dX4_fall_1 (K.isW hn hk) (K.f133 hn hk) ?_
  refine hp_iconst (v := (-1)) C dX4_fall_4 (by decide) ?_
  refine hp_icmp_eq (tgt := 26) C dX4_fall_5 (by decide) (fun c_5 => ?_) (fun c_5 => ?_)
  · refine hp_iconst (v := 1) C dX4_fall_26 (by decide) ?_
    refine hp_goto (tgt := 31) C dX4_fall_27 (by decide) ?_
    have e8 : a_nd a 8 n = -1 := (a_ofI_eq (x := a_nd a 8 n) (y := -1) (by omega) (by omega)).mp c_5
    have lg : a_long a n = (a_nd a 10 n).toNat := by unfold a_long; rw [if_pos (Or.inl (by omega))]
    have ds : a_dies a n = false := by simp [a_dies, e8]
    refine hp_istore_n C dX4_fall_31 (by decide) ?_
    refine hp_aload_nR C dX4_fall_32 rfl ?_
    refine hp_dup C dX4_fall_33 rfl ?_
    refine hp_get C fl_X4_24_1 dX4_fall_34 K.isJ K.f33 ?_
    refine hp_iload_n C dX4_fall_37 rfl ?_
    refine hp_if_eq (tgt := 48) C dX4_fall_38 (by decide) (fun z_9 => absurd z_9 (by decide)) (fun _ => ?_)
    refine hp_aload_nR C dX4_fall_41 rfl ?_
    refine hp_get C fl_X4_18_4 dX4_fall_42 (K.isW hn hk) (K.f135 hn hk) ?_
    refine hp_goto (tgt := 52) C dX4_fall_45 (by decide) ?_
    refine hp_iadd C dX4_fall_52 ?_
    refine kp_33 C K fl_X4_24_1 (a_tm a + a_long a n) (by rw [lg, a_ofN (by omega), nI_add]) (Nat.le_add_right _ _) dX4_fall_53 (fun h_53 K_53 => ?_)
    refine hp_aload_nR C dX4_fall_56 rfl ?_
    refine hp_iconst (v := 0) C dX4_fall_57 (by decide) ?_
    refine kp_68W C K_53 hn hk fl_X4_33_4 0 (by decide) dX4_fall_58 (fun h_58 K_58 => ?_)
    refine hp_aload_nR C dX4_fall_61 rfl ?_
    refine hp_iload_n C dX4_fall_62 rfl ?_
    refine hp_if_eq (tgt := 70) C dX4_fall_63 (by decide) (fun z_9 => absurd z_9 (by decide)) (fun _ => ?_)
    refine hp_iconst (v := 3) C dX4_fall_66 (by decide) ?_
    refine hp_goto (tgt := 71) C dX4_fall_67 (by decide) ?_
    refine hp_aload_nR C dX4_fall_71 rfl ?_
    refine hp_get C fl_X4_36_4 dX4_fall_72 (K_58.isW hn hk) (K_58.f64 hn) ?_
    refine hp_iconst (v := 0) C dX4_fall_75 (by decide) ?_
    refine hp_callV (ci := 1) C ml_X4_39 im_X0_tell se_X0_tell rfl (by decide) (kc_tell (d := d - 1) (w := 3) (n := n) (r := 0) K_58 hl) (by omega) dX4_fall_76 K_58.isJ rfl rfl (by simp [Value.category]) (fun v_76 h_76 hp => ?_) (fun _ _ hf => hf.elim)
    obtain ⟨rfl, K_76⟩ := hp
    refine hp_vret C hr dX4_fall_79 ?_
    exact ⟨rfl, by rw [← a_end_w hk rfl ds]; exact K_76⟩
  · refine hp_aload_nR C dX4_fall_8 rfl ?_
    refine hp_get C fl_X4_9_4 dX4_fall_9 (K.isW hn hk) (K.f133 hn hk) ?_
    refine hp_if_le (tgt := 30) C dX4_fall_12 (by decide) (fun c_12 => ?_) (fun c_12 => ?_)
    · refine hp_iconst (v := 0) C dX4_fall_30 (by decide) ?_
      have e8 : ¬ a_nd a 8 n = -1 := fun e => c_5 (by rw [e]; decide)
      have f8 : a_nd a 8 n ≤ 0 := (a_ofI_le (x := a_nd a 8 n) (y := 0) (by omega) (by omega)).mp c_12
      have g8 : a_nd a 8 n = 0 := by omega
      have lg : a_long a n = (a_nd a 8 n).toNat := by unfold a_long; rw [if_neg (by omega)]
      have ds : a_dies a n = true := by simp [a_dies, g8]
      refine hp_istore_n C dX4_fall_31 (by decide) ?_
      refine hp_aload_nR C dX4_fall_32 rfl ?_
      refine hp_dup C dX4_fall_33 rfl ?_
      refine hp_get C fl_X4_24_1 dX4_fall_34 K.isJ K.f33 ?_
      refine hp_iload_n C dX4_fall_37 rfl ?_
      refine hp_if_eq (tgt := 48) C dX4_fall_38 (by decide) (fun _ => ?_) (fun z_9 => absurd z_9 (by decide))
      refine hp_aload_nR C dX4_fall_48 rfl ?_
      refine hp_get C fl_X4_9_4 dX4_fall_49 (K.isW hn hk) (K.f133 hn hk) ?_
      refine hp_iadd C dX4_fall_52 ?_
      refine kp_33 C K fl_X4_24_1 (a_tm a + a_long a n) (by rw [lg, a_ofN (by omega), nI_add]) (Nat.le_add_right _ _) dX4_fall_53 (fun h_53 K_53 => ?_)
      refine hp_aload_nR C dX4_fall_56 rfl ?_
      refine hp_iconst (v := 0) C dX4_fall_57 (by decide) ?_
      refine kp_68W C K_53 hn hk fl_X4_33_4 0 (by decide) dX4_fall_58 (fun h_58 K_58 => ?_)
      refine hp_aload_nR C dX4_fall_61 rfl ?_
      refine hp_iload_n C dX4_fall_62 rfl ?_
      refine hp_if_eq (tgt := 70) C dX4_fall_63 (by decide) (fun _ => ?_) (fun z_9 => absurd z_9 (by decide))
      refine hp_iconst (v := 4) C dX4_fall_70 (by decide) ?_
      refine hp_aload_nR C dX4_fall_71 rfl ?_
      refine hp_get C fl_X4_36_4 dX4_fall_72 (K_58.isW hn hk) (K_58.f64 hn) ?_
      refine hp_iconst (v := 0) C dX4_fall_75 (by decide) ?_
      refine hp_callV (ci := 1) C ml_X4_39 im_X0_tell se_X0_tell rfl (by decide) (kc_tell (d := d - 1) (w := 4) (n := n) (r := 0) K_58 hl) (by omega) dX4_fall_76 K_58.isJ rfl rfl (by simp [Value.category]) (fun v_76 h_76 hp => ?_) (fun _ _ hf => hf.elim)
      obtain ⟨rfl, K_76⟩ := hp
      refine hp_vret C hr dX4_fall_79 ?_
      exact ⟨rfl, by rw [← a_end_w hk rfl ds]; exact K_76⟩
    · refine hp_aload_nR C dX4_fall_15 rfl ?_
      refine hp_get C fl_X4_18_4 dX4_fall_16 (K.isW hn hk) (K.f135 hn hk) ?_
      refine hp_aload_nR C dX4_fall_19 rfl ?_
      refine hp_get C fl_X4_9_4 dX4_fall_20 (K.isW hn hk) (K.f133 hn hk) ?_
      refine hp_icmp_gt (tgt := 30) C dX4_fall_23 (by decide) (fun c_23 => ?_) (fun c_23 => ?_)
      · refine hp_iconst (v := 0) C dX4_fall_30 (by decide) ?_
        have e8 : ¬ a_nd a 8 n = -1 := fun e => c_5 (by rw [e]; decide)
        have f8 : ¬ a_nd a 8 n ≤ 0 := (not_congr (a_ofI_le (x := a_nd a 8 n) (y := 0) (by omega) (by omega))).mp c_12
        have g8 : a_nd a 8 n < a_nd a 10 n := (a_ofI_lt (by omega) (by omega)).mp c_23
        have lg : a_long a n = (a_nd a 8 n).toNat := by unfold a_long; rw [if_neg (by omega)]
        have ds : a_dies a n = true := by unfold a_dies; simp only [Bool.or_eq_true, Bool.and_eq_true, decide_eq_true_eq]; omega
        refine hp_istore_n C dX4_fall_31 (by decide) ?_
        refine hp_aload_nR C dX4_fall_32 rfl ?_
        refine hp_dup C dX4_fall_33 rfl ?_
        refine hp_get C fl_X4_24_1 dX4_fall_34 K.isJ K.f33 ?_
        refine hp_iload_n C dX4_fall_37 rfl ?_
        refine hp_if_eq (tgt := 48) C dX4_fall_38 (by decide) (fun _ => ?_) (fun z_9 => absurd z_9 (by decide))
        refine hp_aload_nR C dX4_fall_48 rfl ?_
        refine hp_get C fl_X4_9_4 dX4_fall_49 (K.isW hn hk) (K.f133 hn hk) ?_
        refine hp_iadd C dX4_fall_52 ?_
        refine kp_33 C K fl_X4_24_1 (a_tm a + a_long a n) (by rw [lg, a_ofN (by omega), nI_add]) (Nat.le_add_right _ _) dX4_fall_53 (fun h_53 K_53 => ?_)
        refine hp_aload_nR C dX4_fall_56 rfl ?_
        refine hp_iconst (v := 0) C dX4_fall_57 (by decide) ?_
        refine kp_68W C K_53 hn hk fl_X4_33_4 0 (by decide) dX4_fall_58 (fun h_58 K_58 => ?_)
        refine hp_aload_nR C dX4_fall_61 rfl ?_
        refine hp_iload_n C dX4_fall_62 rfl ?_
        refine hp_if_eq (tgt := 70) C dX4_fall_63 (by decide) (fun _ => ?_) (fun z_9 => absurd z_9 (by decide))
        refine hp_iconst (v := 4) C dX4_fall_70 (by decide) ?_
        refine hp_aload_nR C dX4_fall_71 rfl ?_
        refine hp_get C fl_X4_36_4 dX4_fall_72 (K_58.isW hn hk) (K_58.f64 hn) ?_
        refine hp_iconst (v := 0) C dX4_fall_75 (by decide) ?_
        refine hp_callV (ci := 1) C ml_X4_39 im_X0_tell se_X0_tell rfl (by decide) (kc_tell (d := d - 1) (w := 4) (n := n) (r := 0) K_58 hl) (by omega) dX4_fall_76 K_58.isJ rfl rfl (by simp [Value.category]) (fun v_76 h_76 hp => ?_) (fun _ _ hf => hf.elim)
        obtain ⟨rfl, K_76⟩ := hp
        refine hp_vret C hr dX4_fall_79 ?_
        exact ⟨rfl, by rw [← a_end_w hk rfl ds]; exact K_76⟩
      · refine hp_iconst (v := 1) C dX4_fall_26 (by decide) ?_
        refine hp_goto (tgt := 31) C dX4_fall_27 (by decide) ?_
        have e8 : ¬ a_nd a 8 n = -1 := fun e => c_5 (by rw [e]; decide)
        have f8 : ¬ a_nd a 8 n ≤ 0 := (not_congr (a_ofI_le (x := a_nd a 8 n) (y := 0) (by omega) (by omega))).mp c_12
        have g8 : ¬ a_nd a 8 n < a_nd a 10 n := (not_congr (a_ofI_lt (by omega) (by omega))).mp c_23
        have lg : a_long a n = (a_nd a 10 n).toNat := by unfold a_long; split <;> omega
        have ds : a_dies a n = false := by unfold a_dies; simp only [Bool.or_eq_false_iff, Bool.and_eq_false_iff, decide_eq_false_iff_not]; omega
        refine hp_istore_n C dX4_fall_31 (by decide) ?_
        refine hp_aload_nR C dX4_fall_32 rfl ?_
        refine hp_dup C dX4_fall_33 rfl ?_
        refine hp_get C fl_X4_24_1 dX4_fall_34 K.isJ K.f33 ?_
        refine hp_iload_n C dX4_fall_37 rfl ?_
        refine hp_if_eq (tgt := 48) C dX4_fall_38 (by decide) (fun z_9 => absurd z_9 (by decide)) (fun _ => ?_)
        refine hp_aload_nR C dX4_fall_41 rfl ?_
        refine hp_get C fl_X4_18_4 dX4_fall_42 (K.isW hn hk) (K.f135 hn hk) ?_
        refine hp_goto (tgt := 52) C dX4_fall_45 (by decide) ?_
        refine hp_iadd C dX4_fall_52 ?_
        refine kp_33 C K fl_X4_24_1 (a_tm a + a_long a n) (by rw [lg, a_ofN (by omega), nI_add]) (Nat.le_add_right _ _) dX4_fall_53 (fun h_53 K_53 => ?_)
        refine hp_aload_nR C dX4_fall_56 rfl ?_
        refine hp_iconst (v := 0) C dX4_fall_57 (by decide) ?_
        refine kp_68W C K_53 hn hk fl_X4_33_4 0 (by decide) dX4_fall_58 (fun h_58 K_58 => ?_)
        refine hp_aload_nR C dX4_fall_61 rfl ?_
        refine hp_iload_n C dX4_fall_62 rfl ?_
        refine hp_if_eq (tgt := 70) C dX4_fall_63 (by decide) (fun z_9 => absurd z_9 (by decide)) (fun _ => ?_)
        refine hp_iconst (v := 3) C dX4_fall_66 (by decide) ?_
        refine hp_goto (tgt := 71) C dX4_fall_67 (by decide) ?_
        refine hp_aload_nR C dX4_fall_71 rfl ?_
        refine hp_get C fl_X4_36_4 dX4_fall_72 (K_58.isW hn hk) (K_58.f64 hn) ?_
        refine hp_iconst (v := 0) C dX4_fall_75 (by decide) ?_
        refine hp_callV (ci := 1) C ml_X4_39 im_X0_tell se_X0_tell rfl (by decide) (kc_tell (d := d - 1) (w := 3) (n := n) (r := 0) K_58 hl) (by omega) dX4_fall_76 K_58.isJ rfl rfl (by simp [Value.category]) (fun v_76 h_76 hp => ?_) (fun _ _ hf => hf.elim)
        obtain ⟨rfl, K_76⟩ := hp
        refine hp_vret C hr dX4_fall_79 ?_
        exact ⟨rfl, by rw [← a_end_w hk rfl ds]; exact K_76⟩
set_option maxRecDepth 20000 in
set_option maxHeartbeats 4000000 in
theorem kc_perishW {l : Launch} {G : hpG} {pr : Nat → Prop} {B : hpT} {N S : Nat} {h : hpT} {κ : kS} {a : aS} {d : Nat} (K : KR G pr B N S h κ a) {n : Nat} (T : a_T a) (hn : n < a_mk a) (hk : a_nd a 0 n = 0) (hl : (a_ev a).length < 2 ^ 30) (hd : 2 ≤ d) : hp_C l G yX4_perish (.code yX4_perish cX4_perish 2 (some .int)) d [.ref (κ.1 0 n), .ref (κ.1 5 1)] (h) (fun v h' => v = some (.int 1) ∧ KR G pr B N S h' κ (a_end true n a)) (fun _ _ => False) := by
  have ee : a_end true n a = a_no (a_sn a 3 n 0) 4 n 0 := by unfold a_end; rw [if_neg (fun z => by cases z.2)]; rfl
  rw [ee]
  refine hp_ofV (by decide) (by simp [Value.category]) (Nat.le_of_ble_eq_true rfl) (fun M C hr hx el => ?_)
  refine hp_aload_nR C dX4_perish_0 rfl ?_
  refine hp_iconst (v := 0) C dX4_perish_1 (by decide) ?_
  refine kp_68W C K hn hk fl_X4_33_4 0 (by decide) dX4_perish_2 (fun h_2 K_2 => ?_)
  refine hp_aload_nR C dX4_perish_5 rfl ?_
  refine hp_iconst (v := 4) C dX4_perish_6 (by decide) ?_
  refine hp_aload_nR C dX4_perish_7 rfl ?_
  refine hp_get C fl_X4_36_4 dX4_perish_8 (K_2.isW hn hk) (K_2.f64 hn) ?_
  refine hp_iconst (v := 0) C dX4_perish_11 (by decide) ?_
  refine hp_callV (ci := 1) C ml_X4_39 im_X0_tell se_X0_tell rfl (by decide) (kc_tell (d := d - 1) (w := 4) (n := n) (r := 0) K_2 hl) (by omega) dX4_perish_12 K_2.isJ rfl rfl (by simp [Value.category]) (fun v_12 h_12 hp => ?_) (fun _ _ hf => hf.elim)
  obtain ⟨rfl, K_12⟩ := hp
  refine hp_iconst (v := 1) C dX4_perish_15 (by decide) ?_
  refine hp_iret C hr (by decide) dX4_perish_16 ?_
  exact ⟨rfl, K_12⟩
set_option maxRecDepth 20000 in
set_option maxHeartbeats 4000000 in
theorem kc_vanishW {l : Launch} {G : hpG} {pr : Nat → Prop} {B : hpT} {N S : Nat} {h : hpT} {κ : kS} {a : aS} {d : Nat} (K : KR G pr B N S h κ a) {n : Nat} (hn : n < a_mk a) (hk : a_nd a 0 n = 0) : hp_C l G yX4_vanish (.code yX4_vanish cX4_vanish 1 (some .int)) d [.ref (κ.1 0 n)] (h) (fun v h' => v = some (.int 1) ∧ KR G pr B N S h' κ (a_sn a 3 n 2)) (fun _ _ => False) := by
  refine hp_ofV (by decide) (by simp [Value.category]) (Nat.le_of_ble_eq_true rfl) (fun M C hr hx el => ?_)
  refine hp_aload_nR C dX4_vanish_0 rfl ?_
  refine hp_iconst (v := 2) C dX4_vanish_1 (by decide) ?_
  refine kp_68W C K hn hk fl_X4_33_4 2 (by decide) dX4_vanish_2 (fun h_2 K_2 => ?_)
  refine hp_iconst (v := 1) C dX4_vanish_5 (by decide) ?_
  refine hp_iret C hr (by decide) dX4_vanish_6 ?_
  exact ⟨rfl, K_2⟩
set_option maxRecDepth 20000 in
set_option maxHeartbeats 4000000 in
theorem kc_clear {l : Launch} {G : hpG} {pr : Nat → Prop} {B : hpT} {N S : Nat} {h : hpT} {κ : kS} {a : aS} {d : Nat} (K : KR G pr B N S h κ a) {n : Nat} (hn : n < a_mk a) (hk : a_nd a 0 n = 1) : hp_C l G yX3_clear (.code yX3_clear cX3_clear 1 none) d [.ref (κ.1 3 n)] (h) (fun v h' => v = none ∧ KR G pr B N S h' (k_srt κ n []) (a_srt a n [])) (fun _ _ => False) := by
  refine hp_ofV (by decide) (by simp [Value.category]) (Nat.le_of_ble_eq_true rfl) (fun M C hr hx el => ?_)
  refine hp_aload_nR C dX3_clear_0 rfl ?_
  refine hp_iconst (v := 0) C dX3_clear_1 (by decide) ?_
  refine hp_putf C fl_X3_15_3 rfl rfl rfl dX3_clear_2 (K.isR hn hk) ?_
  refine hp_vret C hr dX3_clear_5 ?_
  exact ⟨rfl, K.clear hn hk⟩
/-- how many of g's last of the first i are not under b, without a gap -/
def k_nb (g : Nat → Nat) (b : Int) : Nat → Nat
  | 0 => 0
  | i + 1 => if (g i : Int) < b then 0 else k_nb g b i + 1
theorem k_nb_le (g : Nat → Nat) (b : Int) : ∀ i, k_nb g b i ≤ i
  | 0 => Nat.le_refl _
  | i + 1 => by
    have := k_nb_le g b i
    unfold k_nb
    split <;> omega
set_option maxHeartbeats 4000000 in
theorem kl_nb {M : hpM} {G : hpG} {d : Nat} {h0 h : hpT} {pr : Nat → Prop} {B : hpT} {N S : Nat} {κ : kS} {a : aS} (K : KR G pr B N S h κ a) (C : hp_F M G yX3_notBefore cX3_notBefore 4 d h0) (hr : (hp_mt M).sig.returnType = some .int) {n : Nat} (hn : n < a_mk a) (hk : a_nd a 0 n = 1) (hs : ∀ i, i < (κ.2.2 n).length → (κ.2.2 n).getD i 0 < 2 ^ 31) {b : Int32} {X : String → hpT → Prop} {P : Option Value → hpT → Prop} : ∀ (j c : Nat) (lo : Nat → Option Value), j ≤ (κ.2.2 n).length → j + c < 2 ^ 31 → lo 0 = some (.ref (κ.1 3 n)) → lo 1 = some (.int b) → lo 2 = some (.int (nI c)) → lo 3 = some (.int (nI j - 1)) → P (some (.int (nI (c + k_nb (fun i => (κ.2.2 n).getD i 0) b.toInt j)))) h → hp_V M G 4 (hp_Q M G h0 P X) h 9 lo [] := by
  intro j
  induction j with
  | zero =>
    intro c lo hj hc e0 e1 e2 e3 hP
    refine hp_iload_n C dX3_notBefore_9 e3 ?_
    refine hp_if_lt (tgt := 32) C dX3_notBefore_10 (by decide) (fun _ => ?_) (fun z_9 => absurd (show (nI 0 - 1 : Int32) < 0 by decide) z_9)
    refine hp_iload_n C dX3_notBefore_32 e2 ?_
    refine hp_iret C hr rfl dX3_notBefore_33 ?_
    exact hP
  | succ j ih =>
    intro c lo hj hc e0 e1 e2 e3 hP
    rw [nI_pred] at e3
    have hg := hs j (by omega)
    have hin : vp_in (nI j) (hp_ln h (κ.1 4 n)) := vp_in_iff.mpr (by have := (K.isI hn hk).2; rw [nI_toInt (by omega)]; omega)
    have hv : hp_ar h (κ.1 4 n) (nI j).toNatClampNeg = .int (nI ((κ.2.2 n).getD j 0)) := by rw [nI_clamp (by omega)]; exact K.tim hn hk (by omega)
    have hcm : nI ((κ.2.2 n).getD j 0) < b ↔ (((κ.2.2 n).getD j 0 : Nat) : Int) < b.toInt := by rw [Int32.lt_iff_toInt_lt, nI_toInt hg]
    refine hp_iload_n C dX3_notBefore_9 e3 ?_
    refine hp_if_lt (tgt := 32) C dX3_notBefore_10 (by decide) (fun z_9 => absurd z_9 (nI_pos (by omega))) (fun _ => ?_)
    refine hp_aload_nR C dX3_notBefore_13 e0 ?_
    refine hp_get C fl_X3_9_3 dX3_notBefore_14 (K.isR hn hk) (K.f96 hn hk) ?_
    refine hp_iload_n C dX3_notBefore_17 e3 ?_
    refine hp_iald C dX3_notBefore_18 (K.isI hn hk).1 hin hv ?_
    refine hp_iload_n C dX3_notBefore_19 e1 ?_
    refine hp_icmp_lt (tgt := 32) C dX3_notBefore_20 (by decide) (fun c_20 => ?_) (fun c_20 => ?_)
    · have ek : k_nb (fun i => (κ.2.2 n).getD i 0) b.toInt (j + 1) = 0 := if_pos (hcm.mp c_20)
      rw [ek, Nat.add_zero] at hP
      refine hp_iload_n C dX3_notBefore_32 e2 ?_
      refine hp_iret C hr rfl dX3_notBefore_33 ?_
      exact hP
    · have ek : k_nb (fun i => (κ.2.2 n).getD i 0) b.toInt (j + 1) = k_nb (fun i => (κ.2.2 n).getD i 0) b.toInt j + 1 := if_neg (fun z => c_20 (hcm.mpr z))
      rw [ek, ← Nat.add_assoc, Nat.add_right_comm] at hP
      refine hp_iinc C dX3_notBefore_23 e2 (by decide) rfl ?_
      refine hp_iinc C dX3_notBefore_26 e3 (by decide) rfl ?_
      refine hp_goto (tgt := 9) C dX3_notBefore_29 (by decide) ?_
      exact ih (c + 1) _ (by omega) (by omega) e0 e1 ((va_up_ne _ _ (by decide)).trans ((va_up_self _ _ _).trans (by rw [show Int32.ofInt 1 = 1 from rfl, nI_1]))) ((va_up_self _ _ _).trans (by rw [k_dec])) hP
set_option maxRecDepth 20000 in
set_option maxHeartbeats 4000000 in
theorem kc_nb {l : Launch} {G : hpG} {pr : Nat → Prop} {B : hpT} {N S : Nat} {h : hpT} {κ : kS} {a : aS} {d : Nat} (K : KR G pr B N S h κ a) {n : Nat} {b : Int32} (hn : n < a_mk a) (hk : a_nd a 0 n = 1) (hs : ∀ i, i < (κ.2.2 n).length → (κ.2.2 n).getD i 0 < 2 ^ 31) (hl : (κ.2.2 n).length < 2 ^ 30) : hp_C l G yX3_notBefore (.code yX3_notBefore cX3_notBefore 4 (some .int)) d [.ref (κ.1 3 n), .int b] (h) (fun v h' => v = some (.int (nI (k_nb (fun i => (κ.2.2 n).getD i 0) b.toInt (κ.2.2 n).length))) ∧ h' = h) (fun _ _ => False) := by
  refine hp_ofV (by decide) (by simp [Value.category]) (Nat.le_of_ble_eq_true rfl) (fun M C hr hx el => ?_)
  refine hp_iconst (v := 0) C dX3_notBefore_0 (by decide) ?_
  refine hp_istore_n C dX3_notBefore_1 (by decide) ?_
  refine hp_aload_nR C dX3_notBefore_2 rfl ?_
  refine hp_get C fl_X3_15_3 dX3_notBefore_3 (K.isR hn hk) (K.f97 hn hk) ?_
  refine hp_iconst (v := 1) C dX3_notBefore_6 (by decide) ?_
  refine hp_isub C dX3_notBefore_7 ?_
  refine hp_istore_n C dX3_notBefore_8 (by decide) ?_
  exact kl_nb K C hr hn hk hs (κ.2.2 n).length 0 _ (Nat.le_refl _) (by omega) rfl rfl rfl rfl ⟨by rw [Nat.zero_add], rfl⟩
set_option maxRecDepth 20000 in
set_option maxHeartbeats 4000000 in
theorem kc_rr {l : Launch} {G : hpG} {pr : Nat → Prop} {B : hpT} {N S : Nat} {h : hpT} {κ : kS} {a : aS} {d : Nat} (K : KR G pr B N S h κ a) {n : Nat} {t : Int32} (hn : n < a_mk a) (hk : a_nd a 0 n = 1) (hs : ∀ i, i < (κ.2.2 n).length → (κ.2.2 n).getD i 0 < 2 ^ 31) (hl : (κ.2.2 n).length < 2 ^ 30) (hd : 1 ≤ d) : hp_C l G yX1_recentRestarts (.code yX1_recentRestarts cX1_recentRestarts 2 (some .int)) d [.ref (κ.1 0 n), .int t] (h) (fun v h' => v = some (.int (nI (k_nb (fun i => (κ.2.2 n).getD i 0) (t - Int32.ofInt (a_nd a 7 n)).toInt (κ.2.2 n).length))) ∧ h' = h) (fun _ _ => False) := by
  refine hp_ofV (by decide) (by simp [Value.category]) (Nat.le_of_ble_eq_true rfl) (fun M C hr hx el => ?_)
  refine hp_aload_nR C dX1_recentRestarts_0 rfl ?_
  refine hp_get C fl_X1_23_2 dX1_recentRestarts_1 (K.isK hn hk) (K.f70 hn hk) ?_
  refine hp_iload_n C dX1_recentRestarts_4 rfl ?_
  refine hp_aload_nR C dX1_recentRestarts_5 rfl ?_
  refine hp_get C fl_X1_34_2 dX1_recentRestarts_6 (K.isK hn hk) (K.f73 hn hk) ?_
  refine hp_isub C dX1_recentRestarts_9 ?_
  refine hp_callV (ci := 3) C ml_X1_80 im_X3_notBefore se_X3_notBefore rfl (by decide) (kc_nb (d := d - 1) K hn hk hs hl) (by omega) dX1_recentRestarts_10 (K.isR hn hk) rfl rfl (by simp [Value.category]) (fun v_10 h_10 hp => ?_) (fun _ _ hf => hf.elim)
  obtain ⟨rfl, rfl⟩ := hp
  refine hp_iret C hr rfl dX1_recentRestarts_13 ?_
  exact ⟨rfl, rfl⟩
set_option maxRecDepth 20000 in
set_option maxHeartbeats 4000000 in
theorem kc_told {l : Launch} {G : hpG} {pr : Nat → Prop} {B : hpT} {N S : Nat} {h : hpT} {κ : kS} {a : aS} {d : Nat} (K : KR G pr B N S h κ a) {i : Int32} {j : Nat} (hj : j < 4) (hl : (a_ev a).length < 2 ^ 30) : hp_C l G yX0_told (.code yX0_told cX0_told 4 (some .int)) d [.ref (κ.1 5 1), .int i, .int (nI j)] (h) (fun v h' => v = some (.int (a_evt a i j)) ∧ h' = h) (fun _ _ => False) := by
  refine hp_ofV (by decide) (by simp [Value.category]) (Nat.le_of_ble_eq_true rfl) (fun M C hr hx el => ?_)
  refine hp_iload_n C dX0_told_0 rfl ?_
  refine hp_if_lt (tgt := 32) C dX0_told_1 (by decide) (fun c_1 => ?_) (fun c_1 => ?_)
  · refine hp_iconst (v := 0) C dX0_told_32 (by decide) ?_
    refine hp_istore_n C dX0_told_33 (by decide) ?_
    refine hp_iload_n C dX0_told_34 rfl ?_
    refine hp_if_eq (tgt := 49) C dX0_told_35 (by decide) (fun _ => ?_) (fun z_9 => absurd z_9 (by decide))
    refine hp_iconst (v := (-1)) C dX0_told_49 (by decide) ?_
    refine hp_iret C hr rfl dX0_told_50 ?_
    exact ⟨by rw [show a_evt a i j = -1 from if_neg (by have q1 : (600 : Int32).toInt = 600 := (by decide); have q2 : (0 : Int32).toInt = 0 := (by decide); simp only [Int32.lt_iff_toInt_lt, Int32.le_iff_toInt_le, q1, q2, nI_toInt (n := (a_ev a).length) (by omega)] at *; omega)], rfl⟩
  · refine hp_iload_n C dX0_told_4 rfl ?_
    refine hp_aload_nR C dX0_told_5 rfl ?_
    refine hp_get C fl_X0_20_1 dX0_told_6 K.isJ K.f34 ?_
    refine hp_icmp_ge (tgt := 32) C dX0_told_9 (by decide) (fun c_9 => ?_) (fun c_9 => ?_)
    · refine hp_iconst (v := 0) C dX0_told_32 (by decide) ?_
      refine hp_istore_n C dX0_told_33 (by decide) ?_
      refine hp_iload_n C dX0_told_34 rfl ?_
      refine hp_if_eq (tgt := 49) C dX0_told_35 (by decide) (fun _ => ?_) (fun z_9 => absurd z_9 (by decide))
      refine hp_iconst (v := (-1)) C dX0_told_49 (by decide) ?_
      refine hp_iret C hr rfl dX0_told_50 ?_
      exact ⟨by rw [show a_evt a i j = -1 from if_neg (by have q1 : (600 : Int32).toInt = 600 := (by decide); have q2 : (0 : Int32).toInt = 0 := (by decide); simp only [Int32.lt_iff_toInt_lt, Int32.le_iff_toInt_le, q1, q2, nI_toInt (n := (a_ev a).length) (by omega)] at *; omega)], rfl⟩
    · refine hp_iload_n C dX0_told_12 rfl ?_
      refine hp_sipush (v := 600) C dX0_told_13 (by decide) ?_
      refine hp_icmp_ge (tgt := 32) C dX0_told_16 (by decide) (fun c_16 => ?_) (fun c_16 => ?_)
      · refine hp_iconst (v := 0) C dX0_told_32 (by decide) ?_
        refine hp_istore_n C dX0_told_33 (by decide) ?_
        refine hp_iload_n C dX0_told_34 rfl ?_
        refine hp_if_eq (tgt := 49) C dX0_told_35 (by decide) (fun _ => ?_) (fun z_9 => absurd z_9 (by decide))
        refine hp_iconst (v := (-1)) C dX0_told_49 (by decide) ?_
        refine hp_iret C hr rfl dX0_told_50 ?_
        exact ⟨by rw [show a_evt a i j = -1 from if_neg (by have q1 : (600 : Int32).toInt = 600 := (by decide); have q2 : (0 : Int32).toInt = 0 := (by decide); simp only [Int32.lt_iff_toInt_lt, Int32.le_iff_toInt_le, q1, q2, nI_toInt (n := (a_ev a).length) (by omega)] at *; omega)], rfl⟩
      · refine hp_iload_n C dX0_told_19 rfl ?_
        refine hp_if_lt (tgt := 32) C dX0_told_20 (by decide) (fun z_9 => absurd z_9 (nI_pos (by omega))) (fun _ => ?_)
        refine hp_iload_n C dX0_told_23 rfl ?_
        refine hp_iconst (v := 4) C dX0_told_24 (by decide) ?_
        refine hp_icmp_ge (tgt := 32) C dX0_told_25 (by decide) (fun z_9 => absurd z_9 (nI_ge (a := j) (b := 4) hj (by omega))) (fun _ => ?_)
        refine hp_iconst (v := 1) C dX0_told_28 (by decide) ?_
        refine hp_goto (tgt := 33) C dX0_told_29 (by decide) ?_
        refine hp_istore_n C dX0_told_33 (by decide) ?_
        refine hp_iload_n C dX0_told_34 rfl ?_
        refine hp_if_eq (tgt := 49) C dX0_told_35 (by decide) (fun z_9 => absurd z_9 (by decide)) (fun _ => ?_)
        have hin : 0 ≤ i.toInt ∧ i.toInt < (a_ev a).length ∧ i.toInt < 600 := by
          have q1 : (600 : Int32).toInt = 600 := by decide
          have q2 : (0 : Int32).toInt = 0 := by decide
          simp only [Int32.lt_iff_toInt_lt, Int32.le_iff_toInt_le, q1, q2, nI_toInt (n := (a_ev a).length) (by omega)] at *
          omega
        have hcl : i.toNatClampNeg = i.toInt.toNat := rfl
        refine hp_aload_nR C dX0_told_38 rfl ?_
        refine hp_get C fl_X0_13_1 dX0_told_39 K.isJ K.f32 ?_
        refine hp_iload_n C dX0_told_42 rfl ?_
        refine hp_aald C 5 rfl rfl (by decide) dX0_told_43 K.isC.1 (by rw [K.isC.2]; exact nI_in hj (by omega)) ((congrArg (hp_ar h (κ.1 5 2)) (nI_clamp (by omega))).trans (K.col hj)) ?_
        refine hp_iload_n C dX0_told_44 rfl ?_
        refine hp_iald C dX0_told_45 (K.isc hj).1 (by rw [(K.isc hj).2]; exact vp_in_iff.mpr (by omega)) (K.evt (i := i.toInt.toNat) hj (by omega) (by omega)) ?_
        refine hp_goto (tgt := 50) C dX0_told_46 (by decide) ?_
        refine hp_iret C hr rfl dX0_told_50 ?_
        exact ⟨by rw [show a_evt a i j = _ from if_pos hin], rfl⟩
