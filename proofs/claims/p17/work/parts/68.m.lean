/-! ===== child, about, total ===== -/
def a_chd (a : aS) (n : Nat) (i : Int32) : Int32 := if 0 ≤ i.toInt ∧ i.toInt < (a_rw a n).length then nI ((a_rw a n).getD i.toInt.toNat 0) else -1
/-- how many of the first i nodes are in state s -/
def a_ci (a : aS) (s : Int) : Nat → Nat
  | 0 => 0
  | i + 1 => if a_nd a 3 i = s then a_ci a s i + 1 else a_ci a s i
theorem a_ci_le (a : aS) (s : Int) : ∀ i, a_ci a s i ≤ i
  | 0 => Nat.le_refl _
  | i + 1 => by
    have := a_ci_le a s i
    unfold a_ci
    split <;> omega
set_option maxRecDepth 20000 in
set_option maxHeartbeats 4000000 in
theorem kp_childX {l : Launch} {G : hpG} {pr : Nat → Prop} {B : hpT} {N S : Nat} {h : hpT} {κ : kS} {a : aS} {d : Nat} (K : KR G pr B N S h κ a) {x i : Int32} (T : a_T a) (hbad : ∀ n, n < a_mk a → x = nI n → a_nd a 0 n = 1 → a_nd a 3 n = 2) (hd : 11 ≤ d) (hR1 : hp_nx h + 1 ≤ hp_n0 G + hp_LC) (hR2 : hp_sl h + 6 ≤ hp_LS) : hp_C l G yX5_child (.code yX5_child cX5_child 4 (some .int)) d [.ref (κ.1 5 0), .int x, .int i] (h) (fun _ _ => False) (fun E h' => E = "java/lang/IllegalArgumentException" ∧ h' = hp_mkX h) := by
  refine hp_ofV (by decide) (by simp [Value.category]) (Nat.le_of_ble_eq_true rfl) (fun M C hr hx el => ?_)
  refine hp_aload_nR C dX5_child_0 rfl ?_
  refine hp_iload_n C dX5_child_1 rfl ?_
  exact hp_callV (ci := 5) C ml_X5_61 im_X5_keeperAt se_X5_keeperAt rfl (by decide) (kw_keeperX (d := d - 1) K T hbad (by omega) hR1 hR2) (by omega) dX5_child_2 K.isT rfl rfl (by simp [Value.category]) (fun _ _ hf => hf.elim) (fun E_1 h_1 hq => hp_out C hx hq)
set_option maxRecDepth 20000 in
set_option maxHeartbeats 4000000 in
theorem kp_child {l : Launch} {G : hpG} {pr : Nat → Prop} {B : hpT} {N S : Nat} {h : hpT} {κ : kS} {a : aS} {d : Nat} (K : KR G pr B N S h κ a) {n : Nat} (T : a_T a) (hn : n < a_mk a) (h3 : ¬ a_nd a 3 n = 2) {i : Int32} (hk : a_nd a 0 n = 1) (hd : 11 ≤ d) : hp_C l G yX5_child (.code yX5_child cX5_child 4 (some .int)) d [.ref (κ.1 5 0), .int (nI n), .int i] (h) (fun v h' => v = some (.int (a_chd a n i)) ∧ h' = h) (fun _ _ => False) := by
  have hl := T.rl hn
  have q0 : (0 : Int32).toInt = 0 := by decide
  refine hp_ofV (by decide) (by simp [Value.category]) (Nat.le_of_ble_eq_true rfl) (fun M C hr hx el => ?_)
  refine hp_aload_nR C dX5_child_0 rfl ?_
  refine hp_iload_n C dX5_child_1 rfl ?_
  refine hp_callV (ci := 5) C ml_X5_61 im_X5_keeperAt se_X5_keeperAt rfl (by decide) (kw_keeper (d := d - 1) K T hn h3 hk (by omega)) (by omega) dX5_child_2 K.isT rfl rfl (by simp [Value.category]) (fun v_2 h_2 hp => ?_) (fun _ _ hf => hf.elim)
  obtain ⟨rfl, e_2⟩ := hp
  rw [e_2]
  refine hp_astore_n (r := some _) C dX5_child_5 (by decide) ?_
  refine hp_iload_n C dX5_child_6 rfl ?_
  refine hp_if_lt (tgt := 38) C dX5_child_7 (by decide) (fun c_7 => ?_) (fun c_7 => ?_)
  · refine hp_iconst (v := (-1)) C dX5_child_38 (by decide) ?_
    refine hp_iret C hr rfl dX5_child_39 ?_
    exact ⟨by rw [show a_chd a n i = -1 from if_neg (by simp only [Int32.lt_iff_toInt_lt, Int32.le_iff_toInt_le, q0, nI_toInt (n := (a_rw a n).length) (by omega)] at *; omega)], rfl⟩
  · refine hp_iload_n C dX5_child_10 rfl ?_
    refine hp_aload_nR C dX5_child_11 rfl ?_
    refine hp_get C fl_X5_146_2 dX5_child_12 (K.isK hn hk) (K.f69 hn hk) ?_
    refine hp_callV (ci := 0) C ml_X5_150 im_Jx4a65c_size_8abf5 se_Jx4a65c_size_8abf5 rfl (by decide) (kc_size (d := d - 1) K hn hk) (by omega) dX5_child_15 (K.isL hn hk) rfl rfl (by simp [Value.category]) (fun v_15 h_15 hp => ?_) (fun _ _ hf => hf.elim)
    obtain ⟨rfl, e_15⟩ := hp
    rw [e_15]
    refine hp_icmp_ge (tgt := 38) C dX5_child_18 (by decide) (fun c_18 => ?_) (fun c_18 => ?_)
    · refine hp_iconst (v := (-1)) C dX5_child_38 (by decide) ?_
      refine hp_iret C hr rfl dX5_child_39 ?_
      exact ⟨by rw [show a_chd a n i = -1 from if_neg (by simp only [Int32.lt_iff_toInt_lt, Int32.le_iff_toInt_le, q0, nI_toInt (n := (a_rw a n).length) (by omega)] at *; omega)], rfl⟩
    · have hin : 0 ≤ i.toInt ∧ i.toInt < (a_rw a n).length := by
        simp only [Int32.lt_iff_toInt_lt, Int32.le_iff_toInt_le, q0, nI_toInt (n := (a_rw a n).length) (by omega)] at *
        omega
      have hii : i = nI i.toInt.toNat := by
        refine Int32.toInt_inj.mp ?_
        rw [nI_toInt (by omega)]
        omega
      have hc := (T.rc hn (k_rc T hn (i := i.toInt.toNat) (by omega))).1
      have hcb := T.kb hc
      refine hp_aload_nR C dX5_child_21 rfl ?_
      refine hp_get C fl_X5_146_2 dX5_child_22 (K.isK hn hk) (K.f69 hn hk) ?_
      refine hp_iload_n C dX5_child_25 rfl ?_
      rw [show Value.int i = Value.int (nI i.toInt.toNat) from congrArg Value.int hii]
      refine hp_callV (ci := 0) C ml_X5_163 im_Jx4a65c_get_915e3 se_Jx4a65c_get_915e3 rfl (by decide) (kc_get (d := d - 1) (i := i.toInt.toNat) K hn hk (by omega) hl (by omega)) (by omega) dX5_child_26 (K.isL hn hk) rfl rfl (by simp [Value.category]) (fun v_26 h_26 hp => ?_) (fun _ _ hf => hf.elim)
      obtain ⟨rfl, e_26⟩ := hp
      rw [e_26]
      refine kc_cast C K hc hcb cl_X5_16 (by decide) (by decide) dX5_child_29 ?_
      refine kg_N C K hc hcb (by decide) fl_X5_167_2 fl_X5_167_4 dX5_child_32 (K.f64 hc) ?_
      refine hp_goto (tgt := 39) C dX5_child_35 (by decide) ?_
      refine hp_iret C hr rfl dX5_child_39 ?_
      exact ⟨by rw [show a_chd a n i = nI ((a_rw a n).getD i.toInt.toNat 0) from if_pos hin], rfl⟩
set_option maxRecDepth 20000 in
set_option maxHeartbeats 4000000 in
theorem kp_aboutX {l : Launch} {G : hpG} {pr : Nat → Prop} {B : hpT} {N S : Nat} {h : hpT} {κ : kS} {a : aS} {d : Nat} (K : KR G pr B N S h κ a) {x z : Int32} (T : a_T a) (hbad : a_bad a x) (hd : 11 ≤ d) (hR1 : hp_nx h + 1 ≤ hp_n0 G + hp_LC) (hR2 : hp_sl h + 6 ≤ hp_LS) : hp_C l G yX5_about (.code yX5_about cX5_about 5 (some .int)) d [.ref (κ.1 5 0), .int x, .int z] (h) (fun _ _ => False) (fun E h' => E = "java/lang/IllegalArgumentException" ∧ h' = hp_mkX h) := by
  refine hp_ofV (by decide) (by simp [Value.category]) (Nat.le_of_ble_eq_true rfl) (fun M C hr hx el => ?_)
  refine hp_aload_nR C dX5_about_0 rfl ?_
  refine hp_iload_n C dX5_about_1 rfl ?_
  exact hp_callV (ci := 5) C ml_X5_109 im_X5_nodeAt se_X5_nodeAt rfl (by decide) (kw_nodeX (d := d - 1) K T hbad (by omega) hR1 hR2) (by omega) dX5_about_2 K.isT rfl rfl (by simp [Value.category]) (fun _ _ hf => hf.elim) (fun E_1 h_1 hq => hp_out C hx hq)
set_option maxRecDepth 20000 in
set_option maxHeartbeats 4000000 in
theorem kp_aboutY {l : Launch} {G : hpG} {pr : Nat → Prop} {B : hpT} {N S : Nat} {h : hpT} {κ : kS} {a : aS} {d : Nat} (K : KR G pr B N S h κ a) {n : Nat} (T : a_T a) (hn : n < a_mk a) (h3 : ¬ a_nd a 3 n = 2) {z : Int32} (hz : ¬ (0 ≤ z.toInt ∧ z.toInt ≤ 7)) (hd : 11 ≤ d) (hR1 : hp_nx h + 1 ≤ hp_n0 G + hp_LC) (hR2 : hp_sl h + 6 ≤ hp_LS) : hp_C l G yX5_about (.code yX5_about cX5_about 5 (some .int)) d [.ref (κ.1 5 0), .int (nI n), .int z] (h) (fun _ _ => False) (fun E h' => E = "java/lang/IllegalArgumentException" ∧ h' = hp_mkX h) := by
  have hb := T.kb hn
  refine hp_ofV (by decide) (by simp [Value.category]) (Nat.le_of_ble_eq_true rfl) (fun M C hr hx el => ?_)
  refine hp_aload_nR C dX5_about_0 rfl ?_
  refine hp_iload_n C dX5_about_1 rfl ?_
  refine hp_callV (ci := 5) C ml_X5_109 im_X5_nodeAt se_X5_nodeAt rfl (by decide) (kw_node (d := d - 1) K T hn h3 (by omega)) (by omega) dX5_about_2 K.isT rfl rfl (by simp [Value.category]) (fun v_2 h_2 hp => ?_) (fun _ _ hf => hf.elim)
  obtain ⟨rfl, e_2⟩ := hp
  rw [e_2]
  refine hp_astore_n (r := some _) C dX5_about_5 (by decide) ?_
  refine hp_iload_n C dX5_about_6 rfl ?_
  refine hp_tableOut (tgt := 193) C dX5_about_7 (by omega) (by decide) ?_
  refine hp_athrow C tl_A (by omega) dX5_about_193 dX5_about_196 dX5_about_197 dX5_about_200 hx (by simp [Value.category]) hR1 hR2 ?_
  exact ⟨rfl, rfl⟩
set_option maxRecDepth 20000 in
set_option maxHeartbeats 4000000 in
theorem kp_about {l : Launch} {G : hpG} {pr : Nat → Prop} {B : hpT} {N S : Nat} {h : hpT} {κ : kS} {a : aS} {d : Nat} (K : KR G pr B N S h κ a) {n : Nat} (T : a_T a) (hn : n < a_mk a) (h3 : ¬ a_nd a 3 n = 2) {z : Int32} (A : a_A a) (htm : a_tm a < 2 ^ 30) (hz : 0 ≤ z.toInt ∧ z.toInt ≤ 7) (hp0 : n ≠ 0 → a_pa a n < a_mk a ∧ a_nd a 0 (a_pa a n) = 1 ∧ n ∈ a_rw a (a_pa a n)) (hd : 11 ≤ d) : hp_C l G yX5_about (.code yX5_about cX5_about 5 (some .int)) d [.ref (κ.1 5 0), .int (nI n), .int z] (h) (fun v h' => (∃ x, v = some (.int x)) ∧ h' = h) (fun _ _ => False) := by
  refine hp_ofV (by decide) (by simp [Value.category]) (Nat.le_of_ble_eq_true rfl) (fun M C hr hx el => ?_)
  rcases T.kb hn with hk | hk
  · by_cases h0 : n = 0
    · refine hp_aload_nR C dX5_about_0 rfl ?_
      refine hp_iload_n C dX5_about_1 rfl ?_
      refine hp_callV (ci := 5) C ml_X5_109 im_X5_nodeAt se_X5_nodeAt rfl (by decide) (kw_node (d := d - 1) K T hn h3 (by omega)) (by omega) dX5_about_2 K.isT rfl rfl (by simp [Value.category]) (fun v_2 h_2 hp => ?_) (fun _ _ hf => hf.elim)
      obtain ⟨rfl, e_2⟩ := hp
      rw [e_2]
      refine hp_astore_n (r := some _) C dX5_about_5 (by decide) ?_
      refine hp_iload_n C dX5_about_6 rfl ?_
      have q_2 : (z) = 0 ∨ (z) = 1 ∨ (z) = 2 ∨ (z) = 3 ∨ (z) = 4 ∨ (z) = 5 ∨ (z) = 6 ∨ (z) = 7 := by
        have q_3 : (z).toInt = 0 ∨ (z).toInt = 1 ∨ (z).toInt = 2 ∨ (z).toInt = 3 ∨ (z).toInt = 4 ∨ (z).toInt = 5 ∨ (z).toInt = 6 ∨ (z).toInt = 7 := by omega
        rcases q_3 with q_3 | q_3 | q_3 | q_3 | q_3 | q_3 | q_3 | q_3 <;> first | exact Or.inl (Int32.toInt_inj.mp (q_3.trans (by decide))) | exact Or.inr (Or.inl (Int32.toInt_inj.mp (q_3.trans (by decide)))) | exact Or.inr (Or.inr (Or.inl (Int32.toInt_inj.mp (q_3.trans (by decide))))) | exact Or.inr (Or.inr (Or.inr (Or.inl (Int32.toInt_inj.mp (q_3.trans (by decide)))))) | exact Or.inr (Or.inr (Or.inr (Or.inr (Or.inl (Int32.toInt_inj.mp (q_3.trans (by decide))))))) | exact Or.inr (Or.inr (Or.inr (Or.inr (Or.inr (Or.inl (Int32.toInt_inj.mp (q_3.trans (by decide)))))))) | exact Or.inr (Or.inr (Or.inr (Or.inr (Or.inr (Or.inr (Or.inl (Int32.toInt_inj.mp (q_3.trans (by decide))))))))) | exact Or.inr (Or.inr (Or.inr (Or.inr (Or.inr (Or.inr (Or.inr ((Int32.toInt_inj.mp (q_3.trans (by decide))))))))))
      rcases q_2 with rfl | rfl | rfl | rfl | rfl | rfl | rfl | rfl
      · refine hp_tableIn (tgt := 52) C dX5_about_7 (by decide) (by decide) rfl (by decide) ?_
        refine hp_aload_nR C dX5_about_52 rfl ?_
        refine hp_get (v := .null) C fl_X5_133_4 dX5_about_53 (K.isW hn hk) ((K.f65 hn).trans (by rw [if_pos h0]; rfl)) ?_
        refine hp_ifnonnull (r := none) (tgt := 63) C dX5_about_56 (by decide) (fun _ hx_ => by cases hx_) (fun _ => ?_)
        refine hp_iconst (v := (-1)) C dX5_about_59 (by decide) ?_
        refine hp_goto (tgt := 70) C dX5_about_60 (by decide) ?_
        refine hp_iret C hr rfl dX5_about_70 ?_
        exact ⟨⟨_, rfl⟩, rfl⟩
      · refine hp_tableIn (tgt := 71) C dX5_about_7 (by decide) (by decide) rfl (by decide) ?_
        refine hp_aload_nR C dX5_about_71 rfl ?_
        refine hp_get (v := .null) C fl_X5_133_4 dX5_about_72 (K.isW hn hk) ((K.f65 hn).trans (by rw [if_pos h0]; rfl)) ?_
        refine hp_ifnonnull (r := none) (tgt := 82) C dX5_about_75 (by decide) (fun _ hx_ => by cases hx_) (fun _ => ?_)
        refine hp_iconst (v := 0) C dX5_about_78 (by decide) ?_
        refine hp_goto (tgt := 90) C dX5_about_79 (by decide) ?_
        refine hp_iret C hr rfl dX5_about_90 ?_
        exact ⟨⟨_, rfl⟩, rfl⟩
      · refine hp_tableIn (tgt := 91) C dX5_about_7 (by decide) (by decide) rfl (by decide) ?_
        refine hp_aload_nR C dX5_about_91 rfl ?_
        refine hp_get C fl_X5_140_4 dX5_about_92 (K.isW hn hk) (K.f66 hn) ?_
        refine hp_iret C hr rfl dX5_about_95 ?_
        exact ⟨⟨_, rfl⟩, rfl⟩
      · refine hp_tableIn (tgt := 96) C dX5_about_7 (by decide) (by decide) rfl (by decide) ?_
        refine hp_aload_nR C dX5_about_96 rfl ?_
        refine hp_get C fl_X5_143_4 dX5_about_97 (K.isW hn hk) (K.f67 hn) ?_
        refine hp_iret C hr rfl dX5_about_100 ?_
        exact ⟨⟨_, rfl⟩, rfl⟩
      · refine hp_tableIn (tgt := 101) C dX5_about_7 (by decide) (by decide) rfl (by decide) ?_
        refine hp_aload_nR C dX5_about_101 rfl ?_
        refine hp_instNo C 4 cl_X5_22 (by decide) rfl (by decide) dX5_about_102 (K.isW hn hk) ?_
        refine hp_if_eq (tgt := 112) C dX5_about_105 (by decide) (fun _ => ?_) (fun z_9 => absurd z_9 (by decide))
        refine hp_iconst (v := 0) C dX5_about_112 (by decide) ?_
        refine hp_iret C hr rfl dX5_about_113 ?_
        exact ⟨⟨_, rfl⟩, rfl⟩
      · refine hp_tableIn (tgt := 114) C dX5_about_7 (by decide) (by decide) rfl (by decide) ?_
        refine hp_aload_nR C dX5_about_114 rfl ?_
        refine hp_instNo C 4 cl_X5_22 (by decide) rfl (by decide) dX5_about_115 (K.isW hn hk) ?_
        refine hp_if_eq (tgt := 138) C dX5_about_118 (by decide) (fun _ => ?_) (fun z_9 => absurd z_9 (by decide))
        refine hp_iconst (v := (-1)) C dX5_about_138 (by decide) ?_
        refine hp_iret C hr rfl dX5_about_139 ?_
        exact ⟨⟨_, rfl⟩, rfl⟩
      · refine hp_tableIn (tgt := 140) C dX5_about_7 (by decide) (by decide) rfl (by decide) ?_
        refine hp_aload_nR C dX5_about_140 rfl ?_
        refine hp_instNo C 4 cl_X5_22 (by decide) rfl (by decide) dX5_about_141 (K.isW hn hk) ?_
        refine hp_if_eq (tgt := 168) C dX5_about_144 (by decide) (fun _ => ?_) (fun z_9 => absurd z_9 (by decide))
        refine hp_iconst (v := (-1)) C dX5_about_168 (by decide) ?_
        refine hp_iret C hr rfl dX5_about_169 ?_
        exact ⟨⟨_, rfl⟩, rfl⟩
      · refine hp_tableIn (tgt := 170) C dX5_about_7 (by decide) (by decide) rfl (by decide) ?_
        refine hp_aload_nR C dX5_about_170 rfl ?_
        refine hp_instY C 4 cl_X5_83 (by decide) rfl (by decide) dX5_about_171 (K.isW hn hk) ?_
        refine hp_if_eq (tgt := 191) C dX5_about_174 (by decide) (fun z_9 => absurd z_9 (by decide)) (fun _ => ?_)
        refine hp_aload_nR C dX5_about_177 rfl ?_
        refine hp_castY C 4 cl_X5_83 (by decide) rfl (by decide) dX5_about_178 (K.isW hn hk) ?_
        refine hp_astore (r := some _) C dX5_about_181 (by decide) ?_
        refine hp_aloadR C dX5_about_183 rfl ?_
        refine hp_get C fl_X5_98_4 dX5_about_185 (K.isW hn hk) (K.f136 hn hk) ?_
        refine hp_goto (tgt := 192) C dX5_about_188 (by decide) ?_
        refine hp_iret C hr rfl dX5_about_192 ?_
        exact ⟨⟨_, rfl⟩, rfl⟩
    · obtain ⟨hp, hpk, hm⟩ := hp0 h0
      have hix := a_ix_ok hm
      refine hp_aload_nR C dX5_about_0 rfl ?_
      refine hp_iload_n C dX5_about_1 rfl ?_
      refine hp_callV (ci := 5) C ml_X5_109 im_X5_nodeAt se_X5_nodeAt rfl (by decide) (kw_node (d := d - 1) K T hn h3 (by omega)) (by omega) dX5_about_2 K.isT rfl rfl (by simp [Value.category]) (fun v_2 h_2 hp => ?_) (fun _ _ hf => hf.elim)
      obtain ⟨rfl, e_2⟩ := hp
      rw [e_2]
      refine hp_astore_n (r := some _) C dX5_about_5 (by decide) ?_
      refine hp_iload_n C dX5_about_6 rfl ?_
      have q_2 : (z) = 0 ∨ (z) = 1 ∨ (z) = 2 ∨ (z) = 3 ∨ (z) = 4 ∨ (z) = 5 ∨ (z) = 6 ∨ (z) = 7 := by
        have q_3 : (z).toInt = 0 ∨ (z).toInt = 1 ∨ (z).toInt = 2 ∨ (z).toInt = 3 ∨ (z).toInt = 4 ∨ (z).toInt = 5 ∨ (z).toInt = 6 ∨ (z).toInt = 7 := by omega
        rcases q_3 with q_3 | q_3 | q_3 | q_3 | q_3 | q_3 | q_3 | q_3 <;> first | exact Or.inl (Int32.toInt_inj.mp (q_3.trans (by decide))) | exact Or.inr (Or.inl (Int32.toInt_inj.mp (q_3.trans (by decide)))) | exact Or.inr (Or.inr (Or.inl (Int32.toInt_inj.mp (q_3.trans (by decide))))) | exact Or.inr (Or.inr (Or.inr (Or.inl (Int32.toInt_inj.mp (q_3.trans (by decide)))))) | exact Or.inr (Or.inr (Or.inr (Or.inr (Or.inl (Int32.toInt_inj.mp (q_3.trans (by decide))))))) | exact Or.inr (Or.inr (Or.inr (Or.inr (Or.inr (Or.inl (Int32.toInt_inj.mp (q_3.trans (by decide)))))))) | exact Or.inr (Or.inr (Or.inr (Or.inr (Or.inr (Or.inr (Or.inl (Int32.toInt_inj.mp (q_3.trans (by decide))))))))) | exact Or.inr (Or.inr (Or.inr (Or.inr (Or.inr (Or.inr (Or.inr ((Int32.toInt_inj.mp (q_3.trans (by decide))))))))))
      rcases q_2 with rfl | rfl | rfl | rfl | rfl | rfl | rfl | rfl
      · refine hp_tableIn (tgt := 52) C dX5_about_7 (by decide) (by decide) rfl (by decide) ?_
        refine hp_aload_nR C dX5_about_52 rfl ?_
        refine hp_get (v := .ref (κ.1 0 (a_pa a n))) C fl_X5_133_4 dX5_about_53 (K.isW hn hk) ((K.f65 hn).trans (by rw [if_neg h0]; rfl)) ?_
        refine hp_ifnonnull (r := some _) (tgt := 63) C dX5_about_56 (by decide) (fun _ _ => ?_) (fun hx_ => by cases hx_)
        refine hp_aload_nR C dX5_about_63 rfl ?_
        refine hp_get (v := .ref (κ.1 0 (a_pa a n))) C fl_X5_133_4 dX5_about_64 (K.isW hn hk) ((K.f65 hn).trans (by rw [if_neg h0]; rfl)) ?_
        refine hp_get C fl_X5_80_2 dX5_about_67 (K.isK hp hpk) (K.f64 hp) ?_
        refine hp_iret C hr rfl dX5_about_70 ?_
        exact ⟨⟨_, rfl⟩, rfl⟩
      · refine hp_tableIn (tgt := 71) C dX5_about_7 (by decide) (by decide) rfl (by decide) ?_
        refine hp_aload_nR C dX5_about_71 rfl ?_
        refine hp_get (v := .ref (κ.1 0 (a_pa a n))) C fl_X5_133_4 dX5_about_72 (K.isW hn hk) ((K.f65 hn).trans (by rw [if_neg h0]; rfl)) ?_
        refine hp_ifnonnull (r := some _) (tgt := 82) C dX5_about_75 (by decide) (fun _ _ => ?_) (fun hx_ => by cases hx_)
        refine hp_aload_nR C dX5_about_82 rfl ?_
        refine hp_get (v := .ref (κ.1 0 (a_pa a n))) C fl_X5_133_4 dX5_about_83 (K.isW hn hk) ((K.f65 hn).trans (by rw [if_neg h0]; rfl)) ?_
        refine hp_aload_nR C dX5_about_86 rfl ?_
        refine hp_callV (ci := 2) C ml_X5_136 im_X1_placeOf se_X1_placeOf rfl (by decide) (kc_place (d := d - 1) K T hp hpk hn hix.1 hix.2.1 hix.2.2 (by omega)) (by omega) dX5_about_87 (K.isK hp hpk) rfl rfl (by simp [Value.category]) (fun v_87 h_87 hp => ?_) (fun _ _ hf => hf.elim)
        obtain ⟨rfl, e_87⟩ := hp
        rw [e_87]
        refine hp_iret C hr rfl dX5_about_90 ?_
        exact ⟨⟨_, rfl⟩, rfl⟩
      · refine hp_tableIn (tgt := 91) C dX5_about_7 (by decide) (by decide) rfl (by decide) ?_
        refine hp_aload_nR C dX5_about_91 rfl ?_
        refine hp_get C fl_X5_140_4 dX5_about_92 (K.isW hn hk) (K.f66 hn) ?_
        refine hp_iret C hr rfl dX5_about_95 ?_
        exact ⟨⟨_, rfl⟩, rfl⟩
      · refine hp_tableIn (tgt := 96) C dX5_about_7 (by decide) (by decide) rfl (by decide) ?_
        refine hp_aload_nR C dX5_about_96 rfl ?_
        refine hp_get C fl_X5_143_4 dX5_about_97 (K.isW hn hk) (K.f67 hn) ?_
        refine hp_iret C hr rfl dX5_about_100 ?_
        exact ⟨⟨_, rfl⟩, rfl⟩
      · refine hp_tableIn (tgt := 101) C dX5_about_7 (by decide) (by decide) rfl (by decide) ?_
        refine hp_aload_nR C dX5_about_101 rfl ?_
        refine hp_instNo C 4 cl_X5_22 (by decide) rfl (by decide) dX5_about_102 (K.isW hn hk) ?_
        refine hp_if_eq (tgt := 112) C dX5_about_105 (by decide) (fun _ => ?_) (fun z_9 => absurd z_9 (by decide))
        refine hp_iconst (v := 0) C dX5_about_112 (by decide) ?_
        refine hp_iret C hr rfl dX5_about_113 ?_
        exact ⟨⟨_, rfl⟩, rfl⟩
      · refine hp_tableIn (tgt := 114) C dX5_about_7 (by decide) (by decide) rfl (by decide) ?_
        refine hp_aload_nR C dX5_about_114 rfl ?_
        refine hp_instNo C 4 cl_X5_22 (by decide) rfl (by decide) dX5_about_115 (K.isW hn hk) ?_
        refine hp_if_eq (tgt := 138) C dX5_about_118 (by decide) (fun _ => ?_) (fun z_9 => absurd z_9 (by decide))
        refine hp_iconst (v := (-1)) C dX5_about_138 (by decide) ?_
        refine hp_iret C hr rfl dX5_about_139 ?_
        exact ⟨⟨_, rfl⟩, rfl⟩
      · refine hp_tableIn (tgt := 140) C dX5_about_7 (by decide) (by decide) rfl (by decide) ?_
        refine hp_aload_nR C dX5_about_140 rfl ?_
        refine hp_instNo C 4 cl_X5_22 (by decide) rfl (by decide) dX5_about_141 (K.isW hn hk) ?_
        refine hp_if_eq (tgt := 168) C dX5_about_144 (by decide) (fun _ => ?_) (fun z_9 => absurd z_9 (by decide))
        refine hp_iconst (v := (-1)) C dX5_about_168 (by decide) ?_
        refine hp_iret C hr rfl dX5_about_169 ?_
        exact ⟨⟨_, rfl⟩, rfl⟩
      · refine hp_tableIn (tgt := 170) C dX5_about_7 (by decide) (by decide) rfl (by decide) ?_
        refine hp_aload_nR C dX5_about_170 rfl ?_
        refine hp_instY C 4 cl_X5_83 (by decide) rfl (by decide) dX5_about_171 (K.isW hn hk) ?_
        refine hp_if_eq (tgt := 191) C dX5_about_174 (by decide) (fun z_9 => absurd z_9 (by decide)) (fun _ => ?_)
        refine hp_aload_nR C dX5_about_177 rfl ?_
        refine hp_castY C 4 cl_X5_83 (by decide) rfl (by decide) dX5_about_178 (K.isW hn hk) ?_
        refine hp_astore (r := some _) C dX5_about_181 (by decide) ?_
        refine hp_aloadR C dX5_about_183 rfl ?_
        refine hp_get C fl_X5_98_4 dX5_about_185 (K.isW hn hk) (K.f136 hn hk) ?_
        refine hp_goto (tgt := 192) C dX5_about_188 (by decide) ?_
        refine hp_iret C hr rfl dX5_about_192 ?_
        exact ⟨⟨_, rfl⟩, rfl⟩
  · by_cases h0 : n = 0
    · refine hp_aload_nR C dX5_about_0 rfl ?_
      refine hp_iload_n C dX5_about_1 rfl ?_
      refine hp_callV (ci := 5) C ml_X5_109 im_X5_nodeAt se_X5_nodeAt rfl (by decide) (kw_node (d := d - 1) K T hn h3 (by omega)) (by omega) dX5_about_2 K.isT rfl rfl (by simp [Value.category]) (fun v_2 h_2 hp => ?_) (fun _ _ hf => hf.elim)
      obtain ⟨rfl, e_2⟩ := hp
      rw [e_2]
      refine hp_astore_n (r := some _) C dX5_about_5 (by decide) ?_
      refine hp_iload_n C dX5_about_6 rfl ?_
      have q_2 : (z) = 0 ∨ (z) = 1 ∨ (z) = 2 ∨ (z) = 3 ∨ (z) = 4 ∨ (z) = 5 ∨ (z) = 6 ∨ (z) = 7 := by
        have q_3 : (z).toInt = 0 ∨ (z).toInt = 1 ∨ (z).toInt = 2 ∨ (z).toInt = 3 ∨ (z).toInt = 4 ∨ (z).toInt = 5 ∨ (z).toInt = 6 ∨ (z).toInt = 7 := by omega
        rcases q_3 with q_3 | q_3 | q_3 | q_3 | q_3 | q_3 | q_3 | q_3 <;> first | exact Or.inl (Int32.toInt_inj.mp (q_3.trans (by decide))) | exact Or.inr (Or.inl (Int32.toInt_inj.mp (q_3.trans (by decide)))) | exact Or.inr (Or.inr (Or.inl (Int32.toInt_inj.mp (q_3.trans (by decide))))) | exact Or.inr (Or.inr (Or.inr (Or.inl (Int32.toInt_inj.mp (q_3.trans (by decide)))))) | exact Or.inr (Or.inr (Or.inr (Or.inr (Or.inl (Int32.toInt_inj.mp (q_3.trans (by decide))))))) | exact Or.inr (Or.inr (Or.inr (Or.inr (Or.inr (Or.inl (Int32.toInt_inj.mp (q_3.trans (by decide)))))))) | exact Or.inr (Or.inr (Or.inr (Or.inr (Or.inr (Or.inr (Or.inl (Int32.toInt_inj.mp (q_3.trans (by decide))))))))) | exact Or.inr (Or.inr (Or.inr (Or.inr (Or.inr (Or.inr (Or.inr ((Int32.toInt_inj.mp (q_3.trans (by decide))))))))))
      rcases q_2 with rfl | rfl | rfl | rfl | rfl | rfl | rfl | rfl
      · refine hp_tableIn (tgt := 52) C dX5_about_7 (by decide) (by decide) rfl (by decide) ?_
        refine hp_aload_nR C dX5_about_52 rfl ?_
        refine hp_get (v := .null) C fl_X5_133_2 dX5_about_53 (K.isK hn hk) ((K.f65 hn).trans (by rw [if_pos h0]; rfl)) ?_
        refine hp_ifnonnull (r := none) (tgt := 63) C dX5_about_56 (by decide) (fun _ hx_ => by cases hx_) (fun _ => ?_)
        refine hp_iconst (v := (-1)) C dX5_about_59 (by decide) ?_
        refine hp_goto (tgt := 70) C dX5_about_60 (by decide) ?_
        refine hp_iret C hr rfl dX5_about_70 ?_
        exact ⟨⟨_, rfl⟩, rfl⟩
      · refine hp_tableIn (tgt := 71) C dX5_about_7 (by decide) (by decide) rfl (by decide) ?_
        refine hp_aload_nR C dX5_about_71 rfl ?_
        refine hp_get (v := .null) C fl_X5_133_2 dX5_about_72 (K.isK hn hk) ((K.f65 hn).trans (by rw [if_pos h0]; rfl)) ?_
        refine hp_ifnonnull (r := none) (tgt := 82) C dX5_about_75 (by decide) (fun _ hx_ => by cases hx_) (fun _ => ?_)
        refine hp_iconst (v := 0) C dX5_about_78 (by decide) ?_
        refine hp_goto (tgt := 90) C dX5_about_79 (by decide) ?_
        refine hp_iret C hr rfl dX5_about_90 ?_
        exact ⟨⟨_, rfl⟩, rfl⟩
      · refine hp_tableIn (tgt := 91) C dX5_about_7 (by decide) (by decide) rfl (by decide) ?_
        refine hp_aload_nR C dX5_about_91 rfl ?_
        refine hp_get C fl_X5_140_2 dX5_about_92 (K.isK hn hk) (K.f66 hn) ?_
        refine hp_iret C hr rfl dX5_about_95 ?_
        exact ⟨⟨_, rfl⟩, rfl⟩
      · refine hp_tableIn (tgt := 96) C dX5_about_7 (by decide) (by decide) rfl (by decide) ?_
        refine hp_aload_nR C dX5_about_96 rfl ?_
        refine hp_get C fl_X5_143_2 dX5_about_97 (K.isK hn hk) (K.f67 hn) ?_
        refine hp_iret C hr rfl dX5_about_100 ?_
        exact ⟨⟨_, rfl⟩, rfl⟩
      · refine hp_tableIn (tgt := 101) C dX5_about_7 (by decide) (by decide) rfl (by decide) ?_
        refine hp_aload_nR C dX5_about_101 rfl ?_
        refine hp_instY C 2 cl_X5_22 (by decide) rfl (by decide) dX5_about_102 (K.isK hn hk) ?_
        refine hp_if_eq (tgt := 112) C dX5_about_105 (by decide) (fun z_9 => absurd z_9 (by decide)) (fun _ => ?_)
        refine hp_iconst (v := 1) C dX5_about_108 (by decide) ?_
        refine hp_goto (tgt := 113) C dX5_about_109 (by decide) ?_
        refine hp_iret C hr rfl dX5_about_113 ?_
        exact ⟨⟨_, rfl⟩, rfl⟩
      · refine hp_tableIn (tgt := 114) C dX5_about_7 (by decide) (by decide) rfl (by decide) ?_
        refine hp_aload_nR C dX5_about_114 rfl ?_
        refine hp_instY C 2 cl_X5_22 (by decide) rfl (by decide) dX5_about_115 (K.isK hn hk) ?_
        refine hp_if_eq (tgt := 138) C dX5_about_118 (by decide) (fun z_9 => absurd z_9 (by decide)) (fun _ => ?_)
        refine hp_aload_nR C dX5_about_121 rfl ?_
        refine hp_castY C 2 cl_X5_22 (by decide) rfl (by decide) dX5_about_122 (K.isK hn hk) ?_
        refine hp_astore (r := some _) C dX5_about_125 (by decide) ?_
        refine hp_aloadR C dX5_about_127 rfl ?_
        refine hp_get C fl_X5_146_2 dX5_about_129 (K.isK hn hk) (K.f69 hn hk) ?_
        refine hp_callV (ci := 0) C ml_X5_150 im_Jx4a65c_size_8abf5 se_Jx4a65c_size_8abf5 rfl (by decide) (kc_size (d := d - 1) K hn hk) (by omega) dX5_about_132 (K.isL hn hk) rfl rfl (by simp [Value.category]) (fun v_132 h_132 hp => ?_) (fun _ _ hf => hf.elim)
        obtain ⟨rfl, e_132⟩ := hp
        rw [e_132]
        refine hp_goto (tgt := 139) C dX5_about_135 (by decide) ?_
        refine hp_iret C hr rfl dX5_about_139 ?_
        exact ⟨⟨_, rfl⟩, rfl⟩
      · refine hp_tableIn (tgt := 140) C dX5_about_7 (by decide) (by decide) rfl (by decide) ?_
        refine hp_aload_nR C dX5_about_140 rfl ?_
        refine hp_instY C 2 cl_X5_22 (by decide) rfl (by decide) dX5_about_141 (K.isK hn hk) ?_
        refine hp_if_eq (tgt := 168) C dX5_about_144 (by decide) (fun z_9 => absurd z_9 (by decide)) (fun _ => ?_)
        refine hp_aload_nR C dX5_about_147 rfl ?_
        refine hp_castY C 2 cl_X5_22 (by decide) rfl (by decide) dX5_about_148 (K.isK hn hk) ?_
        refine hp_astore (r := some _) C dX5_about_151 (by decide) ?_
        refine hp_aloadR C dX5_about_153 rfl ?_
        refine hp_aload_nR C dX5_about_155 rfl ?_
        refine hp_get C fl_X5_10_5 dX5_about_156 K.isT K.f160 ?_
        refine hp_get C fl_X5_127_1 dX5_about_159 K.isJ K.f33 ?_
        refine hp_callV (ci := 2) C ml_X5_156 im_X1_recentRestarts se_X1_recentRestarts rfl (by decide) (kc_rr (d := d - 1) K hn hk (k_small K A hn hk htm) (by have := (K.isI hn hk).2; have := K.isI2 hn hk; omega) (by omega)) (by omega) dX5_about_162 (K.isK hn hk) rfl rfl (by simp [Value.category]) (fun v_162 h_162 hp => ?_) (fun _ _ hf => hf.elim)
        obtain ⟨rfl, e_162⟩ := hp
        rw [e_162]
        refine hp_goto (tgt := 169) C dX5_about_165 (by decide) ?_
        refine hp_iret C hr rfl dX5_about_169 ?_
        exact ⟨⟨_, rfl⟩, rfl⟩
      · refine hp_tableIn (tgt := 170) C dX5_about_7 (by decide) (by decide) rfl (by decide) ?_
        refine hp_aload_nR C dX5_about_170 rfl ?_
        refine hp_instNo C 2 cl_X5_83 (by decide) rfl (by decide) dX5_about_171 (K.isK hn hk) ?_
        refine hp_if_eq (tgt := 191) C dX5_about_174 (by decide) (fun _ => ?_) (fun z_9 => absurd z_9 (by decide))
        refine hp_iconst (v := (-1)) C dX5_about_191 (by decide) ?_
        refine hp_iret C hr rfl dX5_about_192 ?_
        exact ⟨⟨_, rfl⟩, rfl⟩
    · obtain ⟨hp, hpk, hm⟩ := hp0 h0
      have hix := a_ix_ok hm
      refine hp_aload_nR C dX5_about_0 rfl ?_
      refine hp_iload_n C dX5_about_1 rfl ?_
      refine hp_callV (ci := 5) C ml_X5_109 im_X5_nodeAt se_X5_nodeAt rfl (by decide) (kw_node (d := d - 1) K T hn h3 (by omega)) (by omega) dX5_about_2 K.isT rfl rfl (by simp [Value.category]) (fun v_2 h_2 hp => ?_) (fun _ _ hf => hf.elim)
      obtain ⟨rfl, e_2⟩ := hp
      rw [e_2]
      refine hp_astore_n (r := some _) C dX5_about_5 (by decide) ?_
      refine hp_iload_n C dX5_about_6 rfl ?_
      have q_2 : (z) = 0 ∨ (z) = 1 ∨ (z) = 2 ∨ (z) = 3 ∨ (z) = 4 ∨ (z) = 5 ∨ (z) = 6 ∨ (z) = 7 := by
        have q_3 : (z).toInt = 0 ∨ (z).toInt = 1 ∨ (z).toInt = 2 ∨ (z).toInt = 3 ∨ (z).toInt = 4 ∨ (z).toInt = 5 ∨ (z).toInt = 6 ∨ (z).toInt = 7 := by omega
        rcases q_3 with q_3 | q_3 | q_3 | q_3 | q_3 | q_3 | q_3 | q_3 <;> first | exact Or.inl (Int32.toInt_inj.mp (q_3.trans (by decide))) | exact Or.inr (Or.inl (Int32.toInt_inj.mp (q_3.trans (by decide)))) | exact Or.inr (Or.inr (Or.inl (Int32.toInt_inj.mp (q_3.trans (by decide))))) | exact Or.inr (Or.inr (Or.inr (Or.inl (Int32.toInt_inj.mp (q_3.trans (by decide)))))) | exact Or.inr (Or.inr (Or.inr (Or.inr (Or.inl (Int32.toInt_inj.mp (q_3.trans (by decide))))))) | exact Or.inr (Or.inr (Or.inr (Or.inr (Or.inr (Or.inl (Int32.toInt_inj.mp (q_3.trans (by decide)))))))) | exact Or.inr (Or.inr (Or.inr (Or.inr (Or.inr (Or.inr (Or.inl (Int32.toInt_inj.mp (q_3.trans (by decide))))))))) | exact Or.inr (Or.inr (Or.inr (Or.inr (Or.inr (Or.inr (Or.inr ((Int32.toInt_inj.mp (q_3.trans (by decide))))))))))
      rcases q_2 with rfl | rfl | rfl | rfl | rfl | rfl | rfl | rfl
      · refine hp_tableIn (tgt := 52) C dX5_about_7 (by decide) (by decide) rfl (by decide) ?_
        refine hp_aload_nR C dX5_about_52 rfl ?_
        refine hp_get (v := .ref (κ.1 0 (a_pa a n))) C fl_X5_133_2 dX5_about_53 (K.isK hn hk) ((K.f65 hn).trans (by rw [if_neg h0]; rfl)) ?_
        refine hp_ifnonnull (r := some _) (tgt := 63) C dX5_about_56 (by decide) (fun _ _ => ?_) (fun hx_ => by cases hx_)
        refine hp_aload_nR C dX5_about_63 rfl ?_
        refine hp_get (v := .ref (κ.1 0 (a_pa a n))) C fl_X5_133_2 dX5_about_64 (K.isK hn hk) ((K.f65 hn).trans (by rw [if_neg h0]; rfl)) ?_
        refine hp_get C fl_X5_80_2 dX5_about_67 (K.isK hp hpk) (K.f64 hp) ?_
        refine hp_iret C hr rfl dX5_about_70 ?_
        exact ⟨⟨_, rfl⟩, rfl⟩
      · refine hp_tableIn (tgt := 71) C dX5_about_7 (by decide) (by decide) rfl (by decide) ?_
        refine hp_aload_nR C dX5_about_71 rfl ?_
        refine hp_get (v := .ref (κ.1 0 (a_pa a n))) C fl_X5_133_2 dX5_about_72 (K.isK hn hk) ((K.f65 hn).trans (by rw [if_neg h0]; rfl)) ?_
        refine hp_ifnonnull (r := some _) (tgt := 82) C dX5_about_75 (by decide) (fun _ _ => ?_) (fun hx_ => by cases hx_)
        refine hp_aload_nR C dX5_about_82 rfl ?_
        refine hp_get (v := .ref (κ.1 0 (a_pa a n))) C fl_X5_133_2 dX5_about_83 (K.isK hn hk) ((K.f65 hn).trans (by rw [if_neg h0]; rfl)) ?_
        refine hp_aload_nR C dX5_about_86 rfl ?_
        refine hp_callV (ci := 2) C ml_X5_136 im_X1_placeOf se_X1_placeOf rfl (by decide) (kc_place (d := d - 1) K T hp hpk hn hix.1 hix.2.1 hix.2.2 (by omega)) (by omega) dX5_about_87 (K.isK hp hpk) rfl rfl (by simp [Value.category]) (fun v_87 h_87 hp => ?_) (fun _ _ hf => hf.elim)
        obtain ⟨rfl, e_87⟩ := hp
        rw [e_87]
        refine hp_iret C hr rfl dX5_about_90 ?_
        exact ⟨⟨_, rfl⟩, rfl⟩
      · refine hp_tableIn (tgt := 91) C dX5_about_7 (by decide) (by decide) rfl (by decide) ?_
        refine hp_aload_nR C dX5_about_91 rfl ?_
        refine hp_get C fl_X5_140_2 dX5_about_92 (K.isK hn hk) (K.f66 hn) ?_
        refine hp_iret C hr rfl dX5_about_95 ?_
        exact ⟨⟨_, rfl⟩, rfl⟩
      · refine hp_tableIn (tgt := 96) C dX5_about_7 (by decide) (by decide) rfl (by decide) ?_
        refine hp_aload_nR C dX5_about_96 rfl ?_
        refine hp_get C fl_X5_143_2 dX5_about_97 (K.isK hn hk) (K.f67 hn) ?_
        refine hp_iret C hr rfl dX5_about_100 ?_
        exact ⟨⟨_, rfl⟩, rfl⟩
      · refine hp_tableIn (tgt := 101) C dX5_about_7 (by decide) (by decide) rfl (by decide) ?_
        refine hp_aload_nR C dX5_about_101 rfl ?_
        refine hp_instY C 2 cl_X5_22 (by decide) rfl (by decide) dX5_about_102 (K.isK hn hk) ?_
        refine hp_if_eq (tgt := 112) C dX5_about_105 (by decide) (fun z_9 => absurd z_9 (by decide)) (fun _ => ?_)
        refine hp_iconst (v := 1) C dX5_about_108 (by decide) ?_
        refine hp_goto (tgt := 113) C dX5_about_109 (by decide) ?_
        refine hp_iret C hr rfl dX5_about_113 ?_
        exact ⟨⟨_, rfl⟩, rfl⟩
      · refine hp_tableIn (tgt := 114) C dX5_about_7 (by decide) (by decide) rfl (by decide) ?_
        refine hp_aload_nR C dX5_about_114 rfl ?_
        refine hp_instY C 2 cl_X5_22 (by decide) rfl (by decide) dX5_about_115 (K.isK hn hk) ?_
        refine hp_if_eq (tgt := 138) C dX5_about_118 (by decide) (fun z_9 => absurd z_9 (by decide)) (fun _ => ?_)
        refine hp_aload_nR C dX5_about_121 rfl ?_
        refine hp_castY C 2 cl_X5_22 (by decide) rfl (by decide) dX5_about_122 (K.isK hn hk) ?_
        refine hp_astore (r := some _) C dX5_about_125 (by decide) ?_
        refine hp_aloadR C dX5_about_127 rfl ?_
        refine hp_get C fl_X5_146_2 dX5_about_129 (K.isK hn hk) (K.f69 hn hk) ?_
        refine hp_callV (ci := 0) C ml_X5_150 im_Jx4a65c_size_8abf5 se_Jx4a65c_size_8abf5 rfl (by decide) (kc_size (d := d - 1) K hn hk) (by omega) dX5_about_132 (K.isL hn hk) rfl rfl (by simp [Value.category]) (fun v_132 h_132 hp => ?_) (fun _ _ hf => hf.elim)
        obtain ⟨rfl, e_132⟩ := hp
        rw [e_132]
        refine hp_goto (tgt := 139) C dX5_about_135 (by decide) ?_
        refine hp_iret C hr rfl dX5_about_139 ?_
        exact ⟨⟨_, rfl⟩, rfl⟩
      · refine hp_tableIn (tgt := 140) C dX5_about_7 (by decide) (by decide) rfl (by decide) ?_
        refine hp_aload_nR C dX5_about_140 rfl ?_
        refine hp_instY C 2 cl_X5_22 (by decide) rfl (by decide) dX5_about_141 (K.isK hn hk) ?_
        refine hp_if_eq (tgt := 168) C dX5_about_144 (by decide) (fun z_9 => absurd z_9 (by decide)) (fun _ => ?_)
        refine hp_aload_nR C dX5_about_147 rfl ?_
        refine hp_castY C 2 cl_X5_22 (by decide) rfl (by decide) dX5_about_148 (K.isK hn hk) ?_
        refine hp_astore (r := some _) C dX5_about_151 (by decide) ?_
        refine hp_aloadR C dX5_about_153 rfl ?_
        refine hp_aload_nR C dX5_about_155 rfl ?_
        refine hp_get C fl_X5_10_5 dX5_about_156 K.isT K.f160 ?_
        refine hp_get C fl_X5_127_1 dX5_about_159 K.isJ K.f33 ?_
        refine hp_callV (ci := 2) C ml_X5_156 im_X1_recentRestarts se_X1_recentRestarts rfl (by decide) (kc_rr (d := d - 1) K hn hk (k_small K A hn hk htm) (by have := (K.isI hn hk).2; have := K.isI2 hn hk; omega) (by omega)) (by omega) dX5_about_162 (K.isK hn hk) rfl rfl (by simp [Value.category]) (fun v_162 h_162 hp => ?_) (fun _ _ hf => hf.elim)
        obtain ⟨rfl, e_162⟩ := hp
        rw [e_162]
        refine hp_goto (tgt := 169) C dX5_about_165 (by decide) ?_
        refine hp_iret C hr rfl dX5_about_169 ?_
        exact ⟨⟨_, rfl⟩, rfl⟩
      · refine hp_tableIn (tgt := 170) C dX5_about_7 (by decide) (by decide) rfl (by decide) ?_
        refine hp_aload_nR C dX5_about_170 rfl ?_
        refine hp_instNo C 2 cl_X5_83 (by decide) rfl (by decide) dX5_about_171 (K.isK hn hk) ?_
        refine hp_if_eq (tgt := 191) C dX5_about_174 (by decide) (fun _ => ?_) (fun z_9 => absurd z_9 (by decide))
        refine hp_iconst (v := (-1)) C dX5_about_191 (by decide) ?_
        refine hp_iret C hr rfl dX5_about_192 ?_
        exact ⟨⟨_, rfl⟩, rfl⟩
set_option maxHeartbeats 4000000 in
theorem kl_ci {M : hpM} {G : hpG} {d : Nat} {h0 h : hpT} {pr : Nat → Prop} {B : hpT} {N S : Nat} {κ : kS} {a : aS} (K : KR G pr B N S h κ a) (T : a_T a) (C : hp_F M G yX5_countIn cX5_countIn 5 d h0) (hr : (hp_mt M).sig.returnType = some .int) {s : Int} (hs : 0 ≤ s ∧ s ≤ 2) {X : String → hpT → Prop} {P : Option Value → hpT → Prop} (hP : P (some (.int (nI (a_ci a s (a_mk a))))) h) : ∀ (k i : Nat) (lo : Nat → Option Value), i + k = 80 → lo 0 = some (.ref (κ.1 5 0)) → lo 1 = some (.int (Int32.ofInt s)) → lo 2 = some (.int (nI (a_ci a s (min i (a_mk a))))) → lo 3 = some (.int (nI i)) → hp_V M G 5 (hp_Q M G h0 P X) h 4 lo [] := by
  have m80 := T.1.2
  intro k
  induction k with
  | zero =>
    intro i lo hi e0 e1 e2 e3
    have ei : i = 80 := by omega
    subst ei
    rw [Nat.min_eq_right m80] at e2
    refine hp_iload_n C dX5_countIn_4 e3 ?_
    refine hp_bipush (v := 80) C dX5_countIn_5 (by decide) ?_
    refine hp_icmp_ge (tgt := 41) C dX5_countIn_7 (by decide) (fun _ => ?_) (fun z_9 => absurd (show (80 : Int32) ≤ nI 80 by decide) z_9)
    refine hp_iload_n C dX5_countIn_41 e2 ?_
    refine hp_iret C hr rfl dX5_countIn_42 ?_
    exact hP
  | succ k ih =>
    intro i lo hi e0 e1 e2 e3
    by_cases c : i < a_mk a
    · have hib := T.kb c
      have r3 := T.r3 c
      have e2' := Nat.min_eq_left (Nat.le_of_lt c)
      rw [e2'] at e2
      have en : min (i + 1) (a_mk a) = i + 1 := Nat.min_eq_left c
      refine hp_iload_n C dX5_countIn_4 e3 ?_
      refine hp_bipush (v := 80) C dX5_countIn_5 (by decide) ?_
      refine hp_icmp_ge (tgt := 41) C dX5_countIn_7 (by decide) (fun z_9 => absurd z_9 (nI_ge (a := i) (b := 80) (by omega) (by omega))) (fun _ => ?_)
      refine hp_aload_nR C dX5_countIn_10 e0 ?_
      refine hp_get C fl_X5_18_5 dX5_countIn_11 K.isT K.f161 ?_
      refine hp_iload_n C dX5_countIn_14 e3 ?_
      refine hp_aald (v := .ref (κ.1 0 i)) C 4 rfl rfl (by decide) dX5_countIn_15 K.isM.1 (by rw [K.isM.2]; exact nI_in (by omega) (by omega)) ((congrArg (hp_ar h (κ.1 5 7)) (nI_clamp (by omega))).trans ((K.nod (by omega)).trans (by rw [if_pos c]; rfl))) ?_
      refine hp_astore (r := some _) C dX5_countIn_16 (by decide) ?_
      refine hp_aloadR C dX5_countIn_18 rfl ?_
      refine hp_ifnull (r := some _) (tgt := 35) C dX5_countIn_20 (by decide) (fun hx_ => by cases hx_) (fun _ _ => ?_)
      refine hp_aloadR C dX5_countIn_23 rfl ?_
      refine kg_N C K c hib (by decide) fl_X5_113_2 fl_X5_113_4 dX5_countIn_25 (K.f68 c) ?_
      refine hp_iload_n C dX5_countIn_28 e1 ?_
      refine hp_icmp_ne (tgt := 35) C dX5_countIn_29 (by decide) (fun c_29 => ?_) (fun c_29 => ?_)
      · have hq : ¬ a_nd a 3 i = s := fun e => c_29 (by rw [e])
        refine hp_iinc C dX5_countIn_35 e3 (by decide) rfl ?_
        refine hp_goto (tgt := 4) C dX5_countIn_38 (by decide) ?_
        have eq : a_ci a s (i + 1) = a_ci a s i := if_neg hq
        exact ih (i + 1) _ (by omega) e0 e1 (by rw [en, eq]; exact e2) ((va_up_self _ _ _).trans (by rw [show Int32.ofInt 1 = 1 from rfl, nI_1]))
      · have hq : a_nd a 3 i = s := (a_ofI_eq (x := a_nd a 3 i) (y := s) (by omega) (by omega)).mp c_29
        refine hp_iinc C dX5_countIn_32 e2 (by decide) rfl ?_
        refine hp_iinc C dX5_countIn_35 e3 (by decide) rfl ?_
        refine hp_goto (tgt := 4) C dX5_countIn_38 (by decide) ?_
        have eq : a_ci a s (i + 1) = a_ci a s i + 1 := if_pos hq
        exact ih (i + 1) _ (by omega) e0 e1 (by rw [en, eq, ← nI_1]; rfl) ((va_up_self _ _ _).trans (by rw [show Int32.ofInt 1 = 1 from rfl, nI_1]))
    · have en : min (i + 1) (a_mk a) = min i (a_mk a) := by rw [Nat.min_eq_right (by omega), Nat.min_eq_right (by omega)]
      refine hp_iload_n C dX5_countIn_4 e3 ?_
      refine hp_bipush (v := 80) C dX5_countIn_5 (by decide) ?_
      refine hp_icmp_ge (tgt := 41) C dX5_countIn_7 (by decide) (fun z_9 => absurd z_9 (nI_ge (a := i) (b := 80) (by omega) (by omega))) (fun _ => ?_)
      refine hp_aload_nR C dX5_countIn_10 e0 ?_
      refine hp_get C fl_X5_18_5 dX5_countIn_11 K.isT K.f161 ?_
      refine hp_iload_n C dX5_countIn_14 e3 ?_
      refine hp_aald (v := .null) C 4 rfl rfl (by decide) dX5_countIn_15 K.isM.1 (by rw [K.isM.2]; exact nI_in (by omega) (by omega)) ((congrArg (hp_ar h (κ.1 5 7)) (nI_clamp (by omega))).trans ((K.nod (by omega)).trans (by rw [if_neg c]; rfl))) ?_
      refine hp_astore (r := none) C dX5_countIn_16 (by decide) ?_
      refine hp_aload (r := none) C dX5_countIn_18 rfl ?_
      refine hp_ifnull (r := none) (tgt := 35) C dX5_countIn_20 (by decide) (fun _ => ?_) (fun _ hx_ => by cases hx_)
      refine hp_iinc C dX5_countIn_35 e3 (by decide) rfl ?_
      refine hp_goto (tgt := 4) C dX5_countIn_38 (by decide) ?_
      exact ih (i + 1) _ (by omega) e0 e1 (by rw [en]; exact e2) ((va_up_self _ _ _).trans (by rw [show Int32.ofInt 1 = 1 from rfl, nI_1]))
set_option maxRecDepth 20000 in
set_option maxHeartbeats 4000000 in
theorem kc_cin {l : Launch} {G : hpG} {pr : Nat → Prop} {B : hpT} {N S : Nat} {h : hpT} {κ : kS} {a : aS} {d : Nat} (K : KR G pr B N S h κ a) (T : a_T a) {s : Int} (hs : 0 ≤ s ∧ s ≤ 2) : hp_C l G yX5_countIn (.code yX5_countIn cX5_countIn 5 (some .int)) d [.ref (κ.1 5 0), .int (Int32.ofInt s)] (h) (fun v h' => v = some (.int (nI (a_ci a s (a_mk a)))) ∧ h' = h) (fun _ _ => False) := by
  refine hp_ofV (by decide) (by simp [Value.category]) (Nat.le_of_ble_eq_true rfl) (fun M C hr hx el => ?_)
  refine hp_iconst (v := 0) C dX5_countIn_0 (by decide) ?_
  refine hp_istore_n C dX5_countIn_1 (by decide) ?_
  refine hp_iconst (v := 0) C dX5_countIn_2 (by decide) ?_
  refine hp_istore_n C dX5_countIn_3 (by decide) ?_
  exact kl_ci K T C hr hs ⟨rfl, rfl⟩ 80 0 _ (by omega) rfl rfl (by rw [Nat.zero_min]; rfl) rfl
def a_tot (a : aS) (z : Int32) : Int32 := if z = 0 then nI (a_tm a) else if z = 1 then nI (a_mk a) else if z = 2 then nI (a_ci a 1 (a_mk a)) else if z = 3 then nI (a_ci a 2 (a_mk a)) else if z = 4 then nI (a_ev a).length else if z = 5 then nI (a_rs a) else nI (a_gv a)
set_option maxRecDepth 20000 in
set_option maxHeartbeats 4000000 in
theorem kp_totalX {l : Launch} {G : hpG} {pr : Nat → Prop} {B : hpT} {N S : Nat} {h : hpT} {κ : kS} {a : aS} {d : Nat} (K : KR G pr B N S h κ a) {z : Int32} (hz : ¬ (0 ≤ z.toInt ∧ z.toInt ≤ 6)) (hd : 8 ≤ d) (hR1 : hp_nx h + 1 ≤ hp_n0 G + hp_LC) (hR2 : hp_sl h + 6 ≤ hp_LS) : hp_C l G yX5_total (.code yX5_total cX5_total 2 (some .int)) d [.ref (κ.1 5 0), .int z] (h) (fun _ _ => False) (fun E h' => E = "java/lang/IllegalArgumentException" ∧ h' = hp_mkX h) := by
  refine hp_ofV (by decide) (by simp [Value.category]) (Nat.le_of_ble_eq_true rfl) (fun M C hr hx el => ?_)
  refine hp_iload_n C dX5_total_0 rfl ?_
  refine hp_tableOut (tgt := 87) C dX5_total_1 (by omega) (by decide) ?_
  refine hp_athrow C tl_A (by omega) dX5_total_87 dX5_total_90 dX5_total_91 dX5_total_94 hx (by simp [Value.category]) hR1 hR2 ?_
  exact ⟨rfl, rfl⟩
set_option maxRecDepth 20000 in
set_option maxHeartbeats 4000000 in
theorem kp_total {l : Launch} {G : hpG} {pr : Nat → Prop} {B : hpT} {N S : Nat} {h : hpT} {κ : kS} {a : aS} {d : Nat} (K : KR G pr B N S h κ a) {z : Int32} (T : a_T a) (hz : 0 ≤ z.toInt ∧ z.toInt ≤ 6) (hd : 8 ≤ d) : hp_C l G yX5_total (.code yX5_total cX5_total 2 (some .int)) d [.ref (κ.1 5 0), .int z] (h) (fun v h' => v = some (.int (a_tot a z)) ∧ h' = h) (fun _ _ => False) := by
  refine hp_ofV (by decide) (by simp [Value.category]) (Nat.le_of_ble_eq_true rfl) (fun M C hr hx el => ?_)
  refine hp_iload_n C dX5_total_0 rfl ?_
  have q_2 : (z) = 0 ∨ (z) = 1 ∨ (z) = 2 ∨ (z) = 3 ∨ (z) = 4 ∨ (z) = 5 ∨ (z) = 6 := by
    have q_3 : (z).toInt = 0 ∨ (z).toInt = 1 ∨ (z).toInt = 2 ∨ (z).toInt = 3 ∨ (z).toInt = 4 ∨ (z).toInt = 5 ∨ (z).toInt = 6 := by omega
    rcases q_3 with q_3 | q_3 | q_3 | q_3 | q_3 | q_3 | q_3 <;> first | exact Or.inl (Int32.toInt_inj.mp (q_3.trans (by decide))) | exact Or.inr (Or.inl (Int32.toInt_inj.mp (q_3.trans (by decide)))) | exact Or.inr (Or.inr (Or.inl (Int32.toInt_inj.mp (q_3.trans (by decide))))) | exact Or.inr (Or.inr (Or.inr (Or.inl (Int32.toInt_inj.mp (q_3.trans (by decide)))))) | exact Or.inr (Or.inr (Or.inr (Or.inr (Or.inl (Int32.toInt_inj.mp (q_3.trans (by decide))))))) | exact Or.inr (Or.inr (Or.inr (Or.inr (Or.inr (Or.inl (Int32.toInt_inj.mp (q_3.trans (by decide)))))))) | exact Or.inr (Or.inr (Or.inr (Or.inr (Or.inr (Or.inr ((Int32.toInt_inj.mp (q_3.trans (by decide)))))))))
  rcases q_2 with rfl | rfl | rfl | rfl | rfl | rfl | rfl
  · refine hp_tableIn (tgt := 44) C dX5_total_1 (by decide) (by decide) rfl (by decide) ?_
    refine hp_aload_nR C dX5_total_44 rfl ?_
    refine hp_get C fl_X5_10_5 dX5_total_45 K.isT K.f160 ?_
    refine hp_get C fl_X5_127_1 dX5_total_48 K.isJ K.f33 ?_
    refine hp_iret C hr rfl dX5_total_51 ?_
    exact ⟨rfl, rfl⟩
  · refine hp_tableIn (tgt := 52) C dX5_total_1 (by decide) (by decide) rfl (by decide) ?_
    refine hp_aload_nR C dX5_total_52 rfl ?_
    refine hp_get C fl_X5_31_5 dX5_total_53 K.isT K.f163 ?_
    refine hp_iret C hr rfl dX5_total_56 ?_
    exact ⟨rfl, rfl⟩
  · refine hp_tableIn (tgt := 57) C dX5_total_1 (by decide) (by decide) rfl (by decide) ?_
    refine hp_aload_nR C dX5_total_57 rfl ?_
    refine hp_iconst (v := 1) C dX5_total_58 (by decide) ?_
    refine hp_callV (ci := 5) C ml_X5_172 im_X5_countIn se_X5_countIn rfl (by decide) (kc_cin (d := d - 1) (s := 1) K T (by omega)) (by omega) dX5_total_59 K.isT rfl rfl (by simp [Value.category]) (fun v_59 h_59 hp => ?_) (fun _ _ hf => hf.elim)
    obtain ⟨rfl, e_59⟩ := hp
    rw [e_59]
    refine hp_iret C hr rfl dX5_total_62 ?_
    exact ⟨rfl, rfl⟩
  · refine hp_tableIn (tgt := 63) C dX5_total_1 (by decide) (by decide) rfl (by decide) ?_
    refine hp_aload_nR C dX5_total_63 rfl ?_
    refine hp_iconst (v := 2) C dX5_total_64 (by decide) ?_
    refine hp_callV (ci := 5) C ml_X5_172 im_X5_countIn se_X5_countIn rfl (by decide) (kc_cin (d := d - 1) (s := 2) K T (by omega)) (by omega) dX5_total_65 K.isT rfl rfl (by simp [Value.category]) (fun v_65 h_65 hp => ?_) (fun _ _ hf => hf.elim)
    obtain ⟨rfl, e_65⟩ := hp
    rw [e_65]
    refine hp_iret C hr rfl dX5_total_68 ?_
    exact ⟨rfl, rfl⟩
  · refine hp_tableIn (tgt := 69) C dX5_total_1 (by decide) (by decide) rfl (by decide) ?_
    refine hp_aload_nR C dX5_total_69 rfl ?_
    refine hp_get C fl_X5_10_5 dX5_total_70 K.isT K.f160 ?_
    refine hp_get C fl_X5_175_1 dX5_total_73 K.isJ K.f34 ?_
    refine hp_iret C hr rfl dX5_total_76 ?_
    exact ⟨rfl, rfl⟩
  · refine hp_tableIn (tgt := 77) C dX5_total_1 (by decide) (by decide) rfl (by decide) ?_
    refine hp_aload_nR C dX5_total_77 rfl ?_
    refine hp_get C fl_X5_35_5 dX5_total_78 K.isT K.f164 ?_
    refine hp_iret C hr rfl dX5_total_81 ?_
    exact ⟨rfl, rfl⟩
  · refine hp_tableIn (tgt := 82) C dX5_total_1 (by decide) (by decide) rfl (by decide) ?_
    refine hp_aload_nR C dX5_total_82 rfl ?_
    refine hp_get C fl_X5_38_5 dX5_total_83 K.isT K.f165 ?_
    refine hp_iret C hr rfl dX5_total_86 ?_
    exact ⟨rfl, rfl⟩
/-! ===== the constructor of a worker; the length of the empty array ===== -/
def kc_Work (h : hpT) (a : Nat) (n : Int32) (ow : Option Nat) (dp kn p b e f : Int32) : hpT := hp_put (hp_put (hp_put (hp_put (kc_Node 4 h a n ow dp kn) (hp_fd 4 5) a (.int p)) (hp_fd 4 6) a (.int b)) (hp_fd 4 7) a (.int e)) (hp_fd 4 8) a (.int f)
set_option maxRecDepth 20000 in
set_option maxHeartbeats 4000000 in
theorem kc_woJ {l : Launch} {G : hpG} {h : hpT} {a u d : Nat} {n kn dp p b e f : Int32} (hd : 2 ≤ d) (hi : hp_is G h a 4) (ho : hp_is G h u 2) (ed : hp_fl h (hp_fd 2 2) u = .int dp) : hp_C l G yX4_init (.code yX4_init cX4_init 8 none) d [.ref a, .int n, .ref u, .int kn, .int p, .int b, .int e, .int f] (h) (fun v h' => v = none ∧ h' = kc_Work h a n (some u) (dp + 1) kn p b e f) (fun _ _ => False) := by
  refine hp_ofV (by decide) (by simp [Value.category]) (Nat.le_of_ble_eq_true rfl) (fun M C hr hx el => ?_)
  refine hp_aload_nR C dX4_init_0 rfl ?_
  refine hp_iload_n C dX4_init_1 rfl ?_
  refine hp_aload_nR C dX4_init_2 rfl ?_
  refine hp_iload_n C dX4_init_3 rfl ?_
  refine hp_callI C ml_X4_3 im_X2_init rfl (kc_noJ4 (d := d - 1) (by omega) hi ho ed) (by omega) dX4_init_4 rfl rfl (by simp [Value.category]) (fun v_1 h_1 hp => ?_)
  obtain ⟨rfl, rfl⟩ := hp
  refine hp_aload_nR C dX4_init_7 rfl ?_
  refine hp_iload C dX4_init_8 rfl ?_
  first | refine hp_putF C fl_X4_9_4 rfl rfl rfl rfl dX4_init_10 hi ?_ | refine hp_putf C fl_X4_9_4 rfl rfl rfl dX4_init_10 hi ?_
  refine hp_aload_nR C dX4_init_13 rfl ?_
  refine hp_iload C dX4_init_14 rfl ?_
  first | refine hp_putF C fl_X4_15_4 rfl rfl rfl rfl dX4_init_16 hi ?_ | refine hp_putf C fl_X4_15_4 rfl rfl rfl dX4_init_16 hi ?_
  refine hp_aload_nR C dX4_init_19 rfl ?_
  refine hp_iload C dX4_init_20 rfl ?_
  first | refine hp_putF C fl_X4_18_4 rfl rfl rfl rfl dX4_init_22 hi ?_ | refine hp_putf C fl_X4_18_4 rfl rfl rfl dX4_init_22 hi ?_
  refine hp_aload_nR C dX4_init_25 rfl ?_
  refine hp_iload C dX4_init_26 rfl ?_
  first | refine hp_putF C fl_X4_21_4 rfl rfl rfl rfl dX4_init_28 hi ?_ | refine hp_putf C fl_X4_21_4 rfl rfl rfl dX4_init_28 hi ?_
  refine hp_vret C hr dX4_init_31 ?_
  exact ⟨rfl, rfl⟩
theorem hp_alenE {M : hpM} {G : hpG} {y : MethodName} {cc : ByteArray} {nL d : Nat} {h0 h : hpT} {Q : State → Prop} {pc : Nat} {lo : Nat → Option Value} {st : List Value} (C : hp_F M G y cc nL d h0) (dd : decode cc pc = .ok (.arraylength, 1)) (kk : hp_V M G nL Q h (pc + 1) lo (.int 0 :: st)) : hp_V M G nL Q h pc lo (.ref (hp_dE G) :: st) := by
  intro H locs cells slots ls hR hl hL
  obtain ⟨cell, hf, hc, hz, hs⟩ := C.en.2.2.2.2.2.1
  have hlt := C.en.2.2.2.2.2.2.1
  obtain ⟨kA, comp, k1, k2, -, -⟩ := (C.en.arr (t := 3) rfl).2
  exact W.alen (n := 0) (ty := .object "java/lang/Object") C.ex C.bc (by rw [hR.2.2.1 _ hlt]; exact hf) ⟨hs, kA, by rw [hc]; exact k1, comp, k2⟩ (by rw [hz]; rfl) rfl rfl dd (kk H locs cells slots ls hR hl hL)
/-! ===== ArrayList.add, with growth ===== -/
abbrev gcN : MethodName := ⟨"java/lang/Object", "getClass", "()Ljava/lang/Class;"⟩
theorem gc_l : Cond.methodLink RJ7 86 gcN ∈ hp_ws := (hp_in2 91 (by decide +kernel) rfl)
theorem gc_s : Cond.selects "[Ljava/lang/Object;" gcN gcN ∈ hp_ws := (hp_in4 148 (by decide +kernel) rfl)
theorem gc_i : Cond.instanceMethod gcN ∈ hp_ws := (hp_in2 92 (by decide +kernel) rfl)
theorem gc_n : Cond.native gcN ∈ hp_ws := (hp_in2 103 (by decide +kernel) rfl)
theorem cs_J8_200 : Cond.constant RJ8 200 2147483639 ∈ hp_ws := (hp_in2 84 (by decide +kernel) rfl)
section HPG
variable {M : hpM} {G : hpG} {y : MethodName} {cc : ByteArray} {nL d : Nat} {h0 h : hpT} {Q : State → Prop} {pc : Nat} {lo : Nat → Option Value} {st : List Value}
theorem hp_getC (C : hp_F M G y cc nL d h0) {idx a : Nat} (w1 : Cond.methodLink y.cls idx gcN ∈ hp_ws) (hd : 1 ≤ d) (hi : hp_is G h a 13) (hw : (st.map fun v => v.category).sum ≤ 8) (dd : decode cc pc = .ok (.invokevirtual idx, 3)) (kk : hp_V M G nL Q h (pc + 3) lo (.ref (hp_mi G) :: st)) : hp_V M G nL Q h pc lo (.ref a :: st) := by
  intro H locs cells slots ls hR hl hL
  have rf := C.rf
  have rl := C.rl
  exact va_getC C.ex C.bc (C.ml.trans hL.1.symm) C.own (C.ws _ w1) (va_Nw.use (A := hp_av M) rfl (C.en.2.1 _ (by decide))) (C.ws _ gc_s) (C.ws _ gc_i) (C.ws _ gc_n) C.en.2.2.2.2.2.2.2.1 ⟨_, hR.arr (t := 3) hi (by omega), rfl, va_nmO (C.en.arr (t := 3) rfl).2 rfl⟩ (by omega) (by omega) dd (kk H locs cells slots ls hR hl hL)
theorem hp_ldcM (C : hp_F M G y cc nL d h0) {idx : Nat} (w1 : Cond.classLink y.cls idx "[Ljava/lang/Object;" ∈ hp_ws) (dd : decode cc pc = .ok (.ldc idx, 2)) (kk : hp_V M G nL Q h (pc + 2) lo (.ref (hp_mi G) :: st)) : hp_V M G nL Q h pc lo st := fun H locs cells slots ls hR hl hL => va_ldcM C.ex C.bc C.own (C.ws _ w1) C.en.2.2.2.2.2.2.2.1 dd (kk H locs cells slots ls hR hl hL)
/-- an array is no longer than the room -/
theorem hp_lnb {a t : Nat} (hi : hp_is G h a (10 + t)) (h6 : t < 6) (k : hp_ln h a ≤ hp_LS → hp_V M G nL Q h pc lo st) : hp_V M G nL Q h pc lo st := by
  intro H locs cells slots ls hR hl hL
  refine k ?_ H locs cells slots ls hR hl hL
  have h1 := hR.arr hi h6
  have h2 := hR.2.2.2.2.1
  have h3 := hR.2.2.2.2.2.2
  have h4 : hp_sz H a = hp_ln h a := by
    unfold hp_sz
    rw [h1]
    exact arrV_size _ _ _
  have h5 := hp_sm_one (f := hp_sz H) (q := a) (hp_nx h - hp_n0 G) (hp_n0 G) hi.1 (by have := hi.1; have := hi.2.1; omega)
  omega
end HPG
theorem k_shr {L : Nat} (h : L < 80) : (nI L) >>> ((1 : Int32) &&& 31) = nI (L / 2) := by
  have : ∀ L : Fin 80, (nI L.1) >>> ((1 : Int32) &&& 31) = nI (L.1 / 2) := by decide +kernel
  exact this ⟨L, h⟩
/-- elements that any array of objects takes -/
def hp_els (G : hpG) (h : hpT) (f : Nat → Value) (n : Nat) : Prop := ∀ i, i < n → f i = .null ∨ ∃ b ci cn, f i = .ref b ∧ hp_is G h b ci ∧ ci < 10 ∧ (vwCl[ci]?).map (fun r => r.1) = some cn ∧ Cond.castable cn "java/lang/Object" ∈ hp_ow
theorem hp_els.mkA {G : hpG} {h : hpT} {f : Nat → Value} {n : Nat} (x : hp_els G h f n) (t N : Nat) (v : Value) : hp_els G (hp_mkA h t N v) f n := fun i hi => by
  rcases x i hi with z | ⟨b, ci, cn, z1, z2, z3⟩
  · exact Or.inl z
  · exact Or.inr ⟨b, ci, cn, z1, z2.mkA _ _ _, z3⟩
theorem mn_l : Cond.methodLink RJ7 304 Lib.Math.min.name ∈ hp_ws := (hp_in2 110 (by decide +kernel) rfl)
theorem mn_s : Cond.static Lib.Math.min.name ∈ hp_ws := (hp_in2 111 (by decide +kernel) rfl)
theorem mn_i : Cond.initialized "java/lang/Math" ∈ hp_ws := (hp_in1 16 (by decide +kernel) rfl)
theorem mn_c : Cond.code Lib.Math.min.name Lib.Math.min.code 2 (some .int) ∈ hp_ws := (hp_in2 112 (by decide +kernel) rfl)
theorem hp_mmin {M : hpM} {G : hpG} {y : MethodName} {cc : ByteArray} {nL d : Nat} {h0 h : hpT} {Q : State → Prop} {pc : Nat} {lo : Nat → Option Value} {st : List Value} (C : hp_F M G y cc nL d h0) {idx : Nat} {a b v : Int32} (w1 : Cond.methodLink y.cls idx Lib.Math.min.name ∈ hp_ws) (hd : 1 ≤ d) (hw : (st.map fun v => v.category).sum ≤ 8) (dd : decode cc pc = .ok (.invokestatic idx, 3)) (ev : (if b < a then b else a) = v) (kk : hp_V M G nL Q h (pc + 3) lo (.int v :: st)) : hp_V M G nL Q h pc lo (.int b :: .int a :: st) := by
  subst ev
  intro H locs cells slots ls hR hl hL
  refine hp_tight C hR (fun hle hls => ?_)
  have rf := C.rf
  have rl := C.rl
  have rc := C.rc
  have rs := C.rs
  have b1 := hR.2.2.2.2.2.1
  have b2 := hR.2.2.2.2.2.2
  exact va_mmin C.ex C.bc (C.ml.trans hL.1.symm) C.own (C.ws _ w1) (C.ws _ mn_s) (C.ws _ mn_i) (C.ws _ mn_c) (by omega) (by omega) (by omega) (by omega) dd (kk H locs _ _ ls hR hl hL)
set_option maxRecDepth 20000 in
set_option maxHeartbeats 4000000 in
theorem kj_nl {l : Launch} {G : hpG} {h : hpT} {d q p : Nat} (hq : q ≤ 1000) (hp : p ≤ 1000) (hd : 1 ≤ d) : hp_C l G yJ8_newLength_cabcc (.code yJ8_newLength_cabcc cJ8_newLength_cabcc 4 (some .int)) d [.int (nI q), .int (nI 1), .int (nI p)] (h) (fun v h' => v = some (.int (nI (q + max 1 p))) ∧ h' = h) (fun _ _ => False) := by
  refine hp_ofV (by decide) (by simp [Value.category]) (Nat.le_of_ble_eq_true rfl) (fun M C hr hx el => ?_)
  refine hp_iload_n C dJ8_newLength_cabcc_0 rfl ?_
  refine hp_iload_n C dJ8_newLength_cabcc_1 rfl ?_
  refine hp_iload_n C dJ8_newLength_cabcc_2 rfl ?_
  refine hp_mmax (v := nI (max 1 p)) C mx_J8_194 (by omega) (by simp [Value.category]) dJ8_newLength_cabcc_3 (by
      by_cases z : 1 < p
      · rw [if_pos (nI_lt z (by omega)), Nat.max_eq_right (by omega)]
      · rw [if_neg (nI_nlt (by omega) (by omega)), Nat.max_eq_left (by omega)]) ?_
  refine hp_iadd C dJ8_newLength_cabcc_6 ?_
  rw [nI_add]
  have hm : max 1 p ≤ 1000 := by omega
  have hm1 : 1 ≤ max 1 p := by omega
  refine hp_istore_n C dJ8_newLength_cabcc_7 (by decide) ?_
  refine hp_iconst (v := 0) C dJ8_newLength_cabcc_8 (by decide) ?_
  refine hp_iload_n C dJ8_newLength_cabcc_9 rfl ?_
  refine hp_icmp_ge (tgt := 21) C dJ8_newLength_cabcc_10 (by decide) (fun z_9 => absurd z_9 (nI_nle (by omega) (by omega))) (fun _ => ?_)
  refine hp_iload_n C dJ8_newLength_cabcc_13 rfl ?_
  refine hp_ldc C cs_J8_200 dJ8_newLength_cabcc_14 ?_
  refine hp_icmp_gt (tgt := 21) C dJ8_newLength_cabcc_16 (by decide) (fun z_9 => absurd z_9 (by rw [Int32.lt_iff_toInt_lt, nI_toInt (by omega), show (2147483639 : Int32).toInt = 2147483639 by decide]; omega)) (fun _ => ?_)
  refine hp_iload_n C dJ8_newLength_cabcc_19 rfl ?_
  refine hp_iret C hr rfl dJ8_newLength_cabcc_20 ?_
  exact ⟨rfl, rfl⟩
set_option maxRecDepth 20000 in
set_option maxHeartbeats 4000000 in
theorem kj_cp3 {l : Launch} {G : hpG} {h : hpT} {d e L : Nat} (hi : hp_is G h e 13) (hL : hp_ln h e ≤ L) (hL2 : L ≤ 1000) (hel : hp_els G h (hp_ar h e) (hp_ln h e)) (rm : hp_nx h + 1 ≤ hp_n0 G + hp_LC ∧ hp_sl h + L ≤ hp_LS) (hd : 1 ≤ d) : hp_C l G yJ7_copyOf_6403c (.code yJ7_copyOf_6403c cJ7_copyOf_6403c 4 (some (.array (.object "java/lang/Object")))) d [.ref e, .int (nI L), .ref (hp_mi G)] (h) (fun v h' => v = some (.ref (hp_nx h)) ∧ h' = hp_cpy (hp_mkA h 3 L .null) e (hp_nx h) 0 0 (hp_ln h e)) (fun _ _ => False) := by
  have hlt := hi.2.1
  have hn0 : hp_n0 G ≤ hp_nx h := by have := hi.1; omega
  refine hp_ofV (by decide) (by simp [Value.category]) (Nat.le_of_ble_eq_true rfl) (fun M C hr hx el => ?_)
  refine hp_aload_nR C dJ7_copyOf_6403c_0 rfl ?_
  refine hp_ldcM C cl_J7_110 dJ7_copyOf_6403c_1 ?_
  refine hp_acmp_ne (r := some _) (q := some _) (tgt := 13) C dJ7_copyOf_6403c_3 (by decide) (fun z_9 => absurd rfl z_9) (fun _ => ?_)
  refine hp_iload_n C dJ7_copyOf_6403c_6 rfl ?_
  refine hp_anew C 3 (N := L) rfl (by decide) cl_J7_2 (by decide) dJ7_copyOf_6403c_7 (nI_pos (by omega)) (nI_clamp (by omega)) (by omega) rm.1 rm.2 ?_
  refine hp_goto (tgt := 24) C dJ7_copyOf_6403c_10 (by decide) ?_
  refine hp_astore_n (r := some _) C dJ7_copyOf_6403c_24 (by decide) ?_
  refine hp_aload_nR C dJ7_copyOf_6403c_25 rfl ?_
  refine hp_iconst (v := 0) C dJ7_copyOf_6403c_26 (by decide) ?_
  refine hp_aload_nR C dJ7_copyOf_6403c_27 rfl ?_
  refine hp_iconst (v := 0) C dJ7_copyOf_6403c_28 (by decide) ?_
  refine hp_aload_nR C dJ7_copyOf_6403c_29 rfl ?_
  refine hp_alen C 3 rfl (by decide) dJ7_copyOf_6403c_30 (hi.mkA _ _ _) ?_
  have el : hp_ln (hp_mkA h 3 L .null) e = hp_ln h e := va_up_ne _ _ (Nat.ne_of_lt hlt)
  rw [el]
  refine hp_iload_n C dJ7_copyOf_6403c_31 rfl ?_
  refine hp_mmin (v := nI (hp_ln h e)) C mn_l (by omega) (by simp [Value.category]) dJ7_copyOf_6403c_32 (if_neg (nI_nlt hL (by omega))) ?_
  refine hp_copyR (sp := 0) (dp := 0) C ac_J7_150 (by omega) (hi.mkA _ _ _) (hp_isA hn0 3 _ _) (by rw [el]; omega) ?_ (by omega) (by omega) ?_ (by simp [Value.category]) dJ7_copyOf_6403c_35 ?_
  · show _ ≤ va_up (hp_ln h) (hp_nx h) L (hp_nx h)
    rw [va_up_self]
    omega
  · intro i hi2
    have ea : hp_ar (hp_mkA h 3 L .null) e (0 + i) = hp_ar h e i := by
      rw [Nat.zero_add]
      exact congrFun (va_up_ne _ _ (Nat.ne_of_lt hlt)) i
    rw [ea]
    exact hel.mkA 3 L .null i hi2
  · refine hp_aload_nR C dJ7_copyOf_6403c_38 rfl ?_
    refine hp_aret (r := some _) C hr (Or.inr ⟨_, rfl⟩) dJ7_copyOf_6403c_39 ?_
    exact ⟨rfl, rfl⟩
set_option maxRecDepth 20000 in
set_option maxHeartbeats 4000000 in
theorem kj_cp {l : Launch} {G : hpG} {h : hpT} {d e L : Nat} (hi : hp_is G h e 13) (hL : hp_ln h e ≤ L) (hL2 : L ≤ 1000) (hel : hp_els G h (hp_ar h e) (hp_ln h e)) (rm : hp_nx h + 1 ≤ hp_n0 G + hp_LC ∧ hp_sl h + L ≤ hp_LS) (hd : 2 ≤ d) : hp_C l G yJ7_copyOf_1904c (.code yJ7_copyOf_1904c cJ7_copyOf_1904c 2 (some (.array (.object "java/lang/Object")))) d [.ref e, .int (nI L)] (h) (fun v h' => v = some (.ref (hp_nx h)) ∧ h' = hp_cpy (hp_mkA h 3 L .null) e (hp_nx h) 0 0 (hp_ln h e)) (fun _ _ => False) := by
  refine hp_ofV (by decide) (by simp [Value.category]) (Nat.le_of_ble_eq_true rfl) (fun M C hr hx el => ?_)
  refine hp_aload_nR C dJ7_copyOf_1904c_0 rfl ?_
  refine hp_iload_n C dJ7_copyOf_1904c_1 rfl ?_
  refine hp_aload_nR C dJ7_copyOf_1904c_2 rfl ?_
  refine hp_getC C gc_l (by omega) hi (by simp [Value.category]) dJ7_copyOf_1904c_3 ?_
  refine hp_callS C ml_J7_300 sm_J7_copyOf_6403c (kj_cp3 (d := d - 1) hi hL hL2 hel rm (by omega)) (by omega) dJ7_copyOf_1904c_6 rfl rfl (by simp [Value.category]) (fun v_1 h_1 hp => ?_) (fun _ _ hf => hf.elim)
  obtain ⟨rfl, e_1⟩ := hp
  rw [e_1]
  refine hp_aret (r := some _) C hr (Or.inr ⟨_, rfl⟩) dJ7_copyOf_1904c_9 ?_
  exact ⟨rfl, rfl⟩
/-- the list at r has got a longer array: n of its elements are there -/
def hp_gr (h h' : hpT) (r e n L : Nat) : Prop := hp_nx h' = hp_nx h + 1 ∧ hp_sl h' = hp_sl h + L ∧ (∀ c, hp_kd h' c = va_up (hp_kd h) (hp_nx h) 13 c) ∧ (∀ c, hp_ln h' c = va_up (hp_ln h) (hp_nx h) L c) ∧ (∀ f c, hp_fl h' f c = if f = 1 ∧ c = r then .ref (hp_nx h) else hp_fl h f c) ∧ (∀ c, c ≠ hp_nx h → hp_ar h' c = hp_ar h c) ∧ (∀ i, i < n → hp_ar h' (hp_nx h) i = hp_ar h e i) ∧ n < L ∧ L ≤ 130
theorem hp_gr_fl {h : hpT} {r : Nat} {v : Value} (f c : Nat) : va_up (hp_fl h) 1 (va_up (hp_fl h 1) r v) f c = if f = 1 ∧ c = r then v else hp_fl h f c := by
  by_cases e : f = 1
  · subst e
    rw [va_up_self]
    by_cases e2 : c = r
    · rw [e2, va_up_self, if_pos ⟨rfl, rfl⟩]
    · rw [va_up_ne _ _ e2, if_neg (fun z => e2 z.2)]
  · rw [va_up_ne _ _ e, if_neg (fun z => e z.1)]
set_option maxRecDepth 20000 in
set_option maxHeartbeats 4000000 in
theorem kj_gr {l : Launch} {G : hpG} {h : hpT} {d r e n : Nat} (hi : hp_is G h r 0) (f1 : hp_fl h 1 r = .ref e) (hful : (n = 0 ∧ e = hp_dE G) ∨ (hp_is G h e 13 ∧ hp_ln h e = n)) (hel : hp_els G h (hp_ar h e) n) (hn : n ≤ 79) (rm : hp_nx h + 1 ≤ hp_n0 G + hp_LC ∧ hp_sl h + 130 ≤ hp_LS) (hd : 3 ≤ d) : hp_C l G yJx4a65c_grow_92f84 (.code yJx4a65c_grow_92f84 cJx4a65c_grow_92f84 4 (some (.array (.object "java/lang/Object")))) d [.ref r, .int (nI (n + 1))] (h) (fun v h' => v = some (.ref (hp_nx h)) ∧ ∃ L, hp_gr h h' r e n L) (fun _ _ => False) := by
  refine hp_ofV (by decide) (by simp [Value.category]) (Nat.le_of_ble_eq_true rfl) (fun M C hr hx el => ?_)
  rcases hful with ⟨rfl, rfl⟩ | ⟨hie, rfl⟩
  · refine hp_aload_nR C dJx4a65c_grow_92f84_0 rfl ?_
    refine hp_get C fl_Jx4a65c_9_0 dJx4a65c_grow_92f84_1 hi f1 ?_
    refine hp_alenE C dJx4a65c_grow_92f84_4 ?_
    refine hp_istore_n C dJx4a65c_grow_92f84_5 (by decide) ?_
    refine hp_iload_n C dJx4a65c_grow_92f84_6 rfl ?_
    refine hp_if_gt (tgt := 20) C dJx4a65c_grow_92f84_7 (by decide) (fun z_9 => absurd z_9 (by decide)) (fun _ => ?_)
    refine hp_aload_nR C dJx4a65c_grow_92f84_10 rfl ?_
    refine hp_get C fl_Jx4a65c_9_0 dJx4a65c_grow_92f84_11 hi f1 ?_
    refine hp_gets C gs_Jx4a65c_39 dJx4a65c_grow_92f84_14 ?_
    refine hp_acmp_eq (r := some (hp_dE G)) (q := some (hp_dE G)) (tgt := 45) C dJx4a65c_grow_92f84_17 (by decide) (fun _ => ?_) (fun z_9 => absurd rfl z_9)
    refine hp_aload_nR C dJx4a65c_grow_92f84_45 rfl ?_
    refine hp_bipush (v := 10) C dJx4a65c_grow_92f84_46 (by decide) ?_
    refine hp_iload_n C dJx4a65c_grow_92f84_48 rfl ?_
    refine hp_mmax (v := 10) C mx_Jx4a65c_79 (by omega) (by simp [Value.category]) dJx4a65c_grow_92f84_49 (by decide) ?_
    refine hp_anew C 3 (N := 10) rfl (by decide) cl_Jx4a65c_7 (by decide) dJx4a65c_grow_92f84_52 (by decide) rfl (by decide) rm.1 (by have := rm.2; omega) ?_
    refine hp_dup_x1 C dJx4a65c_grow_92f84_55 rfl rfl ?_
    refine hp_putf C fl_Jx4a65c_9_0 rfl rfl rfl dJx4a65c_grow_92f84_56 (hi.mkA 3 10 .null) ?_
    refine hp_aret (r := some _) C hr (Or.inr ⟨_, rfl⟩) dJx4a65c_grow_92f84_59 ?_
    exact ⟨rfl, 10, rfl, rfl, fun _ => rfl, fun _ => rfl, fun f c => hp_gr_fl f c, fun c hc => va_up_ne _ _ hc, fun i hi => absurd hi (Nat.not_lt_zero _), by decide, by decide⟩
  · have hlt := hie.2.1
    have hge := hie.1
    have hdl := hp_dlt C
    refine hp_aload_nR C dJx4a65c_grow_92f84_0 rfl ?_
    refine hp_get C fl_Jx4a65c_9_0 dJx4a65c_grow_92f84_1 hi f1 ?_
    refine hp_alen C 3 rfl (by decide) dJx4a65c_grow_92f84_4 hie ?_
    refine hp_istore_n C dJx4a65c_grow_92f84_5 (by decide) ?_
    refine hp_iload_n C dJx4a65c_grow_92f84_6 rfl ?_
    refine hp_if_gt (tgt := 20) C dJx4a65c_grow_92f84_7 (by decide) (fun c_7 => ?_) (fun c_7 => ?_)
    · have hsl := rm.2
      refine hp_iload_n C dJx4a65c_grow_92f84_20 rfl ?_
      refine hp_iload_n C dJx4a65c_grow_92f84_21 rfl ?_
      refine hp_iload_n C dJx4a65c_grow_92f84_22 rfl ?_
      refine hp_isub C dJx4a65c_grow_92f84_23 ?_
      rw [k_sub (by omega) (by omega), Nat.add_sub_cancel_left]
      refine hp_iload_n C dJx4a65c_grow_92f84_24 rfl ?_
      refine hp_iconst (v := 1) C dJx4a65c_grow_92f84_25 (by decide) ?_
      refine hp_ishr C dJx4a65c_grow_92f84_26 ?_
      rw [k_shr (by omega)]
      refine hp_callS C ml_Jx4a65c_73 sm_J8_newLength_cabcc (kj_nl (d := d - 1) (q := hp_ln h e) (p := hp_ln h e / 2) (by omega) (by omega) (by omega)) (by omega) dJx4a65c_grow_92f84_27 rfl rfl (by simp [Value.category]) (fun v_27 h_27 hp => ?_) (fun _ _ hf => hf.elim)
      obtain ⟨rfl, e_27⟩ := hp
      rw [e_27]
      have hLL : hp_ln h e < hp_ln h e + max 1 (hp_ln h e / 2) ∧ hp_ln h e + max 1 (hp_ln h e / 2) ≤ 130 := by omega
      generalize hp_ln h e + max 1 (hp_ln h e / 2) = L at hLL ⊢
      refine hp_istore_n C dJx4a65c_grow_92f84_30 (by decide) ?_
      refine hp_aload_nR C dJx4a65c_grow_92f84_31 rfl ?_
      refine hp_aload_nR C dJx4a65c_grow_92f84_32 rfl ?_
      refine hp_get C fl_Jx4a65c_9_0 dJx4a65c_grow_92f84_33 hi f1 ?_
      refine hp_iload_n C dJx4a65c_grow_92f84_36 rfl ?_
      refine hp_callS C ml_Jx4a65c_66 sm_J7_copyOf_1904c (kj_cp (d := d - 1) hie (by omega) (by omega) hel ⟨rm.1, by omega⟩ (by omega)) (by omega) dJx4a65c_grow_92f84_37 rfl rfl (by simp [Value.category]) (fun v_37 h_37 hp => ?_) (fun _ _ hf => hf.elim)
      obtain ⟨rfl, e_37⟩ := hp
      rw [e_37]
      refine hp_dup_x1 C dJx4a65c_grow_92f84_40 rfl rfl ?_
      refine hp_putf C fl_Jx4a65c_9_0 rfl rfl rfl dJx4a65c_grow_92f84_41 (hi.mkA 3 L .null) ?_
      refine hp_aret (r := some _) C hr (Or.inr ⟨_, rfl⟩) dJx4a65c_grow_92f84_44 ?_
      refine ⟨rfl, L, rfl, rfl, fun _ => rfl, fun _ => rfl, fun f c => hp_gr_fl f c, fun c hc => ?_, fun i hi2 => ?_, hLL.1, hLL.2⟩
      · show va_up (va_up (hp_ar h) (hp_nx h) _) (hp_nx h) _ c = _
        rw [va_up_ne _ _ hc, va_up_ne _ _ hc]
      · show va_up (va_up (hp_ar h) (hp_nx h) _) (hp_nx h) (va_cpy (va_up (hp_ar h) (hp_nx h) _ e) _ 0 0 (hp_ln h e)) (hp_nx h) i = _
        rw [va_up_self]
        unfold va_cpy
        rw [if_pos (by omega), va_up_ne _ _ (by omega), Nat.sub_zero, Nat.zero_add]
    · refine hp_aload_nR C dJx4a65c_grow_92f84_10 rfl ?_
      refine hp_get C fl_Jx4a65c_9_0 dJx4a65c_grow_92f84_11 hi f1 ?_
      refine hp_gets C gs_Jx4a65c_39 dJx4a65c_grow_92f84_14 ?_
      refine hp_acmp_eq (r := some e) (q := some (hp_dE G)) (tgt := 45) C dJx4a65c_grow_92f84_17 (by decide) (fun z_9 => absurd (Option.some.inj z_9) (by omega)) (fun _ => ?_)
      have hsl := rm.2
      refine hp_iload_n C dJx4a65c_grow_92f84_20 rfl ?_
      refine hp_iload_n C dJx4a65c_grow_92f84_21 rfl ?_
      refine hp_iload_n C dJx4a65c_grow_92f84_22 rfl ?_
      refine hp_isub C dJx4a65c_grow_92f84_23 ?_
      rw [k_sub (by omega) (by omega), Nat.add_sub_cancel_left]
      refine hp_iload_n C dJx4a65c_grow_92f84_24 rfl ?_
      refine hp_iconst (v := 1) C dJx4a65c_grow_92f84_25 (by decide) ?_
      refine hp_ishr C dJx4a65c_grow_92f84_26 ?_
      rw [k_shr (by omega)]
      refine hp_callS C ml_Jx4a65c_73 sm_J8_newLength_cabcc (kj_nl (d := d - 1) (q := hp_ln h e) (p := hp_ln h e / 2) (by omega) (by omega) (by omega)) (by omega) dJx4a65c_grow_92f84_27 rfl rfl (by simp [Value.category]) (fun v_27 h_27 hp => ?_) (fun _ _ hf => hf.elim)
      obtain ⟨rfl, e_27⟩ := hp
      rw [e_27]
      have hLL : hp_ln h e < hp_ln h e + max 1 (hp_ln h e / 2) ∧ hp_ln h e + max 1 (hp_ln h e / 2) ≤ 130 := by omega
      generalize hp_ln h e + max 1 (hp_ln h e / 2) = L at hLL ⊢
      refine hp_istore_n C dJx4a65c_grow_92f84_30 (by decide) ?_
      refine hp_aload_nR C dJx4a65c_grow_92f84_31 rfl ?_
      refine hp_aload_nR C dJx4a65c_grow_92f84_32 rfl ?_
      refine hp_get C fl_Jx4a65c_9_0 dJx4a65c_grow_92f84_33 hi f1 ?_
      refine hp_iload_n C dJx4a65c_grow_92f84_36 rfl ?_
      refine hp_callS C ml_Jx4a65c_66 sm_J7_copyOf_1904c (kj_cp (d := d - 1) hie (by omega) (by omega) hel ⟨rm.1, by omega⟩ (by omega)) (by omega) dJx4a65c_grow_92f84_37 rfl rfl (by simp [Value.category]) (fun v_37 h_37 hp => ?_) (fun _ _ hf => hf.elim)
      obtain ⟨rfl, e_37⟩ := hp
      rw [e_37]
      refine hp_dup_x1 C dJx4a65c_grow_92f84_40 rfl rfl ?_
      refine hp_putf C fl_Jx4a65c_9_0 rfl rfl rfl dJx4a65c_grow_92f84_41 (hi.mkA 3 L .null) ?_
      refine hp_aret (r := some _) C hr (Or.inr ⟨_, rfl⟩) dJx4a65c_grow_92f84_44 ?_
      refine ⟨rfl, L, rfl, rfl, fun _ => rfl, fun _ => rfl, fun f c => hp_gr_fl f c, fun c hc => ?_, fun i hi2 => ?_, hLL.1, hLL.2⟩
      · show va_up (va_up (hp_ar h) (hp_nx h) _) (hp_nx h) _ c = _
        rw [va_up_ne _ _ hc, va_up_ne _ _ hc]
      · show va_up (va_up (hp_ar h) (hp_nx h) _) (hp_nx h) (va_cpy (va_up (hp_ar h) (hp_nx h) _ e) _ 0 0 (hp_ln h e)) (hp_nx h) i = _
        rw [va_up_self]
        unfold va_cpy
        rw [if_pos (by omega), va_up_ne _ _ (by omega), Nat.sub_zero, Nat.zero_add]
set_option maxRecDepth 20000 in
set_option maxHeartbeats 4000000 in
theorem kj_gr1 {l : Launch} {G : hpG} {h : hpT} {d r e n : Nat} (hi : hp_is G h r 0) (f1 : hp_fl h 1 r = .ref e) (f2 : hp_fl h 2 r = .int (nI n)) (hful : (n = 0 ∧ e = hp_dE G) ∨ (hp_is G h e 13 ∧ hp_ln h e = n)) (hel : hp_els G h (hp_ar h e) n) (hn : n ≤ 79) (rm : hp_nx h + 1 ≤ hp_n0 G + hp_LC ∧ hp_sl h + 130 ≤ hp_LS) (hd : 4 ≤ d) : hp_C l G yJx4a65c_grow_d5877 (.code yJx4a65c_grow_d5877 cJx4a65c_grow_d5877 1 (some (.array (.object "java/lang/Object")))) d [.ref r] (h) (fun v h' => v = some (.ref (hp_nx h)) ∧ ∃ L, hp_gr h h' r e n L) (fun _ _ => False) := by
  refine hp_ofV (by decide) (by simp [Value.category]) (Nat.le_of_ble_eq_true rfl) (fun M C hr hx el => ?_)
  refine hp_aload_nR C dJx4a65c_grow_d5877_0 rfl ?_
  refine hp_aload_nR C dJx4a65c_grow_d5877_1 rfl ?_
  refine hp_get C fl_Jx4a65c_48_0 dJx4a65c_grow_d5877_2 hi f2 ?_
  refine hp_iconst (v := 1) C dJx4a65c_grow_d5877_5 (by decide) ?_
  refine hp_iadd C dJx4a65c_grow_d5877_6 ?_
  rw [nI_1]
  refine hp_callV (ci := 0) C ml_Jx4a65c_69 im_Jx4a65c_grow_92f84 se_Jx4a65c_grow_92f84 rfl (by decide) (kj_gr (d := d - 1) hi f1 hful hel hn rm (by omega)) (by omega) dJx4a65c_grow_d5877_7 hi rfl rfl (by simp [Value.category]) (fun v_1 h_1 hp => ?_) (fun _ _ hf => hf.elim)
  obtain ⟨rfl, L, hg⟩ := hp
  refine hp_aret (r := some _) C hr (Or.inr ⟨_, rfl⟩) dJx4a65c_grow_d5877_10 ?_
  exact ⟨rfl, L, hg⟩
/-- behind an add of x: the list at r with n elements in e had its array (or a longer one), and holds x behind them -/
def hp_ad (G : hpG) (h h' : hpT) (r e n x : Nat) : Prop := ∃ h1 e1, ((h1 = h ∧ e1 = e ∧ hp_is G h e 13 ∧ n < hp_ln h e) ∨ (e1 = hp_nx h ∧ ∃ L, hp_gr h h1 r e n L)) ∧ h' = hp_put (hp_set h1 e1 n (.ref x)) 2 r (.int (nI (n + 1)))
theorem kj_len {M : hpM} {G : hpG} {y : MethodName} {cc : ByteArray} {nL d : Nat} {h0 h : hpT} {Q : State → Prop} {pc : Nat} {lo : Nat → Option Value} {st : List Value} (C : hp_F M G y cc nL d h0) {e n : Nat} (hfu : (n = 0 ∧ e = hp_dE G) ∨ (hp_is G h e 13 ∧ hp_ln h e = n)) (hn : n ≤ 79) (dd : decode cc pc = .ok (.arraylength, 1)) (kk : hp_V M G nL Q h (pc + 1) lo (.int (nI n) :: st)) : hp_V M G nL Q h pc lo (.ref e :: st) := by
  rcases hfu with ⟨rfl, rfl⟩ | ⟨z1, rfl⟩
  · exact hp_alenE C dd kk
  · exact hp_alen C 3 rfl (by decide) dd z1 kk
set_option maxRecDepth 20000 in
set_option maxHeartbeats 4000000 in
theorem kj_ad3 {l : Launch} {G : hpG} {h : hpT} {d r e n x ci : Nat} {cn : String} (hi : hp_is G h r 0) (f1 : hp_fl h 1 r = .ref e) (f2 : hp_fl h 2 r = .int (nI n)) (hE : (n = 0 ∧ e = hp_dE G) ∨ (hp_is G h e 13 ∧ n ≤ hp_ln h e)) (hel : hp_els G h (hp_ar h e) n) (hn : n ≤ 79) (hx1 : hp_is G h x ci) (hx2 : ci < 10) (hx3 : (vwCl[ci]?).map (fun r => r.1) = some cn) (hx4 : Cond.castable cn "java/lang/Object" ∈ hp_ow) (rm : hp_nx h + 1 ≤ hp_n0 G + hp_LC ∧ hp_sl h + 130 ≤ hp_LS) (hd : 5 ≤ d) : hp_C l G yJx4a65c_add_72be8 (.code yJx4a65c_add_72be8 cJx4a65c_add_72be8 4 none) d [.ref r, .ref x, .ref e, .int (nI n)] (h) (fun v h' => v = none ∧ hp_ad G h h' r e n x) (fun _ _ => False) := by
  refine hp_ofV (by decide) (by simp [Value.category]) (Nat.le_of_ble_eq_true rfl) (fun M C hr hx el => ?_)
  by_cases hfu : (n = 0 ∧ e = hp_dE G) ∨ (hp_is G h e 13 ∧ hp_ln h e = n)
  · refine hp_iload_n C dJx4a65c_add_72be8_0 rfl ?_
    refine hp_aload_nR C dJx4a65c_add_72be8_1 rfl ?_
    refine kj_len C hfu hn dJx4a65c_add_72be8_2 ?_
    refine hp_icmp_ne (tgt := 11) C dJx4a65c_add_72be8_3 (by decide) (fun z_9 => absurd rfl z_9) (fun _ => ?_)
    refine hp_aload_nR C dJx4a65c_add_72be8_6 rfl ?_
    refine hp_callV (ci := 0) C ml_Jx4a65c_129 im_Jx4a65c_grow_d5877 se_Jx4a65c_grow_d5877 rfl (by decide) (kj_gr1 (d := d - 1) hi f1 f2 hfu hel hn rm (by omega)) (by omega) dJx4a65c_add_72be8_7 hi rfl rfl (by simp [Value.category]) (fun v_7 h_7 hp => ?_) (fun _ _ hf => hf.elim)
    obtain ⟨rfl, L, hg⟩ := hp
    have hg' := hg
    obtain ⟨g1, g2, g3, g4, g5, g6, g7, g8, g9⟩ := hg
    have hn0 : hp_n0 G ≤ hp_nx h := by have := hi.1; have := hi.2.1; omega
    have isr : hp_is G h_7 r 0 := ⟨hi.1, by rw [g1]; have := hi.2.1; omega, by rw [g3, va_up_ne _ _ (by have := hi.2.1; omega)]; exact hi.2.2⟩
    have isx : hp_is G h_7 x ci := ⟨hx1.1, by rw [g1]; have := hx1.2.1; omega, by rw [g3, va_up_ne _ _ (by have := hx1.2.1; omega)]; exact hx1.2.2⟩
    have ise : hp_is G h_7 (hp_nx h) 13 := ⟨hn0, by rw [g1]; omega, by rw [g3, va_up_self]⟩
    refine hp_astore_n (r := some _) C dJx4a65c_add_72be8_10 (by decide) ?_
    refine hp_aload_nR C dJx4a65c_add_72be8_11 rfl ?_
    refine hp_iload_n C dJx4a65c_add_72be8_12 rfl ?_
    refine hp_aload_nR C dJx4a65c_add_72be8_13 rfl ?_
    refine hp_aast C 3 ci rfl (by decide) hx4 hx3 hx2 dJx4a65c_add_72be8_14 ise isx (nI_in (by rw [g4, va_up_self]; exact g8) (by rw [g4, va_up_self]; omega)) ?_
    rw [nI_clamp (by omega)]
    refine hp_aload_nR C dJx4a65c_add_72be8_15 rfl ?_
    refine hp_iload_n C dJx4a65c_add_72be8_16 rfl ?_
    refine hp_iconst (v := 1) C dJx4a65c_add_72be8_17 (by decide) ?_
    refine hp_iadd C dJx4a65c_add_72be8_18 ?_
    rw [nI_1]
    refine hp_putf C fl_Jx4a65c_48_0 rfl rfl rfl dJx4a65c_add_72be8_19 isr ?_
    refine hp_vret C hr dJx4a65c_add_72be8_22 ?_
    exact ⟨rfl, h_7, hp_nx h, Or.inr ⟨rfl, L, hg'⟩, rfl⟩
  · have hE2 : hp_is G h e 13 ∧ n < hp_ln h e := by
      rcases hE with z | z
      · exact absurd (Or.inl z) hfu
      · exact ⟨z.1, by have : ¬ hp_ln h e = n := fun q => hfu (Or.inr ⟨z.1, q⟩); have := z.2; omega⟩
    refine hp_lnb (t := 3) hE2.1 (by omega) (fun hx5' => ?_)
    have hx5 : hp_ln h e < 2 ^ 31 := Nat.lt_of_le_of_lt hx5' (by decide)
    refine hp_iload_n C dJx4a65c_add_72be8_0 rfl ?_
    refine hp_aload_nR C dJx4a65c_add_72be8_1 rfl ?_
    refine hp_alen C 3 rfl (by decide) dJx4a65c_add_72be8_2 hE2.1 ?_
    refine hp_icmp_ne (tgt := 11) C dJx4a65c_add_72be8_3 (by decide) (fun _ => ?_) (fun z_9 => absurd ((nI_eq (by omega) (by omega)).mp z_9) (by have := hE2.2; omega))
    refine hp_aload_nR C dJx4a65c_add_72be8_11 rfl ?_
    refine hp_iload_n C dJx4a65c_add_72be8_12 rfl ?_
    refine hp_aload_nR C dJx4a65c_add_72be8_13 rfl ?_
    refine hp_aast C 3 ci rfl (by decide) hx4 hx3 hx2 dJx4a65c_add_72be8_14 hE2.1 hx1 (nI_in hE2.2 hx5) ?_
    rw [nI_clamp (by omega)]
    refine hp_aload_nR C dJx4a65c_add_72be8_15 rfl ?_
    refine hp_iload_n C dJx4a65c_add_72be8_16 rfl ?_
    refine hp_iconst (v := 1) C dJx4a65c_add_72be8_17 (by decide) ?_
    refine hp_iadd C dJx4a65c_add_72be8_18 ?_
    rw [nI_1]
    refine hp_putf C fl_Jx4a65c_48_0 rfl rfl rfl dJx4a65c_add_72be8_19 hi ?_
    refine hp_vret C hr dJx4a65c_add_72be8_22 ?_
    exact ⟨rfl, h, e, Or.inl ⟨rfl, rfl, hE2.1, hE2.2⟩, rfl⟩
set_option maxRecDepth 20000 in
set_option maxHeartbeats 4000000 in
theorem kj_add {l : Launch} {G : hpG} {h : hpT} {d r e n x ci : Nat} {cn : String} {mc : Int32} (f0 : hp_fl h 0 r = .int mc) (hi : hp_is G h r 0) (f1 : hp_fl h 1 r = .ref e) (f2 : hp_fl h 2 r = .int (nI n)) (hE : (n = 0 ∧ e = hp_dE G) ∨ (hp_is G h e 13 ∧ n ≤ hp_ln h e)) (hel : hp_els G h (hp_ar h e) n) (hn : n ≤ 79) (hx1 : hp_is G h x ci) (hx2 : ci < 10) (hx3 : (vwCl[ci]?).map (fun r => r.1) = some cn) (hx4 : Cond.castable cn "java/lang/Object" ∈ hp_ow) (rm : hp_nx h + 1 ≤ hp_n0 G + hp_LC ∧ hp_sl h + 130 ≤ hp_LS) (hd : 6 ≤ d) : hp_C l G yJx4a65c_add_9ea2d (.code yJx4a65c_add_9ea2d cJx4a65c_add_9ea2d 2 (some .boolean)) d [.ref r, .ref x] (h) (fun v h' => v = some (.int 1) ∧ hp_ad G (hp_put h 0 r (.int (mc + 1))) h' r e n x) (fun _ _ => False) := by
  refine hp_ofV (by decide) (by simp [Value.category]) (Nat.le_of_ble_eq_true rfl) (fun M C hr hx el => ?_)
  refine hp_aload_nR C dJx4a65c_add_9ea2d_0 rfl ?_
  refine hp_dup C dJx4a65c_add_9ea2d_1 rfl ?_
  refine hp_get C fl_Jx4a65c_63_0 dJx4a65c_add_9ea2d_2 hi f0 ?_
  refine hp_iconst (v := 1) C dJx4a65c_add_9ea2d_5 (by decide) ?_
  refine hp_iadd C dJx4a65c_add_9ea2d_6 ?_
  refine hp_putf C fl_Jx4a65c_63_0 rfl rfl rfl dJx4a65c_add_9ea2d_7 hi ?_
  have p1 : hp_fl (hp_put h 0 r (.int (mc + 1))) 1 r = .ref e := f1
  have p2 : hp_fl (hp_put h 0 r (.int (mc + 1))) 2 r = .int (nI n) := f2
  refine hp_aload_nR C dJx4a65c_add_9ea2d_10 rfl ?_
  refine hp_aload_nR C dJx4a65c_add_9ea2d_11 rfl ?_
  refine hp_aload_nR C dJx4a65c_add_9ea2d_12 rfl ?_
  refine hp_get C fl_Jx4a65c_9_0 dJx4a65c_add_9ea2d_13 hi p1 ?_
  refine hp_aload_nR C dJx4a65c_add_9ea2d_16 rfl ?_
  refine hp_get C fl_Jx4a65c_48_0 dJx4a65c_add_9ea2d_17 hi p2 ?_
  refine hp_callV (ci := 0) C ml_Jx4a65c_131 im_Jx4a65c_add_72be8 se_Jx4a65c_add_72be8 rfl (by decide) (kj_ad3 (d := d - 1) hi p1 p2 hE hel hn hx1 hx2 hx3 hx4 rm (by omega)) (by omega) dJx4a65c_add_9ea2d_20 hi rfl rfl (by simp [Value.category]) (fun v_1 h_1 hp => ?_) (fun _ _ hf => hf.elim)
  obtain ⟨rfl, hg⟩ := hp
  refine hp_iconst (v := 1) C dJx4a65c_add_9ea2d_23 (by decide) ?_
  refine hp_iret C hr (by decide) dJx4a65c_add_9ea2d_24 ?_
  exact ⟨rfl, hg⟩
/-! ===== a node is made ===== -/
/-- node mk, of numbers v, joins keeper p's row -/
def a_add (p : Nat) (v : Nat → Int) (a : aS) : aS := (a_mk a + 1, a_tm a, a_rs a, a_gv a, (fun f m => if m = a_mk a then v f else a_nd a f m), va_up (va_up (a_rw a) (a_mk a) []) p (a_rw a p ++ [a_mk a]), va_up (a_rt a) (a_mk a) [], a_ev a)
/-- where things lie then -/
def k_nw (κ : kS) (nw : Nat → Nat) (n p e : Nat) (mc : Int32) : kS := ((fun r m => if r ≤ 4 ∧ m = n then nw r else if r = 2 ∧ m = p then e else κ.1 r m), va_up (va_up κ.2.1 n 0) p mc, va_up κ.2.2 n [])
section KRJ
variable {G : hpG} {pr : Nat → Prop} {B : hpT} {N S : Nat} {h : hpT} {κ : kS} {a : aS}
theorem KR.join (K : KR G pr B N S h κ a) (T : a_T a) (hd : hp_dE G < hp_n0 G) {p : Nat} (hp : p < a_mk a) (hpk : a_nd a 0 p = 1) (h1k : 1 ≤ a_mk a) {v : Nat → Int} (hv : v 0 = 0 ∨ v 0 = 1) {H : hpT} {nw : Nat → Nat} {e : Nat} {mc : Int32} {N' S' : Nat}
    (c1 : hp_nx h ≤ hp_nx H) (c2 : ∀ b, b < hp_nx h → hp_kd H b = hp_kd h b ∧ hp_ln H b = hp_ln h b)
    (c3 : ∀ f b, b < hp_nx h → ¬ (b = κ.1 1 p ∧ f < 3) → ¬ (b = κ.1 5 0 ∧ f = 163) → hp_fl H f b = hp_fl h f b)
    (c4 : hp_fl H 0 (κ.1 1 p) = .int mc ∧ hp_fl H 1 (κ.1 1 p) = .ref e ∧ hp_fl H 2 (κ.1 1 p) = .int (nI ((a_rw a p).length + 1)) ∧ hp_fl H 163 (κ.1 5 0) = .int (nI (a_mk a + 1)))
    (c5 : ∀ b, b < hp_nx h → b ≠ κ.1 5 7 → b ≠ e → hp_ar H b = hp_ar h b) (c6 : ∀ i, i ≠ a_mk a → hp_ar H (κ.1 5 7) i = hp_ar h (κ.1 5 7) i) (c7 : hp_ar H (κ.1 5 7) (a_mk a) = .ref (nw 0))
    (c8 : (e = κ.1 2 p ∧ hp_n0 G ≤ e ∧ k_is G pr h e 13) ∨ hp_nx h ≤ e) (c9 : k_is G pr H e 13 ∧ (a_rw a p).length + 1 ≤ hp_ln H e) (c10 : ∀ i, i < (a_rw a p).length → hp_ar H e i = .ref (κ.1 0 ((a_rw a p).getD i 0))) (c11 : hp_ar H e (a_rw a p).length = .ref (nw 0))
    (c12 : hp_nx h ≤ nw 0 ∧ k_is G pr H (nw 0) (if v 0 = 0 then 4 else 2)) (c13 : v 0 = 1 → (hp_nx h ≤ nw 1 ∧ k_is G pr H (nw 1) 0) ∧ nw 2 = hp_dE G ∧ (hp_nx h ≤ nw 3 ∧ k_is G pr H (nw 3) 3) ∧ (hp_nx h ≤ nw 4 ∧ k_is G pr H (nw 4) 10) ∧ 2 ≤ hp_ln H (nw 4) ∧ hp_ln H (nw 4) ≤ 16777216)
    (c14 : ∀ f, k_ok (a_add p v a) f (a_mk a) → hp_fl H f (k_at (k_nw κ nw (a_mk a) p e mc) f (a_mk a)) = k_fv (k_nw κ nw (a_mk a) p e mc) (a_add p v a) f (a_mk a))
    (hN : hp_nx H ≤ N') (hS : hp_sl H + S ≤ S' + hp_sl h) : KR G pr B N' S' H (k_nw κ nw (a_mk a) p e mc) (a_add p v a) := by
  have hpn : p ≠ a_mk a := Nat.ne_of_lt hp
  have g5 : (k_nw κ nw (a_mk a) p e mc).1 5 = κ.1 5 := by
    funext m
    show (if 5 ≤ 4 ∧ m = a_mk a then nw 5 else if 5 = 2 ∧ m = p then e else κ.1 5 m) = _
    rw [if_neg (by omega), if_neg (by omega)]
  have gn : ∀ r, r ≤ 4 → (k_nw κ nw (a_mk a) p e mc).1 r (a_mk a) = nw r := fun r hr => if_pos ⟨hr, rfl⟩
  have gp : (k_nw κ nw (a_mk a) p e mc).1 2 p = e := by
    show (if 2 ≤ 4 ∧ p = a_mk a then nw 2 else if 2 = 2 ∧ p = p then e else κ.1 2 p) = _
    rw [if_neg (fun z => hpn z.2), if_pos ⟨rfl, rfl⟩]
  have gm : ∀ r m, m ≠ a_mk a → (r = 2 → m ≠ p) → (k_nw κ nw (a_mk a) p e mc).1 r m = κ.1 r m := fun r m hm h2 => by
    show (if r ≤ 4 ∧ m = a_mk a then nw r else if r = 2 ∧ m = p then e else κ.1 r m) = _
    rw [if_neg (fun z => hm z.2), if_neg (fun z => h2 z.1 z.2)]
  have nn : ∀ f, a_nd (a_add p v a) f (a_mk a) = v f := fun f => if_pos rfl
  have nm : ∀ f m, m ≠ a_mk a → a_nd (a_add p v a) f m = a_nd a f m := fun f m hm => if_neg hm
  have rn : a_rw (a_add p v a) (a_mk a) = [] := by
    show va_up (va_up (a_rw a) (a_mk a) []) p _ (a_mk a) = []
    rw [va_up_ne _ _ (Ne.symm hpn), va_up_self]
  have rp : a_rw (a_add p v a) p = a_rw a p ++ [a_mk a] := va_up_self _ _ _
  have rm : ∀ m, m ≠ a_mk a → m ≠ p → a_rw (a_add p v a) m = a_rw a m := fun m h1 h2 => by
    show va_up (va_up (a_rw a) (a_mk a) []) p _ m = _
    rw [va_up_ne _ _ h2, va_up_ne _ _ h1]
  have tn : (k_nw κ nw (a_mk a) p e mc).2.2 (a_mk a) = [] := va_up_self _ _ _
  have tm : ∀ m, m ≠ a_mk a → (k_nw κ nw (a_mk a) p e mc).2.2 m = κ.2.2 m := fun m hm => va_up_ne _ _ hm
  have lt : ∀ m, m < a_mk (a_add p v a) → m = a_mk a ∨ m < a_mk a := fun m hm => by
    have : m < a_mk a + 1 := hm
    omega
  have is : ∀ b k, k_is G pr h b k → k_is G pr H b k := fun b k z => ⟨⟨z.1.1, Nat.lt_of_lt_of_le z.1.2.1 c1, by rw [(c2 b z.1.2.1).1]; exact z.1.2.2⟩, z.2⟩
  have ek : ∀ (r m : Nat), k_rok G κ a r m → κ.1 r m = e → r = 2 ∧ m = p := fun r m ok ee => by
    rcases c8 with c | c
    · exact K.dis hd ok (Or.inl ⟨rfl, hp, hpk, by rw [← c.1]; exact c.2.1⟩) (ee.trans c.1)
    · have := (K.rkd hd ok).1.2.1
      omega
  refine ⟨⟨fun m hm => ?_, fun m hm hkm => ?_, by rw [g5]; exact is _ _ K.1.2.2.1, by rw [g5]; exact is _ _ K.1.2.2.2.1, by rw [g5]; exact ⟨is _ _ K.1.2.2.2.2.1.1, (c2 _ K.1.2.2.2.2.1.1.1.2.1).2.trans K.1.2.2.2.2.1.2⟩, fun j hj => by rw [g5]; exact ⟨is _ _ (K.1.2.2.2.2.2.1 j hj).1, (c2 _ (K.1.2.2.2.2.2.1 j hj).1.1.2.1).2.trans (K.1.2.2.2.2.2.1 j hj).2⟩, by rw [g5]; exact ⟨is _ _ K.1.2.2.2.2.2.2.1, (c2 _ K.1.2.2.2.2.2.2.1.1.2.1).2.trans K.1.2.2.2.2.2.2.2⟩⟩, ⟨fun q m hq hm ee => ?_, fun r q m hr hq hm hkq hkm ee => ?_, fun m j hm hkm hj => ?_, by rw [g5]; exact K.2.1.2.2.2⟩, fun f m ok => ?_, fun r m i ok => ?_, fun c hc => ?_, ⟨hN, ?_⟩, fun m hm hkm => ?_⟩
  · rcases lt m hm with rfl | hm
    · rw [gn 0 (by decide), nn]; exact c12.2
    · have hmn : m ≠ a_mk a := Nat.ne_of_lt hm
      rw [gm 0 m hmn (fun z => by omega), nm 0 m hmn]
      exact is _ _ (K.1.1 m hm)
  · rcases lt m hm with rfl | hm
    · rw [nn] at hkm
      obtain ⟨d1, d2, d3, d4, d5⟩ := c13 hkm
      rw [gn 1 (by decide), gn 2 (by decide), gn 3 (by decide), gn 4 (by decide), tn, rn]
      exact ⟨d1.2, d3.2, d4.2, ⟨Nat.zero_le _, d5⟩, Or.inl ⟨rfl, d2⟩⟩
    · have hmn : m ≠ a_mk a := Nat.ne_of_lt hm
      rw [nm 0 m hmn] at hkm
      obtain ⟨z1, z2, z3, z4, z5⟩ := K.1.2.1 m hm hkm
      rw [gm 1 m hmn (fun z => by omega), gm 3 m hmn (fun z => by omega), gm 4 m hmn (fun z => by omega), tm m hmn]
      refine ⟨is _ _ z1, is _ _ z2, is _ _ z3, by rw [(c2 _ z3.1.2.1).2]; exact z4, ?_⟩
      by_cases em : m = p
      · subst em
        rw [gp, rp, List.length_append]
        exact Or.inr c9
      · rw [gm 2 m hmn (fun _ => em), rm m hmn em]
        rcases z5 with z5 | z5
        · exact Or.inl z5
        · exact Or.inr ⟨is _ _ z5.1, by rw [(c2 _ z5.1.1.2.1).2]; exact z5.2⟩
  · rcases lt q hq with rfl | hq
    · rcases lt m hm with rfl | hm
      · rfl
      · rw [gn 0 (by decide), gm 0 m (Nat.ne_of_lt hm) (fun z => by omega)] at ee
        have := (K.1.1 m hm).1.2.1
        omega
    · rcases lt m hm with rfl | hm
      · rw [gn 0 (by decide), gm 0 q (Nat.ne_of_lt hq) (fun z => by omega)] at ee
        have := (K.1.1 q hq).1.2.1
        omega
      · rw [gm 0 q (Nat.ne_of_lt hq) (fun z => by omega), gm 0 m (Nat.ne_of_lt hm) (fun z => by omega)] at ee
        exact K.2.1.1 q m hq hm ee
  · have old : ∀ q, q < a_mk a → a_nd a 0 q = 1 → (r = 1 ∨ r = 3 ∨ r = 4) → κ.1 r q < hp_nx h := fun q hq hkq hr => by
      obtain ⟨z1, z2, z3, -, -⟩ := K.1.2.1 q hq hkq
      rcases hr with rfl | rfl | rfl
      · exact z1.1.2.1
      · exact z2.1.2.1
      · exact z3.1.2.1
    have new : v 0 = 1 → (r = 1 ∨ r = 3 ∨ r = 4) → hp_nx h ≤ nw r := fun hv1 hr => by
      obtain ⟨d1, d2, d3, d4, d5⟩ := c13 hv1
      rcases hr with rfl | rfl | rfl
      · exact d1.1
      · exact d3.1
      · exact d4.1
    by_cases er : r = 2
    · subst er
      have hge : hp_n0 G ≤ (k_nw κ nw (a_mk a) p e mc).1 2 q := by
        rcases hr with z | z | z | z
        · omega
        · omega
        · omega
        · exact z.2
      rcases lt q hq with rfl | hq'
      · rw [nn] at hkq
        rw [gn 2 (by decide), (c13 hkq).2.1] at hge
        omega
      · have hqn : q ≠ a_mk a := Nat.ne_of_lt hq'
        rw [nm 0 q hqn] at hkq
        rcases lt m hm with rfl | hm'
        · rw [nn] at hkm
          rw [ee, gn 2 (by decide), (c13 hkm).2.1] at hge
          omega
        · have hmn : m ≠ a_mk a := Nat.ne_of_lt hm'
          rw [nm 0 m hmn] at hkm
          by_cases eq : q = p
          · by_cases em : m = p
            · rw [eq, em]
            · subst eq
              rw [gp, gm 2 m hmn (fun _ => em)] at ee
              rw [gp] at hge
              exact absurd (ek 2 m (Or.inl ⟨rfl, hm', hkm, by rw [← ee]; exact hge⟩) ee.symm).2 em
          · by_cases em : m = p
            · subst em
              rw [gp, gm 2 q hqn (fun _ => eq)] at ee
              rw [gm 2 q hqn (fun _ => eq)] at hge
              exact absurd (ek 2 q (Or.inl ⟨rfl, hq', hkq, hge⟩) ee).2 eq
            · rw [gm 2 q hqn (fun _ => eq), gm 2 m hmn (fun _ => em)] at ee
              rw [gm 2 q hqn (fun _ => eq)] at hge
              exact K.2.1.2.1 2 q m (Or.inr (Or.inr (Or.inr ⟨rfl, hge⟩))) hq' hm' hkq hkm ee
    · have hr' : r = 1 ∨ r = 3 ∨ r = 4 := by
        rcases hr with z | z | z | z
        · exact Or.inl z
        · exact Or.inr (Or.inl z)
        · exact Or.inr (Or.inr z)
        · exact absurd z.1 er
      have hr4 : r ≤ 4 := by omega
      rcases lt q hq with rfl | hq
      · rcases lt m hm with rfl | hm
        · rfl
        · have hmn : m ≠ a_mk a := Nat.ne_of_lt hm
          rw [nn] at hkq
          rw [nm 0 m hmn] at hkm
          rw [gn r hr4, gm r m hmn (fun z => absurd z er)] at ee
          have := old m hm hkm hr'
          have := new hkq hr'
          omega
      · have hqn : q ≠ a_mk a := Nat.ne_of_lt hq
        rw [nm 0 q hqn] at hkq
        rcases lt m hm with rfl | hm
        · rw [nn] at hkm
          rw [gn r hr4, gm r q hqn (fun z => absurd z er)] at ee
          have := old q hq hkq hr'
          have := new hkm hr'
          omega
        · have hmn : m ≠ a_mk a := Nat.ne_of_lt hm
          rw [nm 0 m hmn] at hkm
          rw [gm r q hqn (fun z => absurd z er), gm r m hmn (fun z => absurd z er)] at ee
          exact K.2.1.2.1 r q m (by rcases hr' with z | z | z <;> first | exact Or.inl z | exact Or.inr (Or.inl z) | exact Or.inr (Or.inr (Or.inl z))) hq hm hkq hkm ee
  · rw [g5]
    rcases lt m hm with rfl | hm
    · rw [nn] at hkm
      rw [gn 4 (by decide)]
      have := (c13 hkm).2.2.2.1.1
      have := (K.isc hj).1.2.1
      omega
    · have hmn : m ≠ a_mk a := Nat.ne_of_lt hm
      rw [nm 0 m hmn] at hkm
      rw [gm 4 m hmn (fun z => by omega)]
      exact K.2.1.2.2.1 m j hm hkm hj
  · by_cases em : m = a_mk a
    · subst em; exact c14 f ok
    · have ok' : k_ok a f m := by
        rcases ok with ⟨z1, z2, z3⟩ | z | ⟨z1, z2, z3⟩ | ⟨z1, z2, z3, z4⟩ | ⟨z1, z2, z3, z4⟩ | ⟨z1, z2, z3, z4⟩ | z
        · exact Or.inl ⟨z1, (lt m z2).resolve_left em, by rw [nm 0 m em] at z3; exact z3⟩
        · exact Or.inr (Or.inl z)
        · exact Or.inr (Or.inr (Or.inl ⟨z1, z2, (lt m z3).resolve_left em⟩))
        · exact Or.inr (Or.inr (Or.inr (Or.inl ⟨z1, z2, (lt m z3).resolve_left em, by rw [nm 0 m em] at z4; exact z4⟩)))
        · exact Or.inr (Or.inr (Or.inr (Or.inr (Or.inl ⟨z1, z2, (lt m z3).resolve_left em, by rw [nm 0 m em] at z4; exact z4⟩))))
        · exact Or.inr (Or.inr (Or.inr (Or.inr (Or.inr (Or.inl ⟨z1, z2, (lt m z3).resolve_left em, by rw [nm 0 m em] at z4; exact z4⟩)))))
        · exact Or.inr (Or.inr (Or.inr (Or.inr (Or.inr (Or.inr z)))))
      have ea : k_at (k_nw κ nw (a_mk a) p e mc) f m = k_at κ f m := by
        unfold k_at
        rw [gm 1 m em (fun z => by omega), g5, gm 0 m em (fun z => by omega), gm 3 m em (fun z => by omega)]
      rw [ea]
      have hlt := K.ltA ok'
      by_cases e3 : f < 3
      · have hm : m < a_mk a ∧ a_nd a 0 m = 1 := by
          rcases ok' with ⟨-, z2, z3⟩ | ⟨z1, -⟩ | ⟨z1, -⟩ | ⟨z1, -⟩ | ⟨z1, -⟩ | ⟨z1, -⟩ | ⟨z1, -⟩ <;> first | exact ⟨z2, z3⟩ | omega
        by_cases ep : m = p
        · subst ep
          have q3 : f = 0 ∨ f = 1 ∨ f = 2 := by omega
          rcases q3 with rfl | rfl | rfl
          · show hp_fl H 0 (κ.1 1 m) = Value.int (va_up (va_up κ.2.1 (a_mk a) 0) m mc m)
            rw [va_up_self]; exact c4.1
          · show hp_fl H 1 (κ.1 1 m) = Value.ref ((k_nw κ nw (a_mk a) m e mc).1 2 m)
            rw [gp]; exact c4.2.1
          · show hp_fl H 2 (κ.1 1 m) = Value.int (nI (a_rw (a_add m v a) m).length)
            rw [rp, List.length_append]; exact c4.2.2.1
        · have hne : ¬ (k_at κ f m = κ.1 1 p ∧ f < 3) := fun z => ep (by
            have z1 : κ.1 1 m = κ.1 1 p := by
              have := z.1
              unfold k_at at this
              rwa [if_pos e3] at this
            exact K.2.1.2.1 1 m p (Or.inl rfl) hm.1 hp hm.2 hpk z1)
          rw [c3 f _ hlt hne (fun z => by omega), K.V f m ok']
          have q3 : f = 0 ∨ f = 1 ∨ f = 2 := by omega
          rcases q3 with rfl | rfl | rfl
          · show Value.int (κ.2.1 m) = Value.int (va_up (va_up κ.2.1 (a_mk a) 0) p mc m)
            rw [va_up_ne _ _ ep, va_up_ne _ _ em]
          · show Value.ref (κ.1 2 m) = Value.ref ((k_nw κ nw (a_mk a) p e mc).1 2 m)
            rw [gm 2 m em (fun _ => ep)]
          · show Value.int (nI (a_rw a m).length) = Value.int (nI (a_rw (a_add p v a) m).length)
            rw [rm m em ep]
      · by_cases e6 : f = 163
        · subst e6
          exact c4.2.2.2
        · rw [c3 f _ hlt (fun z => e3 z.2) (fun z => e6 z.2), K.V f m ok']
          unfold k_fv
          by_cases en : k_isN f = true
          · rw [if_pos en, if_pos en, nm _ m em]
          · rw [if_neg en, if_neg en]
            have e0 : ¬ f = 0 := by omega
            have e1 : ¬ f = 1 := by omega
            have e2 : ¬ f = 2 := by omega
            have q5 : ∀ i, (k_nw κ nw (a_mk a) p e mc).1 5 i = κ.1 5 i := fun i => congrFun g5 i
            by_cases e65 : f = 65
            · subst e65
              have hmk : m < a_mk a := by
                rcases ok' with ⟨z1, -⟩ | ⟨-, z1, -⟩ | ⟨-, -, z3⟩ | ⟨z1, -⟩ | ⟨z1, -⟩ | ⟨z1, -⟩ | ⟨z1, -⟩ <;> first | exact z3 | omega
              show va_rf (if m = 0 then none else some (κ.1 0 (a_nd a 1 m).toNat)) = va_rf (if m = 0 then none else some ((k_nw κ nw (a_mk a) p e mc).1 0 (a_nd (a_add p v a) 1 m).toNat))
              rw [nm 1 m em]
              by_cases m0 : m = 0
              · rw [if_pos m0, if_pos m0]
              · have := T.r1 hmk m0
                rw [gm 0 _ (by omega) (fun z => by omega)]
            · unfold k_fo
              simp only [e0, e1, e2, e6, e65, if_false, q5, gm 1 m em (fun z => by omega), gm 3 m em (fun z => by omega), gm 4 m em (fun z => by omega), gm 0 0 (by omega) (fun z => by omega), tm m em]
              rfl
  · by_cases e7 : r = 5 ∧ m = 7
    · obtain ⟨rfl, rfl⟩ := e7
      have hi : i < 80 := by
        rcases ok with ⟨z, -⟩ | ⟨z, -⟩ | ⟨-, z, -⟩ | ⟨-, -, z, -⟩ | ⟨-, -, z⟩ <;> omega
      rw [g5]
      show hp_ar H (κ.1 5 7) i = va_rf (if i < a_mk a + 1 then some ((k_nw κ nw (a_mk a) p e mc).1 0 i) else none)
      by_cases ei : i = a_mk a
      · subst ei
        rw [c7, if_pos (Nat.lt_succ_self _), gn 0 (by decide)]
        rfl
      · rw [c6 i ei, K.nod hi, gm 0 i ei (fun z => by omega)]
        by_cases e8 : i < a_mk a
        · rw [if_pos e8, if_pos (by omega)]
        · rw [if_neg e8, if_neg (by omega)]
    · by_cases e2 : r = 2 ∧ m = p
      · obtain ⟨rfl, rfl⟩ := e2
        have hi : i < (a_rw a m).length + 1 := by
          rcases ok with ⟨-, -, -, z⟩ | ⟨z, -⟩ | ⟨z, -⟩ | ⟨z, -⟩ | ⟨z, -⟩ <;> first | (rw [rp, List.length_append] at z; exact z) | omega
        rw [gp]
        show hp_ar H e i = Value.ref ((k_nw κ nw (a_mk a) m e mc).1 0 ((a_rw (a_add m v a) m).getD i 0))
        rw [rp]
        by_cases ei : i = (a_rw a m).length
        · subst ei
          rw [c11, List.getD_eq_getElem?_getD, List.getElem?_append_right (Nat.le_refl _), Nat.sub_self]
          show Value.ref (nw 0) = Value.ref ((k_nw κ nw (a_mk a) m e mc).1 0 (a_mk a))
          rw [gn 0 (by decide)]
        · have hil : i < (a_rw a m).length := by omega
          rw [c10 i hil, List.getD_eq_getElem?_getD (l := a_rw a m ++ _), List.getElem?_append_left hil, ← List.getD_eq_getElem?_getD]
          have := (T.rc hp (k_rc T hp hil)).1
          rw [gm 0 _ (by omega) (fun z => by omega)]
      · have hm0 : r = 2 ∨ r = 4 → m ≠ a_mk a := fun hr em => by
          subst em
          rcases ok with ⟨rfl, z2, z3, z4⟩ | ⟨rfl, z2, z3, z4⟩ | ⟨z1, -⟩ | ⟨z1, -⟩ | ⟨z1, -⟩
          · rw [rn] at z4; cases z4
          · have z4' : i < ((k_nw κ nw (a_mk a) p e mc).2.2 (a_mk a)).length := z4
            rw [tn] at z4'; cases z4'
          · omega
          · omega
          · omega
        have ok' : k_aok κ a r m i := by
          rcases ok with ⟨z1, z2, z3, z4⟩ | ⟨z1, z2, z3, z4⟩ | z | z | z
          · have em := hm0 (Or.inl z1)
            exact Or.inl ⟨z1, (lt m z2).resolve_left em, by rw [nm 0 m em] at z3; exact z3, by rw [rm m em (fun z => e2 ⟨z1, z⟩)] at z4; exact z4⟩
          · have em := hm0 (Or.inr z1)
            refine Or.inr (Or.inl ⟨z1, (lt m z2).resolve_left em, by rw [nm 0 m em] at z3; exact z3, ?_⟩)
            have z4' : i < ((k_nw κ nw (a_mk a) p e mc).2.2 m).length := z4
            rw [tm m em] at z4'; exact z4'
          · exact Or.inr (Or.inr (Or.inl z))
          · exact Or.inr (Or.inr (Or.inr (Or.inl z)))
          · exact Or.inr (Or.inr (Or.inr (Or.inr z)))
        have rk := K.rok ok'
        have hg : (k_nw κ nw (a_mk a) p e mc).1 r m = κ.1 r m := by
          by_cases e5 : r = 5
          · subst e5; rw [g5]
          · have hr : r = 2 ∨ r = 4 := by rcases rk with z | z | z | z | z <;> omega
            exact gm r m (hm0 hr) (fun z1 z2 => e2 ⟨z1, z2⟩)
        have hne7 : κ.1 r m ≠ κ.1 5 7 := fun z => e7 (K.dis hd rk (Or.inr (Or.inr (Or.inr (Or.inr ⟨rfl, rfl⟩)))) z)
        rw [hg, c5 _ (K.rkd hd rk).1.2.1 hne7 (fun z => e2 (ek r m rk z)), K.A r m i ok']
        unfold k_av
        by_cases x2 : r = 2
        · rw [if_pos x2, if_pos x2, rm m (hm0 (Or.inl x2)) (fun z => e2 ⟨x2, z⟩)]
          have hmi : m < a_mk a ∧ i < (a_rw a m).length := by
            rcases ok' with ⟨-, z2, -, z4⟩ | ⟨z1, -⟩ | ⟨z1, -⟩ | ⟨z1, -⟩ | ⟨z1, -⟩ <;> first | exact ⟨z2, z4⟩ | omega
          have := (T.rc hmi.1 (k_rc T hmi.1 hmi.2)).1
          rw [gm 0 _ (by omega) (fun z => by omega)]
        · rw [if_neg x2, if_neg x2]
          by_cases x4 : r = 4
          · rw [if_pos x4, if_pos x4, tm m (hm0 (Or.inr x4))]
          · rw [if_neg x4, if_neg x4]
            have x7 : ¬ m = 7 := fun z => e7 ⟨by rcases rk with q | q | q | q | q <;> omega, z⟩
            rw [if_neg x7, if_neg x7, g5]
            rfl
  · obtain ⟨y1, y2, y3, y4, y5⟩ := K.2.2.2.2.1 c hc
    have n1 : c ≠ κ.1 1 p := fun z => (K.1.2.1 p hp hpk).1.2 (z ▸ hc)
    have n2 : c ≠ κ.1 5 0 := fun z => K.1.2.2.1.2 (z ▸ hc)
    have n3 : c ≠ κ.1 5 7 := fun z => K.1.2.2.2.2.2.2.1.2 (z ▸ hc)
    have n4 : c ≠ e := fun z => c9.1.2 (z ▸ hc)
    exact ⟨Nat.lt_of_lt_of_le y1 c1, (c2 c y1).1.trans y2, (c2 c y1).2.trans y3, fun f => (c3 f c y1 (fun z => n1 z.1) (fun z => n2 z.1)).trans (y4 f), (c5 c y1 n3 n4).trans y5⟩
  · have hsum : hp_sm (k_po (hp_ln H) (k_nw κ nw (a_mk a) p e mc) (a_nd (a_add p v a) 0)) 0 (a_mk a + 1) = hp_sm (k_po (hp_ln h) κ (a_nd a 0)) 0 (a_mk a) := by
      rw [hp_sm_app]
      have z1 : hp_sm (k_po (hp_ln H) (k_nw κ nw (a_mk a) p e mc) (a_nd (a_add p v a) 0)) (0 + a_mk a) 1 = 0 := by
        show k_po (hp_ln H) (k_nw κ nw (a_mk a) p e mc) (a_nd (a_add p v a) 0) (0 + a_mk a) + 0 = 0
        rw [Nat.zero_add]
        unfold k_po
        rw [tn]
        split <;> simp
      rw [z1, Nat.add_zero]
      refine hp_sm_congr _ _ (fun i _ hi => ?_)
      have him : i ≠ a_mk a := by omega
      unfold k_po
      rw [nm 0 i him, tm i him, gm 4 i him (fun z => by omega)]
      by_cases c0 : a_nd a 0 i = 1
      · rw [if_pos c0, if_pos c0, (c2 _ (K.isI (by omega) c0).1.2.1).2]
      · rw [if_neg c0, if_neg c0]
    have h2 := K.2.2.2.2.2.1.2
    show hp_sl H + hp_sm (k_po (hp_ln H) (k_nw κ nw (a_mk a) p e mc) (a_nd (a_add p v a) 0)) 0 (a_mk a + 1) ≤ S'
    rw [hsum]
    omega
  · rcases lt m hm with rfl | hm
    · refine ⟨[], ?_, fun x hx => by cases hx⟩
      show va_up (a_rt a) (a_mk a) [] (a_mk a) = [] ++ (k_nw κ nw (a_mk a) p e mc).2.2 (a_mk a)
      rw [va_up_self, tn]
      rfl
    · have hmn : m ≠ a_mk a := Nat.ne_of_lt hm
      rw [nm 0 m hmn] at hkm
      obtain ⟨dr, y1, y2⟩ := K.2.2.2.2.2.2 m hm hkm
      refine ⟨dr, ?_, y2⟩
      show va_up (a_rt a) (a_mk a) [] m = dr ++ (k_nw κ nw (a_mk a) p e mc).2.2 m
      rw [va_up_ne _ _ hmn, tm m hmn]
      exact y1
end KRJ
