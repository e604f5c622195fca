/-! ===== child, about, total ===== -/
def a_chd (a : aS) (n : Nat) (i : Int32) : Int32 := if 0 ≤ i.toInt ∧ i.toInt < (a_rw a n).length then nI ((a_rw a n).getD i.toInt.toNat 0) else -1
/-- how many of the first i nodes are in state s -/
def a_ci (a : aS) (s : Int) : Nat → Nat
  | 0 => 0
  | i + 1 => if a_nd a 3 i = s then a_ci a s i + 1 else a_ci a s i
theorem a_ci_le (a : aS) (s : Int) : ∀ i, a_ci a s i ≤ i
  | 0 => Nat.le_refl _
  | i + 1 => by
    have := a_ci_le a s i
    unfold a_ci
    split <;> omega
set_option maxRecDepth 20000 in
set_option maxHeartbeats 4000000 in
theorem kp_childX {l : Launch} {G : hpG} {pr : Nat → Prop} {B : hpT} {N S : Nat} {h : hpT} {κ : kS} {a : aS} {d : Nat} (K : KR G pr B N S h κ a) {x i : Int32} (T : a_T a) (hbad : ∀ n, n < a_mk a → x = nI n → a_nd a 0 n = 1 → a_nd a 3 n = 2) (hd : 11 ≤ d) (hR1 : hp_nx h + 1 ≤ hp_n0 G + hp_LC) (hR2 : hp_sl h + 6 ≤ hp_LS) : hp_C l G yX5_child (.code yX5_child cX5_child 4 (some .int)) d [.ref (κ.1 5 0), .int x, .int i] (h) (fun _ _ => False) (fun E h' => E = "java/lang/IllegalArgumentException" ∧ h' = hp_mkX h) := by
  refine hp_ofV (by decide) (by simp [Value.category]) (Nat.le_of_ble_eq_true rfl) (fun M C hr hx el => ?_)
  refine hp_aload_nR C dX5_child_0 rfl ?_
  refine hp_iload_n C dX5_child_1 rfl ?_
  exact hp_callV (ci := 5) C ml_X5_61 im_X5_keeperAt se_X5_keeperAt rfl (by decide) (kw_keeperX (d := d - 1) K T hbad (by omega) hR1 hR2) (by omega) dX5_child_2 K.isT rfl rfl (by simp [Value.category]) (fun _ _ hf => hf.elim) (fun E_1 h_1 hq => hp_out C hx hq)
set_option maxRecDepth 20000 in
set_option maxHeartbeats 4000000 in
theorem kp_child {l : Launch} {G : hpG} {pr : Nat → Prop} {B : hpT} {N S : Nat} {h : hpT} {κ : kS} {a : aS} {d : Nat} (K : KR G pr B N S h κ a) {n : Nat} (T : a_T a) (hn : n < a_mk a) (h3 : ¬ a_nd a 3 n = 2) {i : Int32} (hk : a_nd a 0 n = 1) (hd : 11 ≤ d) : hp_C l G yX5_child (.code yX5_child cX5_child 4 (some .int)) d [.ref (κ.1 5 0), .int (nI n), .int i] (h) (fun v h' => v = some (.int (a_chd a n i)) ∧ h' = h) (fun _ _ => False) := by
  have hl := T.rl hn
  have q0 : (0 : Int32).toInt = 0 := by decide
  refine hp_ofV (by decide) (by simp [Value.category]) (Nat.le_of_ble_eq_true rfl) (fun M C hr hx el => ?_)
  refine hp_aload_nR C dX5_child_0 rfl ?_
  refine hp_iload_n C dX5_child_1 rfl ?_
  refine hp_callV (ci := 5) C ml_X5_61 im_X5_keeperAt se_X5_keeperAt rfl (by decide) (kw_keeper (d := d - 1) K T hn h3 hk (by omega)) (by omega) dX5_child_2 K.isT rfl rfl (by simp [Value.category]) (fun v_2 h_2 hp => ?_) (fun _ _ hf => hf.elim)
  obtain ⟨rfl, e_2⟩ := hp
  rw [e_2]
  refine hp_astore_n (r := some _) C dX5_child_5 (by decide) ?_
  refine hp_iload_n C dX5_child_6 rfl ?_
  refine hp_if_lt (tgt := 38) C dX5_child_7 (by decide) (fun c_7 => ?_) (fun c_7 => ?_)
  · refine hp_iconst (v := (-1)) C dX5_child_38 (by decide) ?_
    refine hp_iret C hr rfl dX5_child_39 ?_
    exact ⟨by rw [show a_chd a n i = -1 from if_neg (by simp only [Int32.lt_iff_toInt_lt, Int32.le_iff_toInt_le, q0, nI_toInt (n := (a_rw a n).length) (by omega)] at *; omega)], rfl⟩
  · refine hp_iload_n C dX5_child_10 rfl ?_
    refine hp_aload_nR C dX5_child_11 rfl ?_
    refine hp_get C fl_X5_146_2 dX5_child_12 (K.isK hn hk) (K.f69 hn hk) ?_
    refine hp_callV (ci := 0) C ml_X5_150 im_Jx4a65c_size_8abf5 se_Jx4a65c_size_8abf5 rfl (by decide) (kc_size (d := d - 1) K hn hk) (by omega) dX5_child_15 (K.isL hn hk) rfl rfl (by simp [Value.category]) (fun v_15 h_15 hp => ?_) (fun _ _ hf => hf.elim)
    obtain ⟨rfl, e_15⟩ := hp
    rw [e_15]
    refine hp_icmp_ge (tgt := 38) C dX5_child_18 (by decide) (fun c_18 => ?_) (fun c_18 => ?_)
    · refine hp_iconst (v := (-1)) C dX5_child_38 (by decide) ?_
      refine hp_iret C hr rfl dX5_child_39 ?_
      exact ⟨by rw [show a_chd a n i = -1 from if_neg (by simp only [Int32.lt_iff_toInt_lt, Int32.le_iff_toInt_le, q0, nI_toInt (n := (a_rw a n).length) (by omega)] at *; omega)], rfl⟩
    · have hin : 0 ≤ i.toInt ∧ i.toInt < (a_rw a n).length := by
        simp only [Int32.lt_iff_toInt_lt, Int32.le_iff_toInt_le, q0, nI_toInt (n := (a_rw a n).length) (by omega)] at *
        omega
      have hii : i = nI i.toInt.toNat := by
        refine Int32.toInt_inj.mp ?_
        rw [nI_toInt (by omega)]
        omega
      have hc := (T.rc hn (k_rc T hn (i := i.toInt.toNat) (by omega))).1
      have hcb := T.kb hc
      refine hp_aload_nR C dX5_child_21 rfl ?_
      refine hp_get C fl_X5_146_2 dX5_child_22 (K.isK hn hk) (K.f69 hn hk) ?_
      refine hp_iload_n C dX5_child_25 rfl ?_
      rw [show Value.int i = Value.int (nI i.toInt.toNat) from congrArg Value.int hii]
      refine hp_callV (ci := 0) C ml_X5_163 im_Jx4a65c_get_915e3 se_Jx4a65c_get_915e3 rfl (by decide) (kc_get (d := d - 1) (i := i.toInt.toNat) K hn hk (by omega) hl (by omega)) (by omega) dX5_child_26 (K.isL hn hk) rfl rfl (by simp [Value.category]) (fun v_26 h_26 hp => ?_) (fun _ _ hf => hf.elim)
      obtain ⟨rfl, e_26⟩ := hp
      rw [e_26]
      refine kc_cast C K hc hcb cl_X5_16 (by decide) (by decide) dX5_child_29 ?_
      refine kg_N C K hc hcb (by decide) fl_X5_167_2 fl_X5_167_4 dX5_child_32 (K.f64 hc) ?_
      refine hp_goto (tgt := 39) C dX5_child_35 (by decide) ?_
      refine hp_iret C hr rfl dX5_child_39 ?_
      exact ⟨by rw [show a_chd a n i = nI ((a_rw a n).getD i.toInt.toNat 0) from if_pos hin], rfl⟩
set_option maxRecDepth 20000 in
set_option maxHeartbeats 4000000 in
theorem kp_aboutX {l : Launch} {G : hpG} {pr : Nat → Prop} {B : hpT} {N S : Nat} {h : hpT} {κ : kS} {a : aS} {d : Nat} (K : KR G pr B N S h κ a) {x z : Int32} (T : a_T a) (hbad : a_bad a x) (hd : 11 ≤ d) (hR1 : hp_nx h + 1 ≤ hp_n0 G + hp_LC) (hR2 : hp_sl h + 6 ≤ hp_LS) : hp_C l G yX5_about (.code yX5_about cX5_about 5 (some .int)) d [.ref (κ.1 5 0), .int x, .int z] (h) (fun _ _ => False) (fun E h' => E = "java/lang/IllegalArgumentException" ∧ h' = hp_mkX h) := by
  refine hp_ofV (by decide) (by simp [Value.category]) (Nat.le_of_ble_eq_true rfl) (fun M C hr hx el => ?_)
  refine hp_aload_nR C dX5_about_0 rfl ?_
  refine hp_iload_n C dX5_about_1 rfl ?_
  exact hp_callV (ci := 5) C ml_X5_109 im_X5_nodeAt se_X5_nodeAt rfl (by decide) (kw_nodeX (d := d - 1) K T hbad (by omega) hR1 hR2) (by omega) dX5_about_2 K.isT rfl rfl (by simp [Value.category]) (fun _ _ hf => hf.elim) (fun E_1 h_1 hq => hp_out C hx hq)
set_option maxRecDepth 20000 in
set_option maxHeartbeats 4000000 in
theorem kp_aboutY {l : Launch} {G : hpG} {pr : Nat → Prop} {B : hpT} {N S : Nat} {h : hpT} {κ : kS} {a : aS} {d : Nat} (K : KR G pr B N S h κ a) {n : Nat} (T : a_T a) (hn : n < a_mk a) (h3 : ¬ a_nd a 3 n = 2) {z : Int32} (hz : ¬ (0 ≤ z.toInt ∧ z.toInt ≤ 7)) (hd : 11 ≤ d) (hR1 : hp_nx h + 1 ≤ hp_n0 G + hp_LC) (hR2 : hp_sl h + 6 ≤ hp_LS) : hp_C l G yX5_about (.code yX5_about cX5_about 5 (some .int)) d [.ref (κ.1 5 0), .int (nI n), .int z] (h) (fun _ _ => False) (fun E h' => E = "java/lang/IllegalArgumentException" ∧ h' = hp_mkX h) := by
  have hb := T.kb hn
  refine hp_ofV (by decide) (by simp [Value.category]) (Nat.le_of_ble_eq_true rfl) (fun M C hr hx el => ?_)
  refine hp_aload_nR C dX5_about_0 rfl ?_
  refine hp_iload_n C dX5_about_1 rfl ?_
  refine hp_callV (ci := 5) C ml_X5_109 im_X5_nodeAt se_X5_nodeAt rfl (by decide) (kw_node (d := d - 1) K T hn h3 (by omega)) (by omega) dX5_about_2 K.isT rfl rfl (by simp [Value.category]) (fun v_2 h_2 hp => ?_) (fun _ _ hf => hf.elim)
  obtain ⟨rfl, e_2⟩ := hp
  rw [e_2]
  refine hp_astore_n (r := some _) C dX5_about_5 (by decide) ?_
  refine hp_iload_n C dX5_about_6 rfl ?_
  refine hp_tableOut (tgt := 193) C dX5_about_7 (by omega) (by decide) ?_
  refine hp_athrow C tl_A (by omega) dX5_about_193 dX5_about_196 dX5_about_197 dX5_about_200 hx (by simp [Value.category]) hR1 hR2 ?_
  exact ⟨rfl, rfl⟩
set_option maxRecDepth 20000 in
set_option maxHeartbeats 4000000 in
theorem kp_about {l : Launch} {G : hpG} {pr : Nat → Prop} {B : hpT} {N S : Nat} {h : hpT} {κ : kS} {a : aS} {d : Nat} (K : KR G pr B N S h κ a) {n : Nat} (T : a_T a) (hn : n < a_mk a) (h3 : ¬ a_nd a 3 n = 2) {z : Int32} (A : a_A a) (htm : a_tm a < 2 ^ 30) (hz : 0 ≤ z.toInt ∧ z.toInt ≤ 7) (hp0 : n ≠ 0 → a_pa a n < a_mk a ∧ a_nd a 0 (a_pa a n) = 1 ∧ n ∈ a_rw a (a_pa a n)) (hd : 11 ≤ d) : hp_C l G yX5_about (.code yX5_about cX5_about 5 (some .int)) d [.ref (κ.1 5 0), .int (nI n), .int z] (h) (fun v h' => (∃ x, v = some (.int x)) ∧ h' = h) (fun _ _ => False) := by
  refine hp_ofV (by decide) (by simp [Value.category]) (Nat.le_of_ble_eq_true rfl) (fun M C hr hx el => ?_)
  rcases T.kb hn with hk | hk
  · by_cases h0 : n = 0
    · refine hp_aload_nR C dX5_about_0 rfl ?_
      refine hp_iload_n C dX5_about_1 rfl ?_
      refine hp_callV (ci := 5) C ml_X5_109 im_X5_nodeAt se_X5_nodeAt rfl (by decide) (kw_node (d := d - 1) K T hn h3 (by omega)) (by omega) dX5_about_2 K.isT rfl rfl (by simp [Value.category]) (fun v_2 h_2 hp => ?_) (fun _ _ hf => hf.elim)
      obtain ⟨rfl, e_2⟩ := hp
      rw [e_2]
      refine hp_astore_n (r := some _) C dX5_about_5 (by decide) ?_
      refine hp_iload_n C dX5_about_6 rfl ?_
      have q_2 : (z) = 0 ∨ (z) = 1 ∨ (z) = 2 ∨ (z) = 3 ∨ (z) = 4 ∨ (z) = 5 ∨ (z) = 6 ∨ (z) = 7 := by
        have q_3 : (z).toInt = 0 ∨ (z).toInt = 1 ∨ (z).toInt = 2 ∨ (z).toInt = 3 ∨ (z).toInt = 4 ∨ (z).toInt = 5 ∨ (z).toInt = 6 ∨ (z).toInt = 7 := by omega
        rcases q_3 with q_3 | q_3 | q_3 | q_3 | q_3 | q_3 | q_3 | q_3 <;> first | exact Or.inl (Int32.toInt_inj.mp (q_3.trans (by decide))) | exact Or.inr (Or.inl (Int32.toInt_inj.mp (q_3.trans (by decide)))) | exact Or.inr (Or.inr (Or.inl (Int32.toInt_inj.mp (q_3.trans (by decide))))) | exact Or.inr (Or.inr (Or.inr (Or.inl (Int32.toInt_inj.mp (q_3.trans (by decide)))))) | exact Or.inr (Or.inr (Or.inr (Or.inr (Or.inl (Int32.toInt_inj.mp (q_3.trans (by decide))))))) | exact Or.inr (Or.inr (Or.inr (Or.inr (Or.inr (Or.inl (Int32.toInt_inj.mp (q_3.trans (by decide)))))))) | exact Or.inr (Or.inr (Or.inr (Or.inr (Or.inr (Or.inr (Or.inl (Int32.toInt_inj.mp (q_3.trans (by decide))))))))) | exact Or.inr (Or.inr (Or.inr (Or.inr (Or.inr (Or.inr (Or.inr ((Int32.toInt_inj.mp (q_3.trans (by decide))))))))))
      rcases q_2 with rfl | rfl | rfl | rfl | rfl | rfl | rfl | rfl
      · refine hp_tableIn (tgt := 52) C dX5_about_7 (by decide) (by decide) rfl (by decide) ?_
        refine hp_aload_nR C dX5_about_52 rfl ?_
        refine hp_get (v := .null) C fl_X5_133_4 dX5_about_53 (K.isW hn hk) ((K.f65 hn).trans (by rw [if_pos h0]; rfl)) ?_
        refine hp_ifnonnull (r := none) (tgt := 63) C dX5_about_56 (by decide) (fun _ hx_ => by cases hx_) (fun _ => ?_)
        refine hp_iconst (v := (-1)) C dX5_about_59 (by decide) ?_
        refine hp_goto (tgt := 70) C dX5_about_60 (by decide) ?_
        refine hp_iret C hr rfl dX5_about_70 ?_
        exact ⟨⟨_, rfl⟩, rfl⟩
      · refine hp_tableIn (tgt := 71) C dX5_about_7 (by decide) (by decide) rfl (by decide) ?_
        refine hp_aload_nR C dX5_about_71 rfl ?_
        refine hp_get (v := .null) C fl_X5_133_4 dX5_about_72 (K.isW hn hk) ((K.f65 hn).trans (by rw [if_pos h0]; rfl)) ?_
        refine hp_ifnonnull (r := none) (tgt := 82) C dX5_about_75 (by decide) (fun _ hx_ => by cases hx_) (fun _ => ?_)
        refine hp_iconst (v := 0) C dX5_about_78 (by decide) ?_
        refine hp_goto (tgt := 90) C dX5_about_79 (by decide) ?_
        refine hp_iret C hr rfl dX5_about_90 ?_
        exact ⟨⟨_, rfl⟩, rfl⟩
      · refine hp_tableIn (tgt := 91) C dX5_about_7 (by decide) (by decide) rfl (by decide) ?_
        refine hp_aload_nR C dX5_about_91 rfl ?_
        refine hp_get C fl_X5_140_4 dX5_about_92 (K.isW hn hk) (K.f66 hn) ?_
        refine hp_iret C hr rfl dX5_about_95 ?_
        exact ⟨⟨_, rfl⟩, rfl⟩
      · refine hp_tableIn (tgt := 96) C dX5_about_7 (by decide) (by decide) rfl (by decide) ?_
        refine hp_aload_nR C dX5_about_96 rfl ?_
        refine hp_get C fl_X5_143_4 dX5_about_97 (K.isW hn hk) (K.f67 hn) ?_
        refine hp_iret C hr rfl dX5_about_100 ?_
        exact ⟨⟨_, rfl⟩, rfl⟩
      · refine hp_tableIn (tgt := 101) C dX5_about_7 (by decide) (by decide) rfl (by decide) ?_
        refine hp_aload_nR C dX5_about_101 rfl ?_
        refine hp_instNo C 4 cl_X5_22 (by decide) rfl (by decide) dX5_about_102 (K.isW hn hk) ?_
        refine hp_if_eq (tgt := 112) C dX5_about_105 (by decide) (fun _ => ?_) (fun z_9 => absurd z_9 (by decide))
        refine hp_iconst (v := 0) C dX5_about_112 (by decide) ?_
        refine hp_iret C hr rfl dX5_about_113 ?_
        exact ⟨⟨_, rfl⟩, rfl⟩
      · refine hp_tableIn (tgt := 114) C dX5_about_7 (by decide) (by decide) rfl (by decide) ?_
        refine hp_aload_nR C dX5_about_114 rfl ?_
        refine hp_instNo C 4 cl_X5_22 (by decide) rfl (by decide) dX5_about_115 (K.isW hn hk) ?_
        refine hp_if_eq (tgt := 138) C dX5_about_118 (by decide) (fun _ => ?_) (fun z_9 => absurd z_9 (by decide))
        refine hp_iconst (v := (-1)) C dX5_about_138 (by decide) ?_
        refine hp_iret C hr rfl dX5_about_139 ?_
        exact ⟨⟨_, rfl⟩, rfl⟩
      · refine hp_tableIn (tgt := 140) C dX5_about_7 (by decide) (by decide) rfl (by decide) ?_
        refine hp_aload_nR C dX5_about_140 rfl ?_
        refine hp_instNo C 4 cl_X5_22 (by decide) rfl (by decide) dX5_about_141 (K.isW hn hk) ?_
        refine hp_if_eq (tgt := 168) C dX5_about_144 (by decide) (fun _ => ?_) (fun z_9 => absurd z_9 (by decide))
        refine hp_iconst (v := (-1)) C dX5_about_168 (by decide) ?_
        refine hp_iret C hr rfl dX5_about_169 ?_
        exact ⟨⟨_, rfl⟩, rfl⟩
      · refine hp_tableIn (tgt := 170) C dX5_about_7 (by decide) (by decide) rfl (by decide) ?_
        refine hp_aload_nR C dX5_about_170 rfl ?_
        refine hp_instY C 4 cl_X5_83 (by decide) rfl (by decide) dX5_about_171 (K.isW hn hk) ?_
        refine hp_if_eq (tgt := 191) C dX5_about_174 (by decide) (fun z_9 => absurd z_9 (by decide)) (fun _ => ?_)
        refine hp_aload_nR C dX5_about_177 rfl ?_
        refine hp_castY C 4 cl_X5_83 (by decide) rfl (by decide) dX5_about_178 (K.isW hn hk) ?_
        refine hp_astore (r := some _) C dX5_about_181 (by decide) ?_
        refine hp_aloadR C dX5_about_183 rfl ?_
        refine hp_get C fl_X5_98_4 dX5_about_185 (K.isW hn hk) (K.f136 hn hk) ?_
        refine hp_goto (tgt := 192) C dX5_about_188 (by decide) ?_
        refine hp_iret C hr rfl dX5_about_192 ?_
        exact ⟨⟨_, rfl⟩, rfl⟩
    · obtain ⟨hp, hpk, hm⟩ := hp0 h0
      have hix := a_ix_ok hm
      refine hp_aload_nR C dX5_about_0 rfl ?_
      refine hp_iload_n C dX5_about_1 rfl ?_
      refine hp_callV (ci := 5) C ml_X5_109 im_X5_nodeAt se_X5_nodeAt rfl (by decide) (kw_node (d := d - 1) K T hn h3 (by omega)) (by omega) dX5_about_2 K.isT rfl rfl (by simp [Value.category]) (fun v_2 h_2 hp => ?_) (fun _ _ hf => hf.elim)
      obtain ⟨rfl, e_2⟩ := hp
      rw [e_2]
      refine hp_astore_n (r := some _) C dX5_about_5 (by decide) ?_
      refine hp_iload_n C dX5_about_6 rfl ?_
      have q_2 : (z) = 0 ∨ (z) = 1 ∨ (z) = 2 ∨ (z) = 3 ∨ (z) = 4 ∨ (z) = 5 ∨ (z) = 6 ∨ (z) = 7 := by
        have q_3 : (z).toInt = 0 ∨ (z).toInt = 1 ∨ (z).toInt = 2 ∨ (z).toInt = 3 ∨ (z).toInt = 4 ∨ (z).toInt = 5 ∨ (z).toInt = 6 ∨ (z).toInt = 7 := by omega
        rcases q_3 with q_3 | q_3 | q_3 | q_3 | q_3 | q_3 | q_3 | q_3 <;> first | exact Or.inl (Int32.toInt_inj.mp (q_3.trans (by decide))) | exact Or.inr (Or.inl (Int32.toInt_inj.mp (q_3.trans (by decide)))) | exact Or.inr (Or.inr (Or.inl (Int32.toInt_inj.mp (q_3.trans (by decide))))) | exact Or.inr (Or.inr (Or.inr (Or.inl (Int32.toInt_inj.mp (q_3.trans (by decide)))))) | exact Or.inr (Or.inr (Or.inr (Or.inr (Or.inl (Int32.toInt_inj.mp (q_3.trans (by decide))))))) | exact Or.inr (Or.inr (Or.inr (Or.inr (Or.inr (Or.inl (Int32.toInt_inj.mp (q_3.trans (by decide)))))))) | exact Or.inr (Or.inr (Or.inr (Or.inr (Or.inr (Or.inr (Or.inl (Int32.toInt_inj.mp (q_3.trans (by decide))))))))) | exact Or.inr (Or.inr (Or.inr (Or.inr (Or.inr (Or.inr (Or.inr ((Int32.toInt_inj.mp (q_3.trans (by decide))))))))))
      rcases q_2 with rfl | rfl | rfl | rfl | rfl | rfl | rfl | rfl
      · refine hp_tableIn (tgt := 52) C dX5_about_7 (by decide) (by decide) rfl (by decide) ?_
        refine hp_aload_nR C dX5_about_52 rfl ?_
        refine hp_get (v := .ref (κ.1 0 (a_pa a n))) C fl_X5_133_4 dX5_about_53 (K.isW hn hk) ((K.f65 hn).trans (by rw [if_neg h0]; rfl)) ?_
        refine hp_ifnonnull (r := some _) (tgt := 63) C dX5_about_56 (by decide) (fun _ _ => ?_) (fun hx_ => by cases hx_)
        refine hp_aload_nR C dX5_about_63 rfl ?_
        refine hp_get (v := .ref (κ.1 0 (a_pa a n))) C fl_X5_133_4 dX5_about_64 (K.isW hn hk) ((K.f65 hn).trans (by rw [if_neg h0]; rfl)) ?_
        refine hp_get C fl_X5_80_2 dX5_about_67 (K.isK hp hpk) (K.f64 hp) ?_
        refine hp_iret C hr rfl dX5_about_70 ?_
        exact ⟨⟨_, rfl⟩, rfl⟩
      · refine hp_tableIn (tgt := 71) C dX5_about_7 (by decide) (by decide) rfl (by decide) ?_
        refine hp_aload_nR C dX5_about_71 rfl ?_
        refine hp_get (v := .ref (κ.1 0 (a_pa a n))) C fl_X5_133_4 dX5_about_72 (K.isW hn hk) ((K.f65 hn).trans (by rw [if_neg h0]; rfl)) ?_
        refine hp_ifnonnull (r := some _) (tgt := 82) C dX5_about_75 (by decide) (fun _ _ => ?_) (fun hx_ => by cases hx_)
        refine hp_aload_nR C dX5_about_82 rfl ?_
        refine hp_get (v := .ref (κ.1 0 (a_pa a n))) C fl_X5_133_4 dX5_about_83 (K.isW hn hk) ((K.f65 hn).trans (by rw [if_neg h0]; rfl)) ?_
        refine hp_aload_nR C dX5_about_86 rfl ?_
        refine hp_callV (ci := 2) C ml_X5_136 im_X1_placeOf se_X1_placeOf rfl (by decide) (kc_place (d := d - 1) K T hp hpk hn hix.1 hix.2.1 hix.2.2 (by omega)) (by omega) dX5_about_87 (K.isK hp hpk) rfl rfl (by simp [Value.category]) (fun v_87 h_87 hp => ?_) (fun _ _ hf => hf.elim)
        obtain ⟨rfl, e_87⟩ := hp
        rw [e_87]
        refine hp_iret C hr rfl dX5_about_90 ?_
        exact ⟨⟨_, rfl⟩, rfl⟩
      · refine hp_tableIn (tgt := 91) C dX5_about_7 (by decide) (by decide) rfl (by decide) ?_
        refine hp_aload_nR C dX5_about_91 rfl ?_
        refine hp_get C fl_X5_140_4 dX5_about_92 (K.isW hn hk) (K.f66 hn) ?_
        refine hp_iret C hr rfl dX5_about_95 ?_
        exact ⟨⟨_, rfl⟩, rfl⟩
      · refine hp_tableIn (tgt := 96) C dX5_about_7 (by decide) (by decide) rfl (by decide) ?_
        refine hp_aload_nR C dX5_about_96 rfl ?_
        refine hp_get C fl_X5_143_4 dX5_about_97 (K.isW hn hk) (K.f67 hn) ?_
        refine hp_iret C hr rfl dX5_about_100 ?_
        exact ⟨⟨_, rfl⟩, rfl⟩
      · refine hp_tableIn (tgt := 101) C dX5_about_7 (by decide) (by decide) rfl (by decide) ?_
        refine hp_aload_nR C dX5_about_101 rfl ?_
        refine hp_instNo C 4 cl_X5_22 (by decide) rfl (by decide) dX5_about_102 (K.isW hn hk) ?_
        refine hp_if_eq (tgt := 112) C dX5_about_105 (by decide) (fun _ => ?_) (fun z_9 => absurd z_9 (by decide))
        refine hp_iconst (v := 0) C dX5_about_112 (by decide) ?_
        refine hp_iret C hr rfl dX5_about_113 ?_
        exact ⟨⟨_, rfl⟩, rfl⟩
      · refine hp_tableIn (tgt := 114) C dX5_about_7 (by decide) (by decide) rfl (by decide) ?_
        refine hp_aload_nR C dX5_about_114 rfl ?_
        refine hp_instNo C 4 cl_X5_22 (by decide) rfl (by decide) dX5_about_115 (K.isW hn hk) ?_
        refine hp_if_eq (tgt := 138) C dX5_about_118 (by decide) (fun _ => ?_) (fun z_9 => absurd z_9 (by decide))
        refine hp_iconst (v := (-1)) C dX5_about_138 (by decide) ?_
        refine hp_iret C hr rfl dX5_about_139 ?_
        exact ⟨⟨_, rfl⟩, rfl⟩
      · refine hp_tableIn (tgt := 140) C dX5_about_7 (by decide) (by decide) rfl (by decide) ?_
        refine hp_aload_nR C dX5_about_140 rfl ?_
        refine hp_instNo C 4 cl_X5_22 (by decide) rfl (by decide) dX5_about_141 (K.isW hn hk) ?_
        refine hp_if_eq (tgt := 168) C dX5_about_144 (by decide) (fun _ => ?_) (fun z_9 => absurd z_9 (by decide))
        refine hp_iconst (v := (-1)) C dX5_about_168 (by decide) ?_
        refine hp_iret C hr rfl dX5_about_169 ?_
        exact ⟨⟨_, rfl⟩, rfl⟩
      · refine hp_tableIn (tgt := 170) C dX5_about_7 (by decide) (by decide) rfl (by decide) ?_
        refine hp_aload_nR C dX5_about_170 rfl ?_
        refine hp_instY C 4 cl_X5_83 (by decide) rfl (by decide) dX5_about_171 (K.isW hn hk) ?_
        refine hp_if_eq (tgt := 191) C dX5_about_174 (by decide) (fun z_9 => absurd z_9 (by decide)) (fun _ => ?_)
        refine hp_aload_nR C dX5_about_177 rfl ?_
        refine hp_castY C 4 cl_X5_83 (by decide) rfl (by decide) dX5_about_178 (K.isW hn hk) ?_
        refine hp_astore (r := some _) C dX5_about_181 (by decide) ?_
        refine hp_aloadR C dX5_about_183 rfl ?_
        refine hp_get C fl_X5_98_4 dX5_about_185 (K.isW hn hk) (K.f136 hn hk) ?_
        refine hp_goto (tgt := 192) C dX5_about_188 (by decide) ?_
        refine hp_iret C hr rfl dX5_about_192 ?_
        exact ⟨⟨_, rfl⟩, rfl⟩
  · by_cases h0 : n = 0
    · refine hp_aload_nR C dX5_about_0 rfl ?_
      refine hp_iload_n C dX5_about_1 rfl ?_
      refine hp_callV (ci := 5) C ml_X5_109 im_X5_nodeAt se_X5_nodeAt rfl (by decide) (kw_node (d := d - 1) K T hn h3 (by omega)) (by omega) dX5_about_2 K.isT rfl rfl (by simp [Value.category]) (fun v_2 h_2 hp => ?_) (fun _ _ hf => hf.elim)
      obtain ⟨rfl, e_2⟩ := hp
      rw [e_2]
      refine hp_astore_n (r := some _) C dX5_about_5 (by decide) ?_
      refine hp_iload_n C dX5_about_6 rfl ?_
      have q_2 : (z) = 0 ∨ (z) = 1 ∨ (z) = 2 ∨ (z) = 3 ∨ (z) = 4 ∨ (z) = 5 ∨ (z) = 6 ∨ (z) = 7 := by
        have q_3 : (z).toInt = 0 ∨ (z).toInt = 1 ∨ (z).toInt = 2 ∨ (z).toInt = 3 ∨ (z).toInt = 4 ∨ (z).toInt = 5 ∨ (z).toInt = 6 ∨ (z).toInt = 7 := by omega
        rcases q_3 with q_3 | q_3 | q_3 | q_3 | q_3 | q_3 | q_3 | q_3 <;> first | exact Or.inl (Int32.toInt_inj.mp (q_3.trans (by decide))) | exact Or.inr (Or.inl (Int32.toInt_inj.mp (q_3.trans (by decide)))) | exact Or.inr (Or.inr (Or.inl (Int32.toInt_inj.mp (q_3.trans (by decide))))) | exact Or.inr (Or.inr (Or.inr (Or.inl (Int32.toInt_inj.mp (q_3.trans (by decide)))))) | exact Or.inr (Or.inr (Or.inr (Or.inr (Or.inl (Int32.toInt_inj.mp (q_3.trans (by decide))))))) | exact Or.inr (Or.inr (Or.inr (Or.inr (Or.inr (Or.inl (Int32.toInt_inj.mp (q_3.trans (by decide)))))))) | exact Or.inr (Or.inr (Or.inr (Or.inr (Or.inr (Or.inr (Or.inl (Int32.toInt_inj.mp (q_3.trans (by decide))))))))) | exact Or.inr (Or.inr (Or.inr (Or.inr (Or.inr (Or.inr (Or.inr ((Int32.toInt_inj.mp (q_3.trans (by decide))))))))))
      rcases q_2 with rfl | rfl | rfl | rfl | rfl | rfl | rfl | rfl
      · refine hp_tableIn (tgt := 52) C dX5_about_7 (by decide) (by decide) rfl (by decide) ?_
        refine hp_aload_nR C dX5_about_52 rfl ?_
        refine hp_get (v := .null) C fl_X5_133_2 dX5_about_53 (K.isK hn hk) ((K.f65 hn).trans (by rw [if_pos h0]; rfl)) ?_
        refine hp_ifnonnull (r := none) (tgt := 63) C dX5_about_56 (by decide) (fun _ hx_ => by cases hx_) (fun _ => ?_)
        refine hp_iconst (v := (-1)) C dX5_about_59 (by decide) ?_
        refine hp_goto (tgt := 70) C dX5_about_60 (by decide) ?_
        refine hp_iret C hr rfl dX5_about_70 ?_
        exact ⟨⟨_, rfl⟩, rfl⟩
      · refine hp_tableIn (tgt := 71) C dX5_about_7 (by decide) (by decide) rfl (by decide) ?_
        refine hp_aload_nR C dX5_about_71 rfl ?_
        refine hp_get (v := .null) C fl_X5_133_2 dX5_about_72 (K.isK hn hk) ((K.f65 hn).trans (by rw [if_pos h0]; rfl)) ?_
        refine hp_ifnonnull (r := none) (tgt := 82) C dX5_about_75 (by decide) (fun _ hx_ => by cases hx_) (fun _ => ?_)
        refine hp_iconst (v := 0) C dX5_about_78 (by decide) ?_
        refine hp_goto (tgt := 90) C dX5_about_79 (by decide) ?_
        refine hp_iret C hr rfl dX5_about_90 ?_
        exact ⟨⟨_, rfl⟩, rfl⟩
      · refine hp_tableIn (tgt := 91) C dX5_about_7 (by decide) (by decide) rfl (by decide) ?_
        refine hp_aload_nR C dX5_about_91 rfl ?_
        refine hp_get C fl_X5_140_2 dX5_about_92 (K.isK hn hk) (K.f66 hn) ?_
        refine hp_iret C hr rfl dX5_about_95 ?_
        exact ⟨⟨_, rfl⟩, rfl⟩
      · refine hp_tableIn (tgt := 96) C dX5_about_7 (by decide) (by decide) rfl (by decide) ?_
        refine hp_aload_nR C dX5_about_96 rfl ?_
        refine hp_get C fl_X5_143_2 dX5_about_97 (K.isK hn hk) (K.f67 hn) ?_
        refine hp_iret C hr rfl dX5_about_100 ?_
        exact ⟨⟨_, rfl⟩, rfl⟩
      · refine hp_tableIn (tgt := 101) C dX5_about_7 (by decide) (by decide) rfl (by decide) ?_
        refine hp_aload_nR C dX5_about_101 rfl ?_
        refine hp_instY C 2 cl_X5_22 (by decide) rfl (by decide) dX5_about_102 (K.isK hn hk) ?_
        refine hp_if_eq (tgt := 112) C dX5_about_105 (by decide) (fun z_9 => absurd z_9 (by decide)) (fun _ => ?_)
        refine hp_iconst (v := 1) C dX5_about_108 (by decide) ?_
        refine hp_goto (tgt := 113) C dX5_about_109 (by decide) ?_
        refine hp_iret C hr rfl dX5_about_113 ?_
        exact ⟨⟨_, rfl⟩, rfl⟩
      · refine hp_tableIn (tgt := 114) C dX5_about_7 (by decide) (by decide) rfl (by decide) ?_
        refine hp_aload_nR C dX5_about_114 rfl ?_
        refine hp_instY C 2 cl_X5_22 (by decide) rfl (by decide) dX5_about_115 (K.isK hn hk) ?_
        refine hp_if_eq (tgt := 138) C dX5_about_118 (by decide) (fun z_9 => absurd z_9 (by decide)) (fun _ => ?_)
        refine hp_aload_nR C dX5_about_121 rfl ?_
        refine hp_castY C 2 cl_X5_22 (by decide) rfl (by decide) dX5_about_122 (K.isK hn hk) ?_
        refine hp_astore (r := some _) C dX5_about_125 (by decide) ?_
        refine hp_aloadR C dX5_about_127 rfl ?_
        refine hp_get C fl_X5_146_2 dX5_about_129 (K.isK hn hk) (K.f69 hn hk) ?_
        refine hp_callV (ci := 0) C ml_X5_150 im_Jx4a65c_size_8abf5 se_Jx4a65c_size_8abf5 rfl (by decide) (kc_size (d := d - 1) K hn hk) (by omega) dX5_about_132 (K.isL hn hk) rfl rfl (by simp [Value.category]) (fun v_132 h_132 hp => ?_) (fun _ _ hf => hf.elim)
        obtain ⟨rfl, e_132⟩ := hp
        rw [e_132]
        refine hp_goto (tgt := 139) C dX5_about_135 (by decide) ?_
        refine hp_iret C hr rfl dX5_about_139 ?_
        exact ⟨⟨_, rfl⟩, rfl⟩
      · refine hp_tableIn (tgt := 140) C dX5_about_7 (by decide) (by decide) rfl (by decide) ?_
        refine hp_aload_nR C dX5_about_140 rfl ?_
        refine hp_instY C 2 cl_X5_22 (by decide) rfl (by decide) dX5_about_141 (K.isK hn hk) ?_
        refine hp_if_eq (tgt := 168) C dX5_about_144 (by decide) (fun z_9 => absurd z_9 (by decide)) (fun _ => ?_)
        refine hp_aload_nR C dX5_about_147 rfl ?_
        refine hp_castY C 2 cl_X5_22 (by decide) rfl (by decide) dX5_about_148 (K.isK hn hk) ?_
        refine hp_astore (r := some _) C dX5_about_151 (by decide) ?_
        refine hp_aloadR C dX5_about_153 rfl ?_
        refine hp_aload_nR C dX5_about_155 rfl ?_
        refine hp_get C fl_X5_10_5 dX5_about_156 K.isT K.f160 ?_
        refine hp_get C fl_X5_127_1 dX5_about_159 K.isJ K.f33 ?_
        refine hp_callV (ci := 2) C ml_X5_156 im_X1_recentRestarts se_X1_recentRestarts rfl (by decide) (kc_rr (d := d - 1) K hn hk (k_small K A hn hk htm) (by have := (K.isI hn hk).2; have := K.isI2 hn hk; omega) (by omega)) (by omega) dX5_about_162 (K.isK hn hk) rfl rfl (by simp [Value.category]) (fun v_162 h_162 hp => ?_) (fun _ _ hf => hf.elim)
        obtain ⟨rfl, e_162⟩ := hp
        rw [e_162]
        refine hp_goto (tgt := 169) C dX5_about_165 (by decide) ?_
        refine hp_iret C hr rfl dX5_about_169 ?_
        exact ⟨⟨_, rfl⟩, rfl⟩
      · refine hp_tableIn (tgt := 170) C dX5_about_7 (by decide) (by decide) rfl (by decide) ?_
        refine hp_aload_nR C dX5_about_170 rfl ?_
        refine hp_instNo C 2 cl_X5_83 (by decide) rfl (by decide) dX5_about_171 (K.isK hn hk) ?_
        refine hp_if_eq (tgt := 191) C dX5_about_174 (by decide) (fun _ => ?_) (fun z_9 => absurd z_9 (by decide))
        refine hp_iconst (v := (-1)) C dX5_about_191 (by decide) ?_
        refine hp_iret C hr rfl dX5_about_192 ?_
        exact ⟨⟨_, rfl⟩, rfl⟩
    · obtain ⟨hp, hpk, hm⟩ := hp0 h0
      have hix := a_ix_ok hm
      refine hp_aload_nR C dX5_about_0 rfl ?_
      refine hp_iload_n C dX5_about_1 rfl ?_
      refine hp_callV (ci := 5) C ml_X5_109 im_X5_nodeAt se_X5_nodeAt rfl (by decide) (kw_node (d := d - 1) K T hn h3 (by omega)) (by omega) dX5_about_2 K.isT rfl rfl (by simp [Value.category]) (fun v_2 h_2 hp => ?_) (fun _ _ hf => hf.elim)
      obtain ⟨rfl, e_2⟩ := hp
      rw [e_2]
      refine hp_astore_n (r := some _) C dX5_about_5 (by decide) ?_
      refine hp_iload_n C dX5_about_6 rfl ?_
      have q_2 : (z) = 0 ∨ (z) = 1 ∨ (z) = 2 ∨ (z) = 3 ∨ (z) = 4 ∨ (z) = 5 ∨ (z) = 6 ∨ (z) = 7 := by
        have q_3 : (z).toInt = 0 ∨ (z).toInt = 1 ∨ (z).toInt = 2 ∨ (z).toInt = 3 ∨ (z).toInt = 4 ∨ (z).toInt = 5 ∨ (z).toInt = 6 ∨ (z).toInt = 7 := by omega
        rcases q_3 with q_3 | q_3 | q_3 | q_3 | q_3 | q_3 | q_3 | q_3 <;> first | exact Or.inl (Int32.toInt_inj.mp (q_3.trans (by decide))) | exact Or.inr (Or.inl (Int32.toInt_inj.mp (q_3.trans (by decide)))) | exact Or.inr (Or.inr (Or.inl (Int32.toInt_inj.mp (q_3.trans (by decide))))) | exact Or.inr (Or.inr (Or.inr (Or.inl (Int32.toInt_inj.mp (q_3.trans (by decide)))))) | exact Or.inr (Or.inr (Or.inr (Or.inr (Or.inl (Int32.toInt_inj.mp (q_3.trans (by decide))))))) | exact Or.inr (Or.inr (Or.inr (Or.inr (Or.inr (Or.inl (Int32.toInt_inj.mp (q_3.trans (by decide)))))))) | exact Or.inr (Or.inr (Or.inr (Or.inr (Or.inr (Or.inr (Or.inl (Int32.toInt_inj.mp (q_3.trans (by decide))))))))) | exact Or.inr (Or.inr (Or.inr (Or.inr (Or.inr (Or.inr (Or.inr ((Int32.toInt_inj.mp (q_3.trans (by decide))))))))))
      rcases q_2 with rfl | rfl | rfl | rfl | rfl | rfl | rfl | rfl
      · refine hp_tableIn (tgt := 52) C dX5_about_7 (by decide) (by decide) rfl (by decide) ?_
        refine hp_aload_nR C dX5_about_52 rfl ?_
        refine hp_get (v := .ref (κ.1 0 (a_pa a n))) C fl_X5_133_2 dX5_about_53 (K.isK hn hk) ((K.f65 hn).trans (by rw [if_neg h0]; rfl)) ?_
        refine hp_ifnonnull (r := some _) (tgt := 63) C dX5_about_56 (by decide) (fun _ _ => ?_) (fun hx_ => by cases hx_)
        refine hp_aload_nR C dX5_about_63 rfl ?_
        refine hp_get (v := .ref (κ.1 0 (a_pa a n))) C fl_X5_133_2 dX5_about_64 (K.isK hn hk) ((K.f65 hn).trans (by rw [if_neg h0]; rfl)) ?_
        refine hp_get C fl_X5_80_2 dX5_about_67 (K.isK hp hpk) (K.f64 hp) ?_
        refine hp_iret C hr rfl dX5_about_70 ?_
        exact ⟨⟨_, rfl⟩, rfl⟩
      · refine hp_tableIn (tgt := 71) C dX5_about_7 (by decide) (by decide) rfl (by decide) ?_
        refine hp_aload_nR C dX5_about_71 rfl ?_
        refine hp_get (v := .ref (κ.1 0 (a_pa a n))) C fl_X5_133_2 dX5_about_72 (K.isK hn hk) ((K.f65 hn).trans (by rw [if_neg h0]; rfl)) ?_
        refine hp_ifnonnull (r := some _) (tgt := 82) C dX5_about_75 (by decide) (fun _ _ => ?_) (fun hx_ => by cases hx_)
        refine hp_aload_nR C dX5_about_82 rfl ?_
        refine hp_get (v := .ref (κ.1 0 (a_pa a n))) C fl_X5_133_2 dX5_about_83 (K.isK hn hk) ((K.f65 hn).trans (by rw [if_neg h0]; rfl)) ?_
        refine hp_aload_nR C dX5_about_86 rfl ?_
        refine hp_callV (ci := 2) C ml_X5_136 im_X1_placeOf se_X1_placeOf rfl (by decide) (kc_place (d := d - 1) K T hp hpk hn hix.1 hix.2.1 hix.2.2 (by omega)) (by omega) dX5_about_87 (K.isK hp hpk) rfl rfl (by simp [Value.category]) (fun v_87 h_87 hp => ?_) (fun _ _ hf => hf.elim)
        obtain ⟨rfl, e_87⟩ := hp
        rw [e_87]
        refine hp_iret C hr rfl dX5_about_90 ?_
        exact ⟨⟨_, rfl⟩, rfl⟩
      · refine hp_tableIn (tgt := 91) C dX5_about_7 (by decide) (by decide) rfl (by decide) ?_
        refine hp_aload_nR C dX5_about_91 rfl ?_
        refine hp_get C fl_X5_140_2 dX5_about_92 (K.isK hn hk) (K.f66 hn) ?_
        refine hp_iret C hr rfl dX5_about_95 ?_
        exact ⟨⟨_, rfl⟩, rfl⟩
      · refine hp_tableIn (tgt := 96) C dX5_about_7 (by decide) (by decide) rfl (by decide) ?_
        refine hp_aload_nR C dX5_about_96 rfl ?_
        refine hp_get C fl_X5_143_2 dX5_about_97 (K.isK hn hk) (K.f67 hn) ?_
        refine hp_iret C hr rfl dX5_about_100 ?_
        exact ⟨⟨_, rfl⟩, rfl⟩
      · refine hp_tableIn (tgt := 101) C dX5_about_7 (by decide) (by decide) rfl (by decide) ?_
        refine hp_aload_nR C dX5_about_101 rfl ?_
        refine hp_instY C 2 cl_X5_22 (by decide) rfl (by decide) dX5_about_102 (K.isK hn hk) ?_
        refine hp_if_eq (tgt := 112) C dX5_about_105 (by decide) (fun z_9 => absurd z_9 (by decide)) (fun _ => ?_)
        refine hp_iconst (v := 1) C dX5_about_108 (by decide) ?_
        refine hp_goto (tgt := 113) C dX5_about_109 (by decide) ?_
        refine hp_iret C hr rfl dX5_about_113 ?_
        exact ⟨⟨_, rfl⟩, rfl⟩
      · refine hp_tableIn (tgt := 114) C dX5_about_7 (by decide) (by decide) rfl (by decide) ?_
        refine hp_aload_nR C dX5_about_114 rfl ?_
        refine hp_instY C 2 cl_X5_22 (by decide) rfl (by decide) dX5_about_115 (K.isK hn hk) ?_
        refine hp_if_eq (tgt := 138) C dX5_about_118 (by decide) (fun z_9 => absurd z_9 (by decide)) (fun _ => ?_)
        refine hp_aload_nR C dX5_about_121 rfl ?_
        refine hp_castY C 2 cl_X5_22 (by decide) rfl (by decide) dX5_about_122 (K.isK hn hk) ?_
        refine hp_astore (r := some _) C dX5_about_125 (by decide) ?_
        refine hp_aloadR C dX5_about_127 rfl ?_
        refine hp_get C fl_X5_146_2 dX5_about_129 (K.isK hn hk) (K.f69 hn hk) ?_
        refine hp_callV (ci := 0) C ml_X5_150 im_Jx4a65c_size_8abf5 se_Jx4a65c_size_8abf5 rfl (by decide) (kc_size (d := d - 1) K hn hk) (by omega) dX5_about_132 (K.isL hn hk) rfl rfl (by simp [Value.category]) (fun v_132 h_132 hp => ?_) (fun _ _ hf => hf.elim)
        obtain ⟨rfl, e_132⟩ := hp
        rw [e_132]
        refine hp_goto (tgt := 139) C dX5_about_135 (by decide) ?_
        refine hp_iret C hr rfl dX5_about_139 ?_
        exact ⟨⟨_, rfl⟩, rfl⟩
      · refine hp_tableIn (tgt := 140) C dX5_about_7 (by decide) (by decide) rfl (by decide) ?_
        refine hp_aload_nR C dX5_about_140 rfl ?_
        refine hp_instY C 2 cl_X5_22 (by decide) rfl (by decide) dX5_about_141 (K.isK hn hk) ?_
        refine hp_if_eq (tgt := 168) C dX5_about_144 (by decide) (fun z_9 => absurd z_9 (by decide)) (fun _ => ?_)
        refine hp_aload_nR C dX5_about_147 rfl ?_
        refine hp_castY C 2 cl_X5_22 (by decide) rfl (by decide) dX5_about_148 (K.isK hn hk) ?_
        refine hp_astore (r := some _) C dX5_about_151 (by decide) ?_
        refine hp_aloadR C dX5_about_153 rfl ?_
        refine hp_aload_nR C dX5_about_155 rfl ?_
        refine hp_get C fl_X5_10_5 dX5_about_156 K.isT K.f160 ?_
        refine hp_get C fl_X5_127_1 dX5_about_159 K.isJ K.f33 ?_
        refine hp_callV (ci := 2) C ml_X5_156 im_X1_recentRestarts se_X1_recentRestarts rfl (by decide) (kc_rr (d := d - 1) K hn hk (k_small K A hn hk htm) (by have := (K.isI hn hk).2; have := K.isI2 hn hk; omega) (by omega)) (by omega) dX5_about_162 (K.isK hn hk) rfl rfl (by simp [Value.category]) (fun v_162 h_162 hp => ?_) (fun _ _ hf => hf.elim)
        obtain ⟨rfl, e_162⟩ := hp
        rw [e_162]
        refine hp_goto (tgt := 169) C dX5_about_165 (by decide) ?_
        refine hp_iret C hr rfl dX5_about_169 ?_
        exact ⟨⟨_, rfl⟩, rfl⟩
      · refine hp_tableIn (tgt := 170) C dX5_about_7 (by decide) (by decide) rfl (by decide) ?_
        refine hp_aload_nR C dX5_about_170 rfl ?_
        refine hp_instNo C 2 cl_X5_83 (by decide) rfl (by decide) dX5_about_171 (K.isK hn hk) ?_
        refine hp_if_eq (tgt := 191) C dX5_about_174 (by decide) (fun _ => ?_) (fun z_9 => absurd z_9 (by decide))
        refine hp_iconst (v := (-1)) C dX5_about_191 (by decide) ?_
        refine hp_iret C hr rfl dX5_about_192 ?_
        exact ⟨⟨_, rfl⟩, rfl⟩
set_option maxHeartbeats 4000000 in
theorem kl_ci {M : hpM} {G : hpG} {d : Nat} {h0 h : hpT} {pr : Nat → Prop} {B : hpT} {N S : Nat} {κ : kS} {a : aS} (K : KR G pr B N S h κ a) (T : a_T a) (C : hp_F M G yX5_countIn cX5_countIn 5 d h0) (hr : (hp_mt M).sig.returnType = some .int) {s : Int} (hs : 0 ≤ s ∧ s ≤ 2) {X : String → hpT → Prop} {P : Option Value → hpT → Prop} (hP : P (some (.int (nI (a_ci a s (a_mk a))))) h) : ∀ (k i : Nat) (lo : Nat → Option Value), i + k = 80 → lo 0 = some (.ref (κ.1 5 0)) → lo 1 = some (.int (Int32.ofInt s)) → lo 2 = some (.int (nI (a_ci a s (min i (a_mk a))))) → lo 3 = some (.int (nI i)) → hp_V M G 5 (hp_Q M G h0 P X) h 4 lo [] := by
  have m80 := T.1.2
  intro k
  induction k with
  | zero =>
    intro i lo hi e0 e1 e2 e3
    have ei : i = 80 := by omega
    subst ei
    rw [Nat.min_eq_right m80] at e2
    refine hp_iload_n C dX5_countIn_4 e3 ?_
    refine hp_bipush (v := 80) C dX5_countIn_5 (by decide) ?_
    refine hp_icmp_ge (tgt := 41) C dX5_countIn_7 (by decide) (fun _ => ?_) (fun z_9 => absurd (show (80 : Int32) ≤ nI 80 by decide) z_9)
    refine hp_iload_n C dX5_countIn_41 e2 ?_
    refine hp_iret C hr rfl dX5_countIn_42 ?_
    exact hP
  | succ k ih =>
    intro i lo hi e0 e1 e2 e3
    by_cases c : i < a_mk a
    · have hib := T.kb c
      have r3 := T.r3 c
      have e2' := Nat.min_eq_left (Nat.le_of_lt c)
      rw [e2'] at e2
      have en : min (i + 1) (a_mk a) = i + 1 := Nat.min_eq_left c
      refine hp_iload_n C dX5_countIn_4 e3 ?_
      refine hp_bipush (v := 80) C dX5_countIn_5 (by decide) ?_
      refine hp_icmp_ge (tgt := 41) C dX5_countIn_7 (by decide) (fun z_9 => absurd z_9 (nI_ge (a := i) (b := 80) (by omega) (by omega))) (fun _ => ?_)
      refine hp_aload_nR C dX5_countIn_10 e0 ?_
      refine hp_get C fl_X5_18_5 dX5_countIn_11 K.isT K.f161 ?_
      refine hp_iload_n C dX5_countIn_14 e3 ?_
      refine hp_aald (v := .ref (κ.1 0 i)) C 4 rfl rfl (by decide) dX5_countIn_15 K.isM.1 (by rw [K.isM.2]; exact nI_in (by omega) (by omega)) ((congrArg (hp_ar h (κ.1 5 7)) (nI_clamp (by omega))).trans ((K.nod (by omega)).trans (by rw [if_pos c]; rfl))) ?_
      refine hp_astore (r := some _) C dX5_countIn_16 (by decide) ?_
      refine hp_aloadR C dX5_countIn_18 rfl ?_
      refine hp_ifnull (r := some _) (tgt := 35) C dX5_countIn_20 (by decide) (fun hx_ => by cases hx_) (fun _ _ => ?_)
      refine hp_aloadR C dX5_countIn_23 rfl ?_
      refine kg_N C K c hib (by decide) fl_X5_113_2 fl_X5_113_4 dX5_countIn_25 (K.f68 c) ?_
      refine hp_iload_n C dX5_countIn_28 e1 ?_
      refine hp_icmp_ne (tgt := 35) C dX5_countIn_29 (by decide) (fun c_29 => ?_) (fun c_29 => ?_)
      · have hq : ¬ a_nd a 3 i = s := fun e => c_29 (by rw [e])
        refine hp_iinc C dX5_countIn_35 e3 (by decide) rfl ?_
        refine hp_goto (tgt := 4) C dX5_countIn_38 (by decide) ?_
        have eq : a_ci a s (i + 1) = a_ci a s i := if_neg hq
        exact ih (i + 1) _ (by omega) e0 e1 (by rw [en, eq]; exact e2) ((va_up_self _ _ _).trans (by rw [show Int32.ofInt 1 = 1 from rfl, nI_1]))
      · have hq : a_nd a 3 i = s := (a_ofI_eq (x := a_nd a 3 i) (y := s) (by omega) (by omega)).mp c_29
        refine hp_iinc C dX5_countIn_32 e2 (by decide) rfl ?_
        refine hp_iinc C dX5_countIn_35 e3 (by decide) rfl ?_
        refine hp_goto (tgt := 4) C dX5_countIn_38 (by decide) ?_
        have eq : a_ci a s (i + 1) = a_ci a s i + 1 := if_pos hq
        exact ih (i + 1) _ (by omega) e0 e1 (by rw [en, eq, ← nI_1]; rfl) ((va_up_self _ _ _).trans (by rw [show Int32.ofInt 1 = 1 from rfl, nI_1]))
    · have en : min (i + 1) (a_mk a) = min i (a_mk a) := by rw [Nat.min_eq_right (by omega), Nat.min_eq_right (by omega)]
      refine hp_iload_n C dX5_countIn_4 e3 ?_
      refine hp_bipush (v := 80) C dX5_countIn_5 (by decide) ?_
      refine hp_icmp_ge (tgt := 41) C dX5_countIn_7 (by decide) (fun z_9 => absurd z_9 (nI_ge (a := i) (b := 80) (by omega) (by omega))) (fun _ => ?_)
      refine hp_aload_nR C dX5_countIn_10 e0 ?_
      refine hp_get C fl_X5_18_5 dX5_countIn_11 K.isT K.f161 ?_
      refine hp_iload_n C dX5_countIn_14 e3 ?_
      refine hp_aald (v := .null) C 4 rfl rfl (by decide) dX5_countIn_15 K.isM.1 (by rw [K.isM.2]; exact nI_in (by omega) (by omega)) ((congrArg (hp_ar h (κ.1 5 7)) (nI_clamp (by omega))).trans ((K.nod (by omega)).trans (by rw [if_neg c]; rfl))) ?_
      refine hp_astore (r := none) C dX5_countIn_16 (by decide) ?_
      refine hp_aload (r := none) C dX5_countIn_18 rfl ?_
      refine hp_ifnull (r := none) (tgt := 35) C dX5_countIn_20 (by decide) (fun _ => ?_) (fun _ hx_ => by cases hx_)
      refine hp_iinc C dX5_countIn_35 e3 (by decide) rfl ?_
      refine hp_goto (tgt := 4) C dX5_countIn_38 (by decide) ?_
      exact ih (i + 1) _ (by omega) e0 e1 (by rw [en]; exact e2) ((va_up_self _ _ _).trans (by rw [show Int32.ofInt 1 = 1 from rfl, nI_1]))
set_option maxRecDepth 20000 in
set_option maxHeartbeats 4000000 in
theorem kc_cin {l : Launch} {G : hpG} {pr : Nat → Prop} {B : hpT} {N S : Nat} {h : hpT} {κ : kS} {a : aS} {d : Nat} (K : KR G pr B N S h κ a) (T : a_T a) {s : Int} (hs : 0 ≤ s ∧ s ≤ 2) : hp_C l G yX5_countIn (.code yX5_countIn cX5_countIn 5 (some .int)) d [.ref (κ.1 5 0), .int (Int32.ofInt s)] (h) (fun v h' => v = some (.int (nI (a_ci a s (a_mk a)))) ∧ h' = h) (fun _ _ => False) := by
  refine hp_ofV (by decide) (by simp [Value.category]) (Nat.le_of_ble_eq_true rfl) (fun M C hr hx el => ?_)
  refine hp_iconst (v := 0) C dX5_countIn_0 (by decide) ?_
  refine hp_istore_n C dX5_countIn_1 (by decide) ?_
  refine hp_iconst (v := 0) C dX5_countIn_2 (by decide) ?_
  refine hp_istore_n C dX5_countIn_3 (by decide) ?_
  exact kl_ci K T C hr hs ⟨rfl, rfl⟩ 80 0 _ (by omega) rfl rfl (by rw [Nat.zero_min]; rfl) rfl
def a_tot (a : aS) (z : Int32) : Int32 := if z = 0 then nI (a_tm a) else if z = 1 then nI (a_mk a) else if z = 2 then nI (a_ci a 1 (a_mk a)) else if z = 3 then nI (a_ci a 2 (a_mk a)) else if z = 4 then nI (a_ev a).length else if z = 5 then nI (a_rs a) else nI (a_gv a)
set_option maxRecDepth 20000 in
set_option maxHeartbeats 4000000 in
theorem kp_totalX {l : Launch} {G : hpG} {pr : Nat → Prop} {B : hpT} {N S : Nat} {h : hpT} {κ : kS} {a : aS} {d : Nat} (K : KR G pr B N S h κ a) {z : Int32} (hz : ¬ (0 ≤ z.toInt ∧ z.toInt ≤ 6)) (hd : 8 ≤ d) (hR1 : hp_nx h + 1 ≤ hp_n0 G + hp_LC) (hR2 : hp_sl h + 6 ≤ hp_LS) : hp_C l G yX5_total (.code yX5_total cX5_total 2 (some .int)) d [.ref (κ.1 5 0), .int z] (h) (fun _ _ => False) (fun E h' => E = "java/lang/IllegalArgumentException" ∧ h' = hp_mkX h) := by
  refine hp_ofV (by decide) (by simp [Value.category]) (Nat.le_of_ble_eq_true rfl) (fun M C hr hx el => ?_)
  refine hp_iload_n C dX5_total_0 rfl ?_
  refine hp_tableOut (tgt := 87) C dX5_total_1 (by omega) (by decide) ?_
  refine hp_athrow C tl_A (by omega) dX5_total_87 dX5_total_90 dX5_total_91 dX5_total_94 hx (by simp [Value.category]) hR1 hR2 ?_
  exact ⟨rfl, rfl⟩
set_option maxRecDepth 20000 in
set_option maxHeartbeats 4000000 in
theorem kp_total {l : Launch} {G : hpG} {pr : Nat → Prop} {B : hpT} {N S : Nat} {h : hpT} {κ : kS} {a : aS} {d : Nat} (K : KR G pr B N S h κ a) {z : Int32} (T : a_T a) (hz : 0 ≤ z.toInt ∧ z.toInt ≤ 6) (hd : 8 ≤ d) : hp_C l G yX5_total (.code yX5_total cX5_total 2 (some .int)) d [.ref (κ.1 5 0), .int z] (h) (fun v h' => v = some (.int (a_tot a z)) ∧ h' = h) (fun _ _ => False) := by
  refine hp_ofV (by decide) (by simp [Value.category]) (Nat.le_of_ble_eq_true rfl) (fun M C hr hx el => ?_)
  refine hp_iload_n C dX5_total_0 rfl ?_
  have q_2 : (z) = 0 ∨ (z) = 1 ∨ (z) = 2 ∨ (z) = 3 ∨ (z) = 4 ∨ (z) = 5 ∨ (z) = 6 := by
    have q_3 : (z).toInt = 0 ∨ (z).toInt = 1 ∨ (z).toInt = 2 ∨ (z).toInt = 3 ∨ (z).toInt = 4 ∨ (z).toInt = 5 ∨ (z).toInt = 6 := by omega
    rcases q_3 with q_3 | q_3 | q_3 | q_3 | q_3 | q_3 | q_3 <;> first | exact Or.inl (Int32.toInt_inj.mp (q_3.trans (by decide))) | exact Or.inr (Or.inl (Int32.toInt_inj.mp (q_3.trans (by decide)))) | exact Or.inr (Or.inr (Or.inl (Int32.toInt_inj.mp (q_3.trans (by decide))))) | exact Or.inr (Or.inr (Or.inr (Or.inl (Int32.toInt_inj.mp (q_3.trans (by decide)))))) | exact Or.inr (Or.inr (Or.inr (Or.inr (Or.inl (Int32.toInt_inj.mp (q_3.trans (by decide))))))) | exact Or.inr (Or.inr (Or.inr (Or.inr (Or.inr (Or.inl (Int32.toInt_inj.mp (q_3.trans (by decide)))))))) | exact Or.inr (Or.inr (Or.inr (Or.inr (Or.inr (Or.inr ((Int32.toInt_inj.mp (q_3.trans (by decide)))))))))
  rcases q_2 with rfl | rfl | rfl | rfl | rfl | rfl | rfl
  · refine hp_tableIn (tgt := 44) C dX5_total_1 (by decide) (by decide) rfl (by decide) ?_
    refine hp_aload_nR C dX5_total_44 rfl ?_
    refine hp_get C fl_X5_10_5 dX5_total_45 K.isT K.f160 ?_
    refine hp_get C fl_X5_127_1 dX5_total_48 K.isJ K.f33 ?_
    refine hp_iret C hr rfl dX5_total_51 ?_
    exact ⟨rfl, rfl⟩
  · refine hp_tableIn (tgt := 52) C dX5_total_1 (by decide) (by decide) rfl (by decide) ?_
    refine hp_aload_nR C dX5_total_52 rfl ?_
    refine hp_get C fl_X5_31_5 dX5_total_53 K.isT K.f163 ?_
    refine hp_iret C hr rfl dX5_total_56 ?_
    exact ⟨rfl, rfl⟩
  · refine hp_tableIn (tgt := 57) C dX5_total_1 (by decide) (by decide) rfl (by decide) ?_
    refine hp_aload_nR C dX5_total_57 rfl ?_
    refine hp_iconst (v := 1) C dX5_total_58 (by decide) ?_
    refine hp_callV (ci := 5) C ml_X5_172 im_X5_countIn se_X5_countIn rfl (by decide) (kc_cin (d := d - 1) (s := 1) K T (by omega)) (by omega) dX5_total_59 K.isT rfl rfl (by simp [Value.category]) (fun v_59 h_59 hp => ?_) (fun _ _ hf => hf.elim)
    obtain ⟨rfl, e_59⟩ := hp
    rw [e_59]
    refine hp_iret C hr rfl dX5_total_62 ?_
    exact ⟨rfl, rfl⟩
  · refine hp_tableIn (tgt := 63) C dX5_total_1 (by decide) (by decide) rfl (by decide) ?_
    refine hp_aload_nR C dX5_total_63 rfl ?_
    refine hp_iconst (v := 2) C dX5_total_64 (by decide) ?_
    refine hp_callV (ci := 5) C ml_X5_172 im_X5_countIn se_X5_countIn rfl (by decide) (kc_cin (d := d - 1) (s := 2) K T (by omega)) (by omega) dX5_total_65 K.isT rfl rfl (by simp [Value.category]) (fun v_65 h_65 hp => ?_) (fun _ _ hf => hf.elim)
    obtain ⟨rfl, e_65⟩ := hp
    rw [e_65]
    refine hp_iret C hr rfl dX5_total_68 ?_
    exact ⟨rfl, rfl⟩
  · refine hp_tableIn (tgt := 69) C dX5_total_1 (by decide) (by decide) rfl (by decide) ?_
    refine hp_aload_nR C dX5_total_69 rfl ?_
    refine hp_get C fl_X5_10_5 dX5_total_70 K.isT K.f160 ?_
    refine hp_get C fl_X5_175_1 dX5_total_73 K.isJ K.f34 ?_
    refine hp_iret C hr rfl dX5_total_76 ?_
    exact ⟨rfl, rfl⟩
  · refine hp_tableIn (tgt := 77) C dX5_total_1 (by decide) (by decide) rfl (by decide) ?_
    refine hp_aload_nR C dX5_total_77 rfl ?_
    refine hp_get C fl_X5_35_5 dX5_total_78 K.isT K.f164 ?_
    refine hp_iret C hr rfl dX5_total_81 ?_
    exact ⟨rfl, rfl⟩
  · refine hp_tableIn (tgt := 82) C dX5_total_1 (by decide) (by decide) rfl (by decide) ?_
    refine hp_aload_nR C dX5_total_82 rfl ?_
    refine hp_get C fl_X5_38_5 dX5_total_83 K.isT K.f165 ?_
    refine hp_iret C hr rfl dX5_total_86 ?_
    exact ⟨rfl, rfl⟩
