/-! ===== the handling of an end ===== -/
abbrev a_pa (a : aS) (c : Nat) : Nat := (a_nd a 1 c).toNat
abbrev a_fu (a : aS) (c : Nat) : Nat := (9 - a_nd a 2 c).toNat
def a_hd : Nat → Nat → Nat → aS → aS
  | 0, _, _, a => a
  | k + 1, c, y, a => if c = 0 then a else if a_nd a 4 c = 2 then (a_dis (a_fu a c) (a_pa a c) c (a_ix c (a_rw a (a_pa a c))) a).2 else if a_nd a 4 c = 1 ∧ y ≤ 1 then a
    else if (a_lp (a_fu a c) (a_pa a c) 1000000 c a).1 = true then (a_lp (a_fu a c) (a_pa a c) 1000000 c a).2 else a_hd k (a_pa a c) 1 (a_lp (a_fu a c) (a_pa a c) 1000000 c a).2
/-- on the way up every node is in its keeper's row -/
def a_hok : Nat → Nat → Nat → aS → Prop
  | 0, _, _, _ => True
  | k + 1, c, y, a => c < a_mk a ∧ (c ≠ 0 → c ∈ a_rw a (a_pa a c) ∧ a_pa a c < a_mk a ∧ a_nd a 0 (a_pa a c) = 1 ∧ (¬ a_nd a 4 c = 2 → ¬ (a_nd a 4 c = 1 ∧ y ≤ 1) → ¬ (a_lp (a_fu a c) (a_pa a c) 1000000 c a).1 = true → a_T (a_lp (a_fu a c) (a_pa a c) 1000000 c a).2 ∧ a_A (a_lp (a_fu a c) (a_pa a c) 1000000 c a).2 ∧ a_hok k (a_pa a c) 1 (a_lp (a_fu a c) (a_pa a c) 1000000 c a).2))
theorem a_hd_le : ∀ (k c y : Nat) (a : aS), a_le a (a_hd k c y a)
  | 0, _, _, a => a_le.rf a
  | k + 1, c, y, a => by
    unfold a_hd
    split
    · exact a_le.rf a
    · split
      · exact (a_dis_k2 _ _ _ _ a).le
      · split
        · exact a_le.rf a
        · split
          · exact a_lp_le _ _ _ _ a
          · exact (a_lp_le _ _ _ _ a).tr (a_hd_le k _ _ _)
set_option maxRecDepth 20000 in
set_option maxHeartbeats 4000000 in
theorem kl_he {M : hpM} {G : hpG} {d : Nat} {h0 : hpT} {pr : Nat → Prop} {B : hpT} {N0 S0 : Nat} (C : hp_F M G yX5_handleEnd cX5_handleEnd 7 d h0) (hr : (hp_mt M).sig.returnType = none) (hD : 40 ≤ d) {X : String → hpT → Prop} {P : Option Value → hpT → Prop} : ∀ (k lv c y : Nat) (lo : Nat → Option Value) (h : hpT) (κ : kS) (a : aS), lv + k = 9 → KQ G pr B N0 S0 h κ a → a_T a → a_A a → a_hok k c y a → y < 2 ^ 30 → a_fin G N0 S0 (a_hd k c y a) → lo 0 = some (.ref (κ.1 5 0)) → lo 3 = some (.ref (κ.1 0 c)) → lo 4 = some (.int (nI y)) → lo 5 = some (.int (nI lv)) → (∀ h' κ', KQ G pr B N0 S0 h' κ' (a_hd k c y a) → (∀ r, r ≠ 4 → κ'.1 r = κ.1 r) → P none h') → hp_V M G 7 (hp_Q M G h0 P X) h 8 lo [] := by
  intro k
  induction k with
  | zero =>
    intro lv c y lo h κ a hlv K T A hok hy hfin e0 e3 e4 e5 hP
    have el : lv = 9 := by omega
    subst el
    refine hp_iload C dX5_handleEnd_8 e5 ?_
    refine hp_bipush (v := 8) C dX5_handleEnd_10 (by decide) ?_
    refine hp_icmp_gt (tgt := 85) C dX5_handleEnd_12 (by decide) (fun _ => ?_) (fun z_9 => absurd (show (8 : Int32) < nI 9 by decide) z_9)
    refine hp_vret C hr dX5_handleEnd_85 ?_
    exact hP h κ K (fun _ _ => rfl)
  | succ k ih =>
    intro lv c y lo h κ a hlv K T A hok hy hfin e0 e3 e4 e5 hP
    obtain ⟨hc, hok⟩ := hok
    have hb := T.kb hc
    have r4 := T.r4 hc
    unfold a_hd at hfin hP
    by_cases hc0 : c = 0
    · rw [if_pos hc0] at hP
      refine hp_iload C dX5_handleEnd_8 e5 ?_
      refine hp_bipush (v := 8) C dX5_handleEnd_10 (by decide) ?_
      refine hp_icmp_gt (tgt := 85) C dX5_handleEnd_12 (by decide) (fun z_9 => absurd z_9 (by rw [Int32.lt_iff_toInt_lt, nI_toInt (by omega), show (8 : Int32).toInt = 8 by decide]; omega)) (fun _ => ?_)
      refine hp_aload_nR C dX5_handleEnd_15 e3 ?_
      refine kg_N (v := .null) C K hc hb (by decide) fl_X5_133_2 fl_X5_133_4 dX5_handleEnd_16 ((K.f65 hc).trans (by rw [if_pos hc0]; rfl)) ?_
      refine hp_astore (r := none) C dX5_handleEnd_19 (by decide) ?_
      refine hp_aload (r := none) C dX5_handleEnd_21 rfl ?_
      refine hp_ifnonnull (r := none) (tgt := 27) C dX5_handleEnd_23 (by decide) (fun _ hx_ => by cases hx_) (fun _ => ?_)
      refine hp_vret C hr dX5_handleEnd_26 ?_
      exact hP h κ K (fun _ _ => rfl)
    · rw [if_neg hc0] at hfin hP
      obtain ⟨hm, hn, hk, hrest⟩ := hok hc0
      obtain ⟨-, hp1, hdep⟩ := T.rc hn hm
      have r2 := T.r2 hc
      generalize hp : a_pa a c = p at *
      generalize hf : a_fu a c = f at *
      have hf1 : (9 - a_nd a 2 c).toNat = f := hf
      have h9 : (9 : Int) ≤ f + a_nd a 2 c := by omega
      have h8 : (8 : Int) ≤ f + a_nd a 2 p := by omega
      have hf9 : f ≤ 9 := by omega
      have hix := a_ix_ok hm
      refine hp_iload C dX5_handleEnd_8 e5 ?_
      refine hp_bipush (v := 8) C dX5_handleEnd_10 (by decide) ?_
      refine hp_icmp_gt (tgt := 85) C dX5_handleEnd_12 (by decide) (fun z_9 => absurd z_9 (by rw [Int32.lt_iff_toInt_lt, nI_toInt (by omega), show (8 : Int32).toInt = 8 by decide]; omega)) (fun _ => ?_)
      refine hp_aload_nR C dX5_handleEnd_15 e3 ?_
      refine kg_N (v := .ref (κ.1 0 p)) C K hc hb (by decide) fl_X5_133_2 fl_X5_133_4 dX5_handleEnd_16 ((K.f65 hc).trans (by rw [if_neg hc0]; show va_rf (some (κ.1 0 (a_pa a c))) = _; rw [hp]; rfl)) ?_
      refine hp_astore (r := some _) C dX5_handleEnd_19 (by decide) ?_
      refine hp_aloadR C dX5_handleEnd_21 rfl ?_
      refine hp_ifnonnull (r := some _) (tgt := 27) C dX5_handleEnd_23 (by decide) (fun _ _ => ?_) (fun hx_ => by cases hx_)
      refine hp_aload_nR C dX5_handleEnd_27 e3 ?_
      refine kg_N C K hc hb (by decide) fl_X5_143_2 fl_X5_143_4 dX5_handleEnd_28 (K.f67 hc) ?_
      refine hp_iconst (v := 2) C dX5_handleEnd_31 (by decide) ?_
      refine hp_icmp_ne (tgt := 47) C dX5_handleEnd_32 (by decide) (fun c_32 => ?_) (fun c_32 => ?_)
      · have h42 : ¬ a_nd a 4 c = 2 := fun e => c_32 (by rw [e]; decide)
        rw [if_neg h42] at hfin hP
        refine hp_aload_nR C dX5_handleEnd_47 e3 ?_
        refine kg_N C K hc hb (by decide) fl_X5_143_2 fl_X5_143_4 dX5_handleEnd_48 (K.f67 hc) ?_
        refine hp_iconst (v := 1) C dX5_handleEnd_51 (by decide) ?_
        refine hp_icmp_ne (tgt := 62) C dX5_handleEnd_52 (by decide) (fun c_52 => ?_) (fun c_52 => ?_)
        · have hno : ¬ (a_nd a 4 c = 1 ∧ y ≤ 1) := fun e => c_52 (by rw [e.1]; decide)
          rw [if_neg hno] at hfin hP
          refine hp_aload_nR C dX5_handleEnd_62 e0 ?_
          refine hp_aloadR C dX5_handleEnd_63 rfl ?_
          refine hp_aload_nR C dX5_handleEnd_65 e3 ?_
          have hfl : a_fin G N0 S0 (a_lp f p 1000000 c a).2 := (by
            by_cases z : (a_lp f p 1000000 c a).1 = true
            · rw [if_pos z] at hfin; exact hfin
            · rw [if_neg z] at hfin; exact hfin.le (a_hd_le k p 1 _))
          refine hp_callV (ci := 5) C ml_X5_185 im_X5_restartOrGiveUp se_X5_restartOrGiveUp rfl (by decide) (kc_rog (d := d - 1) (f := f) K T A hn hk h8 hm (by omega) hfl) (by omega) dX5_handleEnd_66 K.isT rfl rfl (by simp [Value.category]) (fun v_66 h_66 hp => ?_) (fun _ _ hf => hf.elim)
          obtain ⟨rfl, κ1, K_66, g1⟩ := hp
          refine hp_if_eq (tgt := 73) C dX5_handleEnd_69 (by decide) (fun c_69 => ?_) (fun c_69 => ?_)
          · have hz : ¬ (a_lp f p 1000000 c a).1 = true := fun z => absurd (c_69.symm.trans (if_pos z)) (by decide)
            rw [if_neg hz] at hfin hP
            obtain ⟨T3, A3, hok3⟩ := hrest h42 hno hz
            refine hp_aloadR C dX5_handleEnd_73 rfl ?_
            refine hp_astore_n (r := some _) C dX5_handleEnd_75 (by decide) ?_
            refine hp_iconst (v := 1) C dX5_handleEnd_76 (by decide) ?_
            refine hp_istore C dX5_handleEnd_77 (by decide) ?_
            refine hp_iinc C dX5_handleEnd_79 e5 (by decide) rfl ?_
            refine hp_goto (tgt := 8) C dX5_handleEnd_82 (by decide) ?_
            exact ih (lv + 1) p 1 _ _ κ1 _ (by omega) K_66 T3 A3 hok3 (by omega) hfin (by rw [g1 5 (by decide)]; exact e0) (by rw [g1 0 (by decide)]; rfl) rfl ((va_up_self _ _ _).trans (by rw [show Int32.ofInt 1 = 1 from rfl, nI_1])) (fun h' κ' K' g' => hP h' κ' K' (fun r hr => (g' r hr).trans (g1 r hr)))
          · have hz : (a_lp f p 1000000 c a).1 = true := Classical.byContradiction (fun z => c_69 (if_neg z))
            rw [if_pos hz] at hP
            refine hp_vret C hr dX5_handleEnd_72 ?_
            exact hP _ κ1 K_66 g1
        · refine hp_iload C dX5_handleEnd_55 e4 ?_
          refine hp_iconst (v := 1) C dX5_handleEnd_57 (by decide) ?_
          refine hp_icmp_gt (tgt := 62) C dX5_handleEnd_58 (by decide) (fun c_58 => ?_) (fun c_58 => ?_)
          · have hno : ¬ (a_nd a 4 c = 1 ∧ y ≤ 1) := fun e => by
              have := (nI_ltI (a := 1) (b := y) (by omega) (by omega)).mp c_58
              omega
            rw [if_neg hno] at hfin hP
            refine hp_aload_nR C dX5_handleEnd_62 e0 ?_
            refine hp_aloadR C dX5_handleEnd_63 rfl ?_
            refine hp_aload_nR C dX5_handleEnd_65 e3 ?_
            have hfl : a_fin G N0 S0 (a_lp f p 1000000 c a).2 := (by
              by_cases z : (a_lp f p 1000000 c a).1 = true
              · rw [if_pos z] at hfin; exact hfin
              · rw [if_neg z] at hfin; exact hfin.le (a_hd_le k p 1 _))
            refine hp_callV (ci := 5) C ml_X5_185 im_X5_restartOrGiveUp se_X5_restartOrGiveUp rfl (by decide) (kc_rog (d := d - 1) (f := f) K T A hn hk h8 hm (by omega) hfl) (by omega) dX5_handleEnd_66 K.isT rfl rfl (by simp [Value.category]) (fun v_66 h_66 hp => ?_) (fun _ _ hf => hf.elim)
            obtain ⟨rfl, κ1, K_66, g1⟩ := hp
            refine hp_if_eq (tgt := 73) C dX5_handleEnd_69 (by decide) (fun c_69 => ?_) (fun c_69 => ?_)
            · have hz : ¬ (a_lp f p 1000000 c a).1 = true := fun z => absurd (c_69.symm.trans (if_pos z)) (by decide)
              rw [if_neg hz] at hfin hP
              obtain ⟨T3, A3, hok3⟩ := hrest h42 hno hz
              refine hp_aloadR C dX5_handleEnd_73 rfl ?_
              refine hp_astore_n (r := some _) C dX5_handleEnd_75 (by decide) ?_
              refine hp_iconst (v := 1) C dX5_handleEnd_76 (by decide) ?_
              refine hp_istore C dX5_handleEnd_77 (by decide) ?_
              refine hp_iinc C dX5_handleEnd_79 e5 (by decide) rfl ?_
              refine hp_goto (tgt := 8) C dX5_handleEnd_82 (by decide) ?_
              exact ih (lv + 1) p 1 _ _ κ1 _ (by omega) K_66 T3 A3 hok3 (by omega) hfin (by rw [g1 5 (by decide)]; exact e0) (by rw [g1 0 (by decide)]; rfl) rfl ((va_up_self _ _ _).trans (by rw [show Int32.ofInt 1 = 1 from rfl, nI_1])) (fun h' κ' K' g' => hP h' κ' K' (fun r hr => (g' r hr).trans (g1 r hr)))
            · have hz : (a_lp f p 1000000 c a).1 = true := Classical.byContradiction (fun z => c_69 (if_neg z))
              rw [if_pos hz] at hP
              refine hp_vret C hr dX5_handleEnd_72 ?_
              exact hP _ κ1 K_66 g1
          · have h41 : a_nd a 4 c = 1 := (a_ofI_eq (x := a_nd a 4 c) (y := 1) (by omega) (by omega)).mp c_52
            have hy1 : y ≤ 1 := by
              have := (not_congr (nI_ltI (a := 1) (b := y) (by omega) (by omega))).mp c_58
              omega
            rw [if_pos ⟨h41, hy1⟩] at hP
            refine hp_vret C hr dX5_handleEnd_61 ?_
            exact hP h κ K (fun _ _ => rfl)
      · have h42 : a_nd a 4 c = 2 := (a_ofI_eq (x := a_nd a 4 c) (y := 2) (by omega) (by omega)).mp c_32
        rw [if_pos h42] at hfin hP
        refine hp_aloadR C dX5_handleEnd_35 rfl ?_
        refine hp_aload_nR C dX5_handleEnd_37 e3 ?_
        refine hp_aload_nR C dX5_handleEnd_38 e0 ?_
        refine hp_get C fl_X5_10_5 dX5_handleEnd_39 K.isT K.f160 ?_
        refine hp_callV (ci := 2) C ml_X5_89 im_X1_dismiss se_X1_dismiss rfl (by decide) (kc_dismiss (d := d - 1) (f := f) (c := c) (t := a_ix c (a_rw a p)) (γ := κ.1) (μ := κ.2.1) (ρ := κ.2.2) K T hn hk hix.1 hix.2.1 h9 (by omega) (Nat.lt_of_le_of_lt (a_dis_k2 f p c _ a).ev hfin.2.1)) (by omega) dX5_handleEnd_42 (K.isK hn hk) rfl rfl (by simp [Value.category]) (fun v_42 h_42 hp => ?_) (fun _ _ hf => hf.elim)
        obtain ⟨rfl, μ1, K_42⟩ := hp
        refine hp_pop C dX5_handleEnd_45 rfl ?_
        refine hp_vret C hr dX5_handleEnd_46 ?_
        exact hP _ (κ.1, μ1, κ.2.2) (KQ.of K_42 (a_dis_k2 f p c _ a).rs) (fun _ _ => rfl)
set_option maxRecDepth 20000 in
set_option maxHeartbeats 4000000 in
theorem kc_he {l : Launch} {G : hpG} {pr : Nat → Prop} {B : hpT} {N0 S0 : Nat} {h : hpT} {κ : kS} {a : aS} {d : Nat} (K : KQ G pr B N0 S0 h κ a) (T : a_T a) (A : a_A a) {c y : Nat} (hok : a_hok 9 c y a) (hy : y < 2 ^ 30) (hD : 40 ≤ d) (hfin : a_fin G N0 S0 (a_hd 9 c y a)) : hp_C l G yX5_handleEnd (.code yX5_handleEnd cX5_handleEnd 7 none) d [.ref (κ.1 5 0), .ref (κ.1 0 c), .int (nI y)] (h) (fun v h' => v = none ∧ ∃ κ', KQ G pr B N0 S0 h' κ' (a_hd 9 c y a) ∧ ∀ r, r ≠ 4 → κ'.1 r = κ.1 r) (fun _ _ => False) := by
  refine hp_ofV (by decide) (by simp [Value.category]) (Nat.le_of_ble_eq_true rfl) (fun M C hr hx el => ?_)
  refine hp_aload_nR C dX5_handleEnd_0 rfl ?_
  refine hp_astore_n (r := some _) C dX5_handleEnd_1 (by decide) ?_
  refine hp_iload_n C dX5_handleEnd_2 rfl ?_
  refine hp_istore C dX5_handleEnd_3 (by decide) ?_
  refine hp_iconst (v := 0) C dX5_handleEnd_5 (by decide) ?_
  refine hp_istore C dX5_handleEnd_6 (by decide) ?_
  exact kl_he C hr hD 9 0 c y _ h κ a (by omega) K T A hok hy hfin rfl rfl rfl rfl (fun h' κ' K' g' => ⟨rfl, κ', K', g'⟩)
