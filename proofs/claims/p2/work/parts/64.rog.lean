theorem cs_X5_189 : Cond.constant RX5 189 1000000 ∈ hp_ws := (hp_in3 38 (by decide +kernel) rfl)
theorem a_rF_len (f p fr : Nat) : ∀ (j : Nat) (a : aS), fr ≤ (a_rw a p).length → j ≤ (a_rw a p).length → fr ≤ (a_rw (a_rF f p fr j a) p).length
  | 0, a, h, _ => h
  | j + 1, a, h, hj => by
    unfold a_rF
    split
    · exact h
    · split
      · have := (a_rl_len f p ((a_rw a p).getD j 0) j a).1
        exact a_rF_len f p fr j _ (by omega) (by omega)
      · exact a_rF_len f p fr j a h (by omega)
set_option maxRecDepth 20000 in
set_option maxHeartbeats 4000000 in
theorem kl_ro {M : hpM} {G : hpG} {d : Nat} {h0 : hpT} {pr : Nat → Prop} {B : hpT} {N0 S0 : Nat} (C : hp_F M G yX5_restartOrGiveUp cX5_restartOrGiveUp 6 d h0) (hr : (hp_mt M).sig.returnType = some .boolean) {f p : Nat} (hD : 2 * f + 12 ≤ d) {X : String → hpT → Prop} {P : Option Value → hpT → Prop} : ∀ (k rd due : Nat) (lo : Nat → Option Value) (h : hpT) (κ : kS) (a : aS), rd + k = 1000000 → KQ G pr B N0 S0 h κ a → a_T a → a_A a → p < a_mk a → a_nd a 0 p = 1 → (8 : Int) ≤ f + a_nd a 2 p → due ∈ a_rw a p → a_fin G N0 S0 (a_lp f p k due a).2 → lo 0 = some (.ref (κ.1 5 0)) → lo 1 = some (.ref (κ.1 0 p)) → lo 3 = some (.ref (κ.1 0 due)) → lo 4 = some (.int (nI rd)) → (∀ h' κ', KQ G pr B N0 S0 h' κ' (a_lp f p k due a).2 → (∀ r, r ≠ 4 → κ'.1 r = κ.1 r) → P (some (.int (if (a_lp f p k due a).1 = true then 1 else 0))) h') → hp_V M G 6 (hp_Q M G h0 P X) h 5 lo [] := by
  intro k
  induction k with
  | zero =>
    intro rd due lo h κ a hrd K T A hn hk h8 hdu hfin e0 e1 e3 e4 hP
    have er : rd = 1000000 := by omega
    subst er
    refine hp_iload C dX5_restartOrGiveUp_5 e4 ?_
    refine hp_ldc C cs_X5_189 dX5_restartOrGiveUp_7 ?_
    refine hp_icmp_ge (tgt := 153) C dX5_restartOrGiveUp_9 (by decide) (fun _ => ?_) (fun z_9 => absurd (show (1000000 : Int32) ≤ nI 1000000 by decide) z_9)
    refine hp_iconst (v := 1) C dX5_restartOrGiveUp_153 (by decide) ?_
    refine hp_iret C hr (by decide) dX5_restartOrGiveUp_154 ?_
    exact hP h κ K (fun _ _ => rfl)
  | succ k ih =>
    intro rd due lo h κ a hrd K T A hn hk h8 hdu hfin e0 e1 e3 e4 hP
    have hf1 : a_fin G N0 S0 (a_cn p a) := by
      refine hfin.le ?_
      unfold a_lp
      split
      · exact (a_gu_kp f p (a_sgv (a_cn p a) (a_gv a + 1))).le
      · have h1 := (a_rd_k2 f p due (a_cn p a)).le
        split
        · exact h1
        · exact h1.tr (a_lp_le f p k _ _)
    have hf0 := hf1.le (a_cn_le p a)
    have hN1 : N0 + a_rs a + 1 ≤ hp_n0 G + hp_LC := hf1.2.2.1
    have hS1 := hf0.2.2.2
    refine hp_iload C dX5_restartOrGiveUp_5 e4 ?_
    refine hp_ldc C cs_X5_189 dX5_restartOrGiveUp_7 ?_
    refine hp_icmp_ge (tgt := 153) C dX5_restartOrGiveUp_9 (by decide) (fun z_9 => absurd z_9 (nI_ge (a := rd) (b := 1000000) (by omega) (by omega))) (fun _ => ?_)
    refine hp_aload_nR C dX5_restartOrGiveUp_12 e0 ?_
    refine hp_dup C dX5_restartOrGiveUp_13 rfl ?_
    refine hp_get C fl_X5_35_5 dX5_restartOrGiveUp_14 K.isT K.f164 ?_
    refine hp_iconst (v := 1) C dX5_restartOrGiveUp_17 (by decide) ?_
    refine hp_iadd C dX5_restartOrGiveUp_18 ?_
    refine kp_164 C K fl_X5_35_5 (a_rs a + 1) (by rw [nI_1]) dX5_restartOrGiveUp_19 (fun h_19 K_19 => ?_)
    refine hp_aload_nR C dX5_restartOrGiveUp_22 e1 ?_
    refine hp_get C fl_X5_190_2 dX5_restartOrGiveUp_23 (K_19.isK hn hk) (K_19.f70 hn hk) ?_
    refine hp_aload_nR C dX5_restartOrGiveUp_26 e0 ?_
    refine hp_get C fl_X5_10_5 dX5_restartOrGiveUp_27 K_19.isT K_19.f160 ?_
    refine hp_get C fl_X5_127_1 dX5_restartOrGiveUp_30 K_19.isJ K_19.f33 ?_
    refine hp_callV (ci := 3) C ml_X5_194 im_X3_add se_X3_add rfl (by decide) (kc_add (d := d - 1) K_19 A hn hk hf0.1 hN1 hS1 (by omega)) (by omega) dX5_restartOrGiveUp_33 (K_19.isR hn hk) rfl rfl (by simp [Value.category]) (fun v_33 h_33 hp => ?_) (fun _ _ hf => hf.elim)
    obtain ⟨rfl, γ1, ρ1, K_33, g1⟩ := hp
    have K2 : KQ G pr B N0 S0 h_33 (γ1, κ.2.1, ρ1) (a_cn p a) := K_33
    have g2 : ∀ r, r ≠ 4 → ((γ1, κ.2.1, ρ1) : kS).1 r = κ.1 r := g1
    clear K_33 K_19
    generalize ((γ1, κ.2.1, ρ1) : kS) = κ1 at K2 g2
    have T1 : a_T (a_cn p a) := T
    have A1 := a_cn_A (p := p) A
    have eR : a_rw (a_cn p a) = a_rw a := rfl
    have eg : a_gv (a_cn p a) = a_gv a := rfl
    have e6 : a_nd (a_cn p a) 6 p = a_nd a 6 p := rfl
    have hn1 : p < a_mk (a_cn p a) := hn
    have hk1 : a_nd (a_cn p a) 0 p = 1 := hk
    have h81 : (8 : Int) ≤ f + a_nd (a_cn p a) 2 p := h8
    have hdu1 : due ∈ a_rw (a_cn p a) p := hdu
    unfold a_lp at hfin hP
    rw [← e6, ← eg] at hfin hP
    generalize a_cn p a = a1 at *
    have l0 : lo 0 = some (.ref (κ1.1 5 0)) := by rw [g2 5 (by decide)]; exact e0
    have l1 : lo 1 = some (.ref (κ1.1 0 p)) := by rw [g2 0 (by decide)]; exact e1
    have l3 : lo 3 = some (.ref (κ1.1 0 due)) := by rw [g2 0 (by decide)]; exact e3
    have hs := k_small K2 A1 hn1 hk1 hf1.1
    have hI := K2.isI hn1 hk1
    have hI2 := K2.isI2 hn1 hk1
    have hrc := k_rec K2 T1 hn1 hk1
    have hrl := k_nb_le (fun i => (κ1.2.2 p).getD i 0) ((a_tm a1 : Int) - a_nd a1 7 p) (κ1.2.2 p).length
    rw [hrc] at hrl
    have r5 := T1.r5 hn1
    have r6 := T1.r6 hn1
    have r7 := T1.r7 hn1
    obtain ⟨hdm1, -, hdep⟩ := T1.rc hn1 hdu1
    have hdb1 := T1.kb hdm1
    have h9 : (9 : Int) ≤ f + a_nd a1 2 due := by rw [hdep]; omega
    refine hp_aload_nR C dX5_restartOrGiveUp_36 l1 ?_
    refine hp_aload_nR C dX5_restartOrGiveUp_37 l0 ?_
    refine hp_get C fl_X5_10_5 dX5_restartOrGiveUp_38 K2.isT K2.f160 ?_
    refine hp_get C fl_X5_127_1 dX5_restartOrGiveUp_41 K2.isJ K2.f33 ?_
    refine hp_callV (ci := 2) C ml_X5_156 im_X1_recentRestarts se_X1_recentRestarts rfl (by decide) (kc_rr (d := d - 1) K2 hn1 hk1 hs (by omega) (by omega)) (by omega) dX5_restartOrGiveUp_44 (K2.isK hn1 hk1) rfl rfl (by simp [Value.category]) (fun v_44 h_44 hp => ?_) (fun _ _ hf => hf.elim)
    rw [k_ago2 hf1.1 r7, hrc] at hp
    obtain ⟨rfl, e_44⟩ := hp
    rw [e_44]
    have hre : nI (a_rec a1 p) ≤ Int32.ofInt (a_nd a1 6 p) ↔ ((a_rec a1 p : Nat) : Int) ≤ a_nd a1 6 p := by
      rw [Int32.le_iff_toInt_le, nI_toInt (by omega), a_ofI (by omega)]
    refine hp_aload_nR C dX5_restartOrGiveUp_47 l1 ?_
    refine hp_get C fl_X5_55_2 dX5_restartOrGiveUp_48 (K2.isK hn1 hk1) (K2.f72 hn1 hk1) ?_
    refine hp_icmp_le (tgt := 74) C dX5_restartOrGiveUp_51 (by decide) (fun c_51 => ?_) (fun c_51 => ?_)
    · have hgt : ¬ a_nd a1 6 p < ((a_rec a1 p : Nat) : Int) := by
        have := hre.mp c_51
        omega
      rw [if_neg hgt] at hfin hP
      refine hp_aload_nR C dX5_restartOrGiveUp_74 l1 ?_
      refine hp_get C fl_X5_52_2 dX5_restartOrGiveUp_75 (K2.isK hn1 hk1) (K2.f71 hn1 hk1) ?_
      refine hp_if_ne (tgt := 101) C dX5_restartOrGiveUp_78 (by decide) (fun c_78 => ?_) (fun c_78 => ?_)
      · have hs0 : ¬ a_nd a1 5 p = 0 := fun e => c_78 (by rw [e]; decide)
        have hix := a_ix_ok hdu1
        have hrl1 := T1.rl hn1
        refine hp_aload_nR C dX5_restartOrGiveUp_101 l1 ?_
        refine hp_get C fl_X5_52_2 dX5_restartOrGiveUp_102 (K2.isK hn1 hk1) (K2.f71 hn1 hk1) ?_
        refine hp_iconst (v := 1) C dX5_restartOrGiveUp_105 (by decide) ?_
        refine hp_icmp_ne (tgt := 113) C dX5_restartOrGiveUp_106 (by decide) (fun c_106 => ?_) (fun c_106 => ?_)
        · have hs1 : ¬ a_nd a1 5 p = 1 := fun e => c_106 (by rw [e]; decide)
          refine hp_aload_nR C dX5_restartOrGiveUp_113 l1 ?_
          refine hp_aload_nR C dX5_restartOrGiveUp_114 l3 ?_
          refine hp_callV (ci := 2) C ml_X5_136 im_X1_placeOf se_X1_placeOf rfl (by decide) (kc_place (d := d - 1) K2 T1 hn1 hk1 hdm1 (a_ix_ok hdu1).1 (a_ix_ok hdu1).2.1 (a_ix_ok hdu1).2.2 (by omega)) (by omega) dX5_restartOrGiveUp_115 (K2.isK hn1 hk1) rfl rfl (by simp [Value.category]) (fun v_115 h_115 hp => ?_) (fun _ _ hf => hf.elim)
          obtain ⟨rfl, e_115⟩ := hp
          rw [e_115]
          generalize hfr : (if a_nd a1 5 p = 1 then 0 else a_ix due (a_rw a1 p)) = fr at *
          rw [show nI (a_ix due (a_rw a1 p)) = nI fr from by rw [← hfr, if_neg hs1]]
          have erd : a_rd f p due a1 = a_sF (a_go f) ((a_rw (a_rF f p fr (a_rw a1 p).length a1) p).drop fr) (a_rF f p fr (a_rw a1 p).length a1) := by
            unfold a_rd
            rw [if_neg hs0, hfr]
          rw [erd] at hfin hP
          have kF := a_rF_k2 f p fr (a_rw a1 p).length a1
          have hfrl : fr ≤ (a_rw a1 p).length := by rw [← hfr]; split <;> omega
          have hfl : fr < 2 ^ 31 := by omega
          have hrfl : fr ≤ (a_rw (a_rF f p fr (a_rw a1 p).length a1) p).length := a_rF_len f p fr _ a1 (by omega) (Nat.le_refl _)
          generalize hb : a_rF f p fr (a_rw a1 p).length a1 = b at *
          have kS := a_sF_kp (a_go_kp f) ((a_rw b p).drop fr) b
          have hvS : (a_ev (a_sF (a_go f) ((a_rw b p).drop fr) b).2).length < 2 ^ 30 := by
            have q := hfin.2.1
            cases hz : (a_sF (a_go f) ((a_rw b p).drop fr) b).1 with
            | none => rw [hz] at q; exact q
            | some c => rw [hz] at q; exact Nat.lt_of_le_of_lt (a_lp_le f p k c _).2.1 q
          have hvb : (a_ev (a_rF f p fr (a_rw a1 p).length a1)).length < 2 ^ 30 := by rw [hb]; exact Nat.lt_of_le_of_lt kS.ev hvS
          have T2 := kF.T T1
          have hn2 : p < a_mk b := by rw [kF.mk]; exact hn1
          have hk2 : a_nd b 0 p = 1 := by rw [kF.nd]; exact hk1
          have h82 : (8 : Int) ≤ f + a_nd b 2 p := by rw [kF.nd]; exact h81
          have XL : a_lv f p (a_rw b p) b := ⟨T2, hn2, hk2, h82, rfl⟩
          refine hp_istore C dX5_restartOrGiveUp_118 (by decide) ?_
          refine hp_aload_nR C dX5_restartOrGiveUp_120 l1 ?_
          refine hp_iload C dX5_restartOrGiveUp_121 rfl ?_
          refine hp_aload_nR C dX5_restartOrGiveUp_123 l0 ?_
          refine hp_get C fl_X5_10_5 dX5_restartOrGiveUp_124 K2.isT K2.f160 ?_
          refine hp_callV (ci := 2) C ml_X5_203 im_X1_releaseFrom se_X1_releaseFrom rfl (by decide) (kc_relF (d := d - 1) (f := f) (γ := κ1.1) (μ := κ1.2.1) (ρ := κ1.2.2) K2 T1 hn1 hk1 h81 hfl (by omega) hvb) (by omega) dX5_restartOrGiveUp_127 (K2.isK hn1 hk1) rfl rfl (by simp [Value.category]) (fun v_127 h_127 hp => ?_) (fun _ _ hf => hf.elim)
          rw [hb] at hp
          obtain ⟨rfl, μ3, K_127⟩ := hp
          refine hp_aload_nR C dX5_restartOrGiveUp_130 l1 ?_
          refine hp_iload C dX5_restartOrGiveUp_131 rfl ?_
          refine hp_aload_nR C dX5_restartOrGiveUp_133 l0 ?_
          refine hp_get C fl_X5_10_5 dX5_restartOrGiveUp_134 K_127.isT K_127.f160 ?_
          refine hp_callV (ci := 2) C ml_X5_207 im_X1_riseFrom se_X1_riseFrom rfl (by decide) (kc_rf (d := d - 1) (D := d - 2) (j := fr) (γ := κ1.1) (μ := μ3) (ρ := κ1.2.2) K_127 XL (by omega) (by omega) (fun c a h ρ K T hc h9 hv => kc_rise f c a h ρ (d - 2) K T hc h9 (by omega) hv) hrfl hvS) (by omega) dX5_restartOrGiveUp_137 (K_127.isK hn2 hk2) rfl rfl (by simp [Value.category]) (fun v_137 h_137 hp => ?_) (fun _ _ hf => hf.elim)
          obtain ⟨rfl, ρ3, K_137⟩ := hp
          cases hz : (a_sF (a_go f) ((a_rw b p).drop fr) b).1 with
          | none =>
            rw [hz] at hfin hP
            refine hp_astore_n (r := none) C dX5_restartOrGiveUp_140 (by decide) ?_
            refine hp_aload_n (r := none) C dX5_restartOrGiveUp_141 rfl ?_
            refine hp_ifnonnull (r := none) (tgt := 147) C dX5_restartOrGiveUp_142 (by decide) (fun _ hx_ => by cases hx_) (fun _ => ?_)
            refine hp_iconst (v := 1) C dX5_restartOrGiveUp_145 (by decide) ?_
            refine hp_iret C hr (by decide) dX5_restartOrGiveUp_146 ?_
            exact hP _ (κ1.1, μ3, ρ3) (KQ.of K_137 (kS.rs.trans kF.rs)) g2
          | some c =>
            rw [hz] at hfin hP
            refine hp_astore_n (r := some _) C dX5_restartOrGiveUp_140 (by decide) ?_
            refine hp_aload_nR C dX5_restartOrGiveUp_141 rfl ?_
            refine hp_ifnonnull (r := some _) (tgt := 147) C dX5_restartOrGiveUp_142 (by decide) (fun _ _ => ?_) (fun hx_ => by cases hx_)
            refine hp_iinc C dX5_restartOrGiveUp_147 e4 (by decide) rfl ?_
            refine hp_goto (tgt := 5) C dX5_restartOrGiveUp_150 (by decide) ?_
            exact ih (rd + 1) c _ _ (κ1.1, μ3, ρ3) _ (by omega) (KQ.of K_137 (kS.rs.trans kF.rs)) (kS.T T2) (kS.A (kF.A A1)) (by rw [kS.mk]; exact hn2) (by rw [kS.nd]; exact hk2) (by rw [kS.nd]; exact h82) (by rw [kS.rw']; exact List.mem_of_mem_drop (a_sF_mem _ _ c hz)) hfin l0 l1 rfl ((va_up_self _ _ _).trans (by rw [show Int32.ofInt 1 = 1 from rfl, nI_1])) (fun h' κ' K' g' => hP h' κ' K' (fun r hr => (g' r hr).trans (g2 r hr)))
        · have hs1 : a_nd a1 5 p = 1 := (a_ofI_eq (x := a_nd a1 5 p) (y := 1) (by omega) (by omega)).mp c_106
          refine hp_iconst (v := 0) C dX5_restartOrGiveUp_109 (by decide) ?_
          refine hp_goto (tgt := 118) C dX5_restartOrGiveUp_110 (by decide) ?_
          generalize hfr : (if a_nd a1 5 p = 1 then 0 else a_ix due (a_rw a1 p)) = fr at *
          rw [show (0 : Int32) = nI fr from by rw [← hfr, if_pos hs1]; rfl]
          have erd : a_rd f p due a1 = a_sF (a_go f) ((a_rw (a_rF f p fr (a_rw a1 p).length a1) p).drop fr) (a_rF f p fr (a_rw a1 p).length a1) := by
            unfold a_rd
            rw [if_neg hs0, hfr]
          rw [erd] at hfin hP
          have kF := a_rF_k2 f p fr (a_rw a1 p).length a1
          have hfrl : fr ≤ (a_rw a1 p).length := by rw [← hfr]; split <;> omega
          have hfl : fr < 2 ^ 31 := by omega
          have hrfl : fr ≤ (a_rw (a_rF f p fr (a_rw a1 p).length a1) p).length := a_rF_len f p fr _ a1 (by omega) (Nat.le_refl _)
          generalize hb : a_rF f p fr (a_rw a1 p).length a1 = b at *
          have kS := a_sF_kp (a_go_kp f) ((a_rw b p).drop fr) b
          have hvS : (a_ev (a_sF (a_go f) ((a_rw b p).drop fr) b).2).length < 2 ^ 30 := by
            have q := hfin.2.1
            cases hz : (a_sF (a_go f) ((a_rw b p).drop fr) b).1 with
            | none => rw [hz] at q; exact q
            | some c => rw [hz] at q; exact Nat.lt_of_le_of_lt (a_lp_le f p k c _).2.1 q
          have hvb : (a_ev (a_rF f p fr (a_rw a1 p).length a1)).length < 2 ^ 30 := by rw [hb]; exact Nat.lt_of_le_of_lt kS.ev hvS
          have T2 := kF.T T1
          have hn2 : p < a_mk b := by rw [kF.mk]; exact hn1
          have hk2 : a_nd b 0 p = 1 := by rw [kF.nd]; exact hk1
          have h82 : (8 : Int) ≤ f + a_nd b 2 p := by rw [kF.nd]; exact h81
          have XL : a_lv f p (a_rw b p) b := ⟨T2, hn2, hk2, h82, rfl⟩
          refine hp_istore C dX5_restartOrGiveUp_118 (by decide) ?_
          refine hp_aload_nR C dX5_restartOrGiveUp_120 l1 ?_
          refine hp_iload C dX5_restartOrGiveUp_121 rfl ?_
          refine hp_aload_nR C dX5_restartOrGiveUp_123 l0 ?_
          refine hp_get C fl_X5_10_5 dX5_restartOrGiveUp_124 K2.isT K2.f160 ?_
          refine hp_callV (ci := 2) C ml_X5_203 im_X1_releaseFrom se_X1_releaseFrom rfl (by decide) (kc_relF (d := d - 1) (f := f) (γ := κ1.1) (μ := κ1.2.1) (ρ := κ1.2.2) K2 T1 hn1 hk1 h81 hfl (by omega) hvb) (by omega) dX5_restartOrGiveUp_127 (K2.isK hn1 hk1) rfl rfl (by simp [Value.category]) (fun v_127 h_127 hp => ?_) (fun _ _ hf => hf.elim)
          rw [hb] at hp
          obtain ⟨rfl, μ3, K_127⟩ := hp
          refine hp_aload_nR C dX5_restartOrGiveUp_130 l1 ?_
          refine hp_iload C dX5_restartOrGiveUp_131 rfl ?_
          refine hp_aload_nR C dX5_restartOrGiveUp_133 l0 ?_
          refine hp_get C fl_X5_10_5 dX5_restartOrGiveUp_134 K_127.isT K_127.f160 ?_
          refine hp_callV (ci := 2) C ml_X5_207 im_X1_riseFrom se_X1_riseFrom rfl (by decide) (kc_rf (d := d - 1) (D := d - 2) (j := fr) (γ := κ1.1) (μ := μ3) (ρ := κ1.2.2) K_127 XL (by omega) (by omega) (fun c a h ρ K T hc h9 hv => kc_rise f c a h ρ (d - 2) K T hc h9 (by omega) hv) hrfl hvS) (by omega) dX5_restartOrGiveUp_137 (K_127.isK hn2 hk2) rfl rfl (by simp [Value.category]) (fun v_137 h_137 hp => ?_) (fun _ _ hf => hf.elim)
          obtain ⟨rfl, ρ3, K_137⟩ := hp
          cases hz : (a_sF (a_go f) ((a_rw b p).drop fr) b).1 with
          | none =>
            rw [hz] at hfin hP
            refine hp_astore_n (r := none) C dX5_restartOrGiveUp_140 (by decide) ?_
            refine hp_aload_n (r := none) C dX5_restartOrGiveUp_141 rfl ?_
            refine hp_ifnonnull (r := none) (tgt := 147) C dX5_restartOrGiveUp_142 (by decide) (fun _ hx_ => by cases hx_) (fun _ => ?_)
            refine hp_iconst (v := 1) C dX5_restartOrGiveUp_145 (by decide) ?_
            refine hp_iret C hr (by decide) dX5_restartOrGiveUp_146 ?_
            exact hP _ (κ1.1, μ3, ρ3) (KQ.of K_137 (kS.rs.trans kF.rs)) g2
          | some c =>
            rw [hz] at hfin hP
            refine hp_astore_n (r := some _) C dX5_restartOrGiveUp_140 (by decide) ?_
            refine hp_aload_nR C dX5_restartOrGiveUp_141 rfl ?_
            refine hp_ifnonnull (r := some _) (tgt := 147) C dX5_restartOrGiveUp_142 (by decide) (fun _ _ => ?_) (fun hx_ => by cases hx_)
            refine hp_iinc C dX5_restartOrGiveUp_147 e4 (by decide) rfl ?_
            refine hp_goto (tgt := 5) C dX5_restartOrGiveUp_150 (by decide) ?_
            exact ih (rd + 1) c _ _ (κ1.1, μ3, ρ3) _ (by omega) (KQ.of K_137 (kS.rs.trans kF.rs)) (kS.T T2) (kS.A (kF.A A1)) (by rw [kS.mk]; exact hn2) (by rw [kS.nd]; exact hk2) (by rw [kS.nd]; exact h82) (by rw [kS.rw']; exact List.mem_of_mem_drop (a_sF_mem _ _ c hz)) hfin l0 l1 rfl ((va_up_self _ _ _).trans (by rw [show Int32.ofInt 1 = 1 from rfl, nI_1])) (fun h' κ' K' g' => hP h' κ' K' (fun r hr => (g' r hr).trans (g2 r hr)))
      · have hs0 : a_nd a1 5 p = 0 := (a_ofI_eq (x := a_nd a1 5 p) (y := 0) (by omega) (by omega)).mp c_78
        have erd : a_rd f p due a1 = (if (a_go f due a1).1 = true then (none, (a_go f due a1).2) else (some due, (a_go f due a1).2)) := if_pos hs0
        have kg := a_go_kp f due a1
        have hvg : (a_ev (a_go f due a1).2).length < 2 ^ 30 := by
          have q := hfin.2.1
          rw [erd] at q
          by_cases z : (a_go f due a1).1 = true
          · rw [if_pos z] at q; exact q
          · rw [if_neg z] at q; exact Nat.lt_of_le_of_lt (a_lp_le f p k due _).2.1 q
        refine hp_aload_nR C dX5_restartOrGiveUp_81 l3 ?_
        refine hp_aload_nR C dX5_restartOrGiveUp_82 l0 ?_
        refine hp_get C fl_X5_10_5 dX5_restartOrGiveUp_83 K2.isT K2.f160 ?_
        refine hp_callN C K2 hdm1 hdb1 ul_X5_126_X1 ul_X5_126_X4 (kc_rise f due a1 _ κ1.2.2 (d - 1) (γ := κ1.1) (μ := κ1.2.1) K2 T1 hdm1 h9 (by omega) hvg) (by omega) dX5_restartOrGiveUp_86 rfl rfl (by simp [Value.category]) (fun v_86 h_86 hp => ?_)
        obtain ⟨rfl, ρ2, K_86⟩ := hp
        refine hp_if_eq (tgt := 96) C dX5_restartOrGiveUp_89 (by decide) (fun c_89 => ?_) (fun c_89 => ?_)
        · have hg : ¬ (a_go f due a1).1 = true := fun z => absurd (c_89.symm.trans (if_pos z)) (by decide)
          rw [if_neg hg] at erd
          rw [erd] at hfin hP
          refine hp_aload_nR C dX5_restartOrGiveUp_96 l3 ?_
          refine hp_astore_n (r := some _) C dX5_restartOrGiveUp_97 (by decide) ?_
          refine hp_goto (tgt := 141) C dX5_restartOrGiveUp_98 (by decide) ?_
          refine hp_aload_nR C dX5_restartOrGiveUp_141 rfl ?_
          refine hp_ifnonnull (r := some _) (tgt := 147) C dX5_restartOrGiveUp_142 (by decide) (fun _ _ => ?_) (fun hx_ => by cases hx_)
          refine hp_iinc C dX5_restartOrGiveUp_147 e4 (by decide) rfl ?_
          refine hp_goto (tgt := 5) C dX5_restartOrGiveUp_150 (by decide) ?_
          exact ih (rd + 1) due _ _ (κ1.1, κ1.2.1, ρ2) _ (by omega) (KQ.of K_86 kg.rs) (kg.T T1) (kg.A A1) (by rw [kg.mk]; exact hn1) (by rw [kg.nd]; exact hk1) (by rw [kg.nd]; exact h81) (by rw [kg.rw']; exact hdu1) hfin l0 l1 rfl ((va_up_self _ _ _).trans (by rw [show Int32.ofInt 1 = 1 from rfl, nI_1])) (fun h' κ' K' g' => hP h' κ' K' (fun r hr => (g' r hr).trans (g2 r hr)))
        · have hg : (a_go f due a1).1 = true := Classical.byContradiction (fun z => c_89 (if_neg z))
          rw [if_pos hg] at erd
          rw [erd] at hfin hP
          refine hp_null C dX5_restartOrGiveUp_92 ?_
          refine hp_goto (tgt := 97) C dX5_restartOrGiveUp_93 (by decide) ?_
          refine hp_astore_n (r := none) C dX5_restartOrGiveUp_97 (by decide) ?_
          refine hp_goto (tgt := 141) C dX5_restartOrGiveUp_98 (by decide) ?_
          refine hp_aload_n (r := none) C dX5_restartOrGiveUp_141 rfl ?_
          refine hp_ifnonnull (r := none) (tgt := 147) C dX5_restartOrGiveUp_142 (by decide) (fun _ hx_ => by cases hx_) (fun _ => ?_)
          refine hp_iconst (v := 1) C dX5_restartOrGiveUp_145 (by decide) ?_
          refine hp_iret C hr (by decide) dX5_restartOrGiveUp_146 ?_
          exact hP _ (κ1.1, κ1.2.1, ρ2) (KQ.of K_86 kg.rs) g2
    · have hgt : a_nd a1 6 p < ((a_rec a1 p : Nat) : Int) := by
        have := (not_congr hre).mp c_51
        omega
      rw [if_pos hgt] at hfin hP
      refine hp_aload_nR C dX5_restartOrGiveUp_54 l0 ?_
      refine hp_dup C dX5_restartOrGiveUp_55 rfl ?_
      refine hp_get C fl_X5_38_5 dX5_restartOrGiveUp_56 K2.isT K2.f165 ?_
      refine hp_iconst (v := 1) C dX5_restartOrGiveUp_59 (by decide) ?_
      refine hp_iadd C dX5_restartOrGiveUp_60 ?_
      refine kp_165 C K2 fl_X5_38_5 (a_gv a1 + 1) (by rw [nI_1]) dX5_restartOrGiveUp_61 (fun h_61 K_61 => ?_)
      refine hp_aload_nR C dX5_restartOrGiveUp_64 l1 ?_
      refine hp_aload_nR C dX5_restartOrGiveUp_65 l0 ?_
      refine hp_get C fl_X5_10_5 dX5_restartOrGiveUp_66 K_61.isT K_61.f160 ?_
      refine hp_callV (ci := 2) C ml_X5_199 im_X1_giveUp se_X1_giveUp rfl (by decide) (kc_giveUp (d := d - 1) (p := p) (f := f) K_61 T1 hn1 hk1 h81 (by omega) hfin.2.1) (by omega) dX5_restartOrGiveUp_69 (K_61.isK hn1 hk1) rfl rfl (by simp [Value.category]) (fun v_69 h_69 hp => ?_) (fun _ _ hf => hf.elim)
      obtain ⟨rfl, K_69⟩ := hp
      refine hp_iconst (v := 0) C dX5_restartOrGiveUp_72 (by decide) ?_
      refine hp_iret C hr (by decide) dX5_restartOrGiveUp_73 ?_
      exact hP _ κ1 (KQ.of K_69 (a_gu_kp f p (a_sgv a1 (a_gv a1 + 1))).rs) g2
set_option maxRecDepth 20000 in
set_option maxHeartbeats 4000000 in
theorem kc_rog {l : Launch} {G : hpG} {pr : Nat → Prop} {B : hpT} {N0 S0 : Nat} {h : hpT} {κ : kS} {a : aS} {d : Nat} (K : KQ G pr B N0 S0 h κ a) (T : a_T a) (A : a_A a) {f p c : Nat} (hn : p < a_mk a) (hk : a_nd a 0 p = 1) (h8 : (8 : Int) ≤ f + a_nd a 2 p) (hc : c ∈ a_rw a p) (hD : 2 * f + 12 ≤ d) (hfin : a_fin G N0 S0 (a_lp f p 1000000 c a).2) : hp_C l G yX5_restartOrGiveUp (.code yX5_restartOrGiveUp cX5_restartOrGiveUp 6 (some .boolean)) d [.ref (κ.1 5 0), .ref (κ.1 0 p), .ref (κ.1 0 c)] (h) (fun v h' => v = some (.int (if (a_lp f p 1000000 c a).1 = true then 1 else 0)) ∧ ∃ κ', KQ G pr B N0 S0 h' κ' (a_lp f p 1000000 c a).2 ∧ ∀ r, r ≠ 4 → κ'.1 r = κ.1 r) (fun _ _ => False) := by
  refine hp_ofV (by decide) (by simp [Value.category]) (Nat.le_of_ble_eq_true rfl) (fun M C hr hx el => ?_)
  refine hp_aload_nR C dX5_restartOrGiveUp_0 rfl ?_
  refine hp_astore_n (r := some _) C dX5_restartOrGiveUp_1 (by decide) ?_
  refine hp_iconst (v := 0) C dX5_restartOrGiveUp_2 (by decide) ?_
  refine hp_istore C dX5_restartOrGiveUp_3 (by decide) ?_
  exact kl_ro C hr hD 1000000 0 c _ h κ a (by omega) K T A hn hk h8 hc hfin rfl rfl rfl rfl (fun h' κ' K' g' => ⟨rfl, κ', K', g'⟩)
