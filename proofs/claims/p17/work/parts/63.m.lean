/-! ===== restarts, and the handling of an end ===== -/
def a_ix (c : Nat) : List Nat → Nat
  | [] => 0
  | x :: r => if x = c then 0 else a_ix c r + 1
theorem a_ix_ok {c : Nat} : ∀ {L : List Nat}, c ∈ L → a_ix c L < L.length ∧ L.getD (a_ix c L) 0 = c ∧ ∀ j, j < a_ix c L → ¬ L.getD j 0 = c
  | [], h => by cases h
  | x :: r, h => by
    unfold a_ix
    by_cases e : x = c
    · rw [if_pos e]
      exact ⟨Nat.succ_pos _, e, fun j hj => absurd hj (Nat.not_lt_zero _)⟩
    · rw [if_neg e]
      have hm : c ∈ r := by
        rcases List.mem_cons.mp h with h | h
        · exact absurd h.symm e
        · exact h
      obtain ⟨h1, h2, h3⟩ := a_ix_ok hm
      refine ⟨Nat.succ_lt_succ h1, h2, fun j hj => ?_⟩
      cases j with
      | zero => exact e
      | succ j => exact h3 j (by omega)
/-- one more restart of keeper p is counted -/
def a_cn (p : Nat) (a : aS) : aS := a_srt (a_srs a (a_rs a + 1)) p (a_rt a p ++ [a_tm a])
/-- how many lie within its t -/
def a_rec (a : aS) (p : Nat) : Nat := k_nb (fun i => (a_rt a p).getD i 0) ((a_tm a : Int) - a_nd a 7 p) (a_rt a p).length
/-- one round of starting again: the child that failed -/
def a_rd (f p due : Nat) (a : aS) : Option Nat × aS :=
  if a_nd a 5 p = 0 then (if (a_go f due a).1 = true then (none, (a_go f due a).2) else (some due, (a_go f due a).2))
  else a_sF (a_go f) ((a_rw (a_rF f p (if a_nd a 5 p = 1 then 0 else a_ix due (a_rw a p)) (a_rw a p).length a) p).drop (if a_nd a 5 p = 1 then 0 else a_ix due (a_rw a p))) (a_rF f p (if a_nd a 5 p = 1 then 0 else a_ix due (a_rw a p)) (a_rw a p).length a)
/-- rounds until all are up, or the keeper gives up -/
def a_lp (f p : Nat) : Nat → Nat → aS → Bool × aS
  | 0, _, a => (true, a)
  | k + 1, due, a =>
    if a_nd a 6 p < (a_rec (a_cn p a) p : Int) then (false, a_gu f p (a_sgv (a_cn p a) (a_gv a + 1)))
    else (match (a_rd f p due (a_cn p a)).1 with
      | none => (true, (a_rd f p due (a_cn p a)).2)
      | some c => a_lp f p k c (a_rd f p due (a_cn p a)).2)
/-- time, events and restarts go on -/
def a_le (a b : aS) : Prop := a_tm a ≤ a_tm b ∧ (a_ev a).length ≤ (a_ev b).length ∧ a_rs a ≤ a_rs b
theorem a_le.tr {a b c : aS} (x : a_le a b) (y : a_le b c) : a_le a c := ⟨Nat.le_trans x.1 y.1, Nat.le_trans x.2.1 y.2.1, Nat.le_trans x.2.2 y.2.2⟩
theorem a_le.rf (a : aS) : a_le a a := ⟨Nat.le_refl _, Nat.le_refl _, Nat.le_refl _⟩
theorem a_k2.le {a b : aS} (x : a_k2 a b) : a_le a b := ⟨x.tm, x.ev, Nat.le_of_eq x.rs.symm⟩
theorem a_kp.le {a b : aS} (x : a_kp a b) : a_le a b := x.k2.le
theorem a_cn_le (p : Nat) (a : aS) : a_le a (a_cn p a) := ⟨Nat.le_refl _, Nat.le_refl _, Nat.le_succ _⟩
theorem a_cn_A {p : Nat} {a : aS} (A : a_A a) : a_A (a_cn p a) := by
  intro m hm
  show (va_up (a_rt a) p (a_rt a p ++ [a_tm a]) m).Pairwise (· ≤ ·) ∧ ∀ x, x ∈ va_up (a_rt a) p (a_rt a p ++ [a_tm a]) m → x ≤ a_tm a
  have hm' : m < a_mk a := hm
  obtain ⟨h1, h2⟩ := A m hm'
  by_cases e : m = p
  · subst e
    rw [va_up_self]
    refine ⟨List.pairwise_append.mpr ⟨h1, List.pairwise_singleton _ _, fun x hx y hy => ?_⟩, fun x hx => ?_⟩
    · rw [List.mem_singleton.mp hy]; exact h2 x hx
    · rcases List.mem_append.mp hx with hx | hx
      · exact h2 x hx
      · rw [List.mem_singleton.mp hx]; exact Nat.le_refl _
  · rw [va_up_ne _ _ e]
    exact ⟨h1, h2⟩
theorem a_rd_k2 (f p due : Nat) (a : aS) : a_k2 a (a_rd f p due a).2 := by
  unfold a_rd
  split
  · split <;> exact (a_go_kp f due a).k2
  · exact (a_rF_k2 f p _ _ a).tr (a_sF_kp (a_go_kp f) _ _).k2
theorem a_sF_mem {f : Nat → aS → Bool × aS} : ∀ (l : List Nat) (a : aS) (c : Nat), (a_sF f l a).1 = some c → c ∈ l
  | [], _, _, h => by cases h
  | x :: r, a, c, h => by
    unfold a_sF at h
    split at h
    · exact List.mem_cons_of_mem _ (a_sF_mem r _ c h)
    · cases h
      exact List.mem_cons_self
theorem a_rd_mem {f p due c : Nat} {a : aS} (hd : due ∈ a_rw a p) (h : (a_rd f p due a).1 = some c) : c ∈ a_rw (a_rd f p due a).2 p := by
  unfold a_rd at h ⊢
  by_cases e : a_nd a 5 p = 0
  · rw [if_pos e] at h ⊢
    by_cases g : (a_go f due a).1 = true
    · rw [if_pos g] at h; cases h
    · rw [if_neg g] at h ⊢
      cases h
      show due ∈ a_rw (a_go f due a).2 p
      rw [(a_go_kp f due a).rw']
      exact hd
  · rw [if_neg e] at h ⊢
    have := a_sF_mem _ _ c h
    rw [(a_sF_kp (a_go_kp f) _ _).rw']
    exact List.mem_of_mem_drop this
theorem a_lp_le (f p : Nat) : ∀ (k due : Nat) (a : aS), a_le a (a_lp f p k due a).2
  | 0, _, a => a_le.rf a
  | k + 1, due, a => by
    unfold a_lp
    split
    · exact (a_cn_le p a).tr (a_gu_kp f p (a_sgv (a_cn p a) (a_gv a + 1))).le
    · have h1 := (a_cn_le p a).tr (a_rd_k2 f p due (a_cn p a)).le
      split
      · exact h1
      · exact h1.tr (a_lp_le f p k _ _)
/-- the kept times tell as much as all -/
theorem k_nb_app {dr R : List Nat} {b : Int} (h : ∀ x ∈ dr, (x : Int) < b) : ∀ j, j ≤ R.length → k_nb (fun i => (dr ++ R).getD i 0) b (dr.length + j) = k_nb (fun i => R.getD i 0) b j
  | 0, _ => by
    show k_nb _ b dr.length = 0
    cases hd : dr.length with
    | zero => rfl
    | succ q =>
      refine if_pos ?_
      have hq : q < dr.length := by omega
      show (((dr ++ R).getD q 0 : Nat) : Int) < b
      rw [List.getD_eq_getElem?_getD, List.getElem?_append_left hq, List.getElem?_eq_getElem hq]
      exact h _ (List.getElem_mem hq)
  | j + 1, hj => by
    have ih := k_nb_app (R := R) h j (by omega)
    have e : (dr ++ R).getD (dr.length + j) 0 = R.getD j 0 := by
      rw [List.getD_eq_getElem?_getD, List.getElem?_append_right (by omega), Nat.add_sub_cancel_left, ← List.getD_eq_getElem?_getD]
    show (if (((dr ++ R).getD (dr.length + j) 0 : Nat) : Int) < b then 0 else k_nb _ b (dr.length + j) + 1) = (if ((R.getD j 0 : Nat) : Int) < b then 0 else k_nb _ b j + 1)
    rw [e, ih]
theorem k_rec {G : hpG} {pr : Nat → Prop} {B : hpT} {N S : Nat} {h : hpT} {κ : kS} {a : aS} {n : Nat} (K : KR G pr B N S h κ a) (T : a_T a) (hn : n < a_mk a) (hk : a_nd a 0 n = 1) : k_nb (fun i => (κ.2.2 n).getD i 0) ((a_tm a : Int) - a_nd a 7 n) (κ.2.2 n).length = a_rec a n := by
  obtain ⟨dr, y1, y2⟩ := K.2.2.2.2.2.2 n hn hk
  have r7 := T.r7 hn
  unfold a_rec
  rw [y1, List.length_append]
  refine (k_nb_app (fun x hx => ?_) _ (Nat.le_refl _)).symm
  have := y2 x hx
  omega
theorem k_ago2 {t : Nat} {x : Int} (h : t < 2 ^ 30) (hx : 0 ≤ x ∧ x ≤ 1000) : (nI t - Int32.ofInt x).toInt = (t : Int) - x := by
  have e1 := nI_toInt (n := t) (by omega)
  rw [Int32.toInt_sub, e1, a_ofI (by omega)]
  exact Int.bmod_eq_of_le (by omega) (by omega)
/-- the room and the numbers hold up to state z -/
def a_fin (G : hpG) (N0 S0 : Nat) (z : aS) : Prop := a_tm z < 2 ^ 30 ∧ (a_ev z).length < 2 ^ 30 ∧ N0 + a_rs z ≤ hp_n0 G + hp_LC ∧ S0 + 4 * a_rs z ≤ hp_LS
theorem a_fin.le {G : hpG} {N0 S0 : Nat} {a z : aS} (x : a_fin G N0 S0 z) (l : a_le a z) : a_fin G N0 S0 a := ⟨Nat.lt_of_le_of_lt l.1 x.1, Nat.lt_of_le_of_lt l.2.1 x.2.1, by have := l.2.2; have := x.2.2.1; omega, by have := l.2.2; have := x.2.2.2; omega⟩
/-- the class holds a, and its room is counted by the restarts -/
abbrev KQ (G : hpG) (pr : Nat → Prop) (B : hpT) (N0 S0 : Nat) (h : hpT) (κ : kS) (a : aS) : Prop := KR G pr B (N0 + a_rs a) (S0 + 4 * a_rs a) h κ a
theorem KQ.of {G : hpG} {pr : Nat → Prop} {B : hpT} {N0 S0 : Nat} {h : hpT} {κ : kS} {a b : aS} (K : KR G pr B (N0 + a_rs a) (S0 + 4 * a_rs a) h κ b) (e : a_rs b = a_rs a) : KQ G pr B N0 S0 h κ b := by
  show KR G pr B (N0 + a_rs b) (S0 + 4 * a_rs b) h κ b
  rw [e]
  exact K
theorem cs_X5_189 : Cond.constant RX5 189 1000000 ∈ hp_ws := (hp_in3 38 (by decide +kernel) rfl)
theorem a_rF_len (f p fr : Nat) : ∀ (j : Nat) (a : aS), fr ≤ (a_rw a p).length → j ≤ (a_rw a p).length → fr ≤ (a_rw (a_rF f p fr j a) p).length
  | 0, a, h, _ => h
  | j + 1, a, h, hj => by
    unfold a_rF
    split
    · exact h
    · split
      · have := (a_rl_len f p ((a_rw a p).getD j 0) j a).1
        exact a_rF_len f p fr j _ (by omega) (by omega)
      · exact a_rF_len f p fr j a h (by omega)
set_option maxRecDepth 20000 in
set_option maxHeartbeats 4000000 in
theorem kl_ro {M : hpM} {G : hpG} {d : Nat} {h0 : hpT} {pr : Nat → Prop} {B : hpT} {N0 S0 : Nat} (C : hp_F M G yX5_restartOrGiveUp cX5_restartOrGiveUp 6 d h0) (hr : (hp_mt M).sig.returnType = some .boolean) {f p : Nat} (hD : 2 * f + 12 ≤ d) {X : String → hpT → Prop} {P : Option Value → hpT → Prop} : ∀ (k rd due : Nat) (lo : Nat → Option Value) (h : hpT) (κ : kS) (a : aS), rd + k = 1000000 → KQ G pr B N0 S0 h κ a → a_T a → a_A a → p < a_mk a → a_nd a 0 p = 1 → (8 : Int) ≤ f + a_nd a 2 p → due ∈ a_rw a p → a_fin G N0 S0 (a_lp f p k due a).2 → lo 0 = some (.ref (κ.1 5 0)) → lo 1 = some (.ref (κ.1 0 p)) → lo 3 = some (.ref (κ.1 0 due)) → lo 4 = some (.int (nI rd)) → (∀ h' κ', KQ G pr B N0 S0 h' κ' (a_lp f p k due a).2 → (∀ r, r ≠ 4 → κ'.1 r = κ.1 r) → P (some (.int (if (a_lp f p k due a).1 = true then 1 else 0))) h') → hp_V M G 6 (hp_Q M G h0 P X) h 5 lo [] := by
  intro k
  induction k with
  | zero =>
    intro rd due lo h κ a hrd K T A hn hk h8 hdu hfin e0 e1 e3 e4 hP
    have er : rd = 1000000 := by omega
    subst er
    refine hp_iload C dX5_restartOrGiveUp_5 e4 ?_
    refine hp_ldc C cs_X5_189 dX5_restartOrGiveUp_7 ?_
    refine hp_icmp_ge (tgt := 153) C dX5_restartOrGiveUp_9 (by decide) (fun _ => ?_) (fun z_9 => absurd (show (1000000 : Int32) ≤ nI 1000000 by decide) z_9)
    refine hp_iconst (v := 1) C dX5_restartOrGiveUp_153 (by decide) ?_
    refine hp_iret C hr (by decide) dX5_restartOrGiveUp_154 ?_
    exact hP h κ K (fun _ _ => rfl)
  | succ k ih =>
    intro rd due lo h κ a hrd K T A hn hk h8 hdu hfin e0 e1 e3 e4 hP
    have hf1 : a_fin G N0 S0 (a_cn p a) := by
      refine hfin.le ?_
      unfold a_lp
      split
      · exact (a_gu_kp f p (a_sgv (a_cn p a) (a_gv a + 1))).le
      · have h1 := (a_rd_k2 f p due (a_cn p a)).le
        split
        · exact h1
        · exact h1.tr (a_lp_le f p k _ _)
    have hf0 := hf1.le (a_cn_le p a)
    have hN1 : N0 + a_rs a + 1 ≤ hp_n0 G + hp_LC := hf1.2.2.1
    have hS1 := hf0.2.2.2
    refine hp_iload C dX5_restartOrGiveUp_5 e4 ?_
    refine hp_ldc C cs_X5_189 dX5_restartOrGiveUp_7 ?_
    refine hp_icmp_ge (tgt := 153) C dX5_restartOrGiveUp_9 (by decide) (fun z_9 => absurd z_9 (nI_ge (a := rd) (b := 1000000) (by omega) (by omega))) (fun _ => ?_)
    refine hp_aload_nR C dX5_restartOrGiveUp_12 e0 ?_
    refine hp_dup C dX5_restartOrGiveUp_13 rfl ?_
    refine hp_get C fl_X5_35_5 dX5_restartOrGiveUp_14 K.isT K.f164 ?_
    refine hp_iconst (v := 1) C dX5_restartOrGiveUp_17 (by decide) ?_
    refine hp_iadd C dX5_restartOrGiveUp_18 ?_
    refine kp_164 C K fl_X5_35_5 (a_rs a + 1) (by rw [nI_1]) dX5_restartOrGiveUp_19 (fun h_19 K_19 => ?_)
    refine hp_aload_nR C dX5_restartOrGiveUp_22 e1 ?_
    refine hp_get C fl_X5_190_2 dX5_restartOrGiveUp_23 (K_19.isK hn hk) (K_19.f70 hn hk) ?_
    refine hp_aload_nR C dX5_restartOrGiveUp_26 e0 ?_
    refine hp_get C fl_X5_10_5 dX5_restartOrGiveUp_27 K_19.isT K_19.f160 ?_
    refine hp_get C fl_X5_127_1 dX5_restartOrGiveUp_30 K_19.isJ K_19.f33 ?_
    refine hp_callV (ci := 3) C ml_X5_194 im_X3_add se_X3_add rfl (by decide) (kc_add (d := d - 1) K_19 A hn hk hf0.1 hN1 hS1 (by omega)) (by omega) dX5_restartOrGiveUp_33 (K_19.isR hn hk) rfl rfl (by simp [Value.category]) (fun v_33 h_33 hp => ?_) (fun _ _ hf => hf.elim)
    obtain ⟨rfl, γ1, ρ1, K_33, g1⟩ := hp
    have K2 : KQ G pr B N0 S0 h_33 (γ1, κ.2.1, ρ1) (a_cn p a) := K_33
    have g2 : ∀ r, r ≠ 4 → ((γ1, κ.2.1, ρ1) : kS).1 r = κ.1 r := g1
    clear K_33 K_19
    generalize ((γ1, κ.2.1, ρ1) : kS) = κ1 at K2 g2
    have T1 : a_T (a_cn p a) := T
    have A1 := a_cn_A (p := p) A
    have eR : a_rw (a_cn p a) = a_rw a := rfl
    have eg : a_gv (a_cn p a) = a_gv a := rfl
    have e6 : a_nd (a_cn p a) 6 p = a_nd a 6 p := rfl
    have hn1 : p < a_mk (a_cn p a) := hn
    have hk1 : a_nd (a_cn p a) 0 p = 1 := hk
    have h81 : (8 : Int) ≤ f + a_nd (a_cn p a) 2 p := h8
    have hdu1 : due ∈ a_rw (a_cn p a) p := hdu
    unfold a_lp at hfin hP
    rw [← e6, ← eg] at hfin hP
    generalize a_cn p a = a1 at *
    have l0 : lo 0 = some (.ref (κ1.1 5 0)) := by rw [g2 5 (by decide)]; exact e0
    have l1 : lo 1 = some (.ref (κ1.1 0 p)) := by rw [g2 0 (by decide)]; exact e1
    have l3 : lo 3 = some (.ref (κ1.1 0 due)) := by rw [g2 0 (by decide)]; exact e3
    have hs := k_small K2 A1 hn1 hk1 hf1.1
    have hI := K2.isI hn1 hk1
    have hI2 := K2.isI2 hn1 hk1
    have hrc := k_rec K2 T1 hn1 hk1
    have hrl := k_nb_le (fun i => (κ1.2.2 p).getD i 0) ((a_tm a1 : Int) - a_nd a1 7 p) (κ1.2.2 p).length
    rw [hrc] at hrl
    have r5 := T1.r5 hn1
    have r6 := T1.r6 hn1
    have r7 := T1.r7 hn1
    obtain ⟨hdm1, -, hdep⟩ := T1.rc hn1 hdu1
    have hdb1 := T1.kb hdm1
    have h9 : (9 : Int) ≤ f + a_nd a1 2 due := by rw [hdep]; omega
    refine hp_aload_nR C dX5_restartOrGiveUp_36 l1 ?_
    refine hp_aload_nR C dX5_restartOrGiveUp_37 l0 ?_
    refine hp_get C fl_X5_10_5 dX5_restartOrGiveUp_38 K2.isT K2.f160 ?_
    refine hp_get C fl_X5_127_1 dX5_restartOrGiveUp_41 K2.isJ K2.f33 ?_
    refine hp_callV (ci := 2) C ml_X5_156 im_X1_recentRestarts se_X1_recentRestarts rfl (by decide) (kc_rr (d := d - 1) K2 hn1 hk1 hs (by omega) (by omega)) (by omega) dX5_restartOrGiveUp_44 (K2.isK hn1 hk1) rfl rfl (by simp [Value.category]) (fun v_44 h_44 hp => ?_) (fun _ _ hf => hf.elim)
    rw [k_ago2 hf1.1 r7, hrc] at hp
    obtain ⟨rfl, e_44⟩ := hp
    rw [e_44]
    have hre : nI (a_rec a1 p) ≤ Int32.ofInt (a_nd a1 6 p) ↔ ((a_rec a1 p : Nat) : Int) ≤ a_nd a1 6 p := by
      rw [Int32.le_iff_toInt_le, nI_toInt (by omega), a_ofI (by omega)]
    refine hp_aload_nR C dX5_restartOrGiveUp_47 l1 ?_
    refine hp_get C fl_X5_55_2 dX5_restartOrGiveUp_48 (K2.isK hn1 hk1) (K2.f72 hn1 hk1) ?_
    refine hp_icmp_le (tgt := 74) C dX5_restartOrGiveUp_51 (by decide) (fun c_51 => ?_) (fun c_51 => ?_)
    · have hgt : ¬ a_nd a1 6 p < ((a_rec a1 p : Nat) : Int) := by
        have := hre.mp c_51
        omega
      rw [if_neg hgt] at hfin hP
      refine hp_aload_nR C dX5_restartOrGiveUp_74 l1 ?_
      refine hp_get C fl_X5_52_2 dX5_restartOrGiveUp_75 (K2.isK hn1 hk1) (K2.f71 hn1 hk1) ?_
      refine hp_if_ne (tgt := 101) C dX5_restartOrGiveUp_78 (by decide) (fun c_78 => ?_) (fun c_78 => ?_)
      · have hs0 : ¬ a_nd a1 5 p = 0 := fun e => c_78 (by rw [e]; decide)
        have hix := a_ix_ok hdu1
        have hrl1 := T1.rl hn1
        refine hp_aload_nR C dX5_restartOrGiveUp_101 l1 ?_
        refine hp_get C fl_X5_52_2 dX5_restartOrGiveUp_102 (K2.isK hn1 hk1) (K2.f71 hn1 hk1) ?_
        refine hp_iconst (v := 1) C dX5_restartOrGiveUp_105 (by decide) ?_
        refine hp_icmp_ne (tgt := 113) C dX5_restartOrGiveUp_106 (by decide) (fun c_106 => ?_) (fun c_106 => ?_)
        · have hs1 : ¬ a_nd a1 5 p = 1 := fun e => c_106 (by rw [e]; decide)
          refine hp_aload_nR C dX5_restartOrGiveUp_113 l1 ?_
          refine hp_aload_nR C dX5_restartOrGiveUp_114 l3 ?_
          refine hp_callV (ci := 2) C ml_X5_136 im_X1_placeOf se_X1_placeOf rfl (by decide) (kc_place (d := d - 1) K2 T1 hn1 hk1 hdm1 (a_ix_ok hdu1).1 (a_ix_ok hdu1).2.1 (a_ix_ok hdu1).2.2 (by omega)) (by omega) dX5_restartOrGiveUp_115 (K2.isK hn1 hk1) rfl rfl (by simp [Value.category]) (fun v_115 h_115 hp => ?_) (fun _ _ hf => hf.elim)
          obtain ⟨rfl, e_115⟩ := hp
          rw [e_115]
          generalize hfr : (if a_nd a1 5 p = 1 then 0 else a_ix due (a_rw a1 p)) = fr at *
          rw [show nI (a_ix due (a_rw a1 p)) = nI fr from by rw [← hfr, if_neg hs1]]
          have erd : a_rd f p due a1 = a_sF (a_go f) ((a_rw (a_rF f p fr (a_rw a1 p).length a1) p).drop fr) (a_rF f p fr (a_rw a1 p).length a1) := by
            unfold a_rd
            rw [if_neg hs0, hfr]
          rw [erd] at hfin hP
          have kF := a_rF_k2 f p fr (a_rw a1 p).length a1
          have hfrl : fr ≤ (a_rw a1 p).length := by rw [← hfr]; split <;> omega
          have hfl : fr < 2 ^ 31 := by omega
          have hrfl : fr ≤ (a_rw (a_rF f p fr (a_rw a1 p).length a1) p).length := a_rF_len f p fr _ a1 (by omega) (Nat.le_refl _)
          generalize hb : a_rF f p fr (a_rw a1 p).length a1 = b at *
          have kS := a_sF_kp (a_go_kp f) ((a_rw b p).drop fr) b
          have hvS : (a_ev (a_sF (a_go f) ((a_rw b p).drop fr) b).2).length < 2 ^ 30 := by
            have q := hfin.2.1
            cases hz : (a_sF (a_go f) ((a_rw b p).drop fr) b).1 with
            | none => rw [hz] at q; exact q
            | some c => rw [hz] at q; exact Nat.lt_of_le_of_lt (a_lp_le f p k c _).2.1 q
          have hvb : (a_ev (a_rF f p fr (a_rw a1 p).length a1)).length < 2 ^ 30 := by rw [hb]; exact Nat.lt_of_le_of_lt kS.ev hvS
          have T2 := kF.T T1
          have hn2 : p < a_mk b := by rw [kF.mk]; exact hn1
          have hk2 : a_nd b 0 p = 1 := by rw [kF.nd]; exact hk1
          have h82 : (8 : Int) ≤ f + a_nd b 2 p := by rw [kF.nd]; exact h81
          have XL : a_lv f p (a_rw b p) b := ⟨T2, hn2, hk2, h82, rfl⟩
          refine hp_istore C dX5_restartOrGiveUp_118 (by decide) ?_
          refine hp_aload_nR C dX5_restartOrGiveUp_120 l1 ?_
          refine hp_iload C dX5_restartOrGiveUp_121 rfl ?_
          refine hp_aload_nR C dX5_restartOrGiveUp_123 l0 ?_
          refine hp_get C fl_X5_10_5 dX5_restartOrGiveUp_124 K2.isT K2.f160 ?_
          refine hp_callV (ci := 2) C ml_X5_203 im_X1_releaseFrom se_X1_releaseFrom rfl (by decide) (kc_relF (d := d - 1) (f := f) (γ := κ1.1) (μ := κ1.2.1) (ρ := κ1.2.2) K2 T1 hn1 hk1 h81 hfl (by omega) hvb) (by omega) dX5_restartOrGiveUp_127 (K2.isK hn1 hk1) rfl rfl (by simp [Value.category]) (fun v_127 h_127 hp => ?_) (fun _ _ hf => hf.elim)
          rw [hb] at hp
          obtain ⟨rfl, μ3, K_127⟩ := hp
          refine hp_aload_nR C dX5_restartOrGiveUp_130 l1 ?_
          refine hp_iload C dX5_restartOrGiveUp_131 rfl ?_
          refine hp_aload_nR C dX5_restartOrGiveUp_133 l0 ?_
          refine hp_get C fl_X5_10_5 dX5_restartOrGiveUp_134 K_127.isT K_127.f160 ?_
          refine hp_callV (ci := 2) C ml_X5_207 im_X1_riseFrom se_X1_riseFrom rfl (by decide) (kc_rf (d := d - 1) (D := d - 2) (j := fr) (γ := κ1.1) (μ := μ3) (ρ := κ1.2.2) K_127 XL (by omega) (by omega) (fun c a h ρ K T hc h9 hv => kc_rise f c a h ρ (d - 2) K T hc h9 (by omega) hv) hrfl hvS) (by omega) dX5_restartOrGiveUp_137 (K_127.isK hn2 hk2) rfl rfl (by simp [Value.category]) (fun v_137 h_137 hp => ?_) (fun _ _ hf => hf.elim)
          obtain ⟨rfl, ρ3, K_137⟩ := hp
          cases hz : (a_sF (a_go f) ((a_rw b p).drop fr) b).1 with
          | none =>
            rw [hz] at hfin hP
            refine hp_astore_n (r := none) C dX5_restartOrGiveUp_140 (by decide) ?_
            refine hp_aload_n (r := none) C dX5_restartOrGiveUp_141 rfl ?_
            refine hp_ifnonnull (r := none) (tgt := 147) C dX5_restartOrGiveUp_142 (by decide) (fun _ hx_ => by cases hx_) (fun _ => ?_)
            refine hp_iconst (v := 1) C dX5_restartOrGiveUp_145 (by decide) ?_
            refine hp_iret C hr (by decide) dX5_restartOrGiveUp_146 ?_
            exact hP _ (κ1.1, μ3, ρ3) (KQ.of K_137 (kS.rs.trans kF.rs)) g2
          | some c =>
            rw [hz] at hfin hP
            refine hp_astore_n (r := some _) C dX5_restartOrGiveUp_140 (by decide) ?_
            refine hp_aload_nR C dX5_restartOrGiveUp_141 rfl ?_
            refine hp_ifnonnull (r := some _) (tgt := 147) C dX5_restartOrGiveUp_142 (by decide) (fun _ _ => ?_) (fun hx_ => by cases hx_)
            refine hp_iinc C dX5_restartOrGiveUp_147 e4 (by decide) rfl ?_
            refine hp_goto (tgt := 5) C dX5_restartOrGiveUp_150 (by decide) ?_
            exact ih (rd + 1) c _ _ (κ1.1, μ3, ρ3) _ (by omega) (KQ.of K_137 (kS.rs.trans kF.rs)) (kS.T T2) (kS.A (kF.A A1)) (by rw [kS.mk]; exact hn2) (by rw [kS.nd]; exact hk2) (by rw [kS.nd]; exact h82) (by rw [kS.rw']; exact List.mem_of_mem_drop (a_sF_mem _ _ c hz)) hfin l0 l1 rfl ((va_up_self _ _ _).trans (by rw [show Int32.ofInt 1 = 1 from rfl, nI_1])) (fun h' κ' K' g' => hP h' κ' K' (fun r hr => (g' r hr).trans (g2 r hr)))
        · have hs1 : a_nd a1 5 p = 1 := (a_ofI_eq (x := a_nd a1 5 p) (y := 1) (by omega) (by omega)).mp c_106
          refine hp_iconst (v := 0) C dX5_restartOrGiveUp_109 (by decide) ?_
          refine hp_goto (tgt := 118) C dX5_restartOrGiveUp_110 (by decide) ?_
          generalize hfr : (if a_nd a1 5 p = 1 then 0 else a_ix due (a_rw a1 p)) = fr at *
          rw [show (0 : Int32) = nI fr from by rw [← hfr, if_pos hs1]; rfl]
          have erd : a_rd f p due a1 = a_sF (a_go f) ((a_rw (a_rF f p fr (a_rw a1 p).length a1) p).drop fr) (a_rF f p fr (a_rw a1 p).length a1) := by
            unfold a_rd
            rw [if_neg hs0, hfr]
          rw [erd] at hfin hP
          have kF := a_rF_k2 f p fr (a_rw a1 p).length a1
          have hfrl : fr ≤ (a_rw a1 p).length := by rw [← hfr]; split <;> omega
          have hfl : fr < 2 ^ 31 := by omega
          have hrfl : fr ≤ (a_rw (a_rF f p fr (a_rw a1 p).length a1) p).length := a_rF_len f p fr _ a1 (by omega) (Nat.le_refl _)
          generalize hb : a_rF f p fr (a_rw a1 p).length a1 = b at *
          have kS := a_sF_kp (a_go_kp f) ((a_rw b p).drop fr) b
          have hvS : (a_ev (a_sF (a_go f) ((a_rw b p).drop fr) b).2).length < 2 ^ 30 := by
            have q := hfin.2.1
            cases hz : (a_sF (a_go f) ((a_rw b p).drop fr) b).1 with
            | none => rw [hz] at q; exact q
            | some c => rw [hz] at q; exact Nat.lt_of_le_of_lt (a_lp_le f p k c _).2.1 q
          have hvb : (a_ev (a_rF f p fr (a_rw a1 p).length a1)).length < 2 ^ 30 := by rw [hb]; exact Nat.lt_of_le_of_lt kS.ev hvS
          have T2 := kF.T T1
          have hn2 : p < a_mk b := by rw [kF.mk]; exact hn1
          have hk2 : a_nd b 0 p = 1 := by rw [kF.nd]; exact hk1
          have h82 : (8 : Int) ≤ f + a_nd b 2 p := by rw [kF.nd]; exact h81
          have XL : a_lv f p (a_rw b p) b := ⟨T2, hn2, hk2, h82, rfl⟩
          refine hp_istore C dX5_restartOrGiveUp_118 (by decide) ?_
          refine hp_aload_nR C dX5_restartOrGiveUp_120 l1 ?_
          refine hp_iload C dX5_restartOrGiveUp_121 rfl ?_
          refine hp_aload_nR C dX5_restartOrGiveUp_123 l0 ?_
          refine hp_get C fl_X5_10_5 dX5_restartOrGiveUp_124 K2.isT K2.f160 ?_
          refine hp_callV (ci := 2) C ml_X5_203 im_X1_releaseFrom se_X1_releaseFrom rfl (by decide) (kc_relF (d := d - 1) (f := f) (γ := κ1.1) (μ := κ1.2.1) (ρ := κ1.2.2) K2 T1 hn1 hk1 h81 hfl (by omega) hvb) (by omega) dX5_restartOrGiveUp_127 (K2.isK hn1 hk1) rfl rfl (by simp [Value.category]) (fun v_127 h_127 hp => ?_) (fun _ _ hf => hf.elim)
          rw [hb] at hp
          obtain ⟨rfl, μ3, K_127⟩ := hp
          refine hp_aload_nR C dX5_restartOrGiveUp_130 l1 ?_
          refine hp_iload C dX5_restartOrGiveUp_131 rfl ?_
          refine hp_aload_nR C dX5_restartOrGiveUp_133 l0 ?_
          refine hp_get C fl_X5_10_5 dX5_restartOrGiveUp_134 K_127.isT K_127.f160 ?_
          refine hp_callV (ci := 2) C ml_X5_207 im_X1_riseFrom se_X1_riseFrom rfl (by decide) (kc_rf (d := d - 1) (D := d - 2) (j := fr) (γ := κ1.1) (μ := μ3) (ρ := κ1.2.2) K_127 XL (by omega) (by omega) (fun c a h ρ K T hc h9 hv => kc_rise f c a h ρ (d - 2) K T hc h9 (by omega) hv) hrfl hvS) (by omega) dX5_restartOrGiveUp_137 (K_127.isK hn2 hk2) rfl rfl (by simp [Value.category]) (fun v_137 h_137 hp => ?_) (fun _ _ hf => hf.elim)
          obtain ⟨rfl, ρ3, K_137⟩ := hp
          cases hz : (a_sF (a_go f) ((a_rw b p).drop fr) b).1 with
          | none =>
            rw [hz] at hfin hP
            refine hp_astore_n (r := none) C dX5_restartOrGiveUp_140 (by decide) ?_
            refine hp_aload_n (r := none) C dX5_restartOrGiveUp_141 rfl ?_
            refine hp_ifnonnull (r := none) (tgt := 147) C dX5_restartOrGiveUp_142 (by decide) (fun _ hx_ => by cases hx_) (fun _ => ?_)
            refine hp_iconst (v := 1) C dX5_restartOrGiveUp_145 (by decide) ?_
            refine hp_iret C hr (by decide) dX5_restartOrGiveUp_146 ?_
            exact hP _ (κ1.1, μ3, ρ3) (KQ.of K_137 (kS.rs.trans kF.rs)) g2
          | some c =>
            rw [hz] at hfin hP
            refine hp_astore_n (r := some _) C dX5_restartOrGiveUp_140 (by decide) ?_
            refine hp_aload_nR C dX5_restartOrGiveUp_141 rfl ?_
            refine hp_ifnonnull (r := some _) (tgt := 147) C dX5_restartOrGiveUp_142 (by decide) (fun _ _ => ?_) (fun hx_ => by cases hx_)
            refine hp_iinc C dX5_restartOrGiveUp_147 e4 (by decide) rfl ?_
            refine hp_goto (tgt := 5) C dX5_restartOrGiveUp_150 (by decide) ?_
            exact ih (rd + 1) c _ _ (κ1.1, μ3, ρ3) _ (by omega) (KQ.of K_137 (kS.rs.trans kF.rs)) (kS.T T2) (kS.A (kF.A A1)) (by rw [kS.mk]; exact hn2) (by rw [kS.nd]; exact hk2) (by rw [kS.nd]; exact h82) (by rw [kS.rw']; exact List.mem_of_mem_drop (a_sF_mem _ _ c hz)) hfin l0 l1 rfl ((va_up_self _ _ _).trans (by rw [show Int32.ofInt 1 = 1 from rfl, nI_1])) (fun h' κ' K' g' => hP h' κ' K' (fun r hr => (g' r hr).trans (g2 r hr)))
      · have hs0 : a_nd a1 5 p = 0 := (a_ofI_eq (x := a_nd a1 5 p) (y := 0) (by omega) (by omega)).mp c_78
        have erd : a_rd f p due a1 = (if (a_go f due a1).1 = true then (none, (a_go f due a1).2) else (some due, (a_go f due a1).2)) := if_pos hs0
        have kg := a_go_kp f due a1
        have hvg : (a_ev (a_go f due a1).2).length < 2 ^ 30 := by
          have q := hfin.2.1
          rw [erd] at q
          by_cases z : (a_go f due a1).1 = true
          · rw [if_pos z] at q; exact q
          · rw [if_neg z] at q; exact Nat.lt_of_le_of_lt (a_lp_le f p k due _).2.1 q
        refine hp_aload_nR C dX5_restartOrGiveUp_81 l3 ?_
        refine hp_aload_nR C dX5_restartOrGiveUp_82 l0 ?_
        refine hp_get C fl_X5_10_5 dX5_restartOrGiveUp_83 K2.isT K2.f160 ?_
        refine hp_callN C K2 hdm1 hdb1 ul_X5_126_X1 ul_X5_126_X4 (kc_rise f due a1 _ κ1.2.2 (d - 1) (γ := κ1.1) (μ := κ1.2.1) K2 T1 hdm1 h9 (by omega) hvg) (by omega) dX5_restartOrGiveUp_86 rfl rfl (by simp [Value.category]) (fun v_86 h_86 hp => ?_)
        obtain ⟨rfl, ρ2, K_86⟩ := hp
        refine hp_if_eq (tgt := 96) C dX5_restartOrGiveUp_89 (by decide) (fun c_89 => ?_) (fun c_89 => ?_)
        · have hg : ¬ (a_go f due a1).1 = true := fun z => absurd (c_89.symm.trans (if_pos z)) (by decide)
          rw [if_neg hg] at erd
          rw [erd] at hfin hP
          refine hp_aload_nR C dX5_restartOrGiveUp_96 l3 ?_
          refine hp_astore_n (r := some _) C dX5_restartOrGiveUp_97 (by decide) ?_
          refine hp_goto (tgt := 141) C dX5_restartOrGiveUp_98 (by decide) ?_
          refine hp_aload_nR C dX5_restartOrGiveUp_141 rfl ?_
          refine hp_ifnonnull (r := some _) (tgt := 147) C dX5_restartOrGiveUp_142 (by decide) (fun _ _ => ?_) (fun hx_ => by cases hx_)
          refine hp_iinc C dX5_restartOrGiveUp_147 e4 (by decide) rfl ?_
          refine hp_goto (tgt := 5) C dX5_restartOrGiveUp_150 (by decide) ?_
          exact ih (rd + 1) due _ _ (κ1.1, κ1.2.1, ρ2) _ (by omega) (KQ.of K_86 kg.rs) (kg.T T1) (kg.A A1) (by rw [kg.mk]; exact hn1) (by rw [kg.nd]; exact hk1) (by rw [kg.nd]; exact h81) (by rw [kg.rw']; exact hdu1) hfin l0 l1 rfl ((va_up_self _ _ _).trans (by rw [show Int32.ofInt 1 = 1 from rfl, nI_1])) (fun h' κ' K' g' => hP h' κ' K' (fun r hr => (g' r hr).trans (g2 r hr)))
        · have hg : (a_go f due a1).1 = true := Classical.byContradiction (fun z => c_89 (if_neg z))
          rw [if_pos hg] at erd
          rw [erd] at hfin hP
          refine hp_null C dX5_restartOrGiveUp_92 ?_
          refine hp_goto (tgt := 97) C dX5_restartOrGiveUp_93 (by decide) ?_
          refine hp_astore_n (r := none) C dX5_restartOrGiveUp_97 (by decide) ?_
          refine hp_goto (tgt := 141) C dX5_restartOrGiveUp_98 (by decide) ?_
          refine hp_aload_n (r := none) C dX5_restartOrGiveUp_141 rfl ?_
          refine hp_ifnonnull (r := none) (tgt := 147) C dX5_restartOrGiveUp_142 (by decide) (fun _ hx_ => by cases hx_) (fun _ => ?_)
          refine hp_iconst (v := 1) C dX5_restartOrGiveUp_145 (by decide) ?_
          refine hp_iret C hr (by decide) dX5_restartOrGiveUp_146 ?_
          exact hP _ (κ1.1, κ1.2.1, ρ2) (KQ.of K_86 kg.rs) g2
    · have hgt : a_nd a1 6 p < ((a_rec a1 p : Nat) : Int) := by
        have := (not_congr hre).mp c_51
        omega
      rw [if_pos hgt] at hfin hP
      refine hp_aload_nR C dX5_restartOrGiveUp_54 l0 ?_
      refine hp_dup C dX5_restartOrGiveUp_55 rfl ?_
      refine hp_get C fl_X5_38_5 dX5_restartOrGiveUp_56 K2.isT K2.f165 ?_
      refine hp_iconst (v := 1) C dX5_restartOrGiveUp_59 (by decide) ?_
      refine hp_iadd C dX5_restartOrGiveUp_60 ?_
      refine kp_165 C K2 fl_X5_38_5 (a_gv a1 + 1) (by rw [nI_1]) dX5_restartOrGiveUp_61 (fun h_61 K_61 => ?_)
      refine hp_aload_nR C dX5_restartOrGiveUp_64 l1 ?_
      refine hp_aload_nR C dX5_restartOrGiveUp_65 l0 ?_
      refine hp_get C fl_X5_10_5 dX5_restartOrGiveUp_66 K_61.isT K_61.f160 ?_
      refine hp_callV (ci := 2) C ml_X5_199 im_X1_giveUp se_X1_giveUp rfl (by decide) (kc_giveUp (d := d - 1) (p := p) (f := f) K_61 T1 hn1 hk1 h81 (by omega) hfin.2.1) (by omega) dX5_restartOrGiveUp_69 (K_61.isK hn1 hk1) rfl rfl (by simp [Value.category]) (fun v_69 h_69 hp => ?_) (fun _ _ hf => hf.elim)
      obtain ⟨rfl, K_69⟩ := hp
      refine hp_iconst (v := 0) C dX5_restartOrGiveUp_72 (by decide) ?_
      refine hp_iret C hr (by decide) dX5_restartOrGiveUp_73 ?_
      exact hP _ κ1 (KQ.of K_69 (a_gu_kp f p (a_sgv a1 (a_gv a1 + 1))).rs) g2
set_option maxRecDepth 20000 in
set_option maxHeartbeats 4000000 in
theorem kc_rog {l : Launch} {G : hpG} {pr : Nat → Prop} {B : hpT} {N0 S0 : Nat} {h : hpT} {κ : kS} {a : aS} {d : Nat} (K : KQ G pr B N0 S0 h κ a) (T : a_T a) (A : a_A a) {f p c : Nat} (hn : p < a_mk a) (hk : a_nd a 0 p = 1) (h8 : (8 : Int) ≤ f + a_nd a 2 p) (hc : c ∈ a_rw a p) (hD : 2 * f + 12 ≤ d) (hfin : a_fin G N0 S0 (a_lp f p 1000000 c a).2) : hp_C l G yX5_restartOrGiveUp (.code yX5_restartOrGiveUp cX5_restartOrGiveUp 6 (some .boolean)) d [.ref (κ.1 5 0), .ref (κ.1 0 p), .ref (κ.1 0 c)] (h) (fun v h' => v = some (.int (if (a_lp f p 1000000 c a).1 = true then 1 else 0)) ∧ ∃ κ', KQ G pr B N0 S0 h' κ' (a_lp f p 1000000 c a).2 ∧ ∀ r, r ≠ 4 → κ'.1 r = κ.1 r) (fun _ _ => False) := by
  refine hp_ofV (by decide) (by simp [Value.category]) (Nat.le_of_ble_eq_true rfl) (fun M C hr hx el => ?_)
  refine hp_aload_nR C dX5_restartOrGiveUp_0 rfl ?_
  refine hp_astore_n (r := some _) C dX5_restartOrGiveUp_1 (by decide) ?_
  refine hp_iconst (v := 0) C dX5_restartOrGiveUp_2 (by decide) ?_
  refine hp_istore C dX5_restartOrGiveUp_3 (by decide) ?_
  exact kl_ro C hr hD 1000000 0 c _ h κ a (by omega) K T A hn hk h8 hc hfin rfl rfl rfl rfl (fun h' κ' K' g' => ⟨rfl, κ', K', g'⟩)
/-! ===== the handling of an end ===== -/
abbrev a_pa (a : aS) (c : Nat) : Nat := (a_nd a 1 c).toNat
abbrev a_fu (a : aS) (c : Nat) : Nat := (9 - a_nd a 2 c).toNat
def a_hd : Nat → Nat → Nat → aS → aS
  | 0, _, _, a => a
  | k + 1, c, y, a => if c = 0 then a else if a_nd a 4 c = 2 then (a_dis (a_fu a c) (a_pa a c) c (a_ix c (a_rw a (a_pa a c))) a).2 else if a_nd a 4 c = 1 ∧ y ≤ 1 then a
    else if (a_lp (a_fu a c) (a_pa a c) 1000000 c a).1 = true then (a_lp (a_fu a c) (a_pa a c) 1000000 c a).2 else a_hd k (a_pa a c) 1 (a_lp (a_fu a c) (a_pa a c) 1000000 c a).2
/-- on the way up every node is in its keeper's row -/
def a_hok : Nat → Nat → Nat → aS → Prop
  | 0, _, _, _ => True
  | k + 1, c, y, a => c < a_mk a ∧ (c ≠ 0 → c ∈ a_rw a (a_pa a c) ∧ a_pa a c < a_mk a ∧ a_nd a 0 (a_pa a c) = 1 ∧ (¬ a_nd a 4 c = 2 → ¬ (a_nd a 4 c = 1 ∧ y ≤ 1) → ¬ (a_lp (a_fu a c) (a_pa a c) 1000000 c a).1 = true → a_T (a_lp (a_fu a c) (a_pa a c) 1000000 c a).2 ∧ a_A (a_lp (a_fu a c) (a_pa a c) 1000000 c a).2 ∧ a_hok k (a_pa a c) 1 (a_lp (a_fu a c) (a_pa a c) 1000000 c a).2))
theorem a_hd_le : ∀ (k c y : Nat) (a : aS), a_le a (a_hd k c y a)
  | 0, _, _, a => a_le.rf a
  | k + 1, c, y, a => by
    unfold a_hd
    split
    · exact a_le.rf a
    · split
      · exact (a_dis_k2 _ _ _ _ a).le
      · split
        · exact a_le.rf a
        · split
          · exact a_lp_le _ _ _ _ a
          · exact (a_lp_le _ _ _ _ a).tr (a_hd_le k _ _ _)
set_option maxRecDepth 20000 in
set_option maxHeartbeats 4000000 in
theorem kl_he {M : hpM} {G : hpG} {d : Nat} {h0 : hpT} {pr : Nat → Prop} {B : hpT} {N0 S0 : Nat} (C : hp_F M G yX5_handleEnd cX5_handleEnd 7 d h0) (hr : (hp_mt M).sig.returnType = none) (hD : 40 ≤ d) {X : String → hpT → Prop} {P : Option Value → hpT → Prop} : ∀ (k lv c y : Nat) (lo : Nat → Option Value) (h : hpT) (κ : kS) (a : aS), lv + k = 9 → KQ G pr B N0 S0 h κ a → a_T a → a_A a → a_hok k c y a → y < 2 ^ 30 → a_fin G N0 S0 (a_hd k c y a) → lo 0 = some (.ref (κ.1 5 0)) → lo 3 = some (.ref (κ.1 0 c)) → lo 4 = some (.int (nI y)) → lo 5 = some (.int (nI lv)) → (∀ h' κ', KQ G pr B N0 S0 h' κ' (a_hd k c y a) → (∀ r, r ≠ 4 → κ'.1 r = κ.1 r) → P none h') → hp_V M G 7 (hp_Q M G h0 P X) h 8 lo [] := by
  intro k
  induction k with
  | zero =>
    intro lv c y lo h κ a hlv K T A hok hy hfin e0 e3 e4 e5 hP
    have el : lv = 9 := by omega
    subst el
    refine hp_iload C dX5_handleEnd_8 e5 ?_
    refine hp_bipush (v := 8) C dX5_handleEnd_10 (by decide) ?_
    refine hp_icmp_gt (tgt := 85) C dX5_handleEnd_12 (by decide) (fun _ => ?_) (fun z_9 => absurd (show (8 : Int32) < nI 9 by decide) z_9)
    refine hp_vret C hr dX5_handleEnd_85 ?_
    exact hP h κ K (fun _ _ => rfl)
  | succ k ih =>
    intro lv c y lo h κ a hlv K T A hok hy hfin e0 e3 e4 e5 hP
    obtain ⟨hc, hok⟩ := hok
    have hb := T.kb hc
    have r4 := T.r4 hc
    unfold a_hd at hfin hP
    by_cases hc0 : c = 0
    · rw [if_pos hc0] at hP
      refine hp_iload C dX5_handleEnd_8 e5 ?_
      refine hp_bipush (v := 8) C dX5_handleEnd_10 (by decide) ?_
      refine hp_icmp_gt (tgt := 85) C dX5_handleEnd_12 (by decide) (fun z_9 => absurd z_9 (by rw [Int32.lt_iff_toInt_lt, nI_toInt (by omega), show (8 : Int32).toInt = 8 by decide]; omega)) (fun _ => ?_)
      refine hp_aload_nR C dX5_handleEnd_15 e3 ?_
      refine kg_N (v := .null) C K hc hb (by decide) fl_X5_133_2 fl_X5_133_4 dX5_handleEnd_16 ((K.f65 hc).trans (by rw [if_pos hc0]; rfl)) ?_
      refine hp_astore (r := none) C dX5_handleEnd_19 (by decide) ?_
      refine hp_aload (r := none) C dX5_handleEnd_21 rfl ?_
      refine hp_ifnonnull (r := none) (tgt := 27) C dX5_handleEnd_23 (by decide) (fun _ hx_ => by cases hx_) (fun _ => ?_)
      refine hp_vret C hr dX5_handleEnd_26 ?_
      exact hP h κ K (fun _ _ => rfl)
    · rw [if_neg hc0] at hfin hP
      obtain ⟨hm, hn, hk, hrest⟩ := hok hc0
      obtain ⟨-, hp1, hdep⟩ := T.rc hn hm
      have r2 := T.r2 hc
      generalize hp : a_pa a c = p at *
      generalize hf : a_fu a c = f at *
      have hf1 : (9 - a_nd a 2 c).toNat = f := hf
      have h9 : (9 : Int) ≤ f + a_nd a 2 c := by omega
      have h8 : (8 : Int) ≤ f + a_nd a 2 p := by omega
      have hf9 : f ≤ 9 := by omega
      have hix := a_ix_ok hm
      refine hp_iload C dX5_handleEnd_8 e5 ?_
      refine hp_bipush (v := 8) C dX5_handleEnd_10 (by decide) ?_
      refine hp_icmp_gt (tgt := 85) C dX5_handleEnd_12 (by decide) (fun z_9 => absurd z_9 (by rw [Int32.lt_iff_toInt_lt, nI_toInt (by omega), show (8 : Int32).toInt = 8 by decide]; omega)) (fun _ => ?_)
      refine hp_aload_nR C dX5_handleEnd_15 e3 ?_
      refine kg_N (v := .ref (κ.1 0 p)) C K hc hb (by decide) fl_X5_133_2 fl_X5_133_4 dX5_handleEnd_16 ((K.f65 hc).trans (by rw [if_neg hc0]; show va_rf (some (κ.1 0 (a_pa a c))) = _; rw [hp]; rfl)) ?_
      refine hp_astore (r := some _) C dX5_handleEnd_19 (by decide) ?_
      refine hp_aloadR C dX5_handleEnd_21 rfl ?_
      refine hp_ifnonnull (r := some _) (tgt := 27) C dX5_handleEnd_23 (by decide) (fun _ _ => ?_) (fun hx_ => by cases hx_)
      refine hp_aload_nR C dX5_handleEnd_27 e3 ?_
      refine kg_N C K hc hb (by decide) fl_X5_143_2 fl_X5_143_4 dX5_handleEnd_28 (K.f67 hc) ?_
      refine hp_iconst (v := 2) C dX5_handleEnd_31 (by decide) ?_
      refine hp_icmp_ne (tgt := 47) C dX5_handleEnd_32 (by decide) (fun c_32 => ?_) (fun c_32 => ?_)
      · have h42 : ¬ a_nd a 4 c = 2 := fun e => c_32 (by rw [e]; decide)
        rw [if_neg h42] at hfin hP
        refine hp_aload_nR C dX5_handleEnd_47 e3 ?_
        refine kg_N C K hc hb (by decide) fl_X5_143_2 fl_X5_143_4 dX5_handleEnd_48 (K.f67 hc) ?_
        refine hp_iconst (v := 1) C dX5_handleEnd_51 (by decide) ?_
        refine hp_icmp_ne (tgt := 62) C dX5_handleEnd_52 (by decide) (fun c_52 => ?_) (fun c_52 => ?_)
        · have hno : ¬ (a_nd a 4 c = 1 ∧ y ≤ 1) := fun e => c_52 (by rw [e.1]; decide)
          rw [if_neg hno] at hfin hP
          refine hp_aload_nR C dX5_handleEnd_62 e0 ?_
          refine hp_aloadR C dX5_handleEnd_63 rfl ?_
          refine hp_aload_nR C dX5_handleEnd_65 e3 ?_
          have hfl : a_fin G N0 S0 (a_lp f p 1000000 c a).2 := (by
            by_cases z : (a_lp f p 1000000 c a).1 = true
            · rw [if_pos z] at hfin; exact hfin
            · rw [if_neg z] at hfin; exact hfin.le (a_hd_le k p 1 _))
          refine hp_callV (ci := 5) C ml_X5_185 im_X5_restartOrGiveUp se_X5_restartOrGiveUp rfl (by decide) (kc_rog (d := d - 1) (f := f) K T A hn hk h8 hm (by omega) hfl) (by omega) dX5_handleEnd_66 K.isT rfl rfl (by simp [Value.category]) (fun v_66 h_66 hp => ?_) (fun _ _ hf => hf.elim)
          obtain ⟨rfl, κ1, K_66, g1⟩ := hp
          refine hp_if_eq (tgt := 73) C dX5_handleEnd_69 (by decide) (fun c_69 => ?_) (fun c_69 => ?_)
          · have hz : ¬ (a_lp f p 1000000 c a).1 = true := fun z => absurd (c_69.symm.trans (if_pos z)) (by decide)
            rw [if_neg hz] at hfin hP
            obtain ⟨T3, A3, hok3⟩ := hrest h42 hno hz
            refine hp_aloadR C dX5_handleEnd_73 rfl ?_
            refine hp_astore_n (r := some _) C dX5_handleEnd_75 (by decide) ?_
            refine hp_iconst (v := 1) C dX5_handleEnd_76 (by decide) ?_
            refine hp_istore C dX5_handleEnd_77 (by decide) ?_
            refine hp_iinc C dX5_handleEnd_79 e5 (by decide) rfl ?_
            refine hp_goto (tgt := 8) C dX5_handleEnd_82 (by decide) ?_
            exact ih (lv + 1) p 1 _ _ κ1 _ (by omega) K_66 T3 A3 hok3 (by omega) hfin (by rw [g1 5 (by decide)]; exact e0) (by rw [g1 0 (by decide)]; rfl) rfl ((va_up_self _ _ _).trans (by rw [show Int32.ofInt 1 = 1 from rfl, nI_1])) (fun h' κ' K' g' => hP h' κ' K' (fun r hr => (g' r hr).trans (g1 r hr)))
          · have hz : (a_lp f p 1000000 c a).1 = true := Classical.byContradiction (fun z => c_69 (if_neg z))
            rw [if_pos hz] at hP
            refine hp_vret C hr dX5_handleEnd_72 ?_
            exact hP _ κ1 K_66 g1
        · refine hp_iload C dX5_handleEnd_55 e4 ?_
          refine hp_iconst (v := 1) C dX5_handleEnd_57 (by decide) ?_
          refine hp_icmp_gt (tgt := 62) C dX5_handleEnd_58 (by decide) (fun c_58 => ?_) (fun c_58 => ?_)
          · have hno : ¬ (a_nd a 4 c = 1 ∧ y ≤ 1) := fun e => by
              have := (nI_ltI (a := 1) (b := y) (by omega) (by omega)).mp c_58
              omega
            rw [if_neg hno] at hfin hP
            refine hp_aload_nR C dX5_handleEnd_62 e0 ?_
            refine hp_aloadR C dX5_handleEnd_63 rfl ?_
            refine hp_aload_nR C dX5_handleEnd_65 e3 ?_
            have hfl : a_fin G N0 S0 (a_lp f p 1000000 c a).2 := (by
              by_cases z : (a_lp f p 1000000 c a).1 = true
              · rw [if_pos z] at hfin; exact hfin
              · rw [if_neg z] at hfin; exact hfin.le (a_hd_le k p 1 _))
            refine hp_callV (ci := 5) C ml_X5_185 im_X5_restartOrGiveUp se_X5_restartOrGiveUp rfl (by decide) (kc_rog (d := d - 1) (f := f) K T A hn hk h8 hm (by omega) hfl) (by omega) dX5_handleEnd_66 K.isT rfl rfl (by simp [Value.category]) (fun v_66 h_66 hp => ?_) (fun _ _ hf => hf.elim)
            obtain ⟨rfl, κ1, K_66, g1⟩ := hp
            refine hp_if_eq (tgt := 73) C dX5_handleEnd_69 (by decide) (fun c_69 => ?_) (fun c_69 => ?_)
            · have hz : ¬ (a_lp f p 1000000 c a).1 = true := fun z => absurd (c_69.symm.trans (if_pos z)) (by decide)
              rw [if_neg hz] at hfin hP
              obtain ⟨T3, A3, hok3⟩ := hrest h42 hno hz
              refine hp_aloadR C dX5_handleEnd_73 rfl ?_
              refine hp_astore_n (r := some _) C dX5_handleEnd_75 (by decide) ?_
              refine hp_iconst (v := 1) C dX5_handleEnd_76 (by decide) ?_
              refine hp_istore C dX5_handleEnd_77 (by decide) ?_
              refine hp_iinc C dX5_handleEnd_79 e5 (by decide) rfl ?_
              refine hp_goto (tgt := 8) C dX5_handleEnd_82 (by decide) ?_
              exact ih (lv + 1) p 1 _ _ κ1 _ (by omega) K_66 T3 A3 hok3 (by omega) hfin (by rw [g1 5 (by decide)]; exact e0) (by rw [g1 0 (by decide)]; rfl) rfl ((va_up_self _ _ _).trans (by rw [show Int32.ofInt 1 = 1 from rfl, nI_1])) (fun h' κ' K' g' => hP h' κ' K' (fun r hr => (g' r hr).trans (g1 r hr)))
            · have hz : (a_lp f p 1000000 c a).1 = true := Classical.byContradiction (fun z => c_69 (if_neg z))
              rw [if_pos hz] at hP
              refine hp_vret C hr dX5_handleEnd_72 ?_
              exact hP _ κ1 K_66 g1
          · have h41 : a_nd a 4 c = 1 := (a_ofI_eq (x := a_nd a 4 c) (y := 1) (by omega) (by omega)).mp c_52
            have hy1 : y ≤ 1 := by
              have := (not_congr (nI_ltI (a := 1) (b := y) (by omega) (by omega))).mp c_58
              omega
            rw [if_pos ⟨h41, hy1⟩] at hP
            refine hp_vret C hr dX5_handleEnd_61 ?_
            exact hP h κ K (fun _ _ => rfl)
      · have h42 : a_nd a 4 c = 2 := (a_ofI_eq (x := a_nd a 4 c) (y := 2) (by omega) (by omega)).mp c_32
        rw [if_pos h42] at hfin hP
        refine hp_aloadR C dX5_handleEnd_35 rfl ?_
        refine hp_aload_nR C dX5_handleEnd_37 e3 ?_
        refine hp_aload_nR C dX5_handleEnd_38 e0 ?_
        refine hp_get C fl_X5_10_5 dX5_handleEnd_39 K.isT K.f160 ?_
        refine hp_callV (ci := 2) C ml_X5_89 im_X1_dismiss se_X1_dismiss rfl (by decide) (kc_dismiss (d := d - 1) (f := f) (c := c) (t := a_ix c (a_rw a p)) (γ := κ.1) (μ := κ.2.1) (ρ := κ.2.2) K T hn hk hix.1 hix.2.1 h9 (by omega) (Nat.lt_of_le_of_lt (a_dis_k2 f p c _ a).ev hfin.2.1)) (by omega) dX5_handleEnd_42 (K.isK hn hk) rfl rfl (by simp [Value.category]) (fun v_42 h_42 hp => ?_) (fun _ _ hf => hf.elim)
        obtain ⟨rfl, μ1, K_42⟩ := hp
        refine hp_pop C dX5_handleEnd_45 rfl ?_
        refine hp_vret C hr dX5_handleEnd_46 ?_
        exact hP _ (κ.1, μ1, κ.2.2) (KQ.of K_42 (a_dis_k2 f p c _ a).rs) (fun _ _ => rfl)
set_option maxRecDepth 20000 in
set_option maxHeartbeats 4000000 in
theorem kc_he {l : Launch} {G : hpG} {pr : Nat → Prop} {B : hpT} {N0 S0 : Nat} {h : hpT} {κ : kS} {a : aS} {d : Nat} (K : KQ G pr B N0 S0 h κ a) (T : a_T a) (A : a_A a) {c y : Nat} (hok : a_hok 9 c y a) (hy : y < 2 ^ 30) (hD : 40 ≤ d) (hfin : a_fin G N0 S0 (a_hd 9 c y a)) : hp_C l G yX5_handleEnd (.code yX5_handleEnd cX5_handleEnd 7 none) d [.ref (κ.1 5 0), .ref (κ.1 0 c), .int (nI y)] (h) (fun v h' => v = none ∧ ∃ κ', KQ G pr B N0 S0 h' κ' (a_hd 9 c y a) ∧ ∀ r, r ≠ 4 → κ'.1 r = κ.1 r) (fun _ _ => False) := by
  refine hp_ofV (by decide) (by simp [Value.category]) (Nat.le_of_ble_eq_true rfl) (fun M C hr hx el => ?_)
  refine hp_aload_nR C dX5_handleEnd_0 rfl ?_
  refine hp_astore_n (r := some _) C dX5_handleEnd_1 (by decide) ?_
  refine hp_iload_n C dX5_handleEnd_2 rfl ?_
  refine hp_istore C dX5_handleEnd_3 (by decide) ?_
  refine hp_iconst (v := 0) C dX5_handleEnd_5 (by decide) ?_
  refine hp_istore C dX5_handleEnd_6 (by decide) ?_
  exact kl_he C hr hD 9 0 c y _ h κ a (by omega) K T A hok hy hfin rfl rfl rfl rfl (fun h' κ' K' g' => ⟨rfl, κ', K', g'⟩)
/-! ===== what the public methods ask first ===== -/
theorem k_ofr {x : Int32} {m : Nat} (h0 : 0 ≤ x.toInt) (h1 : x.toInt < m) : ∃ n, n < m ∧ x = nI n := by
  refine ⟨x.toInt.toNat, by omega, Int32.toInt_inj.mp ?_⟩
  have := Int32.toInt_lt x
  rw [nI_toInt (by omega)]
  omega
/-- no node that is not gone -/
def a_bad (a : aS) (x : Int32) : Prop := ∀ n, n < a_mk a → x = nI n → a_nd a 3 n = 2
set_option maxRecDepth 20000 in
set_option maxHeartbeats 4000000 in
theorem kw_in {l : Launch} {G : hpG} {h : hpT} {d : Nat} {v l1 l2 : Int32} (h1 : l1.toInt ≤ v.toInt) (h2 : v.toInt ≤ l2.toInt) : hp_C l G yX5_wantWithin (.code yX5_wantWithin cX5_wantWithin 3 none) d [.int v, .int l1, .int l2] (h) (fun v h' => v = none ∧ h' = h) (fun _ _ => False) := by
  refine hp_ofV (by decide) (by simp [Value.category]) (Nat.le_of_ble_eq_true rfl) (fun M C hr hx el => ?_)
  refine hp_iload_n C dX5_wantWithin_0 rfl ?_
  refine hp_iload_n C dX5_wantWithin_1 rfl ?_
  refine hp_icmp_lt (tgt := 10) C dX5_wantWithin_2 (by decide) (fun z_9 => absurd z_9 (by rw [Int32.lt_iff_toInt_lt]; omega)) (fun _ => ?_)
  refine hp_iload_n C dX5_wantWithin_5 rfl ?_
  refine hp_iload_n C dX5_wantWithin_6 rfl ?_
  refine hp_icmp_le (tgt := 18) C dX5_wantWithin_7 (by decide) (fun _ => ?_) (fun z_9 => absurd (Int32.le_iff_toInt_le.mpr h2) z_9)
  refine hp_vret C hr dX5_wantWithin_18 ?_
  exact ⟨rfl, rfl⟩
set_option maxRecDepth 20000 in
set_option maxHeartbeats 4000000 in
theorem kw_out {l : Launch} {G : hpG} {h : hpT} {d : Nat} {v l1 l2 : Int32} (h1 : ¬ (l1.toInt ≤ v.toInt ∧ v.toInt ≤ l2.toInt)) (hd : 6 ≤ d) (hR1 : hp_nx h + 1 ≤ hp_n0 G + hp_LC) (hR2 : hp_sl h + 6 ≤ hp_LS) : hp_C l G yX5_wantWithin (.code yX5_wantWithin cX5_wantWithin 3 none) d [.int v, .int l1, .int l2] (h) (fun _ _ => False) (fun E h' => E = "java/lang/IllegalArgumentException" ∧ h' = hp_mkX h) := by
  refine hp_ofV (by decide) (by simp [Value.category]) (Nat.le_of_ble_eq_true rfl) (fun M C hr hx el => ?_)
  refine hp_iload_n C dX5_wantWithin_0 rfl ?_
  refine hp_iload_n C dX5_wantWithin_1 rfl ?_
  refine hp_icmp_lt (tgt := 10) C dX5_wantWithin_2 (by decide) (fun c_2 => ?_) (fun c_2 => ?_)
  · refine hp_athrow C tl_A (by omega) dX5_wantWithin_10 dX5_wantWithin_13 dX5_wantWithin_14 dX5_wantWithin_17 hx (by simp [Value.category]) hR1 hR2 ?_
    exact ⟨rfl, rfl⟩
  · refine hp_iload_n C dX5_wantWithin_5 rfl ?_
    refine hp_iload_n C dX5_wantWithin_6 rfl ?_
    refine hp_icmp_le (tgt := 18) C dX5_wantWithin_7 (by decide) (fun c_7 => ?_) (fun c_7 => ?_)
    · refine hp_vret C hr dX5_wantWithin_18 ?_
      exact absurd ⟨by have := (not_congr Int32.lt_iff_toInt_lt).mp c_2; omega, Int32.le_iff_toInt_le.mp c_7⟩ h1
    · refine hp_athrow C tl_A (by omega) dX5_wantWithin_10 dX5_wantWithin_13 dX5_wantWithin_14 dX5_wantWithin_17 hx (by simp [Value.category]) hR1 hR2 ?_
      exact ⟨rfl, rfl⟩
set_option maxRecDepth 20000 in
set_option maxHeartbeats 4000000 in
theorem kw_st {l : Launch} {G : hpG} {h : hpT} {d : Nat} : hp_C l G yX5_wantState (.code yX5_wantState cX5_wantState 1 none) d [.int 1] (h) (fun v h' => v = none ∧ h' = h) (fun _ _ => False) := by
  refine hp_ofV (by decide) (by simp [Value.category]) (Nat.le_of_ble_eq_true rfl) (fun M C hr hx el => ?_)
  refine hp_iload_n C dX5_wantState_0 rfl ?_
  refine hp_if_ne (tgt := 12) C dX5_wantState_1 (by decide) (fun _ => ?_) (fun z_9 => absurd z_9 (by decide))
  refine hp_vret C hr dX5_wantState_12 ?_
  exact ⟨rfl, rfl⟩
set_option maxRecDepth 20000 in
set_option maxHeartbeats 4000000 in
theorem kw_sn {l : Launch} {G : hpG} {h : hpT} {d : Nat} (hd : 6 ≤ d) (hR1 : hp_nx h + 1 ≤ hp_n0 G + hp_LC) (hR2 : hp_sl h + 6 ≤ hp_LS) : hp_C l G yX5_wantState (.code yX5_wantState cX5_wantState 1 none) d [.int 0] (h) (fun _ _ => False) (fun E h' => E = "java/lang/IllegalStateException" ∧ h' = hp_mkX h) := by
  refine hp_ofV (by decide) (by simp [Value.category]) (Nat.le_of_ble_eq_true rfl) (fun M C hr hx el => ?_)
  refine hp_iload_n C dX5_wantState_0 rfl ?_
  refine hp_if_ne (tgt := 12) C dX5_wantState_1 (by decide) (fun z_9 => absurd z_9 (by decide)) (fun _ => ?_)
  refine hp_athrow C tl_S (by omega) dX5_wantState_4 dX5_wantState_7 dX5_wantState_8 dX5_wantState_11 hx (by simp [Value.category]) hR1 hR2 ?_
  exact ⟨rfl, rfl⟩
set_option maxRecDepth 20000 in
set_option maxHeartbeats 4000000 in
theorem kw_bd {l : Launch} {G : hpG} {h : hpT} {d : Nat} {x r t : Int32} (b1 : 0 ≤ x.toInt ∧ x.toInt ≤ 2) (b2 : 0 ≤ r.toInt ∧ r.toInt ≤ 50) (b3 : 1 ≤ t.toInt ∧ t.toInt ≤ 1000) (hd : 1 ≤ d) : hp_C l G yX5_wantBounds (.code yX5_wantBounds cX5_wantBounds 3 none) d [.int x, .int r, .int t] (h) (fun v h' => v = none ∧ h' = h) (fun _ _ => False) := by
  have q0 : (0 : Int32).toInt = 0 := by decide
  have q1 : (1 : Int32).toInt = 1 := by decide
  have q2 : (2 : Int32).toInt = 2 := by decide
  have q50 : (50 : Int32).toInt = 50 := by decide
  have q1000 : (1000 : Int32).toInt = 1000 := by decide
  refine hp_ofV (by decide) (by simp [Value.category]) (Nat.le_of_ble_eq_true rfl) (fun M C hr hx el => ?_)
  refine hp_iload_n C dX5_wantBounds_0 rfl ?_
  refine hp_iconst (v := 0) C dX5_wantBounds_1 (by decide) ?_
  refine hp_iconst (v := 2) C dX5_wantBounds_2 (by decide) ?_
  refine hp_callS C ml_X5_65 sm_X5_wantWithin (kw_in (d := d - 1) (by omega) (by omega)) (by omega) dX5_wantBounds_3 rfl rfl (by simp [Value.category]) (fun v_3 h_3 hp => ?_) (fun _ _ hf => hf.elim)
  obtain ⟨rfl, e_3⟩ := hp
  rw [e_3]
  refine hp_iload_n C dX5_wantBounds_6 rfl ?_
  refine hp_iconst (v := 0) C dX5_wantBounds_7 (by decide) ?_
  refine hp_bipush (v := 50) C dX5_wantBounds_8 (by decide) ?_
  refine hp_callS C ml_X5_65 sm_X5_wantWithin (kw_in (d := d - 1) (by omega) (by omega)) (by omega) dX5_wantBounds_10 rfl rfl (by simp [Value.category]) (fun v_10 h_10 hp => ?_) (fun _ _ hf => hf.elim)
  obtain ⟨rfl, e_10⟩ := hp
  rw [e_10]
  refine hp_iload_n C dX5_wantBounds_13 rfl ?_
  refine hp_iconst (v := 1) C dX5_wantBounds_14 (by decide) ?_
  refine hp_sipush (v := 1000) C dX5_wantBounds_15 (by decide) ?_
  refine hp_callS C ml_X5_65 sm_X5_wantWithin (kw_in (d := d - 1) (by omega) (by omega)) (by omega) dX5_wantBounds_18 rfl rfl (by simp [Value.category]) (fun v_18 h_18 hp => ?_) (fun _ _ hf => hf.elim)
  obtain ⟨rfl, e_18⟩ := hp
  rw [e_18]
  refine hp_vret C hr dX5_wantBounds_21 ?_
  exact ⟨rfl, rfl⟩
set_option maxRecDepth 20000 in
set_option maxHeartbeats 4000000 in
theorem kw_bn {l : Launch} {G : hpG} {h : hpT} {d : Nat} {x r t : Int32} (hb : ¬ ((0 ≤ x.toInt ∧ x.toInt ≤ 2) ∧ (0 ≤ r.toInt ∧ r.toInt ≤ 50) ∧ (1 ≤ t.toInt ∧ t.toInt ≤ 1000))) (hd : 7 ≤ d) (hR1 : hp_nx h + 1 ≤ hp_n0 G + hp_LC) (hR2 : hp_sl h + 6 ≤ hp_LS) : hp_C l G yX5_wantBounds (.code yX5_wantBounds cX5_wantBounds 3 none) d [.int x, .int r, .int t] (h) (fun _ _ => False) (fun E h' => E = "java/lang/IllegalArgumentException" ∧ h' = hp_mkX h) := by
  have q0 : (0 : Int32).toInt = 0 := by decide
  have q1 : (1 : Int32).toInt = 1 := by decide
  have q2 : (2 : Int32).toInt = 2 := by decide
  have q50 : (50 : Int32).toInt = 50 := by decide
  have q1000 : (1000 : Int32).toInt = 1000 := by decide
  refine hp_ofV (by decide) (by simp [Value.category]) (Nat.le_of_ble_eq_true rfl) (fun M C hr hx el => ?_)
  by_cases b1 : 0 ≤ x.toInt ∧ x.toInt ≤ 2
  · by_cases b2 : 0 ≤ r.toInt ∧ r.toInt ≤ 50
    · by_cases b3 : 1 ≤ t.toInt ∧ t.toInt ≤ 1000
      · exact absurd ⟨b1, b2, b3⟩ hb
      · refine hp_iload_n C dX5_wantBounds_0 rfl ?_
        refine hp_iconst (v := 0) C dX5_wantBounds_1 (by decide) ?_
        refine hp_iconst (v := 2) C dX5_wantBounds_2 (by decide) ?_
        refine hp_callS C ml_X5_65 sm_X5_wantWithin (kw_in (d := d - 1) (by omega) (by omega)) (by omega) dX5_wantBounds_3 rfl rfl (by simp [Value.category]) (fun v_3 h_3 hp => ?_) (fun _ _ hf => hf.elim)
        obtain ⟨rfl, e_3⟩ := hp
        rw [e_3]
        refine hp_iload_n C dX5_wantBounds_6 rfl ?_
        refine hp_iconst (v := 0) C dX5_wantBounds_7 (by decide) ?_
        refine hp_bipush (v := 50) C dX5_wantBounds_8 (by decide) ?_
        refine hp_callS C ml_X5_65 sm_X5_wantWithin (kw_in (d := d - 1) (by omega) (by omega)) (by omega) dX5_wantBounds_10 rfl rfl (by simp [Value.category]) (fun v_10 h_10 hp => ?_) (fun _ _ hf => hf.elim)
        obtain ⟨rfl, e_10⟩ := hp
        rw [e_10]
        refine hp_iload_n C dX5_wantBounds_13 rfl ?_
        refine hp_iconst (v := 1) C dX5_wantBounds_14 (by decide) ?_
        refine hp_sipush (v := 1000) C dX5_wantBounds_15 (by decide) ?_
        exact hp_callS C ml_X5_65 sm_X5_wantWithin (kw_out (d := d - 1) (by omega) (by omega) hR1 hR2) (by omega) dX5_wantBounds_18 rfl rfl (by simp [Value.category]) (fun _ _ hf => hf.elim) (fun E_1 h_1 hq => hp_out C hx hq)
    · refine hp_iload_n C dX5_wantBounds_0 rfl ?_
      refine hp_iconst (v := 0) C dX5_wantBounds_1 (by decide) ?_
      refine hp_iconst (v := 2) C dX5_wantBounds_2 (by decide) ?_
      refine hp_callS C ml_X5_65 sm_X5_wantWithin (kw_in (d := d - 1) (by omega) (by omega)) (by omega) dX5_wantBounds_3 rfl rfl (by simp [Value.category]) (fun v_3 h_3 hp => ?_) (fun _ _ hf => hf.elim)
      obtain ⟨rfl, e_3⟩ := hp
      rw [e_3]
      refine hp_iload_n C dX5_wantBounds_6 rfl ?_
      refine hp_iconst (v := 0) C dX5_wantBounds_7 (by decide) ?_
      refine hp_bipush (v := 50) C dX5_wantBounds_8 (by decide) ?_
      exact hp_callS C ml_X5_65 sm_X5_wantWithin (kw_out (d := d - 1) (by omega) (by omega) hR1 hR2) (by omega) dX5_wantBounds_10 rfl rfl (by simp [Value.category]) (fun _ _ hf => hf.elim) (fun E_1 h_1 hq => hp_out C hx hq)
  · refine hp_iload_n C dX5_wantBounds_0 rfl ?_
    refine hp_iconst (v := 0) C dX5_wantBounds_1 (by decide) ?_
    refine hp_iconst (v := 2) C dX5_wantBounds_2 (by decide) ?_
    exact hp_callS C ml_X5_65 sm_X5_wantWithin (kw_out (d := d - 1) (by omega) (by omega) hR1 hR2) (by omega) dX5_wantBounds_3 rfl rfl (by simp [Value.category]) (fun _ _ hf => hf.elim) (fun E_1 h_1 hq => hp_out C hx hq)
set_option maxRecDepth 20000 in
set_option maxHeartbeats 4000000 in
theorem kw_made {l : Launch} {G : hpG} {pr : Nat → Prop} {B : hpT} {N S : Nat} {h : hpT} {κ : kS} {a : aS} {d : Nat} (K : KR G pr B N S h κ a) {n : Nat} (T : a_T a) (hn : n < a_mk a) (hd : 1 ≤ d) : hp_C l G yX5_madeNode (.code yX5_madeNode cX5_madeNode 3 (some (.object "KeeperTree$Node"))) d [.ref (κ.1 5 0), .int (nI n)] (h) (fun v h' => v = some (.ref (κ.1 0 n)) ∧ h' = h) (fun _ _ => False) := by
  have q0 : (0 : Int32).toInt = 0 := by decide
  have q79 : (79 : Int32).toInt = 79 := by decide
  have m80 := T.1.2
  refine hp_ofV (by decide) (by simp [Value.category]) (Nat.le_of_ble_eq_true rfl) (fun M C hr hx el => ?_)
  refine hp_iload_n C dX5_madeNode_0 rfl ?_
  refine hp_iconst (v := 0) C dX5_madeNode_1 (by decide) ?_
  refine hp_bipush (v := 79) C dX5_madeNode_2 (by decide) ?_
  refine hp_callS C ml_X5_65 sm_X5_wantWithin (kw_in (d := d - 1) (by rw [nI_toInt (by omega)]; omega) (by rw [nI_toInt (by omega)]; omega)) (by omega) dX5_madeNode_4 rfl rfl (by simp [Value.category]) (fun v_4 h_4 hp => ?_) (fun _ _ hf => hf.elim)
  obtain ⟨rfl, e_4⟩ := hp
  rw [e_4]
  refine hp_aload_nR C dX5_madeNode_7 rfl ?_
  refine hp_get C fl_X5_18_5 dX5_madeNode_8 K.isT K.f161 ?_
  refine hp_iload_n C dX5_madeNode_11 rfl ?_
  refine hp_aald (v := .ref (κ.1 0 n)) C 4 rfl rfl (by decide) dX5_madeNode_12 K.isM.1 (by rw [K.isM.2]; exact nI_in (by omega) (by omega)) ((congrArg (hp_ar h (κ.1 5 7)) (nI_clamp (by omega))).trans ((K.nod (by omega)).trans (by rw [if_pos hn]; rfl))) ?_
  refine hp_astore_n (r := some _) C dX5_madeNode_13 (by decide) ?_
  refine hp_aload_nR C dX5_madeNode_14 rfl ?_
  refine hp_ifnonnull (r := some _) (tgt := 26) C dX5_madeNode_15 (by decide) (fun _ _ => ?_) (fun hx_ => by cases hx_)
  refine hp_aload_nR C dX5_madeNode_26 rfl ?_
  refine hp_aret (r := some _) C hr (Or.inl ⟨_, rfl⟩) dX5_madeNode_27 ?_
  exact ⟨rfl, rfl⟩
set_option maxRecDepth 20000 in
set_option maxHeartbeats 4000000 in
theorem kw_madeX {l : Launch} {G : hpG} {pr : Nat → Prop} {B : hpT} {N S : Nat} {h : hpT} {κ : kS} {a : aS} {d : Nat} (K : KR G pr B N S h κ a) {x : Int32} (T : a_T a) (hb : ¬ (0 ≤ x.toInt ∧ x.toInt < a_mk a)) (hd : 7 ≤ d) (hR1 : hp_nx h + 1 ≤ hp_n0 G + hp_LC) (hR2 : hp_sl h + 6 ≤ hp_LS) : hp_C l G yX5_madeNode (.code yX5_madeNode cX5_madeNode 3 (some (.object "KeeperTree$Node"))) d [.ref (κ.1 5 0), .int x] (h) (fun _ _ => False) (fun E h' => E = "java/lang/IllegalArgumentException" ∧ h' = hp_mkX h) := by
  have q0 : (0 : Int32).toInt = 0 := by decide
  have q79 : (79 : Int32).toInt = 79 := by decide
  have m80 := T.1.2
  refine hp_ofV (by decide) (by simp [Value.category]) (Nat.le_of_ble_eq_true rfl) (fun M C hr hx el => ?_)
  by_cases b1 : 0 ≤ x.toInt ∧ x.toInt ≤ 79
  · refine hp_iload_n C dX5_madeNode_0 rfl ?_
    refine hp_iconst (v := 0) C dX5_madeNode_1 (by decide) ?_
    refine hp_bipush (v := 79) C dX5_madeNode_2 (by decide) ?_
    refine hp_callS C ml_X5_65 sm_X5_wantWithin (kw_in (d := d - 1) (by omega) (by omega)) (by omega) dX5_madeNode_4 rfl rfl (by simp [Value.category]) (fun v_4 h_4 hp => ?_) (fun _ _ hf => hf.elim)
    obtain ⟨rfl, e_4⟩ := hp
    rw [e_4]
    refine hp_aload_nR C dX5_madeNode_7 rfl ?_
    refine hp_get C fl_X5_18_5 dX5_madeNode_8 K.isT K.f161 ?_
    refine hp_iload_n C dX5_madeNode_11 rfl ?_
    refine hp_aald (v := .null) C 4 rfl rfl (by decide) dX5_madeNode_12 K.isM.1 (by rw [K.isM.2]; exact vp_in_iff.mpr (by omega)) ((K.nod (i := x.toInt.toNat) (by omega)).trans (by rw [if_neg (by omega)]; rfl)) ?_
    refine hp_astore_n (r := none) C dX5_madeNode_13 (by decide) ?_
    refine hp_aload_n (r := none) C dX5_madeNode_14 rfl ?_
    refine hp_ifnonnull (r := none) (tgt := 26) C dX5_madeNode_15 (by decide) (fun _ hx_ => by cases hx_) (fun _ => ?_)
    refine hp_athrow C tl_A (by omega) dX5_madeNode_18 dX5_madeNode_21 dX5_madeNode_22 dX5_madeNode_25 hx (by simp [Value.category]) hR1 hR2 ?_
    exact ⟨rfl, rfl⟩
  · refine hp_iload_n C dX5_madeNode_0 rfl ?_
    refine hp_iconst (v := 0) C dX5_madeNode_1 (by decide) ?_
    refine hp_bipush (v := 79) C dX5_madeNode_2 (by decide) ?_
    exact hp_callS C ml_X5_65 sm_X5_wantWithin (kw_out (d := d - 1) (by omega) (by omega) hR1 hR2) (by omega) dX5_madeNode_4 rfl rfl (by simp [Value.category]) (fun _ _ hf => hf.elim) (fun E_1 h_1 hq => hp_out C hx hq)
set_option maxRecDepth 20000 in
set_option maxHeartbeats 4000000 in
theorem kw_node {l : Launch} {G : hpG} {pr : Nat → Prop} {B : hpT} {N S : Nat} {h : hpT} {κ : kS} {a : aS} {d : Nat} (K : KR G pr B N S h κ a) {n : Nat} (T : a_T a) (hn : n < a_mk a) (h3 : ¬ a_nd a 3 n = 2) (hd : 2 ≤ d) : hp_C l G yX5_nodeAt (.code yX5_nodeAt cX5_nodeAt 3 (some (.object "KeeperTree$Node"))) d [.ref (κ.1 5 0), .int (nI n)] (h) (fun v h' => v = some (.ref (κ.1 0 n)) ∧ h' = h) (fun _ _ => False) := by
  have hb := T.kb hn
  refine hp_ofV (by decide) (by simp [Value.category]) (Nat.le_of_ble_eq_true rfl) (fun M C hr hx el => ?_)
  refine hp_aload_nR C dX5_nodeAt_0 rfl ?_
  refine hp_iload_n C dX5_nodeAt_1 rfl ?_
  refine hp_callV (ci := 5) C ml_X5_130 im_X5_madeNode se_X5_madeNode rfl (by decide) (kw_made (d := d - 1) K T hn (by omega)) (by omega) dX5_nodeAt_2 K.isT rfl rfl (by simp [Value.category]) (fun v_2 h_2 hp => ?_) (fun _ _ hf => hf.elim)
  obtain ⟨rfl, e_2⟩ := hp
  rw [e_2]
  refine hp_astore_n (r := some _) C dX5_nodeAt_5 (by decide) ?_
  refine hp_aload_nR C dX5_nodeAt_6 rfl ?_
  refine kg_N C K hn hb (by decide) fl_X5_113_2 fl_X5_113_4 dX5_nodeAt_7 (K.f68 hn) ?_
  refine hp_iconst (v := 2) C dX5_nodeAt_10 (by decide) ?_
  refine hp_icmp_ne (tgt := 22) C dX5_nodeAt_11 (by decide) (fun _ => ?_) (fun z_9 => absurd z_9 (fun z => h3 ((a_ofI_eq (x := a_nd a 3 n) (y := 2) (by have := T.r3 hn; omega) (by omega)).mp z)))
  refine hp_aload_nR C dX5_nodeAt_22 rfl ?_
  refine hp_aret (r := some _) C hr (Or.inl ⟨_, rfl⟩) dX5_nodeAt_23 ?_
  exact ⟨rfl, rfl⟩
set_option maxRecDepth 20000 in
set_option maxHeartbeats 4000000 in
theorem kw_nodeX {l : Launch} {G : hpG} {pr : Nat → Prop} {B : hpT} {N S : Nat} {h : hpT} {κ : kS} {a : aS} {d : Nat} (K : KR G pr B N S h κ a) {x : Int32} (T : a_T a) (hbad : a_bad a x) (hd : 8 ≤ d) (hR1 : hp_nx h + 1 ≤ hp_n0 G + hp_LC) (hR2 : hp_sl h + 6 ≤ hp_LS) : hp_C l G yX5_nodeAt (.code yX5_nodeAt cX5_nodeAt 3 (some (.object "KeeperTree$Node"))) d [.ref (κ.1 5 0), .int x] (h) (fun _ _ => False) (fun E h' => E = "java/lang/IllegalArgumentException" ∧ h' = hp_mkX h) := by
  refine hp_ofV (by decide) (by simp [Value.category]) (Nat.le_of_ble_eq_true rfl) (fun M C hr hx el => ?_)
  by_cases b1 : 0 ≤ x.toInt ∧ x.toInt < a_mk a
  · obtain ⟨n, hn, rfl⟩ := k_ofr b1.1 b1.2
    have h3 := hbad n hn rfl
    have hb := T.kb hn
    refine hp_aload_nR C dX5_nodeAt_0 rfl ?_
    refine hp_iload_n C dX5_nodeAt_1 rfl ?_
    refine hp_callV (ci := 5) C ml_X5_130 im_X5_madeNode se_X5_madeNode rfl (by decide) (kw_made (d := d - 1) K T hn (by omega)) (by omega) dX5_nodeAt_2 K.isT rfl rfl (by simp [Value.category]) (fun v_2 h_2 hp => ?_) (fun _ _ hf => hf.elim)
    obtain ⟨rfl, e_2⟩ := hp
    rw [e_2]
    refine hp_astore_n (r := some _) C dX5_nodeAt_5 (by decide) ?_
    refine hp_aload_nR C dX5_nodeAt_6 rfl ?_
    refine kg_N C K hn hb (by decide) fl_X5_113_2 fl_X5_113_4 dX5_nodeAt_7 (K.f68 hn) ?_
    refine hp_iconst (v := 2) C dX5_nodeAt_10 (by decide) ?_
    refine hp_icmp_ne (tgt := 22) C dX5_nodeAt_11 (by decide) (fun z_9 => absurd z_9 (by rw [h3]; decide)) (fun _ => ?_)
    refine hp_athrow C tl_A (by omega) dX5_nodeAt_14 dX5_nodeAt_17 dX5_nodeAt_18 dX5_nodeAt_21 hx (by simp [Value.category]) hR1 hR2 ?_
    exact ⟨rfl, rfl⟩
  · refine hp_aload_nR C dX5_nodeAt_0 rfl ?_
    refine hp_iload_n C dX5_nodeAt_1 rfl ?_
    exact hp_callV (ci := 5) C ml_X5_130 im_X5_madeNode se_X5_madeNode rfl (by decide) (kw_madeX (d := d - 1) K T b1 (by omega) hR1 hR2) (by omega) dX5_nodeAt_2 K.isT rfl rfl (by simp [Value.category]) (fun _ _ hf => hf.elim) (fun E_1 h_1 hq => hp_out C hx hq)
set_option maxRecDepth 20000 in
set_option maxHeartbeats 4000000 in
theorem kw_keeper {l : Launch} {G : hpG} {pr : Nat → Prop} {B : hpT} {N S : Nat} {h : hpT} {κ : kS} {a : aS} {d : Nat} (K : KR G pr B N S h κ a) {n : Nat} (T : a_T a) (hn : n < a_mk a) (h3 : ¬ a_nd a 3 n = 2) (hk : a_nd a 0 n = 1) (hd : 3 ≤ d) : hp_C l G yX5_keeperAt (.code yX5_keeperAt cX5_keeperAt 4 (some (.object "KeeperTree$Keeper"))) d [.ref (κ.1 5 0), .int (nI n)] (h) (fun v h' => v = some (.ref (κ.1 0 n)) ∧ h' = h) (fun _ _ => False) := by
  refine hp_ofV (by decide) (by simp [Value.category]) (Nat.le_of_ble_eq_true rfl) (fun M C hr hx el => ?_)
  refine hp_aload_nR C dX5_keeperAt_0 rfl ?_
  refine hp_iload_n C dX5_keeperAt_1 rfl ?_
  refine hp_callV (ci := 5) C ml_X5_109 im_X5_nodeAt se_X5_nodeAt rfl (by decide) (kw_node (d := d - 1) K T hn h3 (by omega)) (by omega) dX5_keeperAt_2 K.isT rfl rfl (by simp [Value.category]) (fun v_2 h_2 hp => ?_) (fun _ _ hf => hf.elim)
  obtain ⟨rfl, e_2⟩ := hp
  rw [e_2]
  refine hp_astore_n (r := some _) C dX5_keeperAt_5 (by decide) ?_
  refine hp_aload_nR C dX5_keeperAt_6 rfl ?_
  refine hp_instY C 2 cl_X5_22 (by decide) rfl (by decide) dX5_keeperAt_7 (K.isK hn hk) ?_
  refine hp_if_eq (tgt := 20) C dX5_keeperAt_10 (by decide) (fun z_9 => absurd z_9 (by decide)) (fun _ => ?_)
  refine hp_aload_nR C dX5_keeperAt_13 rfl ?_
  refine hp_castY C 2 cl_X5_22 (by decide) rfl (by decide) dX5_keeperAt_14 (K.isK hn hk) ?_
  refine hp_astore_n (r := some _) C dX5_keeperAt_17 (by decide) ?_
  refine hp_aload_nR C dX5_keeperAt_18 rfl ?_
  refine hp_aret (r := some _) C hr (Or.inl ⟨_, rfl⟩) dX5_keeperAt_19 ?_
  exact ⟨rfl, rfl⟩
set_option maxRecDepth 20000 in
set_option maxHeartbeats 4000000 in
theorem kw_keeperX {l : Launch} {G : hpG} {pr : Nat → Prop} {B : hpT} {N S : Nat} {h : hpT} {κ : kS} {a : aS} {d : Nat} (K : KR G pr B N S h κ a) {x : Int32} (T : a_T a) (hbad : ∀ n, n < a_mk a → x = nI n → a_nd a 0 n = 1 → a_nd a 3 n = 2) (hd : 9 ≤ d) (hR1 : hp_nx h + 1 ≤ hp_n0 G + hp_LC) (hR2 : hp_sl h + 6 ≤ hp_LS) : hp_C l G yX5_keeperAt (.code yX5_keeperAt cX5_keeperAt 4 (some (.object "KeeperTree$Keeper"))) d [.ref (κ.1 5 0), .int x] (h) (fun _ _ => False) (fun E h' => E = "java/lang/IllegalArgumentException" ∧ h' = hp_mkX h) := by
  refine hp_ofV (by decide) (by simp [Value.category]) (Nat.le_of_ble_eq_true rfl) (fun M C hr hx el => ?_)
  by_cases b1 : a_bad a x
  · refine hp_aload_nR C dX5_keeperAt_0 rfl ?_
    refine hp_iload_n C dX5_keeperAt_1 rfl ?_
    exact hp_callV (ci := 5) C ml_X5_109 im_X5_nodeAt se_X5_nodeAt rfl (by decide) (kw_nodeX (d := d - 1) K T b1 (by omega) hR1 hR2) (by omega) dX5_keeperAt_2 K.isT rfl rfl (by simp [Value.category]) (fun _ _ hf => hf.elim) (fun E_1 h_1 hq => hp_out C hx hq)
  · have hex : ∃ n, n < a_mk a ∧ x = nI n ∧ ¬ a_nd a 3 n = 2 := Classical.byContradiction (fun z => b1 (fun n h1 h2 => Classical.byContradiction (fun h3 => z ⟨n, h1, h2, h3⟩)))
    obtain ⟨n, hn, rfl, h3⟩ := hex
    have hk : a_nd a 0 n = 0 := by
      rcases T.kb hn with q | q
      · exact q
      · exact absurd (hbad n hn rfl q) h3
    refine hp_aload_nR C dX5_keeperAt_0 rfl ?_
    refine hp_iload_n C dX5_keeperAt_1 rfl ?_
    refine hp_callV (ci := 5) C ml_X5_109 im_X5_nodeAt se_X5_nodeAt rfl (by decide) (kw_node (d := d - 1) K T hn h3 (by omega)) (by omega) dX5_keeperAt_2 K.isT rfl rfl (by simp [Value.category]) (fun v_2 h_2 hp => ?_) (fun _ _ hf => hf.elim)
    obtain ⟨rfl, e_2⟩ := hp
    rw [e_2]
    refine hp_astore_n (r := some _) C dX5_keeperAt_5 (by decide) ?_
    refine hp_aload_nR C dX5_keeperAt_6 rfl ?_
    refine hp_instNo C 4 cl_X5_22 (by decide) rfl (by decide) dX5_keeperAt_7 (K.isW hn hk) ?_
    refine hp_if_eq (tgt := 20) C dX5_keeperAt_10 (by decide) (fun _ => ?_) (fun z_9 => absurd z_9 (by decide))
    refine hp_athrow C tl_A (by omega) dX5_keeperAt_20 dX5_keeperAt_23 dX5_keeperAt_24 dX5_keeperAt_27 hx (by simp [Value.category]) hR1 hR2 ?_
    exact ⟨rfl, rfl⟩
set_option maxRecDepth 20000 in
set_option maxHeartbeats 4000000 in
theorem kw_worker {l : Launch} {G : hpG} {pr : Nat → Prop} {B : hpT} {N S : Nat} {h : hpT} {κ : kS} {a : aS} {d : Nat} (K : KR G pr B N S h κ a) {n : Nat} (T : a_T a) (hn : n < a_mk a) (h3 : ¬ a_nd a 3 n = 2) (hk : a_nd a 0 n = 0) (hd : 3 ≤ d) : hp_C l G yX5_workerAt (.code yX5_workerAt cX5_workerAt 4 (some (.object "KeeperTree$Worker"))) d [.ref (κ.1 5 0), .int (nI n)] (h) (fun v h' => v = some (.ref (κ.1 0 n)) ∧ h' = h) (fun _ _ => False) := by
  refine hp_ofV (by decide) (by simp [Value.category]) (Nat.le_of_ble_eq_true rfl) (fun M C hr hx el => ?_)
  refine hp_aload_nR C dX5_workerAt_0 rfl ?_
  refine hp_iload_n C dX5_workerAt_1 rfl ?_
  refine hp_callV (ci := 5) C ml_X5_109 im_X5_nodeAt se_X5_nodeAt rfl (by decide) (kw_node (d := d - 1) K T hn h3 (by omega)) (by omega) dX5_workerAt_2 K.isT rfl rfl (by simp [Value.category]) (fun v_2 h_2 hp => ?_) (fun _ _ hf => hf.elim)
  obtain ⟨rfl, e_2⟩ := hp
  rw [e_2]
  refine hp_astore_n (r := some _) C dX5_workerAt_5 (by decide) ?_
  refine hp_aload_nR C dX5_workerAt_6 rfl ?_
  refine hp_instY C 4 cl_X5_83 (by decide) rfl (by decide) dX5_workerAt_7 (K.isW hn hk) ?_
  refine hp_if_eq (tgt := 20) C dX5_workerAt_10 (by decide) (fun z_9 => absurd z_9 (by decide)) (fun _ => ?_)
  refine hp_aload_nR C dX5_workerAt_13 rfl ?_
  refine hp_castY C 4 cl_X5_83 (by decide) rfl (by decide) dX5_workerAt_14 (K.isW hn hk) ?_
  refine hp_astore_n (r := some _) C dX5_workerAt_17 (by decide) ?_
  refine hp_aload_nR C dX5_workerAt_18 rfl ?_
  refine hp_aret (r := some _) C hr (Or.inl ⟨_, rfl⟩) dX5_workerAt_19 ?_
  exact ⟨rfl, rfl⟩
set_option maxRecDepth 20000 in
set_option maxHeartbeats 4000000 in
theorem kw_workerX {l : Launch} {G : hpG} {pr : Nat → Prop} {B : hpT} {N S : Nat} {h : hpT} {κ : kS} {a : aS} {d : Nat} (K : KR G pr B N S h κ a) {x : Int32} (T : a_T a) (hbad : ∀ n, n < a_mk a → x = nI n → a_nd a 0 n = 0 → a_nd a 3 n = 2) (hd : 9 ≤ d) (hR1 : hp_nx h + 1 ≤ hp_n0 G + hp_LC) (hR2 : hp_sl h + 6 ≤ hp_LS) : hp_C l G yX5_workerAt (.code yX5_workerAt cX5_workerAt 4 (some (.object "KeeperTree$Worker"))) d [.ref (κ.1 5 0), .int x] (h) (fun _ _ => False) (fun E h' => E = "java/lang/IllegalArgumentException" ∧ h' = hp_mkX h) := by
  refine hp_ofV (by decide) (by simp [Value.category]) (Nat.le_of_ble_eq_true rfl) (fun M C hr hx el => ?_)
  by_cases b1 : a_bad a x
  · refine hp_aload_nR C dX5_workerAt_0 rfl ?_
    refine hp_iload_n C dX5_workerAt_1 rfl ?_
    exact hp_callV (ci := 5) C ml_X5_109 im_X5_nodeAt se_X5_nodeAt rfl (by decide) (kw_nodeX (d := d - 1) K T b1 (by omega) hR1 hR2) (by omega) dX5_workerAt_2 K.isT rfl rfl (by simp [Value.category]) (fun _ _ hf => hf.elim) (fun E_1 h_1 hq => hp_out C hx hq)
  · have hex : ∃ n, n < a_mk a ∧ x = nI n ∧ ¬ a_nd a 3 n = 2 := Classical.byContradiction (fun z => b1 (fun n h1 h2 => Classical.byContradiction (fun h3 => z ⟨n, h1, h2, h3⟩)))
    obtain ⟨n, hn, rfl, h3⟩ := hex
    have hk : a_nd a 0 n = 1 := by
      rcases T.kb hn with q | q
      · exact absurd (hbad n hn rfl q) h3
      · exact q
    refine hp_aload_nR C dX5_workerAt_0 rfl ?_
    refine hp_iload_n C dX5_workerAt_1 rfl ?_
    refine hp_callV (ci := 5) C ml_X5_109 im_X5_nodeAt se_X5_nodeAt rfl (by decide) (kw_node (d := d - 1) K T hn h3 (by omega)) (by omega) dX5_workerAt_2 K.isT rfl rfl (by simp [Value.category]) (fun v_2 h_2 hp => ?_) (fun _ _ hf => hf.elim)
    obtain ⟨rfl, e_2⟩ := hp
    rw [e_2]
    refine hp_astore_n (r := some _) C dX5_workerAt_5 (by decide) ?_
    refine hp_aload_nR C dX5_workerAt_6 rfl ?_
    refine hp_instNo C 2 cl_X5_83 (by decide) rfl (by decide) dX5_workerAt_7 (K.isK hn hk) ?_
    refine hp_if_eq (tgt := 20) C dX5_workerAt_10 (by decide) (fun _ => ?_) (fun z_9 => absurd z_9 (by decide))
    refine hp_athrow C tl_A (by omega) dX5_workerAt_20 dX5_workerAt_23 dX5_workerAt_24 dX5_workerAt_27 hx (by simp [Value.category]) hR1 hR2 ?_
    exact ⟨rfl, rfl⟩
set_option maxRecDepth 20000 in
set_option maxHeartbeats 4000000 in
theorem kw_owner {l : Launch} {G : hpG} {pr : Nat → Prop} {B : hpT} {N S : Nat} {h : hpT} {κ : kS} {a : aS} {d : Nat} (K : KR G pr B N S h κ a) {n : Nat} (T : a_T a) (hn : n < a_mk a) (h0 : n ≠ 0) : hp_C l G yX5_ownerOf (.code yX5_ownerOf cX5_ownerOf 1 (some (.object "KeeperTree$Keeper"))) d [.ref (κ.1 0 n)] (h) (fun v h' => v = some (.ref (κ.1 0 (a_pa a n))) ∧ h' = h) (fun _ _ => False) := by
  have hb := T.kb hn
  refine hp_ofV (by decide) (by simp [Value.category]) (Nat.le_of_ble_eq_true rfl) (fun M C hr hx el => ?_)
  refine hp_aload_nR C dX5_ownerOf_0 rfl ?_
  refine kg_N (v := .ref (κ.1 0 (a_pa a n))) C K hn hb (by decide) fl_X5_133_2 fl_X5_133_4 dX5_ownerOf_1 ((K.f65 hn).trans (by rw [if_neg h0]; rfl)) ?_
  refine hp_ifnonnull (r := some _) (tgt := 15) C dX5_ownerOf_4 (by decide) (fun _ _ => ?_) (fun hx_ => by cases hx_)
  refine hp_aload_nR C dX5_ownerOf_15 rfl ?_
  refine kg_N (v := .ref (κ.1 0 (a_pa a n))) C K hn hb (by decide) fl_X5_133_2 fl_X5_133_4 dX5_ownerOf_16 ((K.f65 hn).trans (by rw [if_neg h0]; rfl)) ?_
  refine hp_aret (r := some _) C hr (Or.inl ⟨_, rfl⟩) dX5_ownerOf_19 ?_
  exact ⟨rfl, rfl⟩
set_option maxRecDepth 20000 in
set_option maxHeartbeats 4000000 in
theorem kw_ownerX {l : Launch} {G : hpG} {pr : Nat → Prop} {B : hpT} {N S : Nat} {h : hpT} {κ : kS} {a : aS} {d : Nat} (K : KR G pr B N S h κ a) (T : a_T a) (hd : 6 ≤ d) (hR1 : hp_nx h + 1 ≤ hp_n0 G + hp_LC) (hR2 : hp_sl h + 6 ≤ hp_LS) : hp_C l G yX5_ownerOf (.code yX5_ownerOf cX5_ownerOf 1 (some (.object "KeeperTree$Keeper"))) d [.ref (κ.1 0 0)] (h) (fun _ _ => False) (fun E h' => E = "java/lang/IllegalArgumentException" ∧ h' = hp_mkX h) := by
  have hn : 0 < a_mk a := T.1.1
  have hb := T.kb hn
  refine hp_ofV (by decide) (by simp [Value.category]) (Nat.le_of_ble_eq_true rfl) (fun M C hr hx el => ?_)
  refine hp_aload_nR C dX5_ownerOf_0 rfl ?_
  refine kg_N (v := .null) C K hn hb (by decide) fl_X5_133_2 fl_X5_133_4 dX5_ownerOf_1 ((K.f65 hn).trans (by rw [if_pos rfl]; rfl)) ?_
  refine hp_ifnonnull (r := none) (tgt := 15) C dX5_ownerOf_4 (by decide) (fun _ hx_ => by cases hx_) (fun _ => ?_)
  refine hp_athrow C tl_A (by omega) dX5_ownerOf_7 dX5_ownerOf_10 dX5_ownerOf_11 dX5_ownerOf_14 hx (by simp [Value.category]) hR1 hR2 ?_
  exact ⟨rfl, rfl⟩
set_option maxRecDepth 20000 in
set_option maxHeartbeats 4000000 in
theorem kw_room {l : Launch} {G : hpG} {pr : Nat → Prop} {B : hpT} {N S : Nat} {h : hpT} {κ : kS} {a : aS} {d : Nat} (K : KR G pr B N S h κ a) {n : Nat} (T : a_T a) (hn : n < a_mk a) (hk : a_nd a 0 n = 1) : hp_C l G yX5_hasRoomBelow (.code yX5_hasRoomBelow cX5_hasRoomBelow 2 (some .boolean)) d [.ref (κ.1 5 0), .ref (κ.1 0 n)] (h) (fun v h' => v = some (.int (if a_mk a < 80 ∧ a_nd a 2 n < 8 then 1 else 0)) ∧ h' = h) (fun _ _ => False) := by
  have r2 := T.r2 hn
  have m80 := T.1.2
  refine hp_ofV (by decide) (by simp [Value.category]) (Nat.le_of_ble_eq_true rfl) (fun M C hr hx el => ?_)
  refine hp_aload_nR C dX5_hasRoomBelow_0 rfl ?_
  refine hp_get C fl_X5_31_5 dX5_hasRoomBelow_1 K.isT K.f163 ?_
  refine hp_bipush (v := 80) C dX5_hasRoomBelow_4 (by decide) ?_
  refine hp_icmp_ge (tgt := 22) C dX5_hasRoomBelow_6 (by decide) (fun c_6 => ?_) (fun c_6 => ?_)
  · refine hp_iconst (v := 0) C dX5_hasRoomBelow_22 (by decide) ?_
    refine hp_iret C hr (by decide) dX5_hasRoomBelow_23 ?_
    exact ⟨by rw [if_neg (by have := (nI_leI (a := 80) (b := a_mk a) (by omega) (by omega)).mp c_6; omega)], rfl⟩
  · refine hp_aload_nR C dX5_hasRoomBelow_9 rfl ?_
    refine hp_get C fl_X5_180_2 dX5_hasRoomBelow_10 (K.isK hn hk) (K.f66 hn) ?_
    refine hp_bipush (v := 8) C dX5_hasRoomBelow_13 (by decide) ?_
    refine hp_icmp_ge (tgt := 22) C dX5_hasRoomBelow_15 (by decide) (fun c_15 => ?_) (fun c_15 => ?_)
    · refine hp_iconst (v := 0) C dX5_hasRoomBelow_22 (by decide) ?_
      refine hp_iret C hr (by decide) dX5_hasRoomBelow_23 ?_
      exact ⟨by rw [if_neg (by have := (a_ofI_le (x := 8) (y := a_nd a 2 n) (by omega) (by omega)).mp c_15; omega)], rfl⟩
    · refine hp_iconst (v := 1) C dX5_hasRoomBelow_18 (by decide) ?_
      refine hp_goto (tgt := 23) C dX5_hasRoomBelow_19 (by decide) ?_
      refine hp_iret C hr (by decide) dX5_hasRoomBelow_23 ?_
      exact ⟨by rw [if_pos (by have q1 := (not_congr (nI_leI (a := 80) (b := a_mk a) (by omega) (by omega))).mp c_6; have q2 := (not_congr (a_ofI_le (x := 8) (y := a_nd a 2 n) (by omega) (by omega))).mp c_15; omega)], rfl⟩
