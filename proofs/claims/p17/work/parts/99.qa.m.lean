/-! ===== the first keeper never goes ===== -/
theorem a_dis_r0 {a : aS} (I : a_I a) {c f : Nat} (hc : c < a_mk a) (hc0 : c ≠ 0) (h3 : ¬ a_nd a 3 c = 2) (h9 : (9 : Int) ≤ f + a_nd a 2 c) (g0 : ¬ a_nd a 3 0 = 2) : ¬ a_nd (a_dis f (a_pa a c) c (a_ix c (a_rw a (a_pa a c))) a).2 3 0 = 2 := by
  rw [(a_dis_R I.1 I.2.1 hc hc0 h3 h9).2.2.1 0 (by omega)]
  exact g0
theorem a_hd_r0 : ∀ (k c y : Nat) (a : aS), a_I a → a_U a → c < a_mk a → ¬ a_nd a 3 c = 2 → ¬ a_nd a 3 c = 1 → (c ≠ 0 → a_nd a 3 (a_pa a c) = 1) → ¬ a_nd a 3 0 = 2 → ¬ a_nd (a_hd k c y a) 3 0 = 2 := by
  intro k
  induction k with
  | zero =>
    intro c y a I x hc h3 hdn hup g0
    exact g0
  | succ k ih =>
    intro c y a I x hc h3 hdn hup g0
    by_cases hc0 : c = 0
    · have el : a_hd (k + 1) c y a = a := by rw [a_hd, if_pos hc0]
      rw [el]
      exact g0
    · obtain ⟨w1, w2, w3⟩ := I.2.1.2.2.1 c hc hc0 h3
      have r1 := I.1.r1 hc hc0
      have r2 := I.1.r2 hc
      have epa : a_pa a c = (a_nd a 1 c).toNat := rfl
      have efu : a_fu a c = (9 - a_nd a 2 c).toNat := rfl
      have hpm : a_pa a c < a_mk a := by omega
      obtain ⟨d1, d2, d3, d4, d5⟩ := a_kid I.1 I.2.1.1 hpm w1
      have r2p := I.1.r2 hpm
      have h8 : (8 : Int) ≤ (a_fu a c : Nat) + a_nd a 2 (a_pa a c) := by omega
      have hu := hup hc0
      by_cases h42 : a_nd a 4 c = 2
      · have el : a_hd (k + 1) c y a = (a_dis (a_fu a c) (a_pa a c) c (a_ix c (a_rw a (a_pa a c))) a).2 := by rw [a_hd, if_neg hc0, if_pos h42]
        rw [el]
        exact a_dis_r0 I hc hc0 h3 (by omega) g0
      · by_cases h41 : a_nd a 4 c = 1 ∧ y ≤ 1
        · have el : a_hd (k + 1) c y a = a := by rw [a_hd, if_neg hc0, if_neg h42, if_pos h41]
          rw [el]
          exact g0
        · have el : a_hd (k + 1) c y a = if (a_lp (a_fu a c) (a_pa a c) 1000000 c a).1 = true then (a_lp (a_fu a c) (a_pa a c) 1000000 c a).2 else a_hd k (a_pa a c) 1 (a_lp (a_fu a c) (a_pa a c) 1000000 c a).2 := by rw [a_hd, if_neg hc0, if_neg h42, if_neg h41]
          rw [el]
          obtain ⟨v1, v2, v3, v4⟩ := a_lp_I (f := a_fu a c) 1000000 c a I hpm w2 w3 h8 w1
          obtain ⟨u1, u2⟩ := a_lp_U (f := a_fu a c) 1000000 c a x I hpm w2 hu h8 w1 hdn
          have hf := a_lp_f (f := a_fu a c) (p := a_pa a c) 1000000 c a
          generalize hL : a_lp (a_fu a c) (a_pa a c) 1000000 c a = L at *
          have e1 : ∀ n, a_pa L.2 n = a_pa a n := fun n => by show (a_nd L.2 1 n).toNat = (a_nd a 1 n).toNat; rw [v3 1 (by decide) (by decide)]
          have g1 : ¬ a_nd L.2 3 0 = 2 := by
            by_cases hp0 : a_pa a c = 0
            · rw [hp0] at v4
              exact v4
            · rw [u2 0 (by omega)]
              exact g0
          by_cases h : L.1 = true
          · rw [if_pos h]
            exact g1
          · rw [if_neg h]
            exact ih (a_pa a c) 1 L.2 v1 u1 (by rw [v2]; exact hpm) v4 (by rw [hf h]; decide) (fun hp0 => by
              rw [e1]
              have r1p := I.1.r1 hpm hp0
              have epp : a_pa a (a_pa a c) = (a_nd a 1 (a_pa a c)).toNat := rfl
              rw [u2 _ (by omega)]
              exact x.up hpm hp0 hu) g1
theorem a_kill_r0 {a : aS} (I : a_I a) (x : a_U a) {n : Nat} (hn : n < a_mk a) (hu : a_nd a 3 n = 1) (g0 : ¬ a_nd a 3 0 = 2) : ¬ a_nd (a_hd 9 n 9 (a_ce true (a_fu a n) n a).2) 3 0 = 2 := by
  have h3 : ¬ a_nd a 3 n = 2 := by omega
  have r2 := I.1.r2 hn
  have efu : a_fu a n = (9 - a_nd a 2 n).toNat := rfl
  have kg := a_ce_gk true (a_fu a n) n a I.1 hn h3
  obtain ⟨u1, u2⟩ := a_ce_Us true (a_fu a n) n a I.1 I.2.1 hn h3 (by omega) x
  have lo := a_ce_lo true (a_fu a n) n a I.1 I.2.1.1 hn
  generalize (a_ce true (a_fu a n) n a).2 = b at *
  have hup : n ≠ 0 → a_nd b 3 (a_pa b n) = 1 := fun h0 => by
    have ep : a_pa b n = a_pa a n := by show (a_nd b 1 n).toNat = (a_nd a 1 n).toNat; rw [kg.1.nd]
    have r1 := I.1.r1 hn h0
    have epn : a_pa a n = (a_nd a 1 n).toNat := rfl
    rw [ep, lo _ (by omega)]
    exact a_U.up x hn h0 hu
  exact a_hd_r0 9 n 9 b (I.gk kg) u1 (by rw [kg.1.mk]; exact hn) (by rw [u2]; decide) (by rw [u2]; decide) hup (by rw [kg.2.1]; exact g0)
theorem a_ends_r0 {a : aS} (I : a_I a) (x : a_U a) {n y : Nat} (hn : n < a_mk a) (hk : a_nd a 0 n = 0) (hu : a_nd a 3 n = 1) (g0 : ¬ a_nd a 3 0 = 2) : ¬ a_nd (a_hd 9 n y (a_no (a_sn a 3 n 0) 5 n y)) 3 0 = 2 := by
  have h3 : ¬ a_nd a 3 n = 2 := by omega
  have kg : a_gk a (a_no (a_sn a 3 n 0) 5 n y) := (a_gk.sn3 a hn h3 (by omega)).tr (a_gk.no _ _ _ _)
  have e3 : ∀ m, a_nd (a_no (a_sn a 3 n 0) 5 n y) 3 m = if m = n then 0 else a_nd a 3 m := fun m => a_nd_sn3 a n m 0
  have u1 : a_U (a_no (a_sn a 3 n 0) 5 n y) := a_Us.put x I.2.1 (n := n) (fun c hc => by rw [I.1.2.2.2.2.1 n hn hk] at hc; cases hc) rfl (a_nd1 kg.1) e3
  generalize a_no (a_sn a 3 n 0) 5 n y = b at *
  have hup : n ≠ 0 → a_nd b 3 (a_pa b n) = 1 := fun h0 => by
    have ep : a_pa b n = a_pa a n := by show (a_nd b 1 n).toNat = (a_nd a 1 n).toNat; rw [kg.1.nd]
    have r1 := I.1.r1 hn h0
    have epn : a_pa a n = (a_nd a 1 n).toNat := rfl
    rw [ep, e3, if_neg (by omega)]
    exact a_U.up x hn h0 hu
  exact a_hd_r0 9 n y b (I.gk kg) u1 (by rw [kg.1.mk]; exact hn) (by rw [e3, if_pos rfl]; decide) (by rw [e3, if_pos rfl]; decide) hup (by rw [kg.2.1]; exact g0)
theorem a_stop_r0 {a : aS} (I : a_I a) (x : a_U a) {n : Nat} (hn : n < a_mk a) (h0 : n ≠ 0) (h3 : ¬ a_nd a 3 n = 2) (g0 : ¬ a_nd a 3 0 = 2) : ¬ a_nd (a_rl (a_fu a n) (a_pa a n) n (a_ix n (a_rw a (a_pa a n))) a) 3 0 = 2 := by
  obtain ⟨w1, w2, w3⟩ := I.2.1.2.2.1 n hn h0 h3
  have r1 := I.1.r1 hn h0
  have r2 := I.1.r2 hn
  have epa : a_pa a n = (a_nd a 1 n).toNat := rfl
  have efu : a_fu a n = (9 - a_nd a 2 n).toNat := rfl
  have hpm : a_pa a n < a_mk a := by omega
  obtain ⟨d1, d2, d3, d4, d5⟩ := a_kid I.1 I.2.1.1 hpm w1
  have h8 : (8 : Int) ≤ (a_fu a n : Nat) + a_nd a 2 (a_pa a n) := by omega
  obtain ⟨i1, i2, i3⟩ := a_ix_ok w1
  have u := (a_rl_U (f := a_fu a n) x I hpm w3 h8 i1).2.1
  rw [i2] at u
  rw [u 0 (by omega)]
  exact g0
theorem a_add_r0 {a : aS} {p : Nat} {v : Nat → Int} (v3 : v 3 = 0) (g0 : ¬ a_nd a 3 0 = 2) : ¬ a_nd (a_add p v a) 3 0 = 2 := by
  have en : a_nd (a_add p v a) 3 0 = if 0 = a_mk a then v 3 else a_nd a 3 0 := rfl
  rw [en]
  split
  · rw [v3]; decide
  · exact g0
theorem a_kpr_r0 {a : aS} (I : a_I a) (x : a_U a) {p : Nat} {v : Nat → Int} (hp : p < a_mk a) (hk : a_nd a 0 p = 1) (h80 : a_mk a < 80) (T' : a_T (a_add p v a)) (v1 : v 1 = p) (v2 : v 2 = a_nd a 2 p + 1) (v3 : v 3 = 0) (v11 : v 11 ≤ 50) (g0 : ¬ a_nd a 3 0 = 2) : ¬ a_nd (a_kpr p v a) 3 0 = 2 := by
  unfold a_kpr
  by_cases hu : a_nd a 3 p = 1
  · rw [if_pos hu]
    obtain ⟨y1, y2, y3, y4, y5, kg⟩ := a_add_go (N := 80) I x hp hk hu h80 T' v1 v2 v3 v11
    rw [kg.2.1]
    exact a_add_r0 v3 g0
  · rw [if_neg hu]
    exact a_add_r0 v3 g0
theorem a_wkr_r0 {a : aS} (I : a_I a) (x : a_U a) {p : Nat} {v : Nat → Int} (hp : p < a_mk a) (hk : a_nd a 0 p = 1) (h80 : a_mk a < 80) (T' : a_T (a_add p v a)) (v1 : v 1 = p) (v2 : v 2 = a_nd a 2 p + 1) (v3 : v 3 = 0) (v11 : v 11 ≤ 50) (g0 : ¬ a_nd a 3 0 = 2) : ¬ a_nd (a_wkr p v a).2 3 0 = 2 := by
  unfold a_wkr
  by_cases hu : a_nd a 3 p = 1
  · rw [if_pos hu]
    obtain ⟨y1, y2, y3, y4, y5, kg⟩ := a_add_go (N := 80) I x hp hk hu h80 T' v1 v2 v3 v11
    have g1 : ¬ a_nd (a_go (a_fu (a_add p v a) (a_mk a)) (a_mk a) (a_add p v a)).2 3 0 = 2 := by
      rw [kg.2.1]
      exact a_add_r0 v3 g0
    split
    · exact g1
    · have en : ∀ f n, a_nd (a_add p v a) f n = if n = a_mk a then v f else a_nd a f n := fun f n => rfl
      have e3 : a_nd (a_add p v a) 3 (a_mk a) = 0 := by rw [en, if_pos rfl]; exact v3
      have e2 : a_nd (a_add p v a) 2 (a_mk a) = a_nd a 2 p + 1 := by rw [en, if_pos rfl]; exact v2
      have e1 : a_nd (a_add p v a) 1 (a_mk a) = p := by rw [en, if_pos rfl]; exact v1
      have hmn : a_mk a < a_mk (a_add p v a) := Nat.lt_succ_self _
      have r2' := T'.r2 hmn
      have m1 := I.1.1.1
      have efu : a_fu (a_add p v a) (a_mk a) = (9 - a_nd (a_add p v a) 2 (a_mk a)).toNat := rfl
      have h9 : (9 : Int) ≤ (a_fu (a_add p v a) (a_mk a) : Nat) + a_nd (a_add p v a) 2 (a_mk a) := by omega
      generalize a_fu (a_add p v a) (a_mk a) = F at *
      generalize (a_go F (a_mk a) (a_add p v a)).2 = b at *
      have epa : a_pa b (a_mk a) = p := by
        show (a_nd b 1 (a_mk a)).toNat = p
        rw [kg.1.nd, e1]
        rfl
      have hc : a_mk a < a_mk b := by rw [kg.1.mk]; exact hmn
      have hg : ¬ a_nd b 3 (a_mk a) = 2 := by rw [kg.2.1, e3]; decide
      have h9b : (9 : Int) ≤ F + a_nd b 2 (a_mk a) := by rw [kg.1.nd]; exact h9
      have q := a_dis_r0 y1 (f := F) hc (by omega) hg h9b g1
      rw [epa] at q
      exact q
  · rw [if_neg hu]
    exact a_add_r0 v3 g0
theorem a_kpr_rs (p : Nat) (v : Nat → Int) (a : aS) : a_rs (a_kpr p v a) = a_rs a := by
  unfold a_kpr
  split
  · exact (a_go_kp _ _ _).rs
  · rfl
theorem a_wkr_rs (p : Nat) (v : Nat → Int) (a : aS) : a_rs (a_wkr p v a).2 = a_rs a := by
  unfold a_wkr
  split
  · split
    · exact (a_go_kp _ _ _).rs
    · exact (a_dis_k2 _ _ _ _ _).rs.trans (a_go_kp _ _ _).rs
  · rfl
/-! ===== THE CLASS AND THE REFERENCE SIDE BY SIDE ===== -/
theorem hp_Cww {l : Launch} {G : hpG} {y : MethodName} {wd : Cond} {d : Nat} {av : List Value} {h : hpT} {P P' : Option Value → hpT → Prop} {X X' : String → hpT → Prop} (x : hp_C l G y wd d av h P X) (hP : ∀ v h', P v h' → P' v h') (hX : ∀ E h', X E h' → X' E h') : hp_C l G y wd d av h P' X' := fun hl => by
  intro p e ha hc hk s m args below hf happ hP0 hK
  obtain ⟨n, o, h1, h2, h3, h4⟩ := x hl p e ha hc hk s m args below hf happ hP0 hK
  refine ⟨n, o, h1, h2, h3, ?_⟩
  rcases h4 with ⟨⟨v, h', e1, e2, e3⟩, hf2⟩ | h4
  · exact Or.inl ⟨⟨v, h', e1, hP v h' e2, e3⟩, hf2⟩
  · obtain ⟨q, eq, E, ce, L, ⟨h', x1, x2⟩, rest⟩ := h4
    exact Or.inr ⟨q, eq, E, ce, L, ⟨h', hX E h' x1, x2⟩, rest⟩
/-- the reference's cells, and the answers' array behind them -/
def lw_pr (m b : Nat) : Prop := m ≤ b ∧ b ≤ m + 20
section LJ1
variable {G : hpG} {pr : Nat → Prop} {B : hpT} {N S : Nat} {h : hpT} {κ : kS} {a : aS}
/-- what isn't the class's own has changed -/
theorem KR.out (K : KR G pr B N S h κ a) (hd : hp_dE G < hp_n0 G) {h' : hpT} (e1 : hp_nx h' = hp_nx h) (e2 : hp_sl h' = hp_sl h) (e3 : hp_kd h' = hp_kd h) (e4 : hp_ln h' = hp_ln h) (e5 : ∀ f b, ¬ pr b → hp_fl h' f b = hp_fl h f b) (e6 : ∀ b i, ¬ pr b → hp_ar h' b i = hp_ar h b i) : KR G pr h' N S h' κ a := by
  refine ⟨?_, K.2.1, ?_, ?_, ?_, ?_, K.2.2.2.2.2.2⟩
  · have := K.1
    unfold k_S k_is hp_is at this ⊢
    rw [e1, e3, e4]
    exact this
  · intro f n ok
    rw [e5 f _ (K.prA ok)]
    exact K.V f n ok
  · intro r n i ok
    rw [e6 _ i (K.rkd hd (K.rok ok)).2]
    exact K.A r n i ok
  · intro b hb
    refine ⟨?_, rfl, rfl, fun _ => rfl, rfl⟩
    rw [e1]
    exact (K.2.2.2.2.1 b hb).1
  · have := K.2.2.2.2.2.1
    unfold k_B at this ⊢
    rw [e1, e2, e4]
    exact this
/-- an exception is made -/
theorem KR.mkX (K : KR G pr B N S h κ a) : KR G pr B (N + 1) (S + 6) (hp_mkX h) κ a := by
  obtain ⟨⟨s1, s2, s3, s4, s5, s6, s7⟩, i, v, x, f, b, t⟩ := K
  have g : ∀ {q k : Nat}, k_is G pr h q k → k_is G pr (hp_mkX h) q k := fun y => ⟨y.1.mkX, y.2⟩
  refine ⟨⟨fun n hn => g (s1 n hn), fun n hn hk => ?_, g s3, g s4, ⟨g s5.1, s5.2⟩, fun j hj => ⟨g (s6 j hj).1, (s6 j hj).2⟩, ⟨g s7.1, s7.2⟩⟩, i, v, x, fun c hc => ?_, ?_, t⟩
  · obtain ⟨y1, y2, y3, y4, y5⟩ := s2 n hn hk
    refine ⟨g y1, g y2, g y3, y4, ?_⟩
    rcases y5 with y5 | y5
    · exact Or.inl y5
    · exact Or.inr ⟨g y5.1, y5.2⟩
  · obtain ⟨y1, y2, y3, y4, y5⟩ := f c hc
    exact ⟨Nat.lt_succ_of_lt y1, (va_up_ne _ _ (Nat.ne_of_lt y1)).trans y2, y3, y4, y5⟩
  · refine ⟨Nat.succ_le_succ b.1, ?_⟩
    have := b.2
    show hp_sl h + 6 + hp_sm (k_po (hp_ln h) κ (a_nd a 0)) 0 (a_mk a) ≤ S + 6
    omega
theorem KR.mono (K : KR G pr B N S h κ a) {N' S' : Nat} (h1 : N ≤ N') (h2 : S ≤ S') : KR G pr B N' S' h κ a := ⟨K.1, K.2.1, K.2.2.1, K.2.2.2.1, K.2.2.2.2.1, ⟨Nat.le_trans K.2.2.2.2.2.1.1 h1, Nat.le_trans K.2.2.2.2.2.1.2 h2⟩, K.2.2.2.2.2.2⟩
theorem KR.nxl (K : KR G pr B N S h κ a) : hp_nx h ≤ N := K.2.2.2.2.2.1.1
theorem KR.sll (K : KR G pr B N S h κ a) : hp_sl h ≤ S := Nat.le_trans (Nat.le_add_right _ _) K.2.2.2.2.2.1.2
end LJ1
theorem mo_ww (h : hpT) (m : Nat) (s t : moS) : mo_w (mo_w h m s) m t = mo_w h m t := by
  refine hp_ext rfl rfl rfl rfl (fun f b => ?_) (fun b i => ?_)
  · rw [mo_w_fl, mo_w_fl, mo_w_fl]
    split <;> rfl
  · rw [mo_w_ar, mo_w_ar, mo_w_ar]
    split <;> rfl
theorem MR.self {h H : hpT} {m : Nat} {a : aS} {z : mrZ} (R : MR h m H a z) : MR H m H a z := by
  obtain ⟨s, e, r⟩ := R
  exact ⟨s, by rw [e, mo_ww], r⟩
theorem MR.sh {G : hpG} {h H : hpT} {m : Nat} {a : aS} {z : mrZ} (R : MR h m H a z) (x : mo_sh G h m) : mo_sh G H m := by
  obtain ⟨s, e, r⟩ := R
  rw [e]
  exact x.w s
theorem mo_of2 {G : hpG} {h h' : hpT} {m : Nat} {s : moS} (sh : mo_sh G h m) (hx : m + 19 < hp_nx h') (e : ∀ b, m ≤ b → b < m + 20 → hp_kd h' b = hp_kd h b ∧ hp_ln h' b = hp_ln h b ∧ hp_ar h' b = hp_ar (mo_w h m s) b ∧ ∀ f, hp_fl h' f b = hp_fl (mo_w h m s) f b) : mo_sh G h' m ∧ h' = mo_w h' m s := by
  refine ⟨⟨sh.1, hx, ((e m (Nat.le_refl _) (by omega)).1).trans sh.2.2.1, fun k hk => ?_⟩, hp_ext rfl rfl rfl rfl (fun f b => ?_) (fun b i => ?_)⟩
  · have := (mo_kj hk).2
    obtain ⟨e1, e2, -, -⟩ := e (m + 1 + mo_j k) (by omega) (by omega)
    exact ⟨e1.trans (sh.2.2.2 k hk).1, e2.trans (sh.2.2.2 k hk).2⟩
  · rw [mo_w_fl]
    by_cases c : b = m ∧ 192 ≤ f ∧ f < 217
    · rw [if_pos c, (e b (by omega) (by omega)).2.2.2 f, mo_w_fl, if_pos c]
    · rw [if_neg c]
  · rw [mo_w_ar]
    by_cases c : m < b ∧ b < m + 20
    · rw [if_pos c, (e b (by omega) c.2).2.2.1, mo_w_ar, if_pos c]
    · rw [if_neg c]
theorem MR.move {G : hpG} {H H' : hpT} {m : Nat} {a : aS} {z : mrZ} (sh : mo_sh G H m) (R : MR H m H a z) (F : k_F (lw_pr m) H H') : mo_sh G H' m ∧ MR H' m H' a z := by
  obtain ⟨s, e, r⟩ := R
  obtain ⟨t1, t2⟩ := mo_of2 (h := H) (h' := H') (s := s) sh (F (m + 19) ⟨by omega, by omega⟩).1 (fun b c1 c2 => by
    obtain ⟨y1, y2, y3, y4, y5⟩ := F b ⟨c1, by omega⟩
    rw [← e]
    exact ⟨y2, y3, y5, y4⟩)
  exact ⟨t1, s, t2, r⟩
/-- the class at k holds a; the reference at m holds a; the answers' array lies behind it -/
def LK (G : hpG) (m k N S : Nat) (B h : hpT) (a : aS) : Prop := ∃ κ, KQ G (lw_pr m) B N S h κ a ∧ κ.1 5 0 = k
def LM (G : hpG) (m : Nat) (c : Int32) (H : hpT) (a : aS) : Prop := mo_sh G H m ∧ ∃ z, MR H m H a z ∧ z.2.2 = (c, 80)
def LO (G : hpG) (m : Nat) (H : hpT) : Prop := hp_is G H (m + 20) 12 ∧ hp_ln H (m + 20) = 1
/-- the room is left for all calls -/
def lw_rm (G : hpG) (N S : Nat) : Prop := N + 40000 ≤ hp_n0 G + hp_LC ∧ S + 200000 ≤ hp_LS
theorem LO.move {G : hpG} {m : Nat} {H H' : hpT} (x : LO G m H) (F : k_F (lw_pr m) H H') : LO G m H' := by
  obtain ⟨y1, y2, y3, y4, y5⟩ := F (m + 20) ⟨by omega, by omega⟩
  exact ⟨⟨x.1.1, y1, y2.trans x.1.2.2⟩, y3.trans x.2⟩
theorem LM.move {G : hpG} {m : Nat} {c : Int32} {H H' : hpT} {a : aS} (x : LM G m c H a) (F : k_F (lw_pr m) H H') : LM G m c H' a := by
  obtain ⟨sh, z, R, e⟩ := x
  obtain ⟨t1, t2⟩ := R.move sh F
  exact ⟨t1, z, t2, e⟩
theorem LK.F {G : hpG} {m k N S : Nat} {B h : hpT} {a : aS} (x : LK G m k N S B h a) : k_F (lw_pr m) B h := by
  obtain ⟨κ, K, -⟩ := x
  exact K.2.2.2.2.1
theorem LK.isT {G : hpG} {m k N S : Nat} {B h : hpT} {a : aS} (x : LK G m k N S B h a) : hp_is G h k 5 := by
  obtain ⟨κ, K, rfl⟩ := x
  exact K.isT
/-- the reference has moved on -/
theorem LK.ref {G : hpG} {m k N S : Nat} {B h h' : hpT} {a b : aS} {z : mrZ} (x : LK G m k N S B h a) (hd : hp_dE G < hp_n0 G) (R : MR h m h' b z) (R0 : mo_sh G h m) : LK G m k N S h' h' a := by
  obtain ⟨κ, K, e⟩ := x
  obtain ⟨s, rfl, -⟩ := R
  refine ⟨κ, K.out hd rfl rfl rfl rfl (fun f b hb => ?_) (fun b i hb => ?_), e⟩
  · rw [mo_w_fl, if_neg]
    intro c
    exact hb ⟨by omega, by omega⟩
  · rw [mo_w_ar, if_neg]
    intro c
    exact hb ⟨by omega, by omega⟩
/-- an answer is laid down -/
theorem LK.ans {G : hpG} {m k N S : Nat} {B h : hpT} {a : aS} (x : LK G m k N S B h a) (hd : hp_dE G < hp_n0 G) (v : Value) : LK G m k N S (hp_set h (m + 20) 0 v) (hp_set h (m + 20) 0 v) a := by
  obtain ⟨κ, K, e⟩ := x
  refine ⟨κ, K.out hd rfl rfl rfl rfl (fun f b hb => rfl) (fun b i hb => ?_), e⟩
  rw [hp_set_ar, if_neg]
  intro c
  exact hb ⟨by omega, by omega⟩
theorem LK.re {G : hpG} {m k N S : Nat} {B h : hpT} {a : aS} (x : LK G m k N S B h a) (hd : hp_dE G < hp_n0 G) : LK G m k N S h h a := by
  obtain ⟨κ, K, e⟩ := x
  exact ⟨κ, K.out hd rfl rfl rfl rfl (fun _ _ _ => rfl) (fun _ _ _ => rfl), e⟩
theorem LM.ans {G : hpG} {m : Nat} {c : Int32} {H : hpT} {a : aS} (x : LM G m c H a) (v : Value) : LM G m c (hp_set H (m + 20) 0 v) a := by
  obtain ⟨sh, z, ⟨s, e, r⟩, e2⟩ := x
  obtain ⟨t1, t2⟩ := mo_of2 (h := H) (h' := hp_set H (m + 20) 0 v) (s := s) sh sh.2.1 (fun b c1 c2 => by
    rw [← e]
    refine ⟨rfl, rfl, ?_, fun _ => rfl⟩
    funext i
    rw [hp_set_ar, if_neg (by omega)])
  exact ⟨t1, z, ⟨s, t2, r⟩, e2⟩
/-- what a call of the class leaves: answer and state, or a refusal -/
def LX (G : hpG) (m k N S : Nat) (B : hpT) (a : aS) (c : Int32) (E : String) (h : hpT) : Prop := ((E = "java/lang/IllegalArgumentException" ∧ c = 1) ∨ (E = "java/lang/IllegalStateException" ∧ c = 2)) ∧ LK G m k N S B h a
theorem LX.of1 {G : hpG} {m N S : Nat} {B h : hpT} {κ : kS} {a : aS} (K : KQ G (lw_pr m) B N S h κ a) {E : String} {h' : hpT} (x : E = "java/lang/IllegalArgumentException" ∧ h' = hp_mkX h) : LX G m (κ.1 5 0) (N + 5) (S + 160) B a 1 E h' := by
  obtain ⟨rfl, rfl⟩ := x
  exact ⟨Or.inl ⟨rfl, rfl⟩, κ, K.mkX.mono (by omega) (by omega), rfl⟩
theorem LX.of2 {G : hpG} {m N S : Nat} {B h : hpT} {κ : kS} {a : aS} (K : KQ G (lw_pr m) B N S h κ a) {E : String} {h' : hpT} (x : E = "java/lang/IllegalStateException" ∧ h' = hp_mkX h) : LX G m (κ.1 5 0) (N + 5) (S + 160) B a 2 E h' := by
  obtain ⟨rfl, rfl⟩ := x
  exact ⟨Or.inr ⟨rfl, rfl⟩, κ, K.mkX.mono (by omega) (by omega), rfl⟩
/-- the class's state with its restarts -/
theorem LK.of {G : hpG} {m k N S : Nat} {B h : hpT} {κ : kS} {a b : aS} (K : KR G (lw_pr m) B (N + a_rs a) (S + 4 * a_rs a) h κ b) (e : a_rs b = a_rs a) (ek : κ.1 5 0 = k) : LK G m k (N + 5) (S + 160) B h b := by
  refine ⟨κ, ?_, ek⟩
  show KR G (lw_pr m) B (N + 5 + a_rs b) (S + 160 + 4 * a_rs b) h κ b
  rw [e]
  exact K.mono (by omega) (by omega)
theorem lw_rmK {G : hpG} {m N S i : Nat} {B h : hpT} {κ : kS} {a : aS} (K : KQ G (lw_pr m) B N S h κ a) (rm : lw_rm G N S) (Z : a_Z 80 i a) (hi : i ≤ 512) : hp_nx h + 50 ≤ hp_n0 G + hp_LC ∧ hp_sl h + 9000 ≤ hp_LS := by
  have h1 := (Z.sm hi).2.2
  have h2 := K.nxl
  have h3 := K.sll
  obtain ⟨h4, h5⟩ := rm
  omega
theorem lw_fin {G : hpG} {N S i : Nat} {a : aS} (rm : lw_rm G N S) (Z : a_Z 80 i a) (hi : i ≤ 512) : a_fin G N S a := by
  obtain ⟨h0, h1, h2⟩ := Z.sm hi
  obtain ⟨h4, h5⟩ := rm
  exact ⟨h0, h1, by omega, by omega⟩
theorem lw_pa {a : aS} (I : a_I a) {n : Nat} (hn : n < a_mk a) (h0 : n ≠ 0) (h3 : ¬ a_nd a 3 n = 2) : a_pa a n < a_mk a ∧ a_nd a 0 (a_pa a n) = 1 ∧ n ∈ a_rw a (a_pa a n) := by
  obtain ⟨w1, w2, w3⟩ := I.2.1.2.2.1 n hn h0 h3
  have r1 := I.1.r1 hn h0
  have epa : a_pa a n = (a_nd a 1 n).toNat := rfl
  exact ⟨by omega, w2, w1⟩
