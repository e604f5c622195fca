/-! ===== failures are used up ===== -/
def a_fs (a : aS) : Nat → Nat
  | 0 => 0
  | i + 1 => a_fs a i + (a_nd a 11 i).toNat
/-- no failure is given -/
def a_fd (a b : aS) : Prop := ∀ m, a_nd b 11 m ≤ a_nd a 11 m
/-- one is used -/
def a_fx (a b : aS) : Prop := ∃ m, m < a_mk a ∧ 0 < a_nd a 11 m ∧ a_nd b 11 m < a_nd a 11 m
theorem a_fd.tr {a b c : aS} (x : a_fd a b) (y : a_fd b c) : a_fd a c := fun m => Int.le_trans (y m) (x m)
theorem a_fd.of {a b : aS} (h : a_nd b 11 = a_nd a 11) : a_fd a b := fun m => by rw [h]; exact Int.le_refl _
theorem a_fx.l {a b c : aS} (x : a_fd a b) (hm : a_mk b = a_mk a) (y : a_fx b c) : a_fx a c := by
  obtain ⟨m, h1, h2, h3⟩ := y
  have := x m
  exact ⟨m, by rw [hm] at h1; exact h1, by omega, by omega⟩
theorem a_fx.r {a b c : aS} (x : a_fx a b) (y : a_fd b c) : a_fx a c := by
  obtain ⟨m, h1, h2, h3⟩ := x
  have := y m
  exact ⟨m, h1, h2, by omega⟩
theorem a_fs_le {a b : aS} (x : a_fd a b) : ∀ i, a_fs b i ≤ a_fs a i
  | 0 => Nat.le_refl _
  | i + 1 => by
    have h1 := a_fs_le x i
    have h2 := x i
    unfold a_fs
    omega
theorem a_fs_lt {a b : aS} (x : a_fd a b) {m : Nat} (h0 : 0 < a_nd a 11 m) (h : a_nd b 11 m < a_nd a 11 m) : ∀ i, m < i → a_fs b i < a_fs a i
  | 0, hi => absurd hi (Nat.not_lt_zero _)
  | i + 1, hi => by
    unfold a_fs
    by_cases e : m = i
    · have h1 := a_fs_le x i
      rw [← e] at h1 ⊢
      omega
    · have h1 := a_fs_lt x h0 h i (by omega)
      have h2 := x i
      omega
theorem a_end_11 (k : Bool) (n : Nat) (a : aS) : a_nd (a_end k n a) 11 = a_nd a 11 := by
  unfold a_end
  split
  · exact a_nd_sne (f := 3) (g := 11) (a_st a _) n 0 (by decide)
  · exact a_nd_sne (f := 3) (g := 11) a n 0 (by decide)
theorem a_cR_11 {f : Nat → aS → Nat × aS} (hf : ∀ c a, a_nd (f c a).2 11 = a_nd a 11) : ∀ (l : List Nat) (a : aS), a_nd (a_cR f l a).2 11 = a_nd a 11
  | [], _ => rfl
  | c :: r, a => by
    unfold a_cR
    split
    · exact (a_cR_11 hf r _).trans (hf c a)
    · exact a_cR_11 hf r a
theorem a_ce_11 (k : Bool) : ∀ (f n : Nat) (a : aS), a_nd (a_ce k f n a).2 11 = a_nd a 11
  | 0, _, _ => rfl
  | f + 1, n, a => by
    unfold a_ce
    split
    · exact a_end_11 k n a
    · exact (a_end_11 k n _).trans (a_cR_11 (a_ce_11 k f) _ a)
theorem a_dis_11 (f p c t : Nat) (a : aS) : a_nd (a_dis f p c t a).2 11 = a_nd a 11 := (a_va_nd f c _).1 11 (by decide)
theorem a_rl_11 (f p c t : Nat) (a : aS) : a_nd (a_rl f p c t a) 11 = a_nd a 11 := by
  unfold a_rl
  split
  · exact (a_dis_11 f p c t _).trans (a_ce_11 false f c a)
  · exact a_ce_11 false f c a
theorem a_rF_11 (f p fr : Nat) : ∀ (j : Nat) (a : aS), a_nd (a_rF f p fr j a) 11 = a_nd a 11
  | 0, _ => rfl
  | j + 1, a => by
    unfold a_rF
    split
    · rfl
    · split
      · exact (a_rF_11 f p fr j _).trans (a_rl_11 f p _ j a)
      · exact a_rF_11 f p fr j a
theorem a_sF_11 {f : Nat} (ih : ∀ (c : Nat) (a : aS), a_T a → c < a_mk a → (9 : Int) ≤ f + a_nd a 2 c → a_fd a (a_go f c a).2 ∧ (¬ (a_go f c a).1 = true → a_fx a (a_go f c a).2)) : ∀ (l : List Nat) (b : aS), a_T b → (∀ c ∈ l, c < a_mk b ∧ (9 : Int) ≤ f + a_nd b 2 c) → a_fd b (a_sF (a_go f) l b).2 ∧ (¬ (a_sF (a_go f) l b).1 = none → a_fx b (a_sF (a_go f) l b).2)
  | [], b, _, _ => ⟨a_fd.of rfl, fun h => absurd rfl h⟩
  | c :: r, b, T, hl => by
    obtain ⟨c1, c2⟩ := hl c List.mem_cons_self
    obtain ⟨y1, y2⟩ := ih c b T c1 c2
    have kk := a_go_kp f c b
    by_cases g : (a_go f c b).1 = true
    · have e : a_sF (a_go f) (c :: r) b = a_sF (a_go f) r (a_go f c b).2 := by rw [a_sF, if_pos g]
      rw [e]
      obtain ⟨w1, w2⟩ := a_sF_11 ih r _ (kk.T T) (fun q hq => by rw [kk.mk, kk.nd]; exact hl q (List.mem_cons_of_mem _ hq))
      exact ⟨y1.tr w1, fun h => a_fx.l y1 kk.mk (w2 h)⟩
    · have e : a_sF (a_go f) (c :: r) b = (some c, (a_go f c b).2) := by rw [a_sF, if_neg g]
      rw [e]
      exact ⟨y1, fun _ => y2 g⟩
theorem a_go_11 : ∀ (f n : Nat) (a : aS), a_T a → n < a_mk a → (9 : Int) ≤ f + a_nd a 2 n → a_fd a (a_go f n a).2 ∧ (¬ (a_go f n a).1 = true → a_fx a (a_go f n a).2)
  | 0, n, a, T, hn, h9 => by
    have := T.r2 hn
    omega
  | f + 1, n, a, T, hn, h9 => by
    by_cases hw : a_nd a 0 n = 0
    · rw [a_go_w hw]
      by_cases hp : 0 < a_nd a 11 n
      · rw [if_pos hp]
        have e : ∀ m, a_nd (a_no (a_sn (a_sn (a_st a (a_tm a + (a_nd a 9 n).toNat)) 11 n (a_nd a 11 n - 1)) 3 n 0) 2 n 0) 11 m = if m = n then a_nd a 11 n - 1 else a_nd a 11 m := fun m => by
          show a_nd (a_sn (a_sn (a_st a _) 11 n _) 3 n 0) 11 m = _
          rw [a_nd_sne (f := 3) (g := 11) _ n 0 (by decide)]
          show va_up (a_nd a) 11 (va_up (a_nd a 11) n _) 11 m = _
          rw [va_up_self]
          by_cases e : m = n
          · rw [e, va_up_self, if_pos rfl]
          · rw [va_up_ne _ _ e, if_neg e]
        refine ⟨fun m => ?_, fun _ => ⟨n, hn, hp, ?_⟩⟩
        · rw [e]
          split
          · next em => rw [em]; omega
          · exact Int.le_refl _
        · rw [e, if_pos rfl]
          omega
      · rw [if_neg hp]
        refine ⟨a_fd.of ?_, fun h => absurd rfl h⟩
        exact a_nd_sne (f := 3) (g := 11) (a_st a _) n 1 (by decide)
    · rw [a_go_kk hw]
      have k0 := a_kp.srt a n []
      have hl : ∀ c ∈ a_rw a n, c < a_mk a ∧ (9 : Int) ≤ f + a_nd a 2 c := fun c hc => by
        have := T.rc hn hc
        exact ⟨this.1, by omega⟩
      obtain ⟨w1, w2⟩ := a_sF_11 (f := f) (a_go_11 f) (a_rw a n) (a_srt a n []) (k0.T T) hl
      have w1' : a_fd a (a_sF (a_go f) (a_rw a n) (a_srt a n [])).2 := w1
      cases hs : (a_sF (a_go f) (a_rw a n) (a_srt a n [])).1 with
      | none =>
        refine ⟨w1'.tr (a_fd.of (a_nd_sne (f := 3) (g := 11) _ n 1 (by decide))), fun h => absurd rfl h⟩
      | some c =>
        have w3 : a_fx a (a_sF (a_go f) (a_rw a n) (a_srt a n [])).2 := w2 (by rw [hs]; exact fun h => by cases h)
        have e2 : a_fd (a_sF (a_go f) (a_rw a n) (a_srt a n [])).2 (a_no (a_sn (a_cR (a_ce false f) (a_rw a n).reverse (a_sF (a_go f) (a_rw a n) (a_srt a n [])).2).2 3 n 0) 2 n 0) := a_fd.of ((a_nd_sne (f := 3) (g := 11) _ n 0 (by decide)).trans (a_cR_11 (a_ce_11 false f) _ _))
        exact ⟨w1'.tr e2, fun _ => w3.r e2⟩
theorem a_rd_11 {a : aS} (I : a_I a) {f p due : Nat} (hp : p < a_mk a) (h3 : ¬ a_nd a 3 p = 2) (h8 : (8 : Int) ≤ f + a_nd a 2 p) (hd : due ∈ a_rw a p) : a_fd a (a_rd f p due a).2 ∧ (¬ (a_rd f p due a).1 = none → a_fx a (a_rd f p due a).2) := by
  by_cases h5 : a_nd a 5 p = 0
  · have e : a_rd f p due a = a_sF (a_go f) [due] a := by
      unfold a_rd
      rw [if_pos h5]
      unfold a_sF
      split <;> rfl
    rw [e]
    have kd := a_kid I.1 I.2.1.1 hp hd
    exact a_sF_11 (a_go_11 f) [due] a I.1 (fun c hc => by
      rw [List.mem_singleton.mp hc]
      exact ⟨kd.2.2.2.1, by omega⟩)
  · generalize hfr : (if a_nd a 5 p = 1 then 0 else a_ix due (a_rw a p)) = fr
    have e : a_rd f p due a = a_sF (a_go f) ((a_rw (a_rF f p fr (a_rw a p).length a) p).drop fr) (a_rF f p fr (a_rw a p).length a) := by
      unfold a_rd
      rw [if_neg h5, hfr]
    rw [e]
    obtain ⟨y1, y2⟩ := a_rF_I (f := f) (p := p) (fr := fr) (a_rw a p).length a I hp h3 h8 (Nat.le_refl _)
    have k := a_rF_k2 f p fr (a_rw a p).length a
    have e11 := a_rF_11 f p fr (a_rw a p).length a
    have hp2 : p < a_mk (a_rF f p fr (a_rw a p).length a) := by rw [k.mk]; exact hp
    generalize a_rF f p fr (a_rw a p).length a = b at *
    obtain ⟨w1, w2⟩ := a_sF_11 (a_go_11 f) ((a_rw b p).drop fr) b y1.1 (fun c hc => by
      have kd := a_kid y1.1 y1.2.1.1 hp2 (List.mem_of_mem_drop hc)
      refine ⟨kd.2.2.2.1, ?_⟩
      rw [kd.2.2.2.2, k.nd]
      omega)
    exact ⟨(a_fd.of e11).tr w1, fun h => a_fx.l (a_fd.of e11) k.mk (w2 h)⟩
/-- the rounds end -/
theorem a_lq_of {f p N : Nat} (hN : 80 ≤ N) : ∀ (k due : Nat) (a : aS), a_I a → p < a_mk a → a_nd a 0 p = 1 → ¬ a_nd a 3 p = 2 → (8 : Int) ≤ f + a_nd a 2 p → due ∈ a_rw a p → a_fs a N < k → a_lq f p k due a := by
  intro k
  induction k with
  | zero =>
    intro due a I hp hk h3 h8 hm h
    exact absurd h (Nat.not_lt_zero _)
  | succ k ih =>
    intro due a I hp hk h3 h8 hm h
    have xc := I.cn hp hk
    by_cases hx : a_nd a 6 p < (a_rec (a_cn p a) p : Int)
    · exact Or.inl hx
    · cases hr1 : (a_rd f p due (a_cn p a)).1 with
      | none => exact Or.inr (Or.inl hr1)
      | some c =>
        refine Or.inr (Or.inr ⟨c, hr1, ?_⟩)
        obtain ⟨y1, y2⟩ := a_rd_I (f := f) xc hp h3 h8 hm
        have k2 := a_rd_k2 f p due (a_cn p a)
        obtain ⟨w1, w2⟩ := a_rd_11 (f := f) xc hp h3 h8 hm
        obtain ⟨m, m1, m2, m3⟩ := w2 (by rw [hr1]; exact fun q => by cases q)
        have m80 : a_mk (a_cn p a) ≤ 80 := I.1.1.2
        have hlt := a_fs_lt w1 m2 m3 N (by omega)
        have e0 : ∀ i, a_fs (a_cn p a) i = a_fs a i := fun i => by
          induction i with
          | zero => rfl
          | succ i ih => unfold a_fs; rw [ih]; rfl
        rw [e0] at hlt
        exact ih c _ y1 (by rw [k2.mk]; exact hp) (by rw [k2.nd]; exact hk) (by rw [y2]; exact h3) (by rw [k2.nd]; exact h8) (a_rd_mem (a := a_cn p a) hm hr1) (by omega)
theorem a_fs_max {a : aS} (T : a_T a) (AR : a_R a) : ∀ i, i ≤ 80 → a_fs a i ≤ 50 * i
  | 0, _ => Nat.le_refl _
  | i + 1, hi => by
    have h1 := a_fs_max T AR i (by omega)
    have h2 : (a_nd a 11 i).toNat ≤ 50 := by
      by_cases h : i < a_mk a
      · have := T.r11 h
        omega
      · rw [(AR.2.2.2.2 i (by omega) (by omega)).1 11 (by decide)]
        decide
    unfold a_fs
    omega
theorem a_lp_f {f p : Nat} : ∀ (k due : Nat) (a : aS), ¬ (a_lp f p k due a).1 = true → a_nd (a_lp f p k due a).2 3 p = 0
  | 0, _, _, h => absurd rfl h
  | k + 1, due, a, h => by
    by_cases hx : a_nd a 6 p < (a_rec (a_cn p a) p : Int)
    · rw [a_lp_gu hx]
      show a_nd (a_sn _ 3 p 0) 3 p = 0
      rw [a_nd_sn3, if_pos rfl]
    · cases hr1 : (a_rd f p due (a_cn p a)).1 with
      | none =>
        rw [a_lp_no hx hr1] at h
        exact absurd rfl h
      | some c =>
        rw [a_lp_so hx hr1] at h ⊢
        exact a_lp_f k c _ h
/-- handling finds keepers that are up, and ends -/
theorem a_hq_of : ∀ (k c y : Nat) (a : aS), a_I a → a_U a → c < a_mk a → ¬ a_nd a 3 c = 2 → ¬ a_nd a 3 c = 1 → a_nd a 2 c < k → (c ≠ 0 → a_nd a 3 (a_pa a c) = 1) → a_hq k c y a ∧ a_hok k c y a
  | 0, c, _, a, I, _, hc, _, _, hk, _ => by
    have := I.1.r2 hc
    omega
  | k + 1, c, y, a, I, x, hc, h3, hdn, hk, hup => by
    by_cases hc0 : c = 0
    · exact ⟨Or.inl hc0, hc, fun h => absurd hc0 h⟩
    · obtain ⟨w1, w2, w3⟩ := I.2.1.2.2.1 c hc hc0 h3
      have r1 := I.1.r1 hc hc0
      have r2 := I.1.r2 hc
      have epa : a_pa a c = (a_nd a 1 c).toNat := rfl
      have efu : a_fu a c = (9 - a_nd a 2 c).toNat := rfl
      have hpm : a_pa a c < a_mk a := by omega
      obtain ⟨d1, d2, d3, d4, d5⟩ := a_kid I.1 I.2.1.1 hpm w1
      have h8 : (8 : Int) ≤ (a_fu a c : Nat) + a_nd a 2 (a_pa a c) := by omega
      have hu := hup hc0
      have hfs := a_fs_max I.1 I.2.1 80 (Nat.le_refl _)
      have hlq := a_lq_of (f := a_fu a c) (N := 80) (Nat.le_refl _) 1000000 c a I hpm w2 w3 h8 w1 (by omega)
      obtain ⟨v1, v2, v3, v4⟩ := a_lp_I (f := a_fu a c) 1000000 c a I hpm w2 w3 h8 w1
      obtain ⟨u1, u2⟩ := a_lp_U (f := a_fu a c) 1000000 c a x I hpm w2 hu h8 w1 hdn
      have hf := a_lp_f (f := a_fu a c) (p := a_pa a c) 1000000 c a
      generalize hL : a_lp (a_fu a c) (a_pa a c) 1000000 c a = L at *
      have e1 : ∀ n, a_pa L.2 n = a_pa a n := fun n => by show (a_nd L.2 1 n).toNat = (a_nd a 1 n).toNat; rw [v3 1 (by decide) (by decide)]
      have rest : ¬ L.1 = true → a_hq k (a_pa a c) 1 L.2 ∧ a_hok k (a_pa a c) 1 L.2 := fun h => by
        refine a_hq_of k (a_pa a c) 1 L.2 v1 u1 (by rw [v2]; exact hpm) v4 (by rw [hf h]; decide) (by rw [v3 2 (by decide) (by decide)]; omega) (fun hp0 => ?_)
        rw [e1]
        have r1p := I.1.r1 hpm hp0
        have epp : a_pa a (a_pa a c) = (a_nd a 1 (a_pa a c)).toNat := rfl
        rw [u2 _ (by omega)]
        exact x.up hpm hp0 hu
      constructor
      · unfold a_hq
        rw [hL]
        refine Or.inr (Or.inr (Or.inr ⟨hu, hlq, ?_⟩))
        by_cases h : L.1 = true
        · exact Or.inl h
        · exact Or.inr (rest h).1
      · unfold a_hok
        rw [hL]
        exact ⟨hc, fun _ => ⟨w1, hpm, w2, fun _ _ h => ⟨v1.1, v1.2.2.2, (rest h).2⟩⟩⟩
