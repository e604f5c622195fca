/-! ===== what holds between the steps ===== -/
def a_I (a : aS) : Prop := a_T a ∧ a_R a ∧ a_W a ∧ a_A a
theorem a_I.gk {a b : aS} (x : a_I a) (k : a_gk a b) : a_I b := ⟨k.1.T x.1, x.2.1.gk k, k.W x.2.2.1, k.1.A x.2.2.2⟩
theorem a_ix_at {L : List Nat} {j : Nat} (hd : L.Nodup) (hj : j < L.length) : a_ix (L.getD j 0) L = j := by
  have hm : L.getD j 0 ∈ L := by
    rw [List.getD_eq_getElem?_getD, List.getElem?_eq_getElem hj]
    exact List.getElem_mem _
  obtain ⟨i1, i2, -⟩ := a_ix_ok hm
  refine (List.getElem?_inj i1 hd).mp ?_
  rw [k_getD i1, k_getD hj, i2]
theorem a_kid {a : aS} (T : a_T a) (h0 : a_nd a 2 0 = 0) {n c : Nat} (hn : n < a_mk a) (hc : c ∈ a_rw a n) : n < c ∧ c ≠ 0 ∧ a_pa a c = n ∧ c < a_mk a ∧ a_nd a 2 c = a_nd a 2 n + 1 := by
  obtain ⟨c1, c2, c3⟩ := T.rc hn hc
  have r2 := T.r2 hn
  have hc0 : c ≠ 0 := fun e => by rw [e] at c3; omega
  have r1 := T.r1 c1 hc0
  have ep : a_pa a c = (a_nd a 1 c).toNat := rfl
  exact ⟨by omega, hc0, by omega, c1, c3⟩
theorem a_I.dis {a : aS} (x : a_I a) {c f : Nat} (hc : c < a_mk a) (hc0 : c ≠ 0) (h3 : ¬ a_nd a 3 c = 2) (h9 : (9 : Int) ≤ f + a_nd a 2 c) : a_I (a_dis f (a_pa a c) c (a_ix c (a_rw a (a_pa a c))) a).2 := by
  have k := a_dis_k2 f (a_pa a c) c (a_ix c (a_rw a (a_pa a c))) a
  obtain ⟨d1, d2, d3, d4⟩ := a_dis_R x.1 x.2.1 hc hc0 h3 h9
  refine ⟨k.T x.1, d1, fun n hn hw => ?_, k.A x.2.2.2⟩
  rw [d4]
  rw [k.mk] at hn
  rw [k.nd] at hw
  exact x.2.2.1 n hn hw
/-- nothing under c changes its state -/
def a_lo (c : Nat) (a b : aS) : Prop := ∀ n, n < c → a_nd b 3 n = a_nd a 3 n
theorem a_lo.tr {c : Nat} {a b e : aS} (x : a_lo c a b) (y : a_lo c b e) : a_lo c a e := fun n hn => (y n hn).trans (x n hn)
theorem a_lo.le {c q : Nat} {a b : aS} (x : a_lo c a b) (h : q ≤ c) : a_lo q a b := fun n hn => x n (by omega)
theorem a_lo.sn3 (a : aS) (n : Nat) (x : Int) : a_lo n a (a_sn a 3 n x) := fun m hm => by rw [a_nd_sn3, if_neg (by omega)]
theorem a_end_lo (k : Bool) (n : Nat) (a : aS) : a_lo n a (a_end k n a) := by
  unfold a_end
  split
  · exact a_lo.sn3 (a_st a _) n _
  · exact a_lo.sn3 a n _
theorem a_cR_lo {q : Nat} {f : Nat → aS → Nat × aS} (hk : ∀ c a, a_kp a (f c a).2) (hf : ∀ c a, a_T a → a_nd a 2 0 = 0 → c < a_mk a → q ≤ c → a_lo q a (f c a).2) : ∀ (l : List Nat) (a : aS), a_T a → a_nd a 2 0 = 0 → (∀ c ∈ l, c < a_mk a ∧ q ≤ c) → a_lo q a (a_cR f l a).2
  | [], a, _, _, _ => fun _ _ => rfl
  | c :: r, a, T, h0, hl => by
    unfold a_cR
    split
    · have k := hk c a
      exact (hf c a T h0 (hl c List.mem_cons_self).1 (hl c List.mem_cons_self).2).tr (a_cR_lo hk hf r _ (k.T T) (by rw [k.nd]; exact h0) (fun x hx => by rw [k.mk]; exact hl x (List.mem_cons_of_mem _ hx)))
    · exact a_cR_lo hk hf r a T h0 (fun x hx => hl x (List.mem_cons_of_mem _ hx))
theorem a_ce_lo (k : Bool) : ∀ (f n : Nat) (a : aS), a_T a → a_nd a 2 0 = 0 → n < a_mk a → a_lo n a (a_ce k f n a).2
  | 0, _, a, _, _, _ => fun _ _ => rfl
  | f + 1, n, a, T, h0, hn => by
    unfold a_ce
    split
    · exact a_end_lo k n a
    · exact (a_cR_lo (q := n) (a_ce_kp k f) (fun c b Tb hb hc hq => (a_ce_lo k f c b Tb hb hc).le hq) (a_rw a n).reverse a T h0 (fun c hc => by
        have := a_kid T h0 hn (List.mem_reverse.mp hc)
        exact ⟨this.2.2.2.1, by omega⟩)).tr (a_end_lo k n _)
theorem a_sF_lo {q : Nat} {f : Nat → aS → Bool × aS} (hk : ∀ c a, a_kp a (f c a).2) (hf : ∀ c a, a_T a → a_nd a 2 0 = 0 → c < a_mk a → q ≤ c → a_lo q a (f c a).2) : ∀ (l : List Nat) (a : aS), a_T a → a_nd a 2 0 = 0 → (∀ c ∈ l, c < a_mk a ∧ q ≤ c) → a_lo q a (a_sF f l a).2
  | [], a, _, _, _ => fun _ _ => rfl
  | c :: r, a, T, h0, hl => by
    have k := hk c a
    have l1 := hf c a T h0 (hl c List.mem_cons_self).1 (hl c List.mem_cons_self).2
    unfold a_sF
    split
    · exact l1.tr (a_sF_lo hk hf r _ (k.T T) (by rw [k.nd]; exact h0) (fun x hx => by rw [k.mk]; exact hl x (List.mem_cons_of_mem _ hx)))
    · exact l1
theorem a_go_lo : ∀ (f n : Nat) (a : aS), a_T a → a_nd a 2 0 = 0 → n < a_mk a → a_lo n a (a_go f n a).2
  | 0, _, a, _, _, _ => fun _ _ => rfl
  | f + 1, n, a, T, h0, hn => by
    by_cases hw : a_nd a 0 n = 0
    · rw [a_go_w hw]
      split
      · intro m hm
        show a_nd (a_sn (a_sn (a_st a _) 11 n _) 3 n _) 3 m = _
        rw [a_nd_sn3, if_neg (by omega), a_nd_sne _ _ _ (by decide)]
        rfl
      · intro m hm
        show a_nd (a_sn (a_st a _) 3 n _) 3 m = _
        rw [a_nd_sn3, if_neg (by omega)]
        rfl
    · have e : a_go (f + 1) n a = (if (a_sR (a_go f) (a_rw a n) (a_srt a n [])).1 = true then (true, a_no (a_sn (a_sR (a_go f) (a_rw a n) (a_srt a n [])).2 3 n 1) 1 n 0) else (false, a_no (a_sn (a_cR (a_ce false f) (a_rw a n).reverse (a_sR (a_go f) (a_rw a n) (a_srt a n [])).2).2 3 n 0) 2 n 0)) := by
        show (if a_nd a 0 n = 0 then _ else _) = _
        rw [if_neg hw]
      rw [e, a_sF_R]
      have k0 := a_kp.srt a n []
      have T0 := k0.T T
      have hl : ∀ c ∈ a_rw a n, c < a_mk a ∧ n ≤ c := fun c hc => by
        have := a_kid T h0 hn hc
        exact ⟨this.2.2.2.1, by omega⟩
      have l1 := a_sF_lo (q := n) (a_go_kp f) (fun c b Tb hb hc hq => (a_go_lo f c b Tb hb hc).le hq) (a_rw a n) (a_srt a n []) T0 h0 hl
      have k1 := k0.tr (a_sF_kp (a_go_kp f) (a_rw a n) (a_srt a n []))
      split
      · intro m hm
        show a_nd (a_sn (a_sF (a_go f) (a_rw a n) (a_srt a n [])).2 3 n 1) 3 m = _
        rw [a_nd_sn3, if_neg (by omega), l1 m hm]
        rfl
      · have l2 := a_cR_lo (q := n) (a_ce_kp false f) (fun c b Tb hb hc hq => (a_ce_lo false f c b Tb hb hc).le hq) (a_rw a n).reverse (a_sF (a_go f) (a_rw a n) (a_srt a n [])).2 (k1.T T) (by rw [k1.nd]; exact h0) (fun c hc => by rw [k1.mk]; exact hl c (List.mem_reverse.mp hc))
        intro m hm
        show a_nd (a_sn (a_cR (a_ce false f) (a_rw a n).reverse (a_sF (a_go f) (a_rw a n) (a_srt a n [])).2).2 3 n 0) 3 m = _
        rw [a_nd_sn3, if_neg (by omega), l2 m hm, l1 m hm]
        rfl
/-! ===== a round of restarts ===== -/
theorem a_rl_I {a : aS} (x : a_I a) {f p j : Nat} (hp : p < a_mk a) (h3 : ¬ a_nd a 3 p = 2) (h8 : (8 : Int) ≤ f + a_nd a 2 p) (hj : j < (a_rw a p).length) : a_I (a_rl f p ((a_rw a p).getD j 0) j a) ∧ a_nd (a_rl f p ((a_rw a p).getD j 0) j a) 3 p = a_nd a 3 p := by
  obtain ⟨T, AR, W, A⟩ := x
  have hm := k_rc T hp hj
  have hix := a_ix_at (T.nd hp) hj
  obtain ⟨d1, d2, d3, d4, d5⟩ := a_kid T AR.1 hp hm
  have hg := AR.2.2.2.1 p _ hp hm h3
  generalize hc : (a_rw a p).getD j 0 = c at *
  have k := a_ce_gk false f c a T d4 hg
  have lo := a_ce_lo false f c a T AR.1 d4
  unfold a_rl
  split
  · have epa : a_pa (a_ce false f c a).2 c = p := by
      show (a_nd (a_ce false f c a).2 1 c).toNat = p
      rw [k.1.nd]
      exact d3
    have hI : a_I (a_ce false f c a).2 := a_I.gk ⟨T, AR, W, A⟩ k
    have hc' : c < a_mk (a_ce false f c a).2 := by rw [k.1.mk]; exact d4
    have hg' : ¬ a_nd (a_ce false f c a).2 3 c = 2 := by rw [k.2.1]; exact hg
    have h9 : (9 : Int) ≤ f + a_nd (a_ce false f c a).2 2 c := by rw [k.1.nd]; omega
    have ix : a_ix c (a_rw (a_ce false f c a).2 p) = j := by rw [k.1.rw']; exact hix
    have r1 := hI.dis hc' d2 hg' h9
    have r2 := (a_dis_R hI.1 hI.2.1 hc' d2 hg' h9).2.2.1 p d1
    rw [epa, ix] at r1 r2
    exact ⟨r1, r2.trans (lo p d1)⟩
  · exact ⟨a_I.gk ⟨T, AR, W, A⟩ k, lo p d1⟩
theorem a_rF_I {f p fr : Nat} : ∀ (j : Nat) (a : aS), a_I a → p < a_mk a → ¬ a_nd a 3 p = 2 → (8 : Int) ≤ f + a_nd a 2 p → j ≤ (a_rw a p).length → a_I (a_rF f p fr j a) ∧ a_nd (a_rF f p fr j a) 3 p = a_nd a 3 p
  | 0, a, x, _, _, _, _ => ⟨x, rfl⟩
  | j + 1, a, x, hp, h3, h8, hj => by
    unfold a_rF
    split
    · exact ⟨x, rfl⟩
    · split
      · obtain ⟨y1, y2⟩ := a_rl_I x hp h3 h8 (show j < (a_rw a p).length by omega)
        have k := a_rl_k2 f p ((a_rw a p).getD j 0) j a
        have hl := (a_rl_len f p ((a_rw a p).getD j 0) j a).1
        obtain ⟨w1, w2⟩ := a_rF_I j _ y1 (by rw [k.mk]; exact hp) (by rw [y2]; exact h3) (by rw [k.nd]; exact h8) (by omega)
        exact ⟨w1, w2.trans y2⟩
      · exact a_rF_I j a x hp h3 h8 (by omega)
theorem a_rd_I {a : aS} (x : a_I a) {f p due : Nat} (hp : p < a_mk a) (h3 : ¬ a_nd a 3 p = 2) (h8 : (8 : Int) ≤ f + a_nd a 2 p) (hd : due ∈ a_rw a p) : a_I (a_rd f p due a).2 ∧ a_nd (a_rd f p due a).2 3 p = a_nd a 3 p := by
  have st : ∀ (l : List Nat) (b : aS), a_I b → p < a_mk b → ¬ a_nd b 3 p = 2 → (∀ c ∈ l, c ∈ a_rw b p) → a_I (a_sF (a_go f) l b).2 ∧ a_nd (a_sF (a_go f) l b).2 3 p = a_nd b 3 p := fun l b y hpb h3b hl => by
    have k := a_sF_gk (fun c e Te Xe hc h => a_go_gk f c e Te Xe hc h) l b y.1 y.2.1 (fun c hc => ⟨(a_kid y.1 y.2.1.1 hpb (hl c hc)).2.2.2.1, y.2.1.2.2.2.1 p c hpb (hl c hc) h3b⟩)
    have lo := a_sF_lo (q := p + 1) (a_go_kp f) (fun c e Te he hc hq => (a_go_lo f c e Te he hc).le hq) l b y.1 y.2.1.1 (fun c hc => by
      have := a_kid y.1 y.2.1.1 hpb (hl c hc)
      exact ⟨this.2.2.2.1, by omega⟩)
    exact ⟨y.gk k, lo p (by omega)⟩
  unfold a_rd
  split
  · have e := st [due] a x hp h3 (fun c hc => by rw [List.mem_singleton.mp hc]; exact hd)
    have e2 : (a_sF (a_go f) [due] a).2 = (a_go f due a).2 := by
      unfold a_sF
      split <;> rfl
    rw [e2] at e
    split <;> exact e
  · obtain ⟨y1, y2⟩ := a_rF_I (f := f) (p := p) (fr := if a_nd a 5 p = 1 then 0 else a_ix due (a_rw a p)) (a_rw a p).length a x hp h3 h8 (Nat.le_refl _)
    have k := a_rF_k2 f p (if a_nd a 5 p = 1 then 0 else a_ix due (a_rw a p)) (a_rw a p).length a
    obtain ⟨w1, w2⟩ := st ((a_rw (a_rF f p (if a_nd a 5 p = 1 then 0 else a_ix due (a_rw a p)) (a_rw a p).length a) p).drop (if a_nd a 5 p = 1 then 0 else a_ix due (a_rw a p))) _ y1 (by rw [k.mk]; exact hp) (by rw [y2]; exact h3) (fun c hc => List.mem_of_mem_drop hc)
    exact ⟨w1, w2.trans y2⟩
