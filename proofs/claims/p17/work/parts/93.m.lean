/-! ===== a child that is up has a keeper that is up ===== -/
def a_Us (E : Nat → Prop) (a : aS) : Prop := ∀ m, m < a_mk a → m ≠ 0 → a_nd a 3 m = 1 → a_nd a 3 (a_pa a m) = 1 ∨ E (a_pa a m)
/-- nothing comes up -/
def a_dn (a b : aS) : Prop := ∀ m, a_nd b 3 m = 1 → a_nd a 3 m = 1
theorem a_dn.rf (a : aS) : a_dn a a := fun _ h => h
theorem a_dn.tr {a b c : aS} (x : a_dn a b) (y : a_dn b c) : a_dn a c := fun m h => x m (y m h)
theorem a_nd_end (k : Bool) (n m : Nat) (a : aS) : a_nd (a_end k n a) 3 m = if m = n then 0 else a_nd a 3 m := by
  unfold a_end
  split
  · exact a_nd_sn3 (a_st a _) n m 0
  · exact a_nd_sn3 a n m 0
theorem a_end_dn (k : Bool) (n : Nat) (a : aS) : a_dn a (a_end k n a) := fun m h => by
  rw [a_nd_end] at h
  split at h
  · cases h
  · exact h
theorem a_cR_dnn {f : Nat → aS → Nat × aS} (hf : ∀ c a, a_dn a (f c a).2) : ∀ (l : List Nat) (a : aS), a_dn a (a_cR f l a).2
  | [], a => a_dn.rf a
  | c :: r, a => by
    unfold a_cR
    split
    · exact (hf c a).tr (a_cR_dnn hf r _)
    · exact a_cR_dnn hf r a
theorem a_ce_dn (k : Bool) : ∀ (f n : Nat) (a : aS), a_dn a (a_ce k f n a).2
  | 0, _, a => a_dn.rf a
  | f + 1, n, a => by
    unfold a_ce
    split
    · exact a_end_dn k n a
    · exact (a_cR_dnn (a_ce_dn k f) _ a).tr (a_end_dn k n _)
/-- n is put down, its row being down -/
theorem a_Us.put {E : Nat → Prop} {a b : aS} (x : a_Us E a) (AR : a_R a) {n : Nat} (h : ∀ c ∈ a_rw a n, ¬ a_nd a 3 c = 1) (hm : a_mk b = a_mk a) (h1 : a_nd b 1 = a_nd a 1) (h3 : ∀ m, a_nd b 3 m = if m = n then 0 else a_nd a 3 m) : a_Us E b := by
  intro m hmm hm0 hu
  rw [hm] at hmm
  have ep : a_pa b m = a_pa a m := by show (a_nd b 1 m).toNat = (a_nd a 1 m).toNat; rw [h1]
  rw [h3] at hu
  by_cases e : m = n
  · rw [if_pos e] at hu; cases hu
  · rw [if_neg e] at hu
    rw [ep, h3]
    rcases x m hmm hm0 hu with q | q
    · left
      rw [if_neg]
      · exact q
      · intro ep2
        have := (AR.2.2.1 m hmm hm0 (by omega)).1
        rw [ep2] at this
        exact h m this hu
    · exact Or.inr q
theorem a_nd1 {a b : aS} (k : a_kp a b) : a_nd b 1 = a_nd a 1 := k.2.2.1 1 (by decide) (by decide)
theorem a_cR_Us {k : Bool} {f : Nat} {E : Nat → Prop} (ih : ∀ (n : Nat) (a : aS), a_T a → a_R a → n < a_mk a → ¬ a_nd a 3 n = 2 → (9 : Int) ≤ f + a_nd a 2 n → a_Us E a → a_Us E (a_ce k f n a).2 ∧ a_nd (a_ce k f n a).2 3 n = 0) : ∀ (l : List Nat) (a : aS), a_T a → a_R a → (∀ c ∈ l, c < a_mk a ∧ ¬ a_nd a 3 c = 2 ∧ (9 : Int) ≤ f + a_nd a 2 c) → a_Us E a → a_Us E (a_cR (a_ce k f) l a).2 ∧ ∀ c ∈ l, ¬ a_nd (a_cR (a_ce k f) l a).2 3 c = 1
  | [], a, _, _, _, x => ⟨x, fun c hc => by cases hc⟩
  | c :: r, a, T, AR, hl, x => by
    obtain ⟨c1, c2, c3⟩ := hl c List.mem_cons_self
    by_cases h : a_nd a 3 c = 1
    · have e : (a_cR (a_ce k f) (c :: r) a).2 = (a_cR (a_ce k f) r (a_ce k f c a).2).2 := by rw [a_cR, if_pos h]
      rw [e]
      obtain ⟨y1, y2⟩ := ih c a T AR c1 c2 c3 x
      have kg := a_ce_gk k f c a T c1 c2
      obtain ⟨w1, w2⟩ := a_cR_Us ih r (a_ce k f c a).2 (kg.1.T T) (AR.gk kg) (fun y hy => by rw [kg.1.mk, kg.2.1, kg.1.nd]; exact hl y (List.mem_cons_of_mem _ hy)) y1
      refine ⟨w1, fun y hy => ?_⟩
      rcases List.mem_cons.mp hy with q | q
      · subst q
        intro hu
        have := a_cR_dnn (a_ce_dn k f) r (a_ce k f y a).2 y hu
        rw [y2] at this
        cases this
      · exact w2 y q
    · have e : (a_cR (a_ce k f) (c :: r) a).2 = (a_cR (a_ce k f) r a).2 := by rw [a_cR, if_neg h]
      rw [e]
      obtain ⟨w1, w2⟩ := a_cR_Us ih r a T AR (fun y hy => hl y (List.mem_cons_of_mem _ hy)) x
      refine ⟨w1, fun y hy => ?_⟩
      rcases List.mem_cons.mp hy with q | q
      · subst q
        exact fun hu => h (a_cR_dnn (a_ce_dn k f) r a y hu)
      · exact w2 y q
theorem a_ce_Us (k : Bool) {E : Nat → Prop} : ∀ (f n : Nat) (a : aS), a_T a → a_R a → n < a_mk a → ¬ a_nd a 3 n = 2 → (9 : Int) ≤ f + a_nd a 2 n → a_Us E a → a_Us E (a_ce k f n a).2 ∧ a_nd (a_ce k f n a).2 3 n = 0
  | 0, n, a, T, _, hn, _, h9, _ => by
    have := T.r2 hn
    omega
  | f + 1, n, a, T, AR, hn, h2, h9, x => by
    by_cases hw : a_nd a 0 n = 0
    · have e : (a_ce k (f + 1) n a).2 = a_end k n a := by rw [a_ce, if_pos hw]
      rw [e]
      refine ⟨x.put AR (fun c hc => ?_) (a_end_kp k n a).mk (a_nd1 (a_end_kp k n a)) (fun m => a_nd_end k n m a), by rw [a_nd_end, if_pos rfl]⟩
      rw [T.2.2.2.2.1 n hn hw] at hc
      cases hc
    · have e : (a_ce k (f + 1) n a).2 = a_end k n (a_cR (a_ce k f) (a_rw a n).reverse a).2 := by rw [a_ce, if_neg hw]
      rw [e]
      have hl : ∀ c ∈ (a_rw a n).reverse, c < a_mk a ∧ ¬ a_nd a 3 c = 2 ∧ (9 : Int) ≤ f + a_nd a 2 c := fun c hc => by
        have hc' := List.mem_reverse.mp hc
        obtain ⟨d1, d2, d3, d4, d5⟩ := a_kid T AR.1 hn hc'
        exact ⟨d4, AR.2.2.2.1 n c hn hc' h2, by omega⟩
      obtain ⟨w1, w2⟩ := a_cR_Us (fun c b => a_ce_Us k f c b) (a_rw a n).reverse a T AR hl x
      have kg := a_cR_gk (fun c b Tb hc h1 => a_ce_gk k f c b Tb hc (by omega)) (a_rw a n).reverse a T (fun c hc => (hl c hc).1)
      refine ⟨w1.put (AR.gk kg) (fun c hc => ?_) (a_end_kp k n _).mk (a_nd1 (a_end_kp k n _)) (fun m => a_nd_end k n m _), by rw [a_nd_end, if_pos rfl]⟩
      rw [kg.1.rw'] at hc
      exact w2 c (List.mem_reverse.mpr hc)
/-! ===== states of other nodes that are not deeper stay ===== -/
def a_ds (n : Nat) (a b : aS) : Prop := ∀ m, m ≠ n → a_nd a 2 m ≤ a_nd a 2 n → a_nd b 3 m = a_nd a 3 m
theorem a_ce_ds (k : Bool) : ∀ (f n : Nat) (a : aS), a_T a → n < a_mk a → a_ds n a (a_ce k f n a).2
  | 0, _, a, _, _ => fun _ _ _ => rfl
  | f + 1, n, a, T, hn => by
    have hR : ∀ (l : List Nat) (b : aS), a_T b → (∀ c ∈ l, c < a_mk b ∧ a_nd b 2 c = a_nd a 2 n + 1) → ∀ m, a_nd b 2 m ≤ a_nd a 2 n → a_nd (a_cR (a_ce k f) l b).2 3 m = a_nd b 3 m := by
      intro l
      induction l with
      | nil => intro b _ _ m _; rfl
      | cons c r ih =>
        intro b Tb hl m hm
        obtain ⟨c1, c2⟩ := hl c List.mem_cons_self
        by_cases h : a_nd b 3 c = 1
        · have kk := a_ce_kp k f c b
          have e : (a_cR (a_ce k f) (c :: r) b).2 = (a_cR (a_ce k f) r (a_ce k f c b).2).2 := by rw [a_cR, if_pos h]
          rw [e, ih _ (kk.T Tb) (fun y hy => by rw [kk.mk, kk.nd]; exact hl y (List.mem_cons_of_mem _ hy)) m (by rw [kk.nd]; exact hm)]
          exact a_ce_ds k f c b Tb c1 m (fun e => by rw [e] at hm; omega) (by omega)
        · have e : (a_cR (a_ce k f) (c :: r) b).2 = (a_cR (a_ce k f) r b).2 := by rw [a_cR, if_neg h]
          rw [e]
          exact ih b Tb (fun y hy => hl y (List.mem_cons_of_mem _ hy)) m hm
    intro m hmn hm
    by_cases hw : a_nd a 0 n = 0
    · have e : (a_ce k (f + 1) n a).2 = a_end k n a := by rw [a_ce, if_pos hw]
      rw [e, a_nd_end, if_neg hmn]
    · have e : (a_ce k (f + 1) n a).2 = a_end k n (a_cR (a_ce k f) (a_rw a n).reverse a).2 := by rw [a_ce, if_neg hw]
      rw [e, a_nd_end, if_neg hmn]
      exact hR _ a T (fun c hc => by
        have := T.rc hn (List.mem_reverse.mp hc)
        exact ⟨this.1, this.2.2⟩) m hm
/-! ===== the same for starting ===== -/
theorem a_go_kk {f n : Nat} {a : aS} (hw : ¬ a_nd a 0 n = 0) : a_go (f + 1) n a = if (a_sF (a_go f) (a_rw a n) (a_srt a n [])).1.isNone = true then (true, a_no (a_sn (a_sF (a_go f) (a_rw a n) (a_srt a n [])).2 3 n 1) 1 n 0) else (false, a_no (a_sn (a_cR (a_ce false f) (a_rw a n).reverse (a_sF (a_go f) (a_rw a n) (a_srt a n [])).2).2 3 n 0) 2 n 0) := by
  have e : a_go (f + 1) n a = (if (a_sR (a_go f) (a_rw a n) (a_srt a n [])).1 = true then (true, a_no (a_sn (a_sR (a_go f) (a_rw a n) (a_srt a n [])).2 3 n 1) 1 n 0) else (false, a_no (a_sn (a_cR (a_ce false f) (a_rw a n).reverse (a_sR (a_go f) (a_rw a n) (a_srt a n [])).2).2 3 n 0) 2 n 0)) := by
    show (if a_nd a 0 n = 0 then _ else _) = _
    rw [if_neg hw]
  rw [e, a_sF_R]
theorem a_go_w3 {f n : Nat} {a : aS} (hw : a_nd a 0 n = 0) (m : Nat) : a_nd (a_go (f + 1) n a).2 3 m = if m = n then (if (a_go (f + 1) n a).1 = true then 1 else 0) else a_nd a 3 m := by
  rw [a_go_w hw]
  split
  · show a_nd (a_sn (a_sn (a_st a _) 11 n _) 3 n 0) 3 m = _
    rw [a_nd_sn3, a_nd_sne _ _ _ (by decide)]
    rfl
  · show a_nd (a_sn (a_st a _) 3 n 1) 3 m = _
    rw [a_nd_sn3]
    rfl
theorem a_cR_ds {k : Bool} {f : Nat} {d : Int} : ∀ (l : List Nat) (b : aS), a_T b → (∀ c ∈ l, c < a_mk b ∧ a_nd b 2 c = d + 1) → ∀ m, a_nd b 2 m ≤ d → a_nd (a_cR (a_ce k f) l b).2 3 m = a_nd b 3 m
  | [], _, _, _, _, _ => rfl
  | c :: r, b, Tb, hl, m, hm => by
    obtain ⟨c1, c2⟩ := hl c List.mem_cons_self
    by_cases h : a_nd b 3 c = 1
    · have kk := a_ce_kp k f c b
      have e : (a_cR (a_ce k f) (c :: r) b).2 = (a_cR (a_ce k f) r (a_ce k f c b).2).2 := by rw [a_cR, if_pos h]
      rw [e, a_cR_ds r _ (kk.T Tb) (fun y hy => by rw [kk.mk, kk.nd]; exact hl y (List.mem_cons_of_mem _ hy)) m (by rw [kk.nd]; exact hm)]
      exact a_ce_ds k f c b Tb c1 m (fun e => by rw [e] at hm; omega) (by omega)
    · have e : (a_cR (a_ce k f) (c :: r) b).2 = (a_cR (a_ce k f) r b).2 := by rw [a_cR, if_neg h]
      rw [e]
      exact a_cR_ds r b Tb (fun y hy => hl y (List.mem_cons_of_mem _ hy)) m hm
theorem a_sF_ds {f : Nat} {d : Int} (ih : ∀ (n : Nat) (a : aS), a_T a → n < a_mk a → a_ds n a (a_go f n a).2) : ∀ (l : List Nat) (b : aS), a_T b → (∀ c ∈ l, c < a_mk b ∧ a_nd b 2 c = d + 1) → ∀ m, a_nd b 2 m ≤ d → a_nd (a_sF (a_go f) l b).2 3 m = a_nd b 3 m
  | [], _, _, _, _, _ => rfl
  | c :: r, b, Tb, hl, m, hm => by
    obtain ⟨c1, c2⟩ := hl c List.mem_cons_self
    have kk := a_go_kp f c b
    have st := ih c b Tb c1 m (fun e => by rw [e] at hm; omega) (by omega)
    unfold a_sF
    split
    · rw [a_sF_ds ih r _ (kk.T Tb) (fun y hy => by rw [kk.mk, kk.nd]; exact hl y (List.mem_cons_of_mem _ hy)) m (by rw [kk.nd]; exact hm)]
      exact st
    · exact st
theorem a_go_ds : ∀ (f n : Nat) (a : aS), a_T a → n < a_mk a → a_ds n a (a_go f n a).2
  | 0, _, a, _, _ => fun _ _ _ => rfl
  | f + 1, n, a, T, hn => by
    intro m hmn hm
    by_cases hw : a_nd a 0 n = 0
    · rw [a_go_w3 hw, if_neg hmn]
    · rw [a_go_kk hw]
      have k0 := a_kp.srt a n []
      have hl : ∀ c ∈ a_rw a n, c < a_mk a ∧ a_nd a 2 c = a_nd a 2 n + 1 := fun c hc => ⟨(T.rc hn hc).1, (T.rc hn hc).2.2⟩
      have s1 := a_sF_ds (f := f) (d := a_nd a 2 n) (a_go_ds f) (a_rw a n) (a_srt a n []) (k0.T T) hl m hm
      have k1 := k0.tr (a_sF_kp (a_go_kp f) (a_rw a n) (a_srt a n []))
      split
      · show a_nd (a_sn (a_sF (a_go f) (a_rw a n) (a_srt a n [])).2 3 n 1) 3 m = _
        rw [a_nd_sn3, if_neg hmn]
        exact s1
      · show a_nd (a_sn (a_cR (a_ce false f) (a_rw a n).reverse (a_sF (a_go f) (a_rw a n) (a_srt a n [])).2).2 3 n 0) 3 m = _
        rw [a_nd_sn3, if_neg hmn, a_cR_ds (d := a_nd a 2 n) _ _ (k1.T T) (fun c hc => by rw [k1.mk, k1.nd]; exact hl c (List.mem_reverse.mp hc)) m (by rw [k1.nd]; exact hm)]
        exact s1
theorem a_sF_Us {f n : Nat} {d : Int} {E : Nat → Prop} (hE : E n) (ih : ∀ (c : Nat) (a : aS), a_T a → a_R a → c < a_mk a → ¬ a_nd a 3 c = 2 → (9 : Int) ≤ f + a_nd a 2 c → ¬ a_nd a 3 c = 1 → (∀ x, E x → a_nd a 2 x < a_nd a 2 c) → (c = 0 ∨ a_nd a 3 (a_pa a c) = 1 ∨ E (a_pa a c)) → a_Us E a → a_Us E (a_go f c a).2) : ∀ (l : List Nat) (b : aS), a_T b → a_R b → l.Nodup → (∀ x, E x → a_nd b 2 x < d + 1) → (∀ c ∈ l, c < a_mk b ∧ ¬ a_nd b 3 c = 2 ∧ (9 : Int) ≤ f + a_nd b 2 c ∧ ¬ a_nd b 3 c = 1 ∧ a_nd b 2 c = d + 1 ∧ a_pa b c = n) → a_Us E b → a_Us E (a_sF (a_go f) l b).2
  | [], _, _, _, _, _, _, x => x
  | c :: r, b, Tb, Rb, hd, hx, hl, x => by
    obtain ⟨c1, c2, c3, c4, c5, c6⟩ := hl c List.mem_cons_self
    have kg := a_go_gk f c b Tb Rb c1 c2
    have y := ih c b Tb Rb c1 c2 c3 c4 (fun q hq => by rw [c5]; exact hx q hq) (Or.inr (Or.inr (by rw [c6]; exact hE))) x
    obtain ⟨n1, n2⟩ := List.nodup_cons.mp hd
    unfold a_sF
    split
    · refine a_sF_Us hE ih r _ (kg.1.T Tb) (Rb.gk kg) n2 (fun q hq => by rw [kg.1.nd]; exact hx q hq) (fun q hq => ?_) y
      obtain ⟨d1, d2, d3, d4, d5, d6⟩ := hl q (List.mem_cons_of_mem _ hq)
      have hqc : q ≠ c := fun e => n1 (by rw [← e]; exact hq)
      have ep : a_pa (a_go f c b).2 q = a_pa b q := by show (a_nd (a_go f c b).2 1 q).toNat = (a_nd b 1 q).toNat; rw [kg.1.nd]
      rw [kg.1.mk, kg.2.1, kg.1.nd, a_go_ds f c b Tb c1 q hqc (by omega), ep]
      exact ⟨d1, d2, d3, d4, d5, d6⟩
    · exact y
theorem a_go_Us : ∀ (f n : Nat) (E : Nat → Prop) (a : aS), a_T a → a_R a → n < a_mk a → ¬ a_nd a 3 n = 2 → (9 : Int) ≤ f + a_nd a 2 n → ¬ a_nd a 3 n = 1 → (∀ x, E x → a_nd a 2 x < a_nd a 2 n) → (n = 0 ∨ a_nd a 3 (a_pa a n) = 1 ∨ E (a_pa a n)) → a_Us E a → a_Us E (a_go f n a).2 ∧ a_nd (a_go f n a).2 3 n = (if (a_go f n a).1 = true then 1 else 0)
  | 0, n, _, a, T, _, hn, _, h9, _, _, _, _ => by
    have := T.r2 hn
    omega
  | f + 1, n, E, a, T, AR, hn, h2, h9, hu, hE, hp, x => by
    have hne : n ≠ 0 → a_pa a n ≠ n ∧ a_nd a 2 (a_pa a n) ≤ a_nd a 2 n := fun h0 => by
      obtain ⟨w1, w2, w3⟩ := AR.2.2.1 n hn h0 h2
      have r1 := T.r1 hn h0
      have e : a_pa a n = (a_nd a 1 n).toNat := rfl
      have := a_kid T AR.1 (show a_pa a n < a_mk a by omega) w1
      exact ⟨by omega, by omega⟩
    by_cases hw : a_nd a 0 n = 0
    · refine ⟨fun m hm hm0 hum => ?_, by rw [a_go_w3 hw, if_pos rfl]⟩
      have kg := a_go_kp (f + 1) n a
      rw [kg.mk] at hm
      have ep : a_pa (a_go (f + 1) n a).2 m = a_pa a m := by show (a_nd (a_go (f + 1) n a).2 1 m).toNat = (a_nd a 1 m).toNat; rw [kg.nd]
      rw [a_go_w3 hw] at hum
      rw [ep]
      by_cases e : m = n
      · subst e
        rcases hp with q | q | q
        · exact absurd q hm0
        · left
          rw [a_go_w3 hw, if_neg (hne hm0).1]
          exact q
        · exact Or.inr q
      · rw [if_neg e] at hum
        rcases x m hm hm0 hum with q | q
        · left
          have hpm : a_pa a m ≠ n := fun ee => by
            have := (AR.2.2.1 m hm hm0 (by omega)).1
            rw [ee, T.2.2.2.2.1 n hn hw] at this
            cases this
          rw [a_go_w3 hw, if_neg hpm]
          exact q
        · exact Or.inr q
    · have k0 := a_gk.srt a n
      have T0 := k0.1.T T
      have R0 := AR.gk k0
      have rowdn : ∀ c ∈ a_rw a n, ¬ a_nd a 3 c = 1 := fun c hc hcu => by
        obtain ⟨d1, d2, d3, d4, d5⟩ := a_kid T AR.1 hn hc
        rcases x c d4 d2 hcu with q | q
        · rw [d3] at q; exact hu q
        · rw [d3] at q
          have := hE n q
          omega
      have hl : ∀ c ∈ a_rw a n, c < a_mk a ∧ ¬ a_nd a 3 c = 2 ∧ (9 : Int) ≤ f + a_nd a 2 c ∧ ¬ a_nd a 3 c = 1 ∧ a_nd a 2 c = a_nd a 2 n + 1 ∧ a_pa a c = n := fun c hc => by
        obtain ⟨d1, d2, d3, d4, d5⟩ := a_kid T AR.1 hn hc
        exact ⟨d4, AR.2.2.2.1 n c hn hc h2, by omega, rowdn c hc, d5, d3⟩
      have x0 : a_Us (fun y => E y ∨ y = n) (a_srt a n []) := fun m hm hm0 hum => by
        rcases x m hm hm0 hum with q | q
        · exact Or.inl q
        · exact Or.inr (Or.inl q)
      have x1 := a_sF_Us (f := f) (n := n) (d := a_nd a 2 n) (E := fun y => E y ∨ y = n) (Or.inr rfl) (fun c b Tb Rb h1 h2 h3 h4 h5 h6 h7 => (a_go_Us f c (fun y => E y ∨ y = n) b Tb Rb h1 h2 h3 h4 h5 h6 h7).1) (a_rw a n) (a_srt a n []) T0 R0 (T.nd hn) (fun y hy => by
        rcases hy with q | q
        · have := hE y q
          show a_nd a 2 y < a_nd a 2 n + 1
          omega
        · show a_nd a 2 y < a_nd a 2 n + 1
          rw [q]
          omega) hl x0
      have k1 := k0.tr (a_sF_gk (fun c b Tb Xb hc h => a_go_gk f c b Tb Xb hc h) (a_rw a n) (a_srt a n []) T0 R0 (fun c hc => ⟨(hl c hc).1, (hl c hc).2.1⟩))
      have s1 := a_sF_ds (f := f) (d := a_nd a 2 n) (a_go_ds f) (a_rw a n) (a_srt a n []) T0 (fun c hc => ⟨(hl c hc).1, (hl c hc).2.2.2.2.1⟩)
      rw [a_go_kk hw]
      generalize hb : (a_sF (a_go f) (a_rw a n) (a_srt a n [])).2 = b at *
      have epb : ∀ m, a_pa b m = a_pa a m := fun m => by show (a_nd b 1 m).toNat = (a_nd a 1 m).toNat; rw [k1.1.nd]
      split
      · have e3 : ∀ m, a_nd (a_no (a_sn b 3 n 1) 1 n 0) 3 m = if m = n then 1 else a_nd b 3 m := fun m => a_nd_sn3 b n m 1
        have epc : ∀ m, a_pa (a_no (a_sn b 3 n 1) 1 n 0) m = a_pa a m := epb
        refine ⟨fun m hm hm0 hum => ?_, by rw [e3, if_pos rfl, if_pos rfl]⟩
        have hm' : m < a_mk b := hm
        rw [e3] at hum
        show a_nd (a_no (a_sn b 3 n 1) 1 n 0) 3 (a_pa (a_no (a_sn b 3 n 1) 1 n 0) m) = 1 ∨ E (a_pa (a_no (a_sn b 3 n 1) 1 n 0) m)
        rw [epc, e3]
        by_cases e : m = n
        · subst e
          rcases hp with q | q | q
          · exact absurd q hm0
          · left
            rw [if_neg (hne hm0).1]
            exact (s1 _ (hne hm0).2).trans q
          · exact Or.inr q
        · rw [if_neg e] at hum
          rcases x1 m hm' hm0 hum with q | q | q
          · left
            rw [epb] at q
            by_cases ee : a_pa a m = n
            · rw [if_pos ee]
            · rw [if_neg ee]; exact q
          · right
            rw [epb] at q
            exact q
          · left
            rw [epb] at q
            rw [if_pos q]
      · have hl2 : ∀ c ∈ (a_rw a n).reverse, c < a_mk b ∧ ¬ a_nd b 3 c = 2 ∧ (9 : Int) ≤ f + a_nd b 2 c := fun c hc => by
          rw [k1.1.mk, k1.2.1, k1.1.nd]
          have := hl c (List.mem_reverse.mp hc)
          exact ⟨this.1, this.2.1, this.2.2.1⟩
        have Tb := k1.1.T T
        have Rb := AR.gk k1
        obtain ⟨w1, w2⟩ := a_cR_Us (k := false) (f := f) (fun c b => a_ce_Us false f c b) (a_rw a n).reverse b Tb Rb hl2 x1
        have kg := a_cR_gk (fun c b Tb hc h1 => a_ce_gk false f c b Tb hc (by omega)) (a_rw a n).reverse b Tb (fun c hc => (hl2 c hc).1)
        generalize hcc : (a_cR (a_ce false f) (a_rw a n).reverse b).2 = c at *
        have e3 : ∀ m, a_nd (a_no (a_sn c 3 n 0) 2 n 0) 3 m = if m = n then 0 else a_nd c 3 m := fun m => a_nd_sn3 c n m 0
        have Rc := Rb.gk kg
        have erw : a_rw c = a_rw a := kg.1.rw'.trans k1.1.rw'
        have dnc : ∀ q ∈ a_rw c n, ¬ a_nd c 3 q = 1 := fun q hq => w2 q (List.mem_reverse.mpr (by rw [erw] at hq; exact hq))
        have y := w1.put (b := a_no (a_sn c 3 n 0) 2 n 0) Rc dnc rfl (show a_nd (a_sn c 3 n 0) 1 = a_nd c 1 from a_nd_sne (f := 3) (g := 1) c n 0 (by decide)) e3
        refine ⟨fun m hm hm0 hum => ?_, by rw [e3, if_pos rfl]; rfl⟩
        rcases y m hm hm0 hum with q | q | q
        · exact Or.inl q
        · exact Or.inr q
        · exfalso
          rw [e3] at hum
          by_cases e : m = n
          · rw [if_pos e] at hum; cases hum
          · rw [if_neg e] at hum
            have hin := (Rc.2.2.1 m hm hm0 (by omega)).1
            have epm : a_pa c m = n := q
            rw [epm] at hin
            exact dnc m hin hum
/-! ===== restarts keep it ===== -/
abbrev a_U (a : aS) : Prop := a_Us (fun _ => False) a
theorem a_U.up {a : aS} (x : a_U a) {m : Nat} (hm : m < a_mk a) (h0 : m ≠ 0) (hu : a_nd a 3 m = 1) : a_nd a 3 (a_pa a m) = 1 := (x m hm h0 hu).resolve_right id
theorem a_dis_dn (f p c t : Nat) (a : aS) : a_dn a (a_dis f p c t a).2 := fun m h => by
  unfold a_dis at h
  rw [a_va_st] at h
  split at h
  · cases h
  · exact h
theorem a_rl_dn (f p c t : Nat) (a : aS) : a_dn a (a_rl f p c t a) := by
  unfold a_rl
  split
  · exact (a_ce_dn false f c a).tr (a_dis_dn f p c t _)
  · exact a_ce_dn false f c a
theorem a_U.dis {a : aS} (x : a_U a) (I : a_I a) {c f : Nat} (hc : c < a_mk a) (hc0 : c ≠ 0) (h3 : ¬ a_nd a 3 c = 2) (h9 : (9 : Int) ≤ f + a_nd a 2 c) : a_U (a_dis f (a_pa a c) c (a_ix c (a_rw a (a_pa a c))) a).2 := by
  have k := a_dis_k2 f (a_pa a c) c (a_ix c (a_rw a (a_pa a c))) a
  obtain ⟨d1, d2, d3, d4⟩ := a_dis_R I.1 I.2.1 hc hc0 h3 h9
  generalize (a_dis f (a_pa a c) c (a_ix c (a_rw a (a_pa a c))) a).2 = b at *
  intro m hm hm0 hu
  have hm' := hm
  rw [k.mk] at hm'
  have ep : a_pa b m = a_pa a m := by show (a_nd b 1 m).toNat = (a_nd a 1 m).toNat; rw [k.nd]
  have hua : a_nd a 3 m = 1 := by
    rcases d2 m with q | q
    · omega
    · rw [q] at hu; exact hu
  have hp := x.up hm' hm0 hua
  have hg := (d1.2.2.1 m hm hm0 (by omega)).2.2
  left
  rcases d2 (a_pa b m) with q | q
  · exact absurd q hg
  · rw [q, ep]; exact hp
theorem a_rl_U {a : aS} (x : a_U a) (I : a_I a) {f p j : Nat} (hp : p < a_mk a) (h3 : ¬ a_nd a 3 p = 2) (h8 : (8 : Int) ≤ f + a_nd a 2 p) (hj : j < (a_rw a p).length) : a_U (a_rl f p ((a_rw a p).getD j 0) j a) ∧ a_lo (p + 1) a (a_rl f p ((a_rw a p).getD j 0) j a) ∧ ¬ a_nd (a_rl f p ((a_rw a p).getD j 0) j a) 3 ((a_rw a p).getD j 0) = 1 := by
  have T := I.1
  have AR := I.2.1
  have hm := k_rc T hp hj
  have hix := a_ix_at (T.nd hp) hj
  obtain ⟨d1, d2, d3, d4, d5⟩ := a_kid T AR.1 hp hm
  have hg := AR.2.2.2.1 p _ hp hm h3
  generalize hc : (a_rw a p).getD j 0 = c at *
  have k := a_ce_gk false f c a T d4 hg
  have lo := (a_ce_lo false f c a T AR.1 d4).le (show p + 1 ≤ c by omega)
  obtain ⟨u1, u2⟩ := a_ce_Us false f c a T AR d4 hg (by omega) x
  unfold a_rl
  split
  · have epa : a_pa (a_ce false f c a).2 c = p := by
      show (a_nd (a_ce false f c a).2 1 c).toNat = p
      rw [k.1.nd]
      exact d3
    have hI : a_I (a_ce false f c a).2 := I.gk k
    have hc' : c < a_mk (a_ce false f c a).2 := by rw [k.1.mk]; exact d4
    have hg' : ¬ a_nd (a_ce false f c a).2 3 c = 2 := by rw [k.2.1]; exact hg
    have h9 : (9 : Int) ≤ f + a_nd (a_ce false f c a).2 2 c := by rw [k.1.nd]; omega
    have ix : a_ix c (a_rw (a_ce false f c a).2 p) = j := by rw [k.1.rw']; exact hix
    have r1 := a_U.dis u1 hI hc' d2 hg' h9
    have r2 := (a_dis_R hI.1 hI.2.1 hc' d2 hg' h9).2.2.1
    have r3 := a_dis_dn f p c j (a_ce false f c a).2
    rw [epa, ix] at r1 r2
    refine ⟨r1, fun n hn => (r2 n (by omega)).trans (lo n hn), fun e => ?_⟩
    have := r3 c e
    omega
  · exact ⟨u1, lo, by omega⟩
theorem a_rl_row (f p j : Nat) (a : aS) : ∀ i, j ≤ i → i < (a_rw (a_rl f p ((a_rw a p).getD j 0) j a) p).length → j < (a_rw a p).length → ((a_rw (a_rl f p ((a_rw a p).getD j 0) j a) p).getD i 0 = (a_rw a p).getD i 0 ∧ i < (a_rw a p).length) ∨ ((a_rw (a_rl f p ((a_rw a p).getD j 0) j a) p).getD i 0 = (a_rw a p).getD (i + 1) 0 ∧ i + 1 < (a_rw a p).length) := by
  intro i hi hl hj
  unfold a_rl at hl ⊢
  split at hl
  · next h4 =>
    rw [if_pos h4]
    rw [a_dis_rw, va_up_self, (a_ce_kp false f _ a).rw', k_erL hj] at hl
    rw [a_dis_rw, va_up_self, (a_ce_kp false f _ a).rw', k_erD, if_neg (by omega)]
    exact Or.inr ⟨rfl, by omega⟩
  · next h4 =>
    rw [if_neg h4]
    rw [(a_ce_kp false f _ a).rw'] at hl ⊢
    exact Or.inl ⟨rfl, hl⟩
theorem a_rF_U {f p fr : Nat} : ∀ (j : Nat) (a : aS), a_U a → a_I a → p < a_mk a → ¬ a_nd a 3 p = 2 → (8 : Int) ≤ f + a_nd a 2 p → j ≤ (a_rw a p).length → (∀ i, j ≤ i → i < (a_rw a p).length → ¬ a_nd a 3 ((a_rw a p).getD i 0) = 1) → a_U (a_rF f p fr j a) ∧ a_lo (p + 1) a (a_rF f p fr j a) ∧ ∀ i, fr ≤ i → i < (a_rw (a_rF f p fr j a) p).length → ¬ a_nd (a_rF f p fr j a) 3 ((a_rw (a_rF f p fr j a) p).getD i 0) = 1
  | 0, a, x, _, _, _, _, _, hd => ⟨x, fun _ _ => rfl, fun i _ hi => hd i (Nat.zero_le _) hi⟩
  | j + 1, a, x, I, hp, h3, h8, hj, hd => by
    unfold a_rF
    by_cases hf : j < fr
    · rw [if_pos hf]
      exact ⟨x, fun _ _ => rfl, fun i h1 hi => hd i (by omega) hi⟩
    · rw [if_neg hf]
      by_cases hu : a_nd a 3 ((a_rw a p).getD j 0) = 1
      · rw [if_pos hu]
        have hjl : j < (a_rw a p).length := by omega
        obtain ⟨y1, y2⟩ := a_rl_I (f := f) I hp h3 h8 hjl
        obtain ⟨u1, u2, u3⟩ := a_rl_U (f := f) x I hp h3 h8 hjl
        have k := a_rl_k2 f p ((a_rw a p).getD j 0) j a
        have hl := (a_rl_len f p ((a_rw a p).getD j 0) j a).1
        have dn := a_rl_dn f p ((a_rw a p).getD j 0) j a
        obtain ⟨w1, w2, w3⟩ := a_rF_U (fr := fr) j _ u1 y1 (by rw [k.mk]; exact hp) (by rw [y2]; exact h3) (by rw [k.nd]; exact h8) (by omega) (fun i h1 hi e => by
          rcases a_rl_row f p j a i h1 hi hjl with ⟨q1, q2⟩ | ⟨q1, q2⟩
          · rw [q1] at e
            by_cases ei : i = j
            · subst ei
              exact u3 e
            · exact hd i (by omega) q2 (dn _ e)
          · rw [q1] at e
            exact hd (i + 1) (by omega) q2 (dn _ e))
        exact ⟨w1, u2.tr w2, w3⟩
      · rw [if_neg hu]
        exact a_rF_U (fr := fr) j a x I hp h3 h8 (by omega) (fun i h1 hi => by
          by_cases ei : i = j
          · rw [ei]; exact hu
          · exact hd i (by omega) hi)
theorem a_sF_U {f p : Nat} : ∀ (l : List Nat) (b : aS), a_U b → a_I b → p < a_mk b → a_nd b 3 p = 1 → l.Nodup → (∀ c ∈ l, c ∈ a_rw b p ∧ ¬ a_nd b 3 c = 1 ∧ (9 : Int) ≤ f + a_nd b 2 c) → a_U (a_sF (a_go f) l b).2 ∧ a_lo (p + 1) b (a_sF (a_go f) l b).2 ∧ ∀ c, (a_sF (a_go f) l b).1 = some c → a_nd (a_sF (a_go f) l b).2 3 c = 0
  | [], b, x, _, _, _, _, _ => ⟨x, fun _ _ => rfl, fun c hc => by cases hc⟩
  | c :: r, b, x, I, hp, hu, hd, hl => by
    obtain ⟨c1, c2, c3⟩ := hl c List.mem_cons_self
    obtain ⟨d1, d2, d3, d4, d5⟩ := a_kid I.1 I.2.1.1 hp c1
    have hg := I.2.1.2.2.2.1 p c hp c1 (by omega)
    have kg := a_go_gk f c b I.1 I.2.1 d4 hg
    have lo := (a_go_lo f c b I.1 I.2.1.1 d4).le (show p + 1 ≤ c by omega)
    obtain ⟨u1, u2⟩ := a_go_Us f c (fun _ => False) b I.1 I.2.1 d4 hg c3 c2 (fun _ h => h.elim) (Or.inr (Or.inl (by rw [d3]; exact hu))) x
    obtain ⟨n1, n2⟩ := List.nodup_cons.mp hd
    by_cases g : (a_go f c b).1 = true
    · have e : a_sF (a_go f) (c :: r) b = a_sF (a_go f) r (a_go f c b).2 := by rw [a_sF, if_pos g]
      rw [e]
      obtain ⟨w1, w2, w3⟩ := a_sF_U (f := f) (p := p) r _ u1 (I.gk kg) (by rw [kg.1.mk]; exact hp) (by rw [lo p (by omega)]; exact hu) n2 (fun q hq => by
        obtain ⟨e1, e2, e3⟩ := hl q (List.mem_cons_of_mem _ hq)
        have hqd := (a_kid I.1 I.2.1.1 hp e1).2.2.2.2
        have hqc : q ≠ c := fun e => n1 (by rw [← e]; exact hq)
        have s3 := a_go_ds f c b I.1 d4 q hqc (by omega)
        have s2 : a_nd (a_go f c b).2 2 q = a_nd b 2 q := by rw [kg.1.nd]
        rw [kg.1.rw', s3, s2]
        exact ⟨e1, e2, e3⟩)
      exact ⟨w1, lo.tr w2, w3⟩
    · have e : a_sF (a_go f) (c :: r) b = (some c, (a_go f c b).2) := by rw [a_sF, if_neg g]
      rw [e]
      refine ⟨u1, lo, fun q hq => ?_⟩
      cases hq
      rw [if_neg g] at u2
      exact u2
theorem a_rd_U {a : aS} (x : a_U a) (I : a_I a) {f p due : Nat} (hp : p < a_mk a) (hu : a_nd a 3 p = 1) (h8 : (8 : Int) ≤ f + a_nd a 2 p) (hd : due ∈ a_rw a p) (hdn : ¬ a_nd a 3 due = 1) : a_U (a_rd f p due a).2 ∧ a_lo (p + 1) a (a_rd f p due a).2 ∧ ∀ c, (a_rd f p due a).1 = some c → a_nd (a_rd f p due a).2 3 c = 0 := by
  by_cases h5 : a_nd a 5 p = 0
  · have e : a_rd f p due a = a_sF (a_go f) [due] a := by
      unfold a_rd
      rw [if_pos h5]
      unfold a_sF
      split <;> rfl
    rw [e]
    have kd := a_kid I.1 I.2.1.1 hp hd
    exact a_sF_U [due] a x I hp hu (List.nodup_cons.mpr ⟨List.not_mem_nil, List.nodup_nil⟩) (fun c hc => by
      rw [List.mem_singleton.mp hc]
      exact ⟨hd, hdn, by omega⟩)
  · generalize hfr : (if a_nd a 5 p = 1 then 0 else a_ix due (a_rw a p)) = fr
    have e : a_rd f p due a = a_sF (a_go f) ((a_rw (a_rF f p fr (a_rw a p).length a) p).drop fr) (a_rF f p fr (a_rw a p).length a) := by
      unfold a_rd
      rw [if_neg h5, hfr]
    rw [e]
    have h3 : ¬ a_nd a 3 p = 2 := by omega
    obtain ⟨y1, y2⟩ := a_rF_I (f := f) (p := p) (fr := fr) (a_rw a p).length a I hp h3 h8 (Nat.le_refl _)
    obtain ⟨u1, u2, u3⟩ := a_rF_U (f := f) (p := p) (fr := fr) (a_rw a p).length a x I hp h3 h8 (Nat.le_refl _) (fun i h1 hi => absurd hi (by omega))
    have k := a_rF_k2 f p fr (a_rw a p).length a
    have hp2 : p < a_mk (a_rF f p fr (a_rw a p).length a) := by rw [k.mk]; exact hp
    generalize a_rF f p fr (a_rw a p).length a = b at *
    obtain ⟨w1, w2, w3⟩ := a_sF_U (f := f) (p := p) ((a_rw b p).drop fr) b u1 y1 hp2 (by rw [y2]; exact hu) ((y1.1.nd hp2).sublist (List.drop_sublist _ _)) (fun c hc => by
      obtain ⟨i, hi⟩ := List.getElem?_of_mem hc
      rw [List.getElem?_drop] at hi
      have hil : fr + i < (a_rw b p).length := (List.getElem?_eq_some_iff.mp hi).1
      have ec : (a_rw b p).getD (fr + i) 0 = c := by rw [List.getD_eq_getElem?_getD, hi]; rfl
      have hm := List.mem_of_mem_drop hc
      have kd := a_kid y1.1 y1.2.1.1 hp2 hm
      refine ⟨hm, ?_, ?_⟩
      · rw [← ec]
        exact u3 (fr + i) (Nat.le_add_right _ _) hil
      · rw [kd.2.2.2.2, k.nd]
        omega)
    exact ⟨w1, u2.tr w2, w3⟩
theorem a_gu_U {a : aS} (x : a_U a) (I : a_I a) {f p : Nat} (hp : p < a_mk a) (h3 : ¬ a_nd a 3 p = 2) (h8 : (8 : Int) ≤ f + a_nd a 2 p) : a_U (a_gu f p a) ∧ a_lo p a (a_gu f p a) := by
  have T := I.1
  have AR := I.2.1
  have k0 := a_gk.no a 6 p 0
  have hl : ∀ c ∈ (a_rw a p).reverse, c < a_mk (a_no a 6 p 0) ∧ ¬ a_nd (a_no a 6 p 0) 3 c = 2 ∧ (9 : Int) ≤ f + a_nd (a_no a 6 p 0) 2 c := fun c hc => by
    have hc' := List.mem_reverse.mp hc
    obtain ⟨d1, d2, d3, d4, d5⟩ := a_kid T AR.1 hp hc'
    refine ⟨d4, AR.2.2.2.1 p c hp hc' h3, ?_⟩
    show (9 : Int) ≤ f + a_nd a 2 c
    omega
  have x0 : a_U (a_no a 6 p 0) := x
  obtain ⟨w1, w2⟩ := a_cR_Us (k := false) (f := f) (fun c b => a_ce_Us false f c b) (a_rw a p).reverse (a_no a 6 p 0) (k0.1.T T) (AR.gk k0) hl x0
  have kg := a_cR_gk (fun c b Tb hc h1 => a_ce_gk false f c b Tb hc (by omega)) (a_rw a p).reverse (a_no a 6 p 0) (k0.1.T T) (fun c hc => (hl c hc).1)
  have l1 := a_cR_lo (q := p) (a_ce_kp false f) (fun c b Tb hb hc hq => (a_ce_lo false f c b Tb hb hc).le hq) (a_rw a p).reverse (a_no a 6 p 0) (k0.1.T T) AR.1 (fun c hc => ⟨(hl c hc).1, by have := (a_kid T AR.1 hp (List.mem_reverse.mp hc)).1; omega⟩)
  unfold a_gu
  generalize (a_cR (a_ce false f) (a_rw a p).reverse (a_no a 6 p 0)).2 = c at *
  have erw : a_rw c = a_rw a := kg.1.rw'
  refine ⟨w1.put ((AR.gk k0).gk kg) (n := p) (fun q hq => w2 q (List.mem_reverse.mpr (by rw [erw] at hq; exact hq))) rfl (a_nd_sne (f := 3) (g := 1) c p 0 (by decide)) (fun m => a_nd_sn3 c p m 0), fun n hn => ?_⟩
  rw [a_nd_sn3, if_neg (by omega)]
  exact l1 n hn
theorem a_lp_U {f p : Nat} : ∀ (k due : Nat) (a : aS), a_U a → a_I a → p < a_mk a → a_nd a 0 p = 1 → a_nd a 3 p = 1 → (8 : Int) ≤ f + a_nd a 2 p → due ∈ a_rw a p → ¬ a_nd a 3 due = 1 → a_U (a_lp f p k due a).2 ∧ a_lo p a (a_lp f p k due a).2
  | 0, _, a, x, _, _, _, _, _, _, _ => ⟨x, fun _ _ => rfl⟩
  | k + 1, due, a, x, I, hp, hk, hu, h8, hm, hdn => by
    have xc := I.cn hp hk
    have uc : a_U (a_cn p a) := x
    have h3 : ¬ a_nd a 3 p = 2 := by omega
    by_cases hx : a_nd a 6 p < (a_rec (a_cn p a) p : Int)
    · rw [a_lp_gu hx]
      exact a_gu_U (f := f) (p := p) (a := a_sgv (a_cn p a) (a_gv a + 1)) uc (xc.gv (a_gv a + 1)) hp h3 h8
    · obtain ⟨y1, y2⟩ := a_rd_I (f := f) xc hp h3 h8 hm
      obtain ⟨u1, u2, u3⟩ := a_rd_U (f := f) uc xc hp hu h8 hm hdn
      have k2 := a_rd_k2 f p due (a_cn p a)
      cases hr1 : (a_rd f p due (a_cn p a)).1 with
      | none =>
        rw [a_lp_no hx hr1]
        exact ⟨u1, u2.le (Nat.le_succ p)⟩
      | some c =>
        rw [a_lp_so hx hr1]
        have hm2 := a_rd_mem (a := a_cn p a) hm hr1
        obtain ⟨w1, w2⟩ := a_lp_U k c _ u1 y1 (by rw [k2.mk]; exact hp) (by rw [k2.nd]; exact hk) (by rw [y2]; exact hu) (by rw [k2.nd]; exact h8) hm2 (by rw [u3 c hr1]; decide)
        exact ⟨w1, (u2.le (Nat.le_succ p)).tr w2⟩
/-! ===== failures are used up ===== -/
def a_fs (a : aS) : Nat → Nat
  | 0 => 0
  | i + 1 => a_fs a i + (a_nd a 11 i).toNat
/-- no failure is given -/
def a_fd (a b : aS) : Prop := ∀ m, a_nd b 11 m ≤ a_nd a 11 m
/-- one is used -/
def a_fx (a b : aS) : Prop := ∃ m, m < a_mk a ∧ 0 < a_nd a 11 m ∧ a_nd b 11 m < a_nd a 11 m
theorem a_fd.tr {a b c : aS} (x : a_fd a b) (y : a_fd b c) : a_fd a c := fun m => Int.le_trans (y m) (x m)
theorem a_fd.of {a b : aS} (h : a_nd b 11 = a_nd a 11) : a_fd a b := fun m => by rw [h]; exact Int.le_refl _
theorem a_fx.l {a b c : aS} (x : a_fd a b) (hm : a_mk b = a_mk a) (y : a_fx b c) : a_fx a c := by
  obtain ⟨m, h1, h2, h3⟩ := y
  have := x m
  exact ⟨m, by rw [hm] at h1; exact h1, by omega, by omega⟩
theorem a_fx.r {a b c : aS} (x : a_fx a b) (y : a_fd b c) : a_fx a c := by
  obtain ⟨m, h1, h2, h3⟩ := x
  have := y m
  exact ⟨m, h1, h2, by omega⟩
theorem a_fs_le {a b : aS} (x : a_fd a b) : ∀ i, a_fs b i ≤ a_fs a i
  | 0 => Nat.le_refl _
  | i + 1 => by
    have h1 := a_fs_le x i
    have h2 := x i
    unfold a_fs
    omega
theorem a_fs_lt {a b : aS} (x : a_fd a b) {m : Nat} (h0 : 0 < a_nd a 11 m) (h : a_nd b 11 m < a_nd a 11 m) : ∀ i, m < i → a_fs b i < a_fs a i
  | 0, hi => absurd hi (Nat.not_lt_zero _)
  | i + 1, hi => by
    unfold a_fs
    by_cases e : m = i
    · have h1 := a_fs_le x i
      rw [← e] at h1 ⊢
      omega
    · have h1 := a_fs_lt x h0 h i (by omega)
      have h2 := x i
      omega
theorem a_end_11 (k : Bool) (n : Nat) (a : aS) : a_nd (a_end k n a) 11 = a_nd a 11 := by
  unfold a_end
  split
  · exact a_nd_sne (f := 3) (g := 11) (a_st a _) n 0 (by decide)
  · exact a_nd_sne (f := 3) (g := 11) a n 0 (by decide)
theorem a_cR_11 {f : Nat → aS → Nat × aS} (hf : ∀ c a, a_nd (f c a).2 11 = a_nd a 11) : ∀ (l : List Nat) (a : aS), a_nd (a_cR f l a).2 11 = a_nd a 11
  | [], _ => rfl
  | c :: r, a => by
    unfold a_cR
    split
    · exact (a_cR_11 hf r _).trans (hf c a)
    · exact a_cR_11 hf r a
theorem a_ce_11 (k : Bool) : ∀ (f n : Nat) (a : aS), a_nd (a_ce k f n a).2 11 = a_nd a 11
  | 0, _, _ => rfl
  | f + 1, n, a => by
    unfold a_ce
    split
    · exact a_end_11 k n a
    · exact (a_end_11 k n _).trans (a_cR_11 (a_ce_11 k f) _ a)
theorem a_dis_11 (f p c t : Nat) (a : aS) : a_nd (a_dis f p c t a).2 11 = a_nd a 11 := (a_va_nd f c _).1 11 (by decide)
theorem a_rl_11 (f p c t : Nat) (a : aS) : a_nd (a_rl f p c t a) 11 = a_nd a 11 := by
  unfold a_rl
  split
  · exact (a_dis_11 f p c t _).trans (a_ce_11 false f c a)
  · exact a_ce_11 false f c a
theorem a_rF_11 (f p fr : Nat) : ∀ (j : Nat) (a : aS), a_nd (a_rF f p fr j a) 11 = a_nd a 11
  | 0, _ => rfl
  | j + 1, a => by
    unfold a_rF
    split
    · rfl
    · split
      · exact (a_rF_11 f p fr j _).trans (a_rl_11 f p _ j a)
      · exact a_rF_11 f p fr j a
theorem a_sF_11 {f : Nat} (ih : ∀ (c : Nat) (a : aS), a_T a → c < a_mk a → (9 : Int) ≤ f + a_nd a 2 c → a_fd a (a_go f c a).2 ∧ (¬ (a_go f c a).1 = true → a_fx a (a_go f c a).2)) : ∀ (l : List Nat) (b : aS), a_T b → (∀ c ∈ l, c < a_mk b ∧ (9 : Int) ≤ f + a_nd b 2 c) → a_fd b (a_sF (a_go f) l b).2 ∧ (¬ (a_sF (a_go f) l b).1 = none → a_fx b (a_sF (a_go f) l b).2)
  | [], b, _, _ => ⟨a_fd.of rfl, fun h => absurd rfl h⟩
  | c :: r, b, T, hl => by
    obtain ⟨c1, c2⟩ := hl c List.mem_cons_self
    obtain ⟨y1, y2⟩ := ih c b T c1 c2
    have kk := a_go_kp f c b
    by_cases g : (a_go f c b).1 = true
    · have e : a_sF (a_go f) (c :: r) b = a_sF (a_go f) r (a_go f c b).2 := by rw [a_sF, if_pos g]
      rw [e]
      obtain ⟨w1, w2⟩ := a_sF_11 ih r _ (kk.T T) (fun q hq => by rw [kk.mk, kk.nd]; exact hl q (List.mem_cons_of_mem _ hq))
      exact ⟨y1.tr w1, fun h => a_fx.l y1 kk.mk (w2 h)⟩
    · have e : a_sF (a_go f) (c :: r) b = (some c, (a_go f c b).2) := by rw [a_sF, if_neg g]
      rw [e]
      exact ⟨y1, fun _ => y2 g⟩
theorem a_go_11 : ∀ (f n : Nat) (a : aS), a_T a → n < a_mk a → (9 : Int) ≤ f + a_nd a 2 n → a_fd a (a_go f n a).2 ∧ (¬ (a_go f n a).1 = true → a_fx a (a_go f n a).2)
  | 0, n, a, T, hn, h9 => by
    have := T.r2 hn
    omega
  | f + 1, n, a, T, hn, h9 => by
    by_cases hw : a_nd a 0 n = 0
    · rw [a_go_w hw]
      by_cases hp : 0 < a_nd a 11 n
      · rw [if_pos hp]
        have e : ∀ m, a_nd (a_no (a_sn (a_sn (a_st a (a_tm a + (a_nd a 9 n).toNat)) 11 n (a_nd a 11 n - 1)) 3 n 0) 2 n 0) 11 m = if m = n then a_nd a 11 n - 1 else a_nd a 11 m := fun m => by
          show a_nd (a_sn (a_sn (a_st a _) 11 n _) 3 n 0) 11 m = _
          rw [a_nd_sne (f := 3) (g := 11) _ n 0 (by decide)]
          show va_up (a_nd a) 11 (va_up (a_nd a 11) n _) 11 m = _
          rw [va_up_self]
          by_cases e : m = n
          · rw [e, va_up_self, if_pos rfl]
          · rw [va_up_ne _ _ e, if_neg e]
        refine ⟨fun m => ?_, fun _ => ⟨n, hn, hp, ?_⟩⟩
        · rw [e]
          split
          · next em => rw [em]; omega
          · exact Int.le_refl _
        · rw [e, if_pos rfl]
          omega
      · rw [if_neg hp]
        refine ⟨a_fd.of ?_, fun h => absurd rfl h⟩
        exact a_nd_sne (f := 3) (g := 11) (a_st a _) n 1 (by decide)
    · rw [a_go_kk hw]
      have k0 := a_kp.srt a n []
      have hl : ∀ c ∈ a_rw a n, c < a_mk a ∧ (9 : Int) ≤ f + a_nd a 2 c := fun c hc => by
        have := T.rc hn hc
        exact ⟨this.1, by omega⟩
      obtain ⟨w1, w2⟩ := a_sF_11 (f := f) (a_go_11 f) (a_rw a n) (a_srt a n []) (k0.T T) hl
      have w1' : a_fd a (a_sF (a_go f) (a_rw a n) (a_srt a n [])).2 := w1
      cases hs : (a_sF (a_go f) (a_rw a n) (a_srt a n [])).1 with
      | none =>
        refine ⟨w1'.tr (a_fd.of (a_nd_sne (f := 3) (g := 11) _ n 1 (by decide))), fun h => absurd rfl h⟩
      | some c =>
        have w3 : a_fx a (a_sF (a_go f) (a_rw a n) (a_srt a n [])).2 := w2 (by rw [hs]; exact fun h => by cases h)
        have e2 : a_fd (a_sF (a_go f) (a_rw a n) (a_srt a n [])).2 (a_no (a_sn (a_cR (a_ce false f) (a_rw a n).reverse (a_sF (a_go f) (a_rw a n) (a_srt a n [])).2).2 3 n 0) 2 n 0) := a_fd.of ((a_nd_sne (f := 3) (g := 11) _ n 0 (by decide)).trans (a_cR_11 (a_ce_11 false f) _ _))
        exact ⟨w1'.tr e2, fun _ => w3.r e2⟩
theorem a_rd_11 {a : aS} (I : a_I a) {f p due : Nat} (hp : p < a_mk a) (h3 : ¬ a_nd a 3 p = 2) (h8 : (8 : Int) ≤ f + a_nd a 2 p) (hd : due ∈ a_rw a p) : a_fd a (a_rd f p due a).2 ∧ (¬ (a_rd f p due a).1 = none → a_fx a (a_rd f p due a).2) := by
  by_cases h5 : a_nd a 5 p = 0
  · have e : a_rd f p due a = a_sF (a_go f) [due] a := by
      unfold a_rd
      rw [if_pos h5]
      unfold a_sF
      split <;> rfl
    rw [e]
    have kd := a_kid I.1 I.2.1.1 hp hd
    exact a_sF_11 (a_go_11 f) [due] a I.1 (fun c hc => by
      rw [List.mem_singleton.mp hc]
      exact ⟨kd.2.2.2.1, by omega⟩)
  · generalize hfr : (if a_nd a 5 p = 1 then 0 else a_ix due (a_rw a p)) = fr
    have e : a_rd f p due a = a_sF (a_go f) ((a_rw (a_rF f p fr (a_rw a p).length a) p).drop fr) (a_rF f p fr (a_rw a p).length a) := by
      unfold a_rd
      rw [if_neg h5, hfr]
    rw [e]
    obtain ⟨y1, y2⟩ := a_rF_I (f := f) (p := p) (fr := fr) (a_rw a p).length a I hp h3 h8 (Nat.le_refl _)
    have k := a_rF_k2 f p fr (a_rw a p).length a
    have e11 := a_rF_11 f p fr (a_rw a p).length a
    have hp2 : p < a_mk (a_rF f p fr (a_rw a p).length a) := by rw [k.mk]; exact hp
    generalize a_rF f p fr (a_rw a p).length a = b at *
    obtain ⟨w1, w2⟩ := a_sF_11 (a_go_11 f) ((a_rw b p).drop fr) b y1.1 (fun c hc => by
      have kd := a_kid y1.1 y1.2.1.1 hp2 (List.mem_of_mem_drop hc)
      refine ⟨kd.2.2.2.1, ?_⟩
      rw [kd.2.2.2.2, k.nd]
      omega)
    exact ⟨(a_fd.of e11).tr w1, fun h => a_fx.l (a_fd.of e11) k.mk (w2 h)⟩
/-- the rounds end -/
theorem a_lq_of {f p N : Nat} (hN : 80 ≤ N) : ∀ (k due : Nat) (a : aS), a_I a → p < a_mk a → a_nd a 0 p = 1 → ¬ a_nd a 3 p = 2 → (8 : Int) ≤ f + a_nd a 2 p → due ∈ a_rw a p → a_fs a N < k → a_lq f p k due a := by
  intro k
  induction k with
  | zero =>
    intro due a I hp hk h3 h8 hm h
    exact absurd h (Nat.not_lt_zero _)
  | succ k ih =>
    intro due a I hp hk h3 h8 hm h
    have xc := I.cn hp hk
    by_cases hx : a_nd a 6 p < (a_rec (a_cn p a) p : Int)
    · exact Or.inl hx
    · cases hr1 : (a_rd f p due (a_cn p a)).1 with
      | none => exact Or.inr (Or.inl hr1)
      | some c =>
        refine Or.inr (Or.inr ⟨c, hr1, ?_⟩)
        obtain ⟨y1, y2⟩ := a_rd_I (f := f) xc hp h3 h8 hm
        have k2 := a_rd_k2 f p due (a_cn p a)
        obtain ⟨w1, w2⟩ := a_rd_11 (f := f) xc hp h3 h8 hm
        obtain ⟨m, m1, m2, m3⟩ := w2 (by rw [hr1]; exact fun q => by cases q)
        have m80 : a_mk (a_cn p a) ≤ 80 := I.1.1.2
        have hlt := a_fs_lt w1 m2 m3 N (by omega)
        have e0 : ∀ i, a_fs (a_cn p a) i = a_fs a i := fun i => by
          induction i with
          | zero => rfl
          | succ i ih => unfold a_fs; rw [ih]; rfl
        rw [e0] at hlt
        exact ih c _ y1 (by rw [k2.mk]; exact hp) (by rw [k2.nd]; exact hk) (by rw [y2]; exact h3) (by rw [k2.nd]; exact h8) (a_rd_mem (a := a_cn p a) hm hr1) (by omega)
theorem a_fs_max {a : aS} (T : a_T a) (AR : a_R a) : ∀ i, i ≤ 80 → a_fs a i ≤ 50 * i
  | 0, _ => Nat.le_refl _
  | i + 1, hi => by
    have h1 := a_fs_max T AR i (by omega)
    have h2 : (a_nd a 11 i).toNat ≤ 50 := by
      by_cases h : i < a_mk a
      · have := T.r11 h
        omega
      · rw [(AR.2.2.2.2 i (by omega) (by omega)).1 11 (by decide)]
        decide
    unfold a_fs
    omega
theorem a_lp_f {f p : Nat} : ∀ (k due : Nat) (a : aS), ¬ (a_lp f p k due a).1 = true → a_nd (a_lp f p k due a).2 3 p = 0
  | 0, _, _, h => absurd rfl h
  | k + 1, due, a, h => by
    by_cases hx : a_nd a 6 p < (a_rec (a_cn p a) p : Int)
    · rw [a_lp_gu hx]
      show a_nd (a_sn _ 3 p 0) 3 p = 0
      rw [a_nd_sn3, if_pos rfl]
    · cases hr1 : (a_rd f p due (a_cn p a)).1 with
      | none =>
        rw [a_lp_no hx hr1] at h
        exact absurd rfl h
      | some c =>
        rw [a_lp_so hx hr1] at h ⊢
        exact a_lp_f k c _ h
/-- handling finds keepers that are up, and ends -/
theorem a_hq_of : ∀ (k c y : Nat) (a : aS), a_I a → a_U a → c < a_mk a → ¬ a_nd a 3 c = 2 → ¬ a_nd a 3 c = 1 → a_nd a 2 c < k → (c ≠ 0 → a_nd a 3 (a_pa a c) = 1) → a_hq k c y a ∧ a_hok k c y a
  | 0, c, _, a, I, _, hc, _, _, hk, _ => by
    have := I.1.r2 hc
    omega
  | k + 1, c, y, a, I, x, hc, h3, hdn, hk, hup => by
    by_cases hc0 : c = 0
    · exact ⟨Or.inl hc0, hc, fun h => absurd hc0 h⟩
    · obtain ⟨w1, w2, w3⟩ := I.2.1.2.2.1 c hc hc0 h3
      have r1 := I.1.r1 hc hc0
      have r2 := I.1.r2 hc
      have epa : a_pa a c = (a_nd a 1 c).toNat := rfl
      have efu : a_fu a c = (9 - a_nd a 2 c).toNat := rfl
      have hpm : a_pa a c < a_mk a := by omega
      obtain ⟨d1, d2, d3, d4, d5⟩ := a_kid I.1 I.2.1.1 hpm w1
      have h8 : (8 : Int) ≤ (a_fu a c : Nat) + a_nd a 2 (a_pa a c) := by omega
      have hu := hup hc0
      have hfs := a_fs_max I.1 I.2.1 80 (Nat.le_refl _)
      have hlq := a_lq_of (f := a_fu a c) (N := 80) (Nat.le_refl _) 1000000 c a I hpm w2 w3 h8 w1 (by omega)
      obtain ⟨v1, v2, v3, v4⟩ := a_lp_I (f := a_fu a c) 1000000 c a I hpm w2 w3 h8 w1
      obtain ⟨u1, u2⟩ := a_lp_U (f := a_fu a c) 1000000 c a x I hpm w2 hu h8 w1 hdn
      have hf := a_lp_f (f := a_fu a c) (p := a_pa a c) 1000000 c a
      generalize hL : a_lp (a_fu a c) (a_pa a c) 1000000 c a = L at *
      have e1 : ∀ n, a_pa L.2 n = a_pa a n := fun n => by show (a_nd L.2 1 n).toNat = (a_nd a 1 n).toNat; rw [v3 1 (by decide) (by decide)]
      have rest : ¬ L.1 = true → a_hq k (a_pa a c) 1 L.2 ∧ a_hok k (a_pa a c) 1 L.2 := fun h => by
        refine a_hq_of k (a_pa a c) 1 L.2 v1 u1 (by rw [v2]; exact hpm) v4 (by rw [hf h]; decide) (by rw [v3 2 (by decide) (by decide)]; omega) (fun hp0 => ?_)
        rw [e1]
        have r1p := I.1.r1 hpm hp0
        have epp : a_pa a (a_pa a c) = (a_nd a 1 (a_pa a c)).toNat := rfl
        rw [u2 _ (by omega)]
        exact x.up hpm hp0 hu
      constructor
      · unfold a_hq
        rw [hL]
        refine Or.inr (Or.inr (Or.inr ⟨hu, hlq, ?_⟩))
        by_cases h : L.1 = true
        · exact Or.inl h
        · exact Or.inr (rest h).1
      · unfold a_hok
        rw [hL]
        exact ⟨hc, fun _ => ⟨w1, hpm, w2, fun _ _ h => ⟨v1.1, v1.2.2.2, (rest h).2⟩⟩⟩
/-! ===== the potential ===== -/
theorem a_ci_80 (a : aS) (s : Int) : a_ci a s 80 ≤ 80 := a_ci_le a s 80
theorem a_ci_eq {a b : aS} {s : Int} (h : ∀ m, a_nd b 3 m = s ↔ a_nd a 3 m = s) : ∀ i, a_ci b s i = a_ci a s i
  | 0 => rfl
  | i + 1 => by
    show (if a_nd b 3 i = s then a_ci b s i + 1 else a_ci b s i) = (if a_nd a 3 i = s then a_ci a s i + 1 else a_ci a s i)
    rw [a_ci_eq h i]
    by_cases c : a_nd a 3 i = s
    · rw [if_pos c, if_pos ((h i).mpr c)]
    · rw [if_neg c, if_neg (fun q => c ((h i).mp q))]
theorem a_ci_mono {a b : aS} {s : Int} (h : ∀ m, a_nd b 3 m = s → a_nd a 3 m = s) : ∀ i, a_ci b s i ≤ a_ci a s i
  | 0 => Nat.le_refl _
  | i + 1 => by
    show (if a_nd b 3 i = s then a_ci b s i + 1 else a_ci b s i) ≤ (if a_nd a 3 i = s then a_ci a s i + 1 else a_ci a s i)
    have := a_ci_mono h i
    by_cases c : a_nd b 3 i = s
    · rw [if_pos c, if_pos (h i c)]; omega
    · rw [if_neg c]
      split <;> omega
/-- one node leaves -/
theorem a_ci_out {a b : aS} {s : Int} {n : Nat} (h : ∀ m, a_nd b 3 m = s → a_nd a 3 m = s) (h1 : a_nd a 3 n = s) (h2 : ¬ a_nd b 3 n = s) : ∀ i, n < i → a_ci b s i + 1 ≤ a_ci a s i
  | 0, hi => absurd hi (Nat.not_lt_zero _)
  | i + 1, hi => by
    show (if a_nd b 3 i = s then a_ci b s i + 1 else a_ci b s i) + 1 ≤ (if a_nd a 3 i = s then a_ci a s i + 1 else a_ci a s i)
    by_cases e : n = i
    · subst e
      rw [if_neg h2, if_pos h1]
      have := a_ci_mono h n
      omega
    · have := a_ci_out h h1 h2 i (by omega)
      by_cases c : a_nd b 3 i = s
      · rw [if_pos c, if_pos (h i c)]; omega
      · rw [if_neg c]
        split <;> omega
abbrev a_u (a : aS) : Nat := a_ci a 1 80
def a_w (a : aS) : Nat := a_tm a + 10 * (a_ev a).length + 110 * a_u a + 10 * (80 - a_ci a 2 80)
theorem a_long_le {a : aS} (T : a_T a) {n : Nat} (hn : n < a_mk a) : a_long a n ≤ 100 := by
  have r8 := T.r8 hn
  have r10 := T.r10 hn
  unfold a_long
  split <;> omega
theorem a_end_w2 {k : Bool} {n : Nat} {a : aS} (T : a_T a) (hn : n < a_mk a) (hu : a_nd a 3 n = 1) : a_w (a_end k n a) ≤ a_w a := by
  have hn8 : n < 80 := Nat.lt_of_lt_of_le hn T.1.2
  have hl := a_long_le T hn
  have c1 := a_ci_out (b := a_end k n a) (s := 1) (n := n) (a_end_dn k n a) hu (by rw [a_nd_end, if_pos rfl]; decide) 80 hn8
  have c2 : a_ci (a_end k n a) 2 80 = a_ci a 2 80 := a_ci_eq (fun m => by
    rw [a_nd_end]
    by_cases e : m = n
    · rw [if_pos e, e]
      exact ⟨fun q => (by cases q), fun q => by omega⟩
    · rw [if_neg e]) 80
  have et : a_tm (a_end k n a) ≤ a_tm a + 100 ∧ (a_ev (a_end k n a)).length ≤ (a_ev a).length + 1 := by
    unfold a_end
    split
    · refine ⟨?_, ?_⟩
      · show a_tm a + a_long a n ≤ a_tm a + 100
        omega
      · show (a_ev a ++ [_]).length ≤ _
        rw [List.length_append]
        exact Nat.le_refl _
    · refine ⟨Nat.le_add_right _ _, ?_⟩
      show (a_ev a ++ [_]).length ≤ _
      rw [List.length_append]
      exact Nat.le_refl _
  unfold a_w a_u
  rw [c2]
  omega
theorem a_cR_pw {k : Bool} {f : Nat} (ih : ∀ (n : Nat) (a : aS), a_T a → a_nd a 2 0 = 0 → n < a_mk a → a_nd a 3 n = 1 → a_w (a_ce k f n a).2 ≤ a_w a) : ∀ (l : List Nat) (a : aS), a_T a → a_nd a 2 0 = 0 → (∀ c ∈ l, c < a_mk a) → a_w (a_cR (a_ce k f) l a).2 ≤ a_w a
  | [], _, _, _, _ => Nat.le_refl _
  | c :: r, a, T, h0, hl => by
    by_cases h : a_nd a 3 c = 1
    · have e : (a_cR (a_ce k f) (c :: r) a).2 = (a_cR (a_ce k f) r (a_ce k f c a).2).2 := by rw [a_cR, if_pos h]
      rw [e]
      have kk := a_ce_kp k f c a
      exact Nat.le_trans (a_cR_pw ih r _ (kk.T T) (by rw [kk.nd]; exact h0) (fun q hq => by rw [kk.mk]; exact hl q (List.mem_cons_of_mem _ hq))) (ih c a T h0 (hl c List.mem_cons_self) h)
    · have e : (a_cR (a_ce k f) (c :: r) a).2 = (a_cR (a_ce k f) r a).2 := by rw [a_cR, if_neg h]
      rw [e]
      exact a_cR_pw ih r a T h0 (fun q hq => hl q (List.mem_cons_of_mem _ hq))
theorem a_ce_pw (k : Bool) : ∀ (f n : Nat) (a : aS), a_T a → a_nd a 2 0 = 0 → n < a_mk a → a_nd a 3 n = 1 → a_w (a_ce k f n a).2 ≤ a_w a
  | 0, _, _, _, _, _, _ => Nat.le_refl _
  | f + 1, n, a, T, h0, hn, hu => by
    by_cases hw : a_nd a 0 n = 0
    · have e : (a_ce k (f + 1) n a).2 = a_end k n a := by rw [a_ce, if_pos hw]
      rw [e]
      exact a_end_w2 T hn hu
    · have e : (a_ce k (f + 1) n a).2 = a_end k n (a_cR (a_ce k f) (a_rw a n).reverse a).2 := by rw [a_ce, if_neg hw]
      rw [e]
      have kk := a_cR_kp (a_ce_kp k f) (a_rw a n).reverse a
      have hl : ∀ c ∈ (a_rw a n).reverse, c < a_mk a := fun c hc => (T.rc hn (List.mem_reverse.mp hc)).1
      have lo := a_cR_lo (q := n + 1) (a_ce_kp k f) (fun c b Tb hb hc hq => (a_ce_lo k f c b Tb hb hc).le hq) (a_rw a n).reverse a T h0 (fun c hc => ⟨hl c hc, (a_kid T h0 hn (List.mem_reverse.mp hc)).1⟩)
      exact Nat.le_trans (a_end_w2 (kk.T T) (by rw [kk.mk]; exact hn) (by rw [lo n (by omega)]; exact hu)) (a_cR_pw (a_ce_pw k f) _ a T h0 hl)
/-! ===== the potential of starting ===== -/
def a_pw (f : Nat) (ok : Prop) (a b : aS) : Prop := (ok → a_u a ≤ a_u b ∧ a_w b ≤ a_w a + 220 * (a_u b - a_u a)) ∧ (¬ ok → a_w b ≤ a_w a + 220 * (80 - a_u a) + 10 * f + 110)
theorem a_gk.g {a b : aS} (k : a_gk a b) : a_ci b 2 80 = a_ci a 2 80 := a_ci_eq k.2.1 80
theorem a_sF_pw {f n : Nat} {d : Int} {E : Nat → Prop} (hE : E n) (ih : ∀ (c : Nat) (a : aS), a_T a → a_R a → c < a_mk a → ¬ a_nd a 3 c = 2 → (9 : Int) ≤ f + a_nd a 2 c → ¬ a_nd a 3 c = 1 → (∀ x, E x → a_nd a 2 x < a_nd a 2 c) → (c = 0 ∨ a_nd a 3 (a_pa a c) = 1 ∨ E (a_pa a c)) → a_Us E a → a_pw f ((a_go f c a).1 = true) a (a_go f c a).2) : ∀ (l : List Nat) (b : aS), a_T b → a_R b → l.Nodup → (∀ x, E x → a_nd b 2 x < d + 1) → (∀ c ∈ l, c < a_mk b ∧ ¬ a_nd b 3 c = 2 ∧ (9 : Int) ≤ f + a_nd b 2 c ∧ ¬ a_nd b 3 c = 1 ∧ a_nd b 2 c = d + 1 ∧ (a_nd b 3 (a_pa b c) = 1 ∨ E (a_pa b c)) ∧ a_pa b c = n) → a_Us E b → a_pw f ((a_sF (a_go f) l b).1 = none) b (a_sF (a_go f) l b).2
  | [], b, _, _, _, _, _, _ => ⟨fun _ => ⟨Nat.le_refl _, Nat.le_add_right _ _⟩, fun h => absurd rfl h⟩
  | c :: r, b, Tb, Rb, hd, hx, hl, x => by
    obtain ⟨c1, c2, c3, c4, c5, c7, c6⟩ := hl c List.mem_cons_self
    have kg := a_go_gk f c b Tb Rb c1 c2
    have hp := Or.inr (a := c = 0) c7
    have y := (a_go_Us f c E b Tb Rb c1 c2 c3 c4 (fun q hq => by rw [c5]; exact hx q hq) hp x).1
    have w := ih c b Tb Rb c1 c2 c3 c4 (fun q hq => by rw [c5]; exact hx q hq) hp x
    obtain ⟨n1, n2⟩ := List.nodup_cons.mp hd
    have u8 : a_u (a_go f c b).2 ≤ 80 := a_ci_80 (a_go f c b).2 1
    by_cases g : (a_go f c b).1 = true
    · have e : a_sF (a_go f) (c :: r) b = a_sF (a_go f) r (a_go f c b).2 := by rw [a_sF, if_pos g]
      rw [e]
      obtain ⟨w1, w2⟩ := w.1 g
      have z := a_sF_pw hE ih r _ (kg.1.T Tb) (Rb.gk kg) n2 (fun q hq => by rw [kg.1.nd]; exact hx q hq) (fun q hq => by
        obtain ⟨d1, d2, d3, d4, d5, d7, d6⟩ := hl q (List.mem_cons_of_mem _ hq)
        have hqc : q ≠ c := fun e => n1 (by rw [← e]; exact hq)
        have ep : a_pa (a_go f c b).2 q = a_pa b q := by show (a_nd (a_go f c b).2 1 q).toNat = (a_nd b 1 q).toNat; rw [kg.1.nd]
        rw [kg.1.mk, kg.2.1, kg.1.nd, a_go_ds f c b Tb c1 q hqc (by omega), ep]
        exact ⟨d1, d2, d3, d4, d5, Or.inr (by rw [d6]; exact hE), d6⟩) y
      refine ⟨fun h => ?_, fun h => ?_⟩
      · obtain ⟨z1, z2⟩ := z.1 h
        exact ⟨by omega, by omega⟩
      · have := z.2 h
        omega
    · have e : a_sF (a_go f) (c :: r) b = (some c, (a_go f c b).2) := by rw [a_sF, if_neg g]
      rw [e]
      exact ⟨fun h => (by cases h), fun _ => w.2 g⟩
theorem a_go_pw : ∀ (f n : Nat) (E : Nat → Prop) (a : aS), a_T a → a_R a → n < a_mk a → ¬ a_nd a 3 n = 2 → (9 : Int) ≤ f + a_nd a 2 n → ¬ a_nd a 3 n = 1 → (∀ x, E x → a_nd a 2 x < a_nd a 2 n) → (n = 0 ∨ a_nd a 3 (a_pa a n) = 1 ∨ E (a_pa a n)) → a_Us E a → a_pw f ((a_go f n a).1 = true) a (a_go f n a).2
  | 0, n, _, a, T, _, hn, _, h9, _, _, _, _ => by
    have := T.r2 hn
    omega
  | f + 1, n, E, a, T, AR, hn, h2, h9, hu, hE, hp, x => by
    have hn8 : n < 80 := Nat.lt_of_lt_of_le hn T.1.2
    have kG := (a_go_gk (f + 1) n a T AR hn h2).g
    by_cases hw : a_nd a 0 n = 0
    · have r9 := T.r9 hn
      have e3 := a_go_w3 (f := f) hw
      have et : a_tm (a_go (f + 1) n a).2 ≤ a_tm a + 100 ∧ (a_ev (a_go (f + 1) n a).2).length ≤ (a_ev a).length + 1 := by
        rw [a_go_w hw]
        split
        · refine ⟨?_, ?_⟩
          · show a_tm a + (a_nd a 9 n).toNat ≤ a_tm a + 100
            omega
          · show (a_ev a ++ [_]).length ≤ _
            rw [List.length_append]
            exact Nat.le_refl _
        · refine ⟨?_, ?_⟩
          · show a_tm a + (a_nd a 9 n).toNat ≤ a_tm a + 100
            omega
          · show (a_ev a ++ [_]).length ≤ _
            rw [List.length_append]
            exact Nat.le_refl _
      generalize a_go (f + 1) n a = B at *
      refine ⟨fun g => ?_, fun g => ?_⟩
      · have c1 := a_ci_out (a := B.2) (b := a) (s := 1) (n := n) (fun m h => by rw [e3]; split; rfl; exact h) (by rw [e3, if_pos rfl, if_pos g]) hu 80 hn8
        refine ⟨by unfold a_u; omega, ?_⟩
        unfold a_w a_u
        rw [kG]
        omega
      · have c1 := a_ci_mono (a := a) (b := B.2) (s := 1) (fun m h => by
          rw [e3] at h
          split at h
          · cases h
          · exact h) 80
        unfold a_w a_u
        rw [kG]
        omega
    · have k0 := a_gk.srt a n
      have T0 := k0.1.T T
      have R0 := AR.gk k0
      have rowdn : ∀ c ∈ a_rw a n, ¬ a_nd a 3 c = 1 := fun c hc hcu => by
        obtain ⟨d1, d2, d3, d4, d5⟩ := a_kid T AR.1 hn hc
        rcases x c d4 d2 hcu with q | q
        · rw [d3] at q; exact hu q
        · rw [d3] at q
          have := hE n q
          omega
      have hl : ∀ c ∈ a_rw a n, c < a_mk a ∧ ¬ a_nd a 3 c = 2 ∧ (9 : Int) ≤ f + a_nd a 2 c ∧ ¬ a_nd a 3 c = 1 ∧ a_nd a 2 c = a_nd a 2 n + 1 ∧ (a_nd a 3 (a_pa a c) = 1 ∨ (E (a_pa a c) ∨ a_pa a c = n)) ∧ a_pa a c = n := fun c hc => by
        obtain ⟨d1, d2, d3, d4, d5⟩ := a_kid T AR.1 hn hc
        exact ⟨d4, AR.2.2.2.1 n c hn hc h2, by omega, rowdn c hc, d5, Or.inr (Or.inr d3), d3⟩
      have x0 : a_Us (fun y => E y ∨ y = n) (a_srt a n []) := fun m hm hm0 hum => by
        rcases x m hm hm0 hum with q | q
        · exact Or.inl q
        · exact Or.inr (Or.inl q)
      have z := a_sF_pw (f := f) (n := n) (d := a_nd a 2 n) (E := fun y => E y ∨ y = n) (Or.inr rfl) (fun c b Tb Rb h1 h2 h3 h4 h5 h6 h7 => a_go_pw f c (fun y => E y ∨ y = n) b Tb Rb h1 h2 h3 h4 h5 h6 h7) (a_rw a n) (a_srt a n []) T0 R0 (T.nd hn) (fun y hy => by
        rcases hy with q | q
        · have := hE y q
          show a_nd a 2 y < a_nd a 2 n + 1
          omega
        · show a_nd a 2 y < a_nd a 2 n + 1
          rw [q]
          omega) hl x0
      have k1 := k0.tr (a_sF_gk (fun c b Tb Xb hc h => a_go_gk f c b Tb Xb hc h) (a_rw a n) (a_srt a n []) T0 R0 (fun c hc => ⟨(hl c hc).1, (hl c hc).2.1⟩))
      have s1 := a_sF_ds (f := f) (d := a_nd a 2 n) (a_go_ds f) (a_rw a n) (a_srt a n []) T0 (fun c hc => ⟨(hl c hc).1, (hl c hc).2.2.2.2.1⟩) n (Int.le_refl _)
      have w0 : a_w (a_srt a n []) = a_w a := by
        have e1 : a_ci (a_srt a n []) 1 80 = a_ci a 1 80 := a_ci_eq (fun _ => Iff.rfl) 80
        have e2 : a_ci (a_srt a n []) 2 80 = a_ci a 2 80 := a_ci_eq (fun _ => Iff.rfl) 80
        unfold a_w a_u
        rw [e1, e2]
        rfl
      have u0 : a_u (a_srt a n []) = a_u a := a_ci_eq (fun _ => Iff.rfl) 80
      have k1g := k1.g
      rw [a_go_kk hw] at kG ⊢
      generalize hb : a_sF (a_go f) (a_rw a n) (a_srt a n []) = B at *
      unfold a_pw at z
      rw [w0, u0] at z
      cases hs : B.1 with
      | none =>
        rw [hs] at kG
        obtain ⟨z1, z2⟩ := z.1 hs
        have e3 : ∀ m, a_nd (a_no (a_sn B.2 3 n 1) 1 n 0) 3 m = if m = n then 1 else a_nd B.2 3 m := fun m => a_nd_sn3 B.2 n m 1
        have hnb : ¬ a_nd B.2 3 n = 1 := by rw [s1]; exact hu
        have c1 := a_ci_out (a := a_no (a_sn B.2 3 n 1) 1 n 0) (b := B.2) (s := 1) (n := n) (fun m h => by rw [e3]; split; rfl; exact h) (by rw [e3, if_pos rfl]) hnb 80 hn8
        have kG' : a_ci (a_no (a_sn B.2 3 n 1) 1 n 0) 2 80 = a_ci a 2 80 := kG
        have et : a_tm (a_no (a_sn B.2 3 n 1) 1 n 0) = a_tm B.2 := rfl
        have ee : (a_ev (a_no (a_sn B.2 3 n 1) 1 n 0)).length = (a_ev B.2).length + 1 := by
          show (a_ev B.2 ++ [_]).length = _
          rw [List.length_append]
          rfl
        refine ⟨fun _ => ?_, fun h => absurd rfl h⟩
        show a_u a ≤ a_u (a_no (a_sn B.2 3 n 1) 1 n 0) ∧ a_w (a_no (a_sn B.2 3 n 1) 1 n 0) ≤ a_w a + 220 * (a_u (a_no (a_sn B.2 3 n 1) 1 n 0) - a_u a)
        unfold a_w a_u at *
        rw [kG', et, ee]
        rw [k1g] at z2
        exact ⟨by omega, by omega⟩
      | some c =>
        rw [hs] at kG
        have z2 := z.2 (by rw [hs]; exact fun h => by cases h)
        have Tb := k1.1.T T
        have h0b : a_nd B.2 2 0 = 0 := by rw [k1.1.nd]; exact AR.1
        have wc := a_cR_pw (k := false) (f := f) (a_ce_pw false f) (a_rw a n).reverse B.2 Tb h0b (fun c hc => by rw [k1.1.mk]; exact (hl c (List.mem_reverse.mp hc)).1)
        have kcg := (k1.tr (a_cR_gk (fun c b Tb hc h1 => a_ce_gk false f c b Tb hc (by omega)) (a_rw a n).reverse B.2 Tb (fun c hc => by rw [k1.1.mk]; exact (hl c (List.mem_reverse.mp hc)).1))).g
        generalize (a_cR (a_ce false f) (a_rw a n).reverse B.2).2 = e at *
        have e3 : ∀ m, a_nd (a_no (a_sn e 3 n 0) 2 n 0) 3 m = if m = n then 0 else a_nd e 3 m := fun m => a_nd_sn3 e n m 0
        have c1 := a_ci_mono (a := e) (b := a_no (a_sn e 3 n 0) 2 n 0) (s := 1) (fun m h => by
          rw [e3] at h
          split at h
          · cases h
          · exact h) 80
        have kG' : a_ci (a_no (a_sn e 3 n 0) 2 n 0) 2 80 = a_ci a 2 80 := kG
        have et : a_tm (a_no (a_sn e 3 n 0) 2 n 0) = a_tm e := rfl
        have ee : (a_ev (a_no (a_sn e 3 n 0) 2 n 0)).length = (a_ev e).length + 1 := by
          show (a_ev e ++ [_]).length = _
          rw [List.length_append]
          rfl
        refine ⟨fun h => (by cases h), fun _ => ?_⟩
        show a_w (a_no (a_sn e 3 n 0) 2 n 0) ≤ a_w a + 220 * (80 - a_u a) + 10 * (f + 1) + 110
        have we : a_w (a_no (a_sn e 3 n 0) 2 n 0) ≤ a_w e + 10 := by
          unfold a_w a_u
          rw [kG', kcg, et, ee]
          omega
        omega
/-! ===== the potential of restarts and of handling ===== -/
theorem a_dis_pw (f p c t : Nat) (a : aS) (hc : c < 80) (h : ¬ a_nd a 3 c = 2) : a_w (a_dis (f + 1) p c t a).2 ≤ a_w a := by
  obtain ⟨n1, n2, n3, n4, n5⟩ := a_va_nd (f + 1) c (a_no (a_sr a p ((a_rw a p).eraseIdx t)) 7 c 0)
  have V : ∀ n, a_nd (a_dis (f + 1) p c t a).2 3 n = if a_vm (a_no (a_sr a p ((a_rw a p).eraseIdx t)) 7 c 0) (f + 1) c n = true then 2 else a_nd a 3 n := fun n => a_va_st (f + 1) c n _
  have vc : a_vm (a_no (a_sr a p ((a_rw a p).eraseIdx t)) 7 c 0) (f + 1) c c = true := by
    unfold a_vm
    simp
  have c1 := a_ci_mono (a_dis_dn (f + 1) p c t a) 80
  have c2 := a_ci_out (a := (a_dis (f + 1) p c t a).2) (b := a) (s := 2) (n := c) (fun m hm => by rw [V]; split; rfl; exact hm) (by rw [V, if_pos vc]) h 80 hc
  have c3 := a_ci_80 (a_dis (f + 1) p c t a).2 2
  have et : a_tm (a_dis (f + 1) p c t a).2 = a_tm a := n4
  have ee : (a_ev (a_dis (f + 1) p c t a).2).length = (a_ev a).length + 1 := by
    have : a_ev (a_dis (f + 1) p c t a).2 = a_ev a ++ [(7, c, a_tm a, 0)] := n3
    rw [this, List.length_append]
    rfl
  unfold a_w a_u
  rw [et, ee]
  omega
theorem a_rl_pw {a : aS} (I : a_I a) {f p c t : Nat} (hc : c < a_mk a) (hu : a_nd a 3 c = 1) : a_w (a_rl (f + 1) p c t a) ≤ a_w a := by
  have kg := a_ce_gk false (f + 1) c a I.1 hc (by omega)
  have w1 := a_ce_pw false (f + 1) c a I.1 I.2.1.1 hc hu
  unfold a_rl
  split
  · exact Nat.le_trans (a_dis_pw f p c t _ (Nat.lt_of_lt_of_le hc I.1.1.2) (by rw [kg.2.1]; omega)) w1
  · exact w1
theorem a_rF_pw {f p fr : Nat} : ∀ (j : Nat) (a : aS), a_I a → p < a_mk a → ¬ a_nd a 3 p = 2 → (8 : Int) ≤ (f + 1 : Nat) + a_nd a 2 p → j ≤ (a_rw a p).length → a_w (a_rF (f + 1) p fr j a) ≤ a_w a
  | 0, _, _, _, _, _, _ => Nat.le_refl _
  | j + 1, a, I, hp, h3, h8, hj => by
    unfold a_rF
    split
    · exact Nat.le_refl _
    · by_cases hu : a_nd a 3 ((a_rw a p).getD j 0) = 1
      · rw [if_pos hu]
        have hjl : j < (a_rw a p).length := by omega
        obtain ⟨y1, y2⟩ := a_rl_I (f := f + 1) I hp h3 h8 hjl
        have k := a_rl_k2 (f + 1) p ((a_rw a p).getD j 0) j a
        have hl := (a_rl_len (f + 1) p ((a_rw a p).getD j 0) j a).1
        exact Nat.le_trans (a_rF_pw j _ y1 (by rw [k.mk]; exact hp) (by rw [y2]; exact h3) (by rw [k.nd]; exact h8) (by omega)) (a_rl_pw I (I.1.rc hp (k_rc I.1 hp hjl)).1 hu)
      · rw [if_neg hu]
        exact a_rF_pw j a I hp h3 h8 (by omega)
theorem a_sF_pt {f p : Nat} (hf9 : f ≤ 9) {l : List Nat} {b : aS} (x : a_U b) (I : a_I b) (hp : p < a_mk b) (hg : ¬ a_nd b 3 p = 2) (hd : l.Nodup) (hl : ∀ c ∈ l, c ∈ a_rw b p ∧ ¬ a_nd b 3 c = 1 ∧ (9 : Int) ≤ f + a_nd b 2 c) : a_w (a_sF (a_go f) l b).2 ≤ a_w b + 17800 := by
  have z := a_sF_pw (f := f) (n := p) (d := a_nd b 2 p) (E := fun y => y = p) rfl (fun c b Tb Rb h1 h2 h3 h4 h5 h6 h7 => a_go_pw f c (fun y => y = p) b Tb Rb h1 h2 h3 h4 h5 h6 h7) l b I.1 I.2.1 hd (fun y hy => by rw [hy]; omega) (fun c hc => by
    obtain ⟨c1, c2, c3⟩ := hl c hc
    obtain ⟨d1, d2, d3, d4, d5⟩ := a_kid I.1 I.2.1.1 hp c1
    exact ⟨d4, I.2.1.2.2.2.1 p c hp c1 hg, c3, c2, d5, Or.inr d3, d3⟩) (fun m hm hm0 hum => Or.inl (a_U.up x hm hm0 hum))
  have u8 : a_u (a_sF (a_go f) l b).2 ≤ 80 := a_ci_80 _ 1
  cases hs : (a_sF (a_go f) l b).1 with
  | none =>
    have := (z.1 hs).2
    omega
  | some c =>
    have := z.2 (by rw [hs]; exact fun q => by cases q)
    omega
theorem a_rd_pw {a : aS} (x : a_U a) (I : a_I a) {f p due : Nat} (hf9 : f + 1 ≤ 9) (hp : p < a_mk a) (hu : a_nd a 3 p = 1) (h8 : (8 : Int) ≤ (f + 1 : Nat) + a_nd a 2 p) (hd : due ∈ a_rw a p) (hdn : ¬ a_nd a 3 due = 1) : a_w (a_rd (f + 1) p due a).2 ≤ a_w a + 17800 := by
  have h3 : ¬ a_nd a 3 p = 2 := by omega
  by_cases h5 : a_nd a 5 p = 0
  · have e : a_rd (f + 1) p due a = a_sF (a_go (f + 1)) [due] a := by
      unfold a_rd
      rw [if_pos h5]
      unfold a_sF
      split <;> rfl
    rw [e]
    have kd := a_kid I.1 I.2.1.1 hp hd
    exact a_sF_pt hf9 x I hp h3 (List.nodup_cons.mpr ⟨List.not_mem_nil, List.nodup_nil⟩) (fun c hc => by
      rw [List.mem_singleton.mp hc]
      exact ⟨hd, hdn, by omega⟩)
  · generalize hfr : (if a_nd a 5 p = 1 then 0 else a_ix due (a_rw a p)) = fr
    have e : a_rd (f + 1) p due a = a_sF (a_go (f + 1)) ((a_rw (a_rF (f + 1) p fr (a_rw a p).length a) p).drop fr) (a_rF (f + 1) p fr (a_rw a p).length a) := by
      unfold a_rd
      rw [if_neg h5, hfr]
    rw [e]
    obtain ⟨y1, y2⟩ := a_rF_I (f := f + 1) (p := p) (fr := fr) (a_rw a p).length a I hp h3 h8 (Nat.le_refl _)
    obtain ⟨u1, u2, u3⟩ := a_rF_U (f := f + 1) (p := p) (fr := fr) (a_rw a p).length a x I hp h3 h8 (Nat.le_refl _) (fun i h1 hi => absurd hi (by omega))
    have k := a_rF_k2 (f + 1) p fr (a_rw a p).length a
    have hw := a_rF_pw (f := f) (p := p) (fr := fr) (a_rw a p).length a I hp h3 h8 (Nat.le_refl _)
    have hp2 : p < a_mk (a_rF (f + 1) p fr (a_rw a p).length a) := by rw [k.mk]; exact hp
    generalize a_rF (f + 1) p fr (a_rw a p).length a = b at *
    have := a_sF_pt (f := f + 1) (p := p) hf9 (l := (a_rw b p).drop fr) u1 y1 hp2 (by rw [y2]; exact h3) ((y1.1.nd hp2).sublist (List.drop_sublist _ _)) (fun c hc => by
      obtain ⟨i, hi⟩ := List.getElem?_of_mem hc
      rw [List.getElem?_drop] at hi
      have hil : fr + i < (a_rw b p).length := (List.getElem?_eq_some_iff.mp hi).1
      have ec : (a_rw b p).getD (fr + i) 0 = c := by rw [List.getD_eq_getElem?_getD, hi]; rfl
      have hm := List.mem_of_mem_drop hc
      have kd := a_kid y1.1 y1.2.1.1 hp2 hm
      refine ⟨hm, ?_, ?_⟩
      · rw [← ec]
        exact u3 (fr + i) (Nat.le_add_right _ _) hil
      · rw [kd.2.2.2.2, k.nd]
        omega)
    omega
theorem a_gu_pw {a : aS} (I : a_I a) {f p : Nat} (hp : p < a_mk a) (h3 : ¬ a_nd a 3 p = 2) : a_w (a_gu f p a) ≤ a_w a + 10 ∧ a_nd (a_gu f p a) 11 = a_nd a 11 := by
  have kg := (a_gu_gk (f := f) I.1 hp h3).g
  have k0 := a_gk.no a 6 p 0
  have wc := a_cR_pw (k := false) (f := f) (a_ce_pw false f) (a_rw a p).reverse (a_no a 6 p 0) (k0.1.T I.1) I.2.1.1 (fun c hc => (I.1.rc hp (List.mem_reverse.mp hc)).1)
  have w0 : a_w (a_no a 6 p 0) = a_w a + 10 := by
    have e1 : a_ci (a_no a 6 p 0) 1 80 = a_ci a 1 80 := a_ci_eq (fun _ => Iff.rfl) 80
    have e2 : a_ci (a_no a 6 p 0) 2 80 = a_ci a 2 80 := a_ci_eq (fun _ => Iff.rfl) 80
    have ee : (a_ev (a_no a 6 p 0)).length = (a_ev a).length + 1 := by
      show (a_ev a ++ [_]).length = _
      rw [List.length_append]
      rfl
    have et : a_tm (a_no a 6 p 0) = a_tm a := rfl
    unfold a_w a_u
    rw [e1, e2, ee, et]
    omega
  have kc := (k0.tr (a_cR_gk (fun c b Tb hc h1 => a_ce_gk false f c b Tb hc (by omega)) (a_rw a p).reverse (a_no a 6 p 0) (k0.1.T I.1) (fun c hc => (I.1.rc hp (List.mem_reverse.mp hc)).1))).g
  refine ⟨?_, (a_nd_sne (f := 3) (g := 11) _ p 0 (by decide)).trans (a_cR_11 (a_ce_11 false f) _ _)⟩
  unfold a_gu at kg ⊢
  generalize (a_cR (a_ce false f) (a_rw a p).reverse (a_no a 6 p 0)).2 = e at *
  have c1 := a_ci_mono (a := e) (b := a_sn e 3 p 0) (s := 1) (fun m h => by
    rw [a_nd_sn3] at h
    split at h
    · cases h
    · exact h) 80
  have et : a_tm (a_sn e 3 p 0) = a_tm e := rfl
  have ee : a_ev (a_sn e 3 p 0) = a_ev e := rfl
  have we : a_w (a_sn e 3 p 0) ≤ a_w e := by
    unfold a_w a_u
    rw [kg, kc, et, ee]
    omega
  omega
theorem k_lp1 {X Y k : Nat} (h : X ≤ Y + 18000) : X ≤ Y + 18000 * (k + 1) := Nat.le_trans h (Nat.add_le_add_left (Nat.le_mul_of_pos_right 18000 (Nat.succ_pos k)) Y)
theorem k_lp2 {X Y k : Nat} (h : X ≤ Y + 1) : X ≤ Y + (k + 1) := by omega
theorem k_lp3 {X Y Z k : Nat} (h : X ≤ Y + 18000 * k) (g : Y ≤ Z + 18000) : X ≤ Z + 18000 * (k + 1) := by omega
theorem k_lp4 {X Y Z k : Nat} (h : X ≤ Y + k) (g : Y ≤ Z + 1) : X ≤ Z + (k + 1) := by omega
theorem a_fs_eq {a b : aS} (h : a_nd b 11 = a_nd a 11) : ∀ i, a_fs b i = a_fs a i
  | 0 => rfl
  | i + 1 => by
    unfold a_fs
    rw [a_fs_eq h i, h]
theorem a_cn_w (p : Nat) (a : aS) : a_w (a_cn p a) = a_w a := by
  have e1 : a_ci (a_cn p a) 1 80 = a_ci a 1 80 := a_ci_eq (fun _ => Iff.rfl) 80
  have e2 : a_ci (a_cn p a) 2 80 = a_ci a 2 80 := a_ci_eq (fun _ => Iff.rfl) 80
  unfold a_w a_u
  rw [e1, e2]
  rfl
theorem a_sgv_w (t : Nat) (a : aS) : a_w (a_sgv a t) = a_w a := by
  have e1 : a_ci (a_sgv a t) 1 80 = a_ci a 1 80 := a_ci_eq (fun _ => Iff.rfl) 80
  have e2 : a_ci (a_sgv a t) 2 80 = a_ci a 2 80 := a_ci_eq (fun _ => Iff.rfl) 80
  unfold a_w a_u
  rw [e1, e2]
  rfl
theorem a_lp_pw {f p N : Nat} (hN : 80 ≤ N) (hf9 : f + 1 ≤ 9) : ∀ (k due : Nat) (a : aS), a_U a → a_I a → p < a_mk a → a_nd a 0 p = 1 → a_nd a 3 p = 1 → (8 : Int) ≤ (f + 1 : Nat) + a_nd a 2 p → due ∈ a_rw a p → ¬ a_nd a 3 due = 1 → a_w (a_lp (f + 1) p k due a).2 + 18000 * a_fs (a_lp (f + 1) p k due a).2 N ≤ a_w a + 18000 * a_fs a N + 18000 ∧ a_rs (a_lp (f + 1) p k due a).2 + a_fs (a_lp (f + 1) p k due a).2 N ≤ a_rs a + a_fs a N + 1 ∧ a_fd a (a_lp (f + 1) p k due a).2 := by
  intro k
  induction k with
  | zero =>
    intro due a x I hp hk hu h8 hm hdn
    have e : a_lp (f + 1) p 0 due a = (true, a) := rfl
    rw [e]
    exact ⟨Nat.le_add_right _ _, Nat.le_add_right _ _, a_fd.of rfl⟩
  | succ k ih =>
    intro due a x I hp hk hu h8 hm hdn
    have xc := I.cn hp hk
    have uc : a_U (a_cn p a) := x
    have h3 : ¬ a_nd a 3 p = 2 := by omega
    have wc := a_cn_w p a
    have fc : a_fs (a_cn p a) N = a_fs a N := a_fs_eq (a := a) (b := a_cn p a) rfl N
    have rc : a_rs (a_cn p a) = a_rs a + 1 := rfl
    by_cases hx : a_nd a 6 p < (a_rec (a_cn p a) p : Int)
    · rw [a_lp_gu hx]
      obtain ⟨g1, g2⟩ := a_gu_pw (f := f + 1) (p := p) (a := a_sgv (a_cn p a) (a_gv a + 1)) (xc.gv (a_gv a + 1)) hp h3
      rw [a_sgv_w, wc] at g1
      have g3 : a_fs (a_gu (f + 1) p (a_sgv (a_cn p a) (a_gv a + 1))) N = a_fs a N := a_fs_eq (a := a) (b := a_gu (f + 1) p (a_sgv (a_cn p a) (a_gv a + 1))) g2 N
      have g4 : a_rs (a_gu (f + 1) p (a_sgv (a_cn p a) (a_gv a + 1))) = a_rs a + 1 := (a_gu_kp (f + 1) p (a_sgv (a_cn p a) (a_gv a + 1))).rs
      refine ⟨?_, ?_, a_fd.of g2⟩
      · show a_w (a_gu (f + 1) p (a_sgv (a_cn p a) (a_gv a + 1))) + 18000 * a_fs (a_gu (f + 1) p (a_sgv (a_cn p a) (a_gv a + 1))) N ≤ _
        rw [g3]
        omega
      · show a_rs (a_gu (f + 1) p (a_sgv (a_cn p a) (a_gv a + 1))) + a_fs (a_gu (f + 1) p (a_sgv (a_cn p a) (a_gv a + 1))) N ≤ _
        rw [g3, g4]
        omega
    · obtain ⟨y1, y2⟩ := a_rd_I (f := f + 1) xc hp h3 h8 hm
      obtain ⟨u1, u2, u3⟩ := a_rd_U (f := f + 1) uc xc hp hu h8 hm hdn
      have k2 := a_rd_k2 (f + 1) p due (a_cn p a)
      have pw := a_rd_pw (f := f) uc xc hf9 hp hu h8 hm hdn
      obtain ⟨w1, w2⟩ := a_rd_11 (f := f + 1) xc hp h3 h8 hm
      have fl := a_fs_le w1 N
      have rr : a_rs (a_rd (f + 1) p due (a_cn p a)).2 = a_rs a + 1 := k2.rs
      rw [wc] at pw
      rw [fc] at fl
      have w1' : a_fd a (a_rd (f + 1) p due (a_cn p a)).2 := w1
      cases hr1 : (a_rd (f + 1) p due (a_cn p a)).1 with
      | none =>
        rw [a_lp_no hx hr1]
        refine ⟨?_, ?_, w1'⟩
        · show a_w (a_rd (f + 1) p due (a_cn p a)).2 + 18000 * a_fs (a_rd (f + 1) p due (a_cn p a)).2 N ≤ _
          omega
        · show a_rs (a_rd (f + 1) p due (a_cn p a)).2 + a_fs (a_rd (f + 1) p due (a_cn p a)).2 N ≤ _
          omega
      | some c =>
        rw [a_lp_so hx hr1]
        obtain ⟨m, m1, m2, m3⟩ := w2 (by rw [hr1]; exact fun q => by cases q)
        have m80 : a_mk (a_cn p a) ≤ 80 := I.1.1.2
        have hlt := a_fs_lt w1 m2 m3 N (by omega)
        rw [fc] at hlt
        obtain ⟨z1, z2, z3⟩ := ih c _ u1 y1 (by rw [k2.mk]; exact hp) (by rw [k2.nd]; exact hk) (by rw [y2]; exact hu) (by rw [k2.nd]; exact h8) (a_rd_mem (a := a_cn p a) hm hr1) (by rw [u3 c hr1]; decide)
        exact ⟨by omega, by omega, w1'.tr z3⟩
/-- the handling of an end -/
theorem a_hd_pw {N : Nat} (hN : 80 ≤ N) : ∀ (k c y : Nat) (a : aS), a_I a → a_U a → c < a_mk a → ¬ a_nd a 3 c = 2 → ¬ a_nd a 3 c = 1 → (c ≠ 0 → a_nd a 3 (a_pa a c) = 1) → a_w (a_hd k c y a) + 18000 * a_fs (a_hd k c y a) N ≤ a_w a + 18000 * a_fs a N + 18000 * k ∧ a_rs (a_hd k c y a) + a_fs (a_hd k c y a) N ≤ a_rs a + a_fs a N + k ∧ a_fd a (a_hd k c y a) ∧ a_I (a_hd k c y a) ∧ a_U (a_hd k c y a) := by
  intro k
  induction k with
  | zero =>
    intro c y a I x hc h3 hdn hup
    exact ⟨by show a_w a + _ ≤ _; exact Nat.le_add_right _ _, Nat.le_add_right _ _, a_fd.of rfl, I, x⟩
  | succ k ih =>
    intro c y a I x hc h3 hdn hup
    have stay : a_w a + 18000 * a_fs a N ≤ a_w a + 18000 * a_fs a N + 18000 * (k + 1) ∧ a_rs a + a_fs a N ≤ a_rs a + a_fs a N + (k + 1) ∧ a_fd a a ∧ a_I a ∧ a_U a := ⟨Nat.le_add_right _ _, Nat.le_add_right _ _, a_fd.of rfl, I, x⟩
    by_cases hc0 : c = 0
    · have el : a_hd (k + 1) c y a = a := by rw [a_hd, if_pos hc0]
      rw [el]
      exact stay
    · obtain ⟨w1, w2, w3⟩ := I.2.1.2.2.1 c hc hc0 h3
      have r1 := I.1.r1 hc hc0
      have r2 := I.1.r2 hc
      have epa : a_pa a c = (a_nd a 1 c).toNat := rfl
      have efu : a_fu a c = (9 - a_nd a 2 c).toNat := rfl
      have hpm : a_pa a c < a_mk a := by omega
      obtain ⟨d1, d2, d3, d4, d5⟩ := a_kid I.1 I.2.1.1 hpm w1
      have r2p := I.1.r2 hpm
      have h8 : (8 : Int) ≤ (a_fu a c : Nat) + a_nd a 2 (a_pa a c) := by omega
      have hu := hup hc0
      have hc8 : c < 80 := Nat.lt_of_lt_of_le hc I.1.1.2
      obtain ⟨f, ef⟩ : ∃ f, a_fu a c = f + 1 := ⟨a_fu a c - 1, by omega⟩
      have hf9 : f + 1 ≤ 9 := by omega
      by_cases h42 : a_nd a 4 c = 2
      · have el : a_hd (k + 1) c y a = (a_dis (a_fu a c) (a_pa a c) c (a_ix c (a_rw a (a_pa a c))) a).2 := by rw [a_hd, if_neg hc0, if_pos h42]
        rw [el]
        have p1 := a_dis_pw f (a_pa a c) c (a_ix c (a_rw a (a_pa a c))) a hc8 h3
        rw [← ef] at p1
        have p2 := a_dis_11 (a_fu a c) (a_pa a c) c (a_ix c (a_rw a (a_pa a c))) a
        have p3 := a_fs_eq p2 N
        have p4 := (a_dis_k2 (a_fu a c) (a_pa a c) c (a_ix c (a_rw a (a_pa a c))) a).rs
        have q1 := I.dis (f := a_fu a c) hc hc0 h3 (by omega)
        have q2 := a_U.dis x I (f := a_fu a c) hc hc0 h3 (by omega)
        refine ⟨?_, ?_, a_fd.of p2, q1, q2⟩
        · rw [p3]; omega
        · rw [p3, p4]; omega
      · by_cases h41 : a_nd a 4 c = 1 ∧ y ≤ 1
        · have el : a_hd (k + 1) c y a = a := by rw [a_hd, if_neg hc0, if_neg h42, if_pos h41]
          rw [el]
          exact stay
        · have el : a_hd (k + 1) c y a = if (a_lp (a_fu a c) (a_pa a c) 1000000 c a).1 = true then (a_lp (a_fu a c) (a_pa a c) 1000000 c a).2 else a_hd k (a_pa a c) 1 (a_lp (a_fu a c) (a_pa a c) 1000000 c a).2 := by rw [a_hd, if_neg hc0, if_neg h42, if_neg h41]
          rw [el]
          obtain ⟨v1, v2, v3, v4⟩ := a_lp_I (f := a_fu a c) 1000000 c a I hpm w2 w3 h8 w1
          obtain ⟨u1, u2⟩ := a_lp_U (f := a_fu a c) 1000000 c a x I hpm w2 hu h8 w1 hdn
          have hf := a_lp_f (f := a_fu a c) (p := a_pa a c) 1000000 c a
          have pw := a_lp_pw (f := f) (p := a_pa a c) hN hf9 1000000 c a x I hpm w2 hu (by rw [← ef]; exact h8) w1 hdn
          rw [← ef] at pw
          generalize hL : a_lp (a_fu a c) (a_pa a c) 1000000 c a = L at *
          obtain ⟨z1, z2, z3⟩ := pw
          have e1 : ∀ n, a_pa L.2 n = a_pa a n := fun n => by show (a_nd L.2 1 n).toNat = (a_nd a 1 n).toNat; rw [v3 1 (by decide) (by decide)]
          by_cases h : L.1 = true
          · rw [if_pos h]
            exact ⟨k_lp1 z1, k_lp2 z2, z3, v1, u1⟩
          · rw [if_neg h]
            obtain ⟨t1, t2, t3, t4, t5⟩ := ih (a_pa a c) 1 L.2 v1 u1 (by rw [v2]; exact hpm) v4 (by rw [hf h]; decide) (fun hp0 => by
              rw [e1]
              have r1p := I.1.r1 hpm hp0
              have epp : a_pa a (a_pa a c) = (a_nd a 1 (a_pa a c)).toNat := rfl
              rw [u2 _ (by omega)]
              exact x.up hpm hp0 hu)
            exact ⟨k_lp3 t1 z1, k_lp4 t2 z2, z3.tr t3, t4, t5⟩
/-! ===== the calls ===== -/
def a_Z (N i : Nat) (a : aS) : Prop := a_I a ∧ a_U a ∧ a_w a + 18000 * a_fs a N ≤ 800 + 1082000 * i ∧ a_rs a + a_fs a N ≤ 59 * i
theorem k_z1 {X Y i : Nat} (h : Y ≤ 800 + 1082000 * i) (g : X ≤ Y + 1082000) : X ≤ 800 + 1082000 * (i + 1) := by
  rw [Nat.mul_add, Nat.mul_one, ← Nat.add_assoc]
  exact Nat.le_trans g (Nat.add_le_add_right h _)
theorem k_z2 {X Y i : Nat} (h : Y ≤ 59 * i) (g : X ≤ Y + 59) : X ≤ 59 * (i + 1) := by omega
theorem a_Z.mk' {N i : Nat} {a b : aS} (z : a_Z N i a) (hI : a_I b) (hU : a_U b) (g1 : a_w b + 18000 * a_fs b N ≤ a_w a + 18000 * a_fs a N + 1082000) (g2 : a_rs b + a_fs b N ≤ a_rs a + a_fs a N + 59) : a_Z N (i + 1) b := ⟨hI, hU, k_z1 z.2.2.1 g1, k_z2 z.2.2.2 g2⟩
/-- what is refused, or only asks -/
theorem a_Z.st {N i : Nat} {a : aS} (z : a_Z N i a) : a_Z N (i + 1) a := z.mk' z.1 z.2.1 (Nat.le_add_right _ _) (Nat.le_add_right _ _)
theorem k_z3 {w w' f f' : Nat} (h : w' ≤ w + 20000) (g : f' ≤ f) : w' + 18000 * f' ≤ w + 18000 * f + 1082000 := by
  have h1 : 18000 * f' ≤ 18000 * f := Nat.mul_le_mul_left _ g
  have h2 : w' + 18000 * f' ≤ w + 20000 + 18000 * f := Nat.add_le_add h h1
  generalize 18000 * f = F at *
  generalize 18000 * f' = F' at *
  omega
theorem a_Z.lt {N i : Nat} {a b : aS} (z : a_Z N i a) (hI : a_I b) (hU : a_U b) (hw : a_w b ≤ a_w a + 20000) (hf : a_fd a b) (hr : a_rs b = a_rs a) : a_Z N (i + 1) b := by
  have h := a_fs_le hf N
  exact z.mk' hI hU (k_z3 hw h) (by omega)
theorem k_z4 {X Y k : Nat} (h : X ≤ Y + 18000 * 9) : X ≤ Y + 1082000 := Nat.le_trans h (Nat.add_le_add_left (by decide) Y)
/-- kill -/
theorem a_Z.kill {N i : Nat} (hN : 80 ≤ N) {a : aS} (z : a_Z N i a) {n : Nat} (hn : n < a_mk a) (hu : a_nd a 3 n = 1) : (a_hq 9 n 9 (a_ce true (a_fu a n) n a).2 ∧ a_hok 9 n 9 (a_ce true (a_fu a n) n a).2) ∧ a_Z N (i + 1) (a_hd 9 n 9 (a_ce true (a_fu a n) n a).2) := by
  obtain ⟨I, x, -, -⟩ := id z
  have h3 : ¬ a_nd a 3 n = 2 := by omega
  have r2 := I.1.r2 hn
  have efu : a_fu a n = (9 - a_nd a 2 n).toNat := rfl
  have kg := a_ce_gk true (a_fu a n) n a I.1 hn h3
  obtain ⟨u1, u2⟩ := a_ce_Us true (a_fu a n) n a I.1 I.2.1 hn h3 (by omega) x
  have lo := a_ce_lo true (a_fu a n) n a I.1 I.2.1.1 hn
  have w := a_ce_pw true (a_fu a n) n a I.1 I.2.1.1 hn hu
  have e11 := a_fs_eq (a_ce_11 true (a_fu a n) n a) N
  generalize (a_ce true (a_fu a n) n a).2 = b at *
  have hup : n ≠ 0 → a_nd b 3 (a_pa b n) = 1 := fun h0 => by
    have ep : a_pa b n = a_pa a n := by show (a_nd b 1 n).toNat = (a_nd a 1 n).toNat; rw [kg.1.nd]
    have r1 := I.1.r1 hn h0
    have epn : a_pa a n = (a_nd a 1 n).toNat := rfl
    rw [ep, lo _ (by omega)]
    exact a_U.up x hn h0 hu
  have hn' : n < a_mk b := by rw [kg.1.mk]; exact hn
  have h3' : ¬ a_nd b 3 n = 2 := by rw [u2]; decide
  have hd' : ¬ a_nd b 3 n = 1 := by rw [u2]; decide
  obtain ⟨t1, t2, t3, t4, t5⟩ := a_hd_pw hN 9 n 9 b (I.gk kg) u1 hn' h3' hd' hup
  refine ⟨a_hq_of 9 n 9 b (I.gk kg) u1 hn' h3' hd' (by rw [kg.1.nd]; show a_nd a 2 n < 9; omega) hup, z.mk' t4 t5 ?_ ?_⟩
  · refine k_z4 (k := 0) (Nat.le_trans t1 (Nat.add_le_add_right ?_ _))
    rw [e11]
    exact Nat.add_le_add_right w _
  · rw [e11, kg.1.rs] at t2
    omega
/-- a node is started: begin, again -/
theorem a_Z.go {N i : Nat} {a : aS} (z : a_Z N i a) {f n : Nat} (hf : f ≤ 9) (hn : n < a_mk a) (h3 : ¬ a_nd a 3 n = 2) (hu : ¬ a_nd a 3 n = 1) (h9 : (9 : Int) ≤ f + a_nd a 2 n) (hp : n = 0 ∨ a_nd a 3 (a_pa a n) = 1) : a_Z N (i + 1) (a_go f n a).2 := by
  obtain ⟨I, x, -, -⟩ := id z
  have hp' : n = 0 ∨ a_nd a 3 (a_pa a n) = 1 ∨ (fun _ : Nat => False) (a_pa a n) := by
    rcases hp with h | h
    · exact Or.inl h
    · exact Or.inr (Or.inl h)
  have kg := a_go_gk f n a I.1 I.2.1 hn h3
  have u := (a_go_Us f n (fun _ => False) a I.1 I.2.1 hn h3 h9 hu (fun _ h => h.elim) hp' x).1
  have w := a_go_pw f n (fun _ => False) a I.1 I.2.1 hn h3 h9 hu (fun _ h => h.elim) hp' x
  have u8 : a_u (a_go f n a).2 ≤ 80 := a_ci_80 _ 1
  refine z.lt (I.gk kg) u ?_ (a_go_11 f n a I.1 hn h9).1 kg.1.rs
  by_cases g : (a_go f n a).1 = true
  · have := (w.1 g).2
    omega
  · have := w.2 g
    omega
/-- TIME passes -/
theorem a_Z.pass {N i : Nat} {a : aS} (z : a_Z N i a) {k : Nat} (hk : k ≤ 10000) : a_Z N (i + 1) (a_st a (a_tm a + k)) := by
  obtain ⟨I, x, -, -⟩ := id z
  refine z.lt (I.gk (a_gk.st a (Nat.le_add_right _ _))) x ?_ (a_fd.of rfl) rfl
  have e1 : a_ci (a_st a (a_tm a + k)) 1 80 = a_ci a 1 80 := a_ci_eq (fun _ => Iff.rfl) 80
  have e2 : a_ci (a_st a (a_tm a + k)) 2 80 = a_ci a 2 80 := a_ci_eq (fun _ => Iff.rfl) 80
  have et : a_tm (a_st a (a_tm a + k)) = a_tm a + k := rfl
  have ee : a_ev (a_st a (a_tm a + k)) = a_ev a := rfl
  unfold a_w a_u
  rw [e1, e2, et, ee]
  omega
/-- remove -/
theorem a_Z.rem {N i : Nat} {a : aS} (z : a_Z N i a) {n : Nat} (hn : n < a_mk a) (h0 : n ≠ 0) (h3 : ¬ a_nd a 3 n = 2) : a_Z N (i + 1) (a_dis (a_fu a n) (a_pa a n) n (a_ix n (a_rw a (a_pa a n))) a).2 := by
  obtain ⟨I, x, -, -⟩ := id z
  have r2 := I.1.r2 hn
  have efu : a_fu a n = (9 - a_nd a 2 n).toNat := rfl
  obtain ⟨f, ef⟩ : ∃ f, a_fu a n = f + 1 := ⟨a_fu a n - 1, by omega⟩
  have p1 := a_dis_pw f (a_pa a n) n (a_ix n (a_rw a (a_pa a n))) a (Nat.lt_of_lt_of_le hn I.1.1.2) h3
  rw [← ef] at p1
  exact z.lt (I.dis hn h0 h3 (by omega)) (a_U.dis x I hn h0 h3 (by omega)) (Nat.le_trans p1 (Nat.le_add_right _ _)) (a_fd.of (a_dis_11 _ _ _ _ a)) (a_dis_k2 _ _ _ _ a).rs
/-- stop -/
theorem a_Z.stop {N i : Nat} {a : aS} (z : a_Z N i a) {n : Nat} (hn : n < a_mk a) (h0 : n ≠ 0) (hu : a_nd a 3 n = 1) : a_Z N (i + 1) (a_rl (a_fu a n) (a_pa a n) n (a_ix n (a_rw a (a_pa a n))) a) := by
  obtain ⟨I, x, -, -⟩ := id z
  have h3 : ¬ a_nd a 3 n = 2 := by omega
  obtain ⟨w1, w2, w3⟩ := I.2.1.2.2.1 n hn h0 h3
  have r1 := I.1.r1 hn h0
  have r2 := I.1.r2 hn
  have epa : a_pa a n = (a_nd a 1 n).toNat := rfl
  have efu : a_fu a n = (9 - a_nd a 2 n).toNat := rfl
  have hpm : a_pa a n < a_mk a := by omega
  obtain ⟨d1, d2, d3, d4, d5⟩ := a_kid I.1 I.2.1.1 hpm w1
  have h8 : (8 : Int) ≤ (a_fu a n : Nat) + a_nd a 2 (a_pa a n) := by omega
  obtain ⟨i1, i2, i3⟩ := a_ix_ok w1
  have y := (a_rl_I (f := a_fu a n) I hpm w3 h8 i1).1
  have u := (a_rl_U (f := a_fu a n) x I hpm w3 h8 i1).1
  rw [i2] at y u
  obtain ⟨f, ef⟩ : ∃ f, a_fu a n = f + 1 := ⟨a_fu a n - 1, by omega⟩
  have p1 := a_rl_pw (f := f) (p := a_pa a n) (t := a_ix n (a_rw a (a_pa a n))) I hn hu
  rw [← ef] at p1
  exact z.lt y u (Nat.le_trans p1 (Nat.le_add_right _ _)) (a_fd.of (a_rl_11 _ _ _ _ a)) (a_rl_k2 _ _ _ _ a).rs
/-- ends -/
theorem a_Z.ends {N i : Nat} (hN : 80 ≤ N) {a : aS} (z : a_Z N i a) {n y : Nat} (hn : n < a_mk a) (hk : a_nd a 0 n = 0) (hu : a_nd a 3 n = 1) : (a_hq 9 n y (a_no (a_sn a 3 n 0) 5 n y) ∧ a_hok 9 n y (a_no (a_sn a 3 n 0) 5 n y)) ∧ a_Z N (i + 1) (a_hd 9 n y (a_no (a_sn a 3 n 0) 5 n y)) := by
  obtain ⟨I, x, -, -⟩ := id z
  have h3 : ¬ a_nd a 3 n = 2 := by omega
  have r2 := I.1.r2 hn
  have hn8 : n < 80 := Nat.lt_of_lt_of_le hn I.1.1.2
  have kg : a_gk a (a_no (a_sn a 3 n 0) 5 n y) := (a_gk.sn3 a hn h3 (by omega)).tr (a_gk.no _ _ _ _)
  have e3 : ∀ m, a_nd (a_no (a_sn a 3 n 0) 5 n y) 3 m = if m = n then 0 else a_nd a 3 m := fun m => a_nd_sn3 a n m 0
  have u1 : a_U (a_no (a_sn a 3 n 0) 5 n y) := a_Us.put x I.2.1 (n := n) (fun c hc => by rw [I.1.2.2.2.2.1 n hn hk] at hc; cases hc) rfl (a_nd1 kg.1) e3
  have e11 : a_fs (a_no (a_sn a 3 n 0) 5 n y) N = a_fs a N := a_fs_eq (a := a) (b := a_no (a_sn a 3 n 0) 5 n y) (show a_nd (a_sn a 3 n 0) 11 = a_nd a 11 from a_nd_sne (f := 3) (g := 11) a n 0 (by decide)) N
  have w : a_w (a_no (a_sn a 3 n 0) 5 n y) ≤ a_w a := by
    have c1 := a_ci_mono (a := a) (b := a_no (a_sn a 3 n 0) 5 n y) (s := 1) (fun m h => by rw [e3] at h; split at h; cases h; exact h) 80
    have c2 := a_ci_out (a := a) (b := a_no (a_sn a 3 n 0) 5 n y) (s := 1) (n := n) (fun m h => by rw [e3] at h; split at h; cases h; exact h) hu (by rw [e3, if_pos rfl]; decide) 80 hn8
    have g := kg.g
    have et : a_tm (a_no (a_sn a 3 n 0) 5 n y) = a_tm a := rfl
    have ee : (a_ev (a_no (a_sn a 3 n 0) 5 n y)).length = (a_ev a).length + 1 := by
      show (a_ev a ++ [_]).length = _
      rw [List.length_append]
      rfl
    unfold a_w a_u
    rw [g, et, ee]
    omega
  have ers : a_rs (a_no (a_sn a 3 n 0) 5 n y) = a_rs a := rfl
  generalize a_no (a_sn a 3 n 0) 5 n y = b at *
  have hup : n ≠ 0 → a_nd b 3 (a_pa b n) = 1 := fun h0 => by
    have ep : a_pa b n = a_pa a n := by show (a_nd b 1 n).toNat = (a_nd a 1 n).toNat; rw [kg.1.nd]
    have r1 := I.1.r1 hn h0
    have epn : a_pa a n = (a_nd a 1 n).toNat := rfl
    rw [ep, e3, if_neg (by omega)]
    exact a_U.up x hn h0 hu
  have hn' : n < a_mk b := by rw [kg.1.mk]; exact hn
  have h3' : ¬ a_nd b 3 n = 2 := by rw [e3, if_pos rfl]; decide
  have hd' : ¬ a_nd b 3 n = 1 := by rw [e3, if_pos rfl]; decide
  obtain ⟨t1, t2, t3, t4, t5⟩ := a_hd_pw hN 9 n y b (I.gk kg) u1 hn' h3' hd' hup
  refine ⟨a_hq_of 9 n y b (I.gk kg) u1 hn' h3' hd' (by rw [kg.1.nd]; show a_nd a 2 n < 9; omega) hup, z.mk' t4 t5 ?_ ?_⟩
  · refine k_z4 (k := 0) (Nat.le_trans t1 (Nat.add_le_add_right ?_ _))
    rw [e11]
    exact Nat.add_le_add_right w _
  · rw [e11, ers] at t2
    omega
theorem a_Us.same {E : Nat → Prop} {a b : aS} (x : a_Us E a) (hm : a_mk b = a_mk a) (h1 : a_nd b 1 = a_nd a 1) (h3 : a_nd b 3 = a_nd a 3) : a_Us E b := fun m hmm hm0 hu => by
  have ep : a_pa b m = a_pa a m := by show (a_nd b 1 m).toNat = (a_nd a 1 m).toNat; rw [h1]
  rw [h3] at hu ⊢
  rw [ep]
  exact x m (by rw [hm] at hmm; exact hmm) hm0 hu
theorem a_fs_up {a b : aS} {n : Nat} (h : ∀ m, m ≠ n → a_nd b 11 m = a_nd a 11 m) (hn : a_nd b 11 n ≤ 50) : ∀ i, a_fs b i ≤ a_fs a i + (if n < i then 50 else 0)
  | 0 => Nat.zero_le _
  | i + 1 => by
    have ih := a_fs_up h hn i
    unfold a_fs
    by_cases e : i = n
    · subst e
      rw [if_neg (Nat.lt_irrefl i)] at ih
      rw [if_pos (Nat.lt_succ_self i)]
      omega
    · rw [h i e]
      by_cases l : n < i
      · rw [if_pos l] at ih
        rw [if_pos (by omega)]
        omega
      · rw [if_neg l] at ih
        rw [if_neg (by omega)]
        omega
theorem k_z5 {w w' f f' : Nat} (h : w' ≤ w + 20000) (g : f' ≤ f + 50) : w' + 18000 * f' ≤ w + 18000 * f + 1082000 := by
  have h1 : 18000 * f' ≤ 18000 * f + 18000 * 50 := by
    rw [← Nat.mul_add]
    exact Nat.mul_le_mul_left _ g
  have h2 : w' + 18000 * f' ≤ w + 20000 + (18000 * f + 18000 * 50) := Nat.add_le_add h h1
  have h3 : w + 20000 + (18000 * f + 18000 * 50) = w + 18000 * f + (20000 + 18000 * 50) := Nat.add_add_add_comm _ _ _ _
  rw [h3] at h2
  exact Nat.le_trans h2 (Nat.add_le_add_left (by decide) _)
theorem a_Z.lf {N i : Nat} {a b : aS} (z : a_Z N i a) (hI : a_I b) (hU : a_U b) (hw : a_w b ≤ a_w a + 20000) (hf : a_fs b N ≤ a_fs a N + 50) (hr : a_rs b = a_rs a) : a_Z N (i + 1) b := z.mk' hI hU (k_z5 hw hf) (by omega)
/-- failing -/
theorem a_Z.fail {N i : Nat} {a : aS} (z : a_Z N i a) {n : Nat} {g : Int} (hn : n < a_mk a) (hg : 0 ≤ g ∧ g ≤ 50) : a_Z N (i + 1) (a_sn a 11 n g) := by
  obtain ⟨I, x, -, -⟩ := id z
  have e3 : a_nd (a_sn a 11 n g) 3 = a_nd a 3 := a_nd_sne (f := 11) (g := 3) a n g (by decide)
  have e11 : ∀ m, a_nd (a_sn a 11 n g) 11 m = if m = n then g else a_nd a 11 m := fun m => by
    show va_up (a_nd a) 11 (va_up (a_nd a 11) n g) 11 m = _
    rw [va_up_self]
    by_cases e : m = n
    · rw [e, va_up_self, if_pos rfl]
    · rw [va_up_ne _ _ e, if_neg e]
  have hf := a_fs_up (a := a) (b := a_sn a 11 n g) (n := n) (fun m hm => by rw [e11, if_neg hm]) (by rw [e11, if_pos rfl]; exact hg.2) N
  refine z.lf (I.gk (a_gk.sn11 a hn (fun _ _ => hg))) (a_Us.same x rfl (a_nd_sne (f := 11) (g := 1) a n g (by decide)) e3) ?_ ?_ rfl
  · have c1 : a_ci (a_sn a 11 n g) 1 80 = a_ci a 1 80 := a_ci_eq (fun m => by rw [e3]) 80
    have c2 : a_ci (a_sn a 11 n g) 2 80 = a_ci a 2 80 := a_ci_eq (fun m => by rw [e3]) 80
    have et : a_tm (a_sn a 11 n g) = a_tm a := rfl
    have ee : a_ev (a_sn a 11 n g) = a_ev a := rfl
    unfold a_w a_u
    rw [c1, c2, et, ee]
    omega
  · split at hf <;> omega
/-- first -/
theorem a_Z.fst {N i : Nat} {a : aS} (z : a_Z N i a) {x r t : Int} (hb : (0 ≤ x ∧ x ≤ 2) ∧ (0 ≤ r ∧ r ≤ 50) ∧ (1 ≤ t ∧ t ≤ 1000)) : a_Z N (i + 1) (a_sn (a_sn (a_sn a 5 0 x) 6 0 r) 7 0 t) := by
  obtain ⟨⟨T, AR, W, A⟩, u, -, -⟩ := id z
  have en : ∀ f, f ≠ 5 → f ≠ 6 → f ≠ 7 → a_nd (a_sn (a_sn (a_sn a 5 0 x) 6 0 r) 7 0 t) f = a_nd a f := fun f h5 h6 h7 => by
    rw [a_nd_sne _ _ _ h7, a_nd_sne _ _ _ h6, a_nd_sne _ _ _ h5]
  have e5 : ∀ m, a_nd (a_sn (a_sn (a_sn a 5 0 x) 6 0 r) 7 0 t) 5 m = if m = 0 then x else a_nd a 5 m := fun m => rfl
  have e6 : ∀ m, a_nd (a_sn (a_sn (a_sn a 5 0 x) 6 0 r) 7 0 t) 6 m = if m = 0 then r else a_nd a 6 m := fun m => rfl
  have e7 : ∀ m, a_nd (a_sn (a_sn (a_sn a 5 0 x) 6 0 r) 7 0 t) 7 m = if m = 0 then t else a_nd a 7 m := fun m => rfl
  have em : a_mk (a_sn (a_sn (a_sn a 5 0 x) 6 0 r) 7 0 t) = a_mk a := rfl
  have er : a_rw (a_sn (a_sn (a_sn a 5 0 x) 6 0 r) 7 0 t) = a_rw a := rfl
  have et : a_tm (a_sn (a_sn (a_sn a 5 0 x) 6 0 r) 7 0 t) = a_tm a := rfl
  have ee : a_ev (a_sn (a_sn (a_sn a 5 0 x) 6 0 r) 7 0 t) = a_ev a := rfl
  have ert : a_rt (a_sn (a_sn (a_sn a 5 0 x) 6 0 r) 7 0 t) = a_rt a := rfl
  have ers : a_rs (a_sn (a_sn (a_sn a 5 0 x) 6 0 r) 7 0 t) = a_rs a := rfl
  generalize a_sn (a_sn (a_sn a 5 0 x) 6 0 r) 7 0 t = b at *
  have n0 := en 0 (by decide) (by decide) (by decide)
  have n1 := en 1 (by decide) (by decide) (by decide)
  have n2 := en 2 (by decide) (by decide) (by decide)
  have n3 := en 3 (by decide) (by decide) (by decide)
  have n4 := en 4 (by decide) (by decide) (by decide)
  have n8 := en 8 (by decide) (by decide) (by decide)
  have n9 := en 9 (by decide) (by decide) (by decide)
  have n10 := en 10 (by decide) (by decide) (by decide)
  have n11 := en 11 (by decide) (by decide) (by decide)
  have TT : a_T b := by
    unfold a_T
    rw [em, n0, n1, n2, n3, n4, n8, n9, n10, n11, er]
    refine ⟨T.1, fun n hn => ?_, T.2.2⟩
    obtain ⟨q0, q2, q4, q5, q6, q7, q8⟩ := T.2.1 n hn
    rw [e5, e6, e7]
    refine ⟨q0, q2, q4, ?_, ?_, ?_, q8⟩
    · split
      · exact hb.1
      · exact q5
    · split
      · exact hb.2.1
      · exact q6
    · split
      · omega
      · exact q7
  have RR : a_R b := by
    obtain ⟨x1, x2, x3, x4, x5⟩ := AR
    have ep : ∀ n, a_pa b n = a_pa a n := fun n => by show (a_nd b 1 n).toNat = (a_nd a 1 n).toNat; rw [n1]
    refine ⟨by rw [n2]; exact x1, by rw [n0]; exact x2, fun n hn h0 h2 => ?_, fun n c hn hc h2 => ?_, fun n hn h8 => ?_⟩
    · rw [em] at hn
      rw [n3] at h2
      rw [ep, er, n0, n3]
      exact x3 n hn h0 h2
    · rw [em] at hn
      rw [er] at hc
      rw [n3] at h2 ⊢
      exact x4 n c hn hc h2
    · rw [em] at hn
      have m1 := T.1.1
      obtain ⟨q1, q2, q3⟩ := x5 n hn h8
      refine ⟨fun f hf => ?_, by rw [er]; exact q2, by rw [ert]; exact q3⟩
      by_cases c5 : f = 5
      · subst c5; rw [e5, if_neg (by omega)]; exact q1 5 hf
      · by_cases c6 : f = 6
        · subst c6; rw [e6, if_neg (by omega)]; exact q1 6 hf
        · by_cases c7 : f = 7
          · subst c7; rw [e7, if_neg (by omega)]; exact q1 7 hf
          · rw [en f c5 c6 c7]; exact q1 f hf
  have WW : a_W b := by
    unfold a_W
    rw [em, n0, ert]
    exact W
  have AA : a_A b := by
    unfold a_A
    rw [em, ert, et]
    exact A
  refine z.lt ⟨TT, RR, WW, AA⟩ (a_Us.same u em n1 n3) ?_ (a_fd.of n11) ers
  have c1 : a_ci b 1 80 = a_ci a 1 80 := a_ci_eq (fun m => by rw [n3]) 80
  have c2 : a_ci b 2 80 = a_ci a 2 80 := a_ci_eq (fun m => by rw [n3]) 80
  unfold a_w a_u
  rw [c1, c2, et, ee]
  omega
/-- a node is made -/
theorem a_add_Z {a : aS} (I : a_I a) (x : a_U a) {p N : Nat} {v : Nat → Int} (hp : p < a_mk a) (hk : a_nd a 0 p = 1) (h3 : ¬ a_nd a 3 p = 2) (h80 : a_mk a < 80) (T' : a_T (a_add p v a)) (v1 : v 1 = p) (v3 : v 3 = 0) (v11 : v 11 ≤ 50) : a_I (a_add p v a) ∧ a_U (a_add p v a) ∧ a_w (a_add p v a) = a_w a ∧ a_fs (a_add p v a) N ≤ a_fs a N + 50 := by
  have en : ∀ f n, a_nd (a_add p v a) f n = if n = a_mk a then v f else a_nd a f n := fun f n => rfl
  have z0 := (I.2.1.2.2.2.2 (a_mk a) (Nat.le_refl _) h80).1 3 (by decide)
  have e3 : a_nd (a_add p v a) 3 = a_nd a 3 := by
    funext m
    rw [en]
    by_cases e : m = a_mk a
    · rw [if_pos e, e, v3, z0]
    · rw [if_neg e]
  refine ⟨⟨T', a_add_R I.1 I.2.1 hp hk h3 v1 v3, a_add_W I.2.2.1, a_add_A I.2.2.2⟩, fun m hm hm0 hu => ?_, ?_, ?_⟩
  · rw [e3] at hu ⊢
    have hm' : m < a_mk a + 1 := hm
    have hne : m ≠ a_mk a := fun e => by rw [e, z0] at hu; cases hu
    have ep : a_pa (a_add p v a) m = a_pa a m := by
      show (a_nd (a_add p v a) 1 m).toNat = (a_nd a 1 m).toNat
      rw [en, if_neg hne]
    rw [ep]
    exact x m (by omega) hm0 hu
  · have c1 : a_ci (a_add p v a) 1 80 = a_ci a 1 80 := a_ci_eq (fun m => by rw [e3]) 80
    have c2 : a_ci (a_add p v a) 2 80 = a_ci a 2 80 := a_ci_eq (fun m => by rw [e3]) 80
    have et : a_tm (a_add p v a) = a_tm a := rfl
    have ee : a_ev (a_add p v a) = a_ev a := rfl
    unfold a_w a_u
    rw [c1, c2, et, ee]
  · have hf := a_fs_up (a := a) (b := a_add p v a) (n := a_mk a) (fun m hm => by rw [en, if_neg hm]) (by rw [en, if_pos rfl]; exact v11) N
    split at hf <;> omega
/-- it is started -/
theorem a_add_go {a : aS} (I : a_I a) (x : a_U a) {p N : Nat} {v : Nat → Int} (hp : p < a_mk a) (hk : a_nd a 0 p = 1) (hu : a_nd a 3 p = 1) (h80 : a_mk a < 80) (T' : a_T (a_add p v a)) (v1 : v 1 = p) (v2 : v 2 = a_nd a 2 p + 1) (v3 : v 3 = 0) (v11 : v 11 ≤ 50) : a_I (a_go (a_fu (a_add p v a) (a_mk a)) (a_mk a) (a_add p v a)).2 ∧ a_U (a_go (a_fu (a_add p v a) (a_mk a)) (a_mk a) (a_add p v a)).2 ∧ a_w (a_go (a_fu (a_add p v a) (a_mk a)) (a_mk a) (a_add p v a)).2 ≤ a_w a + 17800 ∧ a_fs (a_go (a_fu (a_add p v a) (a_mk a)) (a_mk a) (a_add p v a)).2 N ≤ a_fs a N + 50 ∧ a_rs (a_go (a_fu (a_add p v a) (a_mk a)) (a_mk a) (a_add p v a)).2 = a_rs a ∧ a_gk (a_add p v a) (a_go (a_fu (a_add p v a) (a_mk a)) (a_mk a) (a_add p v a)).2 := by
  obtain ⟨I', x', w', f'⟩ := a_add_Z (N := N) I x hp hk (by omega) h80 T' v1 v3 v11
  have en : ∀ f n, a_nd (a_add p v a) f n = if n = a_mk a then v f else a_nd a f n := fun f n => rfl
  have hn : a_mk a < a_mk (a_add p v a) := Nat.lt_succ_self _
  have e3 : a_nd (a_add p v a) 3 (a_mk a) = 0 := by rw [en, if_pos rfl]; exact v3
  have r2 := I.1.r2 hp
  have e2 : a_nd (a_add p v a) 2 (a_mk a) = a_nd a 2 p + 1 := by rw [en, if_pos rfl]; exact v2
  have r2' := I'.1.r2 hn
  have efu : a_fu (a_add p v a) (a_mk a) = (9 - a_nd (a_add p v a) 2 (a_mk a)).toNat := rfl
  have ep : a_pa (a_add p v a) (a_mk a) = p := by
    show (a_nd (a_add p v a) 1 (a_mk a)).toNat = p
    rw [en, if_pos rfl, v1]
    rfl
  have hup : a_nd (a_add p v a) 3 (a_pa (a_add p v a) (a_mk a)) = 1 := by
    rw [ep, en, if_neg (by omega)]
    exact hu
  have h9 : (9 : Int) ≤ (a_fu (a_add p v a) (a_mk a) : Nat) + a_nd (a_add p v a) 2 (a_mk a) := by omega
  have hf9 : a_fu (a_add p v a) (a_mk a) ≤ 9 := by omega
  have ers : a_rs (a_add p v a) = a_rs a := rfl
  generalize a_fu (a_add p v a) (a_mk a) = f at *
  generalize a_mk a = n at *
  generalize a_add p v a = b at *
  have h2 : ¬ a_nd b 3 n = 2 := by omega
  have h1 : ¬ a_nd b 3 n = 1 := by omega
  have kg := a_go_gk f n b I'.1 I'.2.1 hn h2
  have u := (a_go_Us f n (fun _ => False) b I'.1 I'.2.1 hn h2 h9 h1 (fun _ h => h.elim) (Or.inr (Or.inl hup)) x').1
  have w := a_go_pw f n (fun _ => False) b I'.1 I'.2.1 hn h2 h9 h1 (fun _ h => h.elim) (Or.inr (Or.inl hup)) x'
  have u8 : a_u (a_go f n b).2 ≤ 80 := a_ci_80 _ 1
  have fl := a_fs_le (a_go_11 f n b I'.1 hn h9).1 N
  refine ⟨I'.gk kg, u, ?_, Nat.le_trans fl f', kg.1.rs.trans ers, kg⟩
  rw [← w']
  by_cases g : (a_go f n b).1 = true
  · have := (w.1 g).2
    omega
  · have := w.2 g
    omega
/-- keeper -/
theorem a_Z.kpr {N i : Nat} {a : aS} (z : a_Z N i a) {p : Nat} {v : Nat → Int} (hp : p < a_mk a) (hk : a_nd a 0 p = 1) (h3 : ¬ a_nd a 3 p = 2) (h80 : a_mk a < 80) (T' : a_T (a_add p v a)) (v1 : v 1 = p) (v2 : v 2 = a_nd a 2 p + 1) (v3 : v 3 = 0) (v11 : v 11 ≤ 50) : a_Z N (i + 1) (a_kpr p v a) := by
  obtain ⟨I, x, -, -⟩ := id z
  unfold a_kpr
  by_cases hu : a_nd a 3 p = 1
  · rw [if_pos hu]
    obtain ⟨y1, y2, y3, y4, y5, -⟩ := a_add_go (N := N) I x hp hk hu h80 T' v1 v2 v3 v11
    exact z.lf y1 y2 (Nat.le_trans y3 (Nat.add_le_add_left (by decide) _)) y4 y5
  · rw [if_neg hu]
    obtain ⟨y1, y2, y3, y4⟩ := a_add_Z (N := N) I x hp hk h3 h80 T' v1 v3 v11
    exact z.lf y1 y2 (by rw [y3]; exact Nat.le_add_right _ _) y4 rfl
/-- worker -/
theorem a_Z.wkr {N i : Nat} {a : aS} (z : a_Z N i a) {p : Nat} {v : Nat → Int} (hp : p < a_mk a) (hk : a_nd a 0 p = 1) (h3 : ¬ a_nd a 3 p = 2) (h80 : a_mk a < 80) (T' : a_T (a_add p v a)) (v1 : v 1 = p) (v2 : v 2 = a_nd a 2 p + 1) (v3 : v 3 = 0) (v11 : v 11 ≤ 50) : a_Z N (i + 1) (a_wkr p v a).2 := by
  obtain ⟨I, x, -, -⟩ := id z
  unfold a_wkr
  by_cases hu : a_nd a 3 p = 1
  · rw [if_pos hu]
    obtain ⟨y1, y2, y3, y4, y5, kg⟩ := a_add_go (N := N) I x hp hk hu h80 T' v1 v2 v3 v11
    split
    · exact z.lf y1 y2 (Nat.le_trans y3 (Nat.add_le_add_left (by decide) _)) y4 y5
    · have en : ∀ f n, a_nd (a_add p v a) f n = if n = a_mk a then v f else a_nd a f n := fun f n => rfl
      have e3 : a_nd (a_add p v a) 3 (a_mk a) = 0 := by rw [en, if_pos rfl]; exact v3
      have e2 : a_nd (a_add p v a) 2 (a_mk a) = a_nd a 2 p + 1 := by rw [en, if_pos rfl]; exact v2
      have e1 : a_nd (a_add p v a) 1 (a_mk a) = p := by rw [en, if_pos rfl]; exact v1
      have hmn : a_mk a < a_mk (a_add p v a) := Nat.lt_succ_self _
      have r2' := T'.r2 hmn
      have m1 := I.1.1.1
      have efu : a_fu (a_add p v a) (a_mk a) = (9 - a_nd (a_add p v a) 2 (a_mk a)).toNat := rfl
      obtain ⟨f, ef⟩ : ∃ f, a_fu (a_add p v a) (a_mk a) = f + 1 := ⟨a_fu (a_add p v a) (a_mk a) - 1, by omega⟩
      have h9 : (9 : Int) ≤ (a_fu (a_add p v a) (a_mk a) : Nat) + a_nd (a_add p v a) 2 (a_mk a) := by omega
      generalize a_fu (a_add p v a) (a_mk a) = F at *
      generalize (a_go F (a_mk a) (a_add p v a)).2 = b at *
      have epa : a_pa b (a_mk a) = p := by
        show (a_nd b 1 (a_mk a)).toNat = p
        rw [kg.1.nd, e1]
        rfl
      have hc : a_mk a < a_mk b := by rw [kg.1.mk]; exact hmn
      have hg : ¬ a_nd b 3 (a_mk a) = 2 := by rw [kg.2.1, e3]; decide
      have h9b : (9 : Int) ≤ F + a_nd b 2 (a_mk a) := by rw [kg.1.nd]; exact h9
      have q1 := y1.dis (f := F) hc (by omega) hg h9b
      have q2 := a_U.dis y2 y1 (f := F) hc (by omega) hg h9b
      rw [epa] at q1 q2
      have q3 := a_dis_pw f p (a_mk a) (a_ix (a_mk a) (a_rw b p)) b h80 hg
      rw [← ef] at q3
      have q4 := a_fs_eq (a_dis_11 F p (a_mk a) (a_ix (a_mk a) (a_rw b p)) b) N
      exact z.lf q1 q2 (Nat.le_trans q3 (Nat.le_trans y3 (Nat.add_le_add_left (by decide) _))) (by rw [q4]; exact y4) ((a_dis_k2 _ _ _ _ b).rs.trans y5)
  · rw [if_neg hu]
    obtain ⟨y1, y2, y3, y4⟩ := a_add_Z (N := N) I x hp hk h3 h80 T' v1 v3 v11
    exact z.lf y1 y2 (by rw [y3]; exact Nat.le_add_right _ _) y4 rfl
/-- over 512 calls the numbers stay small -/
theorem a_Z.sm {N i : Nat} {a : aS} (z : a_Z N i a) (hi : i ≤ 512) : a_tm a < 2 ^ 30 ∧ (a_ev a).length < 2 ^ 30 ∧ a_rs a ≤ 30208 := by
  obtain ⟨-, -, h1, h2⟩ := z
  have h3 : 1082000 * i ≤ 1082000 * 512 := Nat.mul_le_mul_left _ hi
  have h4 : a_w a ≤ 800 + 1082000 * 512 := Nat.le_trans (Nat.le_trans (Nat.le_add_right _ _) h1) (Nat.add_le_add_left h3 _)
  have h5 : a_w a < 2 ^ 30 := Nat.lt_of_le_of_lt h4 (by decide)
  have h6 : 59 * i ≤ 59 * 512 := Nat.mul_le_mul_left _ hi
  have t : a_tm a ≤ a_w a := by
    unfold a_w
    omega
  have e : (a_ev a).length ≤ a_w a := by
    unfold a_w
    omega
  exact ⟨Nat.lt_of_le_of_lt t h5, Nat.lt_of_le_of_lt e h5, Nat.le_trans (Nat.le_trans (Nat.le_add_right _ _) h2) h6⟩
/-! ===== remove's answer ===== -/
theorem a_ci_put {a : aS} {c : Nat} {s : Int} (h : ¬ a_nd a 3 c = s) : ∀ N, a_ci (a_sn a 3 c s) s N = if c < N then a_ci a s N + 1 else a_ci a s N
  | 0 => by rw [if_neg (Nat.not_lt_zero _)]; rfl
  | N + 1 => by
    have ih := a_ci_put h N
    unfold a_ci
    rw [a_nd_sn3, ih]
    by_cases e : N = c
    · subst e
      rw [if_pos rfl, if_pos rfl, if_neg (Nat.lt_irrefl _), if_neg h, if_pos (Nat.lt_succ_self _)]
    · rw [if_neg e]
      by_cases l : c < N
      · have l' : c < N + 1 := by omega
        simp only [if_pos l, if_pos l']
        split <;> rfl
      · have l' : ¬ c < N + 1 := by omega
        simp only [if_neg l, if_neg l']
theorem a_row_gt {a : aS} (T : a_T a) (h02 : a_nd a 2 0 = 0) {c q : Nat} (hc : c < a_mk a) (hq : q ∈ a_rw a c) : c < q := by
  obtain ⟨q1, q2, q3⟩ := T.rc hc hq
  have r2 := T.r2 hc
  have q0 : q ≠ 0 := fun z => by subst z; omega
  have := T.r1 q1 q0
  omega
/-- brothers mark no node both -/
theorem a_vm_dj {a : aS} (T : a_T a) (h02 : a_nd a 2 0 = 0) {f c q q' : Nat} (hc : c < a_mk a) (hq : q ∈ a_rw a c) (hq' : q' ∈ a_rw a c) : ∀ (k x : Nat), x < k → a_vm a f q x = true → a_vm a f q' x = true → q = q' := by
  obtain ⟨q1, q2, q3⟩ := T.rc hc hq
  obtain ⟨p1, p2, p3⟩ := T.rc hc hq'
  have lq := a_row_gt T h02 hc hq
  have lp := a_row_gt T h02 hc hq'
  intro k
  induction k with
  | zero => intro x hx; exact absurd hx (Nat.not_lt_zero _)
  | succ k ih =>
    intro x hx h h'
    obtain ⟨x1, x2, x3⟩ := a_vm_up T h02 f q x q1 h
    obtain ⟨y1, y2, y3⟩ := a_vm_up T h02 f q' x p1 h'
    rcases x3 with x3 | ⟨y, u1, u2, u3⟩
    · rcases y3 with y3 | ⟨z, v1, v2, v3⟩
      · exact x3.symm.trans y3
      · have e := (T.rc v1 v2).2.1
        rw [x3, q2] at e
        have ez : z = c := by omega
        subst ez
        have := (a_vm_up T h02 f q' z p1 v3).2.1
        omega
    · have e1 := (T.rc u1 u2).2.1
      rcases y3 with y3 | ⟨z, v1, v2, v3⟩
      · rw [y3, p2] at e1
        have ey : y = c := by omega
        subst ey
        have := (a_vm_up T h02 f q y q1 u3).2.1
        omega
      · have e2 := (T.rc v1 v2).2.1
        have ez : y = z := by omega
        subst ez
        exact ih y (by have := a_row_gt T h02 u1 u2; omega) u3 v3
theorem a_vR_ci {f c : Nat} (hf : ∀ (q : Nat) (a : aS), a_T a → a_nd a 2 0 = 0 → q < a_mk a → (∀ x, a_vm a f q x = true → ¬ a_nd a 3 x = 2) → a_ci (a_va f q a).2 2 80 = a_ci a 2 80 + (a_va f q a).1) : ∀ (l : List Nat) (a : aS), a_T a → a_nd a 2 0 = 0 → c < a_mk a → l.Nodup → (∀ q ∈ l, q ∈ a_rw a c) → (∀ q ∈ l, ∀ x, a_vm a f q x = true → ¬ a_nd a 3 x = 2) → a_ci (a_vR (a_va f) l a).2 2 80 = a_ci a 2 80 + (a_vR (a_va f) l a).1
  | [], a, _, _, _, _, _, _ => rfl
  | q :: l, a, T, h02, hc, hn, hr, hg => by
    have k := a_va_kp f q a
    have hq := hr q List.mem_cons_self
    have hn' := List.nodup_cons.mp hn
    have e1 := hf q a T h02 (T.rc hc hq).1 (hg q List.mem_cons_self)
    have ev : ∀ z x, a_vm (a_va f q a).2 f z x = a_vm a f z x := fun z x => a_vm_eq k.rw' (k.2.2.1 0 (by decide) (by decide)) f z x
    have e2 := a_vR_ci hf l (a_va f q a).2 (k.T T) (by rw [k.nd]; exact h02) (by rw [k.mk]; exact hc) hn'.2 (fun z hz => by rw [k.rw']; exact hr z (List.mem_cons_of_mem _ hz)) (fun z hz x hx => by
      rw [ev] at hx
      rw [a_va_st]
      split
      · next hh =>
        have := a_vm_dj T h02 hc hq (hr z (List.mem_cons_of_mem _ hz)) (x + 1) x (Nat.lt_succ_self _) hh hx
        rw [this] at hn'
        exact absurd hz hn'.1
      · exact hg z (List.mem_cons_of_mem _ hz) x hx)
    show a_ci (a_vR (a_va f) l (a_va f q a).2).2 2 80 = a_ci a 2 80 + ((a_va f q a).1 + (a_vR (a_va f) l (a_va f q a).2).1)
    rw [e2, e1]
    omega
theorem a_va_ci : ∀ (f c : Nat) (a : aS), a_T a → a_nd a 2 0 = 0 → c < a_mk a → (∀ x, a_vm a f c x = true → ¬ a_nd a 3 x = 2) → a_ci (a_va f c a).2 2 80 = a_ci a 2 80 + (a_va f c a).1
  | 0, _, _, _, _, _, _ => rfl
  | f + 1, c, a, T, h02, hc, hg => by
    have hc8 : c < 80 := Nat.lt_of_lt_of_le hc T.1.2
    have h3 : ¬ a_nd a 3 c = 2 := hg c (by unfold a_vm; simp)
    have e1 := a_ci_put (s := 2) h3 80
    rw [if_pos hc8] at e1
    unfold a_va
    by_cases hw : a_nd a 0 c = 0
    · rw [if_pos hw]
      exact e1
    · rw [if_neg hw]
      have k : a_kp a (a_sn a 3 c 2) := a_kp.sn3 a c (by omega)
      have ev : ∀ z x, a_vm (a_sn a 3 c 2) f z x = a_vm a f z x := fun z x => a_vm_eq (a := a) (b := a_sn a 3 c 2) rfl rfl f z x
      have e2 := a_vR_ci (f := f) (c := c) (fun q b Tb hb hq hgb => a_va_ci f q b Tb hb hq hgb) (a_rw a c) (a_sn a 3 c 2) (k.T T) (by rw [k.nd]; exact h02) hc (T.nd hc) (fun q hq => hq) (fun q hq x hx => by
        rw [ev] at hx
        have lx := (a_vm_up T h02 f q x (T.rc hc hq).1 hx).2.1
        have lq := a_row_gt T h02 hc hq
        rw [a_nd_sn3, if_neg (by omega)]
        refine hg x ?_
        unfold a_vm
        have : (a_rw a c).any (fun z => a_vm a f z x) = true := List.any_eq_true.mpr ⟨q, hq, hx⟩
        rw [this]
        simp [hw])
      show a_ci (a_vR (a_va f) (a_rw a c) (a_sn a 3 c 2)).2 2 80 = a_ci a 2 80 + (1 + (a_vR (a_va f) (a_rw a c) (a_sn a 3 c 2)).1)
      rw [e2, e1]
      omega
/-- all that is marked under a node that isn't gone isn't -/
theorem a_vm_ng {a : aS} (T : a_T a) (AR : a_R a) : ∀ (f c x : Nat), c < a_mk a → ¬ a_nd a 3 c = 2 → a_vm a f c x = true → ¬ a_nd a 3 x = 2 := by
  intro f
  induction f with
  | zero => intro c x _ _ h; cases h
  | succ f ih =>
    intro c x hc h3 h
    unfold a_vm at h
    by_cases e : x = c
    · rw [e]; exact h3
    · simp only [beq_iff_eq, e, Bool.or_eq_true, Bool.and_eq_true, Bool.not_eq_true', beq_eq_false_iff_ne, false_or] at h
      obtain ⟨hk, h2⟩ := h
      obtain ⟨q, hq, hqv⟩ := List.any_eq_true.mp h2
      exact ih q x (T.rc hc hq).1 (AR.2.2.2.1 c q hc hq h3) hqv
def mo_c2 (st : Nat → Int32) : Nat → Nat
  | 0 => 0
  | n + 1 => if st n = 2 then mo_c2 st n + 1 else mo_c2 st n
theorem mo_c2_up {st : Nat → Int32} {c : Nat} (h : ¬ st c = 2) : ∀ N, mo_c2 (va_up st c 2) N = if c < N then mo_c2 st N + 1 else mo_c2 st N
  | 0 => by rw [if_neg (Nat.not_lt_zero _)]; rfl
  | N + 1 => by
    have ih := mo_c2_up h N
    unfold mo_c2
    rw [ih]
    by_cases e : N = c
    · subst e
      rw [va_up_self, if_pos rfl, if_neg (Nat.lt_irrefl _), if_neg h, if_pos (Nat.lt_succ_self _)]
    · rw [va_up_ne _ _ e]
      by_cases l : c < N
      · have l' : c < N + 1 := by omega
        simp only [if_pos l, if_pos l']
        split <;> rfl
      · have l' : ¬ c < N + 1 := by omega
        simp only [if_neg l, if_neg l']
theorem mo_gs_c2 (st par : Nat → Int32) (q : Nat) : ∀ k, q + k ≤ 80 → mo_c2 (mo_gs st par q k).1 80 + 1 = mo_c2 st 80 + (mo_gs st par q k).2
  | 0, _ => rfl
  | k + 1, h => by
    have ih := mo_gs_c2 st par q k (by omega)
    unfold mo_gs
    split
    · exact ih
    · next h2 =>
      split
      · show mo_c2 (va_up (mo_gs st par q k).1 (q + k) 2) 80 + 1 = mo_c2 st 80 + ((mo_gs st par q k).2 + 1)
        rw [mo_c2_up h2, if_pos (by omega)]
        omega
      · exact ih
theorem mo_c2_ci {st : Nat → Int32} {a : aS} : ∀ N, (∀ n, n < N → st n = Int32.ofInt (a_nd a 3 n) ∧ a_sm (a_nd a 3 n)) → mo_c2 st N = a_ci a 2 N
  | 0, _ => rfl
  | N + 1, h => by
    have ih := mo_c2_ci N (fun n hn => h n (by omega))
    obtain ⟨e1, e2⟩ := h N (Nat.lt_succ_self _)
    unfold mo_c2 a_ci
    have e : st N = 2 ↔ a_nd a 3 N = 2 := by
      rw [e1]
      exact a_ofI_eq (x := a_nd a 3 N) (y := 2) e2 (by omega)
    by_cases g : a_nd a 3 N = 2
    · rw [if_pos g, if_pos (e.mpr g), ih]
    · rw [if_neg g, if_neg (fun z => g (e.mp z)), ih]
theorem mo_gz_n {s : moS} {a : aS} {f c ex : Nat} (r : rb_R s a ex) (T : a_T a) (AR : a_R a) (hc : c < a_mk a) (h3 : ¬ a_nd a 3 c = 2) (hc0 : c ≠ 0) (h9 : (9 : Int) ≤ f + a_nd a 2 c) : (mo_gz s c (a_mk a)).2 = (a_dis f (a_pa a c) c (a_ix c (a_rw a (a_pa a c))) a).1 := by
  have m80 := T.1.2
  generalize hb : a_no (a_sr a (a_pa a c) ((a_rw a (a_pa a c)).eraseIdx (a_ix c (a_rw a (a_pa a c))))) 7 c 0 = b
  have kb : a_k2 a b := by rw [← hb]; exact (a_k2.er a _ _).tr (a_kp.no _ _ _ _).k2
  have b3 : a_nd b 3 = a_nd a 3 := by rw [← hb]; rfl
  have ed : (a_dis f (a_pa a c) c (a_ix c (a_rw a (a_pa a c))) a).1 = (a_va f c b).1 := by unfold a_dis; rw [hb]
  have hcb : c < a_mk b := by rw [kb.mk]; exact hc
  have h02b : a_nd b 2 0 = 0 := by rw [kb.nd]; exact AR.1
  have TB := kb.T T
  -- marked in b: marked in a, so not gone
  have sub : ∀ (g q x : Nat), a_vm b g q x = true → a_vm a g q x = true := by
    have er : ∀ n z, z ∈ a_rw b n → z ∈ a_rw a n := fun n z hz => by
      rw [← hb] at hz
      have hz' : z ∈ va_up (a_rw a) (a_pa a c) ((a_rw a (a_pa a c)).eraseIdx (a_ix c (a_rw a (a_pa a c)))) n := hz
      by_cases e : n = a_pa a c
      · rw [e, va_up_self] at hz'
        rw [e]
        exact List.mem_of_mem_eraseIdx hz'
      · rw [va_up_ne _ _ e] at hz'
        exact hz'
    have ek : a_nd b 0 = a_nd a 0 := by rw [← hb]; rfl
    intro g
    induction g with
    | zero => intro q x h; cases h
    | succ g ih =>
      intro q x h
      unfold a_vm at h ⊢
      simp only [Bool.or_eq_true, Bool.and_eq_true] at h ⊢
      rcases h with h | ⟨h1, h2⟩
      · exact Or.inl h
      · obtain ⟨z, hz, hzv⟩ := List.any_eq_true.mp h2
        refine Or.inr ⟨by rw [← ek]; exact h1, List.any_eq_true.mpr ⟨z, er q z hz, ih z x hzv⟩⟩
  have e1 := a_va_ci f c b TB h02b hcb (fun x hx => by rw [b3]; exact a_vm_ng T AR f c x hc h3 (sub f c x hx))
  have e2 := mo_gs_c2 (va_up (s.2 5) c 2) (s.2 3) (c + 1) (a_mk a - (c + 1)) (by omega)
  have s5 : ∀ n, n < 80 → s.2 5 n = Int32.ofInt (a_nd a 3 n) ∧ a_sm (a_nd a 3 n) := fun n hn => ⟨r.nd (f := 3) (by omega) hn, r.sm (f := 3) (by omega) hn⟩
  have hc8 : c < 80 := by omega
  have ng : ¬ s.2 5 c = 2 := fun z => h3 ((a_ofI_eq (x := a_nd a 3 c) (y := 2) (s5 c hc8).2 (by omega)).mp (by rw [← (s5 c hc8).1]; exact z))
  rw [mo_c2_up ng, if_pos hc8, mo_c2_ci 80 s5] at e2
  have e3 : mo_c2 (mo_gs (va_up (s.2 5) c 2) (s.2 3) (c + 1) (a_mk a - (c + 1))).1 80 = a_ci (a_va f c b).2 2 80 := mo_c2_ci 80 (fun n hn => by
    have sw := mo_gs_va (f := f) (p := a_pa a c) (t := a_ix c (a_rw a (a_pa a c))) r T AR hc h3 hc0 rfl hb.symm h9 (a_mk a - (c + 1)) (by omega) n hn
    have V := a_va_st f c n b
    refine ⟨?_, ?_⟩
    · rw [sw]
      by_cases l : n < c + 1 + (a_mk a - (c + 1))
      · rw [if_pos l]
      · rw [if_neg l, V, if_neg, b3]
        intro vm
        have := (a_vm_up TB h02b f c n hcb vm).1
        rw [kb.mk] at this
        omega
    · rw [V, b3]
      split
      · omega
      · exact (s5 n hn).2)
  have e4 : a_ci b 2 80 = a_ci a 2 80 := a_ci_eq (fun n => by rw [b3]) 80
  rw [e3, e1, e4] at e2
  rw [ed]
  show (mo_gs (va_up (s.2 5) c 2) (s.2 3) (c + 1) (a_mk a - (c + 1))).2 = _
  omega
set_option maxHeartbeats 4000000 in
theorem mc_goes2 {l : Launch} {G : hpG} {h H : hpT} {m d : Nat} {a : aS} {z : mrZ} (sh : mo_sh G h m) (R : MR h m H a z) (T : a_T a) (AR : a_R a) {c f : Nat} (hc : c < a_mk a) (hc0 : c ≠ 0) (h3 : ¬ a_nd a 3 c = 2) (h9 : (9 : Int) ≤ f + a_nd a 2 c) (hl : (a_ev a).length < 2 ^ 30) (hd : 2 ≤ d) : hp_C l G yX6_goes (.code yX6_goes cX6_goes 5 (some .int)) d [.ref m, .int (nI c)] H
    (fun v h' => v = some (.int (nI (a_dis f (a_pa a c) c (a_ix c (a_rw a (a_pa a c))) a).1)) ∧ MR h m h' (a_dis f (a_pa a c) c (a_ix c (a_rw a (a_pa a c))) a).2 z) (fun _ _ => False) := by
  obtain ⟨s, rfl, r, r1, r2, r3⟩ := R
  obtain ⟨m1, m2, m3⟩ := AR.2.2.1 c hc hc0 h3
  have m80 := T.1.2
  have q1 := T.r1 hc hc0
  have epa : a_pa a c = (a_nd a 1 c).toNat := rfl
  have hp8 : a_pa a c < 80 := by omega
  obtain ⟨i1, i2, i3⟩ := a_ix_ok m1
  obtain ⟨y1, y2, y3⟩ := r.2.2.2.2.2.2.1 (a_pa a c) hp8
  have hev : mo_evk s := by
    unfold mo_evk
    rw [r.2.2.1, nI_toInt (by omega)]
    omega
  have hpar : s.2 3 c = nI (a_pa a c) := by rw [r.nd (f := 1) (by omega) (by omega), a_ofN q1.1]
  have con := mo_goes (l := l) (d := d) sh hd (a := c) (p := a_pa a c) (c := (a_rw a (a_pa a c)).length) (t := a_ix c (a_rw a (a_pa a c))) (mk := a_mk a) hc m80 r.1.1 hp8 hpar y2 y1 i1 (by rw [(y3 _ i1).1, i2]) (fun j hj e => by
    have hj' : j < (a_rw a (a_pa a c)).length := by omega
    rw [(y3 j hj').1] at e
    have := (nI_eq (by have := (y3 j hj').2; omega) (by omega)).mp e
    exact i3 j hj this) hev (fun j hj1 hj2 => by
    have qj := T.r1 (n := j) hj2 (by omega)
    rw [r.nd (f := 1) (by omega) (by omega), a_ofN qj.1]
    exact nI_in (by omega) (by omega))
  refine hp_Cw con (fun v h' hv => ⟨by rw [hv.1, mo_gz_n (f := f) r T AR hc h3 hc0 h9], _, hv.2, ?_, ?_, ?_, ?_⟩)
  · generalize hb : a_no (a_sr a (a_pa a c) ((a_rw a (a_pa a c)).eraseIdx (a_ix c (a_rw a (a_pa a c))))) 7 c 0 = b
    have rg : rb_R (mo_g2 s c (a_pa a c) (a_ix c (a_rw a (a_pa a c))) (a_rw a (a_pa a c)).length) b z.2.2.2 := by
      rw [← hb]
      exact (r.er hp8 i1).no hl
    have kb : a_k2 a b := by rw [← hb]; exact (a_k2.er a _ _).tr (a_kp.no _ _ _ _).k2
    have b3 : a_nd b 3 = a_nd a 3 := by rw [← hb]; rfl
    obtain ⟨n1, n2, n3, n4, n5⟩ := a_va_nd f c b
    have kv := a_va_kp f c b
    have ed : (a_dis f (a_pa a c) c (a_ix c (a_rw a (a_pa a c))) a).2 = (a_va f c b).2 := by unfold a_dis; rw [hb]
    rw [ed]
    refine rg.sv kv.mk n4 n3 kv.rs n5 kv.rw' n2 n1 (fun n hn => ?_)
    have sw := mo_gs_va (f := f) (p := a_pa a c) (t := a_ix c (a_rw a (a_pa a c))) r T AR hc h3 hc0 rfl hb.symm h9 (a_mk a - (c + 1)) (by omega) n hn
    have V := a_va_st f c n b
    have hsm : a_sm (a_nd (a_va f c b).2 3 n) := by
      rw [V, b3]
      split
      · omega
      · exact r.sm (f := 3) (by omega) hn
    refine ⟨?_, hsm, fun e => ?_⟩
    · show (mo_gz s c (a_mk a)).1 n = _
      unfold mo_gz
      rw [sw]
      by_cases l : n < c + 1 + (a_mk a - (c + 1))
      · rw [if_pos l]
      · rw [if_neg l, V, if_neg, b3]
        intro vm
        have hcb : c < a_mk b := by rw [kb.mk]; exact hc
        have := (a_vm_up (kb.T T) (by rw [kb.nd]; exact AR.1) f c n hcb vm).1
        rw [kb.mk] at this
        omega
    · rw [V] at e
      split at e
      · cases e
      · exact e
  · rw [mo_sv_ne (by decide), mo_g2_ne (by decide) (by decide) (by decide)]
    exact r1
  · rw [mo_sv_ne (by decide), mo_g2_ne (by decide) (by decide) (by decide)]
    exact r2
  · show (mo_g2 s c _ _ _).1 0 = _
    unfold mo_g2
    rw [mo_note_1 (by decide)]
    exact r3
set_option maxRecDepth 20000 in
set_option maxHeartbeats 4000000 in
theorem mp_remove2 {l : Launch} {G : hpG} {h H : hpT} {m d : Nat} {a : aS} {z : mrZ} (sh : mo_sh G h m) (R : MR h m H a z) {n : Nat} (I : a_I a) (hn : n < a_mk a) (h3 : ¬ a_nd a 3 n = 2) (h0 : n ≠ 0) (hu : ¬ a_nd a 3 n = 1) (hv : (a_ev a).length < 2 ^ 30) (hd : 6 ≤ d) : hp_C l G yX6_remove (.code yX6_remove cX6_remove 2 (some .int)) d [.ref m, .int (nI n)] (H) (fun v h' => v = some (.int (nI (a_dis (a_fu a n) (a_pa a n) n (a_ix n (a_rw a (a_pa a n))) a).1)) ∧ MR h m h' (a_dis (a_fu a n) (a_pa a n) n (a_ix n (a_rw a (a_pa a n))) a).2 (z.1, z.2.1, 0, z.2.2.2)) (fun _ _ => False) := by
  have T := I.1
  have hn8 : n < 80 := Nat.lt_of_lt_of_le hn T.1.2
  have r3 := T.r3 hn
  refine hp_ofV (by decide) (by simp [Value.category]) (Nat.le_of_ble_eq_true rfl) (fun M C hr hx el => ?_)
  refine hp_aload_nR C dX6_remove_0 rfl ?_
  refine hp_aload_nR C dX6_remove_1 rfl ?_
  refine hp_iload_n C dX6_remove_2 rfl ?_
  refine hp_callV (ci := 6) C ml_X6_75 im_X6_isNode se_X6_isNode rfl (by decide) (mc_isNy (d := d - 1) sh R hn h3) (by omega) dX6_remove_3 (R.o sh) rfl rfl (by simp [Value.category]) (fun v_3 h_3 hp => ?_) (fun _ _ hf => hf.elim)
  obtain ⟨rfl, R_3⟩ := hp
  refine hp_if_eq (tgt := 13) C dX6_remove_6 (by decide) (fun z_9 => absurd z_9 (by decide)) (fun _ => ?_)
  refine hp_iload_n C dX6_remove_9 rfl ?_
  refine hp_if_ne (tgt := 17) C dX6_remove_10 (by decide) (fun _ => ?_) (fun z_9 => absurd z_9 (nI_ne0 (by omega) (by omega)))
  refine hp_aload_nR C dX6_remove_17 rfl ?_
  refine mr_A C sh R_3 fl_X6_20_6 rfl (by decide) dX6_remove_18 ?_
  refine hp_iload_n C dX6_remove_21 rfl ?_
  refine mr_nd C sh R_3 5 3 (by decide) (by decide) rfl hn8 dX6_remove_22 ?_
  refine hp_iconst (v := 1) C dX6_remove_23 (by decide) ?_
  refine hp_icmp_ne (tgt := 31) C dX6_remove_24 (by decide) (fun _ => ?_) (fun z_9 => absurd z_9 (fun q => hu ((a_ofI_eq (x := a_nd a 3 n) (y := 1) (by omega) (by omega)).mp q)))
  refine hp_iconst (v := 0) C dX6_remove_31 (by decide) ?_
  refine hp_callV (ci := 6) C ml_X6_125 im_X6_refuses se_X6_refuses rfl (by decide) (mc_refu (d := d - 1) (c := 0) (r := 0) sh R_3 (by decide)) (by omega) dX6_remove_32 (R_3.o sh) rfl rfl (by simp [Value.category]) (fun v_32 h_32 hp => ?_) (fun _ _ hf => hf.elim)
  obtain ⟨rfl, R_32⟩ := hp
  refine hp_if_eq (tgt := 42) C dX6_remove_35 (by decide) (fun _ => ?_) (fun z_9 => absurd z_9 (by decide))
  refine hp_aload_nR C dX6_remove_42 rfl ?_
  refine hp_iload_n C dX6_remove_43 rfl ?_
  refine hp_callV (ci := 6) C ml_X6_103 im_X6_goes se_X6_goes rfl (by decide) (mc_goes2 (d := d - 1) (f := a_fu a n) sh R_32 I.1 I.2.1 hn h0 h3 (by have := I.1.r2 hn; show (9 : Int) ≤ ((9 - a_nd a 2 n).toNat : Nat) + a_nd a 2 n; omega) hv (by omega)) (by omega) dX6_remove_44 (R_32.o sh) rfl rfl (by simp [Value.category]) (fun v_44 h_44 hp => ?_) (fun _ _ hf => hf.elim)
  obtain ⟨rfl, R_44⟩ := hp
  refine hp_iret C hr rfl dX6_remove_47 ?_
  exact ⟨rfl, R_44⟩
