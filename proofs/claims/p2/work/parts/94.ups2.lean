/-! ===== the same for starting ===== -/
theorem a_go_kk {f n : Nat} {a : aS} (hw : ¬ a_nd a 0 n = 0) : a_go (f + 1) n a = if (a_sF (a_go f) (a_rw a n) (a_srt a n [])).1.isNone = true then (true, a_no (a_sn (a_sF (a_go f) (a_rw a n) (a_srt a n [])).2 3 n 1) 1 n 0) else (false, a_no (a_sn (a_cR (a_ce false f) (a_rw a n).reverse (a_sF (a_go f) (a_rw a n) (a_srt a n [])).2).2 3 n 0) 2 n 0) := by
  have e : a_go (f + 1) n a = (if (a_sR (a_go f) (a_rw a n) (a_srt a n [])).1 = true then (true, a_no (a_sn (a_sR (a_go f) (a_rw a n) (a_srt a n [])).2 3 n 1) 1 n 0) else (false, a_no (a_sn (a_cR (a_ce false f) (a_rw a n).reverse (a_sR (a_go f) (a_rw a n) (a_srt a n [])).2).2 3 n 0) 2 n 0)) := by
    show (if a_nd a 0 n = 0 then _ else _) = _
    rw [if_neg hw]
  rw [e, a_sF_R]
theorem a_go_w3 {f n : Nat} {a : aS} (hw : a_nd a 0 n = 0) (m : Nat) : a_nd (a_go (f + 1) n a).2 3 m = if m = n then (if (a_go (f + 1) n a).1 = true then 1 else 0) else a_nd a 3 m := by
  rw [a_go_w hw]
  split
  · show a_nd (a_sn (a_sn (a_st a _) 11 n _) 3 n 0) 3 m = _
    rw [a_nd_sn3, a_nd_sne _ _ _ (by decide)]
    rfl
  · show a_nd (a_sn (a_st a _) 3 n 1) 3 m = _
    rw [a_nd_sn3]
    rfl
theorem a_cR_ds {k : Bool} {f : Nat} {d : Int} : ∀ (l : List Nat) (b : aS), a_T b → (∀ c ∈ l, c < a_mk b ∧ a_nd b 2 c = d + 1) → ∀ m, a_nd b 2 m ≤ d → a_nd (a_cR (a_ce k f) l b).2 3 m = a_nd b 3 m
  | [], _, _, _, _, _ => rfl
  | c :: r, b, Tb, hl, m, hm => by
    obtain ⟨c1, c2⟩ := hl c List.mem_cons_self
    by_cases h : a_nd b 3 c = 1
    · have kk := a_ce_kp k f c b
      have e : (a_cR (a_ce k f) (c :: r) b).2 = (a_cR (a_ce k f) r (a_ce k f c b).2).2 := by rw [a_cR, if_pos h]
      rw [e, a_cR_ds r _ (kk.T Tb) (fun y hy => by rw [kk.mk, kk.nd]; exact hl y (List.mem_cons_of_mem _ hy)) m (by rw [kk.nd]; exact hm)]
      exact a_ce_ds k f c b Tb c1 m (fun e => by rw [e] at hm; omega) (by omega)
    · have e : (a_cR (a_ce k f) (c :: r) b).2 = (a_cR (a_ce k f) r b).2 := by rw [a_cR, if_neg h]
      rw [e]
      exact a_cR_ds r b Tb (fun y hy => hl y (List.mem_cons_of_mem _ hy)) m hm
theorem a_sF_ds {f : Nat} {d : Int} (ih : ∀ (n : Nat) (a : aS), a_T a → n < a_mk a → a_ds n a (a_go f n a).2) : ∀ (l : List Nat) (b : aS), a_T b → (∀ c ∈ l, c < a_mk b ∧ a_nd b 2 c = d + 1) → ∀ m, a_nd b 2 m ≤ d → a_nd (a_sF (a_go f) l b).2 3 m = a_nd b 3 m
  | [], _, _, _, _, _ => rfl
  | c :: r, b, Tb, hl, m, hm => by
    obtain ⟨c1, c2⟩ := hl c List.mem_cons_self
    have kk := a_go_kp f c b
    have st := ih c b Tb c1 m (fun e => by rw [e] at hm; omega) (by omega)
    unfold a_sF
    split
    · rw [a_sF_ds ih r _ (kk.T Tb) (fun y hy => by rw [kk.mk, kk.nd]; exact hl y (List.mem_cons_of_mem _ hy)) m (by rw [kk.nd]; exact hm)]
      exact st
    · exact st
theorem a_go_ds : ∀ (f n : Nat) (a : aS), a_T a → n < a_mk a → a_ds n a (a_go f n a).2
  | 0, _, a, _, _ => fun _ _ _ => rfl
  | f + 1, n, a, T, hn => by
    intro m hmn hm
    by_cases hw : a_nd a 0 n = 0
    · rw [a_go_w3 hw, if_neg hmn]
    · rw [a_go_kk hw]
      have k0 := a_kp.srt a n []
      have hl : ∀ c ∈ a_rw a n, c < a_mk a ∧ a_nd a 2 c = a_nd a 2 n + 1 := fun c hc => ⟨(T.rc hn hc).1, (T.rc hn hc).2.2⟩
      have s1 := a_sF_ds (f := f) (d := a_nd a 2 n) (a_go_ds f) (a_rw a n) (a_srt a n []) (k0.T T) hl m hm
      have k1 := k0.tr (a_sF_kp (a_go_kp f) (a_rw a n) (a_srt a n []))
      split
      · show a_nd (a_sn (a_sF (a_go f) (a_rw a n) (a_srt a n [])).2 3 n 1) 3 m = _
        rw [a_nd_sn3, if_neg hmn]
        exact s1
      · show a_nd (a_sn (a_cR (a_ce false f) (a_rw a n).reverse (a_sF (a_go f) (a_rw a n) (a_srt a n [])).2).2 3 n 0) 3 m = _
        rw [a_nd_sn3, if_neg hmn, a_cR_ds (d := a_nd a 2 n) _ _ (k1.T T) (fun c hc => by rw [k1.mk, k1.nd]; exact hl c (List.mem_reverse.mp hc)) m (by rw [k1.nd]; exact hm)]
        exact s1
theorem a_sF_Us {f n : Nat} {d : Int} {E : Nat → Prop} (hE : E n) (ih : ∀ (c : Nat) (a : aS), a_T a → a_R a → c < a_mk a → ¬ a_nd a 3 c = 2 → (9 : Int) ≤ f + a_nd a 2 c → ¬ a_nd a 3 c = 1 → (∀ x, E x → a_nd a 2 x < a_nd a 2 c) → (c = 0 ∨ a_nd a 3 (a_pa a c) = 1 ∨ E (a_pa a c)) → a_Us E a → a_Us E (a_go f c a).2) : ∀ (l : List Nat) (b : aS), a_T b → a_R b → l.Nodup → (∀ x, E x → a_nd b 2 x < d + 1) → (∀ c ∈ l, c < a_mk b ∧ ¬ a_nd b 3 c = 2 ∧ (9 : Int) ≤ f + a_nd b 2 c ∧ ¬ a_nd b 3 c = 1 ∧ a_nd b 2 c = d + 1 ∧ a_pa b c = n) → a_Us E b → a_Us E (a_sF (a_go f) l b).2
  | [], _, _, _, _, _, _, x => x
  | c :: r, b, Tb, Rb, hd, hx, hl, x => by
    obtain ⟨c1, c2, c3, c4, c5, c6⟩ := hl c List.mem_cons_self
    have kg := a_go_gk f c b Tb Rb c1 c2
    have y := ih c b Tb Rb c1 c2 c3 c4 (fun q hq => by rw [c5]; exact hx q hq) (Or.inr (Or.inr (by rw [c6]; exact hE))) x
    obtain ⟨n1, n2⟩ := List.nodup_cons.mp hd
    unfold a_sF
    split
    · refine a_sF_Us hE ih r _ (kg.1.T Tb) (Rb.gk kg) n2 (fun q hq => by rw [kg.1.nd]; exact hx q hq) (fun q hq => ?_) y
      obtain ⟨d1, d2, d3, d4, d5, d6⟩ := hl q (List.mem_cons_of_mem _ hq)
      have hqc : q ≠ c := fun e => n1 (by rw [← e]; exact hq)
      have ep : a_pa (a_go f c b).2 q = a_pa b q := by show (a_nd (a_go f c b).2 1 q).toNat = (a_nd b 1 q).toNat; rw [kg.1.nd]
      rw [kg.1.mk, kg.2.1, kg.1.nd, a_go_ds f c b Tb c1 q hqc (by omega), ep]
      exact ⟨d1, d2, d3, d4, d5, d6⟩
    · exact y
theorem a_go_Us : ∀ (f n : Nat) (E : Nat → Prop) (a : aS), a_T a → a_R a → n < a_mk a → ¬ a_nd a 3 n = 2 → (9 : Int) ≤ f + a_nd a 2 n → ¬ a_nd a 3 n = 1 → (∀ x, E x → a_nd a 2 x < a_nd a 2 n) → (n = 0 ∨ a_nd a 3 (a_pa a n) = 1 ∨ E (a_pa a n)) → a_Us E a → a_Us E (a_go f n a).2 ∧ a_nd (a_go f n a).2 3 n = (if (a_go f n a).1 = true then 1 else 0)
  | 0, n, _, a, T, _, hn, _, h9, _, _, _, _ => by
    have := T.r2 hn
    omega
  | f + 1, n, E, a, T, AR, hn, h2, h9, hu, hE, hp, x => by
    have hne : n ≠ 0 → a_pa a n ≠ n ∧ a_nd a 2 (a_pa a n) ≤ a_nd a 2 n := fun h0 => by
      obtain ⟨w1, w2, w3⟩ := AR.2.2.1 n hn h0 h2
      have r1 := T.r1 hn h0
      have e : a_pa a n = (a_nd a 1 n).toNat := rfl
      have := a_kid T AR.1 (show a_pa a n < a_mk a by omega) w1
      exact ⟨by omega, by omega⟩
    by_cases hw : a_nd a 0 n = 0
    · refine ⟨fun m hm hm0 hum => ?_, by rw [a_go_w3 hw, if_pos rfl]⟩
      have kg := a_go_kp (f + 1) n a
      rw [kg.mk] at hm
      have ep : a_pa (a_go (f + 1) n a).2 m = a_pa a m := by show (a_nd (a_go (f + 1) n a).2 1 m).toNat = (a_nd a 1 m).toNat; rw [kg.nd]
      rw [a_go_w3 hw] at hum
      rw [ep]
      by_cases e : m = n
      · subst e
        rcases hp with q | q | q
        · exact absurd q hm0
        · left
          rw [a_go_w3 hw, if_neg (hne hm0).1]
          exact q
        · exact Or.inr q
      · rw [if_neg e] at hum
        rcases x m hm hm0 hum with q | q
        · left
          have hpm : a_pa a m ≠ n := fun ee => by
            have := (AR.2.2.1 m hm hm0 (by omega)).1
            rw [ee, T.2.2.2.2.1 n hn hw] at this
            cases this
          rw [a_go_w3 hw, if_neg hpm]
          exact q
        · exact Or.inr q
    · have k0 := a_gk.srt a n
      have T0 := k0.1.T T
      have R0 := AR.gk k0
      have rowdn : ∀ c ∈ a_rw a n, ¬ a_nd a 3 c = 1 := fun c hc hcu => by
        obtain ⟨d1, d2, d3, d4, d5⟩ := a_kid T AR.1 hn hc
        rcases x c d4 d2 hcu with q | q
        · rw [d3] at q; exact hu q
        · rw [d3] at q
          have := hE n q
          omega
      have hl : ∀ c ∈ a_rw a n, c < a_mk a ∧ ¬ a_nd a 3 c = 2 ∧ (9 : Int) ≤ f + a_nd a 2 c ∧ ¬ a_nd a 3 c = 1 ∧ a_nd a 2 c = a_nd a 2 n + 1 ∧ a_pa a c = n := fun c hc => by
        obtain ⟨d1, d2, d3, d4, d5⟩ := a_kid T AR.1 hn hc
        exact ⟨d4, AR.2.2.2.1 n c hn hc h2, by omega, rowdn c hc, d5, d3⟩
      have x0 : a_Us (fun y => E y ∨ y = n) (a_srt a n []) := fun m hm hm0 hum => by
        rcases x m hm hm0 hum with q | q
        · exact Or.inl q
        · exact Or.inr (Or.inl q)
      have x1 := a_sF_Us (f := f) (n := n) (d := a_nd a 2 n) (E := fun y => E y ∨ y = n) (Or.inr rfl) (fun c b Tb Rb h1 h2 h3 h4 h5 h6 h7 => (a_go_Us f c (fun y => E y ∨ y = n) b Tb Rb h1 h2 h3 h4 h5 h6 h7).1) (a_rw a n) (a_srt a n []) T0 R0 (T.nd hn) (fun y hy => by
        rcases hy with q | q
        · have := hE y q
          show a_nd a 2 y < a_nd a 2 n + 1
          omega
        · show a_nd a 2 y < a_nd a 2 n + 1
          rw [q]
          omega) hl x0
      have k1 := k0.tr (a_sF_gk (fun c b Tb Xb hc h => a_go_gk f c b Tb Xb hc h) (a_rw a n) (a_srt a n []) T0 R0 (fun c hc => ⟨(hl c hc).1, (hl c hc).2.1⟩))
      have s1 := a_sF_ds (f := f) (d := a_nd a 2 n) (a_go_ds f) (a_rw a n) (a_srt a n []) T0 (fun c hc => ⟨(hl c hc).1, (hl c hc).2.2.2.2.1⟩)
      rw [a_go_kk hw]
      generalize hb : (a_sF (a_go f) (a_rw a n) (a_srt a n [])).2 = b at *
      have epb : ∀ m, a_pa b m = a_pa a m := fun m => by show (a_nd b 1 m).toNat = (a_nd a 1 m).toNat; rw [k1.1.nd]
      split
      · have e3 : ∀ m, a_nd (a_no (a_sn b 3 n 1) 1 n 0) 3 m = if m = n then 1 else a_nd b 3 m := fun m => a_nd_sn3 b n m 1
        have epc : ∀ m, a_pa (a_no (a_sn b 3 n 1) 1 n 0) m = a_pa a m := epb
        refine ⟨fun m hm hm0 hum => ?_, by rw [e3, if_pos rfl, if_pos rfl]⟩
        have hm' : m < a_mk b := hm
        rw [e3] at hum
        show a_nd (a_no (a_sn b 3 n 1) 1 n 0) 3 (a_pa (a_no (a_sn b 3 n 1) 1 n 0) m) = 1 ∨ E (a_pa (a_no (a_sn b 3 n 1) 1 n 0) m)
        rw [epc, e3]
        by_cases e : m = n
        · subst e
          rcases hp with q | q | q
          · exact absurd q hm0
          · left
            rw [if_neg (hne hm0).1]
            exact (s1 _ (hne hm0).2).trans q
          · exact Or.inr q
        · rw [if_neg e] at hum
          rcases x1 m hm' hm0 hum with q | q | q
          · left
            rw [epb] at q
            by_cases ee : a_pa a m = n
            · rw [if_pos ee]
            · rw [if_neg ee]; exact q
          · right
            rw [epb] at q
            exact q
          · left
            rw [epb] at q
            rw [if_pos q]
      · have hl2 : ∀ c ∈ (a_rw a n).reverse, c < a_mk b ∧ ¬ a_nd b 3 c = 2 ∧ (9 : Int) ≤ f + a_nd b 2 c := fun c hc => by
          rw [k1.1.mk, k1.2.1, k1.1.nd]
          have := hl c (List.mem_reverse.mp hc)
          exact ⟨this.1, this.2.1, this.2.2.1⟩
        have Tb := k1.1.T T
        have Rb := AR.gk k1
        obtain ⟨w1, w2⟩ := a_cR_Us (k := false) (f := f) (fun c b => a_ce_Us false f c b) (a_rw a n).reverse b Tb Rb hl2 x1
        have kg := a_cR_gk (fun c b Tb hc h1 => a_ce_gk false f c b Tb hc (by omega)) (a_rw a n).reverse b Tb (fun c hc => (hl2 c hc).1)
        generalize hcc : (a_cR (a_ce false f) (a_rw a n).reverse b).2 = c at *
        have e3 : ∀ m, a_nd (a_no (a_sn c 3 n 0) 2 n 0) 3 m = if m = n then 0 else a_nd c 3 m := fun m => a_nd_sn3 c n m 0
        have Rc := Rb.gk kg
        have erw : a_rw c = a_rw a := kg.1.rw'.trans k1.1.rw'
        have dnc : ∀ q ∈ a_rw c n, ¬ a_nd c 3 q = 1 := fun q hq => w2 q (List.mem_reverse.mpr (by rw [erw] at hq; exact hq))
        have y := w1.put (b := a_no (a_sn c 3 n 0) 2 n 0) Rc dnc rfl (show a_nd (a_sn c 3 n 0) 1 = a_nd c 1 from a_nd_sne (f := 3) (g := 1) c n 0 (by decide)) e3
        refine ⟨fun m hm hm0 hum => ?_, by rw [e3, if_pos rfl]; rfl⟩
        rcases y m hm hm0 hum with q | q | q
        · exact Or.inl q
        · exact Or.inr q
        · exfalso
          rw [e3] at hum
          by_cases e : m = n
          · rw [if_pos e] at hum; cases hum
          · rw [if_neg e] at hum
            have hin := (Rc.2.2.1 m hm hm0 (by omega)).1
            have epm : a_pa c m = n := q
            rw [epm] at hin
            exact dnc m hin hum
