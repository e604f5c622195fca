/-! ===== the potential of starting ===== -/
def a_pw (f : Nat) (ok : Prop) (a b : aS) : Prop := (ok → a_u a ≤ a_u b ∧ a_w b ≤ a_w a + 220 * (a_u b - a_u a)) ∧ (¬ ok → a_w b ≤ a_w a + 220 * (80 - a_u a) + 10 * f + 110)
theorem a_gk.g {a b : aS} (k : a_gk a b) : a_ci b 2 80 = a_ci a 2 80 := a_ci_eq k.2.1 80
theorem a_sF_pw {f n : Nat} {d : Int} {E : Nat → Prop} (hE : E n) (ih : ∀ (c : Nat) (a : aS), a_T a → a_R a → c < a_mk a → ¬ a_nd a 3 c = 2 → (9 : Int) ≤ f + a_nd a 2 c → ¬ a_nd a 3 c = 1 → (∀ x, E x → a_nd a 2 x < a_nd a 2 c) → (c = 0 ∨ a_nd a 3 (a_pa a c) = 1 ∨ E (a_pa a c)) → a_Us E a → a_pw f ((a_go f c a).1 = true) a (a_go f c a).2) : ∀ (l : List Nat) (b : aS), a_T b → a_R b → l.Nodup → (∀ x, E x → a_nd b 2 x < d + 1) → (∀ c ∈ l, c < a_mk b ∧ ¬ a_nd b 3 c = 2 ∧ (9 : Int) ≤ f + a_nd b 2 c ∧ ¬ a_nd b 3 c = 1 ∧ a_nd b 2 c = d + 1 ∧ (a_nd b 3 (a_pa b c) = 1 ∨ E (a_pa b c)) ∧ a_pa b c = n) → a_Us E b → a_pw f ((a_sF (a_go f) l b).1 = none) b (a_sF (a_go f) l b).2
  | [], b, _, _, _, _, _, _ => ⟨fun _ => ⟨Nat.le_refl _, Nat.le_add_right _ _⟩, fun h => absurd rfl h⟩
  | c :: r, b, Tb, Rb, hd, hx, hl, x => by
    obtain ⟨c1, c2, c3, c4, c5, c7, c6⟩ := hl c List.mem_cons_self
    have kg := a_go_gk f c b Tb Rb c1 c2
    have hp := Or.inr (a := c = 0) c7
    have y := (a_go_Us f c E b Tb Rb c1 c2 c3 c4 (fun q hq => by rw [c5]; exact hx q hq) hp x).1
    have w := ih c b Tb Rb c1 c2 c3 c4 (fun q hq => by rw [c5]; exact hx q hq) hp x
    obtain ⟨n1, n2⟩ := List.nodup_cons.mp hd
    have u8 : a_u (a_go f c b).2 ≤ 80 := a_ci_80 (a_go f c b).2 1
    by_cases g : (a_go f c b).1 = true
    · have e : a_sF (a_go f) (c :: r) b = a_sF (a_go f) r (a_go f c b).2 := by rw [a_sF, if_pos g]
      rw [e]
      obtain ⟨w1, w2⟩ := w.1 g
      have z := a_sF_pw hE ih r _ (kg.1.T Tb) (Rb.gk kg) n2 (fun q hq => by rw [kg.1.nd]; exact hx q hq) (fun q hq => by
        obtain ⟨d1, d2, d3, d4, d5, d7, d6⟩ := hl q (List.mem_cons_of_mem _ hq)
        have hqc : q ≠ c := fun e => n1 (by rw [← e]; exact hq)
        have ep : a_pa (a_go f c b).2 q = a_pa b q := by show (a_nd (a_go f c b).2 1 q).toNat = (a_nd b 1 q).toNat; rw [kg.1.nd]
        rw [kg.1.mk, kg.2.1, kg.1.nd, a_go_ds f c b Tb c1 q hqc (by omega), ep]
        exact ⟨d1, d2, d3, d4, d5, Or.inr (by rw [d6]; exact hE), d6⟩) y
      refine ⟨fun h => ?_, fun h => ?_⟩
      · obtain ⟨z1, z2⟩ := z.1 h
        exact ⟨by omega, by omega⟩
      · have := z.2 h
        omega
    · have e : a_sF (a_go f) (c :: r) b = (some c, (a_go f c b).2) := by rw [a_sF, if_neg g]
      rw [e]
      exact ⟨fun h => (by cases h), fun _ => w.2 g⟩
theorem a_go_pw : ∀ (f n : Nat) (E : Nat → Prop) (a : aS), a_T a → a_R a → n < a_mk a → ¬ a_nd a 3 n = 2 → (9 : Int) ≤ f + a_nd a 2 n → ¬ a_nd a 3 n = 1 → (∀ x, E x → a_nd a 2 x < a_nd a 2 n) → (n = 0 ∨ a_nd a 3 (a_pa a n) = 1 ∨ E (a_pa a n)) → a_Us E a → a_pw f ((a_go f n a).1 = true) a (a_go f n a).2
  | 0, n, _, a, T, _, hn, _, h9, _, _, _, _ => by
    have := T.r2 hn
    omega
  | f + 1, n, E, a, T, AR, hn, h2, h9, hu, hE, hp, x => by
    have hn8 : n < 80 := Nat.lt_of_lt_of_le hn T.1.2
    have kG := (a_go_gk (f + 1) n a T AR hn h2).g
    by_cases hw : a_nd a 0 n = 0
    · have r9 := T.r9 hn
      have e3 := a_go_w3 (f := f) hw
      have et : a_tm (a_go (f + 1) n a).2 ≤ a_tm a + 100 ∧ (a_ev (a_go (f + 1) n a).2).length ≤ (a_ev a).length + 1 := by
        rw [a_go_w hw]
        split
        · refine ⟨?_, ?_⟩
          · show a_tm a + (a_nd a 9 n).toNat ≤ a_tm a + 100
            omega
          · show (a_ev a ++ [_]).length ≤ _
            rw [List.length_append]
            exact Nat.le_refl _
        · refine ⟨?_, ?_⟩
          · show a_tm a + (a_nd a 9 n).toNat ≤ a_tm a + 100
            omega
          · show (a_ev a ++ [_]).length ≤ _
            rw [List.length_append]
            exact Nat.le_refl _
      generalize a_go (f + 1) n a = B at *
      refine ⟨fun g => ?_, fun g => ?_⟩
      · have c1 := a_ci_out (a := B.2) (b := a) (s := 1) (n := n) (fun m h => by rw [e3]; split; rfl; exact h) (by rw [e3, if_pos rfl, if_pos g]) hu 80 hn8
        refine ⟨by unfold a_u; omega, ?_⟩
        unfold a_w a_u
        rw [kG]
        omega
      · have c1 := a_ci_mono (a := a) (b := B.2) (s := 1) (fun m h => by
          rw [e3] at h
          split at h
          · cases h
          · exact h) 80
        unfold a_w a_u
        rw [kG]
        omega
    · have k0 := a_gk.srt a n
      have T0 := k0.1.T T
      have R0 := AR.gk k0
      have rowdn : ∀ c ∈ a_rw a n, ¬ a_nd a 3 c = 1 := fun c hc hcu => by
        obtain ⟨d1, d2, d3, d4, d5⟩ := a_kid T AR.1 hn hc
        rcases x c d4 d2 hcu with q | q
        · rw [d3] at q; exact hu q
        · rw [d3] at q
          have := hE n q
          omega
      have hl : ∀ c ∈ a_rw a n, c < a_mk a ∧ ¬ a_nd a 3 c = 2 ∧ (9 : Int) ≤ f + a_nd a 2 c ∧ ¬ a_nd a 3 c = 1 ∧ a_nd a 2 c = a_nd a 2 n + 1 ∧ (a_nd a 3 (a_pa a c) = 1 ∨ (E (a_pa a c) ∨ a_pa a c = n)) ∧ a_pa a c = n := fun c hc => by
        obtain ⟨d1, d2, d3, d4, d5⟩ := a_kid T AR.1 hn hc
        exact ⟨d4, AR.2.2.2.1 n c hn hc h2, by omega, rowdn c hc, d5, Or.inr (Or.inr d3), d3⟩
      have x0 : a_Us (fun y => E y ∨ y = n) (a_srt a n []) := fun m hm hm0 hum => by
        rcases x m hm hm0 hum with q | q
        · exact Or.inl q
        · exact Or.inr (Or.inl q)
      have z := a_sF_pw (f := f) (n := n) (d := a_nd a 2 n) (E := fun y => E y ∨ y = n) (Or.inr rfl) (fun c b Tb Rb h1 h2 h3 h4 h5 h6 h7 => a_go_pw f c (fun y => E y ∨ y = n) b Tb Rb h1 h2 h3 h4 h5 h6 h7) (a_rw a n) (a_srt a n []) T0 R0 (T.nd hn) (fun y hy => by
        rcases hy with q | q
        · have := hE y q
          show a_nd a 2 y < a_nd a 2 n + 1
          omega
        · show a_nd a 2 y < a_nd a 2 n + 1
          rw [q]
          omega) hl x0
      have k1 := k0.tr (a_sF_gk (fun c b Tb Xb hc h => a_go_gk f c b Tb Xb hc h) (a_rw a n) (a_srt a n []) T0 R0 (fun c hc => ⟨(hl c hc).1, (hl c hc).2.1⟩))
      have s1 := a_sF_ds (f := f) (d := a_nd a 2 n) (a_go_ds f) (a_rw a n) (a_srt a n []) T0 (fun c hc => ⟨(hl c hc).1, (hl c hc).2.2.2.2.1⟩) n (Int.le_refl _)
      have w0 : a_w (a_srt a n []) = a_w a := by
        have e1 : a_ci (a_srt a n []) 1 80 = a_ci a 1 80 := a_ci_eq (fun _ => Iff.rfl) 80
        have e2 : a_ci (a_srt a n []) 2 80 = a_ci a 2 80 := a_ci_eq (fun _ => Iff.rfl) 80
        unfold a_w a_u
        rw [e1, e2]
        rfl
      have u0 : a_u (a_srt a n []) = a_u a := a_ci_eq (fun _ => Iff.rfl) 80
      have k1g := k1.g
      rw [a_go_kk hw] at kG ⊢
      generalize hb : a_sF (a_go f) (a_rw a n) (a_srt a n []) = B at *
      unfold a_pw at z
      rw [w0, u0] at z
      cases hs : B.1 with
      | none =>
        rw [hs] at kG
        obtain ⟨z1, z2⟩ := z.1 hs
        have e3 : ∀ m, a_nd (a_no (a_sn B.2 3 n 1) 1 n 0) 3 m = if m = n then 1 else a_nd B.2 3 m := fun m => a_nd_sn3 B.2 n m 1
        have hnb : ¬ a_nd B.2 3 n = 1 := by rw [s1]; exact hu
        have c1 := a_ci_out (a := a_no (a_sn B.2 3 n 1) 1 n 0) (b := B.2) (s := 1) (n := n) (fun m h => by rw [e3]; split; rfl; exact h) (by rw [e3, if_pos rfl]) hnb 80 hn8
        have kG' : a_ci (a_no (a_sn B.2 3 n 1) 1 n 0) 2 80 = a_ci a 2 80 := kG
        have et : a_tm (a_no (a_sn B.2 3 n 1) 1 n 0) = a_tm B.2 := rfl
        have ee : (a_ev (a_no (a_sn B.2 3 n 1) 1 n 0)).length = (a_ev B.2).length + 1 := by
          show (a_ev B.2 ++ [_]).length = _
          rw [List.length_append]
          rfl
        refine ⟨fun _ => ?_, fun h => absurd rfl h⟩
        show a_u a ≤ a_u (a_no (a_sn B.2 3 n 1) 1 n 0) ∧ a_w (a_no (a_sn B.2 3 n 1) 1 n 0) ≤ a_w a + 220 * (a_u (a_no (a_sn B.2 3 n 1) 1 n 0) - a_u a)
        unfold a_w a_u at *
        rw [kG', et, ee]
        rw [k1g] at z2
        exact ⟨by omega, by omega⟩
      | some c =>
        rw [hs] at kG
        have z2 := z.2 (by rw [hs]; exact fun h => by cases h)
        have Tb := k1.1.T T
        have h0b : a_nd B.2 2 0 = 0 := by rw [k1.1.nd]; exact AR.1
        have wc := a_cR_pw (k := false) (f := f) (a_ce_pw false f) (a_rw a n).reverse B.2 Tb h0b (fun c hc => by rw [k1.1.mk]; exact (hl c (List.mem_reverse.mp hc)).1)
        have kcg := (k1.tr (a_cR_gk (fun c b Tb hc h1 => a_ce_gk false f c b Tb hc (by omega)) (a_rw a n).reverse B.2 Tb (fun c hc => by rw [k1.1.mk]; exact (hl c (List.mem_reverse.mp hc)).1))).g
        generalize (a_cR (a_ce false f) (a_rw a n).reverse B.2).2 = e at *
        have e3 : ∀ m, a_nd (a_no (a_sn e 3 n 0) 2 n 0) 3 m = if m = n then 0 else a_nd e 3 m := fun m => a_nd_sn3 e n m 0
        have c1 := a_ci_mono (a := e) (b := a_no (a_sn e 3 n 0) 2 n 0) (s := 1) (fun m h => by
          rw [e3] at h
          split at h
          · cases h
          · exact h) 80
        have kG' : a_ci (a_no (a_sn e 3 n 0) 2 n 0) 2 80 = a_ci a 2 80 := kG
        have et : a_tm (a_no (a_sn e 3 n 0) 2 n 0) = a_tm e := rfl
        have ee : (a_ev (a_no (a_sn e 3 n 0) 2 n 0)).length = (a_ev e).length + 1 := by
          show (a_ev e ++ [_]).length = _
          rw [List.length_append]
          rfl
        refine ⟨fun h => (by cases h), fun _ => ?_⟩
        show a_w (a_no (a_sn e 3 n 0) 2 n 0) ≤ a_w a + 220 * (80 - a_u a) + 10 * (f + 1) + 110
        have we : a_w (a_no (a_sn e 3 n 0) 2 n 0) ≤ a_w e + 10 := by
          unfold a_w a_u
          rw [kG', kcg, et, ee]
          omega
        omega
