/-! ===== a child that is up has a keeper that is up ===== -/
def a_Us (E : Nat → Prop) (a : aS) : Prop := ∀ m, m < a_mk a → m ≠ 0 → a_nd a 3 m = 1 → a_nd a 3 (a_pa a m) = 1 ∨ E (a_pa a m)
/-- nothing comes up -/
def a_dn (a b : aS) : Prop := ∀ m, a_nd b 3 m = 1 → a_nd a 3 m = 1
theorem a_dn.rf (a : aS) : a_dn a a := fun _ h => h
theorem a_dn.tr {a b c : aS} (x : a_dn a b) (y : a_dn b c) : a_dn a c := fun m h => x m (y m h)
theorem a_nd_end (k : Bool) (n m : Nat) (a : aS) : a_nd (a_end k n a) 3 m = if m = n then 0 else a_nd a 3 m := by
  unfold a_end
  split
  · exact a_nd_sn3 (a_st a _) n m 0
  · exact a_nd_sn3 a n m 0
theorem a_end_dn (k : Bool) (n : Nat) (a : aS) : a_dn a (a_end k n a) := fun m h => by
  rw [a_nd_end] at h
  split at h
  · cases h
  · exact h
theorem a_cR_dnn {f : Nat → aS → Nat × aS} (hf : ∀ c a, a_dn a (f c a).2) : ∀ (l : List Nat) (a : aS), a_dn a (a_cR f l a).2
  | [], a => a_dn.rf a
  | c :: r, a => by
    unfold a_cR
    split
    · exact (hf c a).tr (a_cR_dnn hf r _)
    · exact a_cR_dnn hf r a
theorem a_ce_dn (k : Bool) : ∀ (f n : Nat) (a : aS), a_dn a (a_ce k f n a).2
  | 0, _, a => a_dn.rf a
  | f + 1, n, a => by
    unfold a_ce
    split
    · exact a_end_dn k n a
    · exact (a_cR_dnn (a_ce_dn k f) _ a).tr (a_end_dn k n _)
/-- n is put down, its row being down -/
theorem a_Us.put {E : Nat → Prop} {a b : aS} (x : a_Us E a) (AR : a_R a) {n : Nat} (h : ∀ c ∈ a_rw a n, ¬ a_nd a 3 c = 1) (hm : a_mk b = a_mk a) (h1 : a_nd b 1 = a_nd a 1) (h3 : ∀ m, a_nd b 3 m = if m = n then 0 else a_nd a 3 m) : a_Us E b := by
  intro m hmm hm0 hu
  rw [hm] at hmm
  have ep : a_pa b m = a_pa a m := by show (a_nd b 1 m).toNat = (a_nd a 1 m).toNat; rw [h1]
  rw [h3] at hu
  by_cases e : m = n
  · rw [if_pos e] at hu; cases hu
  · rw [if_neg e] at hu
    rw [ep, h3]
    rcases x m hmm hm0 hu with q | q
    · left
      rw [if_neg]
      · exact q
      · intro ep2
        have := (AR.2.2.1 m hmm hm0 (by omega)).1
        rw [ep2] at this
        exact h m this hu
    · exact Or.inr q
theorem a_nd1 {a b : aS} (k : a_kp a b) : a_nd b 1 = a_nd a 1 := k.2.2.1 1 (by decide) (by decide)
theorem a_cR_Us {k : Bool} {f : Nat} {E : Nat → Prop} (ih : ∀ (n : Nat) (a : aS), a_T a → a_R a → n < a_mk a → ¬ a_nd a 3 n = 2 → (9 : Int) ≤ f + a_nd a 2 n → a_Us E a → a_Us E (a_ce k f n a).2 ∧ a_nd (a_ce k f n a).2 3 n = 0) : ∀ (l : List Nat) (a : aS), a_T a → a_R a → (∀ c ∈ l, c < a_mk a ∧ ¬ a_nd a 3 c = 2 ∧ (9 : Int) ≤ f + a_nd a 2 c) → a_Us E a → a_Us E (a_cR (a_ce k f) l a).2 ∧ ∀ c ∈ l, ¬ a_nd (a_cR (a_ce k f) l a).2 3 c = 1
  | [], a, _, _, _, x => ⟨x, fun c hc => by cases hc⟩
  | c :: r, a, T, AR, hl, x => by
    obtain ⟨c1, c2, c3⟩ := hl c List.mem_cons_self
    by_cases h : a_nd a 3 c = 1
    · have e : (a_cR (a_ce k f) (c :: r) a).2 = (a_cR (a_ce k f) r (a_ce k f c a).2).2 := by rw [a_cR, if_pos h]
      rw [e]
      obtain ⟨y1, y2⟩ := ih c a T AR c1 c2 c3 x
      have kg := a_ce_gk k f c a T c1 c2
      obtain ⟨w1, w2⟩ := a_cR_Us ih r (a_ce k f c a).2 (kg.1.T T) (AR.gk kg) (fun y hy => by rw [kg.1.mk, kg.2.1, kg.1.nd]; exact hl y (List.mem_cons_of_mem _ hy)) y1
      refine ⟨w1, fun y hy => ?_⟩
      rcases List.mem_cons.mp hy with q | q
      · subst q
        intro hu
        have := a_cR_dnn (a_ce_dn k f) r (a_ce k f y a).2 y hu
        rw [y2] at this
        cases this
      · exact w2 y q
    · have e : (a_cR (a_ce k f) (c :: r) a).2 = (a_cR (a_ce k f) r a).2 := by rw [a_cR, if_neg h]
      rw [e]
      obtain ⟨w1, w2⟩ := a_cR_Us ih r a T AR (fun y hy => hl y (List.mem_cons_of_mem _ hy)) x
      refine ⟨w1, fun y hy => ?_⟩
      rcases List.mem_cons.mp hy with q | q
      · subst q
        exact fun hu => h (a_cR_dnn (a_ce_dn k f) r a y hu)
      · exact w2 y q
theorem a_ce_Us (k : Bool) {E : Nat → Prop} : ∀ (f n : Nat) (a : aS), a_T a → a_R a → n < a_mk a → ¬ a_nd a 3 n = 2 → (9 : Int) ≤ f + a_nd a 2 n → a_Us E a → a_Us E (a_ce k f n a).2 ∧ a_nd (a_ce k f n a).2 3 n = 0
  | 0, n, a, T, _, hn, _, h9, _ => by
    have := T.r2 hn
    omega
  | f + 1, n, a, T, AR, hn, h2, h9, x => by
    by_cases hw : a_nd a 0 n = 0
    · have e : (a_ce k (f + 1) n a).2 = a_end k n a := by rw [a_ce, if_pos hw]
      rw [e]
      refine ⟨x.put AR (fun c hc => ?_) (a_end_kp k n a).mk (a_nd1 (a_end_kp k n a)) (fun m => a_nd_end k n m a), by rw [a_nd_end, if_pos rfl]⟩
      rw [T.2.2.2.2.1 n hn hw] at hc
      cases hc
    · have e : (a_ce k (f + 1) n a).2 = a_end k n (a_cR (a_ce k f) (a_rw a n).reverse a).2 := by rw [a_ce, if_neg hw]
      rw [e]
      have hl : ∀ c ∈ (a_rw a n).reverse, c < a_mk a ∧ ¬ a_nd a 3 c = 2 ∧ (9 : Int) ≤ f + a_nd a 2 c := fun c hc => by
        have hc' := List.mem_reverse.mp hc
        obtain ⟨d1, d2, d3, d4, d5⟩ := a_kid T AR.1 hn hc'
        exact ⟨d4, AR.2.2.2.1 n c hn hc' h2, by omega⟩
      obtain ⟨w1, w2⟩ := a_cR_Us (fun c b => a_ce_Us k f c b) (a_rw a n).reverse a T AR hl x
      have kg := a_cR_gk (fun c b Tb hc h1 => a_ce_gk k f c b Tb hc (by omega)) (a_rw a n).reverse a T (fun c hc => (hl c hc).1)
      refine ⟨w1.put (AR.gk kg) (fun c hc => ?_) (a_end_kp k n _).mk (a_nd1 (a_end_kp k n _)) (fun m => a_nd_end k n m _), by rw [a_nd_end, if_pos rfl]⟩
      rw [kg.1.rw'] at hc
      exact w2 c (List.mem_reverse.mpr hc)
/-! ===== states of other nodes that are not deeper stay ===== -/
def a_ds (n : Nat) (a b : aS) : Prop := ∀ m, m ≠ n → a_nd a 2 m ≤ a_nd a 2 n → a_nd b 3 m = a_nd a 3 m
theorem a_ce_ds (k : Bool) : ∀ (f n : Nat) (a : aS), a_T a → n < a_mk a → a_ds n a (a_ce k f n a).2
  | 0, _, a, _, _ => fun _ _ _ => rfl
  | f + 1, n, a, T, hn => by
    have hR : ∀ (l : List Nat) (b : aS), a_T b → (∀ c ∈ l, c < a_mk b ∧ a_nd b 2 c = a_nd a 2 n + 1) → ∀ m, a_nd b 2 m ≤ a_nd a 2 n → a_nd (a_cR (a_ce k f) l b).2 3 m = a_nd b 3 m := by
      intro l
      induction l with
      | nil => intro b _ _ m _; rfl
      | cons c r ih =>
        intro b Tb hl m hm
        obtain ⟨c1, c2⟩ := hl c List.mem_cons_self
        by_cases h : a_nd b 3 c = 1
        · have kk := a_ce_kp k f c b
          have e : (a_cR (a_ce k f) (c :: r) b).2 = (a_cR (a_ce k f) r (a_ce k f c b).2).2 := by rw [a_cR, if_pos h]
          rw [e, ih _ (kk.T Tb) (fun y hy => by rw [kk.mk, kk.nd]; exact hl y (List.mem_cons_of_mem _ hy)) m (by rw [kk.nd]; exact hm)]
          exact a_ce_ds k f c b Tb c1 m (fun e => by rw [e] at hm; omega) (by omega)
        · have e : (a_cR (a_ce k f) (c :: r) b).2 = (a_cR (a_ce k f) r b).2 := by rw [a_cR, if_neg h]
          rw [e]
          exact ih b Tb (fun y hy => hl y (List.mem_cons_of_mem _ hy)) m hm
    intro m hmn hm
    by_cases hw : a_nd a 0 n = 0
    · have e : (a_ce k (f + 1) n a).2 = a_end k n a := by rw [a_ce, if_pos hw]
      rw [e, a_nd_end, if_neg hmn]
    · have e : (a_ce k (f + 1) n a).2 = a_end k n (a_cR (a_ce k f) (a_rw a n).reverse a).2 := by rw [a_ce, if_neg hw]
      rw [e, a_nd_end, if_neg hmn]
      exact hR _ a T (fun c hc => by
        have := T.rc hn (List.mem_reverse.mp hc)
        exact ⟨this.1, this.2.2⟩) m hm
