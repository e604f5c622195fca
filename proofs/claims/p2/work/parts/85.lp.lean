/-! ===== rounds until all are up ===== -/
theorem a_I.cn {a : aS} (x : a_I a) {p : Nat} (hp : p < a_mk a) (hk : a_nd a 0 p = 1) : a_I (a_cn p a) := by
  obtain ⟨T, AR, W, A⟩ := x
  have ne : ∀ n, n ≠ p → a_rt (a_cn p a) n = a_rt a n := fun n hn => va_up_ne _ _ hn
  refine ⟨T, ⟨AR.1, AR.2.1, AR.2.2.1, AR.2.2.2.1, fun n hn h8 => ?_⟩, fun n hn hw => ?_, a_cn_A A⟩
  · have hn' : a_mk a ≤ n := hn
    rw [ne n (by omega)]
    exact AR.2.2.2.2 n hn h8
  · have hw' : a_nd a 0 n = 0 := hw
    rw [ne n (fun e => by rw [e] at hw'; omega)]
    exact W n hn hw
theorem a_I.gv {a : aS} (x : a_I a) (t : Nat) : a_I (a_sgv a t) := x
theorem a_gu_gk {a : aS} (T : a_T a) {f p : Nat} (hp : p < a_mk a) (h3 : ¬ a_nd a 3 p = 2) : a_gk a (a_gu f p a) := by
  have k1 := (a_gk.no a 6 p 0).tr (a_cR_gk (fun c b Tb hc h1 => a_ce_gk false f c b Tb hc (by omega)) (a_rw a p).reverse (a_no a 6 p 0) T (fun c hc => (T.rc hp (List.mem_reverse.mp hc)).1))
  exact k1.tr (a_gk.sn3 _ (by rw [k1.1.mk]; exact hp) (by rw [k1.2.1]; exact h3) (by omega))
/-- the rounds end before the fuel does -/
def a_lq (f p : Nat) : Nat → Nat → aS → Prop
  | 0, _, _ => False
  | k + 1, due, a => a_nd a 6 p < (a_rec (a_cn p a) p : Int) ∨ (a_rd f p due (a_cn p a)).1 = none ∨ ∃ c, (a_rd f p due (a_cn p a)).1 = some c ∧ a_lq f p k c (a_rd f p due (a_cn p a)).2
theorem a_lp_I {f p : Nat} : ∀ (k due : Nat) (a : aS), a_I a → p < a_mk a → a_nd a 0 p = 1 → ¬ a_nd a 3 p = 2 → (8 : Int) ≤ f + a_nd a 2 p → due ∈ a_rw a p → a_I (a_lp f p k due a).2 ∧ a_mk (a_lp f p k due a).2 = a_mk a ∧ (∀ g, g ≠ 3 → g ≠ 11 → a_nd (a_lp f p k due a).2 g = a_nd a g) ∧ ¬ a_nd (a_lp f p k due a).2 3 p = 2
  | 0, due, a, x, _, _, h3, _, _ => ⟨x, rfl, fun _ _ _ => rfl, h3⟩
  | k + 1, due, a, x, hp, hk, h3, h8, hm => by
    have xc := x.cn hp hk
    unfold a_lp
    split
    · have kg := a_gu_gk (f := f) (p := p) (a := a_sgv (a_cn p a) (a_gv a + 1)) (xc.gv (a_gv a + 1)).1 hp h3
      exact ⟨(xc.gv (a_gv a + 1)).gk kg, kg.1.mk, fun g h1 h2 => kg.1.2.2.1 g h1 h2, by rw [kg.2.1]; exact h3⟩
    · obtain ⟨y1, y2⟩ := a_rd_I (f := f) xc hp h3 h8 hm
      have k2 := a_rd_k2 f p due (a_cn p a)
      split
      · exact ⟨y1, k2.mk, fun g h1 h2 => k2.2.1 g h1 h2, by rw [y2]; exact h3⟩
      · next c hc =>
        have hm2 := a_rd_mem (a := a_cn p a) hm hc
        obtain ⟨w1, w2, w3, w4⟩ := a_lp_I k c (a_rd f p due (a_cn p a)).2 y1 (by rw [k2.mk]; exact hp) (by rw [k2.nd]; exact hk) (by rw [y2]; exact h3) (by rw [k2.nd]; exact h8) hm2
        exact ⟨w1, w2.trans k2.mk, fun g h1 h2 => (w3 g h1 h2).trans (k2.2.1 g h1 h2), w4⟩
/-- the handling of an end finds keepers that are up, and ends -/
def a_hq : Nat → Nat → Nat → aS → Prop
  | 0, _, _, _ => False
  | k + 1, c, y, a => c = 0 ∨ a_nd a 4 c = 2 ∨ (a_nd a 4 c = 1 ∧ y ≤ 1) ∨ (a_nd a 3 (a_pa a c) = 1 ∧ a_lq (a_fu a c) (a_pa a c) 1000000 c a ∧ ((a_lp (a_fu a c) (a_pa a c) 1000000 c a).1 = true ∨ a_hq k (a_pa a c) 1 (a_lp (a_fu a c) (a_pa a c) 1000000 c a).2))
