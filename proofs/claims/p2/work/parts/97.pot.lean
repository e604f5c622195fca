/-! ===== the potential ===== -/
theorem a_ci_80 (a : aS) (s : Int) : a_ci a s 80 ≤ 80 := a_ci_le a s 80
theorem a_ci_eq {a b : aS} {s : Int} (h : ∀ m, a_nd b 3 m = s ↔ a_nd a 3 m = s) : ∀ i, a_ci b s i = a_ci a s i
  | 0 => rfl
  | i + 1 => by
    show (if a_nd b 3 i = s then a_ci b s i + 1 else a_ci b s i) = (if a_nd a 3 i = s then a_ci a s i + 1 else a_ci a s i)
    rw [a_ci_eq h i]
    by_cases c : a_nd a 3 i = s
    · rw [if_pos c, if_pos ((h i).mpr c)]
    · rw [if_neg c, if_neg (fun q => c ((h i).mp q))]
theorem a_ci_mono {a b : aS} {s : Int} (h : ∀ m, a_nd b 3 m = s → a_nd a 3 m = s) : ∀ i, a_ci b s i ≤ a_ci a s i
  | 0 => Nat.le_refl _
  | i + 1 => by
    show (if a_nd b 3 i = s then a_ci b s i + 1 else a_ci b s i) ≤ (if a_nd a 3 i = s then a_ci a s i + 1 else a_ci a s i)
    have := a_ci_mono h i
    by_cases c : a_nd b 3 i = s
    · rw [if_pos c, if_pos (h i c)]; omega
    · rw [if_neg c]
      split <;> omega
/-- one node leaves -/
theorem a_ci_out {a b : aS} {s : Int} {n : Nat} (h : ∀ m, a_nd b 3 m = s → a_nd a 3 m = s) (h1 : a_nd a 3 n = s) (h2 : ¬ a_nd b 3 n = s) : ∀ i, n < i → a_ci b s i + 1 ≤ a_ci a s i
  | 0, hi => absurd hi (Nat.not_lt_zero _)
  | i + 1, hi => by
    show (if a_nd b 3 i = s then a_ci b s i + 1 else a_ci b s i) + 1 ≤ (if a_nd a 3 i = s then a_ci a s i + 1 else a_ci a s i)
    by_cases e : n = i
    · subst e
      rw [if_neg h2, if_pos h1]
      have := a_ci_mono h n
      omega
    · have := a_ci_out h h1 h2 i (by omega)
      by_cases c : a_nd b 3 i = s
      · rw [if_pos c, if_pos (h i c)]; omega
      · rw [if_neg c]
        split <;> omega
abbrev a_u (a : aS) : Nat := a_ci a 1 80
def a_w (a : aS) : Nat := a_tm a + 10 * (a_ev a).length + 110 * a_u a + 10 * (80 - a_ci a 2 80)
theorem a_long_le {a : aS} (T : a_T a) {n : Nat} (hn : n < a_mk a) : a_long a n ≤ 100 := by
  have r8 := T.r8 hn
  have r10 := T.r10 hn
  unfold a_long
  split <;> omega
theorem a_end_w2 {k : Bool} {n : Nat} {a : aS} (T : a_T a) (hn : n < a_mk a) (hu : a_nd a 3 n = 1) : a_w (a_end k n a) ≤ a_w a := by
  have hn8 : n < 80 := Nat.lt_of_lt_of_le hn T.1.2
  have hl := a_long_le T hn
  have c1 := a_ci_out (b := a_end k n a) (s := 1) (n := n) (a_end_dn k n a) hu (by rw [a_nd_end, if_pos rfl]; decide) 80 hn8
  have c2 : a_ci (a_end k n a) 2 80 = a_ci a 2 80 := a_ci_eq (fun m => by
    rw [a_nd_end]
    by_cases e : m = n
    · rw [if_pos e, e]
      exact ⟨fun q => (by cases q), fun q => by omega⟩
    · rw [if_neg e]) 80
  have et : a_tm (a_end k n a) ≤ a_tm a + 100 ∧ (a_ev (a_end k n a)).length ≤ (a_ev a).length + 1 := by
    unfold a_end
    split
    · refine ⟨?_, ?_⟩
      · show a_tm a + a_long a n ≤ a_tm a + 100
        omega
      · show (a_ev a ++ [_]).length ≤ _
        rw [List.length_append]
        exact Nat.le_refl _
    · refine ⟨Nat.le_add_right _ _, ?_⟩
      show (a_ev a ++ [_]).length ≤ _
      rw [List.length_append]
      exact Nat.le_refl _
  unfold a_w a_u
  rw [c2]
  omega
theorem a_cR_pw {k : Bool} {f : Nat} (ih : ∀ (n : Nat) (a : aS), a_T a → a_nd a 2 0 = 0 → n < a_mk a → a_nd a 3 n = 1 → a_w (a_ce k f n a).2 ≤ a_w a) : ∀ (l : List Nat) (a : aS), a_T a → a_nd a 2 0 = 0 → (∀ c ∈ l, c < a_mk a) → a_w (a_cR (a_ce k f) l a).2 ≤ a_w a
  | [], _, _, _, _ => Nat.le_refl _
  | c :: r, a, T, h0, hl => by
    by_cases h : a_nd a 3 c = 1
    · have e : (a_cR (a_ce k f) (c :: r) a).2 = (a_cR (a_ce k f) r (a_ce k f c a).2).2 := by rw [a_cR, if_pos h]
      rw [e]
      have kk := a_ce_kp k f c a
      exact Nat.le_trans (a_cR_pw ih r _ (kk.T T) (by rw [kk.nd]; exact h0) (fun q hq => by rw [kk.mk]; exact hl q (List.mem_cons_of_mem _ hq))) (ih c a T h0 (hl c List.mem_cons_self) h)
    · have e : (a_cR (a_ce k f) (c :: r) a).2 = (a_cR (a_ce k f) r a).2 := by rw [a_cR, if_neg h]
      rw [e]
      exact a_cR_pw ih r a T h0 (fun q hq => hl q (List.mem_cons_of_mem _ hq))
theorem a_ce_pw (k : Bool) : ∀ (f n : Nat) (a : aS), a_T a → a_nd a 2 0 = 0 → n < a_mk a → a_nd a 3 n = 1 → a_w (a_ce k f n a).2 ≤ a_w a
  | 0, _, _, _, _, _, _ => Nat.le_refl _
  | f + 1, n, a, T, h0, hn, hu => by
    by_cases hw : a_nd a 0 n = 0
    · have e : (a_ce k (f + 1) n a).2 = a_end k n a := by rw [a_ce, if_pos hw]
      rw [e]
      exact a_end_w2 T hn hu
    · have e : (a_ce k (f + 1) n a).2 = a_end k n (a_cR (a_ce k f) (a_rw a n).reverse a).2 := by rw [a_ce, if_neg hw]
      rw [e]
      have kk := a_cR_kp (a_ce_kp k f) (a_rw a n).reverse a
      have hl : ∀ c ∈ (a_rw a n).reverse, c < a_mk a := fun c hc => (T.rc hn (List.mem_reverse.mp hc)).1
      have lo := a_cR_lo (q := n + 1) (a_ce_kp k f) (fun c b Tb hb hc hq => (a_ce_lo k f c b Tb hb hc).le hq) (a_rw a n).reverse a T h0 (fun c hc => ⟨hl c hc, (a_kid T h0 hn (List.mem_reverse.mp hc)).1⟩)
      exact Nat.le_trans (a_end_w2 (kk.T T) (by rw [kk.mk]; exact hn) (by rw [lo n (by omega)]; exact hu)) (a_cR_pw (a_ce_pw k f) _ a T h0 hl)
