/-! ===== restarts, and the handling of an end ===== -/
def a_ix (c : Nat) : List Nat → Nat
  | [] => 0
  | x :: r => if x = c then 0 else a_ix c r + 1
theorem a_ix_ok {c : Nat} : ∀ {L : List Nat}, c ∈ L → a_ix c L < L.length ∧ L.getD (a_ix c L) 0 = c ∧ ∀ j, j < a_ix c L → ¬ L.getD j 0 = c
  | [], h => by cases h
  | x :: r, h => by
    unfold a_ix
    by_cases e : x = c
    · rw [if_pos e]
      exact ⟨Nat.succ_pos _, e, fun j hj => absurd hj (Nat.not_lt_zero _)⟩
    · rw [if_neg e]
      have hm : c ∈ r := by
        rcases List.mem_cons.mp h with h | h
        · exact absurd h.symm e
        · exact h
      obtain ⟨h1, h2, h3⟩ := a_ix_ok hm
      refine ⟨Nat.succ_lt_succ h1, h2, fun j hj => ?_⟩
      cases j with
      | zero => exact e
      | succ j => exact h3 j (by omega)
/-- one more restart of keeper p is counted -/
def a_cn (p : Nat) (a : aS) : aS := a_srt (a_srs a (a_rs a + 1)) p (a_rt a p ++ [a_tm a])
/-- how many lie within its t -/
def a_rec (a : aS) (p : Nat) : Nat := k_nb (fun i => (a_rt a p).getD i 0) ((a_tm a : Int) - a_nd a 7 p) (a_rt a p).length
/-- one round of starting again: the child that failed -/
def a_rd (f p due : Nat) (a : aS) : Option Nat × aS :=
  if a_nd a 5 p = 0 then (if (a_go f due a).1 = true then (none, (a_go f due a).2) else (some due, (a_go f due a).2))
  else a_sF (a_go f) ((a_rw (a_rF f p (if a_nd a 5 p = 1 then 0 else a_ix due (a_rw a p)) (a_rw a p).length a) p).drop (if a_nd a 5 p = 1 then 0 else a_ix due (a_rw a p))) (a_rF f p (if a_nd a 5 p = 1 then 0 else a_ix due (a_rw a p)) (a_rw a p).length a)
/-- rounds until all are up, or the keeper gives up -/
def a_lp (f p : Nat) : Nat → Nat → aS → Bool × aS
  | 0, _, a => (true, a)
  | k + 1, due, a =>
    if a_nd a 6 p < (a_rec (a_cn p a) p : Int) then (false, a_gu f p (a_sgv (a_cn p a) (a_gv a + 1)))
    else (match (a_rd f p due (a_cn p a)).1 with
      | none => (true, (a_rd f p due (a_cn p a)).2)
      | some c => a_lp f p k c (a_rd f p due (a_cn p a)).2)
/-- time, events and restarts go on -/
def a_le (a b : aS) : Prop := a_tm a ≤ a_tm b ∧ (a_ev a).length ≤ (a_ev b).length ∧ a_rs a ≤ a_rs b
theorem a_le.tr {a b c : aS} (x : a_le a b) (y : a_le b c) : a_le a c := ⟨Nat.le_trans x.1 y.1, Nat.le_trans x.2.1 y.2.1, Nat.le_trans x.2.2 y.2.2⟩
theorem a_le.rf (a : aS) : a_le a a := ⟨Nat.le_refl _, Nat.le_refl _, Nat.le_refl _⟩
theorem a_k2.le {a b : aS} (x : a_k2 a b) : a_le a b := ⟨x.tm, x.ev, Nat.le_of_eq x.rs.symm⟩
theorem a_kp.le {a b : aS} (x : a_kp a b) : a_le a b := x.k2.le
theorem a_cn_le (p : Nat) (a : aS) : a_le a (a_cn p a) := ⟨Nat.le_refl _, Nat.le_refl _, Nat.le_succ _⟩
theorem a_cn_A {p : Nat} {a : aS} (A : a_A a) : a_A (a_cn p a) := by
  intro m hm
  show (va_up (a_rt a) p (a_rt a p ++ [a_tm a]) m).Pairwise (· ≤ ·) ∧ ∀ x, x ∈ va_up (a_rt a) p (a_rt a p ++ [a_tm a]) m → x ≤ a_tm a
  have hm' : m < a_mk a := hm
  obtain ⟨h1, h2⟩ := A m hm'
  by_cases e : m = p
  · subst e
    rw [va_up_self]
    refine ⟨List.pairwise_append.mpr ⟨h1, List.pairwise_singleton _ _, fun x hx y hy => ?_⟩, fun x hx => ?_⟩
    · rw [List.mem_singleton.mp hy]; exact h2 x hx
    · rcases List.mem_append.mp hx with hx | hx
      · exact h2 x hx
      · rw [List.mem_singleton.mp hx]; exact Nat.le_refl _
  · rw [va_up_ne _ _ e]
    exact ⟨h1, h2⟩
theorem a_rd_k2 (f p due : Nat) (a : aS) : a_k2 a (a_rd f p due a).2 := by
  unfold a_rd
  split
  · split <;> exact (a_go_kp f due a).k2
  · exact (a_rF_k2 f p _ _ a).tr (a_sF_kp (a_go_kp f) _ _).k2
theorem a_sF_mem {f : Nat → aS → Bool × aS} : ∀ (l : List Nat) (a : aS) (c : Nat), (a_sF f l a).1 = some c → c ∈ l
  | [], _, _, h => by cases h
  | x :: r, a, c, h => by
    unfold a_sF at h
    split at h
    · exact List.mem_cons_of_mem _ (a_sF_mem r _ c h)
    · cases h
      exact List.mem_cons_self
theorem a_rd_mem {f p due c : Nat} {a : aS} (hd : due ∈ a_rw a p) (h : (a_rd f p due a).1 = some c) : c ∈ a_rw (a_rd f p due a).2 p := by
  unfold a_rd at h ⊢
  by_cases e : a_nd a 5 p = 0
  · rw [if_pos e] at h ⊢
    by_cases g : (a_go f due a).1 = true
    · rw [if_pos g] at h; cases h
    · rw [if_neg g] at h ⊢
      cases h
      show due ∈ a_rw (a_go f due a).2 p
      rw [(a_go_kp f due a).rw']
      exact hd
  · rw [if_neg e] at h ⊢
    have := a_sF_mem _ _ c h
    rw [(a_sF_kp (a_go_kp f) _ _).rw']
    exact List.mem_of_mem_drop this
theorem a_lp_le (f p : Nat) : ∀ (k due : Nat) (a : aS), a_le a (a_lp f p k due a).2
  | 0, _, a => a_le.rf a
  | k + 1, due, a => by
    unfold a_lp
    split
    · exact (a_cn_le p a).tr (a_gu_kp f p (a_sgv (a_cn p a) (a_gv a + 1))).le
    · have h1 := (a_cn_le p a).tr (a_rd_k2 f p due (a_cn p a)).le
      split
      · exact h1
      · exact h1.tr (a_lp_le f p k _ _)
/-- the kept times tell as much as all -/
theorem k_nb_app {dr R : List Nat} {b : Int} (h : ∀ x ∈ dr, (x : Int) < b) : ∀ j, j ≤ R.length → k_nb (fun i => (dr ++ R).getD i 0) b (dr.length + j) = k_nb (fun i => R.getD i 0) b j
  | 0, _ => by
    show k_nb _ b dr.length = 0
    cases hd : dr.length with
    | zero => rfl
    | succ q =>
      refine if_pos ?_
      have hq : q < dr.length := by omega
      show (((dr ++ R).getD q 0 : Nat) : Int) < b
      rw [List.getD_eq_getElem?_getD, List.getElem?_append_left hq, List.getElem?_eq_getElem hq]
      exact h _ (List.getElem_mem hq)
  | j + 1, hj => by
    have ih := k_nb_app (R := R) h j (by omega)
    have e : (dr ++ R).getD (dr.length + j) 0 = R.getD j 0 := by
      rw [List.getD_eq_getElem?_getD, List.getElem?_append_right (by omega), Nat.add_sub_cancel_left, ← List.getD_eq_getElem?_getD]
    show (if (((dr ++ R).getD (dr.length + j) 0 : Nat) : Int) < b then 0 else k_nb _ b (dr.length + j) + 1) = (if ((R.getD j 0 : Nat) : Int) < b then 0 else k_nb _ b j + 1)
    rw [e, ih]
theorem k_rec {G : hpG} {pr : Nat → Prop} {B : hpT} {N S : Nat} {h : hpT} {κ : kS} {a : aS} {n : Nat} (K : KR G pr B N S h κ a) (T : a_T a) (hn : n < a_mk a) (hk : a_nd a 0 n = 1) : k_nb (fun i => (κ.2.2 n).getD i 0) ((a_tm a : Int) - a_nd a 7 n) (κ.2.2 n).length = a_rec a n := by
  obtain ⟨dr, y1, y2⟩ := K.2.2.2.2.2.2 n hn hk
  have r7 := T.r7 hn
  unfold a_rec
  rw [y1, List.length_append]
  refine (k_nb_app (fun x hx => ?_) _ (Nat.le_refl _)).symm
  have := y2 x hx
  omega
theorem k_ago2 {t : Nat} {x : Int} (h : t < 2 ^ 30) (hx : 0 ≤ x ∧ x ≤ 1000) : (nI t - Int32.ofInt x).toInt = (t : Int) - x := by
  have e1 := nI_toInt (n := t) (by omega)
  rw [Int32.toInt_sub, e1, a_ofI (by omega)]
  exact Int.bmod_eq_of_le (by omega) (by omega)
/-- the room and the numbers hold up to state z -/
def a_fin (G : hpG) (N0 S0 : Nat) (z : aS) : Prop := a_tm z < 2 ^ 30 ∧ (a_ev z).length < 2 ^ 30 ∧ N0 + a_rs z ≤ hp_n0 G + hp_LC ∧ S0 + 4 * a_rs z ≤ hp_LS
theorem a_fin.le {G : hpG} {N0 S0 : Nat} {a z : aS} (x : a_fin G N0 S0 z) (l : a_le a z) : a_fin G N0 S0 a := ⟨Nat.lt_of_le_of_lt l.1 x.1, Nat.lt_of_le_of_lt l.2.1 x.2.1, by have := l.2.2; have := x.2.2.1; omega, by have := l.2.2; have := x.2.2.2; omega⟩
/-- the class holds a, and its room is counted by the restarts -/
abbrev KQ (G : hpG) (pr : Nat → Prop) (B : hpT) (N0 S0 : Nat) (h : hpT) (κ : kS) (a : aS) : Prop := KR G pr B (N0 + a_rs a) (S0 + 4 * a_rs a) h κ a
theorem KQ.of {G : hpG} {pr : Nat → Prop} {B : hpT} {N0 S0 : Nat} {h : hpT} {κ : kS} {a b : aS} (K : KR G pr B (N0 + a_rs a) (S0 + 4 * a_rs a) h κ b) (e : a_rs b = a_rs a) : KQ G pr B N0 S0 h κ b := by
  show KR G pr B (N0 + a_rs b) (S0 + 4 * a_rs b) h κ b
  rw [e]
  exact K
