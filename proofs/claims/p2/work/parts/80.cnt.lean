/-! ===== the reference: counts ===== -/
theorem k_tks {L : List Nat} {i : Nat} (h : i < L.length) : L.take (i + 1) = L.take i ++ [L.getD i 0] := by
  rw [List.take_add_one, List.getElem?_eq_getElem h, List.getD_eq_getElem?_getD, List.getElem?_eq_getElem h]
  rfl
/-- of times that ascend the last ones are left -/
theorem mo_flt_sp {P : List Nat} {g : Nat → Int32} {b : Int32} (hP : P.Pairwise (· ≤ ·)) (hg : ∀ i, i < P.length → g i = nI (P.getD i 0)) (hs : ∀ x ∈ P, x < 2 ^ 30) : ∀ i, i ≤ P.length → ∃ lo hi, P.take i = lo ++ hi ∧ (∀ x ∈ lo, (x : Int) < b.toInt) ∧ (∀ x ∈ hi, ¬ (x : Int) < b.toInt) ∧ mo_flt g b i = hi.map nI
  | 0, _ => ⟨[], [], rfl, fun x hx => (by cases hx), fun x hx => (by cases hx), rfl⟩
  | i + 1, hi => by
    obtain ⟨lo, hh, e1, e2, e3, e4⟩ := mo_flt_sp (b := b) hP hg hs i (by omega)
    have hm : P.getD i 0 ∈ P := by
      rw [List.getD_eq_getElem?_getD, List.getElem?_eq_getElem (by omega)]
      exact List.getElem_mem _
    have hx := hs _ hm
    have ht := k_tks (L := P) (i := i) (by omega)
    have hlt : (g i < b) ↔ ((P.getD i 0 : Nat) : Int) < b.toInt := by
      rw [hg i (by omega), Int32.lt_iff_toInt_lt, nI_toInt (by omega)]
    have hpw : ∀ x ∈ P.take i, x ≤ P.getD i 0 := by
      have h1 : (P.take (i + 1)).Pairwise (· ≤ ·) := hP.sublist (List.take_sublist _ _)
      rw [ht] at h1
      intro x hx
      exact (List.pairwise_append.mp h1).2.2 x hx _ (List.mem_singleton.mpr rfl)
    by_cases c : ((P.getD i 0 : Nat) : Int) < b.toInt
    · have hn : hh = [] := by
        cases hh with
        | nil => rfl
        | cons y r =>
          exfalso
          have h1 := e3 y List.mem_cons_self
          have h2 := hpw y (by rw [e1]; exact List.mem_append_right _ List.mem_cons_self)
          omega
      subst hn
      refine ⟨lo ++ [P.getD i 0], [], by rw [ht, e1, List.append_nil, List.append_nil], fun x hx => ?_, fun x hx => (by cases hx), ?_⟩
      · rcases List.mem_append.mp hx with h | h
        · exact e2 x h
        · rw [List.mem_singleton.mp h]; exact c
      · unfold mo_flt
        rw [if_pos (hlt.mpr c), e4]
        rfl
    · refine ⟨lo, hh ++ [P.getD i 0], by rw [ht, e1, List.append_assoc], e2, fun x hx => ?_, ?_⟩
      · rcases List.mem_append.mp hx with h | h
        · exact e3 x h
        · rw [List.mem_singleton.mp h]; exact c
      · unfold mo_flt
        rw [if_neg (fun z => c (hlt.mp z)), e4, List.map_append, hg i (by omega)]
        rfl
theorem k_nb_all {R : List Nat} {b : Int} (h : ∀ x ∈ R, ¬ (x : Int) < b) : ∀ j, j ≤ R.length → k_nb (fun i => R.getD i 0) b j = j
  | 0, _ => rfl
  | j + 1, hj => by
    have hm : R.getD j 0 ∈ R := by
      rw [List.getD_eq_getElem?_getD, List.getElem?_eq_getElem (by omega)]
      exact List.getElem_mem _
    show (if ((R.getD j 0 : Nat) : Int) < b then 0 else k_nb (fun i => R.getD i 0) b j + 1) = j + 1
    rw [if_neg (h _ hm), k_nb_all h j (by omega)]
/-- the keeper that was about to give up is down -/
theorem MR.clr {h H : hpT} {m : Nat} {a : aS} {z : mrZ} (R : MR h m H a z) (hx : z.2.2.2 < 80 → ¬ a_nd a 3 z.2.2.2 = 1) : MR h m H a (z.1, z.2.1, z.2.2.1, 80) := by
  obtain ⟨s, rfl, r, r1, r2, r3⟩ := R
  obtain ⟨x1, x2, x3, x4, x5, x6, x7, x8, x9⟩ := r
  refine ⟨s, rfl, ⟨x1, x2, x3, x4, x5, x6, x7, x8, fun n hn => ?_⟩, r1, r2, r3⟩
  obtain ⟨p, y1, y2, y3, y4, y5⟩ := x9 n hn
  refine ⟨p, y1, y2, fun e _ => ?_, y4, y5⟩
  by_cases c : n = z.2.2.2
  · subst c
    exact absurd e (hx hn)
  · exact y3 e c
theorem mc_cnt {l : Launch} {G : hpG} {h H : hpT} {m d : Nat} {a : aS} {z : mrZ} (sh : mo_sh G h m) (R : MR h m H a z) (T : a_T a) (A : a_A a) {p : Nat} (hp : p < a_mk a) (hu : a_nd a 3 p = 1) (hz : z.2.2.2 = 80) (htm : a_tm a < 2 ^ 30) : hp_C l G yX6_counts (.code yX6_counts cX6_counts 5 (some .boolean)) d [.ref m, .int (nI p)] H
    (fun v h' => v = some (.int (if a_nd a 6 p < (a_rec (a_cn p a) p : Int) then 1 else 0)) ∧ MR h m h' (a_cn p a) (z.1, z.2.1, z.2.2.1, if a_nd a 6 p < (a_rec (a_cn p a) p : Int) then p else 80)) (fun _ _ => False) := by
  obtain ⟨s, rfl, r, r1, r2, r3⟩ := R
  have hp8 : p < 80 := Nat.lt_of_lt_of_le hp T.1.2
  have t6 := T.r6 hp
  have t7 := T.r7 hp
  obtain ⟨x1, x2, x3, x4, x5, x6, x7, x8, x9⟩ := r
  obtain ⟨P, y1, y2, y3, y4, dr, y5, y6⟩ := x9 p hp8
  have y6 := y6 hu
  have hl50 : P.length ≤ 50 := y3 hu (by omega)
  obtain ⟨A1, A2⟩ := A p hp
  have hPw : P.Pairwise (· ≤ ·) := by
    rw [y5] at A1
    exact (List.pairwise_append.mp A1).2.1
  have hPs : ∀ x ∈ P, x < 2 ^ 30 := fun x hx => by
    have := A2 x (by rw [y5]; exact List.mem_append_right _ hx)
    omega
  have e9 : s.2 9 p = Int32.ofInt (a_nd a 7 p) := (x6 7 p (by omega) hp8).1
  have e8 : s.2 8 p = Int32.ofInt (a_nd a 6 p) := (x6 6 p (by omega) hp8).1
  have hbI : (s.1 18 - s.2 9 p).toInt = (a_tm a : Int) - a_nd a 7 p := by
    rw [x2, e9]
    exact k_ago2 htm t7
  obtain ⟨lo, hi, f1, f2, f3, f4⟩ := mo_flt_sp (g := fun j => s.2 16 (52 * p + j)) (b := s.1 18 - s.2 9 p) hPw (fun i hi => y4 i hi) hPs P.length (Nat.le_refl _)
  rw [List.take_length] at f1
  rw [hbI] at f2 f3
  have ec : mo_cnt s p P.length = (hi ++ [a_tm a]).map nI := by
    unfold mo_cnt
    rw [f4, x2, List.map_append]
    rfl
  have ecl : (mo_cnt s p P.length).length = (hi ++ [a_tm a]).length := by rw [ec, List.length_map]
  have er : a_rt (a_cn p a) p = (dr ++ lo) ++ (hi ++ [a_tm a]) := by
    show va_up (a_rt a) p (a_rt a p ++ [a_tm a]) p = _
    rw [va_up_self, y5, f1]
    simp only [List.append_assoc]
  have hdl : ∀ x ∈ dr ++ lo, (x : Int) < (a_tm a : Int) - a_nd a 7 p := fun x hx => by
    rcases List.mem_append.mp hx with h | h
    · exact y6 x h
    · exact f2 x h
  have hhi : ∀ x ∈ hi ++ [a_tm a], ¬ (x : Int) < (a_tm a : Int) - a_nd a 7 p := fun x hx => by
    rcases List.mem_append.mp hx with h | h
    · exact f3 x h
    · rw [List.mem_singleton.mp h]; omega
  have erec : a_rec (a_cn p a) p = (hi ++ [a_tm a]).length := by
    unfold a_rec
    rw [er, List.length_append]
    show k_nb (fun i => ((dr ++ lo) ++ (hi ++ [a_tm a])).getD i 0) ((a_tm a : Int) - a_nd a 7 p) _ = _
    rw [k_nb_app hdl _ (Nat.le_refl _), k_nb_all hhi _ (Nat.le_refl _)]
  have hl51 : (hi ++ [a_tm a]).length ≤ 51 := by
    have h1 : P.length = lo.length + hi.length := by rw [f1, List.length_append]
    rw [List.length_append]
    show hi.length + 1 ≤ 51
    omega
  have con := mo_counts (l := l) (d := d) sh (s := s) hp8 (show P.length ≤ 51 by omega) y1
  have hle : (nI (mo_cnt s p P.length).length ≤ s.2 8 p) ↔ ¬ a_nd a 6 p < (a_rec (a_cn p a) p : Int) := by
    rw [ecl, erec, e8, Int32.le_iff_toInt_le, nI_toInt (by omega), a_ofI (by omega)]
    omega
  refine hp_Cw con (fun v h' hv => ?_)
  obtain ⟨f, v1, v2, v3⟩ := hv
  refine ⟨?_, _, v2, ?_, ?_, ?_, ?_⟩
  · rw [v1]
    by_cases c : a_nd a 6 p < (a_rec (a_cn p a) p : Int)
    · rw [if_pos c, if_neg (fun q => hle.mp q c)]
    · rw [if_neg c, if_pos (hle.mpr c)]
  · rw [ecl]
    have ne : ∀ k, k ≠ 16 → k ≠ 17 → (mo_pt (mo_up (mo_blk s p f) 17 p (nI (hi ++ [a_tm a]).length)) 21 (s.1 21 + 1)).2 k = s.2 k := fun k h1 h2 => by
      show va_up (mo_blk s p f).2 17 _ k = _
      rw [va_up_ne _ _ h2, mo_blk_ne h1]
    have e17 : ∀ n, (mo_pt (mo_up (mo_blk s p f) 17 p (nI (hi ++ [a_tm a]).length)) 21 (s.1 21 + 1)).2 17 n = if n = p then nI (hi ++ [a_tm a]).length else s.2 17 n := fun n => by
      show va_up (mo_blk s p f).2 17 (va_up ((mo_blk s p f).2 17) p _) 17 n = _
      rw [va_up_self]
      by_cases e : n = p
      · rw [e, va_up_self, if_pos rfl]
      · rw [va_up_ne _ _ e, if_neg e, mo_blk_ne (by decide)]
    have e16 : ∀ q, (mo_pt (mo_up (mo_blk s p f) 17 p (nI (hi ++ [a_tm a]).length)) 21 (s.1 21 + 1)).2 16 q = if 52 * p ≤ q ∧ q < 52 * p + 52 then f (q - 52 * p) else s.2 16 q := fun q => by
      show va_up (mo_blk s p f).2 17 (va_up ((mo_blk s p f).2 17) p (nI (hi ++ [a_tm a]).length)) 16 q = _
      rw [va_up_ne _ _ (by decide), mo_blk_16]
    refine ⟨x1, x2, x3, ?_, x5, fun g n hg hn => ?_, fun n hn => ?_, fun i hi q hq => ?_, fun n hn => ?_⟩
    · show va_up s.1 21 (s.1 21 + 1) 21 = nI (a_rs a + 1)
      rw [va_up_self, x4, nI_1]
    · rw [ne _ (by omega) (by omega)]
      exact x6 g n hg hn
    · rw [ne _ (by decide) (by decide), ne _ (by decide) (by decide)]
      exact x7 n hn
    · rw [ne _ (by decide) (by decide)]
      exact x8 i hi q hq
    · by_cases e : n = p
      · subst e
        refine ⟨hi ++ [a_tm a], ?_, hl51, fun _ hne => ?_, fun i hi' => ?_, dr ++ lo, er, fun _ => hdl⟩
        · rw [e17, if_pos rfl]
        · by_cases c : a_nd a 6 n < (a_rec (a_cn n a) n : Int)
          · exact absurd (show n = if a_nd a 6 n < (a_rec (a_cn n a) n : Int) then n else 80 by rw [if_pos c]) hne
          · rw [erec] at c
            omega
        · rw [e16, if_pos ⟨by omega, by omega⟩, Nat.add_sub_cancel_left]
          refine v3 i _ ?_
          rw [ec, List.getElem?_map, List.getElem?_eq_getElem hi', List.getD_eq_getElem?_getD, List.getElem?_eq_getElem hi']
          rfl
      · obtain ⟨P', w1, w2, w3, w4, w5⟩ := x9 n hn
        have ert : a_rt (a_cn p a) n = a_rt a n := va_up_ne _ _ e
        refine ⟨P', ?_, w2, fun q _ => w3 q (by omega), fun i hi' => ?_, ?_⟩
        · rw [e17, if_neg e]; exact w1
        · rw [e16, if_neg (by omega)]; exact w4 i hi'
        · rw [ert]; exact w5
  · show va_up (mo_blk s p f).2 17 (va_up ((mo_blk s p f).2 17) p (nI (mo_cnt s p P.length).length)) 23 = _
    rw [va_up_ne _ _ (by decide), mo_blk_ne (by decide)]
    exact r1
  · show va_up (mo_blk s p f).2 17 (va_up ((mo_blk s p f).2 17) p (nI (mo_cnt s p P.length).length)) 24 = _
    rw [va_up_ne _ _ (by decide), mo_blk_ne (by decide)]
    exact r2
  · show va_up s.1 21 (s.1 21 + 1) 0 = _
    rw [va_up_ne _ _ (by decide)]
    exact r3
