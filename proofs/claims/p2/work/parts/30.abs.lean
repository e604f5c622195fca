/-! ===== WHAT BOTH SIDES MEAN: made, TIME, restarts, gave up; the nodes' numbers by their place (0 keeps, 1 parent, 2 depth, 3 state, 4 kind, 5 strategy, 6 bound, 7 span, 8 patience, 9 start, 10 stop, 11 fails); rows; the restarts' times; the events ===== -/
abbrev aS : Type := Nat × Nat × Nat × Nat × (Nat → Nat → Int) × (Nat → List Nat) × (Nat → List Nat) × List (Nat × Nat × Nat × Nat)
abbrev a_mk (a : aS) : Nat := a.1
abbrev a_tm (a : aS) : Nat := a.2.1
abbrev a_rs (a : aS) : Nat := a.2.2.1
abbrev a_gv (a : aS) : Nat := a.2.2.2.1
abbrev a_nd (a : aS) : Nat → Nat → Int := a.2.2.2.2.1
abbrev a_rw (a : aS) : Nat → List Nat := a.2.2.2.2.2.1
abbrev a_rt (a : aS) : Nat → List Nat := a.2.2.2.2.2.2.1
abbrev a_ev (a : aS) : List (Nat × Nat × Nat × Nat) := a.2.2.2.2.2.2.2
/-- number f of node n := x -/
def a_sn (a : aS) (f n : Nat) (x : Int) : aS := (a.1, a.2.1, a.2.2.1, a.2.2.2.1, va_up (a_nd a) f (va_up (a_nd a f) n x), a.2.2.2.2.2)
/-- TIME := t -/
def a_st (a : aS) (t : Nat) : aS := (a.1, t, a.2.2)
/-- an event is told -/
def a_no (a : aS) (w n r : Nat) : aS := (a.1, a.2.1, a.2.2.1, a.2.2.2.1, a.2.2.2.2.1, a.2.2.2.2.2.1, a.2.2.2.2.2.2.1, a_ev a ++ [(w, n, a_tm a, r)])
def a_sr (a : aS) (n : Nat) (l : List Nat) : aS := (a.1, a.2.1, a.2.2.1, a.2.2.2.1, a.2.2.2.2.1, va_up (a_rw a) n l, a.2.2.2.2.2.2)
def a_srt (a : aS) (n : Nat) (l : List Nat) : aS := (a.1, a.2.1, a.2.2.1, a.2.2.2.1, a.2.2.2.2.1, a.2.2.2.2.2.1, va_up (a_rt a) n l, a.2.2.2.2.2.2.2)
abbrev a_up (a : aS) (n : Nat) : Prop := a_nd a 3 n = 1
/-- does a worker that is stopped get killed for it -/
def a_dies (a : aS) (n : Nat) : Bool := decide (a_nd a 8 n = 0) || (decide (0 < a_nd a 8 n) && decide (a_nd a 8 n < a_nd a 10 n))
/-- how long its stopping takes -/
def a_long (a : aS) (n : Nat) : Nat := (if a_nd a 8 n < 0 ∨ a_nd a 10 n < a_nd a 8 n then a_nd a 10 n else a_nd a 8 n).toNat
/-- node n's own end of ceasing: k: killed -/
def a_end (k : Bool) (n : Nat) (a : aS) : aS :=
  if a_nd a 0 n = 0 ∧ k = false then a_no (a_sn (a_st a (a_tm a + a_long a n)) 3 n 0) (if a_dies a n then 4 else 3) n 0
  else a_no (a_sn a 3 n 0) (if k then 4 else 3) n 0
/-- the row's nodes that are up cease, in the list's order (f: ceasing of one) -/
def a_cR (f : Nat → aS → Nat × aS) : List Nat → aS → Nat × aS
  | [], a => (0, a)
  | c :: r, a => if a_nd a 3 c = 1 then (let z := f c a; let q := a_cR f r z.2; (z.1 + q.1, q.2)) else a_cR f r a
/-- node n ceases, its children that are up ahead of it, the last one first -/
def a_ce (k : Bool) : Nat → Nat → aS → Nat × aS
  | 0, _, a => (0, a)
  | d + 1, n, a => if a_nd a 0 n = 0 then (1, a_end k n a) else (let z := a_cR (a_ce k d) (a_rw a n).reverse a; (z.1 + 1, a_end k n z.2))
/-- the row is started, in order; whether all are up -/
def a_sR (f : Nat → aS → Bool × aS) : List Nat → aS → Bool × aS
  | [], a => (true, a)
  | c :: r, a => let z := f c a; if z.1 then a_sR f r z.2 else (false, z.2)
/-- node n is started -/
def a_go : Nat → Nat → aS → Bool × aS
  | 0, _, a => (false, a)
  | d + 1, n, a =>
    if a_nd a 0 n = 0 then
      (let b := a_st a (a_tm a + (a_nd a 9 n).toNat)
       if 0 < a_nd a 11 n then (false, a_no (a_sn (a_sn b 11 n (a_nd a 11 n - 1)) 3 n 0) 2 n 0) else (true, a_no (a_sn b 3 n 1) 1 n 0))
    else
      (let z := a_sR (a_go d) (a_rw a n) (a_srt a n [])
       if z.1 then (true, a_no (a_sn z.2 3 n 1) 1 n 0)
       else (let q := a_cR (a_ce false d) (a_rw a n).reverse z.2; (false, a_no (a_sn q.2 3 n 0) 2 n 0)))
/-! ceasing and starting change no row -/
theorem a_end_rw (k : Bool) (n : Nat) (a : aS) : a_rw (a_end k n a) = a_rw a ∧ a_mk (a_end k n a) = a_mk a ∧ a_tm a ≤ a_tm (a_end k n a) ∧ (a_ev (a_end k n a)).length = (a_ev a).length + 1 := by
  unfold a_end
  split <;> refine ⟨rfl, rfl, ?_, ?_⟩
  · exact Nat.le_add_right _ _
  · show (a_ev a ++ [_]).length = _
    rw [List.length_append]
    rfl
  · exact Nat.le_refl _
  · show (a_ev a ++ [_]).length = _
    rw [List.length_append]
    rfl
theorem a_cR_keep {f : Nat → aS → Nat × aS} (hf : ∀ c a, a_rw (f c a).2 = a_rw a ∧ a_mk (f c a).2 = a_mk a ∧ a_tm a ≤ a_tm (f c a).2 ∧ (a_ev a).length ≤ (a_ev (f c a).2).length) : ∀ (l : List Nat) (a : aS), a_rw (a_cR f l a).2 = a_rw a ∧ a_mk (a_cR f l a).2 = a_mk a ∧ a_tm a ≤ a_tm (a_cR f l a).2 ∧ (a_ev a).length ≤ (a_ev (a_cR f l a).2).length
  | [], a => ⟨rfl, rfl, Nat.le_refl _, Nat.le_refl _⟩
  | c :: r, a => by
    unfold a_cR
    split
    · obtain ⟨h1, h2, h3, h4⟩ := hf c a
      obtain ⟨g1, g2, g3, g4⟩ := a_cR_keep hf r (f c a).2
      exact ⟨g1.trans h1, g2.trans h2, Nat.le_trans h3 g3, Nat.le_trans h4 g4⟩
    · exact a_cR_keep hf r a
theorem a_ce_keep (k : Bool) : ∀ (d n : Nat) (a : aS), a_rw (a_ce k d n a).2 = a_rw a ∧ a_mk (a_ce k d n a).2 = a_mk a ∧ a_tm a ≤ a_tm (a_ce k d n a).2 ∧ (a_ev a).length ≤ (a_ev (a_ce k d n a).2).length
  | 0, _, _ => ⟨rfl, rfl, Nat.le_refl _, Nat.le_refl _⟩
  | d + 1, n, a => by
    unfold a_ce
    split
    · obtain ⟨h1, h2, h3, h4⟩ := a_end_rw k n a
      exact ⟨h1, h2, h3, by rw [h4]; exact Nat.le_succ _⟩
    · obtain ⟨h1, h2, h3, h4⟩ := a_cR_keep (f := a_ce k d) (fun c b => a_ce_keep k d c b) (a_rw a n).reverse a
      obtain ⟨g1, g2, g3, g4⟩ := a_end_rw k n (a_cR (a_ce k d) (a_rw a n).reverse a).2
      exact ⟨g1.trans h1, g2.trans h2, Nat.le_trans h3 g3, by rw [g4]; omega⟩
/-! ===== the reference holds it ===== -/
/-- a small number -/
abbrev a_sm (x : Int) : Prop := -2 ≤ x ∧ x < 1048576
/-- the reference's state s is a (way and at apart; the restarts' times by their own relation) -/
def ra_R (s : moS) (a : aS) : Prop :=
  (s.1 1 = nI (a_mk a) ∧ 1 ≤ a_mk a ∧ a_mk a ≤ 80) ∧ s.1 18 = nI (a_tm a) ∧ s.1 19 = nI (a_ev a).length ∧ s.1 21 = nI (a_rs a) ∧ s.1 22 = nI (a_gv a) ∧
  (∀ f n, f < 12 → n < 80 → s.2 (f + 2) n = Int32.ofInt (a_nd a f n) ∧ a_sm (a_nd a f n)) ∧
  (∀ n, n < 80 → s.2 15 n = nI (a_rw a n).length ∧ (a_rw a n).length ≤ 80 ∧ ∀ i, i < (a_rw a n).length → s.2 14 (80 * n + i) = nI ((a_rw a n).getD i 0) ∧ (a_rw a n).getD i 0 < 80) ∧
  (∀ i, i < 600 → ∀ q, (a_ev a)[i]? = some q → s.2 20 (4 * i) = nI q.1 ∧ s.2 20 (4 * i + 1) = nI q.2.1 ∧ s.2 20 (4 * i + 2) = nI q.2.2.1 ∧ s.2 20 (4 * i + 3) = nI q.2.2.2) ∧
  (∃ pr : Nat → List Nat, ∀ n, n < 80 → s.2 17 n = nI (pr n).length ∧ (pr n).length ≤ 51 ∧ (∀ i, i < (pr n).length → s.2 16 (52 * n + i) = nI ((pr n).getD i 0)) ∧
    ∃ dr : List Nat, a_rt a n = dr ++ pr n ∧ (a_nd a 3 n = 1 → ∀ x ∈ dr, (x : Int) < (a_tm a : Int) - a_nd a 7 n) ∧ (∀ x ∈ a_rt a n, x ≤ a_tm a))
theorem ra_R.ok {s : moS} {a : aS} (x : ra_R s a) : mo_ok s := ⟨a_mk a, x.1⟩
theorem ra_R.nd {s : moS} {a : aS} (x : ra_R s a) {f n : Nat} (hf : f < 12) (hn : n < 80) : s.2 (f + 2) n = Int32.ofInt (a_nd a f n) := (x.2.2.2.2.2.1 f n hf hn).1
theorem ra_R.sm {s : moS} {a : aS} (x : ra_R s a) {f n : Nat} (hf : f < 12) (hn : n < 80) : a_sm (a_nd a f n) := (x.2.2.2.2.2.1 f n hf hn).2
theorem ra_R.rl {s : moS} {a : aS} (x : ra_R s a) {n : Nat} (hn : n < 80) : s.2 15 n = nI (a_rw a n).length ∧ (a_rw a n).length ≤ 80 := ⟨(x.2.2.2.2.2.2.1 n hn).1, (x.2.2.2.2.2.2.1 n hn).2.1⟩
theorem ra_R.re {s : moS} {a : aS} (x : ra_R s a) {n i : Nat} (hn : n < 80) (hi : i < (a_rw a n).length) : s.2 14 (80 * n + i) = nI ((a_rw a n).getD i 0) ∧ (a_rw a n).getD i 0 < 80 := (x.2.2.2.2.2.2.1 n hn).2.2 i hi
theorem a_ofI {x : Int} (h : a_sm x) : (Int32.ofInt x).toInt = x := by
  rw [Int32.toInt_ofInt]
  have hz : Int32.size = 4294967296 := rfl
  rw [hz]
  exact Int.bmod_eq_of_le (by omega) (by omega)
theorem a_ofI_eq {x y : Int} (hx : a_sm x) (hy : a_sm y) : Int32.ofInt x = Int32.ofInt y ↔ x = y := by
  constructor
  · intro e
    have := congrArg Int32.toInt e
    rwa [a_ofI hx, a_ofI hy] at this
  · intro e; rw [e]
/-- a number of a node is set (no state, no span) -/
theorem ra_R.sn {s : moS} {a : aS} (x : ra_R s a) {f n : Nat} {v : Int} (hf : f < 12) (h3 : f ≠ 3) (h7 : f ≠ 7) (hn : n < 80) (hv : a_sm v) : ra_R (mo_up s (f + 2) n (Int32.ofInt v)) (a_sn a f n v) := by
  obtain ⟨x1, x2, x3, x4, x5, x6, x7, x8, pr, x9⟩ := x
  have ne : ∀ k, k ≠ f + 2 → (mo_up s (f + 2) n (Int32.ofInt v)).2 k = s.2 k := fun k hk => va_up_ne _ _ hk
  have nn : ∀ g, g ≠ f → a_nd (a_sn a f n v) g = a_nd a g := fun g hg => va_up_ne _ _ hg
  refine ⟨x1, x2, x3, x4, x5, fun g q hg hq => ?_, fun q hq => ?_, fun i hi q hq => ?_, pr, fun q hq => ?_⟩
  · show va_up s.2 (f + 2) (va_up (s.2 (f + 2)) n (Int32.ofInt v)) (g + 2) q = Int32.ofInt (va_up (a_nd a) f (va_up (a_nd a f) n v) g q) ∧ a_sm (va_up (a_nd a) f (va_up (a_nd a f) n v) g q)
    by_cases e : g = f
    · subst e
      rw [va_up_self, va_up_self]
      by_cases e2 : q = n
      · subst e2
        rw [va_up_self, va_up_self]
        exact ⟨rfl, hv⟩
      · rw [va_up_ne _ _ e2, va_up_ne _ _ e2]
        exact x6 g q hg hq
    · rw [va_up_ne _ _ e, va_up_ne _ _ (show g + 2 ≠ f + 2 by omega)]
      exact x6 g q hg hq
  · rw [ne 15 (by omega), ne 14 (by omega)]
    exact x7 q hq
  · rw [ne 20 (by omega)]
    exact x8 i hi q hq
  · rw [ne 17 (by omega), ne 16 (by omega), nn 3 (Ne.symm h3), nn 7 (Ne.symm h7)]
    exact x9 q hq
/-- the state of a node is set -/
theorem ra_R.s3 {s : moS} {a : aS} (x : ra_R s a) {n : Nat} {v : Int} (hn : n < 80) (hv : a_sm v) (ht : v = 1 → a_rt a n = []) : ra_R (mo_up s 5 n (Int32.ofInt v)) (a_sn a 3 n v) := by
  obtain ⟨x1, x2, x3, x4, x5, x6, x7, x8, pr, x9⟩ := x
  have ne : ∀ k, k ≠ 5 → (mo_up s 5 n (Int32.ofInt v)).2 k = s.2 k := fun k hk => va_up_ne _ _ hk
  have nn : ∀ g, g ≠ 3 → a_nd (a_sn a 3 n v) g = a_nd a g := fun g hg => va_up_ne _ _ hg
  refine ⟨x1, x2, x3, x4, x5, fun g q hg hq => ?_, fun q hq => ?_, fun i hi q hq => ?_, pr, fun q hq => ?_⟩
  · show va_up s.2 5 (va_up (s.2 5) n (Int32.ofInt v)) (g + 2) q = Int32.ofInt (va_up (a_nd a) 3 (va_up (a_nd a 3) n v) g q) ∧ a_sm (va_up (a_nd a) 3 (va_up (a_nd a 3) n v) g q)
    by_cases e : g = 3
    · subst e
      rw [va_up_self, va_up_self]
      by_cases e2 : q = n
      · subst e2
        rw [va_up_self, va_up_self]
        exact ⟨rfl, hv⟩
      · rw [va_up_ne _ _ e2, va_up_ne _ _ e2]
        exact x6 3 q hg hq
    · rw [va_up_ne _ _ e, va_up_ne _ _ (show g + 2 ≠ 5 by omega)]
      exact x6 g q hg hq
  · rw [ne 15 (by omega), ne 14 (by omega)]
    exact x7 q hq
  · rw [ne 20 (by omega)]
    exact x8 i hi q hq
  · rw [ne 17 (by omega), ne 16 (by omega), nn 7 (by omega)]
    obtain ⟨y1, y2, y3, dr, y4, y5, y6⟩ := x9 q hq
    refine ⟨y1, y2, y3, dr, y4, ?_, y6⟩
    show va_up (a_nd a) 3 (va_up (a_nd a 3) n v) 3 q = 1 → _
    rw [va_up_self]
    by_cases e2 : q = n
    · subst e2
      rw [va_up_self]
      intro ev z hz
      have h0 := ht ev
      have : z ∈ a_rt a q := by rw [y4]; exact List.mem_append_left _ hz
      rw [h0] at this
      cases this
    · rw [va_up_ne _ _ e2]
      exact y5
/-- TIME goes on -/
theorem ra_R.st {s : moS} {a : aS} (x : ra_R s a) {t : Nat} (ht : a_tm a ≤ t) : ra_R (mo_pt s 18 (nI t)) (a_st a t) := by
  obtain ⟨x1, x2, x3, x4, x5, x6, x7, x8, pr, x9⟩ := x
  refine ⟨x1, (show va_up s.1 18 (nI t) 18 = nI t from va_up_self _ _ _), x3, x4, x5, x6, x7, x8, pr, fun q hq => ?_⟩
  obtain ⟨y1, y2, y3, dr, y4, y5, y6⟩ := x9 q hq
  refine ⟨y1, y2, y3, dr, y4, fun h z hz => ?_, fun z hz => Nat.le_trans (y6 z hz) ht⟩
  have := y5 h z hz
  show (z : Int) < (t : Int) - a_nd a 7 q
  omega
/-- an event is told -/
theorem ra_R.no {s : moS} {a : aS} (x : ra_R s a) {w n r : Nat} (hl : (a_ev a).length < 2 ^ 30) : ra_R (mo_note s (nI w) (nI n) (nI r)) (a_no a w n r) := by
  obtain ⟨x1, x2, x3, x4, x5, x6, x7, x8, pr, x9⟩ := x
  have e600 : (600 : Int32) = nI 600 := rfl
  have el : (a_ev (a_no a w n r)).length = (a_ev a).length + 1 := by
    show (a_ev a ++ [_]).length = _
    rw [List.length_append]
    rfl
  unfold mo_note
  rw [x3, e600]
  by_cases c : 600 ≤ (a_ev a).length
  · rw [if_pos (nI_le c (by omega))]
    refine ⟨x1, x2, ?_, x4, x5, x6, x7, fun i hi q hq => x8 i hi q ?_, pr, x9⟩
    · show va_up s.1 19 (nI (a_ev a).length + 1) 19 = _
      rw [va_up_self, el, nI_1]
    · have hq' : (a_ev a ++ [(w, n, a_tm a, r)])[i]? = some q := hq
      rwa [List.getElem?_append_left (by omega)] at hq'
  · rw [if_neg (nI_ge (by omega) (by omega))]
    generalize hL : (a_ev a).length = L at *
    have e4 : (4 : Int32) = nI 4 := rfl
    have c0 : (4 * nI L).toNatClampNeg = 4 * L := by rw [e4, pk_mul, nI_clamp (by omega)]
    have c1 : (4 * nI L + 1).toNatClampNeg = 4 * L + 1 := by rw [e4, pk_mul, nI_1, nI_clamp (by omega)]
    have c2 : (4 * nI L + 2).toNatClampNeg = 4 * L + 2 := by rw [e4, pk_mul, show (2 : Int32) = nI 2 from rfl, nI_add, nI_clamp (by omega)]
    have c3 : (4 * nI L + 3).toNatClampNeg = 4 * L + 3 := by rw [e4, pk_mul, show (3 : Int32) = nI 3 from rfl, nI_add, nI_clamp (by omega)]
    rw [c0, c1, c2, c3]
    have ne : ∀ k, k ≠ 20 → (mo_pt (mo_up (mo_up (mo_up (mo_up s 20 (4 * L) (nI w)) 20 (4 * L + 1) (nI n)) 20 (4 * L + 2) (s.1 18)) 20 (4 * L + 3) (nI r)) 19 (nI L + 1)).2 k = s.2 k := fun k hk => by
      show va_up (va_up (va_up (va_up s.2 20 _) 20 _) 20 _) 20 _ k = _
      rw [va_up_ne _ _ hk, va_up_ne _ _ hk, va_up_ne _ _ hk, va_up_ne _ _ hk]
    have at20 : ∀ i, (mo_pt (mo_up (mo_up (mo_up (mo_up s 20 (4 * L) (nI w)) 20 (4 * L + 1) (nI n)) 20 (4 * L + 2) (s.1 18)) 20 (4 * L + 3) (nI r)) 19 (nI L + 1)).2 20 i = if i = 4 * L + 3 then nI r else if i = 4 * L + 2 then s.1 18 else if i = 4 * L + 1 then nI n else if i = 4 * L then nI w else s.2 20 i := fun i => by
      simp only [mo_pt, mo_up, va_up]
      rfl
    refine ⟨x1, x2, ?_, x4, x5, fun f q hf hq => ?_, fun q hq => ?_, fun i hi q hq => ?_, pr, fun q hq => ?_⟩
    · show va_up s.1 19 (nI L + 1) 19 = _
      rw [va_up_self, el, nI_1]
    · rw [ne _ (by omega)]
      exact x6 f q hf hq
    · rw [ne _ (by omega), ne _ (by omega)]
      exact x7 q hq
    · have hq' : (a_ev a ++ [(w, n, a_tm a, r)])[i]? = some q := hq
      rw [at20, at20, at20, at20]
      by_cases ci : i < L
      · rw [List.getElem?_append_left (by omega)] at hq'
        have z := x8 i hi q hq'
        refine ⟨?_, ?_, ?_, ?_⟩
        · rw [if_neg (by omega), if_neg (by omega), if_neg (by omega), if_neg (by omega)]; exact z.1
        · rw [if_neg (by omega), if_neg (by omega), if_neg (by omega), if_neg (by omega)]; exact z.2.1
        · rw [if_neg (by omega), if_neg (by omega), if_neg (by omega), if_neg (by omega)]; exact z.2.2.1
        · rw [if_neg (by omega), if_neg (by omega), if_neg (by omega), if_neg (by omega)]; exact z.2.2.2
      · have hle : i < (a_ev a ++ [(w, n, a_tm a, r)]).length := (List.getElem?_eq_some_iff.mp hq').1
        rw [List.length_append, hL] at hle
        have ei : i = L := by simp at hle; omega
        subst ei
        rw [List.getElem?_append_right (by omega), hL, Nat.sub_self] at hq'
        cases hq'
        refine ⟨?_, ?_, ?_, ?_⟩
        · rw [if_neg (by omega), if_neg (by omega), if_neg (by omega), if_pos rfl]
        · rw [if_neg (by omega), if_neg (by omega), if_pos rfl]
        · rw [if_neg (by omega), if_pos rfl]; exact x2
        · rw [if_pos rfl]
    · rw [ne _ (by omega), ne _ (by omega)]
      exact x9 q hq
/-- way and at are the loops' own -/
theorem ra_R.own {s : moS} {a : aS} (x : ra_R s a) {k i : Nat} {v : Int32} (hk : k = 23 ∨ k = 24) : ra_R (mo_up s k i v) a := by
  obtain ⟨x1, x2, x3, x4, x5, x6, x7, x8, pr, x9⟩ := x
  have ne : ∀ j, j < 21 → (mo_up s k i v).2 j = s.2 j := fun j hj => va_up_ne _ _ (by omega)
  refine ⟨x1, x2, x3, x4, x5, fun f q hf hq => ?_, fun q hq => ?_, fun j hj q hq => ?_, pr, fun q hq => ?_⟩
  · rw [ne _ (by omega)]; exact x6 f q hf hq
  · rw [ne _ (by omega), ne _ (by omega)]; exact x7 q hq
  · rw [ne _ (by omega)]; exact x8 j hj q hq
  · rw [ne _ (by omega), ne _ (by omega)]; exact x9 q hq
theorem ra_R.cod {s : moS} {a : aS} (x : ra_R s a) {v : Int32} : ra_R (mo_pt s 0 v) a := x
