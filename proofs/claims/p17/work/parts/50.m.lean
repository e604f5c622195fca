/-! ===== THE CLASS IN GENERAL: where things lie (role, node), the lists' counters of changes, the restarts' times that are kept ===== -/
abbrev kS : Type := (Nat → Nat → Nat) × (Nat → Int32) × (Nat → List Nat)
/-- roles: 0 a node, 1 its list, 2 the list's elements, 3 its restarts, 4 their times; 5: the tree 0, the journal 1, its columns 2, a column 3 to 6, the nodes 7 -/
abbrev k_ad (κ : kS) : Nat → Nat → Nat := κ.1
abbrev k_mc (κ : kS) : Nat → Int32 := κ.2.1
abbrev k_rt (κ : kS) : Nat → List Nat := κ.2.2
/-- the object that has field f, for node n -/
def k_at (κ : kS) (f n : Nat) : Nat := if f < 3 then κ.1 1 n else if f < 35 then κ.1 5 1 else if f < 74 then κ.1 0 n else if f < 98 then κ.1 3 n else if f < 137 then κ.1 0 n else κ.1 5 0
def k_ok (a : aS) (f n : Nat) : Prop := (f < 3 ∧ n < a_mk a ∧ a_nd a 0 n = 1) ∨ (32 ≤ f ∧ f < 35 ∧ n = 0) ∨ (64 ≤ f ∧ f < 69 ∧ n < a_mk a) ∨ (69 ≤ f ∧ f < 74 ∧ n < a_mk a ∧ a_nd a 0 n = 1) ∨ (96 ≤ f ∧ f < 98 ∧ n < a_mk a ∧ a_nd a 0 n = 1) ∨ (133 ≤ f ∧ f < 137 ∧ n < a_mk a ∧ a_nd a 0 n = 0) ∨ (160 ≤ f ∧ f < 166 ∧ n = 0)
/-- is field f a number of the node -/
def k_isN (f : Nat) : Bool := (f == 66) || (f == 67) || (f == 68) || (f == 71) || (f == 72) || (f == 73) || (decide (133 ≤ f) && decide (f < 137))
def k_ix (f : Nat) : Nat := if f = 66 then 2 else if f = 67 then 4 else if f = 68 then 3 else if f < 74 then f - 66 else f - 125
/-- what the other fields hold: of the counters c, the lists' lengths w, the parents p -/
def k_fo (κ : kS) (mk tm rs gv ev : Nat) (w : Nat → Nat) (p : Nat → Int) (f n : Nat) : Value :=
  if f = 0 then .int (κ.2.1 n) else if f = 1 then .ref (κ.1 2 n) else if f = 2 then .int (nI (w n))
  else if f = 32 then .ref (κ.1 5 2) else if f = 33 then .int (nI tm) else if f = 34 then .int (nI ev)
  else if f = 64 then .int (nI n) else if f = 65 then va_rf (if n = 0 then none else some (κ.1 0 (p n).toNat))
  else if f = 69 then .ref (κ.1 1 n) else if f = 70 then .ref (κ.1 3 n)
  else if f = 96 then .ref (κ.1 4 n) else if f = 97 then .int (nI (κ.2.2 n).length)
  else if f = 160 then .ref (κ.1 5 1) else if f = 161 then .ref (κ.1 5 7) else if f = 162 then .ref (κ.1 0 0)
  else if f = 163 then .int (nI mk) else if f = 164 then .int (nI rs) else if f = 165 then .int (nI gv) else .null
def k_fv (κ : kS) (a : aS) (f n : Nat) : Value := if k_isN f = true then .int (Int32.ofInt (a_nd a (k_ix f) n)) else k_fo κ (a_mk a) (a_tm a) (a_rs a) (a_gv a) (a_ev a).length (fun n => (a_rw a n).length) (a_nd a 1) f n
def k_ec (j : Nat) (q : Nat × Nat × Nat × Nat) : Nat := if j = 0 then q.1 else if j = 1 then q.2.1 else if j = 2 then q.2.2.1 else q.2.2.2
def k_aok (κ : kS) (a : aS) (r n i : Nat) : Prop := (r = 2 ∧ n < a_mk a ∧ a_nd a 0 n = 1 ∧ i < (a_rw a n).length) ∨ (r = 4 ∧ n < a_mk a ∧ a_nd a 0 n = 1 ∧ i < (k_rt κ n).length) ∨ (r = 5 ∧ n = 2 ∧ i < 4) ∨ (r = 5 ∧ 3 ≤ n ∧ n < 7 ∧ i < 600 ∧ i < (a_ev a).length) ∨ (r = 5 ∧ n = 7 ∧ i < 80)
def k_av (κ : kS) (a : aS) (r n i : Nat) : Value := if r = 2 then .ref (κ.1 0 ((a_rw a n).getD i 0)) else if r = 4 then .int (nI ((κ.2.2 n).getD i 0)) else if n = 2 then .ref (κ.1 5 (3 + i)) else if n = 7 then va_rf (if i < a_mk a then some (κ.1 0 i) else none) else .int (nI (k_ec (n - 3) ((a_ev a).getD i (0, 0, 0, 0))))
/-- an object of the class's own (pr: the cells of others) -/
def k_is (G : hpG) (pr : Nat → Prop) (h : hpT) (b k : Nat) : Prop := hp_is G h b k ∧ ¬ pr b
def k_S (G : hpG) (pr : Nat → Prop) (h : hpT) (κ : kS) (a : aS) : Prop :=
  (∀ n, n < a_mk a → k_is G pr h (κ.1 0 n) (if a_nd a 0 n = 0 then 4 else 2)) ∧
  (∀ n, n < a_mk a → a_nd a 0 n = 1 → k_is G pr h (κ.1 1 n) 0 ∧ k_is G pr h (κ.1 3 n) 3 ∧ k_is G pr h (κ.1 4 n) 10 ∧ ((κ.2.2 n).length ≤ hp_ln h (κ.1 4 n) ∧ 2 ≤ hp_ln h (κ.1 4 n) ∧ hp_ln h (κ.1 4 n) ≤ 16777216) ∧ ((a_rw a n = [] ∧ κ.1 2 n = hp_dE G) ∨ (k_is G pr h (κ.1 2 n) 13 ∧ (a_rw a n).length ≤ hp_ln h (κ.1 2 n)))) ∧
  k_is G pr h (κ.1 5 0) 5 ∧ k_is G pr h (κ.1 5 1) 1 ∧ (k_is G pr h (κ.1 5 2) 15 ∧ hp_ln h (κ.1 5 2) = 4) ∧ (∀ j, j < 4 → k_is G pr h (κ.1 5 (3 + j)) 10 ∧ hp_ln h (κ.1 5 (3 + j)) = 600) ∧ (k_is G pr h (κ.1 5 7) 14 ∧ hp_ln h (κ.1 5 7) = 80)
def k_I (G : hpG) (κ : kS) (a : aS) : Prop :=
  (∀ n m, n < a_mk a → m < a_mk a → κ.1 0 n = κ.1 0 m → n = m) ∧
  (∀ r n m, (r = 1 ∨ r = 3 ∨ r = 4 ∨ (r = 2 ∧ hp_n0 G ≤ κ.1 2 n)) → n < a_mk a → m < a_mk a → a_nd a 0 n = 1 → a_nd a 0 m = 1 → κ.1 r n = κ.1 r m → n = m) ∧
  (∀ n j, n < a_mk a → a_nd a 0 n = 1 → j < 4 → κ.1 4 n ≠ κ.1 5 (3 + j)) ∧ (∀ i j, i < 4 → j < 4 → κ.1 5 (3 + i) = κ.1 5 (3 + j) → i = j)
def k_V (h : hpT) (κ : kS) (a : aS) : Prop := ∀ f n, k_ok a f n → hp_fl h f (k_at κ f n) = k_fv κ a f n
def k_A (h : hpT) (κ : kS) (a : aS) : Prop := ∀ r n i, k_aok κ a r n i → hp_ar h (κ.1 r n) i = k_av κ a r n i
/-- the cells of others are as in B -/
def k_F (pr : Nat → Prop) (B h : hpT) : Prop := ∀ b, pr b → b < hp_nx h ∧ hp_kd h b = hp_kd B b ∧ hp_ln h b = hp_ln B b ∧ (∀ f, hp_fl h f b = hp_fl B f b) ∧ hp_ar h b = hp_ar B b
/-- how full the rows of times are, beyond the half -/
def k_po (l : Nat → Nat) (κ : kS) (kp : Nat → Int) : Nat → Nat := fun n => if kp n = 1 then 4 * ((κ.2.2 n).length - l (κ.1 4 n) / 2) else 0
def k_B (N S : Nat) (h : hpT) (κ : kS) (a : aS) : Prop := hp_nx h ≤ N ∧ hp_sl h + hp_sm (k_po (hp_ln h) κ (a_nd a 0)) 0 (a_mk a) ≤ S
/-- the times that are kept are the last ones; those that are not are older than any t reaches -/
def k_T (κ : kS) (a : aS) : Prop := ∀ n, n < a_mk a → a_nd a 0 n = 1 → ∃ dr, a_rt a n = dr ++ κ.2.2 n ∧ ∀ x ∈ dr, x + 1000 < a_tm a
def KR (G : hpG) (pr : Nat → Prop) (B : hpT) (N S : Nat) (h : hpT) (κ : kS) (a : aS) : Prop := k_S G pr h κ a ∧ k_I G κ a ∧ k_V h κ a ∧ k_A h κ a ∧ k_F pr B h ∧ k_B N S h κ a ∧ k_T κ a
section KRS
variable {G : hpG} {pr : Nat → Prop} {B : hpT} {N S : Nat} {h : hpT} {κ : kS} {a : aS} {n : Nat}
theorem KR.V (K : KR G pr B N S h κ a) : k_V h κ a := K.2.2.1
theorem KR.A (K : KR G pr B N S h κ a) : k_A h κ a := K.2.2.2.1
theorem KR.isT (K : KR G pr B N S h κ a) : hp_is G h (κ.1 5 0) 5 := K.1.2.2.1.1
theorem KR.isJ (K : KR G pr B N S h κ a) : hp_is G h (κ.1 5 1) 1 := K.1.2.2.2.1.1
theorem KR.isC (K : KR G pr B N S h κ a) : hp_is G h (κ.1 5 2) 15 ∧ hp_ln h (κ.1 5 2) = 4 := ⟨K.1.2.2.2.2.1.1.1, K.1.2.2.2.2.1.2⟩
theorem KR.isc (K : KR G pr B N S h κ a) {j : Nat} (hj : j < 4) : hp_is G h (κ.1 5 (3 + j)) 10 ∧ hp_ln h (κ.1 5 (3 + j)) = 600 := ⟨(K.1.2.2.2.2.2.1 j hj).1.1, (K.1.2.2.2.2.2.1 j hj).2⟩
theorem KR.isM (K : KR G pr B N S h κ a) : hp_is G h (κ.1 5 7) 14 ∧ hp_ln h (κ.1 5 7) = 80 := ⟨K.1.2.2.2.2.2.2.1.1, K.1.2.2.2.2.2.2.2⟩
theorem KR.isK (K : KR G pr B N S h κ a) (hn : n < a_mk a) (hk : a_nd a 0 n = 1) : hp_is G h (κ.1 0 n) 2 := by
  have := (K.1.1 n hn).1
  rwa [if_neg (by omega)] at this
theorem KR.isW (K : KR G pr B N S h κ a) (hn : n < a_mk a) (hk : a_nd a 0 n = 0) : hp_is G h (κ.1 0 n) 4 := by
  have := (K.1.1 n hn).1
  rwa [if_pos hk] at this
theorem KR.prN (K : KR G pr B N S h κ a) (hn : n < a_mk a) : ¬ pr (κ.1 0 n) := (K.1.1 n hn).2
theorem KR.isL (K : KR G pr B N S h κ a) (hn : n < a_mk a) (hk : a_nd a 0 n = 1) : hp_is G h (κ.1 1 n) 0 := (K.1.2.1 n hn hk).1.1
theorem KR.isR (K : KR G pr B N S h κ a) (hn : n < a_mk a) (hk : a_nd a 0 n = 1) : hp_is G h (κ.1 3 n) 3 := (K.1.2.1 n hn hk).2.1.1
theorem KR.isI (K : KR G pr B N S h κ a) (hn : n < a_mk a) (hk : a_nd a 0 n = 1) : hp_is G h (κ.1 4 n) 10 ∧ (κ.2.2 n).length ≤ hp_ln h (κ.1 4 n) := ⟨(K.1.2.1 n hn hk).2.2.1.1, (K.1.2.1 n hn hk).2.2.2.1.1⟩
theorem KR.isI2 (K : KR G pr B N S h κ a) (hn : n < a_mk a) (hk : a_nd a 0 n = 1) : 2 ≤ hp_ln h (κ.1 4 n) ∧ hp_ln h (κ.1 4 n) ≤ 16777216 := (K.1.2.1 n hn hk).2.2.2.1.2
theorem KR.isE (K : KR G pr B N S h κ a) (hn : n < a_mk a) (hk : a_nd a 0 n = 1) : (a_rw a n = [] ∧ κ.1 2 n = hp_dE G) ∨ (k_is G pr h (κ.1 2 n) 13 ∧ (a_rw a n).length ≤ hp_ln h (κ.1 2 n)) := (K.1.2.1 n hn hk).2.2.2.2
theorem KR.prA (K : KR G pr B N S h κ a) {f : Nat} (ok : k_ok a f n) : ¬ pr (k_at κ f n) := by
  rcases ok with ⟨h1, h2, h3⟩ | ⟨h1, h2, h3⟩ | ⟨h1, h2, h3⟩ | ⟨h1, h2, h3, h4⟩ | ⟨h1, h2, h3, h4⟩ | ⟨h1, h2, h3, h4⟩ | ⟨h1, h2, h3⟩ <;> unfold k_at
  · rw [if_pos h1]; exact (K.1.2.1 n h2 h3).1.2
  · rw [if_neg (by omega), if_pos h2]; exact K.1.2.2.2.1.2
  · rw [if_neg (by omega), if_neg (by omega), if_pos (by omega)]; exact (K.1.1 n h3).2
  · rw [if_neg (by omega), if_neg (by omega), if_pos (by omega)]; exact (K.1.1 n h3).2
  · rw [if_neg (by omega), if_neg (by omega), if_neg (by omega), if_pos (by omega)]; exact (K.1.2.1 n h3 h4).2.1.2
  · rw [if_neg (by omega), if_neg (by omega), if_neg (by omega), if_neg (by omega), if_pos (by omega)]; exact (K.1.1 n h3).2
  · rw [if_neg (by omega), if_neg (by omega), if_neg (by omega), if_neg (by omega), if_neg (by omega)]; exact K.1.2.2.1.2
/-- one object, one node -/
theorem KR.inj (K : KR G pr B N S h κ a) {f m : Nat} (ok : k_ok a f n) (ok' : k_ok a f m) (e : k_at κ f n = k_at κ f m) : n = m := by
  obtain ⟨i1, i2, -, -⟩ := K.2.1
  unfold k_at at e
  rcases ok with ⟨h1, h2, h3⟩ | ⟨h1, h2, h3⟩ | ⟨h1, h2, h3⟩ | ⟨h1, h2, h3, h4⟩ | ⟨h1, h2, h3, h4⟩ | ⟨h1, h2, h3, h4⟩ | ⟨h1, h2, h3⟩ <;>
  rcases ok' with ⟨g1, g2, g3⟩ | ⟨g1, g2, g3⟩ | ⟨g1, g2, g3⟩ | ⟨g1, g2, g3, g4⟩ | ⟨g1, g2, g3, g4⟩ | ⟨g1, g2, g3, g4⟩ | ⟨g1, g2, g3⟩ <;> try omega
  · rw [if_pos h1, if_pos h1] at e; exact i2 1 n m (Or.inl rfl) h2 g2 h3 g3 e
  · rw [if_neg (by omega), if_neg (by omega), if_pos (by omega), if_neg (by omega), if_neg (by omega), if_pos (by omega)] at e; exact i1 n m h3 g3 e
  · rw [if_neg (by omega), if_neg (by omega), if_pos (by omega), if_neg (by omega), if_neg (by omega), if_pos (by omega)] at e; exact i1 n m h3 g3 e
  · rw [if_neg (by omega), if_neg (by omega), if_neg (by omega), if_pos (by omega), if_neg (by omega), if_neg (by omega), if_neg (by omega), if_pos (by omega)] at e; exact i2 3 n m (Or.inr (Or.inl rfl)) h3 g3 h4 g4 e
  · rw [if_neg (by omega), if_neg (by omega), if_neg (by omega), if_neg (by omega), if_pos (by omega), if_neg (by omega), if_neg (by omega), if_neg (by omega), if_neg (by omega), if_pos (by omega)] at e; exact i1 n m h3 g3 e
/-- a field is written: all others are as they were -/
theorem k_F.put (x : k_F pr B h) {f b : Nat} {v : Value} (hb : ¬ pr b) : k_F pr B (hp_put h f b v) := by
  intro c hc
  obtain ⟨x1, x2, x3, x4, x5⟩ := x c hc
  refine ⟨x1, x2, x3, fun g => ?_, x5⟩
  rw [hp_put_fl]
  by_cases e : g = f
  · rw [if_pos e, if_neg (fun z : c = b => hb (z ▸ hc)), ← e]
    exact x4 g
  · rw [if_neg e]
    exact x4 g
theorem k_F.set (x : k_F pr B h) {b i : Nat} {v : Value} (hb : ¬ pr b) : k_F pr B (hp_set h b i v) := by
  intro c hc
  obtain ⟨x1, x2, x3, x4, x5⟩ := x c hc
  refine ⟨x1, x2, x3, x4, ?_⟩
  funext j
  rw [hp_set_ar, if_neg (fun z : c = b => hb (z ▸ hc))]
  exact congrFun x5 j
theorem KR.putV (K : KR G pr B N S h κ a) {f : Nat} {v : Value} {κ' : kS} {a' : aS} (ok : k_ok a f n) (hok : ∀ g m, k_ok a' g m → k_ok a g m) (had : ∀ g m, k_at κ' g m = k_at κ g m) (hv : k_fv κ' a' f n = v) (hne : ∀ g m, k_ok a' g m → (g = f → m ≠ n) → k_fv κ' a' g m = k_fv κ a g m) : k_V (hp_put h f (k_at κ f n) v) κ' a' := by
  intro g m okg
  rw [hp_put_fl, had]
  by_cases e : g = f
  · subst e
    rw [if_pos rfl]
    by_cases e2 : m = n
    · subst e2
      rw [if_pos rfl, hv]
    · rw [if_neg (fun z => e2 (K.inj (hok _ _ okg) ok z)), hne g m okg (fun _ => e2)]
      exact K.V g m (hok _ _ okg)
  · rw [if_neg e, hne g m okg (fun z => absurd z e)]
    exact K.V g m (hok _ _ okg)
end KRS
/-- a number's place says its field -/
theorem k_ixi {g f : Nat} (e : k_isN g = true) (e2 : k_ix g = k_ix f) (hf : k_isN f = true := by decide) : g = f := by
  unfold k_isN at e hf
  simp only [Bool.or_eq_true, Bool.and_eq_true, decide_eq_true_eq, beq_iff_eq] at e hf
  unfold k_ix at e2
  (repeat' split at e2) <;> omega
section KRF
variable {G : hpG} {pr : Nat → Prop} {B : hpT} {N S : Nat} {h : hpT} {κ : kS} {a : aS} {n : Nat}
theorem k_o0 (hn : n < a_mk a) (hk : a_nd a 0 n = 1) : k_ok a 0 n := Or.inl ⟨by decide, hn, hk⟩
theorem KR.f0 (K : KR G pr B N S h κ a) (hn : n < a_mk a) (hk : a_nd a 0 n = 1) : hp_fl h 0 (κ.1 1 n) = .int (κ.2.1 n) := K.V 0 n (k_o0 hn hk)
theorem k_o1 (hn : n < a_mk a) (hk : a_nd a 0 n = 1) : k_ok a 1 n := Or.inl ⟨by decide, hn, hk⟩
theorem KR.f1 (K : KR G pr B N S h κ a) (hn : n < a_mk a) (hk : a_nd a 0 n = 1) : hp_fl h 1 (κ.1 1 n) = .ref (κ.1 2 n) := K.V 1 n (k_o1 hn hk)
theorem k_o2 (hn : n < a_mk a) (hk : a_nd a 0 n = 1) : k_ok a 2 n := Or.inl ⟨by decide, hn, hk⟩
theorem KR.f2 (K : KR G pr B N S h κ a) (hn : n < a_mk a) (hk : a_nd a 0 n = 1) : hp_fl h 2 (κ.1 1 n) = .int (nI (a_rw a n).length) := K.V 2 n (k_o2 hn hk)
theorem k_o32 : k_ok a 32 0 := Or.inr (Or.inl ⟨by decide, by decide, rfl⟩)
theorem KR.f32 (K : KR G pr B N S h κ a) : hp_fl h 32 (κ.1 5 1) = .ref (κ.1 5 2) := K.V 32 0 (k_o32)
theorem k_o33 : k_ok a 33 0 := Or.inr (Or.inl ⟨by decide, by decide, rfl⟩)
theorem KR.f33 (K : KR G pr B N S h κ a) : hp_fl h 33 (κ.1 5 1) = .int (nI (a_tm a)) := K.V 33 0 (k_o33)
theorem k_o34 : k_ok a 34 0 := Or.inr (Or.inl ⟨by decide, by decide, rfl⟩)
theorem KR.f34 (K : KR G pr B N S h κ a) : hp_fl h 34 (κ.1 5 1) = .int (nI (a_ev a).length) := K.V 34 0 (k_o34)
theorem k_o64 (hn : n < a_mk a) : k_ok a 64 n := Or.inr (Or.inr (Or.inl ⟨by decide, by decide, hn⟩))
theorem KR.f64 (K : KR G pr B N S h κ a) (hn : n < a_mk a) : hp_fl h 64 (κ.1 0 n) = .int (nI n) := K.V 64 n (k_o64 hn)
theorem k_o65 (hn : n < a_mk a) : k_ok a 65 n := Or.inr (Or.inr (Or.inl ⟨by decide, by decide, hn⟩))
theorem KR.f65 (K : KR G pr B N S h κ a) (hn : n < a_mk a) : hp_fl h 65 (κ.1 0 n) = va_rf (if n = 0 then none else some (κ.1 0 (a_nd a 1 n).toNat)) := K.V 65 n (k_o65 hn)
theorem k_o66 (hn : n < a_mk a) : k_ok a 66 n := Or.inr (Or.inr (Or.inl ⟨by decide, by decide, hn⟩))
theorem KR.f66 (K : KR G pr B N S h κ a) (hn : n < a_mk a) : hp_fl h 66 (κ.1 0 n) = .int (Int32.ofInt (a_nd a 2 n)) := K.V 66 n (k_o66 hn)
theorem k_o67 (hn : n < a_mk a) : k_ok a 67 n := Or.inr (Or.inr (Or.inl ⟨by decide, by decide, hn⟩))
theorem KR.f67 (K : KR G pr B N S h κ a) (hn : n < a_mk a) : hp_fl h 67 (κ.1 0 n) = .int (Int32.ofInt (a_nd a 4 n)) := K.V 67 n (k_o67 hn)
theorem k_o68 (hn : n < a_mk a) : k_ok a 68 n := Or.inr (Or.inr (Or.inl ⟨by decide, by decide, hn⟩))
theorem KR.f68 (K : KR G pr B N S h κ a) (hn : n < a_mk a) : hp_fl h 68 (κ.1 0 n) = .int (Int32.ofInt (a_nd a 3 n)) := K.V 68 n (k_o68 hn)
theorem k_o69 (hn : n < a_mk a) (hk : a_nd a 0 n = 1) : k_ok a 69 n := Or.inr (Or.inr (Or.inr (Or.inl ⟨by decide, by decide, hn, hk⟩)))
theorem KR.f69 (K : KR G pr B N S h κ a) (hn : n < a_mk a) (hk : a_nd a 0 n = 1) : hp_fl h 69 (κ.1 0 n) = .ref (κ.1 1 n) := K.V 69 n (k_o69 hn hk)
theorem k_o70 (hn : n < a_mk a) (hk : a_nd a 0 n = 1) : k_ok a 70 n := Or.inr (Or.inr (Or.inr (Or.inl ⟨by decide, by decide, hn, hk⟩)))
theorem KR.f70 (K : KR G pr B N S h κ a) (hn : n < a_mk a) (hk : a_nd a 0 n = 1) : hp_fl h 70 (κ.1 0 n) = .ref (κ.1 3 n) := K.V 70 n (k_o70 hn hk)
theorem k_o71 (hn : n < a_mk a) (hk : a_nd a 0 n = 1) : k_ok a 71 n := Or.inr (Or.inr (Or.inr (Or.inl ⟨by decide, by decide, hn, hk⟩)))
theorem KR.f71 (K : KR G pr B N S h κ a) (hn : n < a_mk a) (hk : a_nd a 0 n = 1) : hp_fl h 71 (κ.1 0 n) = .int (Int32.ofInt (a_nd a 5 n)) := K.V 71 n (k_o71 hn hk)
theorem k_o72 (hn : n < a_mk a) (hk : a_nd a 0 n = 1) : k_ok a 72 n := Or.inr (Or.inr (Or.inr (Or.inl ⟨by decide, by decide, hn, hk⟩)))
theorem KR.f72 (K : KR G pr B N S h κ a) (hn : n < a_mk a) (hk : a_nd a 0 n = 1) : hp_fl h 72 (κ.1 0 n) = .int (Int32.ofInt (a_nd a 6 n)) := K.V 72 n (k_o72 hn hk)
theorem k_o73 (hn : n < a_mk a) (hk : a_nd a 0 n = 1) : k_ok a 73 n := Or.inr (Or.inr (Or.inr (Or.inl ⟨by decide, by decide, hn, hk⟩)))
theorem KR.f73 (K : KR G pr B N S h κ a) (hn : n < a_mk a) (hk : a_nd a 0 n = 1) : hp_fl h 73 (κ.1 0 n) = .int (Int32.ofInt (a_nd a 7 n)) := K.V 73 n (k_o73 hn hk)
theorem k_o96 (hn : n < a_mk a) (hk : a_nd a 0 n = 1) : k_ok a 96 n := Or.inr (Or.inr (Or.inr (Or.inr (Or.inl ⟨by decide, by decide, hn, hk⟩))))
theorem KR.f96 (K : KR G pr B N S h κ a) (hn : n < a_mk a) (hk : a_nd a 0 n = 1) : hp_fl h 96 (κ.1 3 n) = .ref (κ.1 4 n) := K.V 96 n (k_o96 hn hk)
theorem k_o97 (hn : n < a_mk a) (hk : a_nd a 0 n = 1) : k_ok a 97 n := Or.inr (Or.inr (Or.inr (Or.inr (Or.inl ⟨by decide, by decide, hn, hk⟩))))
theorem KR.f97 (K : KR G pr B N S h κ a) (hn : n < a_mk a) (hk : a_nd a 0 n = 1) : hp_fl h 97 (κ.1 3 n) = .int (nI (κ.2.2 n).length) := K.V 97 n (k_o97 hn hk)
theorem k_o133 (hn : n < a_mk a) (hk : a_nd a 0 n = 0) : k_ok a 133 n := Or.inr (Or.inr (Or.inr (Or.inr (Or.inr (Or.inl ⟨by decide, by decide, hn, hk⟩)))))
theorem KR.f133 (K : KR G pr B N S h κ a) (hn : n < a_mk a) (hk : a_nd a 0 n = 0) : hp_fl h 133 (κ.1 0 n) = .int (Int32.ofInt (a_nd a 8 n)) := K.V 133 n (k_o133 hn hk)
theorem k_o134 (hn : n < a_mk a) (hk : a_nd a 0 n = 0) : k_ok a 134 n := Or.inr (Or.inr (Or.inr (Or.inr (Or.inr (Or.inl ⟨by decide, by decide, hn, hk⟩)))))
theorem KR.f134 (K : KR G pr B N S h κ a) (hn : n < a_mk a) (hk : a_nd a 0 n = 0) : hp_fl h 134 (κ.1 0 n) = .int (Int32.ofInt (a_nd a 9 n)) := K.V 134 n (k_o134 hn hk)
theorem k_o135 (hn : n < a_mk a) (hk : a_nd a 0 n = 0) : k_ok a 135 n := Or.inr (Or.inr (Or.inr (Or.inr (Or.inr (Or.inl ⟨by decide, by decide, hn, hk⟩)))))
theorem KR.f135 (K : KR G pr B N S h κ a) (hn : n < a_mk a) (hk : a_nd a 0 n = 0) : hp_fl h 135 (κ.1 0 n) = .int (Int32.ofInt (a_nd a 10 n)) := K.V 135 n (k_o135 hn hk)
theorem k_o136 (hn : n < a_mk a) (hk : a_nd a 0 n = 0) : k_ok a 136 n := Or.inr (Or.inr (Or.inr (Or.inr (Or.inr (Or.inl ⟨by decide, by decide, hn, hk⟩)))))
theorem KR.f136 (K : KR G pr B N S h κ a) (hn : n < a_mk a) (hk : a_nd a 0 n = 0) : hp_fl h 136 (κ.1 0 n) = .int (Int32.ofInt (a_nd a 11 n)) := K.V 136 n (k_o136 hn hk)
theorem k_o160 : k_ok a 160 0 := Or.inr (Or.inr (Or.inr (Or.inr (Or.inr (Or.inr ⟨by decide, by decide, rfl⟩)))))
theorem KR.f160 (K : KR G pr B N S h κ a) : hp_fl h 160 (κ.1 5 0) = .ref (κ.1 5 1) := K.V 160 0 (k_o160)
theorem k_o161 : k_ok a 161 0 := Or.inr (Or.inr (Or.inr (Or.inr (Or.inr (Or.inr ⟨by decide, by decide, rfl⟩)))))
theorem KR.f161 (K : KR G pr B N S h κ a) : hp_fl h 161 (κ.1 5 0) = .ref (κ.1 5 7) := K.V 161 0 (k_o161)
theorem k_o162 : k_ok a 162 0 := Or.inr (Or.inr (Or.inr (Or.inr (Or.inr (Or.inr ⟨by decide, by decide, rfl⟩)))))
theorem KR.f162 (K : KR G pr B N S h κ a) : hp_fl h 162 (κ.1 5 0) = .ref (κ.1 0 0) := K.V 162 0 (k_o162)
theorem k_o163 : k_ok a 163 0 := Or.inr (Or.inr (Or.inr (Or.inr (Or.inr (Or.inr ⟨by decide, by decide, rfl⟩)))))
theorem KR.f163 (K : KR G pr B N S h κ a) : hp_fl h 163 (κ.1 5 0) = .int (nI (a_mk a)) := K.V 163 0 (k_o163)
theorem k_o164 : k_ok a 164 0 := Or.inr (Or.inr (Or.inr (Or.inr (Or.inr (Or.inr ⟨by decide, by decide, rfl⟩)))))
theorem KR.f164 (K : KR G pr B N S h κ a) : hp_fl h 164 (κ.1 5 0) = .int (nI (a_rs a)) := K.V 164 0 (k_o164)
theorem k_o165 : k_ok a 165 0 := Or.inr (Or.inr (Or.inr (Or.inr (Or.inr (Or.inr ⟨by decide, by decide, rfl⟩)))))
theorem KR.f165 (K : KR G pr B N S h κ a) : hp_fl h 165 (κ.1 5 0) = .int (nI (a_gv a)) := K.V 165 0 (k_o165)
theorem KR.col (K : KR G pr B N S h κ a) {i : Nat} (hi : i < 4) : hp_ar h (κ.1 5 2) i = .ref (κ.1 5 (3 + i)) := K.A 5 2 i (Or.inr (Or.inr (Or.inl ⟨rfl, rfl, hi⟩)))
theorem KR.nod (K : KR G pr B N S h κ a) {i : Nat} (hi : i < 80) : hp_ar h (κ.1 5 7) i = va_rf (if i < a_mk a then some (κ.1 0 i) else none) := K.A 5 7 i (Or.inr (Or.inr (Or.inr (Or.inr ⟨rfl, rfl, hi⟩))))
theorem KR.elt (K : KR G pr B N S h κ a) {i : Nat} (hn : n < a_mk a) (hk : a_nd a 0 n = 1) (hi : i < (a_rw a n).length) : hp_ar h (κ.1 2 n) i = .ref (κ.1 0 ((a_rw a n).getD i 0)) := K.A 2 n i (Or.inl ⟨rfl, hn, hk, hi⟩)
theorem KR.tim (K : KR G pr B N S h κ a) {i : Nat} (hn : n < a_mk a) (hk : a_nd a 0 n = 1) (hi : i < (κ.2.2 n).length) : hp_ar h (κ.1 4 n) i = .int (nI ((κ.2.2 n).getD i 0)) := K.A 4 n i (Or.inr (Or.inl ⟨rfl, hn, hk, hi⟩))
theorem KR.evt (K : KR G pr B N S h κ a) {i j : Nat} (hj : j < 4) (hi : i < 600) (he : i < (a_ev a).length) : hp_ar h (κ.1 5 (3 + j)) i = .int (nI (k_ec j ((a_ev a).getD i (0, 0, 0, 0)))) := by
  have := K.A 5 (3 + j) i (Or.inr (Or.inr (Or.inr (Or.inl ⟨rfl, by omega, by omega, hi, he⟩))))
  rw [this]
  unfold k_av
  rw [if_neg (by decide), if_neg (by decide), if_neg (by omega), if_neg (by omega), Nat.add_sub_cancel_left]
theorem KR.p68 (K : KR G pr B N S h κ a) (hn : n < a_mk a) (x : Int) : KR G pr B N S (hp_put h 68 (κ.1 0 n) (.int (Int32.ofInt x))) κ (a_sn a 3 n x) := by
  refine ⟨K.1, K.2.1, K.putV (f := 68) (k_o68 hn) (fun _ _ z => z) (fun _ _ => rfl) ?_ (fun g m _ hg => ?_), K.2.2.2.1, K.2.2.2.2.1.put (K.prN hn), K.2.2.2.2.2.1, K.2.2.2.2.2.2⟩
  · show Value.int (Int32.ofInt (va_up (a_nd a) 3 (va_up (a_nd a 3) n x) 3 n)) = _
    rw [va_up_self, va_up_self]
  · unfold k_fv
    by_cases e : k_isN g = true
    · rw [if_pos e, if_pos e]
      show Value.int (Int32.ofInt (va_up (a_nd a) 3 (va_up (a_nd a 3) n x) (k_ix g) m)) = _
      by_cases e2 : k_ix g = 3
      · have eg : g = 68 := k_ixi e e2
        rw [e2, va_up_self, va_up_ne _ _ (hg eg)]
      · rw [va_up_ne _ _ e2]
    · rw [if_neg e, if_neg e]
      rfl
theorem KR.p136 (K : KR G pr B N S h κ a) (hn : n < a_mk a) (hk : a_nd a 0 n = 0) (x : Int) : KR G pr B N S (hp_put h 136 (κ.1 0 n) (.int (Int32.ofInt x))) κ (a_sn a 11 n x) := by
  refine ⟨K.1, K.2.1, K.putV (f := 136) (k_o136 hn hk) (fun _ _ z => z) (fun _ _ => rfl) ?_ (fun g m _ hg => ?_), K.2.2.2.1, K.2.2.2.2.1.put (K.prN hn), K.2.2.2.2.2.1, K.2.2.2.2.2.2⟩
  · show Value.int (Int32.ofInt (va_up (a_nd a) 11 (va_up (a_nd a 11) n x) 11 n)) = _
    rw [va_up_self, va_up_self]
  · unfold k_fv
    by_cases e : k_isN g = true
    · rw [if_pos e, if_pos e]
      show Value.int (Int32.ofInt (va_up (a_nd a) 11 (va_up (a_nd a 11) n x) (k_ix g) m)) = _
      by_cases e2 : k_ix g = 11
      · have eg : g = 136 := k_ixi e e2
        rw [e2, va_up_self, va_up_ne _ _ (hg eg)]
      · rw [va_up_ne _ _ e2]
    · rw [if_neg e, if_neg e]
      rfl
theorem KR.p71 (K : KR G pr B N S h κ a) (hn : n < a_mk a) (hk : a_nd a 0 n = 1) (x : Int) : KR G pr B N S (hp_put h 71 (κ.1 0 n) (.int (Int32.ofInt x))) κ (a_sn a 5 n x) := by
  refine ⟨K.1, K.2.1, K.putV (f := 71) (k_o71 hn hk) (fun _ _ z => z) (fun _ _ => rfl) ?_ (fun g m _ hg => ?_), K.2.2.2.1, K.2.2.2.2.1.put (K.prN hn), K.2.2.2.2.2.1, K.2.2.2.2.2.2⟩
  · show Value.int (Int32.ofInt (va_up (a_nd a) 5 (va_up (a_nd a 5) n x) 5 n)) = _
    rw [va_up_self, va_up_self]
  · unfold k_fv
    by_cases e : k_isN g = true
    · rw [if_pos e, if_pos e]
      show Value.int (Int32.ofInt (va_up (a_nd a) 5 (va_up (a_nd a 5) n x) (k_ix g) m)) = _
      by_cases e2 : k_ix g = 5
      · have eg : g = 71 := k_ixi e e2
        rw [e2, va_up_self, va_up_ne _ _ (hg eg)]
      · rw [va_up_ne _ _ e2]
    · rw [if_neg e, if_neg e]
      rfl
theorem KR.p72 (K : KR G pr B N S h κ a) (hn : n < a_mk a) (hk : a_nd a 0 n = 1) (x : Int) : KR G pr B N S (hp_put h 72 (κ.1 0 n) (.int (Int32.ofInt x))) κ (a_sn a 6 n x) := by
  refine ⟨K.1, K.2.1, K.putV (f := 72) (k_o72 hn hk) (fun _ _ z => z) (fun _ _ => rfl) ?_ (fun g m _ hg => ?_), K.2.2.2.1, K.2.2.2.2.1.put (K.prN hn), K.2.2.2.2.2.1, K.2.2.2.2.2.2⟩
  · show Value.int (Int32.ofInt (va_up (a_nd a) 6 (va_up (a_nd a 6) n x) 6 n)) = _
    rw [va_up_self, va_up_self]
  · unfold k_fv
    by_cases e : k_isN g = true
    · rw [if_pos e, if_pos e]
      show Value.int (Int32.ofInt (va_up (a_nd a) 6 (va_up (a_nd a 6) n x) (k_ix g) m)) = _
      by_cases e2 : k_ix g = 6
      · have eg : g = 72 := k_ixi e e2
        rw [e2, va_up_self, va_up_ne _ _ (hg eg)]
      · rw [va_up_ne _ _ e2]
    · rw [if_neg e, if_neg e]
      rfl
theorem KR.p73 (K : KR G pr B N S h κ a) (hn : n < a_mk a) (hk : a_nd a 0 n = 1) (x : Int) : KR G pr B N S (hp_put h 73 (κ.1 0 n) (.int (Int32.ofInt x))) κ (a_sn a 7 n x) := by
  refine ⟨K.1, K.2.1, K.putV (f := 73) (k_o73 hn hk) (fun _ _ z => z) (fun _ _ => rfl) ?_ (fun g m _ hg => ?_), K.2.2.2.1, K.2.2.2.2.1.put (K.prN hn), K.2.2.2.2.2.1, K.2.2.2.2.2.2⟩
  · show Value.int (Int32.ofInt (va_up (a_nd a) 7 (va_up (a_nd a 7) n x) 7 n)) = _
    rw [va_up_self, va_up_self]
  · unfold k_fv
    by_cases e : k_isN g = true
    · rw [if_pos e, if_pos e]
      show Value.int (Int32.ofInt (va_up (a_nd a) 7 (va_up (a_nd a 7) n x) (k_ix g) m)) = _
      by_cases e2 : k_ix g = 7
      · have eg : g = 73 := k_ixi e e2
        rw [e2, va_up_self, va_up_ne _ _ (hg eg)]
      · rw [va_up_ne _ _ e2]
    · rw [if_neg e, if_neg e]
      rfl
end KRF
/-! ===== the class's writes ===== -/
/-- one of the class's arrays -/
def k_rok (G : hpG) (κ : kS) (a : aS) (r n : Nat) : Prop := (r = 2 ∧ n < a_mk a ∧ a_nd a 0 n = 1 ∧ hp_n0 G ≤ κ.1 2 n) ∨ (r = 4 ∧ n < a_mk a ∧ a_nd a 0 n = 1) ∨ (r = 5 ∧ n = 2) ∨ (r = 5 ∧ 3 ≤ n ∧ n < 7) ∨ (r = 5 ∧ n = 7)
def k_kd (r n : Nat) : Nat := if r = 2 then 13 else if r = 4 then 10 else if n = 2 then 15 else if n = 7 then 14 else 10
section KRW
variable {G : hpG} {pr : Nat → Prop} {B : hpT} {N S : Nat} {h : hpT} {κ : kS} {a : aS} {n : Nat}
theorem KR.eltA (K : KR G pr B N S h κ a) (hd : hp_dE G < hp_n0 G) (hn : n < a_mk a) (hk : a_nd a 0 n = 1) (h0 : hp_n0 G ≤ κ.1 2 n) : k_is G pr h (κ.1 2 n) 13 ∧ (a_rw a n).length ≤ hp_ln h (κ.1 2 n) := by
  rcases K.isE hn hk with ⟨-, e⟩ | e
  · omega
  · exact e
theorem KR.rok (K : KR G pr B N S h κ a) {r i : Nat} (ok : k_aok κ a r n i) : k_rok G κ a r n := by
  rcases ok with ⟨rfl, h2, h3, h4⟩ | ⟨rfl, h2, h3, h4⟩ | ⟨rfl, h2, h3⟩ | ⟨rfl, h2, h3, h4⟩ | ⟨rfl, h2, h3⟩
  · refine Or.inl ⟨rfl, h2, h3, ?_⟩
    rcases K.isE h2 h3 with ⟨e, -⟩ | e
    · rw [e] at h4; cases h4
    · exact e.1.1.1
  · exact Or.inr (Or.inl ⟨rfl, h2, h3⟩)
  · exact Or.inr (Or.inr (Or.inl ⟨rfl, h2⟩))
  · exact Or.inr (Or.inr (Or.inr (Or.inl ⟨rfl, h2, h3⟩)))
  · exact Or.inr (Or.inr (Or.inr (Or.inr ⟨rfl, h2⟩)))
theorem KR.rkd (K : KR G pr B N S h κ a) (hd : hp_dE G < hp_n0 G) {r : Nat} (ok : k_rok G κ a r n) : k_is G pr h (κ.1 r n) (k_kd r n) := by
  rcases ok with ⟨rfl, h2, h3, h4⟩ | ⟨rfl, h2, h3⟩ | ⟨rfl, rfl⟩ | ⟨rfl, h2, h3⟩ | ⟨rfl, rfl⟩
  · exact (K.eltA hd h2 h3 h4).1
  · exact (K.1.2.1 n h2 h3).2.2.1
  · exact K.1.2.2.2.2.1.1
  · have e : k_kd 5 n = 10 := by unfold k_kd; rw [if_neg (by decide), if_neg (by decide), if_neg (by omega), if_neg (by omega)]
    have := (K.1.2.2.2.2.2.1 (n - 3) (by omega)).1
    rw [show 3 + (n - 3) = n by omega] at this
    rw [e]; exact this
  · exact K.1.2.2.2.2.2.2.1
theorem KR.dis (K : KR G pr B N S h κ a) (hd : hp_dE G < hp_n0 G) {r r' m : Nat} (ok : k_rok G κ a r n) (ok' : k_rok G κ a r' m) (e : κ.1 r n = κ.1 r' m) : r = r' ∧ n = m := by
  have q1 := (K.rkd hd ok).1.2.2
  have q2 := (K.rkd hd ok').1.2.2
  rw [e, q2] at q1
  obtain ⟨-, i2, i3, i4⟩ := K.2.1
  rcases ok with ⟨rfl, h2, h3, h4⟩ | ⟨rfl, h2, h3⟩ | ⟨rfl, rfl⟩ | ⟨rfl, h2, h3⟩ | ⟨rfl, rfl⟩ <;>
  rcases ok' with ⟨rfl, g2, g3, g4⟩ | ⟨rfl, g2, g3⟩ | ⟨rfl, rfl⟩ | ⟨rfl, g2, g3⟩ | ⟨rfl, rfl⟩ <;> unfold k_kd at q1 <;> try (exfalso; (repeat' split at q1) <;> omega)
  · exact ⟨rfl, i2 2 n m (Or.inr (Or.inr (Or.inr ⟨rfl, h4⟩))) h2 g2 h3 g3 e⟩
  · exact ⟨rfl, i2 4 n m (Or.inr (Or.inr (Or.inl rfl))) h2 g2 h3 g3 e⟩
  · exact absurd e (by have := i3 n (m - 3) h2 h3 (by omega); rwa [show 3 + (m - 3) = m by omega] at this)
  · exact ⟨rfl, rfl⟩
  · exact absurd e.symm (by have := i3 m (n - 3) g2 g3 (by omega); rwa [show 3 + (n - 3) = n by omega] at this)
  · refine ⟨rfl, ?_⟩
    have := i4 (n - 3) (m - 3) (by omega) (by omega) (by rw [show 3 + (n - 3) = n by omega, show 3 + (m - 3) = m by omega]; exact e)
    omega
  · exact ⟨rfl, rfl⟩
/-- a place that says nothing is written -/
theorem KR.set (K : KR G pr B N S h κ a) {b j : Nat} {v : Value} (hb : ¬ pr b) (hd : ∀ r n i, k_aok κ a r n i → κ.1 r n = b → i ≠ j) : KR G pr B N S (hp_set h b j v) κ a := by
  refine ⟨K.1, K.2.1, K.2.2.1, fun r n i ok => ?_, K.2.2.2.2.1.set hb, K.2.2.2.2.2.1, K.2.2.2.2.2.2⟩
  rw [hp_set_ar]
  by_cases e : κ.1 r n = b
  · rw [if_pos e, if_neg (hd r n i ok e), ← e]
    exact K.A r n i ok
  · rw [if_neg e]
    exact K.A r n i ok
/-- TIME goes on -/
theorem KR.time (K : KR G pr B N S h κ a) {t : Nat} (ht : a_tm a ≤ t) : KR G pr B N S (hp_put h 33 (κ.1 5 1) (.int (nI t))) κ (a_st a t) := by
  refine ⟨K.1, K.2.1, K.putV (n := 0) (f := 33) k_o33 (fun _ _ z => z) (fun _ _ => rfl) rfl (fun g m ok hg => ?_), K.2.2.2.1, K.2.2.2.2.1.put K.1.2.2.2.1.2, K.2.2.2.2.2.1, fun n hn hk => ?_⟩
  · have hg3 : g ≠ 33 := fun e => by
      subst e
      rcases ok with ⟨h1, -⟩ | ⟨-, -, h3⟩ | ⟨h1, -⟩ | ⟨h1, -⟩ | ⟨h1, -⟩ | ⟨h1, -⟩ | ⟨h1, -⟩ <;> first | exact hg rfl h3 | omega
    unfold k_fv
    by_cases e : k_isN g = true
    · rw [if_pos e, if_pos e]; rfl
    · rw [if_neg e, if_neg e]
      unfold k_fo
      rw [if_neg hg3, if_neg hg3]
      rfl
  · obtain ⟨dr, h1, h2⟩ := K.2.2.2.2.2.2 n hn hk
    exact ⟨dr, h1, fun x hx => by have := h2 x hx; show x + 1000 < t; omega⟩
def a_srs (a : aS) (x : Nat) : aS := (a.1, a.2.1, x, a.2.2.2)
theorem KR.rs (K : KR G pr B N S h κ a) (x : Nat) : KR G pr B N S (hp_put h 164 (κ.1 5 0) (.int (nI x))) κ (a_srs a x) := by
  refine ⟨K.1, K.2.1, K.putV (n := 0) (f := 164) k_o164 (fun _ _ z => z) (fun _ _ => rfl) rfl (fun g m ok hg => ?_), K.2.2.2.1, K.2.2.2.2.1.put K.1.2.2.1.2, K.2.2.2.2.2.1, K.2.2.2.2.2.2⟩
  have hg3 : g ≠ 164 := fun e => by
    subst e
    rcases ok with ⟨h1, -⟩ | ⟨-, h1, -⟩ | ⟨-, h1, -⟩ | ⟨-, h1, -⟩ | ⟨-, h1, -⟩ | ⟨-, h1, -⟩ | ⟨-, -, h3⟩ <;> first | exact hg rfl h3 | omega
  unfold k_fv
  by_cases e : k_isN g = true
  · rw [if_pos e, if_pos e]; rfl
  · rw [if_neg e, if_neg e]
    unfold k_fo
    rw [if_neg hg3, if_neg hg3]
    rfl
def a_sgv (a : aS) (x : Nat) : aS := (a.1, a.2.1, a.2.2.1, x, a.2.2.2.2)
theorem KR.gv (K : KR G pr B N S h κ a) (x : Nat) : KR G pr B N S (hp_put h 165 (κ.1 5 0) (.int (nI x))) κ (a_sgv a x) := by
  refine ⟨K.1, K.2.1, K.putV (n := 0) (f := 165) k_o165 (fun _ _ z => z) (fun _ _ => rfl) rfl (fun g m ok hg => ?_), K.2.2.2.1, K.2.2.2.2.1.put K.1.2.2.1.2, K.2.2.2.2.2.1, K.2.2.2.2.2.2⟩
  have hg3 : g ≠ 165 := fun e => by
    subst e
    rcases ok with ⟨h1, -⟩ | ⟨-, h1, -⟩ | ⟨-, h1, -⟩ | ⟨-, h1, -⟩ | ⟨-, h1, -⟩ | ⟨-, h1, -⟩ | ⟨-, -, h3⟩ <;> first | exact hg rfl h3 | omega
  unfold k_fv
  by_cases e : k_isN g = true
  · rw [if_pos e, if_pos e]; rfl
  · rw [if_neg e, if_neg e]
    unfold k_fo
    rw [if_neg hg3, if_neg hg3]
    rfl
/-- an event is told: the columns' places are written ahead -/
theorem KR.tell (K : KR G pr B N S h κ a) {w n r : Nat} (hw : (a_ev a).length < 600 → ∀ j, j < 4 → hp_ar h (κ.1 5 (3 + j)) (a_ev a).length = .int (nI (k_ec j (w, n, a_tm a, r)))) : KR G pr B N S (hp_put h 34 (κ.1 5 1) (.int (nI ((a_ev a).length + 1)))) κ (a_no a w n r) := by
  have el : (a_ev (a_no a w n r)).length = (a_ev a).length + 1 := by
    show (a_ev a ++ [_]).length = _
    rw [List.length_append]
    rfl
  refine ⟨K.1, K.2.1, K.putV (n := 0) (f := 34) k_o34 (fun _ _ z => z) (fun _ _ => rfl) ?_ (fun g m ok hg => ?_), fun q m i ok => ?_, K.2.2.2.2.1.put K.1.2.2.2.1.2, K.2.2.2.2.2.1, K.2.2.2.2.2.2⟩
  · show Value.int (nI (a_ev (a_no a w n r)).length) = _
    rw [el]
  · have hg3 : g ≠ 34 := fun e => by
      subst e
      rcases ok with ⟨h1, -⟩ | ⟨-, -, h3⟩ | ⟨h1, -⟩ | ⟨h1, -⟩ | ⟨h1, -⟩ | ⟨h1, -⟩ | ⟨h1, -⟩ <;> first | exact hg rfl h3 | omega
    unfold k_fv
    by_cases e : k_isN g = true
    · rw [if_pos e, if_pos e]; rfl
    · rw [if_neg e, if_neg e]
      unfold k_fo
      rw [if_neg hg3, if_neg hg3]
      rfl
  · show hp_ar h (κ.1 q m) i = _
    have hav : ∀ i, i < (a_ev a).length → k_av κ (a_no a w n r) q m i = k_av κ a q m i := fun i hi => by
      have : (a_ev (a_no a w n r)).getD i (0, 0, 0, 0) = (a_ev a).getD i (0, 0, 0, 0) := by
        show (a_ev a ++ [_]).getD i _ = _
        rw [List.getD_eq_getElem?_getD, List.getD_eq_getElem?_getD, List.getElem?_append_left hi]
      unfold k_av
      rw [this]
      rfl
    have hav2 : (q = 5 → ¬ (3 ≤ m ∧ m < 7)) → q = 2 ∨ q = 4 ∨ m = 2 ∨ m = 7 → k_av κ (a_no a w n r) q m i = k_av κ a q m i := fun _ hz => by
      unfold k_av
      rcases hz with rfl | rfl | rfl | rfl
      · rw [if_pos rfl, if_pos rfl]; rfl
      · rfl
      · by_cases c1 : q = 2
        · rw [if_pos c1, if_pos c1]; rfl
        · by_cases c2 : q = 4
          · rw [if_neg c1, if_neg c1, if_pos c2, if_pos c2]
          · rw [if_neg c1, if_neg c1, if_neg c2, if_neg c2, if_pos rfl, if_pos rfl]
      · by_cases c1 : q = 2
        · rw [if_pos c1, if_pos c1]; rfl
        · by_cases c2 : q = 4
          · rw [if_neg c1, if_neg c1, if_pos c2, if_pos c2]
          · rw [if_neg c1, if_neg c1, if_neg c2, if_neg c2]; rfl
    rcases ok with ⟨h1, h2, h3, h4⟩ | ⟨h1, h2, h3, h4⟩ | ⟨h1, h2, h3⟩ | ⟨h1, h2, h3, h4, h5⟩ | ⟨h1, h2, h3⟩
    · rw [hav2 (by omega) (Or.inl h1)]; exact K.A q m i (Or.inl ⟨h1, h2, h3, h4⟩)
    · rw [hav2 (by omega) (Or.inr (Or.inl h1))]; exact K.A q m i (Or.inr (Or.inl ⟨h1, h2, h3, h4⟩))
    · rw [hav2 (by omega) (Or.inr (Or.inr (Or.inl h2)))]; exact K.A q m i (Or.inr (Or.inr (Or.inl ⟨h1, h2, h3⟩)))
    · by_cases c : i < (a_ev a).length
      · rw [hav i c]; exact K.A q m i (Or.inr (Or.inr (Or.inr (Or.inl ⟨h1, h2, h3, h4, c⟩))))
      · have ei : i = (a_ev a).length := by rw [el] at h5; omega
        subst h1 ei
        have hz := hw h4 (m - 3) (by omega)
        rw [show 3 + (m - 3) = m by omega] at hz
        rw [hz]
        unfold k_av
        rw [if_neg (by decide), if_neg (by decide), if_neg (by omega), if_neg (by omega)]
        have : (a_ev (a_no a w n r)).getD (a_ev a).length (0, 0, 0, 0) = (w, n, a_tm a, r) := by
          show (a_ev a ++ [_]).getD _ _ = _
          rw [List.getD_eq_getElem?_getD, List.getElem?_append_right (Nat.le_refl _), Nat.sub_self]
          rfl
        rw [this]
    · rw [hav2 (by omega) (Or.inr (Or.inr (Or.inr h2)))]; exact K.A q m i (Or.inr (Or.inr (Or.inr (Or.inr ⟨h1, h2, h3⟩))))
/-- the sum of what is beyond the half, where one row's changes -/
theorem hp_sm_up {f g : Nat → Nat} {q : Nat} : ∀ (n b : Nat), b ≤ q → q < b + n → (∀ i, i ≠ q → f i = g i) → hp_sm f b n + g q = hp_sm g b n + f q
  | 0, b, h1, h2, _ => by omega
  | n + 1, b, h1, h2, hf => by
    show f b + hp_sm f (b + 1) n + g q = g b + hp_sm g (b + 1) n + f q
    by_cases e : b = q
    · subst e
      rw [hp_sm_congr (f := f) (g := g) n (b + 1) (fun i h1 _ => hf i (by omega))]
      omega
    · have := hp_sm_up (f := f) (g := g) n (b + 1) (by omega) (by omega) hf
      rw [hf b e]
      omega
theorem hp_sm_le {f g : Nat → Nat} : ∀ (n b : Nat), (∀ i, b ≤ i → i < b + n → f i ≤ g i) → hp_sm f b n ≤ hp_sm g b n
  | 0, _, _ => Nat.le_refl _
  | n + 1, b, hf => by
    show f b + hp_sm f (b + 1) n ≤ g b + hp_sm g (b + 1) n
    have h1 := hf b (Nat.le_refl _) (by omega)
    have h2 := hp_sm_le (f := f) (g := g) n (b + 1) (fun i _ _ => hf i (by omega) (by omega))
    omega
/-- the restarts' times of keeper n are x -/
def k_srt (κ : kS) (n : Nat) (x : List Nat) : kS := (κ.1, κ.2.1, va_up κ.2.2 n x)
/-- a keeper's restarts are forgotten -/
theorem KR.clear (K : KR G pr B N S h κ a) (hn : n < a_mk a) (hk : a_nd a 0 n = 1) : KR G pr B N S (hp_put h 97 (κ.1 3 n) (.int 0)) (k_srt κ n []) (a_srt a n []) := by
  have ne : ∀ m, m ≠ n → (k_srt κ n []).2.2 m = κ.2.2 m := fun m hm => va_up_ne _ _ hm
  have se : (k_srt κ n []).2.2 n = [] := va_up_self _ _ _
  have le : ∀ m, ((k_srt κ n []).2.2 m).length ≤ (κ.2.2 m).length := fun m => by
    by_cases e : m = n
    · rw [e, se]; exact Nat.zero_le _
    · rw [ne m e]; exact Nat.le_refl _
  refine ⟨⟨K.1.1, fun m hm hkm => ?_, K.1.2.2⟩, K.2.1, K.putV (n := n) (f := 97) (k_o97 hn hk) (fun _ _ z => z) (fun _ _ => rfl) ?_ (fun g m ok hg => ?_), fun r m i ok => ?_, K.2.2.2.2.1.put (K.1.2.1 n hn hk).2.1.2, ⟨K.2.2.2.2.2.1.1, ?_⟩, fun m hm hkm => ?_⟩
  · obtain ⟨z1, z2, z3, z4, z5⟩ := K.1.2.1 m hm hkm
    exact ⟨z1, z2, z3, ⟨Nat.le_trans (le m) z4.1, z4.2⟩, z5⟩
  · show Value.int (nI ((k_srt κ n []).2.2 n).length) = _
    rw [se]
    rfl
  · unfold k_fv
    by_cases e : k_isN g = true
    · rw [if_pos e, if_pos e]; rfl
    · rw [if_neg e, if_neg e]
      by_cases e2 : g = 97
      · subst e2
        show Value.int (nI ((k_srt κ n []).2.2 m).length) = Value.int (nI (κ.2.2 m).length)
        rw [ne m (hg rfl)]
      · unfold k_fo
        simp only [e2, if_false]
        rfl
  · have ok' : k_aok κ a r m i := by
      rcases ok with z | ⟨z1, z2, z3, z4⟩ | z
      · exact Or.inl z
      · exact Or.inr (Or.inl ⟨z1, z2, z3, Nat.lt_of_lt_of_le z4 (le m)⟩)
      · exact Or.inr (Or.inr z)
    have := K.A r m i ok'
    refine this.trans ?_
    by_cases e : r = 4
    · subst e
      rcases ok with ⟨z1, -⟩ | ⟨z1, z2, z3, z4⟩ | ⟨z1, -⟩ | ⟨z1, -⟩ | ⟨z1, -⟩ <;> try omega
      by_cases em : m = n
      · subst em; have z4' : i < ((k_srt κ m []).2.2 m).length := z4; rw [se] at z4'; cases z4'
      · show Value.int (nI ((κ.2.2 m).getD i 0)) = Value.int (nI (((k_srt κ n []).2.2 m).getD i 0))
        rw [ne m em]
    · unfold k_av
      by_cases e2 : r = 2
      · rw [if_pos e2, if_pos e2]; rfl
      · rw [if_neg e2, if_neg e2, if_neg e, if_neg e]; rfl
  · refine Nat.le_trans (Nat.add_le_add_left (hp_sm_le _ _ (fun i _ _ => ?_)) _) K.2.2.2.2.2.1.2
    show (if a_nd a 0 i = 1 then 4 * (((k_srt κ n []).2.2 i).length - hp_ln h (κ.1 4 i) / 2) else 0) ≤ (if a_nd a 0 i = 1 then 4 * ((κ.2.2 i).length - hp_ln h (κ.1 4 i) / 2) else 0)
    have := le i
    split <;> omega
  · by_cases em : m = n
    · subst em
      refine ⟨[], ?_, fun x hx => by cases hx⟩
      show va_up (a_rt a) m [] m = [] ++ (k_srt κ m []).2.2 m
      rw [va_up_self, se]
      rfl
    · obtain ⟨dr, y1, y2⟩ := K.2.2.2.2.2.2 m hm hkm
      refine ⟨dr, ?_, y2⟩
      show va_up (a_rt a) n [] m = dr ++ (k_srt κ n []).2.2 m
      rw [va_up_ne _ _ em, ne m em]
      exact y1
end KRW
section KRR
variable {M : hpM} {G : hpG} {y : MethodName} {cc : ByteArray} {nL d : Nat} {h0 h : hpT} {Q : State → Prop} {pc : Nat} {lo : Nat → Option Value} {st : List Value} {pr : Nat → Prop} {B : hpT} {N S : Nat} {κ : kS} {a : aS} {n idx : Nat}
/-- a field that keepers and workers have -/
theorem kg_N (C : hp_F M G y cc nL d h0) (K : KR G pr B N S h κ a) (hn : n < a_mk a) (hb : a_nd a 0 n = 0 ∨ a_nd a 0 n = 1) {j : Nat} (hj : j < 5) (f2 : hp_FL y.cls idx 2 j) (f4 : hp_FL y.cls idx 4 j) {v : Value} (dd : decode cc pc = .ok (.getfield idx, 3)) (ev : hp_fl h (64 + j) (κ.1 0 n) = v) (kk : hp_V M G nL Q h (pc + 3) lo (v :: st)) : hp_V M G nL Q h pc lo (.ref (κ.1 0 n) :: st) := by
  rcases hb with hb | hb
  · exact hp_get C f4 dd (K.isW hn hb) (by unfold hp_fd; rw [if_pos rfl, if_pos hj]; exact ev) kk
  · exact hp_get C f2 dd (K.isK hn hb) ev kk
theorem kp_68K (C : hp_F M G y cc nL d h0) (K : KR G pr B N S h κ a) (hn : n < a_mk a) (hk : a_nd a 0 n = 1) (fl : hp_FL y.cls idx 2 4) {v : Int32} (x : Int) (ev : v = Int32.ofInt x) (dd : decode cc pc = .ok (.putfield idx, 3)) (kk : ∀ h', KR G pr B N S h' κ (a_sn a 3 n x) → hp_V M G nL Q h' (pc + 3) lo st) : hp_V M G nL Q h pc lo (.int v :: .ref (κ.1 0 n) :: st) := by
  subst ev
  exact hp_putf C fl rfl rfl rfl dd (K.isK hn hk) (kk _ (K.p68 hn x))
theorem kp_68W (C : hp_F M G y cc nL d h0) (K : KR G pr B N S h κ a) (hn : n < a_mk a) (hk : a_nd a 0 n = 0) (fl : hp_FL y.cls idx 4 4) {v : Int32} (x : Int) (ev : v = Int32.ofInt x) (dd : decode cc pc = .ok (.putfield idx, 3)) (kk : ∀ h', KR G pr B N S h' κ (a_sn a 3 n x) → hp_V M G nL Q h' (pc + 3) lo st) : hp_V M G nL Q h pc lo (.int v :: .ref (κ.1 0 n) :: st) := by
  subst ev
  exact hp_putf C fl rfl rfl rfl dd (K.isW hn hk) (kk _ (K.p68 hn x))
theorem kp_136W (C : hp_F M G y cc nL d h0) (K : KR G pr B N S h κ a) (hn : n < a_mk a) (hk : a_nd a 0 n = 0) (fl : hp_FL y.cls idx 4 8) {v : Int32} (x : Int) (ev : v = Int32.ofInt x) (dd : decode cc pc = .ok (.putfield idx, 3)) (kk : ∀ h', KR G pr B N S h' κ (a_sn a 11 n x) → hp_V M G nL Q h' (pc + 3) lo st) : hp_V M G nL Q h pc lo (.int v :: .ref (κ.1 0 n) :: st) := by
  subst ev
  exact hp_putf C fl rfl rfl rfl dd (K.isW hn hk) (kk _ (K.p136 hn hk x))
theorem kp_71K (C : hp_F M G y cc nL d h0) (K : KR G pr B N S h κ a) (hn : n < a_mk a) (hk : a_nd a 0 n = 1) (fl : hp_FL y.cls idx 2 7) {v : Int32} (x : Int) (ev : v = Int32.ofInt x) (dd : decode cc pc = .ok (.putfield idx, 3)) (kk : ∀ h', KR G pr B N S h' κ (a_sn a 5 n x) → hp_V M G nL Q h' (pc + 3) lo st) : hp_V M G nL Q h pc lo (.int v :: .ref (κ.1 0 n) :: st) := by
  subst ev
  exact hp_putf C fl rfl rfl rfl dd (K.isK hn hk) (kk _ (K.p71 hn hk x))
theorem kp_72K (C : hp_F M G y cc nL d h0) (K : KR G pr B N S h κ a) (hn : n < a_mk a) (hk : a_nd a 0 n = 1) (fl : hp_FL y.cls idx 2 8) {v : Int32} (x : Int) (ev : v = Int32.ofInt x) (dd : decode cc pc = .ok (.putfield idx, 3)) (kk : ∀ h', KR G pr B N S h' κ (a_sn a 6 n x) → hp_V M G nL Q h' (pc + 3) lo st) : hp_V M G nL Q h pc lo (.int v :: .ref (κ.1 0 n) :: st) := by
  subst ev
  exact hp_putf C fl rfl rfl rfl dd (K.isK hn hk) (kk _ (K.p72 hn hk x))
theorem kp_73K (C : hp_F M G y cc nL d h0) (K : KR G pr B N S h κ a) (hn : n < a_mk a) (hk : a_nd a 0 n = 1) (fl : hp_FL y.cls idx 2 9) {v : Int32} (x : Int) (ev : v = Int32.ofInt x) (dd : decode cc pc = .ok (.putfield idx, 3)) (kk : ∀ h', KR G pr B N S h' κ (a_sn a 7 n x) → hp_V M G nL Q h' (pc + 3) lo st) : hp_V M G nL Q h pc lo (.int v :: .ref (κ.1 0 n) :: st) := by
  subst ev
  exact hp_putf C fl rfl rfl rfl dd (K.isK hn hk) (kk _ (K.p73 hn hk x))
theorem kp_68N (C : hp_F M G y cc nL d h0) (K : KR G pr B N S h κ a) (hn : n < a_mk a) (hb : a_nd a 0 n = 0 ∨ a_nd a 0 n = 1) (f2 : hp_FL y.cls idx 2 4) (f4 : hp_FL y.cls idx 4 4) {v : Int32} (x : Int) (ev : v = Int32.ofInt x) (dd : decode cc pc = .ok (.putfield idx, 3)) (kk : ∀ h', KR G pr B N S h' κ (a_sn a 3 n x) → hp_V M G nL Q h' (pc + 3) lo st) : hp_V M G nL Q h pc lo (.int v :: .ref (κ.1 0 n) :: st) := by
  rcases hb with hb | hb
  · exact kp_68W C K hn hb f4 x ev dd kk
  · exact kp_68K C K hn hb f2 x ev dd kk
theorem kp_33 (C : hp_F M G y cc nL d h0) (K : KR G pr B N S h κ a) (fl : hp_FL y.cls idx 1 1) {v : Int32} (t : Nat) (ev : v = nI t) (ht : a_tm a ≤ t) (dd : decode cc pc = .ok (.putfield idx, 3)) (kk : ∀ h', KR G pr B N S h' κ (a_st a t) → hp_V M G nL Q h' (pc + 3) lo st) : hp_V M G nL Q h pc lo (.int v :: .ref (κ.1 5 1) :: st) := by
  subst ev
  exact hp_putf C fl rfl rfl rfl dd K.isJ (kk _ (K.time ht))
theorem kp_164 (C : hp_F M G y cc nL d h0) (K : KR G pr B N S h κ a) (fl : hp_FL y.cls idx 5 4) {v : Int32} (t : Nat) (ev : v = nI t) (dd : decode cc pc = .ok (.putfield idx, 3)) (kk : ∀ h', KR G pr B N S h' κ (a_srs a t) → hp_V M G nL Q h' (pc + 3) lo st) : hp_V M G nL Q h pc lo (.int v :: .ref (κ.1 5 0) :: st) := by
  subst ev
  exact hp_putf C fl rfl rfl rfl dd K.isT (kk _ (K.rs t))
theorem kp_165 (C : hp_F M G y cc nL d h0) (K : KR G pr B N S h κ a) (fl : hp_FL y.cls idx 5 5) {v : Int32} (t : Nat) (ev : v = nI t) (dd : decode cc pc = .ok (.putfield idx, 3)) (kk : ∀ h', KR G pr B N S h' κ (a_sgv a t) → hp_V M G nL Q h' (pc + 3) lo st) : hp_V M G nL Q h pc lo (.int v :: .ref (κ.1 5 0) :: st) := by
  subst ev
  exact hp_putf C fl rfl rfl rfl dd K.isT (kk _ (K.gv t))
end KRR
/-! ===== the journal, a worker's own methods, the restarts' times ===== -/
section KRL
variable {M : hpM} {G : hpG} {y : MethodName} {cc : ByteArray} {nL d : Nat} {h0 h : hpT} {Q : State → Prop} {pc : Nat} {lo : Nat → Option Value} {st : List Value} {pr : Nat → Prop} {B : hpT} {N S : Nat} {κ : kS} {a : aS} {n idx : Nat}
theorem hp_dlt (C : hp_F M G y cc nL d h0) : hp_dE G < hp_n0 G := C.en.2.2.2.2.2.2.1
/-- an event's number is written behind those that are told -/
theorem ks_col (C : hp_F M G y cc nL d h0) (K : KR G pr B N S h κ a) (j : Nat) (hj : j < 4) (hL : (a_ev a).length < 600) {v : Int32} (dd : decode cc pc = .ok (.iastore, 1))
    (kk : ∀ h', KR G pr B N S h' κ a → hp_ar h' (κ.1 5 (3 + j)) (a_ev a).length = .int v → (∀ i, i < 4 → i ≠ j → hp_ar h' (κ.1 5 (3 + i)) (a_ev a).length = hp_ar h (κ.1 5 (3 + i)) (a_ev a).length) → hp_V M G nL Q h' (pc + 1) lo st) : hp_V M G nL Q h pc lo (.int v :: .int (nI (a_ev a).length) :: .ref (κ.1 5 (3 + j)) :: st) := by
  have e1 := nI_clamp (n := (a_ev a).length) (by omega)
  refine hp_iast C dd (K.isc hj).1 (by rw [(K.isc hj).2]; exact nI_in hL (by omega)) ?_
  rw [e1]
  refine kk _ (K.set (K.1.2.2.2.2.2.1 j hj).1.2 (fun r n i ok e => ?_)) ?_ (fun i hi hij => ?_)
  · obtain ⟨r1, r2⟩ := K.dis (hp_dlt C) (K.rok ok) (Or.inr (Or.inr (Or.inr (Or.inl ⟨rfl, by omega, by omega⟩)))) e
    subst r1 r2
    rcases ok with ⟨h1, -⟩ | ⟨h1, -⟩ | ⟨-, h1, -⟩ | ⟨-, -, -, -, h5⟩ | ⟨-, h1, -⟩ <;> omega
  · rw [hp_set_ar, if_pos rfl, if_pos rfl]
  · rw [hp_set_ar, if_neg]
    intro z
    exact hij (K.2.1.2.2.2 i j hi hj z)
end KRL
set_option maxRecDepth 20000 in
set_option maxHeartbeats 4000000 in
theorem kc_tell {l : Launch} {G : hpG} {pr : Nat → Prop} {B : hpT} {N S : Nat} {h : hpT} {κ : kS} {a : aS} {d : Nat} (K : KR G pr B N S h κ a) {w n r : Nat} (hl : (a_ev a).length < 2 ^ 30) : hp_C l G yX0_tell (.code yX0_tell cX0_tell 4 none) d [.ref (κ.1 5 1), .int (nI w), .int (nI n), .int (nI r)] (h) (fun v h' => v = none ∧ KR G pr B N S h' κ (a_no a w n r)) (fun _ _ => False) := by
  refine hp_ofV (by decide) (by simp [Value.category]) (Nat.le_of_ble_eq_true rfl) (fun M C hr hx el => ?_)
  refine hp_aload_nR C dX0_tell_0 rfl ?_
  refine hp_get C fl_X0_20_1 dX0_tell_1 K.isJ K.f34 ?_
  refine hp_sipush (v := 600) C dX0_tell_4 (by decide) ?_
  refine hp_icmp_ge (tgt := 61) C dX0_tell_7 (by decide) (fun c_7 => ?_) (fun c_7 => ?_)
  · refine hp_aload_nR C dX0_tell_61 rfl ?_
    refine hp_dup C dX0_tell_62 rfl ?_
    refine hp_get C fl_X0_20_1 dX0_tell_63 K.isJ K.f34 ?_
    refine hp_iconst (v := 1) C dX0_tell_66 (by decide) ?_
    refine hp_iadd C dX0_tell_67 ?_
    rw [nI_1]
    refine hp_putf C fl_X0_20_1 rfl rfl rfl dX0_tell_68 K.isJ ?_
    refine hp_vret C hr dX0_tell_71 ?_
    exact ⟨rfl, K.tell (fun hL_ => absurd hL_ (by have := (nI_leI (a := 600) (b := (a_ev a).length) (by omega) (by omega)).mp c_7; omega))⟩
  · have hL : (a_ev a).length < 600 := by
      have := (not_congr (nI_leI (a := 600) (b := (a_ev a).length) (by omega) (by omega))).mp c_7
      omega
    refine hp_aload_nR C dX0_tell_10 rfl ?_
    refine hp_get C fl_X0_13_1 dX0_tell_11 K.isJ K.f32 ?_
    refine hp_iconst (v := 0) C dX0_tell_14 (by decide) ?_
    refine hp_aald C 5 rfl rfl (by decide) dX0_tell_15 K.isC.1 (by rw [K.isC.2]; unfold vp_in; decide) (K.col (i := 0) (by decide)) ?_
    refine hp_aload_nR C dX0_tell_16 rfl ?_
    refine hp_get C fl_X0_20_1 dX0_tell_17 K.isJ K.f34 ?_
    refine hp_iload_n C dX0_tell_20 rfl ?_
    refine ks_col C K 0 (by decide) hL dX0_tell_21 (fun h_21 K_21 x_21 y_21 => ?_)
    refine hp_aload_nR C dX0_tell_22 rfl ?_
    refine hp_get C fl_X0_13_1 dX0_tell_23 K_21.isJ K_21.f32 ?_
    refine hp_iconst (v := 1) C dX0_tell_26 (by decide) ?_
    refine hp_aald C 5 rfl rfl (by decide) dX0_tell_27 K_21.isC.1 (by rw [K_21.isC.2]; unfold vp_in; decide) (K_21.col (i := 1) (by decide)) ?_
    refine hp_aload_nR C dX0_tell_28 rfl ?_
    refine hp_get C fl_X0_20_1 dX0_tell_29 K_21.isJ K_21.f34 ?_
    refine hp_iload_n C dX0_tell_32 rfl ?_
    refine ks_col C K_21 1 (by decide) hL dX0_tell_33 (fun h_33 K_33 x_33 y_33 => ?_)
    refine hp_aload_nR C dX0_tell_34 rfl ?_
    refine hp_get C fl_X0_13_1 dX0_tell_35 K_33.isJ K_33.f32 ?_
    refine hp_iconst (v := 2) C dX0_tell_38 (by decide) ?_
    refine hp_aald C 5 rfl rfl (by decide) dX0_tell_39 K_33.isC.1 (by rw [K_33.isC.2]; unfold vp_in; decide) (K_33.col (i := 2) (by decide)) ?_
    refine hp_aload_nR C dX0_tell_40 rfl ?_
    refine hp_get C fl_X0_20_1 dX0_tell_41 K_33.isJ K_33.f34 ?_
    refine hp_aload_nR C dX0_tell_44 rfl ?_
    refine hp_get C fl_X0_16_1 dX0_tell_45 K_33.isJ K_33.f33 ?_
    refine ks_col C K_33 2 (by decide) hL dX0_tell_48 (fun h_48 K_48 x_48 y_48 => ?_)
    refine hp_aload_nR C dX0_tell_49 rfl ?_
    refine hp_get C fl_X0_13_1 dX0_tell_50 K_48.isJ K_48.f32 ?_
    refine hp_iconst (v := 3) C dX0_tell_53 (by decide) ?_
    refine hp_aald C 5 rfl rfl (by decide) dX0_tell_54 K_48.isC.1 (by rw [K_48.isC.2]; unfold vp_in; decide) (K_48.col (i := 3) (by decide)) ?_
    refine hp_aload_nR C dX0_tell_55 rfl ?_
    refine hp_get C fl_X0_20_1 dX0_tell_56 K_48.isJ K_48.f34 ?_
    refine hp_iload_n C dX0_tell_59 rfl ?_
    refine ks_col C K_48 3 (by decide) hL dX0_tell_60 (fun h_60 K_60 x_60 y_60 => ?_)
    have hw : ∀ j, j < 4 → hp_ar h_60 (κ.1 5 (3 + j)) (a_ev a).length = .int (nI (k_ec j (w, n, a_tm a, r))) := by
      intro j hj
      have q : j = 0 ∨ j = 1 ∨ j = 2 ∨ j = 3 := by omega
      rcases q with rfl | rfl | rfl | rfl
      · exact (y_60 0 (by decide) (by decide)).trans ((y_48 0 (by decide) (by decide)).trans ((y_33 0 (by decide) (by decide)).trans x_21))
      · exact (y_60 1 (by decide) (by decide)).trans ((y_48 1 (by decide) (by decide)).trans x_33)
      · exact (y_60 2 (by decide) (by decide)).trans x_48
      · exact x_60
    refine hp_aload_nR C dX0_tell_61 rfl ?_
    refine hp_dup C dX0_tell_62 rfl ?_
    refine hp_get C fl_X0_20_1 dX0_tell_63 K_60.isJ K_60.f34 ?_
    refine hp_iconst (v := 1) C dX0_tell_66 (by decide) ?_
    refine hp_iadd C dX0_tell_67 ?_
    rw [nI_1]
    refine hp_putf C fl_X0_20_1 rfl rfl rfl dX0_tell_68 K_60.isJ ?_
    refine hp_vret C hr dX0_tell_71 ?_
    exact ⟨rfl, K_60.tell (fun hL_ => hw)⟩
/-- the tree's own facts: kinds, depths, rows; ranges of the numbers -/
def a_T (a : aS) : Prop := (1 ≤ a_mk a ∧ a_mk a ≤ 80) ∧
  (∀ n, n < a_mk a → (a_nd a 0 n = 0 ∨ a_nd a 0 n = 1) ∧ (0 ≤ a_nd a 2 n ∧ a_nd a 2 n ≤ 8) ∧ (0 ≤ a_nd a 4 n ∧ a_nd a 4 n ≤ 2) ∧ (0 ≤ a_nd a 5 n ∧ a_nd a 5 n ≤ 2) ∧ (0 ≤ a_nd a 6 n ∧ a_nd a 6 n ≤ 50) ∧ (0 ≤ a_nd a 7 n ∧ a_nd a 7 n ≤ 1000) ∧ (-1 ≤ a_nd a 8 n ∧ a_nd a 8 n ≤ 1000) ∧ (0 ≤ a_nd a 9 n ∧ a_nd a 9 n ≤ 100) ∧ (0 ≤ a_nd a 10 n ∧ a_nd a 10 n ≤ 100) ∧ (n ≠ 0 → 0 ≤ a_nd a 1 n ∧ a_nd a 1 n < n)) ∧
  (∀ n, n < a_mk a → 0 ≤ a_nd a 3 n ∧ a_nd a 3 n ≤ 2) ∧ (∀ n, n < a_mk a → 0 ≤ a_nd a 11 n ∧ a_nd a 11 n ≤ 50) ∧
  (∀ n, n < a_mk a → a_nd a 0 n = 0 → a_rw a n = []) ∧ (∀ n, n < a_mk a → (a_rw a n).length ≤ 79 ∧ (a_rw a n).Nodup ∧ ∀ c, c ∈ a_rw a n → c < a_mk a ∧ a_nd a 1 c = n ∧ a_nd a 2 c = a_nd a 2 n + 1)
/-- the times of the restarts ascend, none is ahead of TIME -/
def a_A (a : aS) : Prop := ∀ n, n < a_mk a → (a_rt a n).Pairwise (· ≤ ·) ∧ ∀ x, x ∈ a_rt a n → x ≤ a_tm a
section AT
variable {a : aS} {n : Nat}
theorem a_T.kb (T : a_T a) (hn : n < a_mk a) : a_nd a 0 n = 0 ∨ a_nd a 0 n = 1 := (T.2.1 n hn).1
theorem a_T.r2 (T : a_T a) (hn : n < a_mk a) : 0 ≤ a_nd a 2 n ∧ a_nd a 2 n ≤ 8 := (T.2.1 n hn).2.1
theorem a_T.r4 (T : a_T a) (hn : n < a_mk a) : 0 ≤ a_nd a 4 n ∧ a_nd a 4 n ≤ 2 := (T.2.1 n hn).2.2.1
theorem a_T.r5 (T : a_T a) (hn : n < a_mk a) : 0 ≤ a_nd a 5 n ∧ a_nd a 5 n ≤ 2 := (T.2.1 n hn).2.2.2.1
theorem a_T.r6 (T : a_T a) (hn : n < a_mk a) : 0 ≤ a_nd a 6 n ∧ a_nd a 6 n ≤ 50 := (T.2.1 n hn).2.2.2.2.1
theorem a_T.r7 (T : a_T a) (hn : n < a_mk a) : 0 ≤ a_nd a 7 n ∧ a_nd a 7 n ≤ 1000 := (T.2.1 n hn).2.2.2.2.2.1
theorem a_T.r8 (T : a_T a) (hn : n < a_mk a) : -1 ≤ a_nd a 8 n ∧ a_nd a 8 n ≤ 1000 := (T.2.1 n hn).2.2.2.2.2.2.1
theorem a_T.r9 (T : a_T a) (hn : n < a_mk a) : 0 ≤ a_nd a 9 n ∧ a_nd a 9 n ≤ 100 := (T.2.1 n hn).2.2.2.2.2.2.2.1
theorem a_T.r10 (T : a_T a) (hn : n < a_mk a) : 0 ≤ a_nd a 10 n ∧ a_nd a 10 n ≤ 100 := (T.2.1 n hn).2.2.2.2.2.2.2.2.1
theorem a_T.r1 (T : a_T a) (hn : n < a_mk a) (h0 : n ≠ 0) : 0 ≤ a_nd a 1 n ∧ a_nd a 1 n < n := (T.2.1 n hn).2.2.2.2.2.2.2.2.2 h0
theorem a_T.r3 (T : a_T a) (hn : n < a_mk a) : 0 ≤ a_nd a 3 n ∧ a_nd a 3 n ≤ 2 := T.2.2.1 n hn
theorem a_T.r11 (T : a_T a) (hn : n < a_mk a) : 0 ≤ a_nd a 11 n ∧ a_nd a 11 n ≤ 50 := T.2.2.2.1 n hn
theorem a_T.rc (T : a_T a) (hn : n < a_mk a) {c : Nat} (hc : c ∈ a_rw a n) : c < a_mk a ∧ a_nd a 1 c = n ∧ a_nd a 2 c = a_nd a 2 n + 1 := (T.2.2.2.2.2 n hn).2.2 c hc
theorem a_T.nd (T : a_T a) (hn : n < a_mk a) : (a_rw a n).Nodup := (T.2.2.2.2.2 n hn).2.1
theorem a_T.rl (T : a_T a) (hn : n < a_mk a) : (a_rw a n).length ≤ 79 := (T.2.2.2.2.2 n hn).1
end AT
theorem a_ofN {x : Int} (h : 0 ≤ x) : Int32.ofInt x = nI x.toNat := by
  have : x = ((x.toNat : Nat) : Int) := (Int.toNat_of_nonneg h).symm
  rw [this, Int.toNat_natCast]
  rfl
theorem a_ofI_le {x y : Int} (hx : a_sm x) (hy : a_sm y) : Int32.ofInt x ≤ Int32.ofInt y ↔ x ≤ y := by
  rw [Int32.le_iff_toInt_le, a_ofI hx, a_ofI hy]
theorem a_ofI_lt {x y : Int} (hx : a_sm x) (hy : a_sm y) : Int32.ofInt x < Int32.ofInt y ↔ x < y := by
  rw [Int32.lt_iff_toInt_lt, a_ofI hx, a_ofI hy]
theorem k_dec (x : Int32) : x + Int32.ofInt (-1) = x - 1 := by
  rw [Int32.sub_eq_add_neg]
  rfl
theorem a_ofI_pred (x : Int) : Int32.ofInt x - 1 = Int32.ofInt (x - 1) := (Int32.ofInt_sub x 1).symm
theorem a_end_w {a : aS} {n : Nat} (hw : a_nd a 0 n = 0) {x : Nat} (hx : a_long a n = x) {b : Bool} (hb : a_dies a n = b) : a_no (a_sn (a_st a (a_tm a + x)) 3 n 0) (if b = true then 4 else 3) n 0 = a_end false n a := by
  unfold a_end
  rw [if_pos (show a_nd a 0 n = 0 ∧ false = false from ⟨hw, rfl⟩), hx, hb]
theorem a_go_w {a : aS} {n d : Nat} (hw : a_nd a 0 n = 0) : a_go (d + 1) n a = (if 0 < a_nd a 11 n then (false, a_no (a_sn (a_sn (a_st a (a_tm a + (a_nd a 9 n).toNat)) 11 n (a_nd a 11 n - 1)) 3 n 0) 2 n 0) else (true, a_no (a_sn (a_st a (a_tm a + (a_nd a 9 n).toNat)) 3 n 1) 1 n 0)) := by
  show (if a_nd a 0 n = 0 then _ else _) = _
  rw [if_pos hw]
def a_evt (a : aS) (i : Int32) (j : Nat) : Int32 := if 0 ≤ i.toInt ∧ i.toInt < (a_ev a).length ∧ i.toInt < 600 then nI (k_ec j ((a_ev a).getD i.toInt.toNat (0, 0, 0, 0))) else -1
set_option maxRecDepth 20000 in
set_option maxHeartbeats 4000000 in
theorem kc_settle0 {l : Launch} {G : hpG} {pr : Nat → Prop} {B : hpT} {N S : Nat} {h : hpT} {κ : kS} {a : aS} {d : Nat} (K : KR G pr B N S h κ a) {n : Nat} (hn : n < a_mk a) (hb : a_nd a 0 n = 0 ∨ a_nd a 0 n = 1) (hl : (a_ev a).length < 2 ^ 30) (hd : 1 ≤ d) : hp_C l G yX2_settle (.code yX2_settle cX2_settle 3 (some .boolean)) d [.ref (κ.1 0 n), .int 0, .ref (κ.1 5 1)] (h) (fun v h' => v = some (.int 1) ∧ KR G pr B N S h' κ (a_no (a_sn a 3 n 1) 1 n 0)) (fun _ _ => False) := by
  refine hp_ofV (by decide) (by simp [Value.category]) (Nat.le_of_ble_eq_true rfl) (fun M C hr hx el => ?_)
  refine hp_aload_nR C dX2_settle_0 rfl ?_
  refine hp_iload_n C dX2_settle_1 rfl ?_
  refine hp_if_eq (tgt := 9) C dX2_settle_2 (by decide) (fun _ => ?_) (fun z_9 => absurd z_9 (by decide))
  refine hp_iconst (v := 1) C dX2_settle_9 (by decide) ?_
  refine kp_68N C K hn hb fl_X2_9_2 fl_X2_9_4 1 (by decide) dX2_settle_10 (fun h_10 K_10 => ?_)
  refine hp_aload_nR C dX2_settle_13 rfl ?_
  refine hp_iload_n C dX2_settle_14 rfl ?_
  refine hp_if_eq (tgt := 22) C dX2_settle_15 (by decide) (fun _ => ?_) (fun z_9 => absurd z_9 (by decide))
  refine hp_iconst (v := 1) C dX2_settle_22 (by decide) ?_
  refine hp_aload_nR C dX2_settle_23 rfl ?_
  refine kg_N C K_10 hn hb (by decide) fl_X2_15_2 fl_X2_15_4 dX2_settle_24 (K_10.f64 hn) ?_
  refine hp_iconst (v := 0) C dX2_settle_27 (by decide) ?_
  refine hp_callV (ci := 1) C ml_X2_31 im_X0_tell se_X0_tell rfl (by decide) (kc_tell (d := d - 1) (w := 1) (n := n) (r := 0) K_10 hl) (by omega) dX2_settle_28 K_10.isJ rfl rfl (by simp [Value.category]) (fun v_28 h_28 hp => ?_) (fun _ _ hf => hf.elim)
  obtain ⟨rfl, K_28⟩ := hp
  refine hp_iload_n C dX2_settle_31 rfl ?_
  refine hp_if_ne (tgt := 39) C dX2_settle_32 (by decide) (fun z_9 => absurd z_9 (by decide)) (fun _ => ?_)
  refine hp_iconst (v := 1) C dX2_settle_35 (by decide) ?_
  refine hp_goto (tgt := 40) C dX2_settle_36 (by decide) ?_
  refine hp_iret C hr (by decide) dX2_settle_40 ?_
  exact ⟨rfl, K_28⟩
set_option maxRecDepth 20000 in
set_option maxHeartbeats 4000000 in
theorem kc_settle1 {l : Launch} {G : hpG} {pr : Nat → Prop} {B : hpT} {N S : Nat} {h : hpT} {κ : kS} {a : aS} {d : Nat} (K : KR G pr B N S h κ a) {n : Nat} (hn : n < a_mk a) (hb : a_nd a 0 n = 0 ∨ a_nd a 0 n = 1) (hl : (a_ev a).length < 2 ^ 30) (hd : 1 ≤ d) : hp_C l G yX2_settle (.code yX2_settle cX2_settle 3 (some .boolean)) d [.ref (κ.1 0 n), .int 1, .ref (κ.1 5 1)] (h) (fun v h' => v = some (.int 0) ∧ KR G pr B N S h' κ (a_no (a_sn a 3 n 0) 2 n 0)) (fun _ _ => False) := by
  refine hp_ofV (by decide) (by simp [Value.category]) (Nat.le_of_ble_eq_true rfl) (fun M C hr hx el => ?_)
  refine hp_aload_nR C dX2_settle_0 rfl ?_
  refine hp_iload_n C dX2_settle_1 rfl ?_
  refine hp_if_eq (tgt := 9) C dX2_settle_2 (by decide) (fun z_9 => absurd z_9 (by decide)) (fun _ => ?_)
  refine hp_iconst (v := 0) C dX2_settle_5 (by decide) ?_
  refine hp_goto (tgt := 10) C dX2_settle_6 (by decide) ?_
  refine kp_68N C K hn hb fl_X2_9_2 fl_X2_9_4 0 (by decide) dX2_settle_10 (fun h_10 K_10 => ?_)
  refine hp_aload_nR C dX2_settle_13 rfl ?_
  refine hp_iload_n C dX2_settle_14 rfl ?_
  refine hp_if_eq (tgt := 22) C dX2_settle_15 (by decide) (fun z_9 => absurd z_9 (by decide)) (fun _ => ?_)
  refine hp_iconst (v := 2) C dX2_settle_18 (by decide) ?_
  refine hp_goto (tgt := 23) C dX2_settle_19 (by decide) ?_
  refine hp_aload_nR C dX2_settle_23 rfl ?_
  refine kg_N C K_10 hn hb (by decide) fl_X2_15_2 fl_X2_15_4 dX2_settle_24 (K_10.f64 hn) ?_
  refine hp_iconst (v := 0) C dX2_settle_27 (by decide) ?_
  refine hp_callV (ci := 1) C ml_X2_31 im_X0_tell se_X0_tell rfl (by decide) (kc_tell (d := d - 1) (w := 2) (n := n) (r := 0) K_10 hl) (by omega) dX2_settle_28 K_10.isJ rfl rfl (by simp [Value.category]) (fun v_28 h_28 hp => ?_) (fun _ _ hf => hf.elim)
  obtain ⟨rfl, K_28⟩ := hp
  refine hp_iload_n C dX2_settle_31 rfl ?_
  refine hp_if_ne (tgt := 39) C dX2_settle_32 (by decide) (fun _ => ?_) (fun z_9 => absurd z_9 (by decide))
  refine hp_iconst (v := 0) C dX2_settle_39 (by decide) ?_
  refine hp_iret C hr (by decide) dX2_settle_40 ?_
  exact ⟨rfl, K_28⟩
set_option maxRecDepth 20000 in
set_option maxHeartbeats 4000000 in
theorem kc_riseW {l : Launch} {G : hpG} {pr : Nat → Prop} {B : hpT} {N S : Nat} {h : hpT} {κ : kS} {a : aS} {d : Nat} (K : KR G pr B N S h κ a) {n q : Nat} (T : a_T a) (hn : n < a_mk a) (hk : a_nd a 0 n = 0) (hl : (a_ev a).length < 2 ^ 30) (hd : 2 ≤ d) : hp_C l G yX4_rise (.code yX4_rise cX4_rise 3 (some .boolean)) d [.ref (κ.1 0 n), .ref (κ.1 5 1)] (h) (fun v h' => v = some (.int (if (a_go (q + 1) n a).1 = true then 1 else 0)) ∧ ∃ ρ', KR G pr B N S h' (κ.1, κ.2.1, ρ') (a_go (q + 1) n a).2) (fun _ _ => False) := by
  rw [a_go_w hk]
  have r9 := T.r9 hn
  have r11 := T.r11 hn
  refine hp_ofV (by decide) (by simp [Value.category]) (Nat.le_of_ble_eq_true rfl) (fun M C hr hx el => ?_)
  refine hp_aload_nR C dX4_rise_0 rfl ?_
  refine hp_dup C dX4_rise_1 rfl ?_
  refine hp_get C fl_X4_24_1 dX4_rise_2 K.isJ K.f33 ?_
  refine hp_aload_nR C dX4_rise_5 rfl ?_
  refine hp_get C fl_X4_15_4 dX4_rise_6 (K.isW hn hk) (K.f134 hn hk) ?_
  refine hp_iadd C dX4_rise_9 ?_
  refine kp_33 C K fl_X4_24_1 (a_tm a + (a_nd a 9 n).toNat) (by rw [a_ofN r9.1, nI_add]) (Nat.le_add_right _ _) dX4_rise_10 (fun h_10 K_10 => ?_)
  refine hp_aload_nR C dX4_rise_13 rfl ?_
  refine hp_get C fl_X4_21_4 dX4_rise_14 (K_10.isW hn hk) (K_10.f136 hn hk) ?_
  refine hp_if_le (tgt := 24) C dX4_rise_17 (by decide) (fun c_17 => ?_) (fun c_17 => ?_)
  · have hp : ¬ 0 < a_nd a 11 n := by
      have := (a_ofI_le (x := a_nd a 11 n) (y := 0) (by omega) (by omega)).mp c_17
      omega
    rw [if_neg hp]
    refine hp_iconst (v := 0) C dX4_rise_24 (by decide) ?_
    refine hp_istore_n C dX4_rise_25 (by decide) ?_
    refine hp_iload_n C dX4_rise_26 rfl ?_
    refine hp_if_eq (tgt := 40) C dX4_rise_27 (by decide) (fun _ => ?_) (fun z_9 => absurd z_9 (by decide))
    refine hp_aload_nR C dX4_rise_40 rfl ?_
    refine hp_iload_n C dX4_rise_41 rfl ?_
    refine hp_aload_nR C dX4_rise_42 rfl ?_
    refine hp_callU C 4 ul_X4_29_X4 rfl (by decide) (kc_settle0 (d := d - 1) K_10 hn (Or.inl hk) hl (by omega)) (by omega) dX4_rise_43 (K_10.isW hn hk) rfl rfl (by simp [Value.category]) (fun v_43 h_43 hp => ?_)
    obtain ⟨rfl, K_43⟩ := hp
    refine hp_iret C hr (by decide) dX4_rise_46 ?_
    exact ⟨rfl, κ.2.2, K_43⟩
  · have hp : 0 < a_nd a 11 n := by
      have := (not_congr (a_ofI_le (x := a_nd a 11 n) (y := 0) (by omega) (by omega))).mp c_17
      omega
    rw [if_pos hp]
    refine hp_iconst (v := 1) C dX4_rise_20 (by decide) ?_
    refine hp_goto (tgt := 25) C dX4_rise_21 (by decide) ?_
    refine hp_istore_n C dX4_rise_25 (by decide) ?_
    refine hp_iload_n C dX4_rise_26 rfl ?_
    refine hp_if_eq (tgt := 40) C dX4_rise_27 (by decide) (fun z_9 => absurd z_9 (by decide)) (fun _ => ?_)
    refine hp_aload_nR C dX4_rise_30 rfl ?_
    refine hp_dup C dX4_rise_31 rfl ?_
    refine hp_get C fl_X4_21_4 dX4_rise_32 (K_10.isW hn hk) (K_10.f136 hn hk) ?_
    refine hp_iconst (v := 1) C dX4_rise_35 (by decide) ?_
    refine hp_isub C dX4_rise_36 ?_
    refine kp_136W C K_10 hn hk fl_X4_21_4 (a_nd a 11 n - 1) (a_ofI_pred _) dX4_rise_37 (fun h_37 K_37 => ?_)
    refine hp_aload_nR C dX4_rise_40 rfl ?_
    refine hp_iload_n C dX4_rise_41 rfl ?_
    refine hp_aload_nR C dX4_rise_42 rfl ?_
    refine hp_callU C 4 ul_X4_29_X4 rfl (by decide) (kc_settle1 (d := d - 1) K_37 hn (Or.inl hk) hl (by omega)) (by omega) dX4_rise_43 (K_37.isW hn hk) rfl rfl (by simp [Value.category]) (fun v_43 h_43 hp => ?_)
    obtain ⟨rfl, K_43⟩ := hp
    refine hp_iret C hr (by decide) dX4_rise_46 ?_
    exact ⟨rfl, κ.2.2, K_43⟩
set_option maxRecDepth 20000 in
set_option maxHeartbeats 4000000 in
theorem kc_fallW {l : Launch} {G : hpG} {pr : Nat → Prop} {B : hpT} {N S : Nat} {h : hpT} {κ : kS} {a : aS} {d : Nat} (K : KR G pr B N S h κ a) {n : Nat} (T : a_T a) (hn : n < a_mk a) (hk : a_nd a 0 n = 0) (hl : (a_ev a).length < 2 ^ 30) (hd : 2 ≤ d) : hp_C l G yX4_fall (.code yX4_fall cX4_fall 3 none) d [.ref (κ.1 0 n), .ref (κ.1 5 1)] (h) (fun v h' => v = none ∧ KR G pr B N S h' κ (a_end false n a)) (fun _ _ => False) := by
  have r8 := T.r8 hn
  have r10 := T.r10 hn
  refine hp_ofV (by decide) (by simp [Value.category]) (Nat.le_of_ble_eq_true rfl) (fun M C hr hx el => ?_)
  refine hp_aload_nR C dX4_fall_0 rfl ?_
  refine hp_get C fl_X4_9_4 dX4_fall_1 (K.isW hn hk) (K.f133 hn hk) ?_
  refine hp_iconst (v := (-1)) C dX4_fall_4 (by decide) ?_
  refine hp_icmp_eq (tgt := 26) C dX4_fall_5 (by decide) (fun c_5 => ?_) (fun c_5 => ?_)
  · refine hp_iconst (v := 1) C dX4_fall_26 (by decide) ?_
    refine hp_goto (tgt := 31) C dX4_fall_27 (by decide) ?_
    have e8 : a_nd a 8 n = -1 := (a_ofI_eq (x := a_nd a 8 n) (y := -1) (by omega) (by omega)).mp c_5
    have lg : a_long a n = (a_nd a 10 n).toNat := by unfold a_long; rw [if_pos (Or.inl (by omega))]
    have ds : a_dies a n = false := by simp [a_dies, e8]
    refine hp_istore_n C dX4_fall_31 (by decide) ?_
    refine hp_aload_nR C dX4_fall_32 rfl ?_
    refine hp_dup C dX4_fall_33 rfl ?_
    refine hp_get C fl_X4_24_1 dX4_fall_34 K.isJ K.f33 ?_
    refine hp_iload_n C dX4_fall_37 rfl ?_
    refine hp_if_eq (tgt := 48) C dX4_fall_38 (by decide) (fun z_9 => absurd z_9 (by decide)) (fun _ => ?_)
    refine hp_aload_nR C dX4_fall_41 rfl ?_
    refine hp_get C fl_X4_18_4 dX4_fall_42 (K.isW hn hk) (K.f135 hn hk) ?_
    refine hp_goto (tgt := 52) C dX4_fall_45 (by decide) ?_
    refine hp_iadd C dX4_fall_52 ?_
    refine kp_33 C K fl_X4_24_1 (a_tm a + a_long a n) (by rw [lg, a_ofN (by omega), nI_add]) (Nat.le_add_right _ _) dX4_fall_53 (fun h_53 K_53 => ?_)
    refine hp_aload_nR C dX4_fall_56 rfl ?_
    refine hp_iconst (v := 0) C dX4_fall_57 (by decide) ?_
    refine kp_68W C K_53 hn hk fl_X4_33_4 0 (by decide) dX4_fall_58 (fun h_58 K_58 => ?_)
    refine hp_aload_nR C dX4_fall_61 rfl ?_
    refine hp_iload_n C dX4_fall_62 rfl ?_
    refine hp_if_eq (tgt := 70) C dX4_fall_63 (by decide) (fun z_9 => absurd z_9 (by decide)) (fun _ => ?_)
    refine hp_iconst (v := 3) C dX4_fall_66 (by decide) ?_
    refine hp_goto (tgt := 71) C dX4_fall_67 (by decide) ?_
    refine hp_aload_nR C dX4_fall_71 rfl ?_
    refine hp_get C fl_X4_36_4 dX4_fall_72 (K_58.isW hn hk) (K_58.f64 hn) ?_
    refine hp_iconst (v := 0) C dX4_fall_75 (by decide) ?_
    refine hp_callV (ci := 1) C ml_X4_39 im_X0_tell se_X0_tell rfl (by decide) (kc_tell (d := d - 1) (w := 3) (n := n) (r := 0) K_58 hl) (by omega) dX4_fall_76 K_58.isJ rfl rfl (by simp [Value.category]) (fun v_76 h_76 hp => ?_) (fun _ _ hf => hf.elim)
    obtain ⟨rfl, K_76⟩ := hp
    refine hp_vret C hr dX4_fall_79 ?_
    exact ⟨rfl, by rw [← a_end_w hk rfl ds]; exact K_76⟩
  · refine hp_aload_nR C dX4_fall_8 rfl ?_
    refine hp_get C fl_X4_9_4 dX4_fall_9 (K.isW hn hk) (K.f133 hn hk) ?_
    refine hp_if_le (tgt := 30) C dX4_fall_12 (by decide) (fun c_12 => ?_) (fun c_12 => ?_)
    · refine hp_iconst (v := 0) C dX4_fall_30 (by decide) ?_
      have e8 : ¬ a_nd a 8 n = -1 := fun e => c_5 (by rw [e]; decide)
      have f8 : a_nd a 8 n ≤ 0 := (a_ofI_le (x := a_nd a 8 n) (y := 0) (by omega) (by omega)).mp c_12
      have g8 : a_nd a 8 n = 0 := by omega
      have lg : a_long a n = (a_nd a 8 n).toNat := by unfold a_long; rw [if_neg (by omega)]
      have ds : a_dies a n = true := by simp [a_dies, g8]
      refine hp_istore_n C dX4_fall_31 (by decide) ?_
      refine hp_aload_nR C dX4_fall_32 rfl ?_
      refine hp_dup C dX4_fall_33 rfl ?_
      refine hp_get C fl_X4_24_1 dX4_fall_34 K.isJ K.f33 ?_
      refine hp_iload_n C dX4_fall_37 rfl ?_
      refine hp_if_eq (tgt := 48) C dX4_fall_38 (by decide) (fun _ => ?_) (fun z_9 => absurd z_9 (by decide))
      refine hp_aload_nR C dX4_fall_48 rfl ?_
      refine hp_get C fl_X4_9_4 dX4_fall_49 (K.isW hn hk) (K.f133 hn hk) ?_
      refine hp_iadd C dX4_fall_52 ?_
      refine kp_33 C K fl_X4_24_1 (a_tm a + a_long a n) (by rw [lg, a_ofN (by omega), nI_add]) (Nat.le_add_right _ _) dX4_fall_53 (fun h_53 K_53 => ?_)
      refine hp_aload_nR C dX4_fall_56 rfl ?_
      refine hp_iconst (v := 0) C dX4_fall_57 (by decide) ?_
      refine kp_68W C K_53 hn hk fl_X4_33_4 0 (by decide) dX4_fall_58 (fun h_58 K_58 => ?_)
      refine hp_aload_nR C dX4_fall_61 rfl ?_
      refine hp_iload_n C dX4_fall_62 rfl ?_
      refine hp_if_eq (tgt := 70) C dX4_fall_63 (by decide) (fun _ => ?_) (fun z_9 => absurd z_9 (by decide))
      refine hp_iconst (v := 4) C dX4_fall_70 (by decide) ?_
      refine hp_aload_nR C dX4_fall_71 rfl ?_
      refine hp_get C fl_X4_36_4 dX4_fall_72 (K_58.isW hn hk) (K_58.f64 hn) ?_
      refine hp_iconst (v := 0) C dX4_fall_75 (by decide) ?_
      refine hp_callV (ci := 1) C ml_X4_39 im_X0_tell se_X0_tell rfl (by decide) (kc_tell (d := d - 1) (w := 4) (n := n) (r := 0) K_58 hl) (by omega) dX4_fall_76 K_58.isJ rfl rfl (by simp [Value.category]) (fun v_76 h_76 hp => ?_) (fun _ _ hf => hf.elim)
      obtain ⟨rfl, K_76⟩ := hp
      refine hp_vret C hr dX4_fall_79 ?_
      exact ⟨rfl, by rw [← a_end_w hk rfl ds]; exact K_76⟩
    · refine hp_aload_nR C dX4_fall_15 rfl ?_
      refine hp_get C fl_X4_18_4 dX4_fall_16 (K.isW hn hk) (K.f135 hn hk) ?_
      refine hp_aload_nR C dX4_fall_19 rfl ?_
      refine hp_get C fl_X4_9_4 dX4_fall_20 (K.isW hn hk) (K.f133 hn hk) ?_
      refine hp_icmp_gt (tgt := 30) C dX4_fall_23 (by decide) (fun c_23 => ?_) (fun c_23 => ?_)
      · refine hp_iconst (v := 0) C dX4_fall_30 (by decide) ?_
        have e8 : ¬ a_nd a 8 n = -1 := fun e => c_5 (by rw [e]; decide)
        have f8 : ¬ a_nd a 8 n ≤ 0 := (not_congr (a_ofI_le (x := a_nd a 8 n) (y := 0) (by omega) (by omega))).mp c_12
        have g8 : a_nd a 8 n < a_nd a 10 n := (a_ofI_lt (by omega) (by omega)).mp c_23
        have lg : a_long a n = (a_nd a 8 n).toNat := by unfold a_long; rw [if_neg (by omega)]
        have ds : a_dies a n = true := by unfold a_dies; simp only [Bool.or_eq_true, Bool.and_eq_true, decide_eq_true_eq]; omega
        refine hp_istore_n C dX4_fall_31 (by decide) ?_
        refine hp_aload_nR C dX4_fall_32 rfl ?_
        refine hp_dup C dX4_fall_33 rfl ?_
        refine hp_get C fl_X4_24_1 dX4_fall_34 K.isJ K.f33 ?_
        refine hp_iload_n C dX4_fall_37 rfl ?_
        refine hp_if_eq (tgt := 48) C dX4_fall_38 (by decide) (fun _ => ?_) (fun z_9 => absurd z_9 (by decide))
        refine hp_aload_nR C dX4_fall_48 rfl ?_
        refine hp_get C fl_X4_9_4 dX4_fall_49 (K.isW hn hk) (K.f133 hn hk) ?_
        refine hp_iadd C dX4_fall_52 ?_
        refine kp_33 C K fl_X4_24_1 (a_tm a + a_long a n) (by rw [lg, a_ofN (by omega), nI_add]) (Nat.le_add_right _ _) dX4_fall_53 (fun h_53 K_53 => ?_)
        refine hp_aload_nR C dX4_fall_56 rfl ?_
        refine hp_iconst (v := 0) C dX4_fall_57 (by decide) ?_
        refine kp_68W C K_53 hn hk fl_X4_33_4 0 (by decide) dX4_fall_58 (fun h_58 K_58 => ?_)
        refine hp_aload_nR C dX4_fall_61 rfl ?_
        refine hp_iload_n C dX4_fall_62 rfl ?_
        refine hp_if_eq (tgt := 70) C dX4_fall_63 (by decide) (fun _ => ?_) (fun z_9 => absurd z_9 (by decide))
        refine hp_iconst (v := 4) C dX4_fall_70 (by decide) ?_
        refine hp_aload_nR C dX4_fall_71 rfl ?_
        refine hp_get C fl_X4_36_4 dX4_fall_72 (K_58.isW hn hk) (K_58.f64 hn) ?_
        refine hp_iconst (v := 0) C dX4_fall_75 (by decide) ?_
        refine hp_callV (ci := 1) C ml_X4_39 im_X0_tell se_X0_tell rfl (by decide) (kc_tell (d := d - 1) (w := 4) (n := n) (r := 0) K_58 hl) (by omega) dX4_fall_76 K_58.isJ rfl rfl (by simp [Value.category]) (fun v_76 h_76 hp => ?_) (fun _ _ hf => hf.elim)
        obtain ⟨rfl, K_76⟩ := hp
        refine hp_vret C hr dX4_fall_79 ?_
        exact ⟨rfl, by rw [← a_end_w hk rfl ds]; exact K_76⟩
      · refine hp_iconst (v := 1) C dX4_fall_26 (by decide) ?_
        refine hp_goto (tgt := 31) C dX4_fall_27 (by decide) ?_
        have e8 : ¬ a_nd a 8 n = -1 := fun e => c_5 (by rw [e]; decide)
        have f8 : ¬ a_nd a 8 n ≤ 0 := (not_congr (a_ofI_le (x := a_nd a 8 n) (y := 0) (by omega) (by omega))).mp c_12
        have g8 : ¬ a_nd a 8 n < a_nd a 10 n := (not_congr (a_ofI_lt (by omega) (by omega))).mp c_23
        have lg : a_long a n = (a_nd a 10 n).toNat := by unfold a_long; split <;> omega
        have ds : a_dies a n = false := by unfold a_dies; simp only [Bool.or_eq_false_iff, Bool.and_eq_false_iff, decide_eq_false_iff_not]; omega
        refine hp_istore_n C dX4_fall_31 (by decide) ?_
        refine hp_aload_nR C dX4_fall_32 rfl ?_
        refine hp_dup C dX4_fall_33 rfl ?_
        refine hp_get C fl_X4_24_1 dX4_fall_34 K.isJ K.f33 ?_
        refine hp_iload_n C dX4_fall_37 rfl ?_
        refine hp_if_eq (tgt := 48) C dX4_fall_38 (by decide) (fun z_9 => absurd z_9 (by decide)) (fun _ => ?_)
        refine hp_aload_nR C dX4_fall_41 rfl ?_
        refine hp_get C fl_X4_18_4 dX4_fall_42 (K.isW hn hk) (K.f135 hn hk) ?_
        refine hp_goto (tgt := 52) C dX4_fall_45 (by decide) ?_
        refine hp_iadd C dX4_fall_52 ?_
        refine kp_33 C K fl_X4_24_1 (a_tm a + a_long a n) (by rw [lg, a_ofN (by omega), nI_add]) (Nat.le_add_right _ _) dX4_fall_53 (fun h_53 K_53 => ?_)
        refine hp_aload_nR C dX4_fall_56 rfl ?_
        refine hp_iconst (v := 0) C dX4_fall_57 (by decide) ?_
        refine kp_68W C K_53 hn hk fl_X4_33_4 0 (by decide) dX4_fall_58 (fun h_58 K_58 => ?_)
        refine hp_aload_nR C dX4_fall_61 rfl ?_
        refine hp_iload_n C dX4_fall_62 rfl ?_
        refine hp_if_eq (tgt := 70) C dX4_fall_63 (by decide) (fun z_9 => absurd z_9 (by decide)) (fun _ => ?_)
        refine hp_iconst (v := 3) C dX4_fall_66 (by decide) ?_
        refine hp_goto (tgt := 71) C dX4_fall_67 (by decide) ?_
        refine hp_aload_nR C dX4_fall_71 rfl ?_
        refine hp_get C fl_X4_36_4 dX4_fall_72 (K_58.isW hn hk) (K_58.f64 hn) ?_
        refine hp_iconst (v := 0) C dX4_fall_75 (by decide) ?_
        refine hp_callV (ci := 1) C ml_X4_39 im_X0_tell se_X0_tell rfl (by decide) (kc_tell (d := d - 1) (w := 3) (n := n) (r := 0) K_58 hl) (by omega) dX4_fall_76 K_58.isJ rfl rfl (by simp [Value.category]) (fun v_76 h_76 hp => ?_) (fun _ _ hf => hf.elim)
        obtain ⟨rfl, K_76⟩ := hp
        refine hp_vret C hr dX4_fall_79 ?_
        exact ⟨rfl, by rw [← a_end_w hk rfl ds]; exact K_76⟩
set_option maxRecDepth 20000 in
set_option maxHeartbeats 4000000 in
theorem kc_perishW {l : Launch} {G : hpG} {pr : Nat → Prop} {B : hpT} {N S : Nat} {h : hpT} {κ : kS} {a : aS} {d : Nat} (K : KR G pr B N S h κ a) {n : Nat} (T : a_T a) (hn : n < a_mk a) (hk : a_nd a 0 n = 0) (hl : (a_ev a).length < 2 ^ 30) (hd : 2 ≤ d) : hp_C l G yX4_perish (.code yX4_perish cX4_perish 2 (some .int)) d [.ref (κ.1 0 n), .ref (κ.1 5 1)] (h) (fun v h' => v = some (.int 1) ∧ KR G pr B N S h' κ (a_end true n a)) (fun _ _ => False) := by
  have ee : a_end true n a = a_no (a_sn a 3 n 0) 4 n 0 := by unfold a_end; rw [if_neg (fun z => by cases z.2)]; rfl
  rw [ee]
  refine hp_ofV (by decide) (by simp [Value.category]) (Nat.le_of_ble_eq_true rfl) (fun M C hr hx el => ?_)
  refine hp_aload_nR C dX4_perish_0 rfl ?_
  refine hp_iconst (v := 0) C dX4_perish_1 (by decide) ?_
  refine kp_68W C K hn hk fl_X4_33_4 0 (by decide) dX4_perish_2 (fun h_2 K_2 => ?_)
  refine hp_aload_nR C dX4_perish_5 rfl ?_
  refine hp_iconst (v := 4) C dX4_perish_6 (by decide) ?_
  refine hp_aload_nR C dX4_perish_7 rfl ?_
  refine hp_get C fl_X4_36_4 dX4_perish_8 (K_2.isW hn hk) (K_2.f64 hn) ?_
  refine hp_iconst (v := 0) C dX4_perish_11 (by decide) ?_
  refine hp_callV (ci := 1) C ml_X4_39 im_X0_tell se_X0_tell rfl (by decide) (kc_tell (d := d - 1) (w := 4) (n := n) (r := 0) K_2 hl) (by omega) dX4_perish_12 K_2.isJ rfl rfl (by simp [Value.category]) (fun v_12 h_12 hp => ?_) (fun _ _ hf => hf.elim)
  obtain ⟨rfl, K_12⟩ := hp
  refine hp_iconst (v := 1) C dX4_perish_15 (by decide) ?_
  refine hp_iret C hr (by decide) dX4_perish_16 ?_
  exact ⟨rfl, K_12⟩
set_option maxRecDepth 20000 in
set_option maxHeartbeats 4000000 in
theorem kc_vanishW {l : Launch} {G : hpG} {pr : Nat → Prop} {B : hpT} {N S : Nat} {h : hpT} {κ : kS} {a : aS} {d : Nat} (K : KR G pr B N S h κ a) {n : Nat} (hn : n < a_mk a) (hk : a_nd a 0 n = 0) : hp_C l G yX4_vanish (.code yX4_vanish cX4_vanish 1 (some .int)) d [.ref (κ.1 0 n)] (h) (fun v h' => v = some (.int 1) ∧ KR G pr B N S h' κ (a_sn a 3 n 2)) (fun _ _ => False) := by
  refine hp_ofV (by decide) (by simp [Value.category]) (Nat.le_of_ble_eq_true rfl) (fun M C hr hx el => ?_)
  refine hp_aload_nR C dX4_vanish_0 rfl ?_
  refine hp_iconst (v := 2) C dX4_vanish_1 (by decide) ?_
  refine kp_68W C K hn hk fl_X4_33_4 2 (by decide) dX4_vanish_2 (fun h_2 K_2 => ?_)
  refine hp_iconst (v := 1) C dX4_vanish_5 (by decide) ?_
  refine hp_iret C hr (by decide) dX4_vanish_6 ?_
  exact ⟨rfl, K_2⟩
set_option maxRecDepth 20000 in
set_option maxHeartbeats 4000000 in
theorem kc_clear {l : Launch} {G : hpG} {pr : Nat → Prop} {B : hpT} {N S : Nat} {h : hpT} {κ : kS} {a : aS} {d : Nat} (K : KR G pr B N S h κ a) {n : Nat} (hn : n < a_mk a) (hk : a_nd a 0 n = 1) : hp_C l G yX3_clear (.code yX3_clear cX3_clear 1 none) d [.ref (κ.1 3 n)] (h) (fun v h' => v = none ∧ KR G pr B N S h' (k_srt κ n []) (a_srt a n [])) (fun _ _ => False) := by
  refine hp_ofV (by decide) (by simp [Value.category]) (Nat.le_of_ble_eq_true rfl) (fun M C hr hx el => ?_)
  refine hp_aload_nR C dX3_clear_0 rfl ?_
  refine hp_iconst (v := 0) C dX3_clear_1 (by decide) ?_
  refine hp_putf C fl_X3_15_3 rfl rfl rfl dX3_clear_2 (K.isR hn hk) ?_
  refine hp_vret C hr dX3_clear_5 ?_
  exact ⟨rfl, K.clear hn hk⟩
/-- how many of g's last of the first i are not under b, without a gap -/
def k_nb (g : Nat → Nat) (b : Int) : Nat → Nat
  | 0 => 0
  | i + 1 => if (g i : Int) < b then 0 else k_nb g b i + 1
theorem k_nb_le (g : Nat → Nat) (b : Int) : ∀ i, k_nb g b i ≤ i
  | 0 => Nat.le_refl _
  | i + 1 => by
    have := k_nb_le g b i
    unfold k_nb
    split <;> omega
set_option maxHeartbeats 4000000 in
theorem kl_nb {M : hpM} {G : hpG} {d : Nat} {h0 h : hpT} {pr : Nat → Prop} {B : hpT} {N S : Nat} {κ : kS} {a : aS} (K : KR G pr B N S h κ a) (C : hp_F M G yX3_notBefore cX3_notBefore 4 d h0) (hr : (hp_mt M).sig.returnType = some .int) {n : Nat} (hn : n < a_mk a) (hk : a_nd a 0 n = 1) (hs : ∀ i, i < (κ.2.2 n).length → (κ.2.2 n).getD i 0 < 2 ^ 31) {b : Int32} {X : String → hpT → Prop} {P : Option Value → hpT → Prop} : ∀ (j c : Nat) (lo : Nat → Option Value), j ≤ (κ.2.2 n).length → j + c < 2 ^ 31 → lo 0 = some (.ref (κ.1 3 n)) → lo 1 = some (.int b) → lo 2 = some (.int (nI c)) → lo 3 = some (.int (nI j - 1)) → P (some (.int (nI (c + k_nb (fun i => (κ.2.2 n).getD i 0) b.toInt j)))) h → hp_V M G 4 (hp_Q M G h0 P X) h 9 lo [] := by
  intro j
  induction j with
  | zero =>
    intro c lo hj hc e0 e1 e2 e3 hP
    refine hp_iload_n C dX3_notBefore_9 e3 ?_
    refine hp_if_lt (tgt := 32) C dX3_notBefore_10 (by decide) (fun _ => ?_) (fun z_9 => absurd (show (nI 0 - 1 : Int32) < 0 by decide) z_9)
    refine hp_iload_n C dX3_notBefore_32 e2 ?_
    refine hp_iret C hr rfl dX3_notBefore_33 ?_
    exact hP
  | succ j ih =>
    intro c lo hj hc e0 e1 e2 e3 hP
    rw [nI_pred] at e3
    have hg := hs j (by omega)
    have hin : vp_in (nI j) (hp_ln h (κ.1 4 n)) := vp_in_iff.mpr (by have := (K.isI hn hk).2; rw [nI_toInt (by omega)]; omega)
    have hv : hp_ar h (κ.1 4 n) (nI j).toNatClampNeg = .int (nI ((κ.2.2 n).getD j 0)) := by rw [nI_clamp (by omega)]; exact K.tim hn hk (by omega)
    have hcm : nI ((κ.2.2 n).getD j 0) < b ↔ (((κ.2.2 n).getD j 0 : Nat) : Int) < b.toInt := by rw [Int32.lt_iff_toInt_lt, nI_toInt hg]
    refine hp_iload_n C dX3_notBefore_9 e3 ?_
    refine hp_if_lt (tgt := 32) C dX3_notBefore_10 (by decide) (fun z_9 => absurd z_9 (nI_pos (by omega))) (fun _ => ?_)
    refine hp_aload_nR C dX3_notBefore_13 e0 ?_
    refine hp_get C fl_X3_9_3 dX3_notBefore_14 (K.isR hn hk) (K.f96 hn hk) ?_
    refine hp_iload_n C dX3_notBefore_17 e3 ?_
    refine hp_iald C dX3_notBefore_18 (K.isI hn hk).1 hin hv ?_
    refine hp_iload_n C dX3_notBefore_19 e1 ?_
    refine hp_icmp_lt (tgt := 32) C dX3_notBefore_20 (by decide) (fun c_20 => ?_) (fun c_20 => ?_)
    · have ek : k_nb (fun i => (κ.2.2 n).getD i 0) b.toInt (j + 1) = 0 := if_pos (hcm.mp c_20)
      rw [ek, Nat.add_zero] at hP
      refine hp_iload_n C dX3_notBefore_32 e2 ?_
      refine hp_iret C hr rfl dX3_notBefore_33 ?_
      exact hP
    · have ek : k_nb (fun i => (κ.2.2 n).getD i 0) b.toInt (j + 1) = k_nb (fun i => (κ.2.2 n).getD i 0) b.toInt j + 1 := if_neg (fun z => c_20 (hcm.mpr z))
      rw [ek, ← Nat.add_assoc, Nat.add_right_comm] at hP
      refine hp_iinc C dX3_notBefore_23 e2 (by decide) rfl ?_
      refine hp_iinc C dX3_notBefore_26 e3 (by decide) rfl ?_
      refine hp_goto (tgt := 9) C dX3_notBefore_29 (by decide) ?_
      exact ih (c + 1) _ (by omega) (by omega) e0 e1 ((va_up_ne _ _ (by decide)).trans ((va_up_self _ _ _).trans (by rw [show Int32.ofInt 1 = 1 from rfl, nI_1]))) ((va_up_self _ _ _).trans (by rw [k_dec])) hP
set_option maxRecDepth 20000 in
set_option maxHeartbeats 4000000 in
theorem kc_nb {l : Launch} {G : hpG} {pr : Nat → Prop} {B : hpT} {N S : Nat} {h : hpT} {κ : kS} {a : aS} {d : Nat} (K : KR G pr B N S h κ a) {n : Nat} {b : Int32} (hn : n < a_mk a) (hk : a_nd a 0 n = 1) (hs : ∀ i, i < (κ.2.2 n).length → (κ.2.2 n).getD i 0 < 2 ^ 31) (hl : (κ.2.2 n).length < 2 ^ 30) : hp_C l G yX3_notBefore (.code yX3_notBefore cX3_notBefore 4 (some .int)) d [.ref (κ.1 3 n), .int b] (h) (fun v h' => v = some (.int (nI (k_nb (fun i => (κ.2.2 n).getD i 0) b.toInt (κ.2.2 n).length))) ∧ h' = h) (fun _ _ => False) := by
  refine hp_ofV (by decide) (by simp [Value.category]) (Nat.le_of_ble_eq_true rfl) (fun M C hr hx el => ?_)
  refine hp_iconst (v := 0) C dX3_notBefore_0 (by decide) ?_
  refine hp_istore_n C dX3_notBefore_1 (by decide) ?_
  refine hp_aload_nR C dX3_notBefore_2 rfl ?_
  refine hp_get C fl_X3_15_3 dX3_notBefore_3 (K.isR hn hk) (K.f97 hn hk) ?_
  refine hp_iconst (v := 1) C dX3_notBefore_6 (by decide) ?_
  refine hp_isub C dX3_notBefore_7 ?_
  refine hp_istore_n C dX3_notBefore_8 (by decide) ?_
  exact kl_nb K C hr hn hk hs (κ.2.2 n).length 0 _ (Nat.le_refl _) (by omega) rfl rfl rfl rfl ⟨by rw [Nat.zero_add], rfl⟩
set_option maxRecDepth 20000 in
set_option maxHeartbeats 4000000 in
theorem kc_rr {l : Launch} {G : hpG} {pr : Nat → Prop} {B : hpT} {N S : Nat} {h : hpT} {κ : kS} {a : aS} {d : Nat} (K : KR G pr B N S h κ a) {n : Nat} {t : Int32} (hn : n < a_mk a) (hk : a_nd a 0 n = 1) (hs : ∀ i, i < (κ.2.2 n).length → (κ.2.2 n).getD i 0 < 2 ^ 31) (hl : (κ.2.2 n).length < 2 ^ 30) (hd : 1 ≤ d) : hp_C l G yX1_recentRestarts (.code yX1_recentRestarts cX1_recentRestarts 2 (some .int)) d [.ref (κ.1 0 n), .int t] (h) (fun v h' => v = some (.int (nI (k_nb (fun i => (κ.2.2 n).getD i 0) (t - Int32.ofInt (a_nd a 7 n)).toInt (κ.2.2 n).length))) ∧ h' = h) (fun _ _ => False) := by
  refine hp_ofV (by decide) (by simp [Value.category]) (Nat.le_of_ble_eq_true rfl) (fun M C hr hx el => ?_)
  refine hp_aload_nR C dX1_recentRestarts_0 rfl ?_
  refine hp_get C fl_X1_23_2 dX1_recentRestarts_1 (K.isK hn hk) (K.f70 hn hk) ?_
  refine hp_iload_n C dX1_recentRestarts_4 rfl ?_
  refine hp_aload_nR C dX1_recentRestarts_5 rfl ?_
  refine hp_get C fl_X1_34_2 dX1_recentRestarts_6 (K.isK hn hk) (K.f73 hn hk) ?_
  refine hp_isub C dX1_recentRestarts_9 ?_
  refine hp_callV (ci := 3) C ml_X1_80 im_X3_notBefore se_X3_notBefore rfl (by decide) (kc_nb (d := d - 1) K hn hk hs hl) (by omega) dX1_recentRestarts_10 (K.isR hn hk) rfl rfl (by simp [Value.category]) (fun v_10 h_10 hp => ?_) (fun _ _ hf => hf.elim)
  obtain ⟨rfl, rfl⟩ := hp
  refine hp_iret C hr rfl dX1_recentRestarts_13 ?_
  exact ⟨rfl, rfl⟩
set_option maxRecDepth 20000 in
set_option maxHeartbeats 4000000 in
theorem kc_told {l : Launch} {G : hpG} {pr : Nat → Prop} {B : hpT} {N S : Nat} {h : hpT} {κ : kS} {a : aS} {d : Nat} (K : KR G pr B N S h κ a) {i : Int32} {j : Nat} (hj : j < 4) (hl : (a_ev a).length < 2 ^ 30) : hp_C l G yX0_told (.code yX0_told cX0_told 4 (some .int)) d [.ref (κ.1 5 1), .int i, .int (nI j)] (h) (fun v h' => v = some (.int (a_evt a i j)) ∧ h' = h) (fun _ _ => False) := by
  refine hp_ofV (by decide) (by simp [Value.category]) (Nat.le_of_ble_eq_true rfl) (fun M C hr hx el => ?_)
  refine hp_iload_n C dX0_told_0 rfl ?_
  refine hp_if_lt (tgt := 32) C dX0_told_1 (by decide) (fun c_1 => ?_) (fun c_1 => ?_)
  · refine hp_iconst (v := 0) C dX0_told_32 (by decide) ?_
    refine hp_istore_n C dX0_told_33 (by decide) ?_
    refine hp_iload_n C dX0_told_34 rfl ?_
    refine hp_if_eq (tgt := 49) C dX0_told_35 (by decide) (fun _ => ?_) (fun z_9 => absurd z_9 (by decide))
    refine hp_iconst (v := (-1)) C dX0_told_49 (by decide) ?_
    refine hp_iret C hr rfl dX0_told_50 ?_
    exact ⟨by rw [show a_evt a i j = -1 from if_neg (by have q1 : (600 : Int32).toInt = 600 := (by decide); have q2 : (0 : Int32).toInt = 0 := (by decide); simp only [Int32.lt_iff_toInt_lt, Int32.le_iff_toInt_le, q1, q2, nI_toInt (n := (a_ev a).length) (by omega)] at *; omega)], rfl⟩
  · refine hp_iload_n C dX0_told_4 rfl ?_
    refine hp_aload_nR C dX0_told_5 rfl ?_
    refine hp_get C fl_X0_20_1 dX0_told_6 K.isJ K.f34 ?_
    refine hp_icmp_ge (tgt := 32) C dX0_told_9 (by decide) (fun c_9 => ?_) (fun c_9 => ?_)
    · refine hp_iconst (v := 0) C dX0_told_32 (by decide) ?_
      refine hp_istore_n C dX0_told_33 (by decide) ?_
      refine hp_iload_n C dX0_told_34 rfl ?_
      refine hp_if_eq (tgt := 49) C dX0_told_35 (by decide) (fun _ => ?_) (fun z_9 => absurd z_9 (by decide))
      refine hp_iconst (v := (-1)) C dX0_told_49 (by decide) ?_
      refine hp_iret C hr rfl dX0_told_50 ?_
      exact ⟨by rw [show a_evt a i j = -1 from if_neg (by have q1 : (600 : Int32).toInt = 600 := (by decide); have q2 : (0 : Int32).toInt = 0 := (by decide); simp only [Int32.lt_iff_toInt_lt, Int32.le_iff_toInt_le, q1, q2, nI_toInt (n := (a_ev a).length) (by omega)] at *; omega)], rfl⟩
    · refine hp_iload_n C dX0_told_12 rfl ?_
      refine hp_sipush (v := 600) C dX0_told_13 (by decide) ?_
      refine hp_icmp_ge (tgt := 32) C dX0_told_16 (by decide) (fun c_16 => ?_) (fun c_16 => ?_)
      · refine hp_iconst (v := 0) C dX0_told_32 (by decide) ?_
        refine hp_istore_n C dX0_told_33 (by decide) ?_
        refine hp_iload_n C dX0_told_34 rfl ?_
        refine hp_if_eq (tgt := 49) C dX0_told_35 (by decide) (fun _ => ?_) (fun z_9 => absurd z_9 (by decide))
        refine hp_iconst (v := (-1)) C dX0_told_49 (by decide) ?_
        refine hp_iret C hr rfl dX0_told_50 ?_
        exact ⟨by rw [show a_evt a i j = -1 from if_neg (by have q1 : (600 : Int32).toInt = 600 := (by decide); have q2 : (0 : Int32).toInt = 0 := (by decide); simp only [Int32.lt_iff_toInt_lt, Int32.le_iff_toInt_le, q1, q2, nI_toInt (n := (a_ev a).length) (by omega)] at *; omega)], rfl⟩
      · refine hp_iload_n C dX0_told_19 rfl ?_
        refine hp_if_lt (tgt := 32) C dX0_told_20 (by decide) (fun z_9 => absurd z_9 (nI_pos (by omega))) (fun _ => ?_)
        refine hp_iload_n C dX0_told_23 rfl ?_
        refine hp_iconst (v := 4) C dX0_told_24 (by decide) ?_
        refine hp_icmp_ge (tgt := 32) C dX0_told_25 (by decide) (fun z_9 => absurd z_9 (nI_ge (a := j) (b := 4) hj (by omega))) (fun _ => ?_)
        refine hp_iconst (v := 1) C dX0_told_28 (by decide) ?_
        refine hp_goto (tgt := 33) C dX0_told_29 (by decide) ?_
        refine hp_istore_n C dX0_told_33 (by decide) ?_
        refine hp_iload_n C dX0_told_34 rfl ?_
        refine hp_if_eq (tgt := 49) C dX0_told_35 (by decide) (fun z_9 => absurd z_9 (by decide)) (fun _ => ?_)
        have hin : 0 ≤ i.toInt ∧ i.toInt < (a_ev a).length ∧ i.toInt < 600 := by
          have q1 : (600 : Int32).toInt = 600 := by decide
          have q2 : (0 : Int32).toInt = 0 := by decide
          simp only [Int32.lt_iff_toInt_lt, Int32.le_iff_toInt_le, q1, q2, nI_toInt (n := (a_ev a).length) (by omega)] at *
          omega
        have hcl : i.toNatClampNeg = i.toInt.toNat := rfl
        refine hp_aload_nR C dX0_told_38 rfl ?_
        refine hp_get C fl_X0_13_1 dX0_told_39 K.isJ K.f32 ?_
        refine hp_iload_n C dX0_told_42 rfl ?_
        refine hp_aald C 5 rfl rfl (by decide) dX0_told_43 K.isC.1 (by rw [K.isC.2]; exact nI_in hj (by omega)) ((congrArg (hp_ar h (κ.1 5 2)) (nI_clamp (by omega))).trans (K.col hj)) ?_
        refine hp_iload_n C dX0_told_44 rfl ?_
        refine hp_iald C dX0_told_45 (K.isc hj).1 (by rw [(K.isc hj).2]; exact vp_in_iff.mpr (by omega)) (K.evt (i := i.toInt.toNat) hj (by omega) (by omega)) ?_
        refine hp_goto (tgt := 50) C dX0_told_46 (by decide) ?_
        refine hp_iret C hr rfl dX0_told_50 ?_
        exact ⟨by rw [show a_evt a i j = _ from if_pos hin], rfl⟩
/-! ===== what ceasing and starting leave alone ===== -/
/-- b comes of a: the tree stays, time and events go on -/
def a_kp (a b : aS) : Prop := a_mk b = a_mk a ∧ a_rw b = a_rw a ∧ (∀ f, f ≠ 3 → f ≠ 11 → a_nd b f = a_nd a f) ∧ a_tm a ≤ a_tm b ∧ (a_ev a).length ≤ (a_ev b).length ∧ a_rs b = a_rs a ∧ a_gv b = a_gv a ∧ (a_T a → a_T b) ∧ (a_A a → a_A b)
theorem a_kp.rf (a : aS) : a_kp a a := ⟨rfl, rfl, fun _ _ _ => rfl, Nat.le_refl _, Nat.le_refl _, rfl, rfl, fun t => t, fun t => t⟩
theorem a_kp.tr {a b c : aS} (x : a_kp a b) (y : a_kp b c) : a_kp a c := ⟨y.1.trans x.1, y.2.1.trans x.2.1, fun f h1 h2 => (y.2.2.1 f h1 h2).trans (x.2.2.1 f h1 h2), Nat.le_trans x.2.2.2.1 y.2.2.2.1, Nat.le_trans x.2.2.2.2.1 y.2.2.2.2.1, y.2.2.2.2.2.1.trans x.2.2.2.2.2.1, y.2.2.2.2.2.2.1.trans x.2.2.2.2.2.2.1, fun t => y.2.2.2.2.2.2.2.1 (x.2.2.2.2.2.2.2.1 t), fun t => y.2.2.2.2.2.2.2.2 (x.2.2.2.2.2.2.2.2 t)⟩
theorem a_kp.mk {a b : aS} (x : a_kp a b) : a_mk b = a_mk a := x.1
theorem a_kp.rw' {a b : aS} (x : a_kp a b) : a_rw b = a_rw a := x.2.1
theorem a_kp.nd {a b : aS} (x : a_kp a b) {f : Nat} (h1 : f ≠ 3 := by decide) (h2 : f ≠ 11 := by decide) (n : Nat) : a_nd b f n = a_nd a f n := congrFun (x.2.2.1 f h1 h2) n
theorem a_kp.tm {a b : aS} (x : a_kp a b) : a_tm a ≤ a_tm b := x.2.2.2.1
theorem a_kp.ev {a b : aS} (x : a_kp a b) : (a_ev a).length ≤ (a_ev b).length := x.2.2.2.2.1
theorem a_kp.rs {a b : aS} (x : a_kp a b) : a_rs b = a_rs a := x.2.2.2.2.2.1
theorem a_kp.T {a b : aS} (x : a_kp a b) (t : a_T a) : a_T b := x.2.2.2.2.2.2.2.1 t
theorem a_kp.A {a b : aS} (x : a_kp a b) (t : a_A a) : a_A b := x.2.2.2.2.2.2.2.2 t
theorem a_kp.gv {a b : aS} (x : a_kp a b) : a_gv b = a_gv a := x.2.2.2.2.2.2.1
theorem a_kp.sn3 (a : aS) (n : Nat) {x : Int} (hx : 0 ≤ x ∧ x ≤ 2) : a_kp a (a_sn a 3 n x) := by
  refine ⟨rfl, rfl, fun f h1 _ => va_up_ne _ _ h1, Nat.le_refl _, Nat.le_refl _, rfl, rfl, fun T => ?_, fun A => A⟩
  refine ⟨T.1, T.2.1, fun m hm => ?_, T.2.2.2⟩
  show 0 ≤ va_up (a_nd a) 3 (va_up (a_nd a 3) n x) 3 m ∧ va_up (a_nd a) 3 (va_up (a_nd a 3) n x) 3 m ≤ 2
  rw [va_up_self]
  by_cases e : m = n
  · rw [e, va_up_self]; exact hx
  · rw [va_up_ne _ _ e]; exact T.2.2.1 m hm
theorem a_kp.sn11 (a : aS) (n : Nat) {x : Int} (hx : a_T a → n < a_mk a → 0 ≤ x ∧ x ≤ 50) : a_kp a (a_sn a 11 n x) := by
  refine ⟨rfl, rfl, fun f _ h2 => va_up_ne _ _ h2, Nat.le_refl _, Nat.le_refl _, rfl, rfl, fun T => ?_, fun A => A⟩
  refine ⟨T.1, T.2.1, T.2.2.1, fun m hm => ?_, T.2.2.2.2⟩
  show 0 ≤ va_up (a_nd a) 11 (va_up (a_nd a 11) n x) 11 m ∧ va_up (a_nd a) 11 (va_up (a_nd a 11) n x) 11 m ≤ 50
  rw [va_up_self]
  by_cases e : m = n
  · rw [e, va_up_self]; exact hx T (e ▸ hm)
  · rw [va_up_ne _ _ e]; exact T.2.2.2.1 m hm
theorem a_kp.st (a : aS) {t : Nat} (ht : a_tm a ≤ t) : a_kp a (a_st a t) := ⟨rfl, rfl, fun _ _ _ => rfl, ht, Nat.le_refl _, rfl, rfl, fun T => T, fun A n hn => ⟨(A n hn).1, fun x hx => Nat.le_trans ((A n hn).2 x hx) ht⟩⟩
theorem a_kp.no (a : aS) (w n r : Nat) : a_kp a (a_no a w n r) := ⟨rfl, rfl, fun _ _ _ => rfl, Nat.le_refl _, by show _ ≤ (a_ev a ++ [_]).length; rw [List.length_append]; exact Nat.le_add_right _ _, rfl, rfl, fun T => T, fun A => A⟩
theorem a_kp.srt (a : aS) (n : Nat) (l : List Nat) (hl : l = [] := by rfl) : a_kp a (a_srt a n l) := by
  refine ⟨rfl, rfl, fun _ _ _ => rfl, Nat.le_refl _, Nat.le_refl _, rfl, rfl, fun T => T, fun A m hm => ?_⟩
  subst hl
  show (va_up (a_rt a) n [] m).Pairwise (· ≤ ·) ∧ ∀ x, x ∈ va_up (a_rt a) n [] m → x ≤ a_tm a
  by_cases e : m = n
  · rw [e, va_up_self]
    exact ⟨List.Pairwise.nil, fun x hx => by cases hx⟩
  · rw [va_up_ne _ _ e]
    exact A m hm
theorem a_end_kp (k : Bool) (n : Nat) (a : aS) : a_kp a (a_end k n a) := by
  unfold a_end
  split
  · exact ((a_kp.st a (Nat.le_add_right _ _)).tr (a_kp.sn3 _ n (by omega))).tr (a_kp.no _ _ _ _)
  · exact (a_kp.sn3 a n (by omega)).tr (a_kp.no _ _ _ _)
theorem a_cR_kp {f : Nat → aS → Nat × aS} (hf : ∀ c a, a_kp a (f c a).2) : ∀ (l : List Nat) (a : aS), a_kp a (a_cR f l a).2
  | [], a => a_kp.rf a
  | c :: r, a => by
    unfold a_cR
    split
    · exact (hf c a).tr (a_cR_kp hf r _)
    · exact a_cR_kp hf r a
theorem a_ce_kp (k : Bool) : ∀ (d n : Nat) (a : aS), a_kp a (a_ce k d n a).2
  | 0, _, a => a_kp.rf a
  | d + 1, n, a => by
    unfold a_ce
    split
    · exact a_end_kp k n a
    · exact (a_cR_kp (a_ce_kp k d) _ a).tr (a_end_kp k n _)
theorem a_sR_kp {f : Nat → aS → Bool × aS} (hf : ∀ c a, a_kp a (f c a).2) : ∀ (l : List Nat) (a : aS), a_kp a (a_sR f l a).2
  | [], a => a_kp.rf a
  | c :: r, a => by
    show a_kp a (if (f c a).1 = true then a_sR f r (f c a).2 else (false, (f c a).2)).2
    split
    · exact (hf c a).tr (a_sR_kp hf r _)
    · exact hf c a
theorem a_go_kp : ∀ (d n : Nat) (a : aS), a_kp a (a_go d n a).2
  | 0, _, a => a_kp.rf a
  | d + 1, n, a => by
    by_cases hw : a_nd a 0 n = 0
    · rw [a_go_w hw]
      split
      · refine (((a_kp.st a (Nat.le_add_right _ _)).tr (a_kp.sn11 _ n (fun T hn => ?_))).tr (a_kp.sn3 _ n (by omega))).tr (a_kp.no _ _ _ _)
        have := T.r11 (n := n) hn
        have e : a_nd (a_st a (a_tm a + (a_nd a 9 n).toNat)) 11 n = a_nd a 11 n := rfl
        omega
      · exact ((a_kp.st a (Nat.le_add_right _ _)).tr (a_kp.sn3 _ n (by omega))).tr (a_kp.no _ _ _ _)
    · have e : a_go (d + 1) n a = (if (a_sR (a_go d) (a_rw a n) (a_srt a n [])).1 = true then (true, a_no (a_sn (a_sR (a_go d) (a_rw a n) (a_srt a n [])).2 3 n 1) 1 n 0) else (false, a_no (a_sn (a_cR (a_ce false d) (a_rw a n).reverse (a_sR (a_go d) (a_rw a n) (a_srt a n [])).2).2 3 n 0) 2 n 0)) := by
        show (if a_nd a 0 n = 0 then _ else _) = _
        rw [if_neg hw]
      rw [e]
      have k1 := (a_kp.srt a n []).tr (a_sR_kp (a_go_kp d) (a_rw a n) (a_srt a n []))
      split
      · exact (k1.tr (a_kp.sn3 _ n (by omega))).tr (a_kp.no _ _ _ _)
      · exact ((k1.tr (a_cR_kp (a_ce_kp false d) _ _)).tr (a_kp.sn3 _ n (by omega))).tr (a_kp.no _ _ _ _)
