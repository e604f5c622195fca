/-! ===== THE CLASS IN GENERAL: where things lie (role, node), the lists' counters of changes, the restarts' times that are kept ===== -/
abbrev kS : Type := (Nat → Nat → Nat) × (Nat → Int32) × (Nat → List Nat)
/-- roles: 0 a node, 1 its list, 2 the list's elements, 3 its restarts, 4 their times; 5: the tree 0, the journal 1, its columns 2, a column 3 to 6, the nodes 7 -/
abbrev k_ad (κ : kS) : Nat → Nat → Nat := κ.1
abbrev k_mc (κ : kS) : Nat → Int32 := κ.2.1
abbrev k_rt (κ : kS) : Nat → List Nat := κ.2.2
/-- the object that has field f, for node n -/
def k_at (κ : kS) (f n : Nat) : Nat := if f < 3 then κ.1 1 n else if f < 35 then κ.1 5 1 else if f < 74 then κ.1 0 n else if f < 98 then κ.1 3 n else if f < 137 then κ.1 0 n else κ.1 5 0
def k_ok (a : aS) (f n : Nat) : Prop := (f < 3 ∧ n < a_mk a ∧ a_nd a 0 n = 1) ∨ (32 ≤ f ∧ f < 35 ∧ n = 0) ∨ (64 ≤ f ∧ f < 69 ∧ n < a_mk a) ∨ (69 ≤ f ∧ f < 74 ∧ n < a_mk a ∧ a_nd a 0 n = 1) ∨ (96 ≤ f ∧ f < 98 ∧ n < a_mk a ∧ a_nd a 0 n = 1) ∨ (133 ≤ f ∧ f < 137 ∧ n < a_mk a ∧ a_nd a 0 n = 0) ∨ (160 ≤ f ∧ f < 166 ∧ n = 0)
/-- is field f a number of the node -/
def k_isN (f : Nat) : Bool := (f == 66) || (f == 67) || (f == 68) || (f == 71) || (f == 72) || (f == 73) || (decide (133 ≤ f) && decide (f < 137))
def k_ix (f : Nat) : Nat := if f = 66 then 2 else if f = 67 then 4 else if f = 68 then 3 else if f < 74 then f - 66 else f - 125
/-- what the other fields hold: of the counters c, the lists' lengths w, the parents p -/
def k_fo (κ : kS) (mk tm rs gv ev : Nat) (w : Nat → Nat) (p : Nat → Int) (f n : Nat) : Value :=
  if f = 0 then .int (κ.2.1 n) else if f = 1 then .ref (κ.1 2 n) else if f = 2 then .int (nI (w n))
  else if f = 32 then .ref (κ.1 5 2) else if f = 33 then .int (nI tm) else if f = 34 then .int (nI ev)
  else if f = 64 then .int (nI n) else if f = 65 then va_rf (if n = 0 then none else some (κ.1 0 (p n).toNat))
  else if f = 69 then .ref (κ.1 1 n) else if f = 70 then .ref (κ.1 3 n)
  else if f = 96 then .ref (κ.1 4 n) else if f = 97 then .int (nI (κ.2.2 n).length)
  else if f = 160 then .ref (κ.1 5 1) else if f = 161 then .ref (κ.1 5 7) else if f = 162 then .ref (κ.1 0 0)
  else if f = 163 then .int (nI mk) else if f = 164 then .int (nI rs) else if f = 165 then .int (nI gv) else .null
def k_fv (κ : kS) (a : aS) (f n : Nat) : Value := if k_isN f = true then .int (Int32.ofInt (a_nd a (k_ix f) n)) else k_fo κ (a_mk a) (a_tm a) (a_rs a) (a_gv a) (a_ev a).length (fun n => (a_rw a n).length) (a_nd a 1) f n
def k_ec (j : Nat) (q : Nat × Nat × Nat × Nat) : Nat := if j = 0 then q.1 else if j = 1 then q.2.1 else if j = 2 then q.2.2.1 else q.2.2.2
def k_aok (κ : kS) (a : aS) (r n i : Nat) : Prop := (r = 2 ∧ n < a_mk a ∧ a_nd a 0 n = 1 ∧ i < (a_rw a n).length) ∨ (r = 4 ∧ n < a_mk a ∧ a_nd a 0 n = 1 ∧ i < (k_rt κ n).length) ∨ (r = 5 ∧ n = 2 ∧ i < 4) ∨ (r = 5 ∧ 3 ≤ n ∧ n < 7 ∧ i < 600 ∧ i < (a_ev a).length) ∨ (r = 5 ∧ n = 7 ∧ i < 80)
def k_av (κ : kS) (a : aS) (r n i : Nat) : Value := if r = 2 then .ref (κ.1 0 ((a_rw a n).getD i 0)) else if r = 4 then .int (nI ((κ.2.2 n).getD i 0)) else if n = 2 then .ref (κ.1 5 (3 + i)) else if n = 7 then va_rf (if i < a_mk a then some (κ.1 0 i) else none) else .int (nI (k_ec (n - 3) ((a_ev a).getD i (0, 0, 0, 0))))
/-- an object of the class's own (pr: the cells of others) -/
def k_is (G : hpG) (pr : Nat → Prop) (h : hpT) (b k : Nat) : Prop := hp_is G h b k ∧ ¬ pr b
def k_S (G : hpG) (pr : Nat → Prop) (h : hpT) (κ : kS) (a : aS) : Prop :=
  (∀ n, n < a_mk a → k_is G pr h (κ.1 0 n) (if a_nd a 0 n = 0 then 4 else 2)) ∧
  (∀ n, n < a_mk a → a_nd a 0 n = 1 → k_is G pr h (κ.1 1 n) 0 ∧ k_is G pr h (κ.1 3 n) 3 ∧ k_is G pr h (κ.1 4 n) 10 ∧ ((κ.2.2 n).length ≤ hp_ln h (κ.1 4 n) ∧ 2 ≤ hp_ln h (κ.1 4 n) ∧ hp_ln h (κ.1 4 n) ≤ 16777216) ∧ ((a_rw a n = [] ∧ κ.1 2 n = hp_dE G) ∨ (k_is G pr h (κ.1 2 n) 13 ∧ (a_rw a n).length ≤ hp_ln h (κ.1 2 n)))) ∧
  k_is G pr h (κ.1 5 0) 5 ∧ k_is G pr h (κ.1 5 1) 1 ∧ (k_is G pr h (κ.1 5 2) 15 ∧ hp_ln h (κ.1 5 2) = 4) ∧ (∀ j, j < 4 → k_is G pr h (κ.1 5 (3 + j)) 10 ∧ hp_ln h (κ.1 5 (3 + j)) = 600) ∧ (k_is G pr h (κ.1 5 7) 14 ∧ hp_ln h (κ.1 5 7) = 80)
def k_I (G : hpG) (κ : kS) (a : aS) : Prop :=
  (∀ n m, n < a_mk a → m < a_mk a → κ.1 0 n = κ.1 0 m → n = m) ∧
  (∀ r n m, (r = 1 ∨ r = 3 ∨ r = 4 ∨ (r = 2 ∧ hp_n0 G ≤ κ.1 2 n)) → n < a_mk a → m < a_mk a → a_nd a 0 n = 1 → a_nd a 0 m = 1 → κ.1 r n = κ.1 r m → n = m) ∧
  (∀ n j, n < a_mk a → a_nd a 0 n = 1 → j < 4 → κ.1 4 n ≠ κ.1 5 (3 + j)) ∧ (∀ i j, i < 4 → j < 4 → κ.1 5 (3 + i) = κ.1 5 (3 + j) → i = j)
def k_V (h : hpT) (κ : kS) (a : aS) : Prop := ∀ f n, k_ok a f n → hp_fl h f (k_at κ f n) = k_fv κ a f n
def k_A (h : hpT) (κ : kS) (a : aS) : Prop := ∀ r n i, k_aok κ a r n i → hp_ar h (κ.1 r n) i = k_av κ a r n i
/-- the cells of others are as in B -/
def k_F (pr : Nat → Prop) (B h : hpT) : Prop := ∀ b, pr b → b < hp_nx h ∧ hp_kd h b = hp_kd B b ∧ hp_ln h b = hp_ln B b ∧ (∀ f, hp_fl h f b = hp_fl B f b) ∧ hp_ar h b = hp_ar B b
/-- how full the rows of times are, beyond the half -/
def k_po (l : Nat → Nat) (κ : kS) (kp : Nat → Int) : Nat → Nat := fun n => if kp n = 1 then 4 * ((κ.2.2 n).length - l (κ.1 4 n) / 2) else 0
def k_B (N S : Nat) (h : hpT) (κ : kS) (a : aS) : Prop := hp_nx h ≤ N ∧ hp_sl h + hp_sm (k_po (hp_ln h) κ (a_nd a 0)) 0 (a_mk a) ≤ S
/-- the times that are kept are the last ones; those that are not are older than any t reaches -/
def k_T (κ : kS) (a : aS) : Prop := ∀ n, n < a_mk a → a_nd a 0 n = 1 → ∃ dr, a_rt a n = dr ++ κ.2.2 n ∧ ∀ x ∈ dr, x + 1000 < a_tm a
def KR (G : hpG) (pr : Nat → Prop) (B : hpT) (N S : Nat) (h : hpT) (κ : kS) (a : aS) : Prop := k_S G pr h κ a ∧ k_I G κ a ∧ k_V h κ a ∧ k_A h κ a ∧ k_F pr B h ∧ k_B N S h κ a ∧ k_T κ a
section KRS
variable {G : hpG} {pr : Nat → Prop} {B : hpT} {N S : Nat} {h : hpT} {κ : kS} {a : aS} {n : Nat}
theorem KR.V (K : KR G pr B N S h κ a) : k_V h κ a := K.2.2.1
theorem KR.A (K : KR G pr B N S h κ a) : k_A h κ a := K.2.2.2.1
theorem KR.isT (K : KR G pr B N S h κ a) : hp_is G h (κ.1 5 0) 5 := K.1.2.2.1.1
theorem KR.isJ (K : KR G pr B N S h κ a) : hp_is G h (κ.1 5 1) 1 := K.1.2.2.2.1.1
theorem KR.isC (K : KR G pr B N S h κ a) : hp_is G h (κ.1 5 2) 15 ∧ hp_ln h (κ.1 5 2) = 4 := ⟨K.1.2.2.2.2.1.1.1, K.1.2.2.2.2.1.2⟩
theorem KR.isc (K : KR G pr B N S h κ a) {j : Nat} (hj : j < 4) : hp_is G h (κ.1 5 (3 + j)) 10 ∧ hp_ln h (κ.1 5 (3 + j)) = 600 := ⟨(K.1.2.2.2.2.2.1 j hj).1.1, (K.1.2.2.2.2.2.1 j hj).2⟩
theorem KR.isM (K : KR G pr B N S h κ a) : hp_is G h (κ.1 5 7) 14 ∧ hp_ln h (κ.1 5 7) = 80 := ⟨K.1.2.2.2.2.2.2.1.1, K.1.2.2.2.2.2.2.2⟩
theorem KR.isK (K : KR G pr B N S h κ a) (hn : n < a_mk a) (hk : a_nd a 0 n = 1) : hp_is G h (κ.1 0 n) 2 := by
  have := (K.1.1 n hn).1
  rwa [if_neg (by omega)] at this
theorem KR.isW (K : KR G pr B N S h κ a) (hn : n < a_mk a) (hk : a_nd a 0 n = 0) : hp_is G h (κ.1 0 n) 4 := by
  have := (K.1.1 n hn).1
  rwa [if_pos hk] at this
theorem KR.prN (K : KR G pr B N S h κ a) (hn : n < a_mk a) : ¬ pr (κ.1 0 n) := (K.1.1 n hn).2
theorem KR.isL (K : KR G pr B N S h κ a) (hn : n < a_mk a) (hk : a_nd a 0 n = 1) : hp_is G h (κ.1 1 n) 0 := (K.1.2.1 n hn hk).1.1
theorem KR.isR (K : KR G pr B N S h κ a) (hn : n < a_mk a) (hk : a_nd a 0 n = 1) : hp_is G h (κ.1 3 n) 3 := (K.1.2.1 n hn hk).2.1.1
theorem KR.isI (K : KR G pr B N S h κ a) (hn : n < a_mk a) (hk : a_nd a 0 n = 1) : hp_is G h (κ.1 4 n) 10 ∧ (κ.2.2 n).length ≤ hp_ln h (κ.1 4 n) := ⟨(K.1.2.1 n hn hk).2.2.1.1, (K.1.2.1 n hn hk).2.2.2.1.1⟩
theorem KR.isI2 (K : KR G pr B N S h κ a) (hn : n < a_mk a) (hk : a_nd a 0 n = 1) : 2 ≤ hp_ln h (κ.1 4 n) ∧ hp_ln h (κ.1 4 n) ≤ 16777216 := (K.1.2.1 n hn hk).2.2.2.1.2
theorem KR.isE (K : KR G pr B N S h κ a) (hn : n < a_mk a) (hk : a_nd a 0 n = 1) : (a_rw a n = [] ∧ κ.1 2 n = hp_dE G) ∨ (k_is G pr h (κ.1 2 n) 13 ∧ (a_rw a n).length ≤ hp_ln h (κ.1 2 n)) := (K.1.2.1 n hn hk).2.2.2.2
theorem KR.prA (K : KR G pr B N S h κ a) {f : Nat} (ok : k_ok a f n) : ¬ pr (k_at κ f n) := by
  rcases ok with ⟨h1, h2, h3⟩ | ⟨h1, h2, h3⟩ | ⟨h1, h2, h3⟩ | ⟨h1, h2, h3, h4⟩ | ⟨h1, h2, h3, h4⟩ | ⟨h1, h2, h3, h4⟩ | ⟨h1, h2, h3⟩ <;> unfold k_at
  · rw [if_pos h1]; exact (K.1.2.1 n h2 h3).1.2
  · rw [if_neg (by omega), if_pos h2]; exact K.1.2.2.2.1.2
  · rw [if_neg (by omega), if_neg (by omega), if_pos (by omega)]; exact (K.1.1 n h3).2
  · rw [if_neg (by omega), if_neg (by omega), if_pos (by omega)]; exact (K.1.1 n h3).2
  · rw [if_neg (by omega), if_neg (by omega), if_neg (by omega), if_pos (by omega)]; exact (K.1.2.1 n h3 h4).2.1.2
  · rw [if_neg (by omega), if_neg (by omega), if_neg (by omega), if_neg (by omega), if_pos (by omega)]; exact (K.1.1 n h3).2
  · rw [if_neg (by omega), if_neg (by omega), if_neg (by omega), if_neg (by omega), if_neg (by omega)]; exact K.1.2.2.1.2
/-- one object, one node -/
theorem KR.inj (K : KR G pr B N S h κ a) {f m : Nat} (ok : k_ok a f n) (ok' : k_ok a f m) (e : k_at κ f n = k_at κ f m) : n = m := by
  obtain ⟨i1, i2, -, -⟩ := K.2.1
  unfold k_at at e
  rcases ok with ⟨h1, h2, h3⟩ | ⟨h1, h2, h3⟩ | ⟨h1, h2, h3⟩ | ⟨h1, h2, h3, h4⟩ | ⟨h1, h2, h3, h4⟩ | ⟨h1, h2, h3, h4⟩ | ⟨h1, h2, h3⟩ <;>
  rcases ok' with ⟨g1, g2, g3⟩ | ⟨g1, g2, g3⟩ | ⟨g1, g2, g3⟩ | ⟨g1, g2, g3, g4⟩ | ⟨g1, g2, g3, g4⟩ | ⟨g1, g2, g3, g4⟩ | ⟨g1, g2, g3⟩ <;> try omega
  · rw [if_pos h1, if_pos h1] at e; exact i2 1 n m (Or.inl rfl) h2 g2 h3 g3 e
  · rw [if_neg (by omega), if_neg (by omega), if_pos (by omega), if_neg (by omega), if_neg (by omega), if_pos (by omega)] at e; exact i1 n m h3 g3 e
  · rw [if_neg (by omega), if_neg (by omega), if_pos (by omega), if_neg (by omega), if_neg (by omega), if_pos (by omega)] at e; exact i1 n m h3 g3 e
  · rw [if_neg (by omega), if_neg (by omega), if_neg (by omega), if_pos (by omega), if_neg (by omega), if_neg (by omega), if_neg (by omega), if_pos (by omega)] at e; exact i2 3 n m (Or.inr (Or.inl rfl)) h3 g3 h4 g4 e
  · rw [if_neg (by omega), if_neg (by omega), if_neg (by omega), if_neg (by omega), if_pos (by omega), if_neg (by omega), if_neg (by omega), if_neg (by omega), if_neg (by omega), if_pos (by omega)] at e; exact i1 n m h3 g3 e
/-- a field is written: all others are as they were -/
theorem k_F.put (x : k_F pr B h) {f b : Nat} {v : Value} (hb : ¬ pr b) : k_F pr B (hp_put h f b v) := by
  intro c hc
  obtain ⟨x1, x2, x3, x4, x5⟩ := x c hc
  refine ⟨x1, x2, x3, fun g => ?_, x5⟩
  rw [hp_put_fl]
  by_cases e : g = f
  · rw [if_pos e, if_neg (fun z : c = b => hb (z ▸ hc)), ← e]
    exact x4 g
  · rw [if_neg e]
    exact x4 g
theorem k_F.set (x : k_F pr B h) {b i : Nat} {v : Value} (hb : ¬ pr b) : k_F pr B (hp_set h b i v) := by
  intro c hc
  obtain ⟨x1, x2, x3, x4, x5⟩ := x c hc
  refine ⟨x1, x2, x3, x4, ?_⟩
  funext j
  rw [hp_set_ar, if_neg (fun z : c = b => hb (z ▸ hc))]
  exact congrFun x5 j
theorem KR.putV (K : KR G pr B N S h κ a) {f : Nat} {v : Value} {κ' : kS} {a' : aS} (ok : k_ok a f n) (hok : ∀ g m, k_ok a' g m → k_ok a g m) (had : ∀ g m, k_at κ' g m = k_at κ g m) (hv : k_fv κ' a' f n = v) (hne : ∀ g m, k_ok a' g m → (g = f → m ≠ n) → k_fv κ' a' g m = k_fv κ a g m) : k_V (hp_put h f (k_at κ f n) v) κ' a' := by
  intro g m okg
  rw [hp_put_fl, had]
  by_cases e : g = f
  · subst e
    rw [if_pos rfl]
    by_cases e2 : m = n
    · subst e2
      rw [if_pos rfl, hv]
    · rw [if_neg (fun z => e2 (K.inj (hok _ _ okg) ok z)), hne g m okg (fun _ => e2)]
      exact K.V g m (hok _ _ okg)
  · rw [if_neg e, hne g m okg (fun z => absurd z e)]
    exact K.V g m (hok _ _ okg)
end KRS
/-- a number's place says its field -/
theorem k_ixi {g f : Nat} (e : k_isN g = true) (e2 : k_ix g = k_ix f) (hf : k_isN f = true := by decide) : g = f := by
  unfold k_isN at e hf
  simp only [Bool.or_eq_true, Bool.and_eq_true, decide_eq_true_eq, beq_iff_eq] at e hf
  unfold k_ix at e2
  (repeat' split at e2) <;> omega
section KRF
variable {G : hpG} {pr : Nat → Prop} {B : hpT} {N S : Nat} {h : hpT} {κ : kS} {a : aS} {n : Nat}
theorem k_o0 (hn : n < a_mk a) (hk : a_nd a 0 n = 1) : k_ok a 0 n := Or.inl ⟨by decide, hn, hk⟩
theorem KR.f0 (K : KR G pr B N S h κ a) (hn : n < a_mk a) (hk : a_nd a 0 n = 1) : hp_fl h 0 (κ.1 1 n) = .int (κ.2.1 n) := K.V 0 n (k_o0 hn hk)
theorem k_o1 (hn : n < a_mk a) (hk : a_nd a 0 n = 1) : k_ok a 1 n := Or.inl ⟨by decide, hn, hk⟩
theorem KR.f1 (K : KR G pr B N S h κ a) (hn : n < a_mk a) (hk : a_nd a 0 n = 1) : hp_fl h 1 (κ.1 1 n) = .ref (κ.1 2 n) := K.V 1 n (k_o1 hn hk)
theorem k_o2 (hn : n < a_mk a) (hk : a_nd a 0 n = 1) : k_ok a 2 n := Or.inl ⟨by decide, hn, hk⟩
theorem KR.f2 (K : KR G pr B N S h κ a) (hn : n < a_mk a) (hk : a_nd a 0 n = 1) : hp_fl h 2 (κ.1 1 n) = .int (nI (a_rw a n).length) := K.V 2 n (k_o2 hn hk)
theorem k_o32 : k_ok a 32 0 := Or.inr (Or.inl ⟨by decide, by decide, rfl⟩)
theorem KR.f32 (K : KR G pr B N S h κ a) : hp_fl h 32 (κ.1 5 1) = .ref (κ.1 5 2) := K.V 32 0 (k_o32)
theorem k_o33 : k_ok a 33 0 := Or.inr (Or.inl ⟨by decide, by decide, rfl⟩)
theorem KR.f33 (K : KR G pr B N S h κ a) : hp_fl h 33 (κ.1 5 1) = .int (nI (a_tm a)) := K.V 33 0 (k_o33)
theorem k_o34 : k_ok a 34 0 := Or.inr (Or.inl ⟨by decide, by decide, rfl⟩)
theorem KR.f34 (K : KR G pr B N S h κ a) : hp_fl h 34 (κ.1 5 1) = .int (nI (a_ev a).length) := K.V 34 0 (k_o34)
theorem k_o64 (hn : n < a_mk a) : k_ok a 64 n := Or.inr (Or.inr (Or.inl ⟨by decide, by decide, hn⟩))
theorem KR.f64 (K : KR G pr B N S h κ a) (hn : n < a_mk a) : hp_fl h 64 (κ.1 0 n) = .int (nI n) := K.V 64 n (k_o64 hn)
theorem k_o65 (hn : n < a_mk a) : k_ok a 65 n := Or.inr (Or.inr (Or.inl ⟨by decide, by decide, hn⟩))
theorem KR.f65 (K : KR G pr B N S h κ a) (hn : n < a_mk a) : hp_fl h 65 (κ.1 0 n) = va_rf (if n = 0 then none else some (κ.1 0 (a_nd a 1 n).toNat)) := K.V 65 n (k_o65 hn)
theorem k_o66 (hn : n < a_mk a) : k_ok a 66 n := Or.inr (Or.inr (Or.inl ⟨by decide, by decide, hn⟩))
theorem KR.f66 (K : KR G pr B N S h κ a) (hn : n < a_mk a) : hp_fl h 66 (κ.1 0 n) = .int (Int32.ofInt (a_nd a 2 n)) := K.V 66 n (k_o66 hn)
theorem k_o67 (hn : n < a_mk a) : k_ok a 67 n := Or.inr (Or.inr (Or.inl ⟨by decide, by decide, hn⟩))
theorem KR.f67 (K : KR G pr B N S h κ a) (hn : n < a_mk a) : hp_fl h 67 (κ.1 0 n) = .int (Int32.ofInt (a_nd a 4 n)) := K.V 67 n (k_o67 hn)
theorem k_o68 (hn : n < a_mk a) : k_ok a 68 n := Or.inr (Or.inr (Or.inl ⟨by decide, by decide, hn⟩))
theorem KR.f68 (K : KR G pr B N S h κ a) (hn : n < a_mk a) : hp_fl h 68 (κ.1 0 n) = .int (Int32.ofInt (a_nd a 3 n)) := K.V 68 n (k_o68 hn)
theorem k_o69 (hn : n < a_mk a) (hk : a_nd a 0 n = 1) : k_ok a 69 n := Or.inr (Or.inr (Or.inr (Or.inl ⟨by decide, by decide, hn, hk⟩)))
theorem KR.f69 (K : KR G pr B N S h κ a) (hn : n < a_mk a) (hk : a_nd a 0 n = 1) : hp_fl h 69 (κ.1 0 n) = .ref (κ.1 1 n) := K.V 69 n (k_o69 hn hk)
theorem k_o70 (hn : n < a_mk a) (hk : a_nd a 0 n = 1) : k_ok a 70 n := Or.inr (Or.inr (Or.inr (Or.inl ⟨by decide, by decide, hn, hk⟩)))
theorem KR.f70 (K : KR G pr B N S h κ a) (hn : n < a_mk a) (hk : a_nd a 0 n = 1) : hp_fl h 70 (κ.1 0 n) = .ref (κ.1 3 n) := K.V 70 n (k_o70 hn hk)
theorem k_o71 (hn : n < a_mk a) (hk : a_nd a 0 n = 1) : k_ok a 71 n := Or.inr (Or.inr (Or.inr (Or.inl ⟨by decide, by decide, hn, hk⟩)))
theorem KR.f71 (K : KR G pr B N S h κ a) (hn : n < a_mk a) (hk : a_nd a 0 n = 1) : hp_fl h 71 (κ.1 0 n) = .int (Int32.ofInt (a_nd a 5 n)) := K.V 71 n (k_o71 hn hk)
theorem k_o72 (hn : n < a_mk a) (hk : a_nd a 0 n = 1) : k_ok a 72 n := Or.inr (Or.inr (Or.inr (Or.inl ⟨by decide, by decide, hn, hk⟩)))
theorem KR.f72 (K : KR G pr B N S h κ a) (hn : n < a_mk a) (hk : a_nd a 0 n = 1) : hp_fl h 72 (κ.1 0 n) = .int (Int32.ofInt (a_nd a 6 n)) := K.V 72 n (k_o72 hn hk)
theorem k_o73 (hn : n < a_mk a) (hk : a_nd a 0 n = 1) : k_ok a 73 n := Or.inr (Or.inr (Or.inr (Or.inl ⟨by decide, by decide, hn, hk⟩)))
theorem KR.f73 (K : KR G pr B N S h κ a) (hn : n < a_mk a) (hk : a_nd a 0 n = 1) : hp_fl h 73 (κ.1 0 n) = .int (Int32.ofInt (a_nd a 7 n)) := K.V 73 n (k_o73 hn hk)
theorem k_o96 (hn : n < a_mk a) (hk : a_nd a 0 n = 1) : k_ok a 96 n := Or.inr (Or.inr (Or.inr (Or.inr (Or.inl ⟨by decide, by decide, hn, hk⟩))))
theorem KR.f96 (K : KR G pr B N S h κ a) (hn : n < a_mk a) (hk : a_nd a 0 n = 1) : hp_fl h 96 (κ.1 3 n) = .ref (κ.1 4 n) := K.V 96 n (k_o96 hn hk)
theorem k_o97 (hn : n < a_mk a) (hk : a_nd a 0 n = 1) : k_ok a 97 n := Or.inr (Or.inr (Or.inr (Or.inr (Or.inl ⟨by decide, by decide, hn, hk⟩))))
theorem KR.f97 (K : KR G pr B N S h κ a) (hn : n < a_mk a) (hk : a_nd a 0 n = 1) : hp_fl h 97 (κ.1 3 n) = .int (nI (κ.2.2 n).length) := K.V 97 n (k_o97 hn hk)
theorem k_o133 (hn : n < a_mk a) (hk : a_nd a 0 n = 0) : k_ok a 133 n := Or.inr (Or.inr (Or.inr (Or.inr (Or.inr (Or.inl ⟨by decide, by decide, hn, hk⟩)))))
theorem KR.f133 (K : KR G pr B N S h κ a) (hn : n < a_mk a) (hk : a_nd a 0 n = 0) : hp_fl h 133 (κ.1 0 n) = .int (Int32.ofInt (a_nd a 8 n)) := K.V 133 n (k_o133 hn hk)
theorem k_o134 (hn : n < a_mk a) (hk : a_nd a 0 n = 0) : k_ok a 134 n := Or.inr (Or.inr (Or.inr (Or.inr (Or.inr (Or.inl ⟨by decide, by decide, hn, hk⟩)))))
theorem KR.f134 (K : KR G pr B N S h κ a) (hn : n < a_mk a) (hk : a_nd a 0 n = 0) : hp_fl h 134 (κ.1 0 n) = .int (Int32.ofInt (a_nd a 9 n)) := K.V 134 n (k_o134 hn hk)
theorem k_o135 (hn : n < a_mk a) (hk : a_nd a 0 n = 0) : k_ok a 135 n := Or.inr (Or.inr (Or.inr (Or.inr (Or.inr (Or.inl ⟨by decide, by decide, hn, hk⟩)))))
theorem KR.f135 (K : KR G pr B N S h κ a) (hn : n < a_mk a) (hk : a_nd a 0 n = 0) : hp_fl h 135 (κ.1 0 n) = .int (Int32.ofInt (a_nd a 10 n)) := K.V 135 n (k_o135 hn hk)
theorem k_o136 (hn : n < a_mk a) (hk : a_nd a 0 n = 0) : k_ok a 136 n := Or.inr (Or.inr (Or.inr (Or.inr (Or.inr (Or.inl ⟨by decide, by decide, hn, hk⟩)))))
theorem KR.f136 (K : KR G pr B N S h κ a) (hn : n < a_mk a) (hk : a_nd a 0 n = 0) : hp_fl h 136 (κ.1 0 n) = .int (Int32.ofInt (a_nd a 11 n)) := K.V 136 n (k_o136 hn hk)
theorem k_o160 : k_ok a 160 0 := Or.inr (Or.inr (Or.inr (Or.inr (Or.inr (Or.inr ⟨by decide, by decide, rfl⟩)))))
theorem KR.f160 (K : KR G pr B N S h κ a) : hp_fl h 160 (κ.1 5 0) = .ref (κ.1 5 1) := K.V 160 0 (k_o160)
theorem k_o161 : k_ok a 161 0 := Or.inr (Or.inr (Or.inr (Or.inr (Or.inr (Or.inr ⟨by decide, by decide, rfl⟩)))))
theorem KR.f161 (K : KR G pr B N S h κ a) : hp_fl h 161 (κ.1 5 0) = .ref (κ.1 5 7) := K.V 161 0 (k_o161)
theorem k_o162 : k_ok a 162 0 := Or.inr (Or.inr (Or.inr (Or.inr (Or.inr (Or.inr ⟨by decide, by decide, rfl⟩)))))
theorem KR.f162 (K : KR G pr B N S h κ a) : hp_fl h 162 (κ.1 5 0) = .ref (κ.1 0 0) := K.V 162 0 (k_o162)
theorem k_o163 : k_ok a 163 0 := Or.inr (Or.inr (Or.inr (Or.inr (Or.inr (Or.inr ⟨by decide, by decide, rfl⟩)))))
theorem KR.f163 (K : KR G pr B N S h κ a) : hp_fl h 163 (κ.1 5 0) = .int (nI (a_mk a)) := K.V 163 0 (k_o163)
theorem k_o164 : k_ok a 164 0 := Or.inr (Or.inr (Or.inr (Or.inr (Or.inr (Or.inr ⟨by decide, by decide, rfl⟩)))))
theorem KR.f164 (K : KR G pr B N S h κ a) : hp_fl h 164 (κ.1 5 0) = .int (nI (a_rs a)) := K.V 164 0 (k_o164)
theorem k_o165 : k_ok a 165 0 := Or.inr (Or.inr (Or.inr (Or.inr (Or.inr (Or.inr ⟨by decide, by decide, rfl⟩)))))
theorem KR.f165 (K : KR G pr B N S h κ a) : hp_fl h 165 (κ.1 5 0) = .int (nI (a_gv a)) := K.V 165 0 (k_o165)
theorem KR.col (K : KR G pr B N S h κ a) {i : Nat} (hi : i < 4) : hp_ar h (κ.1 5 2) i = .ref (κ.1 5 (3 + i)) := K.A 5 2 i (Or.inr (Or.inr (Or.inl ⟨rfl, rfl, hi⟩)))
theorem KR.nod (K : KR G pr B N S h κ a) {i : Nat} (hi : i < 80) : hp_ar h (κ.1 5 7) i = va_rf (if i < a_mk a then some (κ.1 0 i) else none) := K.A 5 7 i (Or.inr (Or.inr (Or.inr (Or.inr ⟨rfl, rfl, hi⟩))))
theorem KR.elt (K : KR G pr B N S h κ a) {i : Nat} (hn : n < a_mk a) (hk : a_nd a 0 n = 1) (hi : i < (a_rw a n).length) : hp_ar h (κ.1 2 n) i = .ref (κ.1 0 ((a_rw a n).getD i 0)) := K.A 2 n i (Or.inl ⟨rfl, hn, hk, hi⟩)
theorem KR.tim (K : KR G pr B N S h κ a) {i : Nat} (hn : n < a_mk a) (hk : a_nd a 0 n = 1) (hi : i < (κ.2.2 n).length) : hp_ar h (κ.1 4 n) i = .int (nI ((κ.2.2 n).getD i 0)) := K.A 4 n i (Or.inr (Or.inl ⟨rfl, hn, hk, hi⟩))
theorem KR.evt (K : KR G pr B N S h κ a) {i j : Nat} (hj : j < 4) (hi : i < 600) (he : i < (a_ev a).length) : hp_ar h (κ.1 5 (3 + j)) i = .int (nI (k_ec j ((a_ev a).getD i (0, 0, 0, 0)))) := by
  have := K.A 5 (3 + j) i (Or.inr (Or.inr (Or.inr (Or.inl ⟨rfl, by omega, by omega, hi, he⟩))))
  rw [this]
  unfold k_av
  rw [if_neg (by decide), if_neg (by decide), if_neg (by omega), if_neg (by omega), Nat.add_sub_cancel_left]
theorem KR.p68 (K : KR G pr B N S h κ a) (hn : n < a_mk a) (x : Int) : KR G pr B N S (hp_put h 68 (κ.1 0 n) (.int (Int32.ofInt x))) κ (a_sn a 3 n x) := by
  refine ⟨K.1, K.2.1, K.putV (f := 68) (k_o68 hn) (fun _ _ z => z) (fun _ _ => rfl) ?_ (fun g m _ hg => ?_), K.2.2.2.1, K.2.2.2.2.1.put (K.prN hn), K.2.2.2.2.2.1, K.2.2.2.2.2.2⟩
  · show Value.int (Int32.ofInt (va_up (a_nd a) 3 (va_up (a_nd a 3) n x) 3 n)) = _
    rw [va_up_self, va_up_self]
  · unfold k_fv
    by_cases e : k_isN g = true
    · rw [if_pos e, if_pos e]
      show Value.int (Int32.ofInt (va_up (a_nd a) 3 (va_up (a_nd a 3) n x) (k_ix g) m)) = _
      by_cases e2 : k_ix g = 3
      · have eg : g = 68 := k_ixi e e2
        rw [e2, va_up_self, va_up_ne _ _ (hg eg)]
      · rw [va_up_ne _ _ e2]
    · rw [if_neg e, if_neg e]
      rfl
theorem KR.p136 (K : KR G pr B N S h κ a) (hn : n < a_mk a) (hk : a_nd a 0 n = 0) (x : Int) : KR G pr B N S (hp_put h 136 (κ.1 0 n) (.int (Int32.ofInt x))) κ (a_sn a 11 n x) := by
  refine ⟨K.1, K.2.1, K.putV (f := 136) (k_o136 hn hk) (fun _ _ z => z) (fun _ _ => rfl) ?_ (fun g m _ hg => ?_), K.2.2.2.1, K.2.2.2.2.1.put (K.prN hn), K.2.2.2.2.2.1, K.2.2.2.2.2.2⟩
  · show Value.int (Int32.ofInt (va_up (a_nd a) 11 (va_up (a_nd a 11) n x) 11 n)) = _
    rw [va_up_self, va_up_self]
  · unfold k_fv
    by_cases e : k_isN g = true
    · rw [if_pos e, if_pos e]
      show Value.int (Int32.ofInt (va_up (a_nd a) 11 (va_up (a_nd a 11) n x) (k_ix g) m)) = _
      by_cases e2 : k_ix g = 11
      · have eg : g = 136 := k_ixi e e2
        rw [e2, va_up_self, va_up_ne _ _ (hg eg)]
      · rw [va_up_ne _ _ e2]
    · rw [if_neg e, if_neg e]
      rfl
theorem KR.p71 (K : KR G pr B N S h κ a) (hn : n < a_mk a) (hk : a_nd a 0 n = 1) (x : Int) : KR G pr B N S (hp_put h 71 (κ.1 0 n) (.int (Int32.ofInt x))) κ (a_sn a 5 n x) := by
  refine ⟨K.1, K.2.1, K.putV (f := 71) (k_o71 hn hk) (fun _ _ z => z) (fun _ _ => rfl) ?_ (fun g m _ hg => ?_), K.2.2.2.1, K.2.2.2.2.1.put (K.prN hn), K.2.2.2.2.2.1, K.2.2.2.2.2.2⟩
  · show Value.int (Int32.ofInt (va_up (a_nd a) 5 (va_up (a_nd a 5) n x) 5 n)) = _
    rw [va_up_self, va_up_self]
  · unfold k_fv
    by_cases e : k_isN g = true
    · rw [if_pos e, if_pos e]
      show Value.int (Int32.ofInt (va_up (a_nd a) 5 (va_up (a_nd a 5) n x) (k_ix g) m)) = _
      by_cases e2 : k_ix g = 5
      · have eg : g = 71 := k_ixi e e2
        rw [e2, va_up_self, va_up_ne _ _ (hg eg)]
      · rw [va_up_ne _ _ e2]
    · rw [if_neg e, if_neg e]
      rfl
theorem KR.p72 (K : KR G pr B N S h κ a) (hn : n < a_mk a) (hk : a_nd a 0 n = 1) (x : Int) : KR G pr B N S (hp_put h 72 (κ.1 0 n) (.int (Int32.ofInt x))) κ (a_sn a 6 n x) := by
  refine ⟨K.1, K.2.1, K.putV (f := 72) (k_o72 hn hk) (fun _ _ z => z) (fun _ _ => rfl) ?_ (fun g m _ hg => ?_), K.2.2.2.1, K.2.2.2.2.1.put (K.prN hn), K.2.2.2.2.2.1, K.2.2.2.2.2.2⟩
  · show Value.int (Int32.ofInt (va_up (a_nd a) 6 (va_up (a_nd a 6) n x) 6 n)) = _
    rw [va_up_self, va_up_self]
  · unfold k_fv
    by_cases e : k_isN g = true
    · rw [if_pos e, if_pos e]
      show Value.int (Int32.ofInt (va_up (a_nd a) 6 (va_up (a_nd a 6) n x) (k_ix g) m)) = _
      by_cases e2 : k_ix g = 6
      · have eg : g = 72 := k_ixi e e2
        rw [e2, va_up_self, va_up_ne _ _ (hg eg)]
      · rw [va_up_ne _ _ e2]
    · rw [if_neg e, if_neg e]
      rfl
theorem KR.p73 (K : KR G pr B N S h κ a) (hn : n < a_mk a) (hk : a_nd a 0 n = 1) (x : Int) : KR G pr B N S (hp_put h 73 (κ.1 0 n) (.int (Int32.ofInt x))) κ (a_sn a 7 n x) := by
  refine ⟨K.1, K.2.1, K.putV (f := 73) (k_o73 hn hk) (fun _ _ z => z) (fun _ _ => rfl) ?_ (fun g m _ hg => ?_), K.2.2.2.1, K.2.2.2.2.1.put (K.prN hn), K.2.2.2.2.2.1, K.2.2.2.2.2.2⟩
  · show Value.int (Int32.ofInt (va_up (a_nd a) 7 (va_up (a_nd a 7) n x) 7 n)) = _
    rw [va_up_self, va_up_self]
  · unfold k_fv
    by_cases e : k_isN g = true
    · rw [if_pos e, if_pos e]
      show Value.int (Int32.ofInt (va_up (a_nd a) 7 (va_up (a_nd a 7) n x) (k_ix g) m)) = _
      by_cases e2 : k_ix g = 7
      · have eg : g = 73 := k_ixi e e2
        rw [e2, va_up_self, va_up_ne _ _ (hg eg)]
      · rw [va_up_ne _ _ e2]
    · rw [if_neg e, if_neg e]
      rfl
end KRF
