/-! ===== what ceasing and starting leave alone ===== -/
/-- b comes of a: the tree stays, time and events go on -/
def a_kp (a b : aS) : Prop := a_mk b = a_mk a ∧ a_rw b = a_rw a ∧ (∀ f, f ≠ 3 → f ≠ 11 → a_nd b f = a_nd a f) ∧ a_tm a ≤ a_tm b ∧ (a_ev a).length ≤ (a_ev b).length ∧ a_rs b = a_rs a ∧ a_gv b = a_gv a ∧ (a_T a → a_T b) ∧ (a_A a → a_A b)
theorem a_kp.rf (a : aS) : a_kp a a := ⟨rfl, rfl, fun _ _ _ => rfl, Nat.le_refl _, Nat.le_refl _, rfl, rfl, fun t => t, fun t => t⟩
theorem a_kp.tr {a b c : aS} (x : a_kp a b) (y : a_kp b c) : a_kp a c := ⟨y.1.trans x.1, y.2.1.trans x.2.1, fun f h1 h2 => (y.2.2.1 f h1 h2).trans (x.2.2.1 f h1 h2), Nat.le_trans x.2.2.2.1 y.2.2.2.1, Nat.le_trans x.2.2.2.2.1 y.2.2.2.2.1, y.2.2.2.2.2.1.trans x.2.2.2.2.2.1, y.2.2.2.2.2.2.1.trans x.2.2.2.2.2.2.1, fun t => y.2.2.2.2.2.2.2.1 (x.2.2.2.2.2.2.2.1 t), fun t => y.2.2.2.2.2.2.2.2 (x.2.2.2.2.2.2.2.2 t)⟩
theorem a_kp.mk {a b : aS} (x : a_kp a b) : a_mk b = a_mk a := x.1
theorem a_kp.rw' {a b : aS} (x : a_kp a b) : a_rw b = a_rw a := x.2.1
theorem a_kp.nd {a b : aS} (x : a_kp a b) {f : Nat} (h1 : f ≠ 3 := by decide) (h2 : f ≠ 11 := by decide) (n : Nat) : a_nd b f n = a_nd a f n := congrFun (x.2.2.1 f h1 h2) n
theorem a_kp.tm {a b : aS} (x : a_kp a b) : a_tm a ≤ a_tm b := x.2.2.2.1
theorem a_kp.ev {a b : aS} (x : a_kp a b) : (a_ev a).length ≤ (a_ev b).length := x.2.2.2.2.1
theorem a_kp.rs {a b : aS} (x : a_kp a b) : a_rs b = a_rs a := x.2.2.2.2.2.1
theorem a_kp.T {a b : aS} (x : a_kp a b) (t : a_T a) : a_T b := x.2.2.2.2.2.2.2.1 t
theorem a_kp.A {a b : aS} (x : a_kp a b) (t : a_A a) : a_A b := x.2.2.2.2.2.2.2.2 t
theorem a_kp.gv {a b : aS} (x : a_kp a b) : a_gv b = a_gv a := x.2.2.2.2.2.2.1
theorem a_kp.sn3 (a : aS) (n : Nat) {x : Int} (hx : 0 ≤ x ∧ x ≤ 2) : a_kp a (a_sn a 3 n x) := by
  refine ⟨rfl, rfl, fun f h1 _ => va_up_ne _ _ h1, Nat.le_refl _, Nat.le_refl _, rfl, rfl, fun T => ?_, fun A => A⟩
  refine ⟨T.1, T.2.1, fun m hm => ?_, T.2.2.2⟩
  show 0 ≤ va_up (a_nd a) 3 (va_up (a_nd a 3) n x) 3 m ∧ va_up (a_nd a) 3 (va_up (a_nd a 3) n x) 3 m ≤ 2
  rw [va_up_self]
  by_cases e : m = n
  · rw [e, va_up_self]; exact hx
  · rw [va_up_ne _ _ e]; exact T.2.2.1 m hm
theorem a_kp.sn11 (a : aS) (n : Nat) {x : Int} (hx : a_T a → n < a_mk a → 0 ≤ x ∧ x ≤ 50) : a_kp a (a_sn a 11 n x) := by
  refine ⟨rfl, rfl, fun f _ h2 => va_up_ne _ _ h2, Nat.le_refl _, Nat.le_refl _, rfl, rfl, fun T => ?_, fun A => A⟩
  refine ⟨T.1, T.2.1, T.2.2.1, fun m hm => ?_, T.2.2.2.2⟩
  show 0 ≤ va_up (a_nd a) 11 (va_up (a_nd a 11) n x) 11 m ∧ va_up (a_nd a) 11 (va_up (a_nd a 11) n x) 11 m ≤ 50
  rw [va_up_self]
  by_cases e : m = n
  · rw [e, va_up_self]; exact hx T (e ▸ hm)
  · rw [va_up_ne _ _ e]; exact T.2.2.2.1 m hm
theorem a_kp.st (a : aS) {t : Nat} (ht : a_tm a ≤ t) : a_kp a (a_st a t) := ⟨rfl, rfl, fun _ _ _ => rfl, ht, Nat.le_refl _, rfl, rfl, fun T => T, fun A n hn => ⟨(A n hn).1, fun x hx => Nat.le_trans ((A n hn).2 x hx) ht⟩⟩
theorem a_kp.no (a : aS) (w n r : Nat) : a_kp a (a_no a w n r) := ⟨rfl, rfl, fun _ _ _ => rfl, Nat.le_refl _, by show _ ≤ (a_ev a ++ [_]).length; rw [List.length_append]; exact Nat.le_add_right _ _, rfl, rfl, fun T => T, fun A => A⟩
theorem a_kp.srt (a : aS) (n : Nat) (l : List Nat) (hl : l = [] := by rfl) : a_kp a (a_srt a n l) := by
  refine ⟨rfl, rfl, fun _ _ _ => rfl, Nat.le_refl _, Nat.le_refl _, rfl, rfl, fun T => T, fun A m hm => ?_⟩
  subst hl
  show (va_up (a_rt a) n [] m).Pairwise (· ≤ ·) ∧ ∀ x, x ∈ va_up (a_rt a) n [] m → x ≤ a_tm a
  by_cases e : m = n
  · rw [e, va_up_self]
    exact ⟨List.Pairwise.nil, fun x hx => by cases hx⟩
  · rw [va_up_ne _ _ e]
    exact A m hm
theorem a_end_kp (k : Bool) (n : Nat) (a : aS) : a_kp a (a_end k n a) := by
  unfold a_end
  split
  · exact ((a_kp.st a (Nat.le_add_right _ _)).tr (a_kp.sn3 _ n (by omega))).tr (a_kp.no _ _ _ _)
  · exact (a_kp.sn3 a n (by omega)).tr (a_kp.no _ _ _ _)
theorem a_cR_kp {f : Nat → aS → Nat × aS} (hf : ∀ c a, a_kp a (f c a).2) : ∀ (l : List Nat) (a : aS), a_kp a (a_cR f l a).2
  | [], a => a_kp.rf a
  | c :: r, a => by
    unfold a_cR
    split
    · exact (hf c a).tr (a_cR_kp hf r _)
    · exact a_cR_kp hf r a
theorem a_ce_kp (k : Bool) : ∀ (d n : Nat) (a : aS), a_kp a (a_ce k d n a).2
  | 0, _, a => a_kp.rf a
  | d + 1, n, a => by
    unfold a_ce
    split
    · exact a_end_kp k n a
    · exact (a_cR_kp (a_ce_kp k d) _ a).tr (a_end_kp k n _)
theorem a_sR_kp {f : Nat → aS → Bool × aS} (hf : ∀ c a, a_kp a (f c a).2) : ∀ (l : List Nat) (a : aS), a_kp a (a_sR f l a).2
  | [], a => a_kp.rf a
  | c :: r, a => by
    show a_kp a (if (f c a).1 = true then a_sR f r (f c a).2 else (false, (f c a).2)).2
    split
    · exact (hf c a).tr (a_sR_kp hf r _)
    · exact hf c a
theorem a_go_kp : ∀ (d n : Nat) (a : aS), a_kp a (a_go d n a).2
  | 0, _, a => a_kp.rf a
  | d + 1, n, a => by
    by_cases hw : a_nd a 0 n = 0
    · rw [a_go_w hw]
      split
      · refine (((a_kp.st a (Nat.le_add_right _ _)).tr (a_kp.sn11 _ n (fun T hn => ?_))).tr (a_kp.sn3 _ n (by omega))).tr (a_kp.no _ _ _ _)
        have := T.r11 (n := n) hn
        have e : a_nd (a_st a (a_tm a + (a_nd a 9 n).toNat)) 11 n = a_nd a 11 n := rfl
        omega
      · exact ((a_kp.st a (Nat.le_add_right _ _)).tr (a_kp.sn3 _ n (by omega))).tr (a_kp.no _ _ _ _)
    · have e : a_go (d + 1) n a = (if (a_sR (a_go d) (a_rw a n) (a_srt a n [])).1 = true then (true, a_no (a_sn (a_sR (a_go d) (a_rw a n) (a_srt a n [])).2 3 n 1) 1 n 0) else (false, a_no (a_sn (a_cR (a_ce false d) (a_rw a n).reverse (a_sR (a_go d) (a_rw a n) (a_srt a n [])).2).2 3 n 0) 2 n 0)) := by
        show (if a_nd a 0 n = 0 then _ else _) = _
        rw [if_neg hw]
      rw [e]
      have k1 := (a_kp.srt a n []).tr (a_sR_kp (a_go_kp d) (a_rw a n) (a_srt a n []))
      split
      · exact (k1.tr (a_kp.sn3 _ n (by omega))).tr (a_kp.no _ _ _ _)
      · exact ((k1.tr (a_cR_kp (a_ce_kp false d) _ _)).tr (a_kp.sn3 _ n (by omega))).tr (a_kp.no _ _ _ _)
