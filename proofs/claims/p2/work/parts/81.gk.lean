/-! ===== what leaves the gone gone ===== -/
/-- b comes of a, nothing goes, nothing comes back, and nothing is made -/
def a_gk (a b : aS) : Prop := a_kp a b ∧ (∀ n, a_nd b 3 n = 2 ↔ a_nd a 3 n = 2) ∧ (∀ n, a_mk a ≤ n → a_nd b 3 n = a_nd a 3 n ∧ a_nd b 11 n = a_nd a 11 n) ∧ a_rtk a b
theorem a_gk.rf (a : aS) : a_gk a a := ⟨a_kp.rf a, fun _ => Iff.rfl, fun _ _ => ⟨rfl, rfl⟩, a_rtk.of rfl⟩
theorem a_gk.tr {a b c : aS} (x : a_gk a b) (y : a_gk b c) : a_gk a c := ⟨x.1.tr y.1, fun n => (y.2.1 n).trans (x.2.1 n), fun n hn => by
  have hb := y.2.2.1 n (by rw [x.1.mk]; exact hn)
  have ha := x.2.2.1 n hn
  exact ⟨hb.1.trans ha.1, hb.2.trans ha.2⟩, x.2.2.2.tr y.2.2.2⟩
theorem a_gk.st (a : aS) {t : Nat} (ht : a_tm a ≤ t) : a_gk a (a_st a t) := ⟨a_kp.st a ht, fun _ => Iff.rfl, fun _ _ => ⟨rfl, rfl⟩, a_rtk.of rfl⟩
theorem a_gk.no (a : aS) (w n r : Nat) : a_gk a (a_no a w n r) := ⟨a_kp.no a w n r, fun _ => Iff.rfl, fun _ _ => ⟨rfl, rfl⟩, a_rtk.of rfl⟩
theorem a_gk.srt (a : aS) (n : Nat) : a_gk a (a_srt a n []) := ⟨a_kp.srt a n [], fun _ => Iff.rfl, fun _ _ => ⟨rfl, rfl⟩, a_srt_rtk a n⟩
theorem a_nd_sne (a : aS) {f g : Nat} (n : Nat) (x : Int) (h : g ≠ f) : a_nd (a_sn a f n x) g = a_nd a g := va_up_ne _ _ h
theorem a_nd_sn3 (a : aS) (n m : Nat) (x : Int) : a_nd (a_sn a 3 n x) 3 m = if m = n then x else a_nd a 3 m := by
  show va_up (a_nd a) 3 (va_up (a_nd a 3) n x) 3 m = _
  rw [va_up_self]
  by_cases e : m = n
  · rw [e, va_up_self, if_pos rfl]
  · rw [va_up_ne _ _ e, if_neg e]
theorem a_gk.sn3 (a : aS) {n : Nat} {x : Int} (hn : n < a_mk a) (h2 : ¬ a_nd a 3 n = 2) (hx : 0 ≤ x ∧ x ≤ 1) : a_gk a (a_sn a 3 n x) := by
  refine ⟨a_kp.sn3 a n (by omega), fun m => ?_, fun m hm => ⟨?_, congrFun (a_nd_sne a n x (by decide)) m⟩, a_rtk.of rfl⟩
  · rw [a_nd_sn3]
    by_cases e : m = n
    · rw [if_pos e, e]
      exact ⟨fun z => by omega, fun z => absurd z h2⟩
    · rw [if_neg e]
  · rw [a_nd_sn3, if_neg (by omega)]
theorem a_gk.sn11 (a : aS) {n : Nat} {x : Int} (hn : n < a_mk a) (hx : a_T a → n < a_mk a → 0 ≤ x ∧ x ≤ 50) : a_gk a (a_sn a 11 n x) := by
  refine ⟨a_kp.sn11 a n hx, fun m => ?_, fun m hm => ⟨congrFun (a_nd_sne a n x (by decide)) m, ?_⟩, a_rtk.of rfl⟩
  · have e : a_nd (a_sn a 11 n x) 3 = a_nd a 3 := a_nd_sne a n x (by decide)
    rw [e]
  · show va_up (a_nd a) 11 (va_up (a_nd a 11) n x) 11 m = _
    rw [va_up_self, va_up_ne _ _ (by omega)]
theorem a_R.gk {a b : aS} (x : a_R a) (k : a_gk a b) : a_R b := by
  obtain ⟨x1, x2, x3, x4, x5⟩ := x
  obtain ⟨k1, k2, k3, k4⟩ := k
  have epa : ∀ n, a_pa b n = a_pa a n := fun n => by show (a_nd b 1 n).toNat = (a_nd a 1 n).toNat; rw [k1.nd]
  refine ⟨by rw [k1.nd]; exact x1, by rw [k1.nd]; exact x2, fun n hn h0 h2 => ?_, fun n c hn hc h2 => ?_, fun n hn h8 => ?_⟩
  · rw [k1.mk] at hn
    rw [k2] at h2
    obtain ⟨q1, q2, q3⟩ := x3 n hn h0 h2
    rw [epa, k1.rw', k1.nd, k2]
    exact ⟨q1, q2, q3⟩
  · rw [k1.mk] at hn
    rw [k1.rw'] at hc
    rw [k2] at h2 ⊢
    exact x4 n c hn hc h2
  · rw [k1.mk] at hn
    obtain ⟨q1, q2, q3⟩ := x5 n hn h8
    refine ⟨fun f hf => ?_, by rw [k1.rw']; exact q2, k4.nil q3⟩
    by_cases e3 : f = 3
    · subst e3
      rw [(k3 n hn).1]
      exact q1 3 hf
    · by_cases e11 : f = 11
      · subst e11
        rw [(k3 n hn).2]
        exact q1 11 hf
      · rw [k1.nd e3 e11]
        exact q1 f hf
theorem a_gk.W {a b : aS} (k : a_gk a b) (x : a_W a) : a_W b := x.k k.1 k.2.2.2
theorem a_end_gk (k : Bool) {n : Nat} {a : aS} (hn : n < a_mk a) (h2 : ¬ a_nd a 3 n = 2) : a_gk a (a_end k n a) := by
  unfold a_end
  split
  · exact ((a_gk.st a (Nat.le_add_right _ _)).tr (a_gk.sn3 _ hn h2 (by omega))).tr (a_gk.no _ _ _ _)
  · exact (a_gk.sn3 a hn h2 (by omega)).tr (a_gk.no _ _ _ _)
theorem a_cR_gk {f : Nat → aS → Nat × aS} (hf : ∀ c a, a_T a → c < a_mk a → a_nd a 3 c = 1 → a_gk a (f c a).2) : ∀ (l : List Nat) (a : aS), a_T a → (∀ c ∈ l, c < a_mk a) → a_gk a (a_cR f l a).2
  | [], a, _, _ => a_gk.rf a
  | c :: r, a, T, hl => by
    unfold a_cR
    split
    · next h =>
      have k1 := hf c a T (hl c List.mem_cons_self) h
      exact k1.tr (a_cR_gk hf r _ (k1.1.T T) (fun x hx => by rw [k1.1.mk]; exact hl x (List.mem_cons_of_mem _ hx)))
    · exact a_cR_gk hf r a T (fun x hx => hl x (List.mem_cons_of_mem _ hx))
theorem a_ce_gk (k : Bool) : ∀ (f n : Nat) (a : aS), a_T a → n < a_mk a → ¬ a_nd a 3 n = 2 → a_gk a (a_ce k f n a).2
  | 0, _, a, _, _, _ => a_gk.rf a
  | f + 1, n, a, T, hn, h2 => by
    unfold a_ce
    split
    · exact a_end_gk k hn h2
    · have k1 := a_cR_gk (fun c b Tb hc h1 => a_ce_gk k f c b Tb hc (by omega)) (a_rw a n).reverse a T (fun c hc => (T.rc hn (List.mem_reverse.mp hc)).1)
      exact k1.tr (a_end_gk k (by rw [k1.1.mk]; exact hn) (by rw [k1.2.1]; exact h2))
theorem a_sF_gk {f : Nat → aS → Bool × aS} (hf : ∀ c a, a_T a → a_R a → c < a_mk a → ¬ a_nd a 3 c = 2 → a_gk a (f c a).2) : ∀ (l : List Nat) (a : aS), a_T a → a_R a → (∀ c ∈ l, c < a_mk a ∧ ¬ a_nd a 3 c = 2) → a_gk a (a_sF f l a).2
  | [], a, _, _, _ => a_gk.rf a
  | c :: r, a, T, X, hl => by
    have k1 := hf c a T X (hl c List.mem_cons_self).1 (hl c List.mem_cons_self).2
    unfold a_sF
    split
    · exact k1.tr (a_sF_gk hf r _ (k1.1.T T) (X.gk k1) (fun x hx => by rw [k1.1.mk, k1.2.1]; exact hl x (List.mem_cons_of_mem _ hx)))
    · exact k1
theorem a_go_gk : ∀ (f n : Nat) (a : aS), a_T a → a_R a → n < a_mk a → ¬ a_nd a 3 n = 2 → a_gk a (a_go f n a).2
  | 0, _, a, _, _, _, _ => a_gk.rf a
  | f + 1, n, a, T, X, hn, h2 => by
    by_cases hw : a_nd a 0 n = 0
    · rw [a_go_w hw]
      split
      · refine (((a_gk.st a (Nat.le_add_right _ _)).tr (a_gk.sn11 _ hn (fun T hn => ?_))).tr (a_gk.sn3 _ hn ?_ (by omega))).tr (a_gk.no _ _ _ _)
        · have := T.r11 (n := n) hn
          have e : a_nd (a_st a (a_tm a + (a_nd a 9 n).toNat)) 11 n = a_nd a 11 n := rfl
          omega
        · have e : ∀ (b : aS) (x : Int), a_nd (a_sn b 11 n x) 3 = a_nd b 3 := fun b x => a_nd_sne b n x (by decide)
          rw [e]
          exact h2
      · exact ((a_gk.st a (Nat.le_add_right _ _)).tr (a_gk.sn3 _ hn h2 (by omega))).tr (a_gk.no _ _ _ _)
    · have e : a_go (f + 1) n a = (if (a_sR (a_go f) (a_rw a n) (a_srt a n [])).1 = true then (true, a_no (a_sn (a_sR (a_go f) (a_rw a n) (a_srt a n [])).2 3 n 1) 1 n 0) else (false, a_no (a_sn (a_cR (a_ce false f) (a_rw a n).reverse (a_sR (a_go f) (a_rw a n) (a_srt a n [])).2).2 3 n 0) 2 n 0)) := by
        show (if a_nd a 0 n = 0 then _ else _) = _
        rw [if_neg hw]
      rw [e, a_sF_R]
      have k0 := a_gk.srt a n
      have k1 := k0.tr (a_sF_gk (fun c b Tb Xb hc h => a_go_gk f c b Tb Xb hc h) (a_rw a n) (a_srt a n []) (k0.1.T T) (X.gk k0) (fun c hc => ⟨(T.rc hn hc).1, X.2.2.2.1 n c hn hc h2⟩))
      split
      · exact (k1.tr (a_gk.sn3 _ (by rw [k1.1.mk]; exact hn) (by rw [k1.2.1]; exact h2) (by omega))).tr (a_gk.no _ _ _ _)
      · have k2 := k1.tr (a_cR_gk (fun c b Tb hc h1 => a_ce_gk false f c b Tb hc (by omega)) (a_rw a n).reverse _ (k1.1.T T) (fun c hc => by rw [k1.1.mk]; exact (T.rc hn (List.mem_reverse.mp hc)).1))
        exact (k2.tr (a_gk.sn3 _ (by rw [k2.1.mk]; exact hn) (by rw [k2.2.1]; exact h2) (by omega))).tr (a_gk.no _ _ _ _)
