/-! ===== THE REFERENCE's STATE: an object of 25 fields and the 19 arrays behind it ===== -/
/-- the whole numbers by the field's place, the arrays' contents by the field's place -/
abbrev moS : Type := (Nat → Int32) × (Nat → Nat → Int32)
/-- which array (0 .. 18, in the order of their making) field k holds -/
def mo_j (k : Nat) : Nat := if k ≤ 17 then k - 2 else if k = 20 then 16 else k - 6
def mo_k (j : Nat) : Nat := if j ≤ 15 then j + 2 else if j = 16 then 20 else j + 6
def mo_isA (k : Nat) : Bool := (2 ≤ k && k ≤ 17) || k == 20 || k == 23 || k == 24
def mo_len (k : Nat) : Nat := if k = 14 then 6400 else if k = 16 then 4160 else if k = 20 then 2400 else if k = 23 then 10 else if k = 24 then 10 else 80
theorem mo_kj {k : Nat} (h : mo_isA k = true) : mo_k (mo_j k) = k ∧ mo_j k < 19 := by
  unfold mo_isA at h
  simp only [Bool.or_eq_true, Bool.and_eq_true, decide_eq_true_eq, beq_iff_eq] at h
  unfold mo_k mo_j
  (repeat' split) <;> omega
theorem mo_jk {j : Nat} (h : j < 19) : mo_j (mo_k j) = j ∧ mo_isA (mo_k j) = true := by
  unfold mo_isA mo_k mo_j
  simp only [Bool.or_eq_true, Bool.and_eq_true, decide_eq_true_eq, beq_iff_eq]
  (repeat' split) <;> omega
/-- the heap h, with the reference at m in state s -/
def mo_w (h : hpT) (m : Nat) (s : moS) : hpT := (h.1, h.2.1, h.2.2.1, h.2.2.2.1,
  (fun f b => if b = m ∧ 192 ≤ f ∧ f < 217 then (if mo_isA (f - 192) = true then .ref (m + 1 + mo_j (f - 192)) else .int (s.1 (f - 192))) else hp_fl h f b),
  (fun b i => if m < b ∧ b < m + 20 then .int (s.2 (mo_k (b - (m + 1))) i) else hp_ar h b i))
/-- the reference lies there -/
def mo_sh (G : hpG) (h : hpT) (m : Nat) : Prop := hp_n0 G ≤ m ∧ m + 19 < hp_nx h ∧ hp_kd h m = 6 ∧ (∀ k, mo_isA k = true → hp_kd h (m + 1 + mo_j k) = (if k = 2 then 11 else 10) ∧ hp_ln h (m + 1 + mo_j k) = mo_len k)
abbrev mo_arr (m k : Nat) : Nat := m + 1 + mo_j k
/-- array k, place i := x -/
def mo_up (s : moS) (k i : Nat) (x : Int32) : moS := (s.1, va_up s.2 k (va_up (s.2 k) i x))
/-- number k := x -/
def mo_pt (s : moS) (k : Nat) (x : Int32) : moS := (va_up s.1 k x, s.2)
section MO
variable {G : hpG} {h : hpT} {m : Nat} {s : moS}
theorem mo_w_fl (f b : Nat) : hp_fl (mo_w h m s) f b = (if b = m ∧ 192 ≤ f ∧ f < 217 then (if mo_isA (f - 192) = true then .ref (m + 1 + mo_j (f - 192)) else .int (s.1 (f - 192))) else hp_fl h f b) := rfl
theorem mo_w_ar (b i : Nat) : hp_ar (mo_w h m s) b i = (if m < b ∧ b < m + 20 then .int (s.2 (mo_k (b - (m + 1))) i) else hp_ar h b i) := rfl
theorem mo_fd (k : Nat) : hp_fd 6 k = 192 + k := by unfold hp_fd; rw [if_neg (by decide)]
theorem mo_fl_A {k : Nat} (hk : mo_isA k = true) (h25 : k < 25) : hp_fl (mo_w h m s) (hp_fd 6 k) m = .ref (mo_arr m k) := by
  rw [mo_fd, mo_w_fl, if_pos ⟨rfl, by omega, by omega⟩, Nat.add_sub_cancel_left, if_pos hk]
theorem mo_fl_S {k : Nat} (hk : mo_isA k = false) (h25 : k < 25) : hp_fl (mo_w h m s) (hp_fd 6 k) m = .int (s.1 k) := by
  rw [mo_fd, mo_w_fl, if_pos ⟨rfl, by omega, by omega⟩, Nat.add_sub_cancel_left, if_neg (by rw [hk]; decide)]
/-- two pure heaps are one -/
theorem hp_ext {h h' : hpT} (e1 : hp_nx h = hp_nx h') (e2 : hp_sl h = hp_sl h') (e3 : hp_kd h = hp_kd h') (e4 : hp_ln h = hp_ln h') (e5 : ∀ f b, hp_fl h f b = hp_fl h' f b) (e6 : ∀ b i, hp_ar h b i = hp_ar h' b i) : h = h' := by
  obtain ⟨a1, a2, a3, a4, a5, a6⟩ := h
  obtain ⟨b1, b2, b3, b4, b5, b6⟩ := h'
  have e5' : a5 = b5 := funext fun f => funext fun b => e5 f b
  have e6' : a6 = b6 := funext fun f => funext fun b => e6 f b
  have e1 : a1 = b1 := e1
  have e2 : a2 = b2 := e2
  have e3 : a3 = b3 := e3
  have e4 : a4 = b4 := e4
  subst e1 e2 e3 e4 e5' e6'
  rfl
theorem mo_put {k : Nat} (hk : mo_isA k = false) (h25 : k < 25) (x : Int32) : hp_put (mo_w h m s) (hp_fd 6 k) m (.int x) = mo_w h m (mo_pt s k x) := by
  refine hp_ext rfl rfl rfl rfl (fun f b => ?_) (fun _ _ => rfl)
  rw [hp_put_fl, mo_fd, mo_w_fl, mo_w_fl, mo_w_fl]
  have es : ∀ q, (mo_pt s k x).1 q = va_up s.1 k x q := fun _ => rfl
  rw [es]
  by_cases ef : f = 192 + k
  · rw [if_pos ef]
    by_cases eb : b = m
    · rw [if_pos eb, if_pos ⟨eb, by omega, by omega⟩, show f - 192 = k by omega, if_neg (by rw [hk]; decide), va_up_self]
    · rw [if_neg eb, if_neg (fun z => eb z.1), if_neg (fun z => eb z.1), ef]
  · rw [if_neg ef]
    by_cases c : b = m ∧ 192 ≤ f ∧ f < 217
    · rw [if_pos c, if_pos c, va_up_ne _ _ (show f - 192 ≠ k by omega)]
    · rw [if_neg c, if_neg c]
theorem mo_ar {k : Nat} (hk : mo_isA k = true) (i : Nat) : hp_ar (mo_w h m s) (mo_arr m k) i = .int (s.2 k i) := by
  obtain ⟨e1, e2⟩ := mo_kj hk
  rw [mo_w_ar, if_pos (show m < m + 1 + mo_j k ∧ m + 1 + mo_j k < m + 20 from ⟨by omega, by omega⟩), Nat.add_sub_cancel_left, e1]
theorem mo_set {k : Nat} (hk : mo_isA k = true) (i : Nat) (x : Int32) : hp_set (mo_w h m s) (mo_arr m k) i (.int x) = mo_w h m (mo_up s k i x) := by
  obtain ⟨e1, e2⟩ := mo_kj hk
  refine hp_ext rfl rfl rfl rfl (fun _ _ => rfl) (fun b j => ?_)
  rw [hp_set_ar, mo_ar hk, mo_w_ar, mo_w_ar]
  have es : ∀ q z, (mo_up s k i x).2 q z = va_up s.2 k (va_up (s.2 k) i x) q z := fun _ _ => rfl
  rw [es]
  by_cases eb : b = mo_arr m k
  · have hb : b - (m + 1) = mo_j k := by rw [eb]; exact Nat.add_sub_cancel_left ..
    rw [if_pos eb, if_pos (show m < b ∧ b < m + 20 by rw [eb]; exact ⟨show m < m + 1 + mo_j k by omega, show m + 1 + mo_j k < m + 20 by omega⟩), hb, e1, va_up_self]
    by_cases ej : j = i
    · rw [if_pos ej, ej, va_up_self]
    · rw [if_neg ej, va_up_ne _ _ ej]
  · rw [if_neg eb]
    by_cases c : m < b ∧ b < m + 20
    · rw [if_pos c, if_pos c, va_up_ne]
      intro z
      have := (mo_jk (j := b - (m + 1)) (by omega)).1
      rw [z] at this
      exact eb (by show b = m + 1 + mo_j k; omega)
    · rw [if_neg c, if_neg c]
theorem mo_sh.w (x : mo_sh G h m) (s : moS) : mo_sh G (mo_w h m s) m := x
theorem mo_sh.o (x : mo_sh G h m) : hp_is G (mo_w h m s) m 6 := ⟨x.1, by have := x.2.1; show m < hp_nx h; omega, x.2.2.1⟩
theorem mo_sh.a (x : mo_sh G h m) {k : Nat} (hk : mo_isA k = true) (h2 : k ≠ 2) : hp_is G (mo_w h m s) (mo_arr m k) 10 := by
  obtain ⟨e1, e2⟩ := mo_kj hk
  refine ⟨by have := x.1; show hp_n0 G ≤ m + 1 + mo_j k; omega, by have := x.2.1; show m + 1 + mo_j k < hp_nx h; omega, ?_⟩
  have := (x.2.2.2 k hk).1
  rw [if_neg h2] at this
  exact this
theorem mo_sh.z (x : mo_sh G h m) : hp_is G (mo_w h m s) (mo_arr m 2) 11 := by
  refine ⟨by have := x.1; show hp_n0 G ≤ m + 1 + mo_j 2; omega, by have := x.2.1; show m + 1 + mo_j 2 < hp_nx h; have : mo_j 2 = 0 := rfl; omega, ?_⟩
  exact (x.2.2.2 2 rfl).1
theorem mo_sh.n (x : mo_sh G h m) {k : Nat} (hk : mo_isA k = true) : hp_ln (mo_w h m s) (mo_arr m k) = mo_len k := (x.2.2.2 k hk).2
variable {M : hpM} {y : MethodName} {cc : ByteArray} {nL d : Nat} {h0 : hpT} {Q : State → Prop} {pc : Nat} {lo : Nat → Option Value} {st : List Value}
theorem mo_getA (C : hp_F M G y cc nL d h0) (x : mo_sh G h m) {idx k : Nat} (fl : hp_FL y.cls idx 6 k) (hk : mo_isA k = true) (h25 : k < 25) (dd : decode cc pc = .ok (.getfield idx, 3)) (kk : hp_V M G nL Q (mo_w h m s) (pc + 3) lo (.ref (mo_arr m k) :: st)) : hp_V M G nL Q (mo_w h m s) pc lo (.ref m :: st) := hp_get C fl dd x.o (mo_fl_A hk h25) kk
theorem mo_getS (C : hp_F M G y cc nL d h0) (x : mo_sh G h m) {idx k : Nat} (fl : hp_FL y.cls idx 6 k) (hk : mo_isA k = false) (h25 : k < 25) {v : Int32} (ev : s.1 k = v) (dd : decode cc pc = .ok (.getfield idx, 3)) (kk : hp_V M G nL Q (mo_w h m s) (pc + 3) lo (.int v :: st)) : hp_V M G nL Q (mo_w h m s) pc lo (.ref m :: st) := hp_get C fl dd x.o ((mo_fl_S hk h25).trans (by rw [ev])) kk
theorem mo_putS (C : hp_F M G y cc nL d h0) (x : mo_sh G h m) {idx k : Nat} {v : Int32} (fl : hp_FL y.cls idx 6 k) (hk : mo_isA k = false) (h25 : k < 25) (hf : (vwCl[6]?).map (fun r => (r.2.1 k).2.2.2) = some false) (hn : narrow (hp_ty 6 k) (.int v) = .int v) (hfit : fits (hp_ty 6 k) (.int v) = true) (dd : decode cc pc = .ok (.putfield idx, 3)) (kk : hp_V M G nL Q (mo_w h m (mo_pt s k v)) (pc + 3) lo st) : hp_V M G nL Q (mo_w h m s) pc lo (.int v :: .ref m :: st) := hp_putf C fl hf hn hfit dd x.o (by rw [mo_put hk h25]; exact kk)
theorem mo_ald (C : hp_F M G y cc nL d h0) (x : mo_sh G h m) {k : Nat} {i : Int32} {f : Nat → Int32} (hk : mo_isA k = true) (h2 : k ≠ 2) (ef : s.2 k = f) (dd : decode cc pc = .ok (.iaload, 1)) (hin : vp_in i (mo_len k)) (kk : hp_V M G nL Q (mo_w h m s) (pc + 1) lo (.int (f i.toNatClampNeg) :: st)) : hp_V M G nL Q (mo_w h m s) pc lo (.int i :: .ref (mo_arr m k) :: st) := hp_iald C dd (x.a hk h2) (by rw [x.n hk]; exact hin) ((mo_ar hk _).trans (by rw [ef])) kk
theorem mo_zld (C : hp_F M G y cc nL d h0) (x : mo_sh G h m) {i : Int32} {f : Nat → Int32} (ef : s.2 2 = f) (dd : decode cc pc = .ok (.baload, 1)) (hin : vp_in i 80) (kk : hp_V M G nL Q (mo_w h m s) (pc + 1) lo (.int (f i.toNatClampNeg) :: st)) : hp_V M G nL Q (mo_w h m s) pc lo (.int i :: .ref (mo_arr m 2) :: st) := hp_zald C dd x.z (by rw [x.n (k := 2) rfl]; exact hin) ((mo_ar rfl _).trans (by rw [ef])) kk
theorem mo_ast (C : hp_F M G y cc nL d h0) (x : mo_sh G h m) {k : Nat} {i v : Int32} (hk : mo_isA k = true) (h2 : k ≠ 2) (dd : decode cc pc = .ok (.iastore, 1)) (hin : vp_in i (mo_len k)) (kk : hp_V M G nL Q (mo_w h m (mo_up s k i.toNatClampNeg v)) (pc + 1) lo st) : hp_V M G nL Q (mo_w h m s) pc lo (.int v :: .int i :: .ref (mo_arr m k) :: st) := hp_iast C dd (x.a hk h2) (by rw [x.n hk]; exact hin) (by rw [mo_set hk]; exact kk)
theorem mo_zst (C : hp_F M G y cc nL d h0) (x : mo_sh G h m) {i v : Int32} (hn : narrow .boolean (.int v) = .int v) (dd : decode cc pc = .ok (.bastore, 1)) (hin : vp_in i 80) (kk : hp_V M G nL Q (mo_w h m (mo_up s 2 i.toNatClampNeg v)) (pc + 1) lo st) : hp_V M G nL Q (mo_w h m s) pc lo (.int v :: .int i :: .ref (mo_arr m 2) :: st) := hp_zast C dd hn x.z (by rw [x.n (k := 2) rfl]; exact hin) (by rw [mo_set (k := 2) rfl]; exact kk)
end MO
