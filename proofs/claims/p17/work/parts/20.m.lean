/-- n rows of k numbers each -/
def hp_mkM (h : hpT) (n k : Nat) : hpT := (h.1 + 1 + n, h.2.1 + (n + n * k), (fun b => if b < h.1 then hp_kd h b else if b = h.1 then 15 else if b < h.1 + 1 + n then 10 else hp_kd h b), (fun b => if b < h.1 then hp_ln h b else if b = h.1 then n else if b < h.1 + 1 + n then k else hp_ln h b), h.2.2.2.2.1,
  (fun b i => if b < h.1 then hp_ar h b i else if b = h.1 then .ref (h.1 + 1 + i) else if b < h.1 + 1 + n then .int 0 else hp_ar h b i))
/-! ===== THE REFERENCE's STATE: an object of 25 fields and the 19 arrays behind it ===== -/
/-- the whole numbers by the field's place, the arrays' contents by the field's place -/
abbrev moS : Type := (Nat → Int32) × (Nat → Nat → Int32)
/-- which array (0 .. 18, in the order of their making) field k holds -/
def mo_j (k : Nat) : Nat := if k ≤ 17 then k - 2 else if k = 20 then 16 else k - 6
def mo_k (j : Nat) : Nat := if j ≤ 15 then j + 2 else if j = 16 then 20 else j + 6
def mo_isA (k : Nat) : Bool := (2 ≤ k && k ≤ 17) || k == 20 || k == 23 || k == 24
def mo_len (k : Nat) : Nat := if k = 14 then 6400 else if k = 16 then 4160 else if k = 20 then 2400 else if k = 23 then 10 else if k = 24 then 10 else 80
theorem mo_kj {k : Nat} (h : mo_isA k = true) : mo_k (mo_j k) = k ∧ mo_j k < 19 := by
  unfold mo_isA at h
  simp only [Bool.or_eq_true, Bool.and_eq_true, decide_eq_true_eq, beq_iff_eq] at h
  unfold mo_k mo_j
  (repeat' split) <;> omega
theorem mo_jk {j : Nat} (h : j < 19) : mo_j (mo_k j) = j ∧ mo_isA (mo_k j) = true := by
  unfold mo_isA mo_k mo_j
  simp only [Bool.or_eq_true, Bool.and_eq_true, decide_eq_true_eq, beq_iff_eq]
  (repeat' split) <;> omega
/-- the heap h, with the reference at m in state s -/
def mo_w (h : hpT) (m : Nat) (s : moS) : hpT := (h.1, h.2.1, h.2.2.1, h.2.2.2.1,
  (fun f b => if b = m ∧ 192 ≤ f ∧ f < 217 then (if mo_isA (f - 192) = true then .ref (m + 1 + mo_j (f - 192)) else .int (s.1 (f - 192))) else hp_fl h f b),
  (fun b i => if m < b ∧ b < m + 20 then .int (s.2 (mo_k (b - (m + 1))) i) else hp_ar h b i))
/-- the reference lies there -/
def mo_sh (G : hpG) (h : hpT) (m : Nat) : Prop := hp_n0 G ≤ m ∧ m + 19 < hp_nx h ∧ hp_kd h m = 6 ∧ (∀ k, mo_isA k = true → hp_kd h (m + 1 + mo_j k) = (if k = 2 then 11 else 10) ∧ hp_ln h (m + 1 + mo_j k) = mo_len k)
abbrev mo_arr (m k : Nat) : Nat := m + 1 + mo_j k
/-- array k, place i := x -/
def mo_up (s : moS) (k i : Nat) (x : Int32) : moS := (s.1, va_up s.2 k (va_up (s.2 k) i x))
/-- number k := x -/
def mo_pt (s : moS) (k : Nat) (x : Int32) : moS := (va_up s.1 k x, s.2)
section MO
variable {G : hpG} {h : hpT} {m : Nat} {s : moS}
theorem mo_w_fl (f b : Nat) : hp_fl (mo_w h m s) f b = (if b = m ∧ 192 ≤ f ∧ f < 217 then (if mo_isA (f - 192) = true then .ref (m + 1 + mo_j (f - 192)) else .int (s.1 (f - 192))) else hp_fl h f b) := rfl
theorem mo_w_ar (b i : Nat) : hp_ar (mo_w h m s) b i = (if m < b ∧ b < m + 20 then .int (s.2 (mo_k (b - (m + 1))) i) else hp_ar h b i) := rfl
theorem mo_fd (k : Nat) : hp_fd 6 k = 192 + k := by unfold hp_fd; rw [if_neg (by decide)]
theorem mo_fl_A {k : Nat} (hk : mo_isA k = true) (h25 : k < 25) : hp_fl (mo_w h m s) (hp_fd 6 k) m = .ref (mo_arr m k) := by
  rw [mo_fd, mo_w_fl, if_pos ⟨rfl, by omega, by omega⟩, Nat.add_sub_cancel_left, if_pos hk]
theorem mo_fl_S {k : Nat} (hk : mo_isA k = false) (h25 : k < 25) : hp_fl (mo_w h m s) (hp_fd 6 k) m = .int (s.1 k) := by
  rw [mo_fd, mo_w_fl, if_pos ⟨rfl, by omega, by omega⟩, Nat.add_sub_cancel_left, if_neg (by rw [hk]; decide)]
/-- two pure heaps are one -/
theorem hp_ext {h h' : hpT} (e1 : hp_nx h = hp_nx h') (e2 : hp_sl h = hp_sl h') (e3 : hp_kd h = hp_kd h') (e4 : hp_ln h = hp_ln h') (e5 : ∀ f b, hp_fl h f b = hp_fl h' f b) (e6 : ∀ b i, hp_ar h b i = hp_ar h' b i) : h = h' := by
  obtain ⟨a1, a2, a3, a4, a5, a6⟩ := h
  obtain ⟨b1, b2, b3, b4, b5, b6⟩ := h'
  have e5' : a5 = b5 := funext fun f => funext fun b => e5 f b
  have e6' : a6 = b6 := funext fun f => funext fun b => e6 f b
  have e1 : a1 = b1 := e1
  have e2 : a2 = b2 := e2
  have e3 : a3 = b3 := e3
  have e4 : a4 = b4 := e4
  subst e1 e2 e3 e4 e5' e6'
  rfl
theorem mo_put {k : Nat} (hk : mo_isA k = false) (h25 : k < 25) (x : Int32) : hp_put (mo_w h m s) (hp_fd 6 k) m (.int x) = mo_w h m (mo_pt s k x) := by
  refine hp_ext rfl rfl rfl rfl (fun f b => ?_) (fun _ _ => rfl)
  rw [hp_put_fl, mo_fd, mo_w_fl, mo_w_fl, mo_w_fl]
  have es : ∀ q, (mo_pt s k x).1 q = va_up s.1 k x q := fun _ => rfl
  rw [es]
  by_cases ef : f = 192 + k
  · rw [if_pos ef]
    by_cases eb : b = m
    · rw [if_pos eb, if_pos ⟨eb, by omega, by omega⟩, show f - 192 = k by omega, if_neg (by rw [hk]; decide), va_up_self]
    · rw [if_neg eb, if_neg (fun z => eb z.1), if_neg (fun z => eb z.1), ef]
  · rw [if_neg ef]
    by_cases c : b = m ∧ 192 ≤ f ∧ f < 217
    · rw [if_pos c, if_pos c, va_up_ne _ _ (show f - 192 ≠ k by omega)]
    · rw [if_neg c, if_neg c]
theorem mo_ar {k : Nat} (hk : mo_isA k = true) (i : Nat) : hp_ar (mo_w h m s) (mo_arr m k) i = .int (s.2 k i) := by
  obtain ⟨e1, e2⟩ := mo_kj hk
  rw [mo_w_ar, if_pos (show m < m + 1 + mo_j k ∧ m + 1 + mo_j k < m + 20 from ⟨by omega, by omega⟩), Nat.add_sub_cancel_left, e1]
theorem mo_set {k : Nat} (hk : mo_isA k = true) (i : Nat) (x : Int32) : hp_set (mo_w h m s) (mo_arr m k) i (.int x) = mo_w h m (mo_up s k i x) := by
  obtain ⟨e1, e2⟩ := mo_kj hk
  refine hp_ext rfl rfl rfl rfl (fun _ _ => rfl) (fun b j => ?_)
  rw [hp_set_ar, mo_ar hk, mo_w_ar, mo_w_ar]
  have es : ∀ q z, (mo_up s k i x).2 q z = va_up s.2 k (va_up (s.2 k) i x) q z := fun _ _ => rfl
  rw [es]
  by_cases eb : b = mo_arr m k
  · have hb : b - (m + 1) = mo_j k := by rw [eb]; exact Nat.add_sub_cancel_left ..
    rw [if_pos eb, if_pos (show m < b ∧ b < m + 20 by rw [eb]; exact ⟨show m < m + 1 + mo_j k by omega, show m + 1 + mo_j k < m + 20 by omega⟩), hb, e1, va_up_self]
    by_cases ej : j = i
    · rw [if_pos ej, ej, va_up_self]
    · rw [if_neg ej, va_up_ne _ _ ej]
  · rw [if_neg eb]
    by_cases c : m < b ∧ b < m + 20
    · rw [if_pos c, if_pos c, va_up_ne]
      intro z
      have := (mo_jk (j := b - (m + 1)) (by omega)).1
      rw [z] at this
      exact eb (by show b = m + 1 + mo_j k; omega)
    · rw [if_neg c, if_neg c]
theorem mo_sh.w (x : mo_sh G h m) (s : moS) : mo_sh G (mo_w h m s) m := x
theorem mo_sh.o (x : mo_sh G h m) : hp_is G (mo_w h m s) m 6 := ⟨x.1, by have := x.2.1; show m < hp_nx h; omega, x.2.2.1⟩
theorem mo_sh.a (x : mo_sh G h m) {k : Nat} (hk : mo_isA k = true) (h2 : k ≠ 2) : hp_is G (mo_w h m s) (mo_arr m k) 10 := by
  obtain ⟨e1, e2⟩ := mo_kj hk
  refine ⟨by have := x.1; show hp_n0 G ≤ m + 1 + mo_j k; omega, by have := x.2.1; show m + 1 + mo_j k < hp_nx h; omega, ?_⟩
  have := (x.2.2.2 k hk).1
  rw [if_neg h2] at this
  exact this
theorem mo_sh.z (x : mo_sh G h m) : hp_is G (mo_w h m s) (mo_arr m 2) 11 := by
  refine ⟨by have := x.1; show hp_n0 G ≤ m + 1 + mo_j 2; omega, by have := x.2.1; show m + 1 + mo_j 2 < hp_nx h; have : mo_j 2 = 0 := rfl; omega, ?_⟩
  exact (x.2.2.2 2 rfl).1
theorem mo_sh.n (x : mo_sh G h m) {k : Nat} (hk : mo_isA k = true) : hp_ln (mo_w h m s) (mo_arr m k) = mo_len k := (x.2.2.2 k hk).2
variable {M : hpM} {y : MethodName} {cc : ByteArray} {nL d : Nat} {h0 : hpT} {Q : State → Prop} {pc : Nat} {lo : Nat → Option Value} {st : List Value}
theorem mo_getA (C : hp_F M G y cc nL d h0) (x : mo_sh G h m) {idx k : Nat} (fl : hp_FL y.cls idx 6 k) (hk : mo_isA k = true) (h25 : k < 25) (dd : decode cc pc = .ok (.getfield idx, 3)) (kk : hp_V M G nL Q (mo_w h m s) (pc + 3) lo (.ref (mo_arr m k) :: st)) : hp_V M G nL Q (mo_w h m s) pc lo (.ref m :: st) := hp_get C fl dd x.o (mo_fl_A hk h25) kk
theorem mo_getS (C : hp_F M G y cc nL d h0) (x : mo_sh G h m) {idx k : Nat} (fl : hp_FL y.cls idx 6 k) (hk : mo_isA k = false) (h25 : k < 25) {v : Int32} (ev : s.1 k = v) (dd : decode cc pc = .ok (.getfield idx, 3)) (kk : hp_V M G nL Q (mo_w h m s) (pc + 3) lo (.int v :: st)) : hp_V M G nL Q (mo_w h m s) pc lo (.ref m :: st) := hp_get C fl dd x.o ((mo_fl_S hk h25).trans (by rw [ev])) kk
theorem mo_putS (C : hp_F M G y cc nL d h0) (x : mo_sh G h m) {idx k : Nat} {v : Int32} (fl : hp_FL y.cls idx 6 k) (hk : mo_isA k = false) (h25 : k < 25) (hf : (vwCl[6]?).map (fun r => (r.2.1 k).2.2.2) = some false) (hn : narrow (hp_ty 6 k) (.int v) = .int v) (hfit : fits (hp_ty 6 k) (.int v) = true) (dd : decode cc pc = .ok (.putfield idx, 3)) (kk : hp_V M G nL Q (mo_w h m (mo_pt s k v)) (pc + 3) lo st) : hp_V M G nL Q (mo_w h m s) pc lo (.int v :: .ref m :: st) := hp_putf C fl hf hn hfit dd x.o (by rw [mo_put hk h25]; exact kk)
theorem mo_ald (C : hp_F M G y cc nL d h0) (x : mo_sh G h m) {k : Nat} {i : Int32} {f : Nat → Int32} (hk : mo_isA k = true) (h2 : k ≠ 2) (ef : s.2 k = f) (dd : decode cc pc = .ok (.iaload, 1)) (hin : vp_in i (mo_len k)) (kk : hp_V M G nL Q (mo_w h m s) (pc + 1) lo (.int (f i.toNatClampNeg) :: st)) : hp_V M G nL Q (mo_w h m s) pc lo (.int i :: .ref (mo_arr m k) :: st) := hp_iald C dd (x.a hk h2) (by rw [x.n hk]; exact hin) ((mo_ar hk _).trans (by rw [ef])) kk
theorem mo_zld (C : hp_F M G y cc nL d h0) (x : mo_sh G h m) {i : Int32} {f : Nat → Int32} (ef : s.2 2 = f) (dd : decode cc pc = .ok (.baload, 1)) (hin : vp_in i 80) (kk : hp_V M G nL Q (mo_w h m s) (pc + 1) lo (.int (f i.toNatClampNeg) :: st)) : hp_V M G nL Q (mo_w h m s) pc lo (.int i :: .ref (mo_arr m 2) :: st) := hp_zald C dd x.z (by rw [x.n (k := 2) rfl]; exact hin) ((mo_ar rfl _).trans (by rw [ef])) kk
theorem mo_ast (C : hp_F M G y cc nL d h0) (x : mo_sh G h m) {k : Nat} {i v : Int32} (hk : mo_isA k = true) (h2 : k ≠ 2) (dd : decode cc pc = .ok (.iastore, 1)) (hin : vp_in i (mo_len k)) (kk : hp_V M G nL Q (mo_w h m (mo_up s k i.toNatClampNeg v)) (pc + 1) lo st) : hp_V M G nL Q (mo_w h m s) pc lo (.int v :: .int i :: .ref (mo_arr m k) :: st) := hp_iast C dd (x.a hk h2) (by rw [x.n hk]; exact hin) (by rw [mo_set hk]; exact kk)
theorem mo_zst (C : hp_F M G y cc nL d h0) (x : mo_sh G h m) {i v : Int32} (hn : narrow .boolean (.int v) = .int v) (dd : decode cc pc = .ok (.bastore, 1)) (hin : vp_in i 80) (kk : hp_V M G nL Q (mo_w h m (mo_up s 2 i.toNatClampNeg v)) (pc + 1) lo st) : hp_V M G nL Q (mo_w h m s) pc lo (.int v :: .int i :: .ref (mo_arr m 2) :: st) := hp_zast C dd hn x.z (by rw [x.n (k := 2) rfl]; exact hin) (by rw [mo_set (k := 2) rfl]; exact kk)
end MO
set_option maxRecDepth 20000 in
set_option maxHeartbeats 4000000 in
theorem mo_thrown {l : Launch} {G : hpG} {h : hpT} {m d : Nat} {s : moS} (sh : mo_sh G h m)  : hp_C l G yX6_thrown (.code yX6_thrown cX6_thrown 1 (some .int)) d [.ref m] (mo_w h m s) (fun v h' => v = some (.int (s.1 0)) ∧ h' = mo_w h m (s)) (fun _ _ => False) := by
  refine hp_ofV (by decide) (by simp [Value.category]) (Nat.le_of_ble_eq_true rfl) (fun M C hr hx el => ?_)
  refine hp_aload_nR C dX6_thrown_0 rfl ?_
  refine mo_getS C sh fl_X6_72_6 rfl (by decide) (v := s.1 0) rfl dX6_thrown_1 ?_
  refine hp_iret C hr rfl dX6_thrown_4 ?_
  exact ⟨rfl, rfl⟩
def mo_ref (c : Int32) : Int32 := if c ≤ 0 then 0 else 1
set_option maxRecDepth 20000 in
set_option maxHeartbeats 4000000 in
theorem mo_refuses {l : Launch} {G : hpG} {h : hpT} {m d : Nat} {s : moS} (sh : mo_sh G h m) {c : Int32} : hp_C l G yX6_refuses (.code yX6_refuses cX6_refuses 2 (some .boolean)) d [.ref m, .int c] (mo_w h m s) (fun v h' => v = some (.int (mo_ref c)) ∧ h' = mo_w h m (mo_pt s 0 c)) (fun _ _ => False) := by
  refine hp_ofV (by decide) (by simp [Value.category]) (Nat.le_of_ble_eq_true rfl) (fun M C hr hx el => ?_)
  refine hp_aload_nR C dX6_refuses_0 rfl ?_
  refine hp_iload_n C dX6_refuses_1 rfl ?_
  refine mo_putS C sh fl_X6_72_6 rfl (by decide) rfl rfl rfl dX6_refuses_2 ?_
  refine hp_iload_n C dX6_refuses_5 rfl ?_
  refine hp_if_le (tgt := 13) C dX6_refuses_6 (by decide) (fun c_6 => ?_) (fun c_6 => ?_)
  · refine hp_iconst (v := 0) C dX6_refuses_13 (by decide) ?_
    refine hp_iret C hr (by decide) dX6_refuses_14 ?_
    exact ⟨by simp only [mo_ref, c_6, if_true, if_false], rfl⟩
  · refine hp_iconst (v := 1) C dX6_refuses_9 (by decide) ?_
    refine hp_goto (tgt := 14) C dX6_refuses_10 (by decide) ?_
    refine hp_iret C hr (by decide) dX6_refuses_14 ?_
    exact ⟨by simp only [mo_ref, c_6, if_true, if_false], rfl⟩
/-- in range: the number of nodes made -/
def mo_ok (s : moS) : Prop := ∃ k : Nat, s.1 1 = nI k ∧ 1 ≤ k ∧ k ≤ 80
theorem mo_ok.inn {s : moS} (x : mo_ok s) {n : Int32} (h1 : ¬ n < 0) (h2 : ¬ s.1 1 ≤ n) : vp_in n 80 := by
  obtain ⟨k, e, -, hk⟩ := x
  rw [e] at h2
  rw [vp_in_iff]
  have := nI_toInt (n := k) (by omega)
  rw [Int32.le_iff_toInt_le, this] at h2
  rw [Int32.lt_iff_toInt_lt, Int32.toInt_zero] at h1
  omega
def mo_isN (s : moS) (n : Int32) : Int32 := if n < 0 then 0 else if s.1 1 ≤ n then 0 else if s.2 5 n.toNatClampNeg = 2 then 0 else 1
set_option maxRecDepth 20000 in
set_option maxHeartbeats 4000000 in
theorem mo_isNode {l : Launch} {G : hpG} {h : hpT} {m d : Nat} {s : moS} (sh : mo_sh G h m) {n : Int32} (ok : mo_ok s) : hp_C l G yX6_isNode (.code yX6_isNode cX6_isNode 2 (some .boolean)) d [.ref m, .int n] (mo_w h m s) (fun v h' => v = some (.int (mo_isN s n)) ∧ h' = mo_w h m (s)) (fun _ _ => False) := by
  refine hp_ofV (by decide) (by simp [Value.category]) (Nat.le_of_ble_eq_true rfl) (fun M C hr hx el => ?_)
  refine hp_iload_n C dX6_isNode_0 rfl ?_
  refine hp_if_lt (tgt := 26) C dX6_isNode_1 (by decide) (fun c_1 => ?_) (fun c_1 => ?_)
  · refine hp_iconst (v := 0) C dX6_isNode_26 (by decide) ?_
    refine hp_iret C hr (by decide) dX6_isNode_27 ?_
    exact ⟨by simp only [mo_isN, *, if_true, if_false], rfl⟩
  · refine hp_iload_n C dX6_isNode_4 rfl ?_
    refine hp_aload_nR C dX6_isNode_5 rfl ?_
    refine mo_getS C sh fl_X6_68_6 rfl (by decide) (v := s.1 1) rfl dX6_isNode_6 ?_
    refine hp_icmp_ge (tgt := 26) C dX6_isNode_9 (by decide) (fun c_9 => ?_) (fun c_9 => ?_)
    · refine hp_iconst (v := 0) C dX6_isNode_26 (by decide) ?_
      refine hp_iret C hr (by decide) dX6_isNode_27 ?_
      exact ⟨by simp only [mo_isN, *, if_true, if_false], rfl⟩
    · refine hp_aload_nR C dX6_isNode_12 rfl ?_
      refine mo_getA C sh fl_X6_20_6 rfl (by decide) dX6_isNode_13 ?_
      refine hp_iload_n C dX6_isNode_16 rfl ?_
      refine mo_ald C sh (f := s.2 5) rfl (by decide) rfl dX6_isNode_17 (by exact ok.inn c_1 c_9) ?_
      refine hp_iconst (v := 2) C dX6_isNode_18 (by decide) ?_
      refine hp_icmp_eq (tgt := 26) C dX6_isNode_19 (by decide) (fun c_19 => ?_) (fun c_19 => ?_)
      · refine hp_iconst (v := 0) C dX6_isNode_26 (by decide) ?_
        refine hp_iret C hr (by decide) dX6_isNode_27 ?_
        exact ⟨by simp only [mo_isN, *, if_true, if_false], rfl⟩
      · refine hp_iconst (v := 1) C dX6_isNode_22 (by decide) ?_
        refine hp_goto (tgt := 27) C dX6_isNode_23 (by decide) ?_
        refine hp_iret C hr (by decide) dX6_isNode_27 ?_
        exact ⟨by simp only [mo_isN, *, if_true, if_false], rfl⟩
def mo_inn (x lo hi : Int32) : Int32 := if x < lo then 0 else if hi < x then 0 else 1
set_option maxRecDepth 20000 in
set_option maxHeartbeats 4000000 in
theorem mo_in {l : Launch} {G : hpG} {h : hpT} {d : Nat} {x lw hg : Int32} : hp_C l G yX6_in (.code yX6_in cX6_in 3 (some .boolean)) d [.int x, .int lw, .int hg] (h) (fun v h' => v = some (.int (mo_inn x lw hg)) ∧ h' = h) (fun _ _ => False) := by
  refine hp_ofV (by decide) (by simp [Value.category]) (Nat.le_of_ble_eq_true rfl) (fun M C hr hx el => ?_)
  refine hp_iload_n C dX6_in_0 rfl ?_
  refine hp_iload_n C dX6_in_1 rfl ?_
  refine hp_icmp_lt (tgt := 14) C dX6_in_2 (by decide) (fun c_2 => ?_) (fun c_2 => ?_)
  · refine hp_iconst (v := 0) C dX6_in_14 (by decide) ?_
    refine hp_iret C hr (by decide) dX6_in_15 ?_
    exact ⟨by simp only [mo_inn, *, if_true, if_false], rfl⟩
  · refine hp_iload_n C dX6_in_5 rfl ?_
    refine hp_iload_n C dX6_in_6 rfl ?_
    refine hp_icmp_gt (tgt := 14) C dX6_in_7 (by decide) (fun c_7 => ?_) (fun c_7 => ?_)
    · refine hp_iconst (v := 0) C dX6_in_14 (by decide) ?_
      refine hp_iret C hr (by decide) dX6_in_15 ?_
      exact ⟨by simp only [mo_inn, *, if_true, if_false], rfl⟩
    · refine hp_iconst (v := 1) C dX6_in_10 (by decide) ?_
      refine hp_goto (tgt := 15) C dX6_in_11 (by decide) ?_
      refine hp_iret C hr (by decide) dX6_in_15 ?_
      exact ⟨by simp only [mo_inn, *, if_true, if_false], rfl⟩
theorem mo_isN_1 {s : moS} {n : Int32} (h : ¬ mo_isN s n = 0) : ¬ n < 0 ∧ ¬ s.1 1 ≤ n ∧ ¬ s.2 5 n.toNatClampNeg = 2 := by
  unfold mo_isN at h
  by_cases a : n < 0
  · exact absurd (by rw [if_pos a]) h
  · by_cases b : s.1 1 ≤ n
    · exact absurd (by rw [if_neg a, if_pos b]) h
    · by_cases c : s.2 5 n.toNatClampNeg = 2
      · exact absurd (by rw [if_neg a, if_neg b, if_pos c]) h
      · exact ⟨a, b, c⟩
def mo_isK (s : moS) (n : Int32) : Int32 := if mo_isN s n = 0 then 0 else if s.2 2 n.toNatClampNeg = 0 then 0 else 1
def mo_isW (s : moS) (n : Int32) : Int32 := if mo_isN s n = 0 then 0 else if s.2 2 n.toNatClampNeg = 0 then 1 else 0
set_option maxRecDepth 20000 in
set_option maxHeartbeats 4000000 in
theorem mo_isKeeper {l : Launch} {G : hpG} {h : hpT} {m d : Nat} {s : moS} (sh : mo_sh G h m) {n : Int32} (ok : mo_ok s) (hd : 1 ≤ d) : hp_C l G yX6_isKeeper (.code yX6_isKeeper cX6_isKeeper 2 (some .boolean)) d [.ref m, .int n] (mo_w h m s) (fun v h' => v = some (.int (mo_isK s n)) ∧ h' = mo_w h m (s)) (fun _ _ => False) := by
  refine hp_ofV (by decide) (by simp [Value.category]) (Nat.le_of_ble_eq_true rfl) (fun M C hr hx el => ?_)
  refine hp_aload_nR C dX6_isKeeper_0 rfl ?_
  refine hp_iload_n C dX6_isKeeper_1 rfl ?_
  refine hp_callV (ci := 6) C ml_X6_75 im_X6_isNode se_X6_isNode rfl (by decide) (mo_isNode (d := d - 1) sh (by exact ok)) (by omega) dX6_isKeeper_2 sh.o rfl rfl (by simp [Value.category]) (fun v_1 h_1 hp => ?_) (fun _ _ hf => hf.elim)
  obtain ⟨rfl, rfl⟩ := hp
  refine hp_if_eq (tgt := 21) C dX6_isKeeper_5 (by decide) (fun c_5 => ?_) (fun c_5 => ?_)
  · refine hp_iconst (v := 0) C dX6_isKeeper_21 (by decide) ?_
    refine hp_iret C hr (by decide) dX6_isKeeper_22 ?_
    exact ⟨by simp only [mo_isK, *, if_true, if_false], rfl⟩
  · refine hp_aload_nR C dX6_isKeeper_8 rfl ?_
    refine mo_getA C sh fl_X6_7_6 rfl (by decide) dX6_isKeeper_9 ?_
    refine hp_iload_n C dX6_isKeeper_12 rfl ?_
    refine mo_zld C sh (f := s.2 2) rfl dX6_isKeeper_13 (by exact ok.inn (mo_isN_1 c_5).1 (mo_isN_1 c_5).2.1) ?_
    refine hp_if_eq (tgt := 21) C dX6_isKeeper_14 (by decide) (fun c_14 => ?_) (fun c_14 => ?_)
    · refine hp_iconst (v := 0) C dX6_isKeeper_21 (by decide) ?_
      refine hp_iret C hr (by decide) dX6_isKeeper_22 ?_
      exact ⟨by simp only [mo_isK, *, if_true, if_false], rfl⟩
    · refine hp_iconst (v := 1) C dX6_isKeeper_17 (by decide) ?_
      refine hp_goto (tgt := 22) C dX6_isKeeper_18 (by decide) ?_
      refine hp_iret C hr (by decide) dX6_isKeeper_22 ?_
      exact ⟨by simp only [mo_isK, *, if_true, if_false], rfl⟩
set_option maxRecDepth 20000 in
set_option maxHeartbeats 4000000 in
theorem mo_isWorker {l : Launch} {G : hpG} {h : hpT} {m d : Nat} {s : moS} (sh : mo_sh G h m) {n : Int32} (ok : mo_ok s) (hd : 1 ≤ d) : hp_C l G yX6_isWorker (.code yX6_isWorker cX6_isWorker 2 (some .boolean)) d [.ref m, .int n] (mo_w h m s) (fun v h' => v = some (.int (mo_isW s n)) ∧ h' = mo_w h m (s)) (fun _ _ => False) := by
  refine hp_ofV (by decide) (by simp [Value.category]) (Nat.le_of_ble_eq_true rfl) (fun M C hr hx el => ?_)
  refine hp_aload_nR C dX6_isWorker_0 rfl ?_
  refine hp_iload_n C dX6_isWorker_1 rfl ?_
  refine hp_callV (ci := 6) C ml_X6_75 im_X6_isNode se_X6_isNode rfl (by decide) (mo_isNode (d := d - 1) sh (by exact ok)) (by omega) dX6_isWorker_2 sh.o rfl rfl (by simp [Value.category]) (fun v_1 h_1 hp => ?_) (fun _ _ hf => hf.elim)
  obtain ⟨rfl, rfl⟩ := hp
  refine hp_if_eq (tgt := 21) C dX6_isWorker_5 (by decide) (fun c_5 => ?_) (fun c_5 => ?_)
  · refine hp_iconst (v := 0) C dX6_isWorker_21 (by decide) ?_
    refine hp_iret C hr (by decide) dX6_isWorker_22 ?_
    exact ⟨by simp only [mo_isW, *, if_true, if_false], rfl⟩
  · refine hp_aload_nR C dX6_isWorker_8 rfl ?_
    refine mo_getA C sh fl_X6_7_6 rfl (by decide) dX6_isWorker_9 ?_
    refine hp_iload_n C dX6_isWorker_12 rfl ?_
    refine mo_zld C sh (f := s.2 2) rfl dX6_isWorker_13 (by exact ok.inn (mo_isN_1 c_5).1 (mo_isN_1 c_5).2.1) ?_
    refine hp_if_ne (tgt := 21) C dX6_isWorker_14 (by decide) (fun c_14 => ?_) (fun c_14 => ?_)
    · refine hp_iconst (v := 0) C dX6_isWorker_21 (by decide) ?_
      refine hp_iret C hr (by decide) dX6_isWorker_22 ?_
      exact ⟨by simp only [mo_isW, *, if_true, if_false], rfl⟩
    · refine hp_iconst (v := 1) C dX6_isWorker_17 (by decide) ?_
      refine hp_goto (tgt := 22) C dX6_isWorker_18 (by decide) ?_
      refine hp_iret C hr (by decide) dX6_isWorker_22 ?_
      exact ⟨by simp only [mo_isW, *, if_true, if_false], rfl⟩
/-- events told: the count is no negative number -/
def mo_evk (s : moS) : Prop := 0 ≤ (s.1 19).toInt
theorem mo_ev_in {e : Int32} (h0 : 0 ≤ e.toInt) (h1 : ¬ 600 ≤ e) {j : Int32} (hj : 0 ≤ j.toInt ∧ j.toInt < 4) : vp_in (4 * e + j) 2400 ∧ (4 * e + j).toNatClampNeg = 4 * e.toNatClampNeg + j.toNatClampNeg := by
  have h2 : e.toInt < 600 := by
    have := mt Int32.le_iff_toInt_le.mpr h1
    have e6 : (600 : Int32).toInt = 600 := by decide
    omega
  have e4 : (4 : Int32).toInt = 4 := by decide
  have m1 : (4 * e).toInt = 4 * e.toInt := by
    rw [Int32.toInt_mul, e4]
    exact Int.bmod_eq_of_le (by omega) (by omega)
  have m2 : (4 * e + j).toInt = 4 * e.toInt + j.toInt := by
    rw [Int32.toInt_add, m1]
    exact Int.bmod_eq_of_le (by omega) (by omega)
  refine ⟨vp_in_iff.mpr (by omega), ?_⟩
  have f : ∀ x : Int32, x.toNatClampNeg = x.toInt.toNat := fun _ => rfl
  rw [f, f, f, m2]
  omega
theorem mo_ev_in0 {e : Int32} (h0 : 0 ≤ e.toInt) (h1 : ¬ 600 ≤ e) : vp_in (4 * e) 2400 := by
  have := (mo_ev_in h0 h1 (j := 0) (by decide)).1
  rwa [Int32.add_zero] at this
def mo_note (s : moS) (a b c : Int32) : moS := if 600 ≤ s.1 19 then mo_pt s 19 (s.1 19 + 1) else
  mo_pt (mo_up (mo_up (mo_up (mo_up s 20 (4 * s.1 19).toNatClampNeg a) 20 (4 * s.1 19 + 1).toNatClampNeg b) 20 (4 * s.1 19 + 2).toNatClampNeg (s.1 18)) 20 (4 * s.1 19 + 3).toNatClampNeg c) 19 (s.1 19 + 1)
set_option maxRecDepth 20000 in
set_option maxHeartbeats 4000000 in
theorem mo_noteC {l : Launch} {G : hpG} {h : hpT} {m d : Nat} {s : moS} (sh : mo_sh G h m) {a b c : Int32} (ev : mo_evk s) : hp_C l G yX6_note (.code yX6_note cX6_note 4 none) d [.ref m, .int a, .int b, .int c] (mo_w h m s) (fun v h' => v = none ∧ h' = mo_w h m (mo_note s a b c)) (fun _ _ => False) := by
  refine hp_ofV (by decide) (by simp [Value.category]) (Nat.le_of_ble_eq_true rfl) (fun M C hr hx el => ?_)
  refine hp_aload_nR C dX6_note_0 rfl ?_
  refine mo_getS C sh fl_X6_79_6 rfl (by decide) (v := s.1 19) rfl dX6_note_1 ?_
  refine hp_sipush (v := 600) C dX6_note_4 (by decide) ?_
  refine hp_icmp_ge (tgt := 67) C dX6_note_7 (by decide) (fun c_7 => ?_) (fun c_7 => ?_)
  · refine hp_aload_nR C dX6_note_67 rfl ?_
    refine hp_dup C dX6_note_68 rfl ?_
    refine mo_getS C sh fl_X6_79_6 rfl (by decide) (v := s.1 19) rfl dX6_note_69 ?_
    refine hp_iconst (v := 1) C dX6_note_72 (by decide) ?_
    refine hp_iadd C dX6_note_73 ?_
    refine mo_putS C sh fl_X6_79_6 rfl (by decide) rfl rfl rfl dX6_note_74 ?_
    refine hp_vret C hr dX6_note_77 ?_
    exact ⟨rfl, by unfold mo_note; first | rw [if_pos c_7] | rw [if_neg c_7]⟩
  · refine hp_aload_nR C dX6_note_10 rfl ?_
    refine mo_getA C sh fl_X6_59_6 rfl (by decide) dX6_note_11 ?_
    refine hp_iconst (v := 4) C dX6_note_14 (by decide) ?_
    refine hp_aload_nR C dX6_note_15 rfl ?_
    refine mo_getS C sh fl_X6_79_6 rfl (by decide) (v := s.1 19) rfl dX6_note_16 ?_
    refine hp_imul C dX6_note_19 ?_
    refine hp_iload_n C dX6_note_20 rfl ?_
    refine mo_ast C sh rfl (by decide) dX6_note_21 (by exact mo_ev_in0 ev c_7) ?_
    refine hp_aload_nR C dX6_note_22 rfl ?_
    refine mo_getA C sh fl_X6_59_6 rfl (by decide) dX6_note_23 ?_
    refine hp_iconst (v := 4) C dX6_note_26 (by decide) ?_
    refine hp_aload_nR C dX6_note_27 rfl ?_
    refine mo_getS C sh fl_X6_79_6 rfl (by decide) (v := s.1 19) rfl dX6_note_28 ?_
    refine hp_imul C dX6_note_31 ?_
    refine hp_iconst (v := 1) C dX6_note_32 (by decide) ?_
    refine hp_iadd C dX6_note_33 ?_
    refine hp_iload_n C dX6_note_34 rfl ?_
    refine mo_ast C sh rfl (by decide) dX6_note_35 (by exact (mo_ev_in ev c_7 (by decide)).1) ?_
    refine hp_aload_nR C dX6_note_36 rfl ?_
    refine mo_getA C sh fl_X6_59_6 rfl (by decide) dX6_note_37 ?_
    refine hp_iconst (v := 4) C dX6_note_40 (by decide) ?_
    refine hp_aload_nR C dX6_note_41 rfl ?_
    refine mo_getS C sh fl_X6_79_6 rfl (by decide) (v := s.1 19) rfl dX6_note_42 ?_
    refine hp_imul C dX6_note_45 ?_
    refine hp_iconst (v := 2) C dX6_note_46 (by decide) ?_
    refine hp_iadd C dX6_note_47 ?_
    refine hp_aload_nR C dX6_note_48 rfl ?_
    refine mo_getS C sh fl_X6_82_6 rfl (by decide) (v := s.1 18) rfl dX6_note_49 ?_
    refine mo_ast C sh rfl (by decide) dX6_note_52 (by exact (mo_ev_in ev c_7 (by decide)).1) ?_
    refine hp_aload_nR C dX6_note_53 rfl ?_
    refine mo_getA C sh fl_X6_59_6 rfl (by decide) dX6_note_54 ?_
    refine hp_iconst (v := 4) C dX6_note_57 (by decide) ?_
    refine hp_aload_nR C dX6_note_58 rfl ?_
    refine mo_getS C sh fl_X6_79_6 rfl (by decide) (v := s.1 19) rfl dX6_note_59 ?_
    refine hp_imul C dX6_note_62 ?_
    refine hp_iconst (v := 3) C dX6_note_63 (by decide) ?_
    refine hp_iadd C dX6_note_64 ?_
    refine hp_iload_n C dX6_note_65 rfl ?_
    refine mo_ast C sh rfl (by decide) dX6_note_66 (by exact (mo_ev_in ev c_7 (by decide)).1) ?_
    refine hp_aload_nR C dX6_note_67 rfl ?_
    refine hp_dup C dX6_note_68 rfl ?_
    refine mo_getS C sh fl_X6_79_6 rfl (by decide) (v := s.1 19) rfl dX6_note_69 ?_
    refine hp_iconst (v := 1) C dX6_note_72 (by decide) ?_
    refine hp_iadd C dX6_note_73 ?_
    refine mo_putS C sh fl_X6_79_6 rfl (by decide) rfl rfl rfl dX6_note_74 ?_
    refine hp_vret C hr dX6_note_77 ?_
    exact ⟨rfl, by unfold mo_note; first | rw [if_pos c_7] | rw [if_neg c_7]⟩
def mo_isKp (a r t : Int32) : Int32 := if mo_inn a 0 2 = 0 then 0 else if mo_inn r 0 50 = 0 then 0 else if mo_inn t 1 1000 = 0 then 0 else 1
set_option maxRecDepth 20000 in
set_option maxHeartbeats 4000000 in
theorem mo_isKeeping {l : Launch} {G : hpG} {h : hpT} {d : Nat} (hd : 1 ≤ d) {a r t : Int32} : hp_C l G yX6_isKeeping (.code yX6_isKeeping cX6_isKeeping 3 (some .boolean)) d [.int a, .int r, .int t] (h) (fun v h' => v = some (.int (mo_isKp a r t)) ∧ h' = h) (fun _ _ => False) := by
  refine hp_ofV (by decide) (by simp [Value.category]) (Nat.le_of_ble_eq_true rfl) (fun M C hr hx el => ?_)
  refine hp_iload_n C dX6_isKeeping_0 rfl ?_
  refine hp_iconst (v := 0) C dX6_isKeeping_1 (by decide) ?_
  refine hp_iconst (v := 2) C dX6_isKeeping_2 (by decide) ?_
  refine hp_callS C ml_X6_118 sm_X6_in (mo_in (d := d - 1)) (by omega) dX6_isKeeping_3 rfl rfl (by simp [Value.category]) (fun v_1 h_1 hp => ?_) (fun _ _ hf => hf.elim)
  obtain ⟨rfl, rfl⟩ := hp
  refine hp_if_eq (tgt := 34) C dX6_isKeeping_6 (by decide) (fun c_6 => ?_) (fun c_6 => ?_)
  · refine hp_iconst (v := 0) C dX6_isKeeping_34 (by decide) ?_
    refine hp_iret C hr (by decide) dX6_isKeeping_35 ?_
    exact ⟨by simp only [mo_isKp, *, if_true, if_false], rfl⟩
  · refine hp_iload_n C dX6_isKeeping_9 rfl ?_
    refine hp_iconst (v := 0) C dX6_isKeeping_10 (by decide) ?_
    refine hp_bipush (v := 50) C dX6_isKeeping_11 (by decide) ?_
    refine hp_callS C ml_X6_118 sm_X6_in (mo_in (d := d - 1)) (by omega) dX6_isKeeping_13 rfl rfl (by simp [Value.category]) (fun v_1 h_1 hp => ?_) (fun _ _ hf => hf.elim)
    obtain ⟨rfl, rfl⟩ := hp
    refine hp_if_eq (tgt := 34) C dX6_isKeeping_16 (by decide) (fun c_16 => ?_) (fun c_16 => ?_)
    · refine hp_iconst (v := 0) C dX6_isKeeping_34 (by decide) ?_
      refine hp_iret C hr (by decide) dX6_isKeeping_35 ?_
      exact ⟨by simp only [mo_isKp, *, if_true, if_false], rfl⟩
    · refine hp_iload_n C dX6_isKeeping_19 rfl ?_
      refine hp_iconst (v := 1) C dX6_isKeeping_20 (by decide) ?_
      refine hp_sipush (v := 1000) C dX6_isKeeping_21 (by decide) ?_
      refine hp_callS C ml_X6_118 sm_X6_in (mo_in (d := d - 1)) (by omega) dX6_isKeeping_24 rfl rfl (by simp [Value.category]) (fun v_1 h_1 hp => ?_) (fun _ _ hf => hf.elim)
      obtain ⟨rfl, rfl⟩ := hp
      refine hp_if_eq (tgt := 34) C dX6_isKeeping_27 (by decide) (fun c_27 => ?_) (fun c_27 => ?_)
      · refine hp_iconst (v := 0) C dX6_isKeeping_34 (by decide) ?_
        refine hp_iret C hr (by decide) dX6_isKeeping_35 ?_
        exact ⟨by simp only [mo_isKp, *, if_true, if_false], rfl⟩
      · refine hp_iconst (v := 1) C dX6_isKeeping_30 (by decide) ?_
        refine hp_goto (tgt := 35) C dX6_isKeeping_31 (by decide) ?_
        refine hp_iret C hr (by decide) dX6_isKeeping_35 ?_
        exact ⟨by simp only [mo_isKp, *, if_true, if_false], rfl⟩
def mo_firC (s : moS) (a r t : Int32) : Int32 := if mo_isKp a r t = 0 then 1 else if s.2 5 (Int32.toNatClampNeg 0) = 1 then 2 else 0
def mo_fir (s : moS) (a r t : Int32) : moS := if mo_firC s a r t = 0 then mo_up (mo_up (mo_up (mo_pt s 0 0) 7 (Int32.toNatClampNeg 0) a) 8 (Int32.toNatClampNeg 0) r) 9 (Int32.toNatClampNeg 0) t else mo_pt s 0 (mo_firC s a r t)
set_option maxRecDepth 20000 in
set_option maxHeartbeats 4000000 in
theorem mo_first {l : Launch} {G : hpG} {h : hpT} {m d : Nat} {s : moS} (sh : mo_sh G h m) {a r t : Int32} (hd : 2 ≤ d) : hp_C l G yX6_first (.code yX6_first cX6_first 4 none) d [.ref m, .int a, .int r, .int t] (mo_w h m s) (fun v h' => v = none ∧ h' = mo_w h m (mo_fir s a r t)) (fun _ _ => False) := by
  refine hp_ofV (by decide) (by simp [Value.category]) (Nat.le_of_ble_eq_true rfl) (fun M C hr hx el => ?_)
  refine hp_aload_nR C dX6_first_0 rfl ?_
  refine hp_iload_n C dX6_first_1 rfl ?_
  refine hp_iload_n C dX6_first_2 rfl ?_
  refine hp_iload_n C dX6_first_3 rfl ?_
  refine hp_callS C ml_X6_122 sm_X6_isKeeping (mo_isKeeping (d := d - 1) (by omega)) (by omega) dX6_first_4 rfl rfl (by simp [Value.category]) (fun v_1 h_1 hp => ?_) (fun _ _ hf => hf.elim)
  obtain ⟨rfl, rfl⟩ := hp
  refine hp_if_ne (tgt := 14) C dX6_first_7 (by decide) (fun c_7 => ?_) (fun c_7 => ?_)
  · refine hp_aload_nR C dX6_first_14 rfl ?_
    refine mo_getA C sh fl_X6_20_6 rfl (by decide) dX6_first_15 ?_
    refine hp_iconst (v := 0) C dX6_first_18 (by decide) ?_
    refine mo_ald C sh (f := s.2 5) rfl (by decide) rfl dX6_first_19 (by unfold vp_in; decide) ?_
    refine hp_iconst (v := 1) C dX6_first_20 (by decide) ?_
    refine hp_icmp_ne (tgt := 28) C dX6_first_21 (by decide) (fun c_21 => ?_) (fun c_21 => ?_)
    · refine hp_iconst (v := 0) C dX6_first_28 (by decide) ?_
      refine hp_callV (ci := 6) C ml_X6_125 im_X6_refuses se_X6_refuses rfl (by decide) (mo_refuses (d := d - 1) sh) (by omega) dX6_first_29 sh.o rfl rfl (by simp [Value.category]) (fun v_1 h_1 hp => ?_) (fun _ _ hf => hf.elim)
      obtain ⟨rfl, rfl⟩ := hp
      refine hp_if_eq (tgt := 36) C dX6_first_32 (by decide) (fun _ => ?_) (fun z_9 => absurd z_9 (by decide))
      refine hp_aload_nR C dX6_first_36 rfl ?_
      refine mo_getA C sh fl_X6_26_6 rfl (by decide) dX6_first_37 ?_
      refine hp_iconst (v := 0) C dX6_first_40 (by decide) ?_
      refine hp_iload_n C dX6_first_41 rfl ?_
      refine mo_ast C sh rfl (by decide) dX6_first_42 (by unfold vp_in; decide) ?_
      refine hp_aload_nR C dX6_first_43 rfl ?_
      refine mo_getA C sh fl_X6_29_6 rfl (by decide) dX6_first_44 ?_
      refine hp_iconst (v := 0) C dX6_first_47 (by decide) ?_
      refine hp_iload_n C dX6_first_48 rfl ?_
      refine mo_ast C sh rfl (by decide) dX6_first_49 (by unfold vp_in; decide) ?_
      refine hp_aload_nR C dX6_first_50 rfl ?_
      refine mo_getA C sh fl_X6_32_6 rfl (by decide) dX6_first_51 ?_
      refine hp_iconst (v := 0) C dX6_first_54 (by decide) ?_
      refine hp_iload_n C dX6_first_55 rfl ?_
      refine mo_ast C sh rfl (by decide) dX6_first_56 (by unfold vp_in; decide) ?_
      refine hp_vret C hr dX6_first_57 ?_
      exact ⟨rfl, by simp only [mo_fir, mo_firC, *, if_true, if_false] <;> rfl⟩
    · refine hp_iconst (v := 2) C dX6_first_24 (by decide) ?_
      refine hp_goto (tgt := 29) C dX6_first_25 (by decide) ?_
      refine hp_callV (ci := 6) C ml_X6_125 im_X6_refuses se_X6_refuses rfl (by decide) (mo_refuses (d := d - 1) sh) (by omega) dX6_first_29 sh.o rfl rfl (by simp [Value.category]) (fun v_1 h_1 hp => ?_) (fun _ _ hf => hf.elim)
      obtain ⟨rfl, rfl⟩ := hp
      refine hp_if_eq (tgt := 36) C dX6_first_32 (by decide) (fun z_9 => absurd z_9 (by decide)) (fun _ => ?_)
      refine hp_vret C hr dX6_first_35 ?_
      exact ⟨rfl, by simp only [mo_fir, mo_firC, *, if_true, if_false] <;> rfl⟩
  · refine hp_iconst (v := 1) C dX6_first_10 (by decide) ?_
    refine hp_goto (tgt := 29) C dX6_first_11 (by decide) ?_
    refine hp_callV (ci := 6) C ml_X6_125 im_X6_refuses se_X6_refuses rfl (by decide) (mo_refuses (d := d - 1) sh) (by omega) dX6_first_29 sh.o rfl rfl (by simp [Value.category]) (fun v_1 h_1 hp => ?_) (fun _ _ hf => hf.elim)
    obtain ⟨rfl, rfl⟩ := hp
    refine hp_if_eq (tgt := 36) C dX6_first_32 (by decide) (fun z_9 => absurd z_9 (by decide)) (fun _ => ?_)
    refine hp_vret C hr dX6_first_35 ?_
    exact ⟨rfl, by simp only [mo_fir, mo_firC, *, if_true, if_false] <;> rfl⟩
def mo_faiC (s : moS) (n f : Int32) : Int32 := if mo_isW s n = 0 then 1 else if mo_inn f 0 50 = 0 then 1 else 0
theorem mo_isW_1 {s : moS} {n : Int32} (h : ¬ mo_isW s n = 0) : ¬ mo_isN s n = 0 := fun e => h (by unfold mo_isW; rw [if_pos e])
theorem mo_isK_1 {s : moS} {n : Int32} (h : ¬ mo_isK s n = 0) : ¬ mo_isN s n = 0 := fun e => h (by unfold mo_isK; rw [if_pos e])
theorem mo_okN {s : moS} (ok : mo_ok s) {n : Int32} (h : ¬ mo_isN s n = 0) : vp_in n 80 := ok.inn (mo_isN_1 h).1 (mo_isN_1 h).2.1
def mo_fai (s : moS) (n f : Int32) : moS := if mo_faiC s n f = 0 then mo_up (mo_pt s 0 0) 13 n.toNatClampNeg f else mo_pt s 0 (mo_faiC s n f)
def mo_faiR (s : moS) (n f : Int32) : Int32 := if mo_faiC s n f = 0 then s.2 13 n.toNatClampNeg else 0
set_option maxRecDepth 20000 in
set_option maxHeartbeats 4000000 in
theorem mo_failing {l : Launch} {G : hpG} {h : hpT} {m d : Nat} {s : moS} (sh : mo_sh G h m) {n f : Int32} (ok : mo_ok s) (hd : 3 ≤ d) : hp_C l G yX6_failing (.code yX6_failing cX6_failing 4 (some .int)) d [.ref m, .int n, .int f] (mo_w h m s) (fun v h' => v = some (.int (mo_faiR s n f)) ∧ h' = mo_w h m (mo_fai s n f)) (fun _ _ => False) := by
  refine hp_ofV (by decide) (by simp [Value.category]) (Nat.le_of_ble_eq_true rfl) (fun M C hr hx el => ?_)
  refine hp_aload_nR C dX6_failing_0 rfl ?_
  refine hp_aload_nR C dX6_failing_1 rfl ?_
  refine hp_iload_n C dX6_failing_2 rfl ?_
  refine hp_callV (ci := 6) C ml_X6_134 im_X6_isWorker se_X6_isWorker rfl (by decide) (mo_isWorker (d := d - 1) sh (by exact ok) (by omega)) (by omega) dX6_failing_3 sh.o rfl rfl (by simp [Value.category]) (fun v_1 h_1 hp => ?_) (fun _ _ hf => hf.elim)
  obtain ⟨rfl, rfl⟩ := hp
  refine hp_if_eq (tgt := 19) C dX6_failing_6 (by decide) (fun c_6 => ?_) (fun c_6 => ?_)
  · refine hp_iconst (v := 1) C dX6_failing_19 (by decide) ?_
    refine hp_goto (tgt := 24) C dX6_failing_20 (by decide) ?_
    refine hp_callV (ci := 6) C ml_X6_125 im_X6_refuses se_X6_refuses rfl (by decide) (mo_refuses (d := d - 1) sh) (by omega) dX6_failing_24 sh.o rfl rfl (by simp [Value.category]) (fun v_1 h_1 hp => ?_) (fun _ _ hf => hf.elim)
    obtain ⟨rfl, rfl⟩ := hp
    refine hp_if_eq (tgt := 32) C dX6_failing_27 (by decide) (fun z_9 => absurd z_9 (by decide)) (fun _ => ?_)
    refine hp_iconst (v := 0) C dX6_failing_30 (by decide) ?_
    refine hp_iret C hr rfl dX6_failing_31 ?_
    exact ⟨by simp only [mo_faiR, mo_faiC, *, if_true, if_false] <;> rfl, by simp only [mo_fai, mo_faiC, *, if_true, if_false] <;> rfl⟩
  · refine hp_iload_n C dX6_failing_9 rfl ?_
    refine hp_iconst (v := 0) C dX6_failing_10 (by decide) ?_
    refine hp_bipush (v := 50) C dX6_failing_11 (by decide) ?_
    refine hp_callS C ml_X6_118 sm_X6_in (mo_in (d := d - 1)) (by omega) dX6_failing_13 rfl rfl (by simp [Value.category]) (fun v_1 h_1 hp => ?_) (fun _ _ hf => hf.elim)
    obtain ⟨rfl, rfl⟩ := hp
    refine hp_if_ne (tgt := 23) C dX6_failing_16 (by decide) (fun c_16 => ?_) (fun c_16 => ?_)
    · refine hp_iconst (v := 0) C dX6_failing_23 (by decide) ?_
      refine hp_callV (ci := 6) C ml_X6_125 im_X6_refuses se_X6_refuses rfl (by decide) (mo_refuses (d := d - 1) sh) (by omega) dX6_failing_24 sh.o rfl rfl (by simp [Value.category]) (fun v_1 h_1 hp => ?_) (fun _ _ hf => hf.elim)
      obtain ⟨rfl, rfl⟩ := hp
      refine hp_if_eq (tgt := 32) C dX6_failing_27 (by decide) (fun _ => ?_) (fun z_9 => absurd z_9 (by decide))
      refine hp_aload_nR C dX6_failing_32 rfl ?_
      refine mo_getA C sh fl_X6_44_6 rfl (by decide) dX6_failing_33 ?_
      refine hp_iload_n C dX6_failing_36 rfl ?_
      refine mo_ald C sh (f := s.2 13) rfl (by decide) rfl dX6_failing_37 (by exact mo_okN ok (mo_isW_1 c_6)) ?_
      refine hp_istore_n C dX6_failing_38 (by decide) ?_
      refine hp_aload_nR C dX6_failing_39 rfl ?_
      refine mo_getA C sh fl_X6_44_6 rfl (by decide) dX6_failing_40 ?_
      refine hp_iload_n C dX6_failing_43 rfl ?_
      refine hp_iload_n C dX6_failing_44 rfl ?_
      refine mo_ast C sh rfl (by decide) dX6_failing_45 (by exact mo_okN ok (mo_isW_1 c_6)) ?_
      refine hp_iload_n C dX6_failing_46 rfl ?_
      refine hp_iret C hr rfl dX6_failing_47 ?_
      exact ⟨by simp only [mo_faiR, mo_faiC, *, if_true, if_false] <;> rfl, by simp only [mo_fai, mo_faiC, *, if_true, if_false] <;> rfl⟩
    · refine hp_iconst (v := 1) C dX6_failing_19 (by decide) ?_
      refine hp_goto (tgt := 24) C dX6_failing_20 (by decide) ?_
      refine hp_callV (ci := 6) C ml_X6_125 im_X6_refuses se_X6_refuses rfl (by decide) (mo_refuses (d := d - 1) sh) (by omega) dX6_failing_24 sh.o rfl rfl (by simp [Value.category]) (fun v_1 h_1 hp => ?_) (fun _ _ hf => hf.elim)
      obtain ⟨rfl, rfl⟩ := hp
      refine hp_if_eq (tgt := 32) C dX6_failing_27 (by decide) (fun z_9 => absurd z_9 (by decide)) (fun _ => ?_)
      refine hp_iconst (v := 0) C dX6_failing_30 (by decide) ?_
      refine hp_iret C hr rfl dX6_failing_31 ?_
      exact ⟨by simp only [mo_faiR, mo_faiC, *, if_true, if_false] <;> rfl, by simp only [mo_fai, mo_faiC, *, if_true, if_false] <;> rfl⟩
def mo_pasC (n : Int32) : Int32 := if mo_inn n 0 10000 = 0 then 1 else 0
def mo_pas (s : moS) (n : Int32) : moS := if mo_pasC n = 0 then mo_pt (mo_pt s 0 0) 18 (s.1 18 + n) else mo_pt s 0 (mo_pasC n)
def mo_pasR (s : moS) (n : Int32) : Int32 := if mo_pasC n = 0 then s.1 18 + n else 0
set_option maxRecDepth 20000 in
set_option maxHeartbeats 4000000 in
theorem mo_pass {l : Launch} {G : hpG} {h : hpT} {m d : Nat} {s : moS} (sh : mo_sh G h m) {n : Int32} (hd : 2 ≤ d) : hp_C l G yX6_pass (.code yX6_pass cX6_pass 2 (some .int)) d [.ref m, .int n] (mo_w h m s) (fun v h' => v = some (.int (mo_pasR s n)) ∧ h' = mo_w h m (mo_pas s n)) (fun _ _ => False) := by
  refine hp_ofV (by decide) (by simp [Value.category]) (Nat.le_of_ble_eq_true rfl) (fun M C hr hx el => ?_)
  refine hp_aload_nR C dX6_pass_0 rfl ?_
  refine hp_iload_n C dX6_pass_1 rfl ?_
  refine hp_iconst (v := 0) C dX6_pass_2 (by decide) ?_
  refine hp_sipush (v := 10000) C dX6_pass_3 (by decide) ?_
  refine hp_callS C ml_X6_118 sm_X6_in (mo_in (d := d - 1)) (by omega) dX6_pass_6 rfl rfl (by simp [Value.category]) (fun v_1 h_1 hp => ?_) (fun _ _ hf => hf.elim)
  obtain ⟨rfl, rfl⟩ := hp
  refine hp_if_ne (tgt := 16) C dX6_pass_9 (by decide) (fun c_9 => ?_) (fun c_9 => ?_)
  · refine hp_iconst (v := 0) C dX6_pass_16 (by decide) ?_
    refine hp_callV (ci := 6) C ml_X6_125 im_X6_refuses se_X6_refuses rfl (by decide) (mo_refuses (d := d - 1) sh) (by omega) dX6_pass_17 sh.o rfl rfl (by simp [Value.category]) (fun v_1 h_1 hp => ?_) (fun _ _ hf => hf.elim)
    obtain ⟨rfl, rfl⟩ := hp
    refine hp_if_eq (tgt := 25) C dX6_pass_20 (by decide) (fun _ => ?_) (fun z_9 => absurd z_9 (by decide))
    refine hp_aload_nR C dX6_pass_25 rfl ?_
    refine hp_dup C dX6_pass_26 rfl ?_
    refine mo_getS C sh fl_X6_82_6 rfl (by decide) (v := s.1 18) rfl dX6_pass_27 ?_
    refine hp_iload_n C dX6_pass_30 rfl ?_
    refine hp_iadd C dX6_pass_31 ?_
    refine mo_putS C sh fl_X6_82_6 rfl (by decide) rfl rfl rfl dX6_pass_32 ?_
    refine hp_aload_nR C dX6_pass_35 rfl ?_
    refine mo_getS C sh fl_X6_82_6 rfl (by decide) rfl dX6_pass_36 ?_
    refine hp_iret C hr rfl dX6_pass_39 ?_
    exact ⟨by simp only [mo_pasR, mo_pasC, *, if_true, if_false] <;> rfl, by simp only [mo_pas, mo_pasC, *, if_true, if_false] <;> rfl⟩
  · refine hp_iconst (v := 1) C dX6_pass_12 (by decide) ?_
    refine hp_goto (tgt := 17) C dX6_pass_13 (by decide) ?_
    refine hp_callV (ci := 6) C ml_X6_125 im_X6_refuses se_X6_refuses rfl (by decide) (mo_refuses (d := d - 1) sh) (by omega) dX6_pass_17 sh.o rfl rfl (by simp [Value.category]) (fun v_1 h_1 hp => ?_) (fun _ _ hf => hf.elim)
    obtain ⟨rfl, rfl⟩ := hp
    refine hp_if_eq (tgt := 25) C dX6_pass_20 (by decide) (fun z_9 => absurd z_9 (by decide)) (fun _ => ?_)
    refine hp_iconst (v := 0) C dX6_pass_23 (by decide) ?_
    refine hp_iret C hr rfl dX6_pass_24 ?_
    exact ⟨by simp only [mo_pasR, mo_pasC, *, if_true, if_false] <;> rfl, by simp only [mo_pas, mo_pasC, *, if_true, if_false] <;> rfl⟩
def mo_staC (s : moS) (n : Int32) : Int32 := if n < 0 then 1 else if n < s.1 1 then 0 else 1
def mo_staR (s : moS) (n : Int32) : Int32 := if mo_staC s n = 0 then s.2 5 n.toNatClampNeg else 0
set_option maxRecDepth 20000 in
set_option maxHeartbeats 4000000 in
theorem mo_state {l : Launch} {G : hpG} {h : hpT} {m d : Nat} {s : moS} (sh : mo_sh G h m) {n : Int32} (ok : mo_ok s) (hd : 1 ≤ d) : hp_C l G yX6_state (.code yX6_state cX6_state 2 (some .int)) d [.ref m, .int n] (mo_w h m s) (fun v h' => v = some (.int (mo_staR s n)) ∧ h' = mo_w h m (mo_pt s 0 (mo_staC s n))) (fun _ _ => False) := by
  refine hp_ofV (by decide) (by simp [Value.category]) (Nat.le_of_ble_eq_true rfl) (fun M C hr hx el => ?_)
  refine hp_aload_nR C dX6_state_0 rfl ?_
  refine hp_iload_n C dX6_state_1 rfl ?_
  refine hp_if_lt (tgt := 13) C dX6_state_2 (by decide) (fun c_2 => ?_) (fun c_2 => ?_)
  · refine hp_iconst (v := 1) C dX6_state_13 (by decide) ?_
    refine hp_goto (tgt := 18) C dX6_state_14 (by decide) ?_
    refine hp_callV (ci := 6) C ml_X6_125 im_X6_refuses se_X6_refuses rfl (by decide) (mo_refuses (d := d - 1) sh) (by omega) dX6_state_18 sh.o rfl rfl (by simp [Value.category]) (fun v_1 h_1 hp => ?_) (fun _ _ hf => hf.elim)
    obtain ⟨rfl, rfl⟩ := hp
    refine hp_if_eq (tgt := 28) C dX6_state_21 (by decide) (fun z_9 => absurd z_9 (by decide)) (fun _ => ?_)
    refine hp_iconst (v := 0) C dX6_state_24 (by decide) ?_
    refine hp_goto (tgt := 34) C dX6_state_25 (by decide) ?_
    refine hp_iret C hr rfl dX6_state_34 ?_
    exact ⟨by simp only [mo_staR, mo_staC, *, if_true, if_false] <;> rfl, by simp only [mo_staC, *, if_true, if_false] <;> rfl⟩
  · refine hp_iload_n C dX6_state_5 rfl ?_
    refine hp_aload_nR C dX6_state_6 rfl ?_
    refine mo_getS C sh fl_X6_68_6 rfl (by decide) (v := s.1 1) rfl dX6_state_7 ?_
    refine hp_icmp_lt (tgt := 17) C dX6_state_10 (by decide) (fun c_10 => ?_) (fun c_10 => ?_)
    · refine hp_iconst (v := 0) C dX6_state_17 (by decide) ?_
      refine hp_callV (ci := 6) C ml_X6_125 im_X6_refuses se_X6_refuses rfl (by decide) (mo_refuses (d := d - 1) sh) (by omega) dX6_state_18 sh.o rfl rfl (by simp [Value.category]) (fun v_1 h_1 hp => ?_) (fun _ _ hf => hf.elim)
      obtain ⟨rfl, rfl⟩ := hp
      refine hp_if_eq (tgt := 28) C dX6_state_21 (by decide) (fun _ => ?_) (fun z_9 => absurd z_9 (by decide))
      refine hp_aload_nR C dX6_state_28 rfl ?_
      refine mo_getA C sh fl_X6_20_6 rfl (by decide) dX6_state_29 ?_
      refine hp_iload_n C dX6_state_32 rfl ?_
      refine mo_ald C sh (f := s.2 5) rfl (by decide) rfl dX6_state_33 (by exact ok.inn c_2 (k2_nle c_10)) ?_
      refine hp_iret C hr rfl dX6_state_34 ?_
      exact ⟨by simp only [mo_staR, mo_staC, *, if_true, if_false] <;> rfl, by simp only [mo_staC, *, if_true, if_false] <;> rfl⟩
    · refine hp_iconst (v := 1) C dX6_state_13 (by decide) ?_
      refine hp_goto (tgt := 18) C dX6_state_14 (by decide) ?_
      refine hp_callV (ci := 6) C ml_X6_125 im_X6_refuses se_X6_refuses rfl (by decide) (mo_refuses (d := d - 1) sh) (by omega) dX6_state_18 sh.o rfl rfl (by simp [Value.category]) (fun v_1 h_1 hp => ?_) (fun _ _ hf => hf.elim)
      obtain ⟨rfl, rfl⟩ := hp
      refine hp_if_eq (tgt := 28) C dX6_state_21 (by decide) (fun z_9 => absurd z_9 (by decide)) (fun _ => ?_)
      refine hp_iconst (v := 0) C dX6_state_24 (by decide) ?_
      refine hp_goto (tgt := 34) C dX6_state_25 (by decide) ?_
      refine hp_iret C hr rfl dX6_state_34 ?_
      exact ⟨by simp only [mo_staR, mo_staC, *, if_true, if_false] <;> rfl, by simp only [mo_staC, *, if_true, if_false] <;> rfl⟩
def mo_evtC (w : Int32) : Int32 := if mo_inn w 0 3 = 0 then 1 else 0
def mo_evtR (s : moS) (i w : Int32) : Int32 := if mo_evtC w = 0 then (if i < 0 then -1 else if s.1 19 ≤ i then -1 else if 600 ≤ i then -1 else s.2 20 (4 * i + w).toNatClampNeg) else 0
theorem mo_inn_1 {x a b : Int32} (h : ¬ mo_inn x a b = 0) : a ≤ x ∧ x ≤ b := by
  unfold mo_inn at h
  by_cases c : x < a
  · exact absurd (by rw [if_pos c]) h
  · by_cases e : b < x
    · exact absurd (by rw [if_neg c, if_pos e]) h
    · exact ⟨k2_le c, k2_le e⟩
theorem mo_evt_in {i w : Int32} (h0 : ¬ i < 0) (h1 : ¬ 600 ≤ i) (hw : ¬ mo_inn w 0 3 = 0) : vp_in (4 * i + w) 2400 := by
  obtain ⟨a, b⟩ := mo_inn_1 hw
  rw [Int32.le_iff_toInt_le] at a b
  rw [Int32.lt_iff_toInt_lt, Int32.toInt_zero] at h0
  have e3 : (3 : Int32).toInt = 3 := by decide
  rw [Int32.toInt_zero] at a
  exact (mo_ev_in (by omega) h1 ⟨by omega, by omega⟩).1
set_option maxRecDepth 20000 in
set_option maxHeartbeats 4000000 in
theorem mo_event {l : Launch} {G : hpG} {h : hpT} {m d : Nat} {s : moS} (sh : mo_sh G h m) {i k : Int32} (hd : 2 ≤ d) : hp_C l G yX6_event (.code yX6_event cX6_event 3 (some .int)) d [.ref m, .int i, .int k] (mo_w h m s) (fun v h' => v = some (.int (mo_evtR s i k)) ∧ h' = mo_w h m (mo_pt s 0 (mo_evtC k))) (fun _ _ => False) := by
  refine hp_ofV (by decide) (by simp [Value.category]) (Nat.le_of_ble_eq_true rfl) (fun M C hr hx el => ?_)
  refine hp_aload_nR C dX6_event_0 rfl ?_
  refine hp_iload_n C dX6_event_1 rfl ?_
  refine hp_iconst (v := 0) C dX6_event_2 (by decide) ?_
  refine hp_iconst (v := 3) C dX6_event_3 (by decide) ?_
  refine hp_callS C ml_X6_118 sm_X6_in (mo_in (d := d - 1)) (by omega) dX6_event_4 rfl rfl (by simp [Value.category]) (fun v_1 h_1 hp => ?_) (fun _ _ hf => hf.elim)
  obtain ⟨rfl, rfl⟩ := hp
  refine hp_if_ne (tgt := 14) C dX6_event_7 (by decide) (fun c_7 => ?_) (fun c_7 => ?_)
  · refine hp_iconst (v := 0) C dX6_event_14 (by decide) ?_
    refine hp_callV (ci := 6) C ml_X6_125 im_X6_refuses se_X6_refuses rfl (by decide) (mo_refuses (d := d - 1) sh) (by omega) dX6_event_15 sh.o rfl rfl (by simp [Value.category]) (fun v_1 h_1 hp => ?_) (fun _ _ hf => hf.elim)
    obtain ⟨rfl, rfl⟩ := hp
    refine hp_if_eq (tgt := 23) C dX6_event_18 (by decide) (fun _ => ?_) (fun z_9 => absurd z_9 (by decide))
    refine hp_iload_n C dX6_event_23 rfl ?_
    refine hp_if_lt (tgt := 55) C dX6_event_24 (by decide) (fun c_24 => ?_) (fun c_24 => ?_)
    · refine hp_iconst (v := (-1)) C dX6_event_55 (by decide) ?_
      refine hp_iret C hr rfl dX6_event_56 ?_
      exact ⟨by simp only [mo_evtR, mo_evtC, *, if_true, if_false] <;> rfl, by simp only [mo_evtC, *, if_true, if_false] <;> rfl⟩
    · refine hp_iload_n C dX6_event_27 rfl ?_
      refine hp_aload_nR C dX6_event_28 rfl ?_
      refine mo_getS C sh fl_X6_79_6 rfl (by decide) (v := s.1 19) rfl dX6_event_29 ?_
      refine hp_icmp_ge (tgt := 55) C dX6_event_32 (by decide) (fun c_32 => ?_) (fun c_32 => ?_)
      · refine hp_iconst (v := (-1)) C dX6_event_55 (by decide) ?_
        refine hp_iret C hr rfl dX6_event_56 ?_
        exact ⟨by simp only [mo_evtR, mo_evtC, *, if_true, if_false] <;> rfl, by simp only [mo_evtC, *, if_true, if_false] <;> rfl⟩
      · refine hp_iload_n C dX6_event_35 rfl ?_
        refine hp_sipush (v := 600) C dX6_event_36 (by decide) ?_
        refine hp_icmp_ge (tgt := 55) C dX6_event_39 (by decide) (fun c_39 => ?_) (fun c_39 => ?_)
        · refine hp_iconst (v := (-1)) C dX6_event_55 (by decide) ?_
          refine hp_iret C hr rfl dX6_event_56 ?_
          exact ⟨by simp only [mo_evtR, mo_evtC, *, if_true, if_false] <;> rfl, by simp only [mo_evtC, *, if_true, if_false] <;> rfl⟩
        · refine hp_aload_nR C dX6_event_42 rfl ?_
          refine mo_getA C sh fl_X6_59_6 rfl (by decide) dX6_event_43 ?_
          refine hp_iconst (v := 4) C dX6_event_46 (by decide) ?_
          refine hp_iload_n C dX6_event_47 rfl ?_
          refine hp_imul C dX6_event_48 ?_
          refine hp_iload_n C dX6_event_49 rfl ?_
          refine hp_iadd C dX6_event_50 ?_
          refine mo_ald C sh (f := s.2 20) rfl (by decide) rfl dX6_event_51 (by exact mo_evt_in c_24 c_39 c_7) ?_
          refine hp_goto (tgt := 56) C dX6_event_52 (by decide) ?_
          refine hp_iret C hr rfl dX6_event_56 ?_
          exact ⟨by simp only [mo_evtR, mo_evtC, *, if_true, if_false] <;> rfl, by simp only [mo_evtC, *, if_true, if_false] <;> rfl⟩
  · refine hp_iconst (v := 1) C dX6_event_10 (by decide) ?_
    refine hp_goto (tgt := 15) C dX6_event_11 (by decide) ?_
    refine hp_callV (ci := 6) C ml_X6_125 im_X6_refuses se_X6_refuses rfl (by decide) (mo_refuses (d := d - 1) sh) (by omega) dX6_event_15 sh.o rfl rfl (by simp [Value.category]) (fun v_1 h_1 hp => ?_) (fun _ _ hf => hf.elim)
    obtain ⟨rfl, rfl⟩ := hp
    refine hp_if_eq (tgt := 23) C dX6_event_18 (by decide) (fun z_9 => absurd z_9 (by decide)) (fun _ => ?_)
    refine hp_iconst (v := 0) C dX6_event_21 (by decide) ?_
    refine hp_iret C hr rfl dX6_event_22 ?_
    exact ⟨by simp only [mo_evtR, mo_evtC, *, if_true, if_false] <;> rfl, by simp only [mo_evtC, *, if_true, if_false] <;> rfl⟩
/-! ===== what stays as cells are made ===== -/
section HPN
variable {G : hpG} {h : hpT} {a k n t : Nat}
theorem hp_is.mk (x : hp_is G h a k) (c n : Nat) : hp_is G (hp_mk h c n) a k := ⟨x.1, Nat.lt_succ_of_lt x.2.1, (va_up_ne _ _ (Nat.ne_of_lt x.2.1)).trans x.2.2⟩
theorem hp_is.mkA (x : hp_is G h a k) (t n : Nat) (v : Value) : hp_is G (hp_mkA h t n v) a k := ⟨x.1, Nat.lt_succ_of_lt x.2.1, (va_up_ne _ _ (Nat.ne_of_lt x.2.1)).trans x.2.2⟩
theorem hp_is.mkX (x : hp_is G h a k) : hp_is G (hp_mkX h) a k := ⟨x.1, Nat.lt_succ_of_lt x.2.1, (va_up_ne _ _ (Nat.ne_of_lt x.2.1)).trans x.2.2⟩
theorem hp_isN (x : hp_n0 G ≤ hp_nx h) (c n : Nat) : hp_is G (hp_mk h c n) (hp_nx h) c := ⟨x, Nat.lt_succ_self _, va_up_self _ _ _⟩
theorem hp_isA (x : hp_n0 G ≤ hp_nx h) (t n : Nat) (v : Value) : hp_is G (hp_mkA h t n v) (hp_nx h) (10 + t) := ⟨x, Nat.lt_succ_self _, va_up_self _ _ _⟩
theorem hp_is.mkM (x : hp_is G h a k) (n m : Nat) : hp_is G (hp_mkM h n m) a k := ⟨x.1, by have := x.2.1; show a < h.1 + 1 + n; have : a < h.1 := x.2.1; omega, by show (if a < h.1 then hp_kd h a else _) = k; rw [if_pos (show a < h.1 from x.2.1)]; exact x.2.2⟩
end HPN
/-! ===== THE CLASS WITH ITS FIRST KEEPER ALONE: twelve cells from k on ===== -/
/-- whole numbers by the field's number, rows of numbers by the place of the cell -/
abbrev ktS : Type := (Nat → Int32) × (Nat → Nat → Int32)
/-- where the object lies that has field f -/
def kt_off (f : Nat) : Nat := if f < 32 then 9 else if f < 64 then 1 else if f < 96 then 8 else if f < 128 then 10 else 0
/-- is f a field of one of them -/
def kt_fi (f : Nat) : Bool := decide (f < 3) || (decide (32 ≤ f) && decide (f < 35)) || (decide (64 ≤ f) && decide (f < 74)) || (decide (96 ≤ f) && decide (f < 98)) || (decide (160 ≤ f) && decide (f < 166))
def kt_fv (G : hpG) (k : Nat) (s : ktS) (f : Nat) : Value := if f = 1 then .ref (hp_dE G) else if f = 32 then .ref (k + 2) else if f = 65 then .null else if f = 69 then .ref (k + 9) else if f = 70 then .ref (k + 10) else if f = 96 then .ref (k + 11) else if f = 160 then .ref (k + 1) else if f = 161 then .ref (k + 7) else if f = 162 then .ref (k + 8) else .int (s.1 f)
/-- the places of arrays -/
def kt_ai (o : Nat) : Bool := (decide (2 ≤ o) && decide (o < 8)) || decide (o = 11)
def kt_av (k : Nat) (s : ktS) (o i : Nat) : Value := if o = 2 then .ref (k + 3 + i) else if o = 7 then (if i = 0 then .ref (k + 8) else .null) else .int (s.2 o i)
def kt_kd (o : Nat) : Nat := if o = 0 then 5 else if o = 1 then 1 else if o = 2 then 15 else if o < 7 then 10 else if o = 7 then 14 else if o = 8 then 2 else if o = 9 then 0 else if o = 10 then 3 else 10
def kt_ln (o : Nat) : Nat := if o = 2 then 4 else if o = 7 then 80 else if o = 11 then 8 else 600
def kt_w (G : hpG) (h : hpT) (k : Nat) (s : ktS) : hpT := (h.1, h.2.1, h.2.2.1, h.2.2.2.1,
  (fun f b => if kt_fi f = true ∧ b = k + kt_off f then kt_fv G k s f else hp_fl h f b),
  (fun b i => if (k ≤ b ∧ b < k + 12) ∧ kt_ai (b - k) = true then kt_av k s (b - k) i else hp_ar h b i))
def kt_sh (G : hpG) (h : hpT) (k : Nat) : Prop := hp_n0 G ≤ k ∧ k + 12 ≤ hp_nx h ∧ (∀ o, o < 12 → hp_kd h (k + o) = kt_kd o) ∧ (∀ o, o < 12 → kt_ai o = true → hp_ln h (k + o) = kt_ln o)
def kt_put (s : ktS) (f : Nat) (x : Int32) : ktS := (va_up s.1 f x, s.2)
def kt_set (s : ktS) (o i : Nat) (x : Int32) : ktS := (s.1, va_up s.2 o (va_up (s.2 o) i x))
section KT
variable {G : hpG} {h : hpT} {k : Nat} {s : ktS}
theorem kt_w_fl (f b : Nat) : hp_fl (kt_w G h k s) f b = if kt_fi f = true ∧ b = k + kt_off f then kt_fv G k s f else hp_fl h f b := rfl
theorem kt_w_ar (b i : Nat) : hp_ar (kt_w G h k s) b i = if (k ≤ b ∧ b < k + 12) ∧ kt_ai (b - k) = true then kt_av k s (b - k) i else hp_ar h b i := rfl
theorem kt_fl {f o : Nat} (h1 : kt_fi f = true) (h2 : kt_off f = o) : hp_fl (kt_w G h k s) f (k + o) = kt_fv G k s f := by
  rw [kt_w_fl, if_pos ⟨h1, by rw [h2]⟩]
theorem kt_ar {o i : Nat} (h1 : kt_ai o = true) (h2 : o < 12) : hp_ar (kt_w G h k s) (k + o) i = kt_av k s o i := by
  rw [kt_w_ar, Nat.add_sub_cancel_left, if_pos ⟨⟨by omega, by omega⟩, h1⟩]
theorem kt_puts {f o : Nat} {x : Int32} (h1 : kt_fi f = true) (h2 : kt_off f = o) (h3 : ∀ s : ktS, kt_fv G k s f = .int (s.1 f)) : hp_put (kt_w G h k s) f (k + o) (.int x) = kt_w G h k (kt_put s f x) := by
  refine hp_ext rfl rfl rfl rfl (fun g b => ?_) (fun _ _ => rfl)
  rw [hp_put_fl, kt_w_fl, kt_w_fl, kt_w_fl]
  by_cases e : g = f
  · subst e
    rw [if_pos rfl, h2]
    by_cases eb : b = k + o
    · rw [if_pos eb, if_pos ⟨h1, eb⟩, h3]
      show _ = Value.int (va_up s.1 g x g)
      rw [va_up_self]
    · rw [if_neg eb, if_neg (fun z => eb z.2), if_neg (fun z => eb z.2)]
  · rw [if_neg e]
    by_cases c : kt_fi g = true ∧ b = k + kt_off g
    · rw [if_pos c, if_pos c]
      unfold kt_fv
      rw [show (kt_put s f x).1 g = s.1 g from va_up_ne _ _ e]
    · rw [if_neg c, if_neg c]
theorem kt_sets {o i : Nat} {x : Int32} (h1 : kt_ai o = true) (h2 : o < 12) (h3 : o ≠ 2) (h4 : o ≠ 7) : hp_set (kt_w G h k s) (k + o) i (.int x) = kt_w G h k (kt_set s o i x) := by
  refine hp_ext rfl rfl rfl rfl (fun _ _ => rfl) (fun b j => ?_)
  rw [hp_set_ar, kt_ar h1 h2, kt_w_ar, kt_w_ar]
  by_cases e : b = k + o
  · rw [if_pos e, e, Nat.add_sub_cancel_left, if_pos (show (k ≤ k + o ∧ k + o < k + 12) ∧ kt_ai o = true from ⟨⟨by omega, by omega⟩, h1⟩)]
    unfold kt_av
    rw [if_neg h3, if_neg h4, if_neg h3, if_neg h4]
    show _ = Value.int (va_up s.2 o (va_up (s.2 o) i x) o j)
    rw [va_up_self]
    by_cases ej : j = i
    · rw [if_pos ej, ej, va_up_self]
    · rw [if_neg ej, va_up_ne _ _ ej]
  · rw [if_neg e]
    by_cases c : (k ≤ b ∧ b < k + 12) ∧ kt_ai (b - k) = true
    · rw [if_pos c, if_pos c]
      unfold kt_av
      rw [show (kt_set s o i x).2 (b - k) = s.2 (b - k) from va_up_ne _ _ (by omega)]
    · rw [if_neg c, if_neg c]
theorem kt_sh.w (x : kt_sh G h k) (s : ktS) : kt_sh G (kt_w G h k s) k := x
theorem kt_sh.o (x : kt_sh G h k) (o : Nat) {ci : Nat} (h1 : o < 12) (h2 : kt_kd o = ci) : hp_is G (kt_w G h k s) (k + o) ci := ⟨by have := x.1; omega, by have := x.2.1; show k + o < hp_nx h; omega, (x.2.2.1 o h1).trans h2⟩
theorem kt_sh.l (x : kt_sh G h k) {o : Nat} (h1 : o < 12) (h2 : kt_ai o = true) : hp_ln (kt_w G h k s) (k + o) = kt_ln o := x.2.2.2 o h1 h2
variable {M : hpM} {y : MethodName} {cc : ByteArray} {nL d : Nat} {h0 : hpT} {Q : State → Prop} {pc : Nat} {lo : Nat → Option Value} {st : List Value}
theorem kt_get (C : hp_F M G y cc nL d h0) (x : kt_sh G h k) {idx ci j : Nat} (o : Nat) {v : Value} (fl : hp_FL y.cls idx ci j) (hc : kt_kd o = ci ∧ o < 12 ∧ kt_fi (hp_fd ci j) = true ∧ kt_off (hp_fd ci j) = o) (ev : kt_fv G k s (hp_fd ci j) = v) (dd : decode cc pc = .ok (.getfield idx, 3)) (kk : hp_V M G nL Q (kt_w G h k s) (pc + 3) lo (v :: st)) : hp_V M G nL Q (kt_w G h k s) pc lo (.ref (k + o) :: st) := hp_get C fl dd (x.o o hc.2.1 hc.1) ((kt_fl hc.2.2.1 hc.2.2.2).trans ev) kk
theorem kt_pt (C : hp_F M G y cc nL d h0) (x : kt_sh G h k) {idx ci j : Nat} (o : Nat) {v : Int32} (fl : hp_FL y.cls idx ci j) (hc : kt_kd o = ci ∧ o < 12 ∧ kt_fi (hp_fd ci j) = true ∧ kt_off (hp_fd ci j) = o) (h3 : ∀ s : ktS, kt_fv G k s (hp_fd ci j) = .int (s.1 (hp_fd ci j))) (hf : (vwCl[ci]?).map (fun r => (r.2.1 j).2.2.2) = some false) (hn : narrow (hp_ty ci j) (.int v) = .int v) (hfit : fits (hp_ty ci j) (.int v) = true) (dd : decode cc pc = .ok (.putfield idx, 3)) (kk : hp_V M G nL Q (kt_w G h k (kt_put s (hp_fd ci j) v)) (pc + 3) lo st) : hp_V M G nL Q (kt_w G h k s) pc lo (.int v :: .ref (k + o) :: st) := hp_putf C fl hf hn hfit dd (x.o o hc.2.1 hc.1) (by rw [kt_puts hc.2.2.1 hc.2.2.2 h3]; exact kk)
theorem kt_ald (C : hp_F M G y cc nL d h0) (x : kt_sh G h k) (o : Nat) {i : Int32} (hc : kt_kd o = 10 ∧ o < 12 ∧ kt_ai o = true ∧ o ≠ 2 ∧ o ≠ 7) (dd : decode cc pc = .ok (.iaload, 1)) (hin : vp_in i (kt_ln o)) (kk : hp_V M G nL Q (kt_w G h k s) (pc + 1) lo (.int (s.2 o i.toNatClampNeg) :: st)) : hp_V M G nL Q (kt_w G h k s) pc lo (.int i :: .ref (k + o) :: st) := hp_iald C dd (x.o o hc.2.1 hc.1) (by rw [x.l hc.2.1 hc.2.2.1]; exact hin) ((kt_ar hc.2.2.1 hc.2.1).trans (by unfold kt_av; rw [if_neg hc.2.2.2.1, if_neg hc.2.2.2.2])) kk
theorem kt_ast (C : hp_F M G y cc nL d h0) (x : kt_sh G h k) (o : Nat) {i v : Int32} (hc : kt_kd o = 10 ∧ o < 12 ∧ kt_ai o = true ∧ o ≠ 2 ∧ o ≠ 7) (dd : decode cc pc = .ok (.iastore, 1)) (hin : vp_in i (kt_ln o)) (kk : hp_V M G nL Q (kt_w G h k (kt_set s o i.toNatClampNeg v)) (pc + 1) lo st) : hp_V M G nL Q (kt_w G h k s) pc lo (.int v :: .int i :: .ref (k + o) :: st) := hp_iast C dd (x.o o hc.2.1 hc.1) (by rw [x.l hc.2.1 hc.2.2.1]; exact hin) (by rw [kt_sets hc.2.2.1 hc.2.1 hc.2.2.2.1 hc.2.2.2.2]; exact kk)
/-- a row of numbers out of the columns -/
theorem kt_col (C : hp_F M G y cc nL d h0) (x : kt_sh G h k) {i : Int32} (j : Nat) (dd : decode cc pc = .ok (.aaload, 1)) (hj : i.toNatClampNeg = j) (hin : vp_in i 4) (kk : hp_V M G nL Q (kt_w G h k s) (pc + 1) lo (.ref (k + 3 + j) :: st)) : hp_V M G nL Q (kt_w G h k s) pc lo (.int i :: .ref (k + 2) :: st) := hp_aald C 5 rfl rfl (by decide) dd (x.o 2 (by decide) rfl) (by rw [x.l (o := 2) (by decide) rfl]; exact hin) ((kt_ar (o := 2) rfl (by decide)).trans (by rw [hj]; rfl)) kk
/-- a node out of the nodes -/
theorem kt_nod (C : hp_F M G y cc nL d h0) (x : kt_sh G h k) {i : Int32} (dd : decode cc pc = .ok (.aaload, 1)) (hin : vp_in i 80) (kk : hp_V M G nL Q (kt_w G h k s) (pc + 1) lo (va_rf (if i.toNatClampNeg = 0 then some (k + 8) else none) :: st)) : hp_V M G nL Q (kt_w G h k s) pc lo (.int i :: .ref (k + 7) :: st) := hp_aald C 4 rfl rfl (by decide) dd (x.o 7 (by decide) rfl) (by rw [x.l (o := 7) (by decide) rfl]; exact hin) ((kt_ar (o := 7) rfl (by decide)).trans (by unfold kt_av; rw [if_neg (by decide), if_pos rfl]; split <;> rfl)) kk
end KT
