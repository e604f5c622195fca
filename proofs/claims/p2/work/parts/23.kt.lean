/-! ===== what stays as cells are made ===== -/
section HPN
variable {G : hpG} {h : hpT} {a k n t : Nat}
theorem hp_is.mk (x : hp_is G h a k) (c n : Nat) : hp_is G (hp_mk h c n) a k := ⟨x.1, Nat.lt_succ_of_lt x.2.1, (va_up_ne _ _ (Nat.ne_of_lt x.2.1)).trans x.2.2⟩
theorem hp_is.mkA (x : hp_is G h a k) (t n : Nat) (v : Value) : hp_is G (hp_mkA h t n v) a k := ⟨x.1, Nat.lt_succ_of_lt x.2.1, (va_up_ne _ _ (Nat.ne_of_lt x.2.1)).trans x.2.2⟩
theorem hp_is.mkX (x : hp_is G h a k) : hp_is G (hp_mkX h) a k := ⟨x.1, Nat.lt_succ_of_lt x.2.1, (va_up_ne _ _ (Nat.ne_of_lt x.2.1)).trans x.2.2⟩
theorem hp_isN (x : hp_n0 G ≤ hp_nx h) (c n : Nat) : hp_is G (hp_mk h c n) (hp_nx h) c := ⟨x, Nat.lt_succ_self _, va_up_self _ _ _⟩
theorem hp_isA (x : hp_n0 G ≤ hp_nx h) (t n : Nat) (v : Value) : hp_is G (hp_mkA h t n v) (hp_nx h) (10 + t) := ⟨x, Nat.lt_succ_self _, va_up_self _ _ _⟩
theorem hp_is.mkM (x : hp_is G h a k) (n m : Nat) : hp_is G (hp_mkM h n m) a k := ⟨x.1, by have := x.2.1; show a < h.1 + 1 + n; have : a < h.1 := x.2.1; omega, by show (if a < h.1 then hp_kd h a else _) = k; rw [if_pos (show a < h.1 from x.2.1)]; exact x.2.2⟩
end HPN
/-! ===== THE CLASS WITH ITS FIRST KEEPER ALONE: twelve cells from k on ===== -/
/-- whole numbers by the field's number, rows of numbers by the place of the cell -/
abbrev ktS : Type := (Nat → Int32) × (Nat → Nat → Int32)
/-- where the object lies that has field f -/
def kt_off (f : Nat) : Nat := if f < 32 then 9 else if f < 64 then 1 else if f < 96 then 8 else if f < 128 then 10 else 0
/-- is f a field of one of them -/
def kt_fi (f : Nat) : Bool := decide (f < 3) || (decide (32 ≤ f) && decide (f < 35)) || (decide (64 ≤ f) && decide (f < 74)) || (decide (96 ≤ f) && decide (f < 98)) || (decide (160 ≤ f) && decide (f < 166))
def kt_fv (G : hpG) (k : Nat) (s : ktS) (f : Nat) : Value := if f = 1 then .ref (hp_dE G) else if f = 32 then .ref (k + 2) else if f = 65 then .null else if f = 69 then .ref (k + 9) else if f = 70 then .ref (k + 10) else if f = 96 then .ref (k + 11) else if f = 160 then .ref (k + 1) else if f = 161 then .ref (k + 7) else if f = 162 then .ref (k + 8) else .int (s.1 f)
/-- the places of arrays -/
def kt_ai (o : Nat) : Bool := (decide (2 ≤ o) && decide (o < 8)) || decide (o = 11)
def kt_av (k : Nat) (s : ktS) (o i : Nat) : Value := if o = 2 then .ref (k + 3 + i) else if o = 7 then (if i = 0 then .ref (k + 8) else .null) else .int (s.2 o i)
def kt_kd (o : Nat) : Nat := if o = 0 then 5 else if o = 1 then 1 else if o = 2 then 15 else if o < 7 then 10 else if o = 7 then 14 else if o = 8 then 2 else if o = 9 then 0 else if o = 10 then 3 else 10
def kt_ln (o : Nat) : Nat := if o = 2 then 4 else if o = 7 then 80 else if o = 11 then 8 else 600
def kt_w (G : hpG) (h : hpT) (k : Nat) (s : ktS) : hpT := (h.1, h.2.1, h.2.2.1, h.2.2.2.1,
  (fun f b => if kt_fi f = true ∧ b = k + kt_off f then kt_fv G k s f else hp_fl h f b),
  (fun b i => if (k ≤ b ∧ b < k + 12) ∧ kt_ai (b - k) = true then kt_av k s (b - k) i else hp_ar h b i))
def kt_sh (G : hpG) (h : hpT) (k : Nat) : Prop := hp_n0 G ≤ k ∧ k + 12 ≤ hp_nx h ∧ (∀ o, o < 12 → hp_kd h (k + o) = kt_kd o) ∧ (∀ o, o < 12 → kt_ai o = true → hp_ln h (k + o) = kt_ln o)
def kt_put (s : ktS) (f : Nat) (x : Int32) : ktS := (va_up s.1 f x, s.2)
def kt_set (s : ktS) (o i : Nat) (x : Int32) : ktS := (s.1, va_up s.2 o (va_up (s.2 o) i x))
section KT
variable {G : hpG} {h : hpT} {k : Nat} {s : ktS}
theorem kt_w_fl (f b : Nat) : hp_fl (kt_w G h k s) f b = if kt_fi f = true ∧ b = k + kt_off f then kt_fv G k s f else hp_fl h f b := rfl
theorem kt_w_ar (b i : Nat) : hp_ar (kt_w G h k s) b i = if (k ≤ b ∧ b < k + 12) ∧ kt_ai (b - k) = true then kt_av k s (b - k) i else hp_ar h b i := rfl
theorem kt_fl {f o : Nat} (h1 : kt_fi f = true) (h2 : kt_off f = o) : hp_fl (kt_w G h k s) f (k + o) = kt_fv G k s f := by
  rw [kt_w_fl, if_pos ⟨h1, by rw [h2]⟩]
theorem kt_ar {o i : Nat} (h1 : kt_ai o = true) (h2 : o < 12) : hp_ar (kt_w G h k s) (k + o) i = kt_av k s o i := by
  rw [kt_w_ar, Nat.add_sub_cancel_left, if_pos ⟨⟨by omega, by omega⟩, h1⟩]
theorem kt_puts {f o : Nat} {x : Int32} (h1 : kt_fi f = true) (h2 : kt_off f = o) (h3 : ∀ s : ktS, kt_fv G k s f = .int (s.1 f)) : hp_put (kt_w G h k s) f (k + o) (.int x) = kt_w G h k (kt_put s f x) := by
  refine hp_ext rfl rfl rfl rfl (fun g b => ?_) (fun _ _ => rfl)
  rw [hp_put_fl, kt_w_fl, kt_w_fl, kt_w_fl]
  by_cases e : g = f
  · subst e
    rw [if_pos rfl, h2]
    by_cases eb : b = k + o
    · rw [if_pos eb, if_pos ⟨h1, eb⟩, h3]
      show _ = Value.int (va_up s.1 g x g)
      rw [va_up_self]
    · rw [if_neg eb, if_neg (fun z => eb z.2), if_neg (fun z => eb z.2)]
  · rw [if_neg e]
    by_cases c : kt_fi g = true ∧ b = k + kt_off g
    · rw [if_pos c, if_pos c]
      unfold kt_fv
      rw [show (kt_put s f x).1 g = s.1 g from va_up_ne _ _ e]
    · rw [if_neg c, if_neg c]
theorem kt_sets {o i : Nat} {x : Int32} (h1 : kt_ai o = true) (h2 : o < 12) (h3 : o ≠ 2) (h4 : o ≠ 7) : hp_set (kt_w G h k s) (k + o) i (.int x) = kt_w G h k (kt_set s o i x) := by
  refine hp_ext rfl rfl rfl rfl (fun _ _ => rfl) (fun b j => ?_)
  rw [hp_set_ar, kt_ar h1 h2, kt_w_ar, kt_w_ar]
  by_cases e : b = k + o
  · rw [if_pos e, e, Nat.add_sub_cancel_left, if_pos (show (k ≤ k + o ∧ k + o < k + 12) ∧ kt_ai o = true from ⟨⟨by omega, by omega⟩, h1⟩)]
    unfold kt_av
    rw [if_neg h3, if_neg h4, if_neg h3, if_neg h4]
    show _ = Value.int (va_up s.2 o (va_up (s.2 o) i x) o j)
    rw [va_up_self]
    by_cases ej : j = i
    · rw [if_pos ej, ej, va_up_self]
    · rw [if_neg ej, va_up_ne _ _ ej]
  · rw [if_neg e]
    by_cases c : (k ≤ b ∧ b < k + 12) ∧ kt_ai (b - k) = true
    · rw [if_pos c, if_pos c]
      unfold kt_av
      rw [show (kt_set s o i x).2 (b - k) = s.2 (b - k) from va_up_ne _ _ (by omega)]
    · rw [if_neg c, if_neg c]
theorem kt_sh.w (x : kt_sh G h k) (s : ktS) : kt_sh G (kt_w G h k s) k := x
theorem kt_sh.o (x : kt_sh G h k) (o : Nat) {ci : Nat} (h1 : o < 12) (h2 : kt_kd o = ci) : hp_is G (kt_w G h k s) (k + o) ci := ⟨by have := x.1; omega, by have := x.2.1; show k + o < hp_nx h; omega, (x.2.2.1 o h1).trans h2⟩
theorem kt_sh.l (x : kt_sh G h k) {o : Nat} (h1 : o < 12) (h2 : kt_ai o = true) : hp_ln (kt_w G h k s) (k + o) = kt_ln o := x.2.2.2 o h1 h2
variable {M : hpM} {y : MethodName} {cc : ByteArray} {nL d : Nat} {h0 : hpT} {Q : State → Prop} {pc : Nat} {lo : Nat → Option Value} {st : List Value}
theorem kt_get (C : hp_F M G y cc nL d h0) (x : kt_sh G h k) {idx ci j : Nat} (o : Nat) {v : Value} (fl : hp_FL y.cls idx ci j) (hc : kt_kd o = ci ∧ o < 12 ∧ kt_fi (hp_fd ci j) = true ∧ kt_off (hp_fd ci j) = o) (ev : kt_fv G k s (hp_fd ci j) = v) (dd : decode cc pc = .ok (.getfield idx, 3)) (kk : hp_V M G nL Q (kt_w G h k s) (pc + 3) lo (v :: st)) : hp_V M G nL Q (kt_w G h k s) pc lo (.ref (k + o) :: st) := hp_get C fl dd (x.o o hc.2.1 hc.1) ((kt_fl hc.2.2.1 hc.2.2.2).trans ev) kk
theorem kt_pt (C : hp_F M G y cc nL d h0) (x : kt_sh G h k) {idx ci j : Nat} (o : Nat) {v : Int32} (fl : hp_FL y.cls idx ci j) (hc : kt_kd o = ci ∧ o < 12 ∧ kt_fi (hp_fd ci j) = true ∧ kt_off (hp_fd ci j) = o) (h3 : ∀ s : ktS, kt_fv G k s (hp_fd ci j) = .int (s.1 (hp_fd ci j))) (hf : (vwCl[ci]?).map (fun r => (r.2.1 j).2.2.2) = some false) (hn : narrow (hp_ty ci j) (.int v) = .int v) (hfit : fits (hp_ty ci j) (.int v) = true) (dd : decode cc pc = .ok (.putfield idx, 3)) (kk : hp_V M G nL Q (kt_w G h k (kt_put s (hp_fd ci j) v)) (pc + 3) lo st) : hp_V M G nL Q (kt_w G h k s) pc lo (.int v :: .ref (k + o) :: st) := hp_putf C fl hf hn hfit dd (x.o o hc.2.1 hc.1) (by rw [kt_puts hc.2.2.1 hc.2.2.2 h3]; exact kk)
theorem kt_ald (C : hp_F M G y cc nL d h0) (x : kt_sh G h k) (o : Nat) {i : Int32} (hc : kt_kd o = 10 ∧ o < 12 ∧ kt_ai o = true ∧ o ≠ 2 ∧ o ≠ 7) (dd : decode cc pc = .ok (.iaload, 1)) (hin : vp_in i (kt_ln o)) (kk : hp_V M G nL Q (kt_w G h k s) (pc + 1) lo (.int (s.2 o i.toNatClampNeg) :: st)) : hp_V M G nL Q (kt_w G h k s) pc lo (.int i :: .ref (k + o) :: st) := hp_iald C dd (x.o o hc.2.1 hc.1) (by rw [x.l hc.2.1 hc.2.2.1]; exact hin) ((kt_ar hc.2.2.1 hc.2.1).trans (by unfold kt_av; rw [if_neg hc.2.2.2.1, if_neg hc.2.2.2.2])) kk
theorem kt_ast (C : hp_F M G y cc nL d h0) (x : kt_sh G h k) (o : Nat) {i v : Int32} (hc : kt_kd o = 10 ∧ o < 12 ∧ kt_ai o = true ∧ o ≠ 2 ∧ o ≠ 7) (dd : decode cc pc = .ok (.iastore, 1)) (hin : vp_in i (kt_ln o)) (kk : hp_V M G nL Q (kt_w G h k (kt_set s o i.toNatClampNeg v)) (pc + 1) lo st) : hp_V M G nL Q (kt_w G h k s) pc lo (.int v :: .int i :: .ref (k + o) :: st) := hp_iast C dd (x.o o hc.2.1 hc.1) (by rw [x.l hc.2.1 hc.2.2.1]; exact hin) (by rw [kt_sets hc.2.2.1 hc.2.1 hc.2.2.2.1 hc.2.2.2.2]; exact kk)
/-- a row of numbers out of the columns -/
theorem kt_col (C : hp_F M G y cc nL d h0) (x : kt_sh G h k) {i : Int32} (j : Nat) (dd : decode cc pc = .ok (.aaload, 1)) (hj : i.toNatClampNeg = j) (hin : vp_in i 4) (kk : hp_V M G nL Q (kt_w G h k s) (pc + 1) lo (.ref (k + 3 + j) :: st)) : hp_V M G nL Q (kt_w G h k s) pc lo (.int i :: .ref (k + 2) :: st) := hp_aald C 5 rfl rfl (by decide) dd (x.o 2 (by decide) rfl) (by rw [x.l (o := 2) (by decide) rfl]; exact hin) ((kt_ar (o := 2) rfl (by decide)).trans (by rw [hj]; rfl)) kk
/-- a node out of the nodes -/
theorem kt_nod (C : hp_F M G y cc nL d h0) (x : kt_sh G h k) {i : Int32} (dd : decode cc pc = .ok (.aaload, 1)) (hin : vp_in i 80) (kk : hp_V M G nL Q (kt_w G h k s) (pc + 1) lo (va_rf (if i.toNatClampNeg = 0 then some (k + 8) else none) :: st)) : hp_V M G nL Q (kt_w G h k s) pc lo (.int i :: .ref (k + 7) :: st) := hp_aald C 4 rfl rfl (by decide) dd (x.o 7 (by decide) rfl) (by rw [x.l (o := 7) (by decide) rfl]; exact hin) ((kt_ar (o := 7) rfl (by decide)).trans (by unfold kt_av; rw [if_neg (by decide), if_pos rfl]; split <;> rfl)) kk
end KT
