/-! ===== what a constructor leaves; join ===== -/
section FG
/-- cells from a on that were there are as they were -/
def hp_fg (a : Nat) (h h1 : hpT) : Prop := hp_nx h ≤ hp_nx h1 ∧ ∀ b, a ≤ b → b < hp_nx h → hp_kd h1 b = hp_kd h b ∧ hp_ln h1 b = hp_ln h b ∧ (∀ f, hp_fl h1 f b = hp_fl h f b) ∧ hp_ar h1 b = hp_ar h b
variable {a : Nat} {h h1 : hpT}
theorem hp_fg.rf : hp_fg a h h := ⟨Nat.le_refl _, fun _ _ _ => ⟨rfl, rfl, fun _ => rfl, rfl⟩⟩
theorem hp_fg.put (x : hp_fg a h h1) (f : Nat) {b : Nat} (v : Value) (c : b < a ∨ hp_nx h ≤ b) : hp_fg a h (hp_put h1 f b v) := by
  refine ⟨x.1, fun q h2 h3 => ?_⟩
  obtain ⟨e1, e2, e3, e4⟩ := x.2 q h2 h3
  refine ⟨e1, e2, fun g => ?_, e4⟩
  rw [hp_put_fl, if_neg (show ¬ q = b by omega)]
  split
  · rename_i e; rw [e3, e]
  · exact e3 g
theorem hp_fg.set (x : hp_fg a h h1) (i : Nat) {b : Nat} (v : Value) (c : b < a ∨ hp_nx h ≤ b) : hp_fg a h (hp_set h1 b i v) := by
  refine ⟨x.1, fun q h2 h3 => ?_⟩
  obtain ⟨e1, e2, e3, e4⟩ := x.2 q h2 h3
  exact ⟨e1, e2, e3, (va_up_ne _ _ (by omega)).trans e4⟩
theorem hp_fg.mk (x : hp_fg a h h1) (c n : Nat) : hp_fg a h (hp_mk h1 c n) := by
  refine ⟨Nat.le_succ_of_le x.1, fun q h2 h3 => ?_⟩
  obtain ⟨e1, e2, e3, e4⟩ := x.2 q h2 h3
  have hq : ¬ q = hp_nx h1 := by have := x.1; omega
  exact ⟨(va_up_ne _ _ hq).trans e1, e2, fun f => (va_up_ne _ _ hq).trans (e3 f), e4⟩
theorem hp_fg.mkA (x : hp_fg a h h1) (t n : Nat) (v : Value) : hp_fg a h (hp_mkA h1 t n v) := by
  refine ⟨Nat.le_succ_of_le x.1, fun q h2 h3 => ?_⟩
  obtain ⟨e1, e2, e3, e4⟩ := x.2 q h2 h3
  have hq : ¬ q = hp_nx h1 := by have := x.1; omega
  exact ⟨(va_up_ne _ _ hq).trans e1, (va_up_ne _ _ hq).trans e2, e3, (va_up_ne _ _ hq).trans e4⟩
theorem hp_fg.node (x : hp_fg a h h1) (ci : Nat) {b : Nat} (n : Int32) (ow : Option Nat) (dp kn : Int32) (c : hp_nx h ≤ b) : hp_fg a h (kc_Node ci h1 b n ow dp kn) := ((((x.put _ _ (Or.inr c)).put _ _ (Or.inr c)).put _ _ (Or.inr c)).put _ _ (Or.inr c)).put _ _ (Or.inr c)
theorem hp_fg.arr (x : hp_fg a h h1) (G : hpG) {b : Nat} (c : hp_nx h ≤ b) : hp_fg a h (kc_Arr G h1 b) := (x.put _ _ (Or.inr c)).put _ _ (Or.inr c)
theorem hp_fg.rt (x : hp_fg a h h1) {b : Nat} (c : hp_nx h ≤ b) : hp_fg a h (kc_RT h1 b) := ((x.mkA _ _ _).put _ _ (Or.inr c)).put _ _ (Or.inr c)
theorem hp_fg.keep (x : hp_fg a h h1) (G : hpG) {b : Nat} (n : Int32) (ow : Option Nat) (dp kn sg r t : Int32) (c : hp_nx h ≤ b) : hp_fg a h (kc_Keep G h1 b n ow dp kn sg r t) := by
  have c1 : hp_nx h ≤ hp_nx h1 := x.1
  have c2 : hp_nx h ≤ hp_nx h1 + 1 := Nat.le_succ_of_le c1
  exact ((((((((((x.node 2 n ow dp kn c).mk 0 3).arr G c1).put _ _ (Or.inr c)).mk 3 2).rt c2).put _ _ (Or.inr c)).put _ _ (Or.inr c)).put _ _ (Or.inr c)).put _ _ (Or.inr c))
end FG
theorem hp_fg.work {a : Nat} {h h1 : hpT} (x : hp_fg a h h1) {u : Nat} (n : Int32) (ow : Option Nat) (dp kn p b e f : Int32) (c : hp_nx h ≤ u) : hp_fg a h (kc_Work h1 u n ow dp kn p b e f) := ((((x.node 4 n ow dp kn c).put _ _ (Or.inr c)).put _ _ (Or.inr c)).put _ _ (Or.inr c)).put _ _ (Or.inr c)
theorem hp_mk_fl (h : hpT) (c n f b : Nat) : hp_fl (hp_mk h c n) f b = if b = hp_nx h then hp_dv c f else hp_fl h f b := rfl
theorem hp_mkA_fl (h : hpT) (t n f b : Nat) (v : Value) : hp_fl (hp_mkA h t n v) f b = hp_fl h f b := rfl
theorem hp_mk_nx (h : hpT) (c n : Nat) : hp_nx (hp_mk h c n) = hp_nx h + 1 := rfl
theorem hp_put_nx (h : hpT) (f b : Nat) (v : Value) : hp_nx (hp_put h f b v) = hp_nx h := rfl
theorem hp_put_kd (h : hpT) (f b : Nat) (v : Value) : hp_kd (hp_put h f b v) = hp_kd h := rfl
theorem hp_put_ln (h : hpT) (f b : Nat) (v : Value) : hp_ln (hp_put h f b v) = hp_ln h := rfl
theorem hp_put_sl (h : hpT) (f b : Nat) (v : Value) : hp_sl (hp_put h f b v) = hp_sl h := rfl
section KCF
variable {G : hpG} {h : hpT} {a : Nat} {n : Int32} {ow : Option Nat} {dp kn sg r t : Int32}
theorem kc_Node_fl {ci : Nat} (f b : Nat) : hp_fl (kc_Node ci h a n ow dp kn) f b = if f = hp_fd ci 3 then (if b = a then .int kn else hp_fl (hp_put (hp_put (hp_put (hp_put h (hp_fd ci 4) a (.int 0)) (hp_fd ci 0) a (.int n)) (hp_fd ci 1) a (va_rf ow)) (hp_fd ci 2) a (.int dp)) (hp_fd ci 3) b) else hp_fl (hp_put (hp_put (hp_put (hp_put h (hp_fd ci 4) a (.int 0)) (hp_fd ci 0) a (.int n)) (hp_fd ci 1) a (va_rf ow)) (hp_fd ci 2) a (.int dp)) f b := hp_put_fl _ _ _ _ _ _
theorem kc_Keep_nx : hp_nx (kc_Keep G h a n ow dp kn sg r t) = hp_nx h + 3 := rfl
theorem kc_Keep_sl : hp_sl (kc_Keep G h a n ow dp kn sg r t) = hp_sl h + 13 := rfl
theorem kc_Keep_kd (b : Nat) : hp_kd (kc_Keep G h a n ow dp kn sg r t) b = va_up (va_up (va_up (hp_kd h) (hp_nx h) 0) (hp_nx h + 1) 3) (hp_nx h + 2) 10 b := rfl
theorem kc_Keep_ln (b : Nat) : hp_ln (kc_Keep G h a n ow dp kn sg r t) b = va_up (hp_ln h) (hp_nx h + 2) 8 b := rfl
theorem kc_Keep_f64 (ha : a < hp_nx h) : hp_fl (kc_Keep G h a n ow dp kn sg r t) 64 a = .int n := by
  have n1 : ¬ a = hp_nx h := by omega
  have n2 : ¬ a = hp_nx h + 1 := by omega
  have n3 : ¬ hp_nx h = a := by omega
  have n4 : ¬ hp_nx h + 1 = a := by omega
  unfold kc_Keep kc_RT kc_Arr kc_AL kc_Node
  simp [hp_put_fl, hp_mk_fl, hp_mkA_fl, hp_mk_nx, hp_put_nx, hp_fd, n1, n2, n3, n4, hp_dv, hp_ty, tyJx4a65c]
theorem kc_Keep_f65 (ha : a < hp_nx h) : hp_fl (kc_Keep G h a n ow dp kn sg r t) 65 a = va_rf ow := by
  have n1 : ¬ a = hp_nx h := by omega
  have n2 : ¬ a = hp_nx h + 1 := by omega
  have n3 : ¬ hp_nx h = a := by omega
  have n4 : ¬ hp_nx h + 1 = a := by omega
  unfold kc_Keep kc_RT kc_Arr kc_AL kc_Node
  simp [hp_put_fl, hp_mk_fl, hp_mkA_fl, hp_mk_nx, hp_put_nx, hp_fd, n1, n2, n3, n4, hp_dv, hp_ty, tyJx4a65c]
theorem kc_Keep_f66 (ha : a < hp_nx h) : hp_fl (kc_Keep G h a n ow dp kn sg r t) 66 a = .int dp := by
  have n1 : ¬ a = hp_nx h := by omega
  have n2 : ¬ a = hp_nx h + 1 := by omega
  have n3 : ¬ hp_nx h = a := by omega
  have n4 : ¬ hp_nx h + 1 = a := by omega
  unfold kc_Keep kc_RT kc_Arr kc_AL kc_Node
  simp [hp_put_fl, hp_mk_fl, hp_mkA_fl, hp_mk_nx, hp_put_nx, hp_fd, n1, n2, n3, n4, hp_dv, hp_ty, tyJx4a65c]
theorem kc_Keep_f67 (ha : a < hp_nx h) : hp_fl (kc_Keep G h a n ow dp kn sg r t) 67 a = .int kn := by
  have n1 : ¬ a = hp_nx h := by omega
  have n2 : ¬ a = hp_nx h + 1 := by omega
  have n3 : ¬ hp_nx h = a := by omega
  have n4 : ¬ hp_nx h + 1 = a := by omega
  unfold kc_Keep kc_RT kc_Arr kc_AL kc_Node
  simp [hp_put_fl, hp_mk_fl, hp_mkA_fl, hp_mk_nx, hp_put_nx, hp_fd, n1, n2, n3, n4, hp_dv, hp_ty, tyJx4a65c]
theorem kc_Keep_f68 (ha : a < hp_nx h) : hp_fl (kc_Keep G h a n ow dp kn sg r t) 68 a = .int 0 := by
  have n1 : ¬ a = hp_nx h := by omega
  have n2 : ¬ a = hp_nx h + 1 := by omega
  have n3 : ¬ hp_nx h = a := by omega
  have n4 : ¬ hp_nx h + 1 = a := by omega
  unfold kc_Keep kc_RT kc_Arr kc_AL kc_Node
  simp [hp_put_fl, hp_mk_fl, hp_mkA_fl, hp_mk_nx, hp_put_nx, hp_fd, n1, n2, n3, n4, hp_dv, hp_ty, tyJx4a65c]
theorem kc_Keep_f69 (ha : a < hp_nx h) : hp_fl (kc_Keep G h a n ow dp kn sg r t) 69 a = .ref (hp_nx h) := by
  have n1 : ¬ a = hp_nx h := by omega
  have n2 : ¬ a = hp_nx h + 1 := by omega
  have n3 : ¬ hp_nx h = a := by omega
  have n4 : ¬ hp_nx h + 1 = a := by omega
  unfold kc_Keep kc_RT kc_Arr kc_AL kc_Node
  simp [hp_put_fl, hp_mk_fl, hp_mkA_fl, hp_mk_nx, hp_put_nx, hp_fd, n1, n2, n3, n4, hp_dv, hp_ty, tyJx4a65c]
theorem kc_Keep_f70 (ha : a < hp_nx h) : hp_fl (kc_Keep G h a n ow dp kn sg r t) 70 a = .ref (hp_nx h + 1) := by
  have n1 : ¬ a = hp_nx h := by omega
  have n2 : ¬ a = hp_nx h + 1 := by omega
  have n3 : ¬ hp_nx h = a := by omega
  have n4 : ¬ hp_nx h + 1 = a := by omega
  unfold kc_Keep kc_RT kc_Arr kc_AL kc_Node
  simp [hp_put_fl, hp_mk_fl, hp_mkA_fl, hp_mk_nx, hp_put_nx, hp_fd, n1, n2, n3, n4, hp_dv, hp_ty, tyJx4a65c]
theorem kc_Keep_f71 (ha : a < hp_nx h) : hp_fl (kc_Keep G h a n ow dp kn sg r t) 71 a = .int sg := by
  have n1 : ¬ a = hp_nx h := by omega
  have n2 : ¬ a = hp_nx h + 1 := by omega
  have n3 : ¬ hp_nx h = a := by omega
  have n4 : ¬ hp_nx h + 1 = a := by omega
  unfold kc_Keep kc_RT kc_Arr kc_AL kc_Node
  simp [hp_put_fl, hp_mk_fl, hp_mkA_fl, hp_mk_nx, hp_put_nx, hp_fd, n1, n2, n3, n4, hp_dv, hp_ty, tyJx4a65c]
theorem kc_Keep_f72 (ha : a < hp_nx h) : hp_fl (kc_Keep G h a n ow dp kn sg r t) 72 a = .int r := by
  have n1 : ¬ a = hp_nx h := by omega
  have n2 : ¬ a = hp_nx h + 1 := by omega
  have n3 : ¬ hp_nx h = a := by omega
  have n4 : ¬ hp_nx h + 1 = a := by omega
  unfold kc_Keep kc_RT kc_Arr kc_AL kc_Node
  simp [hp_put_fl, hp_mk_fl, hp_mkA_fl, hp_mk_nx, hp_put_nx, hp_fd, n1, n2, n3, n4, hp_dv, hp_ty, tyJx4a65c]
theorem kc_Keep_f73 (ha : a < hp_nx h) : hp_fl (kc_Keep G h a n ow dp kn sg r t) 73 a = .int t := by
  have n1 : ¬ a = hp_nx h := by omega
  have n2 : ¬ a = hp_nx h + 1 := by omega
  have n3 : ¬ hp_nx h = a := by omega
  have n4 : ¬ hp_nx h + 1 = a := by omega
  unfold kc_Keep kc_RT kc_Arr kc_AL kc_Node
  simp [hp_put_fl, hp_mk_fl, hp_mkA_fl, hp_mk_nx, hp_put_nx, hp_fd, n1, n2, n3, n4, hp_dv, hp_ty, tyJx4a65c]
theorem kc_Keep_f0 (ha : a < hp_nx h) : hp_fl (kc_Keep G h a n ow dp kn sg r t) 0 (hp_nx h) = .int 0 := by
  have n1 : ¬ a = hp_nx h := by omega
  have n2 : ¬ a = hp_nx h + 1 := by omega
  have n3 : ¬ hp_nx h = a := by omega
  have n4 : ¬ hp_nx h + 1 = a := by omega
  unfold kc_Keep kc_RT kc_Arr kc_AL kc_Node
  simp [hp_put_fl, hp_mk_fl, hp_mkA_fl, hp_mk_nx, hp_put_nx, hp_fd, n1, n2, n3, n4, hp_dv, hp_ty, tyJx4a65c]
theorem kc_Keep_f1 (ha : a < hp_nx h) : hp_fl (kc_Keep G h a n ow dp kn sg r t) 1 (hp_nx h) = .ref (hp_dE G) := by
  have n1 : ¬ a = hp_nx h := by omega
  have n2 : ¬ a = hp_nx h + 1 := by omega
  have n3 : ¬ hp_nx h = a := by omega
  have n4 : ¬ hp_nx h + 1 = a := by omega
  unfold kc_Keep kc_RT kc_Arr kc_AL kc_Node
  simp [hp_put_fl, hp_mk_fl, hp_mkA_fl, hp_mk_nx, hp_put_nx, hp_fd, n1, n2, n3, n4, hp_dv, hp_ty, tyJx4a65c]
theorem kc_Keep_f2 (ha : a < hp_nx h) : hp_fl (kc_Keep G h a n ow dp kn sg r t) 2 (hp_nx h) = .int 0 := by
  have n1 : ¬ a = hp_nx h := by omega
  have n2 : ¬ a = hp_nx h + 1 := by omega
  have n3 : ¬ hp_nx h = a := by omega
  have n4 : ¬ hp_nx h + 1 = a := by omega
  unfold kc_Keep kc_RT kc_Arr kc_AL kc_Node
  simp [hp_put_fl, hp_mk_fl, hp_mkA_fl, hp_mk_nx, hp_put_nx, hp_fd, n1, n2, n3, n4, hp_dv, hp_ty, tyJx4a65c]
  rfl
theorem kc_Keep_f96 (ha : a < hp_nx h) : hp_fl (kc_Keep G h a n ow dp kn sg r t) 96 (hp_nx h + 1) = .ref (hp_nx h + 2) := by
  have n1 : ¬ a = hp_nx h := by omega
  have n2 : ¬ a = hp_nx h + 1 := by omega
  have n3 : ¬ hp_nx h = a := by omega
  have n4 : ¬ hp_nx h + 1 = a := by omega
  unfold kc_Keep kc_RT kc_Arr kc_AL kc_Node
  simp [hp_put_fl, hp_mk_fl, hp_mkA_fl, hp_mk_nx, hp_put_nx, hp_fd, n1, n2, n3, n4, hp_dv, hp_ty, tyJx4a65c]
theorem kc_Keep_f97 (ha : a < hp_nx h) : hp_fl (kc_Keep G h a n ow dp kn sg r t) 97 (hp_nx h + 1) = .int 0 := by
  have n1 : ¬ a = hp_nx h := by omega
  have n2 : ¬ a = hp_nx h + 1 := by omega
  have n3 : ¬ hp_nx h = a := by omega
  have n4 : ¬ hp_nx h + 1 = a := by omega
  unfold kc_Keep kc_RT kc_Arr kc_AL kc_Node
  simp [hp_put_fl, hp_mk_fl, hp_mkA_fl, hp_mk_nx, hp_put_nx, hp_fd, n1, n2, n3, n4, hp_dv, hp_ty, tyJx4a65c]
end KCF
section KCW
variable {h : hpT} {a : Nat} {n : Int32} {ow : Option Nat} {dp kn p b e f : Int32}
theorem kc_Work_nx : hp_nx (kc_Work h a n ow dp kn p b e f) = hp_nx h := rfl
theorem kc_Work_sl : hp_sl (kc_Work h a n ow dp kn p b e f) = hp_sl h := rfl
theorem kc_Work_kd (b_ : Nat) : hp_kd (kc_Work h a n ow dp kn p b e f) b_ = hp_kd h b_ := rfl
theorem kc_Work_f64 : hp_fl (kc_Work h a n ow dp kn p b e f) 64 a = .int n := by
  unfold kc_Work kc_Node
  simp [hp_put_fl, hp_fd]
theorem kc_Work_f65 : hp_fl (kc_Work h a n ow dp kn p b e f) 65 a = va_rf ow := by
  unfold kc_Work kc_Node
  simp [hp_put_fl, hp_fd]
theorem kc_Work_f66 : hp_fl (kc_Work h a n ow dp kn p b e f) 66 a = .int dp := by
  unfold kc_Work kc_Node
  simp [hp_put_fl, hp_fd]
theorem kc_Work_f67 : hp_fl (kc_Work h a n ow dp kn p b e f) 67 a = .int kn := by
  unfold kc_Work kc_Node
  simp [hp_put_fl, hp_fd]
theorem kc_Work_f68 : hp_fl (kc_Work h a n ow dp kn p b e f) 68 a = .int 0 := by
  unfold kc_Work kc_Node
  simp [hp_put_fl, hp_fd]
theorem kc_Work_f133 : hp_fl (kc_Work h a n ow dp kn p b e f) 133 a = .int p := by
  unfold kc_Work kc_Node
  simp [hp_put_fl, hp_fd]
theorem kc_Work_f134 : hp_fl (kc_Work h a n ow dp kn p b e f) 134 a = .int b := by
  unfold kc_Work kc_Node
  simp [hp_put_fl, hp_fd]
theorem kc_Work_f135 : hp_fl (kc_Work h a n ow dp kn p b e f) 135 a = .int e := by
  unfold kc_Work kc_Node
  simp [hp_put_fl, hp_fd]
theorem kc_Work_f136 : hp_fl (kc_Work h a n ow dp kn p b e f) 136 a = .int f := by
  unfold kc_Work kc_Node
  simp [hp_put_fl, hp_fd]
end KCW
/-- what an add leaves -/
theorem hp_ad.fx {G : hpG} {h h' : hpT} {r e n x : Nat} (A : hp_ad G h h' r e n x) (hr : r < hp_nx h) (f1 : hp_fl h 1 r = .ref e) : ∃ e1 : Nat, hp_nx h ≤ hp_nx h' ∧ hp_nx h' ≤ hp_nx h + 1 ∧ hp_sl h ≤ hp_sl h' ∧ hp_sl h' ≤ hp_sl h + 130 ∧ (∀ c, c < hp_nx h → hp_kd h' c = hp_kd h c ∧ hp_ln h' c = hp_ln h c) ∧ (∀ f c, c < hp_nx h → ¬ (c = r ∧ (f = 1 ∨ f = 2)) → hp_fl h' f c = hp_fl h f c) ∧ hp_fl h' 1 r = .ref e1 ∧ hp_fl h' 2 r = .int (nI (n + 1)) ∧
    (∀ c, c < hp_nx h → c ≠ e1 → hp_ar h' c = hp_ar h c) ∧ (∀ i, i < n → hp_ar h' e1 i = hp_ar h e i) ∧ hp_ar h' e1 n = .ref x ∧ ((e1 = e ∧ hp_is G h e 13) ∨ e1 = hp_nx h) ∧ hp_kd h' e1 = 13 ∧ e1 < hp_nx h' ∧ n + 1 ≤ hp_ln h' e1 := by
  obtain ⟨h1, e1, hc, rfl⟩ := A
  have ef : ∀ f c, hp_fl (hp_put (hp_set h1 e1 n (.ref x)) 2 r (.int (nI (n + 1)))) f c = va_up (hp_fl h1) 2 (va_up (hp_fl h1 2) r (.int (nI (n + 1)))) f c := fun _ _ => rfl
  have ea : ∀ c i, hp_ar (hp_put (hp_set h1 e1 n (.ref x)) 2 r (.int (nI (n + 1)))) c i = va_up (hp_ar h1) e1 (va_up (hp_ar h1 e1) n (.ref x)) c i := fun _ _ => rfl
  have ek : ∀ c, hp_kd (hp_put (hp_set h1 e1 n (.ref x)) 2 r (.int (nI (n + 1)))) c = hp_kd h1 c := fun _ => rfl
  have el : ∀ c, hp_ln (hp_put (hp_set h1 e1 n (.ref x)) 2 r (.int (nI (n + 1)))) c = hp_ln h1 c := fun _ => rfl
  have en : hp_nx (hp_put (hp_set h1 e1 n (.ref x)) 2 r (.int (nI (n + 1)))) = hp_nx h1 := rfl
  have es : hp_sl (hp_put (hp_set h1 e1 n (.ref x)) 2 r (.int (nI (n + 1)))) = hp_sl h1 := rfl
  generalize hp_put (hp_set h1 e1 n (.ref x)) 2 r (.int (nI (n + 1))) = H at *
  have fne : ∀ f c, ¬ (c = r ∧ f = 2) → hp_fl H f c = hp_fl h1 f c := fun f c hz => by
    rw [ef]
    by_cases e2 : f = 2
    · subst e2
      rw [va_up_self, va_up_ne _ _ (fun z => hz ⟨z, rfl⟩)]
    · rw [va_up_ne _ _ e2]
  have f2 : hp_fl H 2 r = .int (nI (n + 1)) := by rw [ef, va_up_self, va_up_self]
  have an : ∀ c, c ≠ e1 → hp_ar H c = hp_ar h1 c := fun c hc => by funext i; rw [ea, va_up_ne _ _ hc]
  have ai : ∀ i, i < n → hp_ar H e1 i = hp_ar h1 e1 i := fun i hi => by rw [ea, va_up_self, va_up_ne _ _ (by omega)]
  have ax : hp_ar H e1 n = .ref x := by rw [ea, va_up_self, va_up_self]
  rcases hc with ⟨rfl, rfl, z1, z2⟩ | ⟨rfl, L, g1, g2, g3, g4, g5, g6, g7, g8, g9⟩
  · exact ⟨e1, by omega, by omega, by omega, by omega, fun c _ => ⟨ek c, el c⟩, fun f c _ hz => fne f c (fun z => hz ⟨z.1, Or.inr z.2⟩), (fne 1 r (fun z => by omega)).trans f1, f2, fun c _ hce => an c hce, ai, ax, Or.inl ⟨rfl, z1⟩, by rw [ek]; exact z1.2.2, by rw [en]; exact z1.2.1, by rw [el]; exact z2⟩
  · refine ⟨hp_nx h, by omega, by omega, by omega, by omega, fun c hc => ⟨?_, ?_⟩, fun f c hc hz => ?_, ?_, f2, fun c hc hce => (an c hce).trans (g6 c hce), fun i hi => (ai i hi).trans (g7 i hi), ax, Or.inr rfl, ?_, by rw [en, g1]; exact Nat.lt_succ_self _, ?_⟩
    · rw [ek, g3, va_up_ne _ _ (by omega)]
    · rw [el, g4, va_up_ne _ _ (by omega)]
    · rw [fne f c (fun z => hz ⟨z.1, Or.inr z.2⟩), g5, if_neg (fun z => hz ⟨z.2, Or.inl z.1⟩)]
    · rw [fne 1 r (fun z => by omega), g5, if_pos ⟨rfl, rfl⟩]
    · rw [ek, g3, va_up_self]
    · rw [el, g4, va_up_self]; exact g8
set_option maxRecDepth 20000 in
set_option maxHeartbeats 4000000 in
theorem kj_join {l : Launch} {G : hpG} {h : hpT} {d k q r u x n e len ci : Nat} {cn : String} {mc : Int32} (ik : hp_is G h k 5) (g1 : hp_fl h 161 k = .ref q) (iq : hp_is G h q 14) (lq : hp_ln h q = 80) (hn : n < 80) (g64 : hp_fl h 64 x = .int (nI n)) (iu : hp_is G h u 2) (g69 : hp_fl h 69 u = .ref r) (g163 : hp_fl h 163 k = .int (nI n)) (ir : hp_is G h r 0) (f0 : hp_fl h 0 r = .int mc) (f1 : hp_fl h 1 r = .ref e) (f2 : hp_fl h 2 r = .int (nI len)) (hE : (len = 0 ∧ e = hp_dE G) ∨ (hp_is G h e 13 ∧ len ≤ hp_ln h e)) (hqe : e ≠ q) (hel : hp_els G h (hp_ar h e) len) (hl : len ≤ 79) (hx1 : hp_is G h x ci) (hx2 : ci < 10) (hx3 : (vwCl[ci]?).map (fun r => r.1) = some cn) (hx4 : Cond.castable cn "java/lang/Object" ∈ hp_ow) (hx7 : Cond.castable cn "KeeperTree$Node" ∈ hp_ow) (hx8 : hp_FL RX5 167 ci 0) (hx9 : hp_fd ci 0 = 64) (rm : hp_nx h + 1 ≤ hp_n0 G + hp_LC ∧ hp_sl h + 130 ≤ hp_LS) (hd : 7 ≤ d) : hp_C l G yX5_join (.code yX5_join cX5_join 3 none) d [.ref k, .ref x, .ref u] (h) (fun v h' => v = none ∧ ∃ h2, hp_ad G (hp_put (hp_set h q n (.ref x)) 0 r (.int (mc + 1))) h2 r e len x ∧ h' = hp_put h2 163 k (.int (nI (n + 1)))) (fun _ _ => False) := by
  refine hp_ofV (by decide) (by simp [Value.category]) (Nat.le_of_ble_eq_true rfl) (fun M C hr hx el => ?_)
  refine hp_aload_nR C dX5_join_0 rfl ?_
  refine hp_get C fl_X5_18_5 dX5_join_1 ik g1 ?_
  refine hp_aload_nR C dX5_join_4 rfl ?_
  refine hp_get C hx8 dX5_join_5 hx1 ((congrArg (fun f => hp_fl h f x) hx9).trans g64) ?_
  refine hp_aload_nR C dX5_join_8 rfl ?_
  refine hp_aast C 4 ci rfl (by decide) hx7 hx3 hx2 dX5_join_9 iq hx1 (by rw [lq]; exact nI_in hn (by omega)) ?_
  rw [nI_clamp (by omega)]
  have hel2 : hp_els G (hp_set h q n (.ref x)) (hp_ar (hp_set h q n (.ref x)) e) len := by
    have ea : hp_ar (hp_set h q n (.ref x)) e = hp_ar h e := va_up_ne _ _ hqe
    rw [ea]
    exact hel
  refine hp_aload_nR C dX5_join_10 rfl ?_
  refine hp_get C fl_X5_146_2 dX5_join_11 iu g69 ?_
  refine hp_aload_nR C dX5_join_14 rfl ?_
  refine hp_callV (ci := 0) C ml_X5_181 im_Jx4a65c_add_9ea2d se_Jx4a65c_add_9ea2d rfl (by decide) (kj_add (d := d - 1) (h := hp_set h q n (.ref x)) (f0 := f0) ir f1 f2 hE hel2 hl hx1 hx2 hx3 hx4 rm (by omega)) (by omega) dX5_join_15 ir rfl rfl (by simp [Value.category]) (fun v_15 h_15 hp => ?_) (fun _ _ hf => hf.elim)
  obtain ⟨rfl, hA⟩ := hp
  refine hp_pop C dX5_join_18 rfl ?_
  obtain ⟨e1, y1, y2, y3, y4, y5, y6, y7, y8, -⟩ := hA.fx (show r < hp_nx h from ir.2.1) f1
  have ik2 : hp_is G h_15 k 5 := ⟨ik.1, Nat.lt_of_lt_of_le ik.2.1 y1, (y5 k ik.2.1).1.trans ik.2.2⟩
  have g163b : hp_fl h_15 163 k = .int (nI n) := (y6 163 k ik.2.1 (fun z => by omega)).trans g163
  refine hp_aload_nR C dX5_join_19 rfl ?_
  refine hp_dup C dX5_join_20 rfl ?_
  refine hp_get C fl_X5_31_5 dX5_join_21 ik2 g163b ?_
  refine hp_iconst (v := 1) C dX5_join_24 (by decide) ?_
  refine hp_iadd C dX5_join_25 ?_
  rw [nI_1]
  refine hp_putf C fl_X5_31_5 rfl rfl rfl dX5_join_26 ik2 ?_
  refine hp_vret C hr dX5_join_29 ?_
  exact ⟨rfl, h_15, hA, rfl⟩
/-! ===== a node has joined: what the class holds ===== -/
/-- h2: the heap with the new objects; H: behind join -/
theorem kj_H {G : hpG} {h2 h3 : hpT} {q r k e n len x : Nat} {mc : Int32} (hr : r < hp_nx h2) (hk : k < hp_nx h2) (hq : q < hp_nx h2) (hkr : k ≠ r) (f1 : hp_fl h2 1 r = .ref e) (hqe : ¬ (q = e ∧ hp_is G h2 e 13)) (A : hp_ad G (hp_put (hp_set h2 q n (.ref x)) 0 r (.int (mc + 1))) h3 r e len x) :
    ∃ e1 : Nat, (hp_nx h2 ≤ hp_nx (hp_put h3 163 k (.int (nI (n + 1)))) ∧ hp_nx (hp_put h3 163 k (.int (nI (n + 1)))) ≤ hp_nx h2 + 1 ∧ hp_sl h2 ≤ hp_sl (hp_put h3 163 k (.int (nI (n + 1)))) ∧ hp_sl (hp_put h3 163 k (.int (nI (n + 1)))) ≤ hp_sl h2 + 130) ∧
    (∀ c, c < hp_nx h2 → hp_kd (hp_put h3 163 k (.int (nI (n + 1)))) c = hp_kd h2 c ∧ hp_ln (hp_put h3 163 k (.int (nI (n + 1)))) c = hp_ln h2 c) ∧
    (∀ f c, c < hp_nx h2 → ¬ (c = r ∧ f < 3) → ¬ (c = k ∧ f = 163) → hp_fl (hp_put h3 163 k (.int (nI (n + 1)))) f c = hp_fl h2 f c) ∧
    (hp_fl (hp_put h3 163 k (.int (nI (n + 1)))) 0 r = .int (mc + 1) ∧ hp_fl (hp_put h3 163 k (.int (nI (n + 1)))) 1 r = .ref e1 ∧ hp_fl (hp_put h3 163 k (.int (nI (n + 1)))) 2 r = .int (nI (len + 1)) ∧ hp_fl (hp_put h3 163 k (.int (nI (n + 1)))) 163 k = .int (nI (n + 1))) ∧
    (∀ c, c < hp_nx h2 → c ≠ q → c ≠ e1 → hp_ar (hp_put h3 163 k (.int (nI (n + 1)))) c = hp_ar h2 c) ∧ (∀ i, i ≠ n → hp_ar (hp_put h3 163 k (.int (nI (n + 1)))) q i = hp_ar h2 q i) ∧ hp_ar (hp_put h3 163 k (.int (nI (n + 1)))) q n = .ref x ∧
    (∀ i, i < len → hp_ar (hp_put h3 163 k (.int (nI (n + 1)))) e1 i = hp_ar (hp_set h2 q n (.ref x)) e i) ∧ hp_ar (hp_put h3 163 k (.int (nI (n + 1)))) e1 len = .ref x ∧ ((e1 = e ∧ hp_is G h2 e 13) ∨ e1 = hp_nx h2) ∧ hp_kd (hp_put h3 163 k (.int (nI (n + 1)))) e1 = 13 ∧ e1 < hp_nx (hp_put h3 163 k (.int (nI (n + 1)))) ∧ len + 1 ≤ hp_ln (hp_put h3 163 k (.int (nI (n + 1)))) e1 := by
  obtain ⟨e1, y1, y2, y3, y4, y5, y6, y7, y8, y9, y10, y11, y12, y13, y14, y15⟩ := A.fx hr f1
  have hn1 : hp_nx (hp_put (hp_set h2 q n (.ref x)) 0 r (.int (mc + 1))) = hp_nx h2 := rfl
  have hs1 : hp_sl (hp_put (hp_set h2 q n (.ref x)) 0 r (.int (mc + 1))) = hp_sl h2 := rfl
  have hk1 : ∀ c, hp_kd (hp_put (hp_set h2 q n (.ref x)) 0 r (.int (mc + 1))) c = hp_kd h2 c := fun _ => rfl
  have hl1 : ∀ c, hp_ln (hp_put (hp_set h2 q n (.ref x)) 0 r (.int (mc + 1))) c = hp_ln h2 c := fun _ => rfl
  have hf1 : ∀ f c, hp_fl (hp_put (hp_set h2 q n (.ref x)) 0 r (.int (mc + 1))) f c = va_up (hp_fl h2) 0 (va_up (hp_fl h2 0) r (.int (mc + 1))) f c := fun _ _ => rfl
  have ha1 : ∀ c, hp_ar (hp_put (hp_set h2 q n (.ref x)) 0 r (.int (mc + 1))) c = va_up (hp_ar h2) q (va_up (hp_ar h2 q) n (.ref x)) c := fun _ => rfl
  have hi1 : hp_is G (hp_put (hp_set h2 q n (.ref x)) 0 r (.int (mc + 1))) e 13 ↔ hp_is G h2 e 13 := Iff.rfl
  have ha2 : ∀ i, hp_ar (hp_put (hp_set h2 q n (.ref x)) 0 r (.int (mc + 1))) e i = hp_ar (hp_set h2 q n (.ref x)) e i := fun _ => rfl
  generalize hp_put (hp_set h2 q n (.ref x)) 0 r (.int (mc + 1)) = b at *
  have hf2 : ∀ f c, hp_fl (hp_put h3 163 k (.int (nI (n + 1)))) f c = va_up (hp_fl h3) 163 (va_up (hp_fl h3 163) k (.int (nI (n + 1)))) f c := fun _ _ => rfl
  have hne : q ≠ e1 := by
    rcases y12 with ⟨z1, z2⟩ | z
    · intro z; exact hqe ⟨z.trans z1, hi1.mp z2⟩
    · omega
  have f163 : ∀ f c, ¬ (c = k ∧ f = 163) → hp_fl (hp_put h3 163 k (.int (nI (n + 1)))) f c = hp_fl h3 f c := fun f c hz => by
    rw [hf2]
    by_cases e6 : f = 163
    · subst e6
      rw [va_up_self, va_up_ne _ _ (fun z => hz ⟨z, rfl⟩)]
    · rw [va_up_ne _ _ e6]
  refine ⟨e1, ⟨by show hp_nx h2 ≤ hp_nx h3; omega, by show hp_nx h3 ≤ _; omega, by show _ ≤ hp_sl h3; omega, by show hp_sl h3 ≤ _; omega⟩, fun c hc => ⟨?_, ?_⟩, fun f c hc z1 z2 => ?_, ⟨?_, ?_, ?_, ?_⟩, fun c hc z1 z2 => ?_, fun i hi => ?_, ?_, fun i hi => ?_, y11, ?_, y13, y14, y15⟩
  · exact (y5 c (by omega)).1.trans (hk1 c)
  · exact (y5 c (by omega)).2.trans (hl1 c)
  · rw [f163 f c z2, y6 f c (by omega) (fun z => z1 ⟨z.1, by omega⟩), hf1]
    by_cases e0 : f = 0
    · subst e0
      rw [va_up_self, va_up_ne _ _ (fun z => z1 ⟨z, by omega⟩)]
    · rw [va_up_ne _ _ e0]
  · rw [f163 0 r (fun z => by omega), y6 0 r (by omega) (fun z => by omega), hf1, va_up_self, va_up_self]
  · rw [f163 1 r (fun z => by omega)]; exact y7
  · rw [f163 2 r (fun z => by omega)]; exact y8
  · rw [hf2, va_up_self, va_up_self]
  · show hp_ar h3 c = _
    rw [y9 c (by omega) z2, ha1, va_up_ne _ _ z1]
  · show hp_ar h3 q i = _
    rw [y9 q (by omega) hne, ha1, va_up_self, va_up_ne _ _ hi]
  · show hp_ar h3 q n = _
    rw [y9 q (by omega) hne, ha1, va_up_self, va_up_self]
  · show hp_ar h3 e1 i = _
    rw [y10 i hi, ha2]
  · rcases y12 with ⟨z1, z2⟩ | z
    · exact Or.inl ⟨z1, hi1.mp z2⟩
    · exact Or.inr (z.trans hn1)
theorem k_pig : ∀ (m : Nat) (L : List Nat), L.Nodup → (∀ x, x ∈ L → x < m) → L.length ≤ m
  | 0, L, _, h => by
    cases L with
    | nil => exact Nat.le_refl _
    | cons x r => exact absurd (h x List.mem_cons_self) (Nat.not_lt_zero _)
  | m + 1, L, hd, h => by
    by_cases hm : m ∈ L
    · have h1 := k_pig m (L.erase m) (hd.erase m) (fun x hx => by
        have h2 := h x (List.mem_of_mem_erase hx)
        have h3 : x ≠ m := ((List.Nodup.mem_erase_iff hd).mp hx).1
        omega)
      have h2 := List.length_erase_of_mem hm
      omega
    · have := k_pig m L hd (fun x hx => by
        have h2 := h x hx
        have h3 : x ≠ m := fun z => hm (z ▸ hx)
        omega)
      omega
/-- a row has at most as many as are made beside its keeper -/
theorem a_T.rw1 {a : aS} (T : a_T a) {p : Nat} (hp : p < a_mk a) : (a_rw a p).length + 1 ≤ a_mk a := by
  have hnp : p ∉ a_rw a p := fun z => by
    have := (T.rc hp z).2.2
    omega
  have := k_pig (a_mk a) (p :: a_rw a p) (List.nodup_cons.mpr ⟨hnp, T.nd hp⟩) (fun x hx => by
    rcases List.mem_cons.mp hx with rfl | hx
    · exact hp
    · exact (T.rc hp hx).1)
  exact this
def a_vK (p : Nat) (dp : Int) (kn sg r t : Int) (f : Nat) : Int := if f = 0 then 1 else if f = 1 then p else if f = 2 then dp + 1 else if f = 4 then kn else if f = 5 then sg else if f = 6 then r else if f = 7 then t else 0
def a_vW (p : Nat) (dp : Int) (kn pa st sp fa : Int) (f : Nat) : Int := if f = 1 then p else if f = 2 then dp + 1 else if f = 4 then kn else if f = 8 then pa else if f = 9 then st else if f = 10 then sp else if f = 11 then fa else 0
theorem a_add_T {a : aS} (T : a_T a) {p : Nat} (hp : p < a_mk a) (hpk : a_nd a 0 p = 1) (h80 : a_mk a < 80) (h8 : a_nd a 2 p < 8) {v : Nat → Int} (v0 : v 0 = 0 ∨ v 0 = 1) (v1 : v 1 = p) (v2 : v 2 = a_nd a 2 p + 1) (v3 : v 3 = 0) (v4 : 0 ≤ v 4 ∧ v 4 ≤ 2) (v5 : 0 ≤ v 5 ∧ v 5 ≤ 2) (v6 : 0 ≤ v 6 ∧ v 6 ≤ 50) (v7 : 0 ≤ v 7 ∧ v 7 ≤ 1000) (v8 : -1 ≤ v 8 ∧ v 8 ≤ 1000) (v9 : 0 ≤ v 9 ∧ v 9 ≤ 100) (v10 : 0 ≤ v 10 ∧ v 10 ≤ 100) (v11 : 0 ≤ v 11 ∧ v 11 ≤ 50) : a_T (a_add p v a) := by
  have hpn : p ≠ a_mk a := Nat.ne_of_lt hp
  have nn : ∀ f, a_nd (a_add p v a) f (a_mk a) = v f := fun f => if_pos rfl
  have nm : ∀ f m, m ≠ a_mk a → a_nd (a_add p v a) f m = a_nd a f m := fun f m hm => if_neg hm
  have rn : a_rw (a_add p v a) (a_mk a) = [] := by
    show va_up (va_up (a_rw a) (a_mk a) []) p _ (a_mk a) = []
    rw [va_up_ne _ _ (Ne.symm hpn), va_up_self]
  have rp : a_rw (a_add p v a) p = a_rw a p ++ [a_mk a] := va_up_self _ _ _
  have rm : ∀ m, m ≠ a_mk a → m ≠ p → a_rw (a_add p v a) m = a_rw a m := fun m h1 h2 => by
    show va_up (va_up (a_rw a) (a_mk a) []) p _ m = _
    rw [va_up_ne _ _ h2, va_up_ne _ _ h1]
  have lt : ∀ m, m < a_mk (a_add p v a) → m = a_mk a ∨ m < a_mk a := fun m hm => by
    have : m < a_mk a + 1 := hm
    omega
  have up : ∀ m, m < a_mk a → m < a_mk (a_add p v a) := fun m hm => Nat.lt_succ_of_lt hm
  have r2p := T.r2 hp
  have t1 := T.1.1
  refine ⟨⟨Nat.le_succ_of_le t1, h80⟩, fun m hm => ?_, fun m hm => ?_, fun m hm => ?_, fun m hm hw => ?_, fun m hm => ?_⟩
  · rcases lt m hm with rfl | hm
    · simp only [nn]
      exact ⟨v0, by omega, v4, v5, v6, v7, v8, v9, v10, fun _ => by omega⟩
    · have hmn : m ≠ a_mk a := Nat.ne_of_lt hm
      simp only [nm _ m hmn]
      exact T.2.1 m hm
  · rcases lt m hm with rfl | hm
    · rw [nn, v3]; omega
    · rw [nm 3 m (Nat.ne_of_lt hm)]; exact T.r3 hm
  · rcases lt m hm with rfl | hm
    · rw [nn]; exact v11
    · rw [nm 11 m (Nat.ne_of_lt hm)]; exact T.r11 hm
  · rcases lt m hm with rfl | hm
    · exact rn
    · have hmn : m ≠ a_mk a := Nat.ne_of_lt hm
      rw [nm 0 m hmn] at hw
      have hmp : m ≠ p := fun z => by rw [z] at hw; omega
      rw [rm m hmn hmp]
      exact T.2.2.2.2.1 m hm hw
  · rcases lt m hm with rfl | hm
    · rw [rn]
      exact ⟨Nat.zero_le _, List.nodup_nil, fun c hc => by cases hc⟩
    · have hmn : m ≠ a_mk a := Nat.ne_of_lt hm
      by_cases em : m = p
      · subst em
        rw [rp]
        have hl := T.rw1 hp
        refine ⟨by rw [List.length_append]; show _ + 1 ≤ 79; omega, ?_, fun c hc => ?_⟩
        · refine List.nodup_append.mpr ⟨T.nd hp, List.pairwise_singleton _ _, fun x hx y hy => ?_⟩
          rw [List.mem_singleton.mp hy]
          have := (T.rc hp hx).1
          omega
        · rcases List.mem_append.mp hc with hc | hc
          · obtain ⟨z1, z2, z3⟩ := T.rc hp hc
            have hcn : c ≠ a_mk a := Nat.ne_of_lt z1
            rw [nm 1 c hcn, nm 2 c hcn, nm 2 m hmn]
            exact ⟨up c z1, z2, z3⟩
          · rw [List.mem_singleton.mp hc, nn, nn, nm 2 m hmn]
            exact ⟨Nat.lt_succ_self _, v1, v2⟩
      · rw [rm m hmn em]
        obtain ⟨y1, y2, y3⟩ := T.2.2.2.2.2 m hm
        refine ⟨y1, y2, fun c hc => ?_⟩
        obtain ⟨z1, z2, z3⟩ := y3 c hc
        have hcn : c ≠ a_mk a := Nat.ne_of_lt z1
        rw [nm 1 c hcn, nm 2 c hcn, nm 2 m hmn]
        exact ⟨up c z1, z2, z3⟩
theorem a_add_A {a : aS} (A : a_A a) {p : Nat} {v : Nat → Int} : a_A (a_add p v a) := by
  intro m hm
  show (va_up (a_rt a) (a_mk a) [] m).Pairwise (· ≤ ·) ∧ ∀ x, x ∈ va_up (a_rt a) (a_mk a) [] m → x ≤ a_tm a
  by_cases e : m = a_mk a
  · rw [e, va_up_self]
    exact ⟨List.Pairwise.nil, fun x hx => by cases hx⟩
  · rw [va_up_ne _ _ e]
    exact A m (by have : m < a_mk a + 1 := hm; omega)
set_option maxRecDepth 20000 in
set_option maxHeartbeats 4000000 in
theorem KR.mkK {G : hpG} {pr : Nat → Prop} {B : hpT} {N S : Nat} {h : hpT} {κ : kS} {a : aS} (K : KR G pr B N S h κ a) (T : a_T a) (hd : hp_dE G < hp_n0 G) {p : Nat} (hp : p < a_mk a) (hpk : a_nd a 0 p = 1) (h80 : a_mk a < 80) {kn sg r t : Int32} {h3 : hpT} (A : hp_ad G (hp_put (hp_set (kc_Keep G (hp_mk h 2 10) (hp_nx h) (nI (a_mk a)) (some (κ.1 0 p)) (Int32.ofInt (a_nd a 2 p) + 1) kn sg r t) (κ.1 5 7) (a_mk a) (.ref (hp_nx h))) 0 (κ.1 1 p) (.int (κ.2.1 p + 1))) h3 (κ.1 1 p) (κ.1 2 p) (a_rw a p).length (hp_nx h)) :
    ∃ κ', KR G pr B (N + 5) (S + 160) (hp_put h3 163 (κ.1 5 0) (.int (nI (a_mk a + 1)))) κ' (a_add p (a_vK p (a_nd a 2 p) kn.toInt sg.toInt r.toInt t.toInt) a) ∧ (∀ m, m < a_mk a → κ'.1 0 m = κ.1 0 m) ∧ κ'.1 5 = κ.1 5 ∧ κ'.1 0 (a_mk a) = hp_nx h := by
  have hfg : hp_fg 0 h (kc_Keep G (hp_mk h 2 10) (hp_nx h) (nI (a_mk a)) (some (κ.1 0 p)) (Int32.ofInt (a_nd a 2 p) + 1) kn sg r t) := (hp_fg.rf.mk 2 10).keep G _ _ _ _ _ _ _ (Nat.le_refl _)
  have ha : hp_nx h < hp_nx (hp_mk h 2 10) := Nat.lt_succ_self _
  have F64 := kc_Keep_f64 (G := G) (n := nI (a_mk a)) (ow := some (κ.1 0 p)) (dp := Int32.ofInt (a_nd a 2 p) + 1) (kn := kn) (sg := sg) (r := r) (t := t) ha
  have F65 := kc_Keep_f65 (G := G) (n := nI (a_mk a)) (ow := some (κ.1 0 p)) (dp := Int32.ofInt (a_nd a 2 p) + 1) (kn := kn) (sg := sg) (r := r) (t := t) ha
  have F66 := kc_Keep_f66 (G := G) (n := nI (a_mk a)) (ow := some (κ.1 0 p)) (dp := Int32.ofInt (a_nd a 2 p) + 1) (kn := kn) (sg := sg) (r := r) (t := t) ha
  have F67 := kc_Keep_f67 (G := G) (n := nI (a_mk a)) (ow := some (κ.1 0 p)) (dp := Int32.ofInt (a_nd a 2 p) + 1) (kn := kn) (sg := sg) (r := r) (t := t) ha
  have F68 := kc_Keep_f68 (G := G) (n := nI (a_mk a)) (ow := some (κ.1 0 p)) (dp := Int32.ofInt (a_nd a 2 p) + 1) (kn := kn) (sg := sg) (r := r) (t := t) ha
  have F69 := kc_Keep_f69 (G := G) (n := nI (a_mk a)) (ow := some (κ.1 0 p)) (dp := Int32.ofInt (a_nd a 2 p) + 1) (kn := kn) (sg := sg) (r := r) (t := t) ha
  have F70 := kc_Keep_f70 (G := G) (n := nI (a_mk a)) (ow := some (κ.1 0 p)) (dp := Int32.ofInt (a_nd a 2 p) + 1) (kn := kn) (sg := sg) (r := r) (t := t) ha
  have F71 := kc_Keep_f71 (G := G) (n := nI (a_mk a)) (ow := some (κ.1 0 p)) (dp := Int32.ofInt (a_nd a 2 p) + 1) (kn := kn) (sg := sg) (r := r) (t := t) ha
  have F72 := kc_Keep_f72 (G := G) (n := nI (a_mk a)) (ow := some (κ.1 0 p)) (dp := Int32.ofInt (a_nd a 2 p) + 1) (kn := kn) (sg := sg) (r := r) (t := t) ha
  have F73 := kc_Keep_f73 (G := G) (n := nI (a_mk a)) (ow := some (κ.1 0 p)) (dp := Int32.ofInt (a_nd a 2 p) + 1) (kn := kn) (sg := sg) (r := r) (t := t) ha
  have F0 := kc_Keep_f0 (G := G) (n := nI (a_mk a)) (ow := some (κ.1 0 p)) (dp := Int32.ofInt (a_nd a 2 p) + 1) (kn := kn) (sg := sg) (r := r) (t := t) ha
  have F1 := kc_Keep_f1 (G := G) (n := nI (a_mk a)) (ow := some (κ.1 0 p)) (dp := Int32.ofInt (a_nd a 2 p) + 1) (kn := kn) (sg := sg) (r := r) (t := t) ha
  have F2 := kc_Keep_f2 (G := G) (n := nI (a_mk a)) (ow := some (κ.1 0 p)) (dp := Int32.ofInt (a_nd a 2 p) + 1) (kn := kn) (sg := sg) (r := r) (t := t) ha
  have F96 := kc_Keep_f96 (G := G) (n := nI (a_mk a)) (ow := some (κ.1 0 p)) (dp := Int32.ofInt (a_nd a 2 p) + 1) (kn := kn) (sg := sg) (r := r) (t := t) ha
  have F97 := kc_Keep_f97 (G := G) (n := nI (a_mk a)) (ow := some (κ.1 0 p)) (dp := Int32.ofInt (a_nd a 2 p) + 1) (kn := kn) (sg := sg) (r := r) (t := t) ha
  have Kd : ∀ b, hp_kd (kc_Keep G (hp_mk h 2 10) (hp_nx h) (nI (a_mk a)) (some (κ.1 0 p)) (Int32.ofInt (a_nd a 2 p) + 1) kn sg r t) b = va_up (va_up (va_up (va_up (hp_kd h) (hp_nx h) 2) (hp_nx h + 1) 0) (hp_nx h + 2) 3) (hp_nx h + 3) 10 b := fun _ => rfl
  have Kl : ∀ b, hp_ln (kc_Keep G (hp_mk h 2 10) (hp_nx h) (nI (a_mk a)) (some (κ.1 0 p)) (Int32.ofInt (a_nd a 2 p) + 1) kn sg r t) b = va_up (hp_ln h) (hp_nx h + 3) 8 b := fun _ => rfl
  have Kn : hp_nx (kc_Keep G (hp_mk h 2 10) (hp_nx h) (nI (a_mk a)) (some (κ.1 0 p)) (Int32.ofInt (a_nd a 2 p) + 1) kn sg r t) = hp_nx h + 4 := rfl
  have Ks : hp_sl (kc_Keep G (hp_mk h 2 10) (hp_nx h) (nI (a_mk a)) (some (κ.1 0 p)) (Int32.ofInt (a_nd a 2 p) + 1) kn sg r t) = hp_sl h + 23 := rfl
  have m1 : hp_nx (hp_mk h 2 10) = hp_nx h + 1 := rfl
  rw [m1] at F69 F70 F0 F1 F2 F96 F97
  generalize (kc_Keep G (hp_mk h 2 10) (hp_nx h) (nI (a_mk a)) (some (κ.1 0 p)) (Int32.ofInt (a_nd a 2 p) + 1) kn sg r t) = h2 at *
  have lL := (K.isL hp hpk).2.1
  have lT := K.isT.2.1
  have lM := K.isM.1.2.1
  have gT := K.isT.1
  have hkr : κ.1 5 0 ≠ κ.1 1 p := fun z => by
    have z1 := K.isT.2.2
    have z2 := (K.isL hp hpk).2.2
    rw [z, z2] at z1
    cases z1
  have old : ∀ b, b < hp_nx h → hp_kd h2 b = hp_kd h b ∧ hp_ln h2 b = hp_ln h b ∧ (∀ f, hp_fl h2 f b = hp_fl h f b) ∧ hp_ar h2 b = hp_ar h b := fun b hb => hfg.2 b (Nat.zero_le _) hb
  have he : (a_rw a p = [] ∧ κ.1 2 p = hp_dE G) ∨ (k_is G pr h (κ.1 2 p) 13 ∧ (a_rw a p).length ≤ hp_ln h (κ.1 2 p)) := K.isE hp hpk
  have hn0 : hp_n0 G ≤ hp_nx h := by omega
  have e13 : hp_is G h2 (κ.1 2 p) 13 → k_is G pr h (κ.1 2 p) 13 := fun z => by
    rcases he with e | e
    · have := z.1; rw [e.2] at this; omega
    · exact e.1
  obtain ⟨e1, ⟨j1, j2, j3, j4⟩, J2, J3, J4, J5, J6, J7, J8, J9, J10, J11, J12, J13⟩ := kj_H (k := κ.1 5 0) (by omega) (by omega) (by omega) hkr ((old _ lL).2.2.1 1 |>.trans (K.f1 hp hpk)) (fun z => by
    have z1 := K.isM.1.2.2
    have z2 := (e13 z.2).1.2.2
    rw [z.1, z2] at z1
    cases z1) A
  generalize hp_put h3 163 (κ.1 5 0) (.int (nI (a_mk a + 1))) = H at *
  have npr : ∀ b, hp_nx h ≤ b → ¬ pr b := fun b hb z => by
    have := (K.2.2.2.2.1 b z).1
    omega
  have nfl : ∀ f b, hp_nx h ≤ b → b < hp_nx h2 → hp_fl H f b = hp_fl h2 f b := fun f b h1 h2' => J3 f b h2' (fun z => by omega) (fun z => by omega)
  have nk : ∀ b, hp_nx h ≤ b → b < hp_nx h2 → ∀ c, hp_kd h2 b = c → k_is G pr H b c := fun b h1 h2' c hc => ⟨⟨by omega, by omega, (J2 b h2').1.trans hc⟩, npr b h1⟩
  refine ⟨k_nw κ (fun q => if q = 0 then hp_nx h else if q = 1 then hp_nx h + 1 else if q = 2 then hp_dE G else if q = 3 then hp_nx h + 2 else hp_nx h + 3) (a_mk a) p e1 (κ.2.1 p + 1), K.join T hd hp hpk T.1.1 (v := (a_vK p (a_nd a 2 p) kn.toInt sg.toInt r.toInt t.toInt)) (Or.inr rfl) (by omega) (fun b hb => ?_) (fun f b hb z1 z2 => ?_) J4 (fun b hb z1 z2 => ?_) (fun i hi => ?_) J7 ?_ ⟨⟨⟨?_, J12, J11⟩, ?_⟩, J13⟩ (fun i hi => ?_) J9 ?_ (fun hv1 => ?_) (fun f ok => ?_) (by have := K.2.2.2.2.2.1.1; omega) (by omega), fun m hm => ?_, ?_, ?_⟩
  · exact ⟨(J2 b (by omega)).1.trans (old b hb).1, (J2 b (by omega)).2.trans (old b hb).2.1⟩
  · exact (J3 f b (by omega) z1 z2).trans ((old b hb).2.2.1 f)
  · exact (J5 b (by omega) z1 z2).trans (old b hb).2.2.2
  · exact (J6 i hi).trans (congrFun (old _ lM).2.2.2 i)
  · rcases J10 with ⟨z1, z2⟩ | z
    · exact Or.inl ⟨z1, by rw [z1]; exact z2.1, by rw [z1]; exact e13 z2⟩
    · exact Or.inr (by omega)
  · rcases J10 with ⟨z1, z2⟩ | z
    · rw [z1]; exact z2.1
    · omega
  · rcases J10 with ⟨z1, z2⟩ | z
    · rw [z1]; exact (e13 z2).2
    · exact npr e1 (by omega)
  · rw [J8 i hi]
    have hE2 : κ.1 2 p ≠ κ.1 5 7 := fun z => by
      have z2 := (K.isE2 hp hpk hi).1.1.2.2
      have z1 := K.isM.1.2.2
      rw [z, z1] at z2
      cases z2
    have ea : hp_ar (hp_set h2 (κ.1 5 7) (a_mk a) (.ref (hp_nx h))) (κ.1 2 p) i = hp_ar h2 (κ.1 2 p) i := congrFun (va_up_ne _ _ hE2) i
    rw [ea, (old _ (K.isE2 hp hpk hi).1.1.2.1).2.2.2]
    exact K.elt hp hpk hi
  · refine ⟨Nat.le_refl _, nk _ (Nat.le_refl _) (by omega) 2 ?_⟩
    rw [Kd, va_up_ne _ _ (by omega), va_up_ne _ _ (by omega), va_up_ne _ _ (by omega), va_up_self]
  · refine ⟨⟨Nat.le_succ _, nk (hp_nx h + 1) (by omega) (by omega) 0 ?_⟩, rfl, ⟨Nat.le_add_right _ 2, nk (hp_nx h + 2) (by omega) (by omega) 3 ?_⟩, ⟨Nat.le_add_right _ 3, nk (hp_nx h + 3) (by omega) (by omega) 10 ?_⟩, ?_⟩
    · rw [Kd, va_up_ne _ _ (by omega), va_up_ne _ _ (by omega), va_up_self]
    · rw [Kd, va_up_ne _ _ (by omega), va_up_self]
    · rw [Kd, va_up_self]
    · have el : hp_ln H (hp_nx h + 3) = 8 := by rw [(J2 (hp_nx h + 3) (by omega)).2, Kl, va_up_self]
      show 2 ≤ hp_ln H (hp_nx h + 3) ∧ hp_ln H (hp_nx h + 3) ≤ 16777216
      omega
  · have nn : ∀ f, a_nd (a_add p (a_vK p (a_nd a 2 p) kn.toInt sg.toInt r.toInt t.toInt) a) f (a_mk a) = (a_vK p (a_nd a 2 p) kn.toInt sg.toInt r.toInt t.toInt) f := fun f => if_pos rfl
    have t1 := T.1.1
    have hpn : ¬ p = a_mk a := Nat.ne_of_lt hp
    rcases ok with ⟨z1, z2, z3⟩ | ⟨-, -, z3⟩ | ⟨z1, z2, z3⟩ | ⟨z1, z2, z3, z4⟩ | ⟨z1, z2, z3, z4⟩ | ⟨z1, z2, z3, z4⟩ | ⟨-, -, z3⟩
    · have q3 : f = 0 ∨ f = 1 ∨ f = 2 := by omega
      rcases q3 with rfl | rfl | rfl
      · have ka : k_at (k_nw κ (fun q => if q = 0 then hp_nx h else if q = 1 then hp_nx h + 1 else if q = 2 then hp_dE G else if q = 3 then hp_nx h + 2 else hp_nx h + 3) (a_mk a) p e1 (κ.2.1 p + 1)) 0 (a_mk a) = hp_nx h + 1 := by
          unfold k_at
          rw [if_pos (by omega)]
          exact if_pos ⟨by decide, rfl⟩
        rw [ka, nfl 0 _ (by omega) (by omega), F0]
        show _ = Value.int (va_up (va_up κ.2.1 (a_mk a) 0) p (κ.2.1 p + 1) (a_mk a))
        rw [va_up_ne _ _ (fun z => hpn z.symm), va_up_self]
      · have ka : k_at (k_nw κ (fun q => if q = 0 then hp_nx h else if q = 1 then hp_nx h + 1 else if q = 2 then hp_dE G else if q = 3 then hp_nx h + 2 else hp_nx h + 3) (a_mk a) p e1 (κ.2.1 p + 1)) 1 (a_mk a) = hp_nx h + 1 := by
          unfold k_at
          rw [if_pos (by omega)]
          exact if_pos ⟨by decide, rfl⟩
        rw [ka, nfl 1 _ (by omega) (by omega), F1]
        exact (congrArg Value.ref (if_pos ⟨by decide, rfl⟩)).symm
      · have ka : k_at (k_nw κ (fun q => if q = 0 then hp_nx h else if q = 1 then hp_nx h + 1 else if q = 2 then hp_dE G else if q = 3 then hp_nx h + 2 else hp_nx h + 3) (a_mk a) p e1 (κ.2.1 p + 1)) 2 (a_mk a) = hp_nx h + 1 := by
          unfold k_at
          rw [if_pos (by omega)]
          exact if_pos ⟨by decide, rfl⟩
        rw [ka, nfl 2 _ (by omega) (by omega), F2]
        show _ = Value.int (nI (va_up (va_up (a_rw a) (a_mk a) []) p (a_rw a p ++ [a_mk a]) (a_mk a)).length)
        rw [va_up_ne _ _ (fun z => hpn z.symm), va_up_self]
        rfl
    · omega
    · have ka : k_at (k_nw κ (fun q => if q = 0 then hp_nx h else if q = 1 then hp_nx h + 1 else if q = 2 then hp_dE G else if q = 3 then hp_nx h + 2 else hp_nx h + 3) (a_mk a) p e1 (κ.2.1 p + 1)) f (a_mk a) = hp_nx h := by
        unfold k_at
        rw [if_neg (by omega), if_neg (by omega), if_pos (by omega)]
        exact if_pos ⟨by decide, rfl⟩
      rw [ka, nfl f _ (by omega) (by omega)]
      have q5 : f = 64 ∨ f = 65 ∨ f = 66 ∨ f = 67 ∨ f = 68 := by omega
      rcases q5 with rfl | rfl | rfl | rfl | rfl
      · rw [F64]; rfl
      · rw [F65]
        show va_rf (some (κ.1 0 p)) = va_rf (if a_mk a = 0 then none else some ((k_nw κ (fun q => if q = 0 then hp_nx h else if q = 1 then hp_nx h + 1 else if q = 2 then hp_dE G else if q = 3 then hp_nx h + 2 else hp_nx h + 3) (a_mk a) p e1 (κ.2.1 p + 1)).1 0 (a_nd (a_add p (a_vK p (a_nd a 2 p) kn.toInt sg.toInt r.toInt t.toInt) a) 1 (a_mk a)).toNat))
        rw [if_neg (by omega), nn]
        have e1' : ((a_vK p (a_nd a 2 p) kn.toInt sg.toInt r.toInt t.toInt) 1).toNat = p := Int.toNat_natCast p
        rw [e1']
        have e2' : (k_nw κ (fun q => if q = 0 then hp_nx h else if q = 1 then hp_nx h + 1 else if q = 2 then hp_dE G else if q = 3 then hp_nx h + 2 else hp_nx h + 3) (a_mk a) p e1 (κ.2.1 p + 1)).1 0 p = κ.1 0 p := by
          show (if 0 ≤ 4 ∧ p = a_mk a then _ else if 0 = 2 ∧ p = p then e1 else κ.1 0 p) = _
          rw [if_neg (fun z => hpn z.2), if_neg (fun z => by omega)]
        rw [e2']
      · rw [F66]
        show _ = Value.int (Int32.ofInt (a_nd (a_add p (a_vK p (a_nd a 2 p) kn.toInt sg.toInt r.toInt t.toInt) a) 2 (a_mk a)))
        rw [nn]
        show Value.int (Int32.ofInt (a_nd a 2 p) + Int32.ofInt 1) = Value.int (Int32.ofInt (a_nd a 2 p + 1))
        rw [Int32.ofInt_add]
      · rw [F67]
        show _ = Value.int (Int32.ofInt (a_nd (a_add p (a_vK p (a_nd a 2 p) kn.toInt sg.toInt r.toInt t.toInt) a) 4 (a_mk a)))
        rw [nn]
        exact (congrArg Value.int (Int32.ofInt_toInt kn)).symm
      · rw [F68]
        show _ = Value.int (Int32.ofInt (a_nd (a_add p (a_vK p (a_nd a 2 p) kn.toInt sg.toInt r.toInt t.toInt) a) 3 (a_mk a)))
        rw [nn]
        rfl
    · have ka : k_at (k_nw κ (fun q => if q = 0 then hp_nx h else if q = 1 then hp_nx h + 1 else if q = 2 then hp_dE G else if q = 3 then hp_nx h + 2 else hp_nx h + 3) (a_mk a) p e1 (κ.2.1 p + 1)) f (a_mk a) = hp_nx h := by
        unfold k_at
        rw [if_neg (by omega), if_neg (by omega), if_pos (by omega)]
        exact if_pos ⟨by decide, rfl⟩
      rw [ka, nfl f _ (by omega) (by omega)]
      have q5 : f = 69 ∨ f = 70 ∨ f = 71 ∨ f = 72 ∨ f = 73 := by omega
      rcases q5 with rfl | rfl | rfl | rfl | rfl
      · rw [F69]
        exact (congrArg Value.ref (if_pos ⟨by decide, rfl⟩)).symm
      · rw [F70]
        exact (congrArg Value.ref (if_pos ⟨by decide, rfl⟩)).symm
      · rw [F71]
        show _ = Value.int (Int32.ofInt (a_nd (a_add p (a_vK p (a_nd a 2 p) kn.toInt sg.toInt r.toInt t.toInt) a) 5 (a_mk a)))
        rw [nn]
        exact (congrArg Value.int (Int32.ofInt_toInt sg)).symm
      · rw [F72]
        show _ = Value.int (Int32.ofInt (a_nd (a_add p (a_vK p (a_nd a 2 p) kn.toInt sg.toInt r.toInt t.toInt) a) 6 (a_mk a)))
        rw [nn]
        exact (congrArg Value.int (Int32.ofInt_toInt r)).symm
      · rw [F73]
        show _ = Value.int (Int32.ofInt (a_nd (a_add p (a_vK p (a_nd a 2 p) kn.toInt sg.toInt r.toInt t.toInt) a) 7 (a_mk a)))
        rw [nn]
        exact (congrArg Value.int (Int32.ofInt_toInt t)).symm
    · have ka : k_at (k_nw κ (fun q => if q = 0 then hp_nx h else if q = 1 then hp_nx h + 1 else if q = 2 then hp_dE G else if q = 3 then hp_nx h + 2 else hp_nx h + 3) (a_mk a) p e1 (κ.2.1 p + 1)) f (a_mk a) = hp_nx h + 2 := by
        unfold k_at
        rw [if_neg (by omega), if_neg (by omega), if_neg (by omega), if_pos (by omega)]
        exact if_pos ⟨by decide, rfl⟩
      rw [ka, nfl f _ (by omega) (by omega)]
      have q5 : f = 96 ∨ f = 97 := by omega
      rcases q5 with rfl | rfl
      · rw [F96]
        exact (congrArg Value.ref (if_pos ⟨by decide, rfl⟩)).symm
      · rw [F97]
        show _ = Value.int (nI (va_up κ.2.2 (a_mk a) [] (a_mk a)).length)
        rw [va_up_self]
        rfl
    · rw [nn] at z4; cases z4
    · omega
  · show (if 0 ≤ 4 ∧ m = a_mk a then _ else if 0 = 2 ∧ m = p then e1 else κ.1 0 m) = _
    rw [if_neg (fun z => by omega), if_neg (fun z => by omega)]
  · funext m
    show (if 5 ≤ 4 ∧ m = a_mk a then hp_nx h + 3 else if 5 = 2 ∧ m = p then e1 else κ.1 5 m) = _
    rw [if_neg (fun z => by omega), if_neg (fun z => by omega)]
  · exact if_pos ⟨by decide, rfl⟩
set_option maxRecDepth 20000 in
set_option maxHeartbeats 4000000 in
theorem KR.mkW {G : hpG} {pr : Nat → Prop} {B : hpT} {N S : Nat} {h : hpT} {κ : kS} {a : aS} (K : KR G pr B N S h κ a) (T : a_T a) (hd : hp_dE G < hp_n0 G) {p : Nat} (hp : p < a_mk a) (hpk : a_nd a 0 p = 1) (h80 : a_mk a < 80) {kn pa st sp fa : Int32} {h3 : hpT} (A : hp_ad G (hp_put (hp_set (kc_Work (hp_mk h 4 9) (hp_nx h) (nI (a_mk a)) (some (κ.1 0 p)) (Int32.ofInt (a_nd a 2 p) + 1) kn pa st sp fa) (κ.1 5 7) (a_mk a) (.ref (hp_nx h))) 0 (κ.1 1 p) (.int (κ.2.1 p + 1))) h3 (κ.1 1 p) (κ.1 2 p) (a_rw a p).length (hp_nx h)) :
    ∃ κ', KR G pr B (N + 5) (S + 160) (hp_put h3 163 (κ.1 5 0) (.int (nI (a_mk a + 1)))) κ' (a_add p (a_vW p (a_nd a 2 p) kn.toInt pa.toInt st.toInt sp.toInt fa.toInt) a) ∧ (∀ m, m < a_mk a → κ'.1 0 m = κ.1 0 m) ∧ κ'.1 5 = κ.1 5 ∧ κ'.1 0 (a_mk a) = hp_nx h := by
  have hfg : hp_fg 0 h (kc_Work (hp_mk h 4 9) (hp_nx h) (nI (a_mk a)) (some (κ.1 0 p)) (Int32.ofInt (a_nd a 2 p) + 1) kn pa st sp fa) := (hp_fg.rf.mk 4 9).work _ _ _ _ _ _ _ _ (Nat.le_refl _)
  have F64 := kc_Work_f64 (h := hp_mk h 4 9) (a := hp_nx h) (n := nI (a_mk a)) (ow := some (κ.1 0 p)) (dp := Int32.ofInt (a_nd a 2 p) + 1) (kn := kn) (p := pa) (b := st) (e := sp) (f := fa)
  have F65 := kc_Work_f65 (h := hp_mk h 4 9) (a := hp_nx h) (n := nI (a_mk a)) (ow := some (κ.1 0 p)) (dp := Int32.ofInt (a_nd a 2 p) + 1) (kn := kn) (p := pa) (b := st) (e := sp) (f := fa)
  have F66 := kc_Work_f66 (h := hp_mk h 4 9) (a := hp_nx h) (n := nI (a_mk a)) (ow := some (κ.1 0 p)) (dp := Int32.ofInt (a_nd a 2 p) + 1) (kn := kn) (p := pa) (b := st) (e := sp) (f := fa)
  have F67 := kc_Work_f67 (h := hp_mk h 4 9) (a := hp_nx h) (n := nI (a_mk a)) (ow := some (κ.1 0 p)) (dp := Int32.ofInt (a_nd a 2 p) + 1) (kn := kn) (p := pa) (b := st) (e := sp) (f := fa)
  have F68 := kc_Work_f68 (h := hp_mk h 4 9) (a := hp_nx h) (n := nI (a_mk a)) (ow := some (κ.1 0 p)) (dp := Int32.ofInt (a_nd a 2 p) + 1) (kn := kn) (p := pa) (b := st) (e := sp) (f := fa)
  have F133 := kc_Work_f133 (h := hp_mk h 4 9) (a := hp_nx h) (n := nI (a_mk a)) (ow := some (κ.1 0 p)) (dp := Int32.ofInt (a_nd a 2 p) + 1) (kn := kn) (p := pa) (b := st) (e := sp) (f := fa)
  have F134 := kc_Work_f134 (h := hp_mk h 4 9) (a := hp_nx h) (n := nI (a_mk a)) (ow := some (κ.1 0 p)) (dp := Int32.ofInt (a_nd a 2 p) + 1) (kn := kn) (p := pa) (b := st) (e := sp) (f := fa)
  have F135 := kc_Work_f135 (h := hp_mk h 4 9) (a := hp_nx h) (n := nI (a_mk a)) (ow := some (κ.1 0 p)) (dp := Int32.ofInt (a_nd a 2 p) + 1) (kn := kn) (p := pa) (b := st) (e := sp) (f := fa)
  have F136 := kc_Work_f136 (h := hp_mk h 4 9) (a := hp_nx h) (n := nI (a_mk a)) (ow := some (κ.1 0 p)) (dp := Int32.ofInt (a_nd a 2 p) + 1) (kn := kn) (p := pa) (b := st) (e := sp) (f := fa)
  have Kd : ∀ b, hp_kd (kc_Work (hp_mk h 4 9) (hp_nx h) (nI (a_mk a)) (some (κ.1 0 p)) (Int32.ofInt (a_nd a 2 p) + 1) kn pa st sp fa) b = va_up (hp_kd h) (hp_nx h) 4 b := fun _ => rfl
  have Kl : ∀ b, hp_ln (kc_Work (hp_mk h 4 9) (hp_nx h) (nI (a_mk a)) (some (κ.1 0 p)) (Int32.ofInt (a_nd a 2 p) + 1) kn pa st sp fa) b = hp_ln h b := fun _ => rfl
  have Kn : hp_nx (kc_Work (hp_mk h 4 9) (hp_nx h) (nI (a_mk a)) (some (κ.1 0 p)) (Int32.ofInt (a_nd a 2 p) + 1) kn pa st sp fa) = hp_nx h + 1 := rfl
  have Ks : hp_sl (kc_Work (hp_mk h 4 9) (hp_nx h) (nI (a_mk a)) (some (κ.1 0 p)) (Int32.ofInt (a_nd a 2 p) + 1) kn pa st sp fa) = hp_sl h + 9 := rfl
  generalize (kc_Work (hp_mk h 4 9) (hp_nx h) (nI (a_mk a)) (some (κ.1 0 p)) (Int32.ofInt (a_nd a 2 p) + 1) kn pa st sp fa) = h2 at *
  have lL := (K.isL hp hpk).2.1
  have lT := K.isT.2.1
  have lM := K.isM.1.2.1
  have gT := K.isT.1
  have hkr : κ.1 5 0 ≠ κ.1 1 p := fun z => by
    have z1 := K.isT.2.2
    have z2 := (K.isL hp hpk).2.2
    rw [z, z2] at z1
    cases z1
  have old : ∀ b, b < hp_nx h → hp_kd h2 b = hp_kd h b ∧ hp_ln h2 b = hp_ln h b ∧ (∀ f, hp_fl h2 f b = hp_fl h f b) ∧ hp_ar h2 b = hp_ar h b := fun b hb => hfg.2 b (Nat.zero_le _) hb
  have he : (a_rw a p = [] ∧ κ.1 2 p = hp_dE G) ∨ (k_is G pr h (κ.1 2 p) 13 ∧ (a_rw a p).length ≤ hp_ln h (κ.1 2 p)) := K.isE hp hpk
  have hn0 : hp_n0 G ≤ hp_nx h := by omega
  have e13 : hp_is G h2 (κ.1 2 p) 13 → k_is G pr h (κ.1 2 p) 13 := fun z => by
    rcases he with e | e
    · have := z.1; rw [e.2] at this; omega
    · exact e.1
  obtain ⟨e1, ⟨j1, j2, j3, j4⟩, J2, J3, J4, J5, J6, J7, J8, J9, J10, J11, J12, J13⟩ := kj_H (k := κ.1 5 0) (by omega) (by omega) (by omega) hkr ((old _ lL).2.2.1 1 |>.trans (K.f1 hp hpk)) (fun z => by
    have z1 := K.isM.1.2.2
    have z2 := (e13 z.2).1.2.2
    rw [z.1, z2] at z1
    cases z1) A
  generalize hp_put h3 163 (κ.1 5 0) (.int (nI (a_mk a + 1))) = H at *
  have npr : ∀ b, hp_nx h ≤ b → ¬ pr b := fun b hb z => by
    have := (K.2.2.2.2.1 b z).1
    omega
  have nfl : ∀ f b, hp_nx h ≤ b → b < hp_nx h2 → hp_fl H f b = hp_fl h2 f b := fun f b h1 h2' => J3 f b h2' (fun z => by omega) (fun z => by omega)
  have nk : ∀ b, hp_nx h ≤ b → b < hp_nx h2 → ∀ c, hp_kd h2 b = c → k_is G pr H b c := fun b h1 h2' c hc => ⟨⟨by omega, by omega, (J2 b h2').1.trans hc⟩, npr b h1⟩
  refine ⟨k_nw κ (fun q => if q = 0 then hp_nx h else if q = 1 then hp_nx h + 1 else if q = 2 then hp_dE G else if q = 3 then hp_nx h + 2 else hp_nx h + 3) (a_mk a) p e1 (κ.2.1 p + 1), K.join T hd hp hpk T.1.1 (v := (a_vW p (a_nd a 2 p) kn.toInt pa.toInt st.toInt sp.toInt fa.toInt)) (Or.inl rfl) (by omega) (fun b hb => ?_) (fun f b hb z1 z2 => ?_) J4 (fun b hb z1 z2 => ?_) (fun i hi => ?_) J7 ?_ ⟨⟨⟨?_, J12, J11⟩, ?_⟩, J13⟩ (fun i hi => ?_) J9 ?_ (fun hv1 => ?_) (fun f ok => ?_) (by have := K.2.2.2.2.2.1.1; omega) (by omega), fun m hm => ?_, ?_, ?_⟩
  · exact ⟨(J2 b (by omega)).1.trans (old b hb).1, (J2 b (by omega)).2.trans (old b hb).2.1⟩
  · exact (J3 f b (by omega) z1 z2).trans ((old b hb).2.2.1 f)
  · exact (J5 b (by omega) z1 z2).trans (old b hb).2.2.2
  · exact (J6 i hi).trans (congrFun (old _ lM).2.2.2 i)
  · rcases J10 with ⟨z1, z2⟩ | z
    · exact Or.inl ⟨z1, by rw [z1]; exact z2.1, by rw [z1]; exact e13 z2⟩
    · exact Or.inr (by omega)
  · rcases J10 with ⟨z1, z2⟩ | z
    · rw [z1]; exact z2.1
    · omega
  · rcases J10 with ⟨z1, z2⟩ | z
    · rw [z1]; exact (e13 z2).2
    · exact npr e1 (by omega)
  · rw [J8 i hi]
    have hE2 : κ.1 2 p ≠ κ.1 5 7 := fun z => by
      have z2 := (K.isE2 hp hpk hi).1.1.2.2
      have z1 := K.isM.1.2.2
      rw [z, z1] at z2
      cases z2
    have ea : hp_ar (hp_set h2 (κ.1 5 7) (a_mk a) (.ref (hp_nx h))) (κ.1 2 p) i = hp_ar h2 (κ.1 2 p) i := congrFun (va_up_ne _ _ hE2) i
    rw [ea, (old _ (K.isE2 hp hpk hi).1.1.2.1).2.2.2]
    exact K.elt hp hpk hi
  · refine ⟨Nat.le_refl _, nk _ (Nat.le_refl _) (by omega) 4 ?_⟩
    rw [Kd, va_up_self]
  · cases hv1
  · have nn : ∀ f, a_nd (a_add p (a_vW p (a_nd a 2 p) kn.toInt pa.toInt st.toInt sp.toInt fa.toInt) a) f (a_mk a) = (a_vW p (a_nd a 2 p) kn.toInt pa.toInt st.toInt sp.toInt fa.toInt) f := fun f => if_pos rfl
    have t1 := T.1.1
    have hpn : ¬ p = a_mk a := Nat.ne_of_lt hp
    rcases ok with ⟨z1, z2, z3⟩ | ⟨-, -, z3⟩ | ⟨z1, z2, z3⟩ | ⟨z1, z2, z3, z4⟩ | ⟨z1, z2, z3, z4⟩ | ⟨z1, z2, z3, z4⟩ | ⟨-, -, z3⟩
    · rw [nn] at z3; cases z3
    · omega
    · have ka : k_at (k_nw κ (fun q => if q = 0 then hp_nx h else if q = 1 then hp_nx h + 1 else if q = 2 then hp_dE G else if q = 3 then hp_nx h + 2 else hp_nx h + 3) (a_mk a) p e1 (κ.2.1 p + 1)) f (a_mk a) = hp_nx h := by
        unfold k_at
        rw [if_neg (by omega), if_neg (by omega), if_pos (by omega)]
        exact if_pos ⟨by decide, rfl⟩
      rw [ka, nfl f _ (by omega) (by omega)]
      have q5 : f = 64 ∨ f = 65 ∨ f = 66 ∨ f = 67 ∨ f = 68 := by omega
      rcases q5 with rfl | rfl | rfl | rfl | rfl
      · rw [F64]; rfl
      · rw [F65]
        show va_rf (some (κ.1 0 p)) = va_rf (if a_mk a = 0 then none else some ((k_nw κ (fun q => if q = 0 then hp_nx h else if q = 1 then hp_nx h + 1 else if q = 2 then hp_dE G else if q = 3 then hp_nx h + 2 else hp_nx h + 3) (a_mk a) p e1 (κ.2.1 p + 1)).1 0 (a_nd (a_add p (a_vW p (a_nd a 2 p) kn.toInt pa.toInt st.toInt sp.toInt fa.toInt) a) 1 (a_mk a)).toNat))
        rw [if_neg (by omega), nn]
        have e1' : ((a_vW p (a_nd a 2 p) kn.toInt pa.toInt st.toInt sp.toInt fa.toInt) 1).toNat = p := Int.toNat_natCast p
        rw [e1']
        have e2' : (k_nw κ (fun q => if q = 0 then hp_nx h else if q = 1 then hp_nx h + 1 else if q = 2 then hp_dE G else if q = 3 then hp_nx h + 2 else hp_nx h + 3) (a_mk a) p e1 (κ.2.1 p + 1)).1 0 p = κ.1 0 p := by
          show (if 0 ≤ 4 ∧ p = a_mk a then _ else if 0 = 2 ∧ p = p then e1 else κ.1 0 p) = _
          rw [if_neg (fun z => hpn z.2), if_neg (fun z => by omega)]
        rw [e2']
      · rw [F66]
        show _ = Value.int (Int32.ofInt (a_nd (a_add p (a_vW p (a_nd a 2 p) kn.toInt pa.toInt st.toInt sp.toInt fa.toInt) a) 2 (a_mk a)))
        rw [nn]
        show Value.int (Int32.ofInt (a_nd a 2 p) + Int32.ofInt 1) = Value.int (Int32.ofInt (a_nd a 2 p + 1))
        rw [Int32.ofInt_add]
      · rw [F67]
        show _ = Value.int (Int32.ofInt (a_nd (a_add p (a_vW p (a_nd a 2 p) kn.toInt pa.toInt st.toInt sp.toInt fa.toInt) a) 4 (a_mk a)))
        rw [nn]
        exact (congrArg Value.int (Int32.ofInt_toInt kn)).symm
      · rw [F68]
        show _ = Value.int (Int32.ofInt (a_nd (a_add p (a_vW p (a_nd a 2 p) kn.toInt pa.toInt st.toInt sp.toInt fa.toInt) a) 3 (a_mk a)))
        rw [nn]
        rfl
    · rw [nn] at z4; cases z4
    · rw [nn] at z4; cases z4
    · have ka : k_at (k_nw κ (fun q => if q = 0 then hp_nx h else if q = 1 then hp_nx h + 1 else if q = 2 then hp_dE G else if q = 3 then hp_nx h + 2 else hp_nx h + 3) (a_mk a) p e1 (κ.2.1 p + 1)) f (a_mk a) = hp_nx h := by
        unfold k_at
        rw [if_neg (by omega), if_neg (by omega), if_neg (by omega), if_neg (by omega), if_pos (by omega)]
        exact if_pos ⟨by decide, rfl⟩
      rw [ka, nfl f _ (by omega) (by omega)]
      have q5 : f = 133 ∨ f = 134 ∨ f = 135 ∨ f = 136 := by omega
      rcases q5 with rfl | rfl | rfl | rfl
      · rw [F133]
        show _ = Value.int (Int32.ofInt (a_nd (a_add p (a_vW p (a_nd a 2 p) kn.toInt pa.toInt st.toInt sp.toInt fa.toInt) a) 8 (a_mk a)))
        rw [nn]
        exact (congrArg Value.int (Int32.ofInt_toInt pa)).symm
      · rw [F134]
        show _ = Value.int (Int32.ofInt (a_nd (a_add p (a_vW p (a_nd a 2 p) kn.toInt pa.toInt st.toInt sp.toInt fa.toInt) a) 9 (a_mk a)))
        rw [nn]
        exact (congrArg Value.int (Int32.ofInt_toInt st)).symm
      · rw [F135]
        show _ = Value.int (Int32.ofInt (a_nd (a_add p (a_vW p (a_nd a 2 p) kn.toInt pa.toInt st.toInt sp.toInt fa.toInt) a) 10 (a_mk a)))
        rw [nn]
        exact (congrArg Value.int (Int32.ofInt_toInt sp)).symm
      · rw [F136]
        show _ = Value.int (Int32.ofInt (a_nd (a_add p (a_vW p (a_nd a 2 p) kn.toInt pa.toInt st.toInt sp.toInt fa.toInt) a) 11 (a_mk a)))
        rw [nn]
        exact (congrArg Value.int (Int32.ofInt_toInt fa)).symm
    · omega
  · show (if 0 ≤ 4 ∧ m = a_mk a then _ else if 0 = 2 ∧ m = p then e1 else κ.1 0 m) = _
    rw [if_neg (fun z => by omega), if_neg (fun z => by omega)]
  · funext m
    show (if 5 ≤ 4 ∧ m = a_mk a then hp_nx h + 3 else if 5 = 2 ∧ m = p then e1 else κ.1 5 m) = _
    rw [if_neg (fun z => by omega), if_neg (fun z => by omega)]
  · exact if_pos ⟨by decide, rfl⟩
/-! ===== keeper and worker ===== -/
set_option maxRecDepth 20000 in
set_option maxHeartbeats 4000000 in
theorem kp_keeperX {l : Launch} {G : hpG} {pr : Nat → Prop} {B : hpT} {N S : Nat} {h : hpT} {κ : kS} {a : aS} {d : Nat} (K : KR G pr B N S h κ a) {x kn sg r t : Int32} (T : a_T a) (hbad : ∀ n, n < a_mk a → x = nI n → a_nd a 0 n = 1 → a_nd a 3 n = 2) (hd : 11 ≤ d) (hR1 : hp_nx h + 1 ≤ hp_n0 G + hp_LC) (hR2 : hp_sl h + 6 ≤ hp_LS) : hp_C l G yX5_keeper (.code yX5_keeper cX5_keeper 8 (some .int)) d [.ref (κ.1 5 0), .int x, .int kn, .int sg, .int r, .int t] (h) (fun _ _ => False) (fun E h' => E = "java/lang/IllegalArgumentException" ∧ h' = hp_mkX h) := by
  refine hp_ofV (by decide) (by simp [Value.category]) (Nat.le_of_ble_eq_true rfl) (fun M C hr hx el => ?_)
  refine hp_aload_nR C dX5_keeper_0 rfl ?_
  refine hp_iload_n C dX5_keeper_1 rfl ?_
  exact hp_callV (ci := 5) C ml_X5_61 im_X5_keeperAt se_X5_keeperAt rfl (by decide) (kw_keeperX (d := d - 1) K T hbad (by omega) hR1 hR2) (by omega) dX5_keeper_2 K.isT rfl rfl (by simp [Value.category]) (fun _ _ hf => hf.elim) (fun E_1 h_1 hq => hp_out C hx hq)
set_option maxRecDepth 20000 in
set_option maxHeartbeats 4000000 in
theorem kp_keeperY {l : Launch} {G : hpG} {pr : Nat → Prop} {B : hpT} {N S : Nat} {h : hpT} {κ : kS} {a : aS} {d : Nat} (K : KR G pr B N S h κ a) {p : Nat} (T : a_T a) (hp : p < a_mk a) (h3 : ¬ a_nd a 3 p = 2) (hpk : a_nd a 0 p = 1) {kn sg r t : Int32} (hz : ¬ ((0 ≤ kn.toInt ∧ kn.toInt ≤ 2) ∧ (0 ≤ sg.toInt ∧ sg.toInt ≤ 2) ∧ (0 ≤ r.toInt ∧ r.toInt ≤ 50) ∧ (1 ≤ t.toInt ∧ t.toInt ≤ 1000))) (hd : 11 ≤ d) (hR1 : hp_nx h + 1 ≤ hp_n0 G + hp_LC) (hR2 : hp_sl h + 6 ≤ hp_LS) : hp_C l G yX5_keeper (.code yX5_keeper cX5_keeper 8 (some .int)) d [.ref (κ.1 5 0), .int (nI p), .int kn, .int sg, .int r, .int t] (h) (fun _ _ => False) (fun E h' => E = "java/lang/IllegalArgumentException" ∧ h' = hp_mkX h) := by
  have q0 : (0 : Int32).toInt = 0 := by decide
  have qm : (-1 : Int32).toInt = -1 := by decide
  have q2 : (2 : Int32).toInt = 2 := by decide
  have q50 : (50 : Int32).toInt = 50 := by decide
  have q100 : (100 : Int32).toInt = 100 := by decide
  have q1000 : (1000 : Int32).toInt = 1000 := by decide
  refine hp_ofV (by decide) (by simp [Value.category]) (Nat.le_of_ble_eq_true rfl) (fun M C hr hx el => ?_)
  by_cases hb : (0 ≤ sg.toInt ∧ sg.toInt ≤ 2) ∧ (0 ≤ r.toInt ∧ r.toInt ≤ 50) ∧ (1 ≤ t.toInt ∧ t.toInt ≤ 1000)
  · refine hp_aload_nR C dX5_keeper_0 rfl ?_
    refine hp_iload_n C dX5_keeper_1 rfl ?_
    refine hp_callV (ci := 5) C ml_X5_61 im_X5_keeperAt se_X5_keeperAt rfl (by decide) (kw_keeper (d := d - 1) K T hp h3 hpk (by omega)) (by omega) dX5_keeper_2 K.isT rfl rfl (by simp [Value.category]) (fun v_2 h_2 hp => ?_) (fun _ _ hf => hf.elim)
    obtain ⟨rfl, e_2⟩ := hp
    rw [e_2]
    refine hp_astore (r := some _) C dX5_keeper_5 (by decide) ?_
    refine hp_iload_n C dX5_keeper_7 rfl ?_
    refine hp_iconst (v := 0) C dX5_keeper_8 (by decide) ?_
    refine hp_iconst (v := 2) C dX5_keeper_9 (by decide) ?_
    exact hp_callS C ml_X5_65 sm_X5_wantWithin (kw_out (d := d - 1) (by rw [q0, q2]; exact fun z => hz ⟨z, hb⟩) (by omega) hR1 hR2) (by omega) dX5_keeper_10 rfl rfl (by simp [Value.category]) (fun _ _ hf => hf.elim) (fun E_1 h_1 hq => hp_out C hx hq)
  · by_cases hk : (0 ≤ kn.toInt ∧ kn.toInt ≤ 2)
    · refine hp_aload_nR C dX5_keeper_0 rfl ?_
      refine hp_iload_n C dX5_keeper_1 rfl ?_
      refine hp_callV (ci := 5) C ml_X5_61 im_X5_keeperAt se_X5_keeperAt rfl (by decide) (kw_keeper (d := d - 1) K T hp h3 hpk (by omega)) (by omega) dX5_keeper_2 K.isT rfl rfl (by simp [Value.category]) (fun v_2 h_2 hp => ?_) (fun _ _ hf => hf.elim)
      obtain ⟨rfl, e_2⟩ := hp
      rw [e_2]
      refine hp_astore (r := some _) C dX5_keeper_5 (by decide) ?_
      refine hp_iload_n C dX5_keeper_7 rfl ?_
      refine hp_iconst (v := 0) C dX5_keeper_8 (by decide) ?_
      refine hp_iconst (v := 2) C dX5_keeper_9 (by decide) ?_
      refine hp_callS C ml_X5_65 sm_X5_wantWithin (kw_in (d := d - 1) (by omega) (by omega)) (by omega) dX5_keeper_10 rfl rfl (by simp [Value.category]) (fun v_10 h_10 hp => ?_) (fun _ _ hf => hf.elim)
      obtain ⟨rfl, e_10⟩ := hp
      rw [e_10]
      refine hp_iload_n C dX5_keeper_13 rfl ?_
      refine hp_iload C dX5_keeper_14 rfl ?_
      refine hp_iload C dX5_keeper_16 rfl ?_
      exact hp_callS C ml_X5_41 sm_X5_wantBounds (kw_bn (d := d - 1) hb (by omega) hR1 hR2) (by omega) dX5_keeper_18 rfl rfl (by simp [Value.category]) (fun _ _ hf => hf.elim) (fun E_1 h_1 hq => hp_out C hx hq)
    · refine hp_aload_nR C dX5_keeper_0 rfl ?_
      refine hp_iload_n C dX5_keeper_1 rfl ?_
      refine hp_callV (ci := 5) C ml_X5_61 im_X5_keeperAt se_X5_keeperAt rfl (by decide) (kw_keeper (d := d - 1) K T hp h3 hpk (by omega)) (by omega) dX5_keeper_2 K.isT rfl rfl (by simp [Value.category]) (fun v_2 h_2 hp => ?_) (fun _ _ hf => hf.elim)
      obtain ⟨rfl, e_2⟩ := hp
      rw [e_2]
      refine hp_astore (r := some _) C dX5_keeper_5 (by decide) ?_
      refine hp_iload_n C dX5_keeper_7 rfl ?_
      refine hp_iconst (v := 0) C dX5_keeper_8 (by decide) ?_
      refine hp_iconst (v := 2) C dX5_keeper_9 (by decide) ?_
      exact hp_callS C ml_X5_65 sm_X5_wantWithin (kw_out (d := d - 1) (by rw [q0, q2]; exact hk) (by omega) hR1 hR2) (by omega) dX5_keeper_10 rfl rfl (by simp [Value.category]) (fun _ _ hf => hf.elim) (fun E_1 h_1 hq => hp_out C hx hq)
set_option maxRecDepth 20000 in
set_option maxHeartbeats 4000000 in
theorem kp_keeperS {l : Launch} {G : hpG} {pr : Nat → Prop} {B : hpT} {N S : Nat} {h : hpT} {κ : kS} {a : aS} {d : Nat} (K : KR G pr B N S h κ a) {p : Nat} (T : a_T a) (hp : p < a_mk a) (h3 : ¬ a_nd a 3 p = 2) (hpk : a_nd a 0 p = 1) {kn sg r t : Int32} (hk : (0 ≤ kn.toInt ∧ kn.toInt ≤ 2)) (hb : (0 ≤ sg.toInt ∧ sg.toInt ≤ 2) ∧ (0 ≤ r.toInt ∧ r.toInt ≤ 50) ∧ (1 ≤ t.toInt ∧ t.toInt ≤ 1000)) (hro : ¬ (a_mk a < 80 ∧ a_nd a 2 p < 8)) (hd : 11 ≤ d) (hR1 : hp_nx h + 1 ≤ hp_n0 G + hp_LC) (hR2 : hp_sl h + 6 ≤ hp_LS) : hp_C l G yX5_keeper (.code yX5_keeper cX5_keeper 8 (some .int)) d [.ref (κ.1 5 0), .int (nI p), .int kn, .int sg, .int r, .int t] (h) (fun _ _ => False) (fun E h' => E = "java/lang/IllegalStateException" ∧ h' = hp_mkX h) := by
  have q0 : (0 : Int32).toInt = 0 := by decide
  have qm : (-1 : Int32).toInt = -1 := by decide
  have q2 : (2 : Int32).toInt = 2 := by decide
  have q50 : (50 : Int32).toInt = 50 := by decide
  have q100 : (100 : Int32).toInt = 100 := by decide
  have q1000 : (1000 : Int32).toInt = 1000 := by decide
  refine hp_ofV (by decide) (by simp [Value.category]) (Nat.le_of_ble_eq_true rfl) (fun M C hr hx el => ?_)
  refine hp_aload_nR C dX5_keeper_0 rfl ?_
  refine hp_iload_n C dX5_keeper_1 rfl ?_
  refine hp_callV (ci := 5) C ml_X5_61 im_X5_keeperAt se_X5_keeperAt rfl (by decide) (kw_keeper (d := d - 1) K T hp h3 hpk (by omega)) (by omega) dX5_keeper_2 K.isT rfl rfl (by simp [Value.category]) (fun v_2 h_2 hp => ?_) (fun _ _ hf => hf.elim)
  obtain ⟨rfl, e_2⟩ := hp
  rw [e_2]
  refine hp_astore (r := some _) C dX5_keeper_5 (by decide) ?_
  refine hp_iload_n C dX5_keeper_7 rfl ?_
  refine hp_iconst (v := 0) C dX5_keeper_8 (by decide) ?_
  refine hp_iconst (v := 2) C dX5_keeper_9 (by decide) ?_
  refine hp_callS C ml_X5_65 sm_X5_wantWithin (kw_in (d := d - 1) (by omega) (by omega)) (by omega) dX5_keeper_10 rfl rfl (by simp [Value.category]) (fun v_10 h_10 hp => ?_) (fun _ _ hf => hf.elim)
  obtain ⟨rfl, e_10⟩ := hp
  rw [e_10]
  refine hp_iload_n C dX5_keeper_13 rfl ?_
  refine hp_iload C dX5_keeper_14 rfl ?_
  refine hp_iload C dX5_keeper_16 rfl ?_
  refine hp_callS C ml_X5_41 sm_X5_wantBounds (kw_bd (d := d - 1) hb.1 hb.2.1 hb.2.2 (by omega)) (by omega) dX5_keeper_18 rfl rfl (by simp [Value.category]) (fun v_18 h_18 hp => ?_) (fun _ _ hf => hf.elim)
  obtain ⟨rfl, e_18⟩ := hp
  rw [e_18]
  refine hp_aload_nR C dX5_keeper_21 rfl ?_
  refine hp_aloadR C dX5_keeper_22 rfl ?_
  refine hp_callV (ci := 5) C ml_X5_68 im_X5_hasRoomBelow se_X5_hasRoomBelow rfl (by decide) (kw_room (d := d - 1) K T hp hpk) (by omega) dX5_keeper_24 K.isT rfl rfl (by simp [Value.category]) (fun v_24 h_24 hp_ => ?_) (fun _ _ hf => hf.elim)
  rw [if_neg hro] at hp_
  obtain ⟨rfl, e_24⟩ := hp_
  rw [e_24]
  exact hp_callS C ml_X5_48 sm_X5_wantState (kw_sn (d := d - 1) (by omega) hR1 hR2) (by omega) dX5_keeper_27 rfl rfl (by simp [Value.category]) (fun _ _ hf => hf.elim) (fun E_1 h_1 hq => hp_out C hx hq)
/-- keeper: the state behind it -/
def a_kpr (p : Nat) (v : Nat → Int) (a : aS) : aS := if a_nd a 3 p = 1 then (a_go (a_fu (a_add p v a) (a_mk a)) (a_mk a) (a_add p v a)).2 else a_add p v a
/-- worker: the answer, and the state behind it -/
def a_wkr (p : Nat) (v : Nat → Int) (a : aS) : Int32 × aS := if a_nd a 3 p = 1 then (if (a_go (a_fu (a_add p v a) (a_mk a)) (a_mk a) (a_add p v a)).1 = true then (nI (a_mk a), (a_go (a_fu (a_add p v a) (a_mk a)) (a_mk a) (a_add p v a)).2) else (-1, (a_dis (a_fu (a_add p v a) (a_mk a)) p (a_mk a) (a_ix (a_mk a) (a_rw (a_go (a_fu (a_add p v a) (a_mk a)) (a_mk a) (a_add p v a)).2 p)) (a_go (a_fu (a_add p v a) (a_mk a)) (a_mk a) (a_add p v a)).2).2)) else (nI (a_mk a), a_add p v a)
set_option maxRecDepth 20000 in
set_option maxHeartbeats 4000000 in
theorem kp_keeper {l : Launch} {G : hpG} {pr : Nat → Prop} {B : hpT} {N S : Nat} {h : hpT} {κ : kS} {a : aS} {d : Nat} (K : KR G pr B N S h κ a) {p : Nat} (T : a_T a) (hp : p < a_mk a) (h3 : ¬ a_nd a 3 p = 2) (hpk : a_nd a 0 p = 1) {kn sg r t : Int32} (hk : (0 ≤ kn.toInt ∧ kn.toInt ≤ 2)) (hb : (0 ≤ sg.toInt ∧ sg.toInt ≤ 2) ∧ (0 ≤ r.toInt ∧ r.toInt ≤ 50) ∧ (1 ≤ t.toInt ∧ t.toInt ≤ 1000)) (hro : a_mk a < 80 ∧ a_nd a 2 p < 8) (hR1 : hp_nx h + 50 ≤ hp_n0 G + hp_LC) (hR2 : hp_sl h + 9000 ≤ hp_LS) (hl : (a_ev (a_kpr p (a_vK p (a_nd a 2 p) kn.toInt sg.toInt r.toInt t.toInt) a)).length < 2 ^ 30) (hd : 45 ≤ d) : hp_C l G yX5_keeper (.code yX5_keeper cX5_keeper 8 (some .int)) d [.ref (κ.1 5 0), .int (nI p), .int kn, .int sg, .int r, .int t] (h) (fun v h' => v = some (.int (nI (a_mk a))) ∧ ∃ κ', KR G pr B (N + 5) (S + 160) h' κ' (a_kpr p (a_vK p (a_nd a 2 p) kn.toInt sg.toInt r.toInt t.toInt) a) ∧ κ'.1 5 = κ.1 5) (fun _ _ => False) := by
  have q0 : (0 : Int32).toInt = 0 := by decide
  have qm : (-1 : Int32).toInt = -1 := by decide
  have q2 : (2 : Int32).toInt = 2 := by decide
  have q50 : (50 : Int32).toInt = 50 := by decide
  have q100 : (100 : Int32).toInt = 100 := by decide
  have q1000 : (1000 : Int32).toInt = 1000 := by decide
  have h80 := hro.1
  have h8 := hro.2
  have hn0 : hp_n0 G ≤ hp_nx h := by have := K.isT.1; have := K.isT.2.1; omega
  unfold a_kpr at hl ⊢
  refine hp_ofV (by decide) (by simp [Value.category]) (Nat.le_of_ble_eq_true rfl) (fun M C hr hx el => ?_)
  refine hp_aload_nR C dX5_keeper_0 rfl ?_
  refine hp_iload_n C dX5_keeper_1 rfl ?_
  refine hp_callV (ci := 5) C ml_X5_61 im_X5_keeperAt se_X5_keeperAt rfl (by decide) (kw_keeper (d := d - 1) K T hp h3 hpk (by omega)) (by omega) dX5_keeper_2 K.isT rfl rfl (by simp [Value.category]) (fun v_2 h_2 hp => ?_) (fun _ _ hf => hf.elim)
  obtain ⟨rfl, e_2⟩ := hp
  rw [e_2]
  refine hp_astore (r := some _) C dX5_keeper_5 (by decide) ?_
  refine hp_iload_n C dX5_keeper_7 rfl ?_
  refine hp_iconst (v := 0) C dX5_keeper_8 (by decide) ?_
  refine hp_iconst (v := 2) C dX5_keeper_9 (by decide) ?_
  refine hp_callS C ml_X5_65 sm_X5_wantWithin (kw_in (d := d - 1) (by omega) (by omega)) (by omega) dX5_keeper_10 rfl rfl (by simp [Value.category]) (fun v_10 h_10 hp => ?_) (fun _ _ hf => hf.elim)
  obtain ⟨rfl, e_10⟩ := hp
  rw [e_10]
  refine hp_iload_n C dX5_keeper_13 rfl ?_
  refine hp_iload C dX5_keeper_14 rfl ?_
  refine hp_iload C dX5_keeper_16 rfl ?_
  refine hp_callS C ml_X5_41 sm_X5_wantBounds (kw_bd (d := d - 1) hb.1 hb.2.1 hb.2.2 (by omega)) (by omega) dX5_keeper_18 rfl rfl (by simp [Value.category]) (fun v_18 h_18 hp => ?_) (fun _ _ hf => hf.elim)
  obtain ⟨rfl, e_18⟩ := hp
  rw [e_18]
  refine hp_aload_nR C dX5_keeper_21 rfl ?_
  refine hp_aloadR C dX5_keeper_22 rfl ?_
  refine hp_callV (ci := 5) C ml_X5_68 im_X5_hasRoomBelow se_X5_hasRoomBelow rfl (by decide) (kw_room (d := d - 1) K T hp hpk) (by omega) dX5_keeper_24 K.isT rfl rfl (by simp [Value.category]) (fun v_24 h_24 hp_ => ?_) (fun _ _ hf => hf.elim)
  rw [if_pos hro] at hp_
  obtain ⟨rfl, e_24⟩ := hp_
  rw [e_24]
  refine hp_callS C ml_X5_48 sm_X5_wantState (kw_st (d := d - 1)) (by omega) dX5_keeper_27 rfl rfl (by simp [Value.category]) (fun v_27 h_27 hp => ?_) (fun _ _ hf => hf.elim)
  obtain ⟨rfl, e_27⟩ := hp
  rw [e_27]
  refine hp_new C nl_X5_22 dX5_keeper_30 (by omega) (by omega) ?_
  refine hp_dup C dX5_keeper_33 rfl ?_
  refine hp_aload_nR C dX5_keeper_34 rfl ?_
  refine hp_get C fl_X5_31_5 dX5_keeper_35 (K.isT.mk 2 10) ((va_up_ne _ _ (Nat.ne_of_lt K.isT.2.1)).trans K.f163) ?_
  refine hp_aloadR C dX5_keeper_38 rfl ?_
  refine hp_iload_n C dX5_keeper_40 rfl ?_
  refine hp_iload_n C dX5_keeper_41 rfl ?_
  refine hp_iload C dX5_keeper_42 rfl ?_
  refine hp_iload C dX5_keeper_44 rfl ?_
  refine hp_callI C ml_X5_24 im_X1_init rfl (kc_keJ (d := d - 1) (by omega) (hp_isN hn0 2 10) ((K.isK hp hpk).mk 2 10) ((va_up_ne _ _ (Nat.ne_of_lt (K.isK hp hpk).2.1)).trans (K.f66 hp)) ⟨by show hp_nx h + 1 + 40 ≤ _; omega, by show hp_sl h + 10 + 8000 ≤ _; omega⟩) (by omega) dX5_keeper_46 rfl rfl (by simp [Value.category]) (fun v_1 h_1 hp_ => ?_)
  obtain ⟨rfl, e_1⟩ := hp_
  rw [e_1]
  refine hp_astore (r := some _) C dX5_keeper_49 (by decide) ?_
  refine hp_aload_nR C dX5_keeper_51 rfl ?_
  refine hp_aloadR C dX5_keeper_52 rfl ?_
  refine hp_aloadR C dX5_keeper_54 rfl ?_
  have hfg : hp_fg 0 h (kc_Keep G (hp_mk h 2 10) (hp_nx h) (nI (a_mk a)) (some (κ.1 0 p)) (Int32.ofInt (a_nd a 2 p) + 1) kn sg r t) := (hp_fg.rf.mk 2 10).keep G _ _ _ _ _ _ _ (Nat.le_refl _)
  have F64 : hp_fl (kc_Keep G (hp_mk h 2 10) (hp_nx h) (nI (a_mk a)) (some (κ.1 0 p)) (Int32.ofInt (a_nd a 2 p) + 1) kn sg r t) 64 (hp_nx h) = .int (nI (a_mk a)) := kc_Keep_f64 (Nat.lt_succ_self _)
  have Fi : hp_is G (kc_Keep G (hp_mk h 2 10) (hp_nx h) (nI (a_mk a)) (some (κ.1 0 p)) (Int32.ofInt (a_nd a 2 p) + 1) kn sg r t) (hp_nx h) 2 := ⟨hn0, by show hp_nx h < hp_nx h + 4; omega, (kc_Keep_kd _).trans (by show va_up (va_up (va_up (va_up (hp_kd h) (hp_nx h) 2) (hp_nx h + 1) 0) (hp_nx h + 1 + 1) 3) (hp_nx h + 1 + 2) 10 (hp_nx h) = 2; rw [va_up_ne _ _ (by omega), va_up_ne _ _ (by omega), va_up_ne _ _ (by omega), va_up_self])⟩
  have Fn : hp_nx (kc_Keep G (hp_mk h 2 10) (hp_nx h) (nI (a_mk a)) (some (κ.1 0 p)) (Int32.ofInt (a_nd a 2 p) + 1) kn sg r t) = hp_nx h + 4 := rfl
  have Fs : hp_sl (kc_Keep G (hp_mk h 2 10) (hp_nx h) (nI (a_mk a)) (some (κ.1 0 p)) (Int32.ofInt (a_nd a 2 p) + 1) kn sg r t) = hp_sl h + 23 := rfl
  generalize hH2 : (kc_Keep G (hp_mk h 2 10) (hp_nx h) (nI (a_mk a)) (some (κ.1 0 p)) (Int32.ofInt (a_nd a 2 p) + 1) kn sg r t) = h2 at *
  have old : ∀ b, b < hp_nx h → hp_kd h2 b = hp_kd h b ∧ hp_ln h2 b = hp_ln h b ∧ (∀ f, hp_fl h2 f b = hp_fl h f b) ∧ hp_ar h2 b = hp_ar h b := fun b hb => hfg.2 b (Nat.zero_le _) hb
  have iso : ∀ b k, hp_is G h b k → hp_is G h2 b k := fun b k z => ⟨z.1, by have := z.2.1; omega, (old b z.2.1).1.trans z.2.2⟩
  have flo : ∀ b, b < hp_nx h → ∀ f v, hp_fl h f b = v → hp_fl h2 f b = v := fun b hb f v z => ((old b hb).2.2.1 f).trans z
  have he : (a_rw a p = [] ∧ κ.1 2 p = hp_dE G) ∨ (k_is G pr h (κ.1 2 p) 13 ∧ (a_rw a p).length ≤ hp_ln h (κ.1 2 p)) := K.isE hp hpk
  have hel : hp_els G h2 (hp_ar h2 (κ.1 2 p)) (a_rw a p).length := fun i hi => by
    obtain ⟨hc, -, -⟩ := T.rc hp (k_rc T hp hi)
    have ea : hp_ar h2 (κ.1 2 p) i = .ref (κ.1 0 ((a_rw a p).getD i 0)) := by
      rw [(old _ (K.isE2 hp hpk hi).1.1.2.1).2.2.2]
      exact K.elt hp hpk hi
    rcases T.kb hc with hb_ | hb_
    · exact Or.inr ⟨_, 4, _, ea, iso _ _ (K.isW hc hb_), by decide, rfl, by decide⟩
    · exact Or.inr ⟨_, 2, _, ea, iso _ _ (K.isK hc hb_), by decide, rfl, by decide⟩
  have hE2 : ((a_rw a p).length = 0 ∧ κ.1 2 p = hp_dE G) ∨ (hp_is G h2 (κ.1 2 p) 13 ∧ (a_rw a p).length ≤ hp_ln h2 (κ.1 2 p)) := by
    rcases he with z | z
    · exact Or.inl ⟨by rw [z.1]; rfl, z.2⟩
    · exact Or.inr ⟨iso _ _ z.1.1, by rw [(old _ z.1.1.2.1).2.1]; exact z.2⟩
  have hqe : κ.1 2 p ≠ κ.1 5 7 := fun z => by
    rcases he with e | e
    · have z1 := K.isM.1.1
      rw [← z, e.2] at z1
      have := hp_dlt C
      omega
    · have z2 := e.1.1.2.2
      have z1 := K.isM.1.2.2
      rw [z, z1] at z2
      cases z2
  refine hp_callV (ci := 5) C ml_X5_72 im_X5_join se_X5_join rfl (by decide) (kj_join (d := d - 1) (mc := κ.2.1 p) (ci := 2) (iso _ _ K.isT) (flo _ K.isT.2.1 _ _ K.f161) (iso _ _ K.isM.1) ((old _ K.isM.1.2.1).2.1.trans K.isM.2) h80 F64 (iso _ _ (K.isK hp hpk)) (flo _ (K.isK hp hpk).2.1 _ _ (K.f69 hp hpk)) (flo _ K.isT.2.1 _ _ K.f163) (iso _ _ (K.isL hp hpk)) (flo _ (K.isL hp hpk).2.1 _ _ (K.f0 hp hpk)) (flo _ (K.isL hp hpk).2.1 _ _ (K.f1 hp hpk)) (flo _ (K.isL hp hpk).2.1 _ _ (K.f2 hp hpk)) hE2 hqe hel (T.rl hp) Fi (by decide) rfl (by decide) (by decide) fl_X5_167_2 rfl ⟨by omega, by omega⟩ (by omega)) (by omega) dX5_keeper_56 (iso _ _ K.isT) rfl rfl (by simp [Value.category]) (fun v_2 h_2 hp_ => ?_) (fun _ _ hf => hf.elim)
  obtain ⟨rfl, h3_, A_, e_2⟩ := hp_
  rw [e_2]
  rw [← hH2] at A_
  obtain ⟨κ1, K1, g0, g5, gx⟩ := K.mkK T (hp_dlt C) hp hpk h80 A_
  generalize hp_put h3_ 163 (κ.1 5 0) (.int (nI (a_mk a + 1))) = H1 at K1 ⊢
  clear A_ hel hE2 hqe iso flo old hH2 Fi F64 hfg
  have T1 : a_T (a_add p (a_vK p (a_nd a 2 p) kn.toInt sg.toInt r.toInt t.toInt) a) := a_add_T T hp hpk h80 h8 (Or.inr rfl) rfl rfl rfl hk hb.1 hb.2.1 ⟨by have := hb.2.2.1; show 0 ≤ t.toInt; omega, hb.2.2.2⟩ (by show (-1 : Int) ≤ 0 ∧ (0 : Int) ≤ 1000; omega) (by show (0 : Int) ≤ 0 ∧ (0 : Int) ≤ 100; omega) (by show (0 : Int) ≤ 0 ∧ (0 : Int) ≤ 100; omega) (by show (0 : Int) ≤ 0 ∧ (0 : Int) ≤ 50; omega)
  have e3p : a_nd (a_add p (a_vK p (a_nd a 2 p) kn.toInt sg.toInt r.toInt t.toInt) a) 3 p = a_nd a 3 p := if_neg (Nat.ne_of_lt hp)
  have hnn : ∀ f, a_nd (a_add p (a_vK p (a_nd a 2 p) kn.toInt sg.toInt r.toInt t.toInt) a) f (a_mk a) = (a_vK p (a_nd a 2 p) kn.toInt sg.toInt r.toInt t.toInt) f := fun f => if_pos rfl
  have hnk : a_nd (a_add p (a_vK p (a_nd a 2 p) kn.toInt sg.toInt r.toInt t.toInt) a) 0 (a_mk a) = 1 := hnn 0
  have hn1 : a_mk a < a_mk (a_add p (a_vK p (a_nd a 2 p) kn.toInt sg.toInt r.toInt t.toInt) a) := Nat.lt_succ_self _
  have hp1 : p < a_mk (a_add p (a_vK p (a_nd a 2 p) kn.toInt sg.toInt r.toInt t.toInt) a) := Nat.lt_succ_of_lt hp
  have hpk1 : a_nd (a_add p (a_vK p (a_nd a 2 p) kn.toInt sg.toInt r.toInt t.toInt) a) 0 p = 1 := (if_neg (Nat.ne_of_lt hp)).trans hpk
  have r3 := T.r3 hp
  have r2 := T1.r2 hn1
  have hfu : (9 : Int) ≤ (a_fu (a_add p (a_vK p (a_nd a 2 p) kn.toInt sg.toInt r.toInt t.toInt) a) (a_mk a) : Int) + a_nd (a_add p (a_vK p (a_nd a 2 p) kn.toInt sg.toInt r.toInt t.toInt) a) 2 (a_mk a) := by
    have e : a_fu (a_add p (a_vK p (a_nd a 2 p) kn.toInt sg.toInt r.toInt t.toInt) a) (a_mk a) = (9 - a_nd (a_add p (a_vK p (a_nd a 2 p) kn.toInt sg.toInt r.toInt t.toInt) a) 2 (a_mk a)).toNat := rfl
    omega
  have hfu9 : a_fu (a_add p (a_vK p (a_nd a 2 p) kn.toInt sg.toInt r.toInt t.toInt) a) (a_mk a) ≤ 9 := by
    have e : a_fu (a_add p (a_vK p (a_nd a 2 p) kn.toInt sg.toInt r.toInt t.toInt) a) (a_mk a) = (9 - a_nd (a_add p (a_vK p (a_nd a 2 p) kn.toInt sg.toInt r.toInt t.toInt) a) 2 (a_mk a)).toNat := rfl
    omega
  generalize ha1 : a_add p (a_vK p (a_nd a 2 p) kn.toInt sg.toInt r.toInt t.toInt) a = a1 at *
  refine hp_aloadR C dX5_keeper_59 (show (_ : Option Value) = some (Value.ref (κ1.1 0 p)) from by rw [g0 p hp]; rfl) ?_
  refine hp_get C fl_X5_45_2 dX5_keeper_61 (K1.isK hp1 hpk1) (K1.f68 hp1) ?_
  refine hp_iconst (v := 1) C dX5_keeper_64 (by decide) ?_
  refine hp_icmp_ne (tgt := 78) C dX5_keeper_65 (by decide) (fun c_65 => ?_) (fun c_65 => ?_)
  · have hu : ¬ a_nd a 3 p = 1 := fun e => c_65 (by rw [e3p, e]; decide)
    rw [if_neg hu]
    refine hp_aloadR C dX5_keeper_78 (show (_ : Option Value) = some (Value.ref (κ1.1 0 (a_mk a))) from by rw [gx]; rfl) ?_
    refine hp_get C fl_X5_80_2 dX5_keeper_80 (K1.isK hn1 hnk) (K1.f64 hn1) ?_
    refine hp_iret C hr rfl dX5_keeper_83 ?_
    exact ⟨rfl, κ1, K1, g5⟩
  · have hu : a_nd a 3 p = 1 := by
      rw [← e3p]
      exact (a_ofI_eq (x := a_nd a1 3 p) (y := 1) (by rw [e3p]; omega) (by omega)).mp c_65
    rw [if_pos hu] at hl ⊢
    refine hp_aloadR C dX5_keeper_68 (show (_ : Option Value) = some (Value.ref (κ1.1 0 (a_mk a))) from by rw [gx]; rfl) ?_
    refine hp_aload_nR C dX5_keeper_70 (show (_ : Option Value) = some (Value.ref (κ1.1 5 0)) from by rw [g5]; rfl) ?_
    refine hp_get C fl_X5_10_5 dX5_keeper_71 K1.isT K1.f160 ?_
    refine hp_callV (ci := 2) C ml_X5_76 im_X1_rise se_X1_rise rfl (by decide) ((kc_rise (a_fu a1 (a_mk a)) (a_mk a) a1 _ κ1.2.2 (d - 1) (γ := κ1.1) (μ := κ1.2.1) K1 T1 hn1 hfu (by omega) hl).1 hnk) (by omega) dX5_keeper_74 (K1.isK hn1 hnk) rfl rfl (by simp [Value.category]) (fun v_74 h_74 hp_ => ?_) (fun _ _ hf => hf.elim)
    obtain ⟨rfl, ρ1, K_74⟩ := hp_
    refine hp_pop C dX5_keeper_77 rfl ?_
    refine hp_aloadR C dX5_keeper_78 (show (_ : Option Value) = some (Value.ref (κ1.1 0 (a_mk a))) from by rw [gx]; rfl) ?_
    refine hp_get C fl_X5_80_2 dX5_keeper_80 (K_74.isK (by rw [(a_go_kp _ _ _).mk]; exact hn1) (by rw [(a_go_kp _ _ _).nd]; exact hnk)) (K_74.f64 (by rw [(a_go_kp _ _ _).mk]; exact hn1)) ?_
    refine hp_iret C hr rfl dX5_keeper_83 ?_
    exact ⟨rfl, (κ1.1, κ1.2.1, ρ1), K_74, g5⟩
set_option maxRecDepth 20000 in
set_option maxHeartbeats 4000000 in
theorem kp_workerX {l : Launch} {G : hpG} {pr : Nat → Prop} {B : hpT} {N S : Nat} {h : hpT} {κ : kS} {a : aS} {d : Nat} (K : KR G pr B N S h κ a) {x kn pa st sp fa : Int32} (T : a_T a) (hbad : ∀ n, n < a_mk a → x = nI n → a_nd a 0 n = 1 → a_nd a 3 n = 2) (hd : 11 ≤ d) (hR1 : hp_nx h + 1 ≤ hp_n0 G + hp_LC) (hR2 : hp_sl h + 6 ≤ hp_LS) : hp_C l G yX5_worker (.code yX5_worker cX5_worker 9 (some .int)) d [.ref (κ.1 5 0), .int x, .int kn, .int pa, .int st, .int sp, .int fa] (h) (fun _ _ => False) (fun E h' => E = "java/lang/IllegalArgumentException" ∧ h' = hp_mkX h) := by
  refine hp_ofV (by decide) (by simp [Value.category]) (Nat.le_of_ble_eq_true rfl) (fun M C hr hx el => ?_)
  refine hp_aload_nR C dX5_worker_0 rfl ?_
  refine hp_iload_n C dX5_worker_1 rfl ?_
  exact hp_callV (ci := 5) C ml_X5_61 im_X5_keeperAt se_X5_keeperAt rfl (by decide) (kw_keeperX (d := d - 1) K T hbad (by omega) hR1 hR2) (by omega) dX5_worker_2 K.isT rfl rfl (by simp [Value.category]) (fun _ _ hf => hf.elim) (fun E_1 h_1 hq => hp_out C hx hq)
set_option maxRecDepth 20000 in
set_option maxHeartbeats 4000000 in
theorem kp_workerY {l : Launch} {G : hpG} {pr : Nat → Prop} {B : hpT} {N S : Nat} {h : hpT} {κ : kS} {a : aS} {d : Nat} (K : KR G pr B N S h κ a) {p : Nat} (T : a_T a) (hp : p < a_mk a) (h3 : ¬ a_nd a 3 p = 2) (hpk : a_nd a 0 p = 1) {kn pa st sp fa : Int32} (hz : ¬ ((0 ≤ kn.toInt ∧ kn.toInt ≤ 2) ∧ (-1 ≤ pa.toInt ∧ pa.toInt ≤ 1000) ∧ (0 ≤ st.toInt ∧ st.toInt ≤ 100) ∧ (0 ≤ sp.toInt ∧ sp.toInt ≤ 100) ∧ (0 ≤ fa.toInt ∧ fa.toInt ≤ 50))) (hd : 11 ≤ d) (hR1 : hp_nx h + 1 ≤ hp_n0 G + hp_LC) (hR2 : hp_sl h + 6 ≤ hp_LS) : hp_C l G yX5_worker (.code yX5_worker cX5_worker 9 (some .int)) d [.ref (κ.1 5 0), .int (nI p), .int kn, .int pa, .int st, .int sp, .int fa] (h) (fun _ _ => False) (fun E h' => E = "java/lang/IllegalArgumentException" ∧ h' = hp_mkX h) := by
  have q0 : (0 : Int32).toInt = 0 := by decide
  have qm : (-1 : Int32).toInt = -1 := by decide
  have q2 : (2 : Int32).toInt = 2 := by decide
  have q50 : (50 : Int32).toInt = 50 := by decide
  have q100 : (100 : Int32).toInt = 100 := by decide
  have q1000 : (1000 : Int32).toInt = 1000 := by decide
  refine hp_ofV (by decide) (by simp [Value.category]) (Nat.le_of_ble_eq_true rfl) (fun M C hr hx el => ?_)
  by_cases hk : ¬ (0 ≤ kn.toInt ∧ kn.toInt ≤ 2)
  · refine hp_aload_nR C dX5_worker_0 rfl ?_
    refine hp_iload_n C dX5_worker_1 rfl ?_
    refine hp_callV (ci := 5) C ml_X5_61 im_X5_keeperAt se_X5_keeperAt rfl (by decide) (kw_keeper (d := d - 1) K T hp h3 hpk (by omega)) (by omega) dX5_worker_2 K.isT rfl rfl (by simp [Value.category]) (fun v_2 h_2 hp => ?_) (fun _ _ hf => hf.elim)
    obtain ⟨rfl, e_2⟩ := hp
    rw [e_2]
    refine hp_astore (r := some _) C dX5_worker_5 (by decide) ?_
    refine hp_iload_n C dX5_worker_7 rfl ?_
    refine hp_iconst (v := 0) C dX5_worker_8 (by decide) ?_
    refine hp_iconst (v := 2) C dX5_worker_9 (by decide) ?_
    exact hp_callS C ml_X5_65 sm_X5_wantWithin (kw_out (d := d - 1) (by rw [q0, q2]; exact hk) (by omega) hR1 hR2) (by omega) dX5_worker_10 rfl rfl (by simp [Value.category]) (fun _ _ hf => hf.elim) (fun E_1 h_1 hq => hp_out C hx hq)
  have hk := Classical.not_not.mp hk
  by_cases c1 : ¬ (-1 ≤ pa.toInt ∧ pa.toInt ≤ 1000)
  · refine hp_aload_nR C dX5_worker_0 rfl ?_
    refine hp_iload_n C dX5_worker_1 rfl ?_
    refine hp_callV (ci := 5) C ml_X5_61 im_X5_keeperAt se_X5_keeperAt rfl (by decide) (kw_keeper (d := d - 1) K T hp h3 hpk (by omega)) (by omega) dX5_worker_2 K.isT rfl rfl (by simp [Value.category]) (fun v_2 h_2 hp => ?_) (fun _ _ hf => hf.elim)
    obtain ⟨rfl, e_2⟩ := hp
    rw [e_2]
    refine hp_astore (r := some _) C dX5_worker_5 (by decide) ?_
    refine hp_iload_n C dX5_worker_7 rfl ?_
    refine hp_iconst (v := 0) C dX5_worker_8 (by decide) ?_
    refine hp_iconst (v := 2) C dX5_worker_9 (by decide) ?_
    refine hp_callS C ml_X5_65 sm_X5_wantWithin (kw_in (d := d - 1) (by omega) (by omega)) (by omega) dX5_worker_10 rfl rfl (by simp [Value.category]) (fun v_10 h_10 hp => ?_) (fun _ _ hf => hf.elim)
    obtain ⟨rfl, e_10⟩ := hp
    rw [e_10]
    refine hp_iload_n C dX5_worker_13 rfl ?_
    refine hp_iconst (v := (-1)) C dX5_worker_14 (by decide) ?_
    refine hp_sipush (v := 1000) C dX5_worker_15 (by decide) ?_
    exact hp_callS C ml_X5_65 sm_X5_wantWithin (kw_out (d := d - 1) (by rw [qm, q1000]; exact c1) (by omega) hR1 hR2) (by omega) dX5_worker_18 rfl rfl (by simp [Value.category]) (fun _ _ hf => hf.elim) (fun E_1 h_1 hq => hp_out C hx hq)
  have c1 := Classical.not_not.mp c1
  by_cases c2 : ¬ (0 ≤ st.toInt ∧ st.toInt ≤ 100)
  · refine hp_aload_nR C dX5_worker_0 rfl ?_
    refine hp_iload_n C dX5_worker_1 rfl ?_
    refine hp_callV (ci := 5) C ml_X5_61 im_X5_keeperAt se_X5_keeperAt rfl (by decide) (kw_keeper (d := d - 1) K T hp h3 hpk (by omega)) (by omega) dX5_worker_2 K.isT rfl rfl (by simp [Value.category]) (fun v_2 h_2 hp => ?_) (fun _ _ hf => hf.elim)
    obtain ⟨rfl, e_2⟩ := hp
    rw [e_2]
    refine hp_astore (r := some _) C dX5_worker_5 (by decide) ?_
    refine hp_iload_n C dX5_worker_7 rfl ?_
    refine hp_iconst (v := 0) C dX5_worker_8 (by decide) ?_
    refine hp_iconst (v := 2) C dX5_worker_9 (by decide) ?_
    refine hp_callS C ml_X5_65 sm_X5_wantWithin (kw_in (d := d - 1) (by omega) (by omega)) (by omega) dX5_worker_10 rfl rfl (by simp [Value.category]) (fun v_10 h_10 hp => ?_) (fun _ _ hf => hf.elim)
    obtain ⟨rfl, e_10⟩ := hp
    rw [e_10]
    refine hp_iload_n C dX5_worker_13 rfl ?_
    refine hp_iconst (v := (-1)) C dX5_worker_14 (by decide) ?_
    refine hp_sipush (v := 1000) C dX5_worker_15 (by decide) ?_
    refine hp_callS C ml_X5_65 sm_X5_wantWithin (kw_in (d := d - 1) (by omega) (by omega)) (by omega) dX5_worker_18 rfl rfl (by simp [Value.category]) (fun v_18 h_18 hp => ?_) (fun _ _ hf => hf.elim)
    obtain ⟨rfl, e_18⟩ := hp
    rw [e_18]
    refine hp_iload C dX5_worker_21 rfl ?_
    refine hp_iconst (v := 0) C dX5_worker_23 (by decide) ?_
    refine hp_bipush (v := 100) C dX5_worker_24 (by decide) ?_
    exact hp_callS C ml_X5_65 sm_X5_wantWithin (kw_out (d := d - 1) (by rw [q0, q100]; exact c2) (by omega) hR1 hR2) (by omega) dX5_worker_26 rfl rfl (by simp [Value.category]) (fun _ _ hf => hf.elim) (fun E_1 h_1 hq => hp_out C hx hq)
  have c2 := Classical.not_not.mp c2
  by_cases c3 : ¬ (0 ≤ sp.toInt ∧ sp.toInt ≤ 100)
  · refine hp_aload_nR C dX5_worker_0 rfl ?_
    refine hp_iload_n C dX5_worker_1 rfl ?_
    refine hp_callV (ci := 5) C ml_X5_61 im_X5_keeperAt se_X5_keeperAt rfl (by decide) (kw_keeper (d := d - 1) K T hp h3 hpk (by omega)) (by omega) dX5_worker_2 K.isT rfl rfl (by simp [Value.category]) (fun v_2 h_2 hp => ?_) (fun _ _ hf => hf.elim)
    obtain ⟨rfl, e_2⟩ := hp
    rw [e_2]
    refine hp_astore (r := some _) C dX5_worker_5 (by decide) ?_
    refine hp_iload_n C dX5_worker_7 rfl ?_
    refine hp_iconst (v := 0) C dX5_worker_8 (by decide) ?_
    refine hp_iconst (v := 2) C dX5_worker_9 (by decide) ?_
    refine hp_callS C ml_X5_65 sm_X5_wantWithin (kw_in (d := d - 1) (by omega) (by omega)) (by omega) dX5_worker_10 rfl rfl (by simp [Value.category]) (fun v_10 h_10 hp => ?_) (fun _ _ hf => hf.elim)
    obtain ⟨rfl, e_10⟩ := hp
    rw [e_10]
    refine hp_iload_n C dX5_worker_13 rfl ?_
    refine hp_iconst (v := (-1)) C dX5_worker_14 (by decide) ?_
    refine hp_sipush (v := 1000) C dX5_worker_15 (by decide) ?_
    refine hp_callS C ml_X5_65 sm_X5_wantWithin (kw_in (d := d - 1) (by omega) (by omega)) (by omega) dX5_worker_18 rfl rfl (by simp [Value.category]) (fun v_18 h_18 hp => ?_) (fun _ _ hf => hf.elim)
    obtain ⟨rfl, e_18⟩ := hp
    rw [e_18]
    refine hp_iload C dX5_worker_21 rfl ?_
    refine hp_iconst (v := 0) C dX5_worker_23 (by decide) ?_
    refine hp_bipush (v := 100) C dX5_worker_24 (by decide) ?_
    refine hp_callS C ml_X5_65 sm_X5_wantWithin (kw_in (d := d - 1) (by omega) (by omega)) (by omega) dX5_worker_26 rfl rfl (by simp [Value.category]) (fun v_26 h_26 hp => ?_) (fun _ _ hf => hf.elim)
    obtain ⟨rfl, e_26⟩ := hp
    rw [e_26]
    refine hp_iload C dX5_worker_29 rfl ?_
    refine hp_iconst (v := 0) C dX5_worker_31 (by decide) ?_
    refine hp_bipush (v := 100) C dX5_worker_32 (by decide) ?_
    exact hp_callS C ml_X5_65 sm_X5_wantWithin (kw_out (d := d - 1) (by rw [q0, q100]; exact c3) (by omega) hR1 hR2) (by omega) dX5_worker_34 rfl rfl (by simp [Value.category]) (fun _ _ hf => hf.elim) (fun E_1 h_1 hq => hp_out C hx hq)
  have c3 := Classical.not_not.mp c3
  by_cases c4 : ¬ (0 ≤ fa.toInt ∧ fa.toInt ≤ 50)
  · refine hp_aload_nR C dX5_worker_0 rfl ?_
    refine hp_iload_n C dX5_worker_1 rfl ?_
    refine hp_callV (ci := 5) C ml_X5_61 im_X5_keeperAt se_X5_keeperAt rfl (by decide) (kw_keeper (d := d - 1) K T hp h3 hpk (by omega)) (by omega) dX5_worker_2 K.isT rfl rfl (by simp [Value.category]) (fun v_2 h_2 hp => ?_) (fun _ _ hf => hf.elim)
    obtain ⟨rfl, e_2⟩ := hp
    rw [e_2]
    refine hp_astore (r := some _) C dX5_worker_5 (by decide) ?_
    refine hp_iload_n C dX5_worker_7 rfl ?_
    refine hp_iconst (v := 0) C dX5_worker_8 (by decide) ?_
    refine hp_iconst (v := 2) C dX5_worker_9 (by decide) ?_
    refine hp_callS C ml_X5_65 sm_X5_wantWithin (kw_in (d := d - 1) (by omega) (by omega)) (by omega) dX5_worker_10 rfl rfl (by simp [Value.category]) (fun v_10 h_10 hp => ?_) (fun _ _ hf => hf.elim)
    obtain ⟨rfl, e_10⟩ := hp
    rw [e_10]
    refine hp_iload_n C dX5_worker_13 rfl ?_
    refine hp_iconst (v := (-1)) C dX5_worker_14 (by decide) ?_
    refine hp_sipush (v := 1000) C dX5_worker_15 (by decide) ?_
    refine hp_callS C ml_X5_65 sm_X5_wantWithin (kw_in (d := d - 1) (by omega) (by omega)) (by omega) dX5_worker_18 rfl rfl (by simp [Value.category]) (fun v_18 h_18 hp => ?_) (fun _ _ hf => hf.elim)
    obtain ⟨rfl, e_18⟩ := hp
    rw [e_18]
    refine hp_iload C dX5_worker_21 rfl ?_
    refine hp_iconst (v := 0) C dX5_worker_23 (by decide) ?_
    refine hp_bipush (v := 100) C dX5_worker_24 (by decide) ?_
    refine hp_callS C ml_X5_65 sm_X5_wantWithin (kw_in (d := d - 1) (by omega) (by omega)) (by omega) dX5_worker_26 rfl rfl (by simp [Value.category]) (fun v_26 h_26 hp => ?_) (fun _ _ hf => hf.elim)
    obtain ⟨rfl, e_26⟩ := hp
    rw [e_26]
    refine hp_iload C dX5_worker_29 rfl ?_
    refine hp_iconst (v := 0) C dX5_worker_31 (by decide) ?_
    refine hp_bipush (v := 100) C dX5_worker_32 (by decide) ?_
    refine hp_callS C ml_X5_65 sm_X5_wantWithin (kw_in (d := d - 1) (by omega) (by omega)) (by omega) dX5_worker_34 rfl rfl (by simp [Value.category]) (fun v_34 h_34 hp => ?_) (fun _ _ hf => hf.elim)
    obtain ⟨rfl, e_34⟩ := hp
    rw [e_34]
    refine hp_iload C dX5_worker_37 rfl ?_
    refine hp_iconst (v := 0) C dX5_worker_39 (by decide) ?_
    refine hp_bipush (v := 50) C dX5_worker_40 (by decide) ?_
    exact hp_callS C ml_X5_65 sm_X5_wantWithin (kw_out (d := d - 1) (by rw [q0, q50]; exact c4) (by omega) hR1 hR2) (by omega) dX5_worker_42 rfl rfl (by simp [Value.category]) (fun _ _ hf => hf.elim) (fun E_1 h_1 hq => hp_out C hx hq)
  have c4 := Classical.not_not.mp c4
  exact absurd ⟨hk, c1, c2, c3, c4⟩ hz
set_option maxRecDepth 20000 in
set_option maxHeartbeats 4000000 in
theorem kp_workerS {l : Launch} {G : hpG} {pr : Nat → Prop} {B : hpT} {N S : Nat} {h : hpT} {κ : kS} {a : aS} {d : Nat} (K : KR G pr B N S h κ a) {p : Nat} (T : a_T a) (hp : p < a_mk a) (h3 : ¬ a_nd a 3 p = 2) (hpk : a_nd a 0 p = 1) {kn pa st sp fa : Int32} (hk : (0 ≤ kn.toInt ∧ kn.toInt ≤ 2)) (hb : (-1 ≤ pa.toInt ∧ pa.toInt ≤ 1000) ∧ (0 ≤ st.toInt ∧ st.toInt ≤ 100) ∧ (0 ≤ sp.toInt ∧ sp.toInt ≤ 100) ∧ (0 ≤ fa.toInt ∧ fa.toInt ≤ 50)) (hro : ¬ (a_mk a < 80 ∧ a_nd a 2 p < 8)) (hd : 11 ≤ d) (hR1 : hp_nx h + 1 ≤ hp_n0 G + hp_LC) (hR2 : hp_sl h + 6 ≤ hp_LS) : hp_C l G yX5_worker (.code yX5_worker cX5_worker 9 (some .int)) d [.ref (κ.1 5 0), .int (nI p), .int kn, .int pa, .int st, .int sp, .int fa] (h) (fun _ _ => False) (fun E h' => E = "java/lang/IllegalStateException" ∧ h' = hp_mkX h) := by
  have q0 : (0 : Int32).toInt = 0 := by decide
  have qm : (-1 : Int32).toInt = -1 := by decide
  have q2 : (2 : Int32).toInt = 2 := by decide
  have q50 : (50 : Int32).toInt = 50 := by decide
  have q100 : (100 : Int32).toInt = 100 := by decide
  have q1000 : (1000 : Int32).toInt = 1000 := by decide
  obtain ⟨b1, b2, b3, b4⟩ := id hb
  refine hp_ofV (by decide) (by simp [Value.category]) (Nat.le_of_ble_eq_true rfl) (fun M C hr hx el => ?_)
  refine hp_aload_nR C dX5_worker_0 rfl ?_
  refine hp_iload_n C dX5_worker_1 rfl ?_
  refine hp_callV (ci := 5) C ml_X5_61 im_X5_keeperAt se_X5_keeperAt rfl (by decide) (kw_keeper (d := d - 1) K T hp h3 hpk (by omega)) (by omega) dX5_worker_2 K.isT rfl rfl (by simp [Value.category]) (fun v_2 h_2 hp => ?_) (fun _ _ hf => hf.elim)
  obtain ⟨rfl, e_2⟩ := hp
  rw [e_2]
  refine hp_astore (r := some _) C dX5_worker_5 (by decide) ?_
  refine hp_iload_n C dX5_worker_7 rfl ?_
  refine hp_iconst (v := 0) C dX5_worker_8 (by decide) ?_
  refine hp_iconst (v := 2) C dX5_worker_9 (by decide) ?_
  refine hp_callS C ml_X5_65 sm_X5_wantWithin (kw_in (d := d - 1) (by omega) (by omega)) (by omega) dX5_worker_10 rfl rfl (by simp [Value.category]) (fun v_10 h_10 hp => ?_) (fun _ _ hf => hf.elim)
  obtain ⟨rfl, e_10⟩ := hp
  rw [e_10]
  refine hp_iload_n C dX5_worker_13 rfl ?_
  refine hp_iconst (v := (-1)) C dX5_worker_14 (by decide) ?_
  refine hp_sipush (v := 1000) C dX5_worker_15 (by decide) ?_
  refine hp_callS C ml_X5_65 sm_X5_wantWithin (kw_in (d := d - 1) (by omega) (by omega)) (by omega) dX5_worker_18 rfl rfl (by simp [Value.category]) (fun v_18 h_18 hp => ?_) (fun _ _ hf => hf.elim)
  obtain ⟨rfl, e_18⟩ := hp
  rw [e_18]
  refine hp_iload C dX5_worker_21 rfl ?_
  refine hp_iconst (v := 0) C dX5_worker_23 (by decide) ?_
  refine hp_bipush (v := 100) C dX5_worker_24 (by decide) ?_
  refine hp_callS C ml_X5_65 sm_X5_wantWithin (kw_in (d := d - 1) (by omega) (by omega)) (by omega) dX5_worker_26 rfl rfl (by simp [Value.category]) (fun v_26 h_26 hp => ?_) (fun _ _ hf => hf.elim)
  obtain ⟨rfl, e_26⟩ := hp
  rw [e_26]
  refine hp_iload C dX5_worker_29 rfl ?_
  refine hp_iconst (v := 0) C dX5_worker_31 (by decide) ?_
  refine hp_bipush (v := 100) C dX5_worker_32 (by decide) ?_
  refine hp_callS C ml_X5_65 sm_X5_wantWithin (kw_in (d := d - 1) (by omega) (by omega)) (by omega) dX5_worker_34 rfl rfl (by simp [Value.category]) (fun v_34 h_34 hp => ?_) (fun _ _ hf => hf.elim)
  obtain ⟨rfl, e_34⟩ := hp
  rw [e_34]
  refine hp_iload C dX5_worker_37 rfl ?_
  refine hp_iconst (v := 0) C dX5_worker_39 (by decide) ?_
  refine hp_bipush (v := 50) C dX5_worker_40 (by decide) ?_
  refine hp_callS C ml_X5_65 sm_X5_wantWithin (kw_in (d := d - 1) (by omega) (by omega)) (by omega) dX5_worker_42 rfl rfl (by simp [Value.category]) (fun v_42 h_42 hp => ?_) (fun _ _ hf => hf.elim)
  obtain ⟨rfl, e_42⟩ := hp
  rw [e_42]
  refine hp_aload_nR C dX5_worker_45 rfl ?_
  refine hp_aloadR C dX5_worker_46 rfl ?_
  refine hp_callV (ci := 5) C ml_X5_68 im_X5_hasRoomBelow se_X5_hasRoomBelow rfl (by decide) (kw_room (d := d - 1) K T hp hpk) (by omega) dX5_worker_48 K.isT rfl rfl (by simp [Value.category]) (fun v_48 h_48 hp_ => ?_) (fun _ _ hf => hf.elim)
  rw [if_neg hro] at hp_
  obtain ⟨rfl, e_48⟩ := hp_
  rw [e_48]
  exact hp_callS C ml_X5_48 sm_X5_wantState (kw_sn (d := d - 1) (by omega) hR1 hR2) (by omega) dX5_worker_51 rfl rfl (by simp [Value.category]) (fun _ _ hf => hf.elim) (fun E_1 h_1 hq => hp_out C hx hq)
set_option maxRecDepth 20000 in
set_option maxHeartbeats 4000000 in
theorem kp_worker {l : Launch} {G : hpG} {pr : Nat → Prop} {B : hpT} {N S : Nat} {h : hpT} {κ : kS} {a : aS} {d : Nat} (K : KR G pr B N S h κ a) {p : Nat} (T : a_T a) (hp : p < a_mk a) (h3 : ¬ a_nd a 3 p = 2) (hpk : a_nd a 0 p = 1) {kn pa st sp fa : Int32} (hk : (0 ≤ kn.toInt ∧ kn.toInt ≤ 2)) (hb : (-1 ≤ pa.toInt ∧ pa.toInt ≤ 1000) ∧ (0 ≤ st.toInt ∧ st.toInt ≤ 100) ∧ (0 ≤ sp.toInt ∧ sp.toInt ≤ 100) ∧ (0 ≤ fa.toInt ∧ fa.toInt ≤ 50)) (hro : a_mk a < 80 ∧ a_nd a 2 p < 8) (hR1 : hp_nx h + 50 ≤ hp_n0 G + hp_LC) (hR2 : hp_sl h + 9000 ≤ hp_LS) (hl : (a_ev (a_wkr p (a_vW p (a_nd a 2 p) kn.toInt pa.toInt st.toInt sp.toInt fa.toInt) a).2).length < 2 ^ 30) (hd : 45 ≤ d) : hp_C l G yX5_worker (.code yX5_worker cX5_worker 9 (some .int)) d [.ref (κ.1 5 0), .int (nI p), .int kn, .int pa, .int st, .int sp, .int fa] (h) (fun v h' => v = some (.int (a_wkr p (a_vW p (a_nd a 2 p) kn.toInt pa.toInt st.toInt sp.toInt fa.toInt) a).1) ∧ ∃ κ', KR G pr B (N + 5) (S + 160) h' κ' (a_wkr p (a_vW p (a_nd a 2 p) kn.toInt pa.toInt st.toInt sp.toInt fa.toInt) a).2 ∧ κ'.1 5 = κ.1 5) (fun _ _ => False) := by
  have q0 : (0 : Int32).toInt = 0 := by decide
  have qm : (-1 : Int32).toInt = -1 := by decide
  have q2 : (2 : Int32).toInt = 2 := by decide
  have q50 : (50 : Int32).toInt = 50 := by decide
  have q100 : (100 : Int32).toInt = 100 := by decide
  have q1000 : (1000 : Int32).toInt = 1000 := by decide
  obtain ⟨b1, b2, b3, b4⟩ := id hb
  have h80 := hro.1
  have h8 := hro.2
  have hn0 : hp_n0 G ≤ hp_nx h := by have := K.isT.1; have := K.isT.2.1; omega
  have hlx : a_nd a 3 p = 1 → (a_ev (a_add p (a_vW p (a_nd a 2 p) kn.toInt pa.toInt st.toInt sp.toInt fa.toInt) a)).length < 2 ^ 30 := fun hu => by
    have kg := a_go_kp (a_fu (a_add p (a_vW p (a_nd a 2 p) kn.toInt pa.toInt st.toInt sp.toInt fa.toInt) a) (a_mk a)) (a_mk a) (a_add p (a_vW p (a_nd a 2 p) kn.toInt pa.toInt st.toInt sp.toInt fa.toInt) a)
    unfold a_wkr at hl
    rw [if_pos hu] at hl
    split at hl
    · exact Nat.lt_of_le_of_lt kg.ev hl
    · exact Nat.lt_of_le_of_lt (Nat.le_trans kg.ev (a_dis_k2 _ _ _ _ _).ev) hl
  unfold a_wkr at hl ⊢
  refine hp_ofV (by decide) (by simp [Value.category]) (Nat.le_of_ble_eq_true rfl) (fun M C hr hx el => ?_)
  refine hp_aload_nR C dX5_worker_0 rfl ?_
  refine hp_iload_n C dX5_worker_1 rfl ?_
  refine hp_callV (ci := 5) C ml_X5_61 im_X5_keeperAt se_X5_keeperAt rfl (by decide) (kw_keeper (d := d - 1) K T hp h3 hpk (by omega)) (by omega) dX5_worker_2 K.isT rfl rfl (by simp [Value.category]) (fun v_2 h_2 hp => ?_) (fun _ _ hf => hf.elim)
  obtain ⟨rfl, e_2⟩ := hp
  rw [e_2]
  refine hp_astore (r := some _) C dX5_worker_5 (by decide) ?_
  refine hp_iload_n C dX5_worker_7 rfl ?_
  refine hp_iconst (v := 0) C dX5_worker_8 (by decide) ?_
  refine hp_iconst (v := 2) C dX5_worker_9 (by decide) ?_
  refine hp_callS C ml_X5_65 sm_X5_wantWithin (kw_in (d := d - 1) (by omega) (by omega)) (by omega) dX5_worker_10 rfl rfl (by simp [Value.category]) (fun v_10 h_10 hp => ?_) (fun _ _ hf => hf.elim)
  obtain ⟨rfl, e_10⟩ := hp
  rw [e_10]
  refine hp_iload_n C dX5_worker_13 rfl ?_
  refine hp_iconst (v := (-1)) C dX5_worker_14 (by decide) ?_
  refine hp_sipush (v := 1000) C dX5_worker_15 (by decide) ?_
  refine hp_callS C ml_X5_65 sm_X5_wantWithin (kw_in (d := d - 1) (by omega) (by omega)) (by omega) dX5_worker_18 rfl rfl (by simp [Value.category]) (fun v_18 h_18 hp => ?_) (fun _ _ hf => hf.elim)
  obtain ⟨rfl, e_18⟩ := hp
  rw [e_18]
  refine hp_iload C dX5_worker_21 rfl ?_
  refine hp_iconst (v := 0) C dX5_worker_23 (by decide) ?_
  refine hp_bipush (v := 100) C dX5_worker_24 (by decide) ?_
  refine hp_callS C ml_X5_65 sm_X5_wantWithin (kw_in (d := d - 1) (by omega) (by omega)) (by omega) dX5_worker_26 rfl rfl (by simp [Value.category]) (fun v_26 h_26 hp => ?_) (fun _ _ hf => hf.elim)
  obtain ⟨rfl, e_26⟩ := hp
  rw [e_26]
  refine hp_iload C dX5_worker_29 rfl ?_
  refine hp_iconst (v := 0) C dX5_worker_31 (by decide) ?_
  refine hp_bipush (v := 100) C dX5_worker_32 (by decide) ?_
  refine hp_callS C ml_X5_65 sm_X5_wantWithin (kw_in (d := d - 1) (by omega) (by omega)) (by omega) dX5_worker_34 rfl rfl (by simp [Value.category]) (fun v_34 h_34 hp => ?_) (fun _ _ hf => hf.elim)
  obtain ⟨rfl, e_34⟩ := hp
  rw [e_34]
  refine hp_iload C dX5_worker_37 rfl ?_
  refine hp_iconst (v := 0) C dX5_worker_39 (by decide) ?_
  refine hp_bipush (v := 50) C dX5_worker_40 (by decide) ?_
  refine hp_callS C ml_X5_65 sm_X5_wantWithin (kw_in (d := d - 1) (by omega) (by omega)) (by omega) dX5_worker_42 rfl rfl (by simp [Value.category]) (fun v_42 h_42 hp => ?_) (fun _ _ hf => hf.elim)
  obtain ⟨rfl, e_42⟩ := hp
  rw [e_42]
  refine hp_aload_nR C dX5_worker_45 rfl ?_
  refine hp_aloadR C dX5_worker_46 rfl ?_
  refine hp_callV (ci := 5) C ml_X5_68 im_X5_hasRoomBelow se_X5_hasRoomBelow rfl (by decide) (kw_room (d := d - 1) K T hp hpk) (by omega) dX5_worker_48 K.isT rfl rfl (by simp [Value.category]) (fun v_48 h_48 hp_ => ?_) (fun _ _ hf => hf.elim)
  rw [if_pos hro] at hp_
  obtain ⟨rfl, e_48⟩ := hp_
  rw [e_48]
  refine hp_callS C ml_X5_48 sm_X5_wantState (kw_st (d := d - 1)) (by omega) dX5_worker_51 rfl rfl (by simp [Value.category]) (fun v_51 h_51 hp => ?_) (fun _ _ hf => hf.elim)
  obtain ⟨rfl, e_51⟩ := hp
  rw [e_51]
  refine hp_new C nl_X5_83 dX5_worker_54 (by omega) (by omega) ?_
  refine hp_dup C dX5_worker_57 rfl ?_
  refine hp_aload_nR C dX5_worker_58 rfl ?_
  refine hp_get C fl_X5_31_5 dX5_worker_59 (K.isT.mk 4 9) ((va_up_ne _ _ (Nat.ne_of_lt K.isT.2.1)).trans K.f163) ?_
  refine hp_aloadR C dX5_worker_62 rfl ?_
  refine hp_iload_n C dX5_worker_64 rfl ?_
  refine hp_iload_n C dX5_worker_65 rfl ?_
  refine hp_iload C dX5_worker_66 rfl ?_
  refine hp_iload C dX5_worker_68 rfl ?_
  refine hp_iload C dX5_worker_70 rfl ?_
  refine hp_callI C ml_X5_85 im_X4_init rfl (kc_woJ (d := d - 1) (by omega) (hp_isN hn0 4 9) ((K.isK hp hpk).mk 4 9) ((va_up_ne _ _ (Nat.ne_of_lt (K.isK hp hpk).2.1)).trans (K.f66 hp))) (by omega) dX5_worker_72 rfl rfl (by simp [Value.category]) (fun v_1 h_1 hp_ => ?_)
  obtain ⟨rfl, e_1⟩ := hp_
  rw [e_1]
  refine hp_astore (r := some _) C dX5_worker_75 (by decide) ?_
  refine hp_aload_nR C dX5_worker_77 rfl ?_
  refine hp_aloadR C dX5_worker_78 rfl ?_
  refine hp_aloadR C dX5_worker_80 rfl ?_
  have hfg : hp_fg 0 h (kc_Work (hp_mk h 4 9) (hp_nx h) (nI (a_mk a)) (some (κ.1 0 p)) (Int32.ofInt (a_nd a 2 p) + 1) kn pa st sp fa) := (hp_fg.rf.mk 4 9).work _ _ _ _ _ _ _ _ (Nat.le_refl _)
  have F64 : hp_fl (kc_Work (hp_mk h 4 9) (hp_nx h) (nI (a_mk a)) (some (κ.1 0 p)) (Int32.ofInt (a_nd a 2 p) + 1) kn pa st sp fa) 64 (hp_nx h) = .int (nI (a_mk a)) := kc_Work_f64
  have Fi : hp_is G (kc_Work (hp_mk h 4 9) (hp_nx h) (nI (a_mk a)) (some (κ.1 0 p)) (Int32.ofInt (a_nd a 2 p) + 1) kn pa st sp fa) (hp_nx h) 4 := ⟨hn0, by show hp_nx h < hp_nx h + 1; omega, va_up_self _ _ _⟩
  have Fn : hp_nx (kc_Work (hp_mk h 4 9) (hp_nx h) (nI (a_mk a)) (some (κ.1 0 p)) (Int32.ofInt (a_nd a 2 p) + 1) kn pa st sp fa) = hp_nx h + 1 := rfl
  have Fs : hp_sl (kc_Work (hp_mk h 4 9) (hp_nx h) (nI (a_mk a)) (some (κ.1 0 p)) (Int32.ofInt (a_nd a 2 p) + 1) kn pa st sp fa) = hp_sl h + 9 := rfl
  generalize hH2 : (kc_Work (hp_mk h 4 9) (hp_nx h) (nI (a_mk a)) (some (κ.1 0 p)) (Int32.ofInt (a_nd a 2 p) + 1) kn pa st sp fa) = h2 at *
  have old : ∀ b, b < hp_nx h → hp_kd h2 b = hp_kd h b ∧ hp_ln h2 b = hp_ln h b ∧ (∀ f, hp_fl h2 f b = hp_fl h f b) ∧ hp_ar h2 b = hp_ar h b := fun b hb => hfg.2 b (Nat.zero_le _) hb
  have iso : ∀ b k, hp_is G h b k → hp_is G h2 b k := fun b k z => ⟨z.1, by have := z.2.1; omega, (old b z.2.1).1.trans z.2.2⟩
  have flo : ∀ b, b < hp_nx h → ∀ f v, hp_fl h f b = v → hp_fl h2 f b = v := fun b hb f v z => ((old b hb).2.2.1 f).trans z
  have he : (a_rw a p = [] ∧ κ.1 2 p = hp_dE G) ∨ (k_is G pr h (κ.1 2 p) 13 ∧ (a_rw a p).length ≤ hp_ln h (κ.1 2 p)) := K.isE hp hpk
  have hel : hp_els G h2 (hp_ar h2 (κ.1 2 p)) (a_rw a p).length := fun i hi => by
    obtain ⟨hc, -, -⟩ := T.rc hp (k_rc T hp hi)
    have ea : hp_ar h2 (κ.1 2 p) i = .ref (κ.1 0 ((a_rw a p).getD i 0)) := by
      rw [(old _ (K.isE2 hp hpk hi).1.1.2.1).2.2.2]
      exact K.elt hp hpk hi
    rcases T.kb hc with hb_ | hb_
    · exact Or.inr ⟨_, 4, _, ea, iso _ _ (K.isW hc hb_), by decide, rfl, by decide⟩
    · exact Or.inr ⟨_, 2, _, ea, iso _ _ (K.isK hc hb_), by decide, rfl, by decide⟩
  have hE2 : ((a_rw a p).length = 0 ∧ κ.1 2 p = hp_dE G) ∨ (hp_is G h2 (κ.1 2 p) 13 ∧ (a_rw a p).length ≤ hp_ln h2 (κ.1 2 p)) := by
    rcases he with z | z
    · exact Or.inl ⟨by rw [z.1]; rfl, z.2⟩
    · exact Or.inr ⟨iso _ _ z.1.1, by rw [(old _ z.1.1.2.1).2.1]; exact z.2⟩
  have hqe : κ.1 2 p ≠ κ.1 5 7 := fun z => by
    rcases he with e | e
    · have z1 := K.isM.1.1
      rw [← z, e.2] at z1
      have := hp_dlt C
      omega
    · have z2 := e.1.1.2.2
      have z1 := K.isM.1.2.2
      rw [z, z1] at z2
      cases z2
  refine hp_callV (ci := 5) C ml_X5_72 im_X5_join se_X5_join rfl (by decide) (kj_join (d := d - 1) (mc := κ.2.1 p) (ci := 4) (iso _ _ K.isT) (flo _ K.isT.2.1 _ _ K.f161) (iso _ _ K.isM.1) ((old _ K.isM.1.2.1).2.1.trans K.isM.2) h80 F64 (iso _ _ (K.isK hp hpk)) (flo _ (K.isK hp hpk).2.1 _ _ (K.f69 hp hpk)) (flo _ K.isT.2.1 _ _ K.f163) (iso _ _ (K.isL hp hpk)) (flo _ (K.isL hp hpk).2.1 _ _ (K.f0 hp hpk)) (flo _ (K.isL hp hpk).2.1 _ _ (K.f1 hp hpk)) (flo _ (K.isL hp hpk).2.1 _ _ (K.f2 hp hpk)) hE2 hqe hel (T.rl hp) Fi (by decide) rfl (by decide) (by decide) fl_X5_167_4 rfl ⟨by omega, by omega⟩ (by omega)) (by omega) dX5_worker_82 (iso _ _ K.isT) rfl rfl (by simp [Value.category]) (fun v_2 h_2 hp_ => ?_) (fun _ _ hf => hf.elim)
  obtain ⟨rfl, h3_, A_, e_2⟩ := hp_
  rw [e_2]
  rw [← hH2] at A_
  obtain ⟨κ1, K1, g0, g5, gx⟩ := K.mkW T (hp_dlt C) hp hpk h80 A_
  generalize hp_put h3_ 163 (κ.1 5 0) (.int (nI (a_mk a + 1))) = H1 at K1 ⊢
  clear A_ hel hE2 hqe iso flo old hH2 Fi F64 hfg
  have T1 : a_T (a_add p (a_vW p (a_nd a 2 p) kn.toInt pa.toInt st.toInt sp.toInt fa.toInt) a) := a_add_T T hp hpk h80 h8 (Or.inl rfl) rfl rfl rfl hk (by show (0 : Int) ≤ 0 ∧ (0 : Int) ≤ 2; omega) (by show (0 : Int) ≤ 0 ∧ (0 : Int) ≤ 50; omega) (by show (0 : Int) ≤ 0 ∧ (0 : Int) ≤ 1000; omega) hb.1 hb.2.1 hb.2.2.1 hb.2.2.2
  have e3p : a_nd (a_add p (a_vW p (a_nd a 2 p) kn.toInt pa.toInt st.toInt sp.toInt fa.toInt) a) 3 p = a_nd a 3 p := if_neg (Nat.ne_of_lt hp)
  have hnn : ∀ f, a_nd (a_add p (a_vW p (a_nd a 2 p) kn.toInt pa.toInt st.toInt sp.toInt fa.toInt) a) f (a_mk a) = (a_vW p (a_nd a 2 p) kn.toInt pa.toInt st.toInt sp.toInt fa.toInt) f := fun f => if_pos rfl
  have hnk : a_nd (a_add p (a_vW p (a_nd a 2 p) kn.toInt pa.toInt st.toInt sp.toInt fa.toInt) a) 0 (a_mk a) = 0 := hnn 0
  have hn1 : a_mk a < a_mk (a_add p (a_vW p (a_nd a 2 p) kn.toInt pa.toInt st.toInt sp.toInt fa.toInt) a) := Nat.lt_succ_self _
  have hp1 : p < a_mk (a_add p (a_vW p (a_nd a 2 p) kn.toInt pa.toInt st.toInt sp.toInt fa.toInt) a) := Nat.lt_succ_of_lt hp
  have hpk1 : a_nd (a_add p (a_vW p (a_nd a 2 p) kn.toInt pa.toInt st.toInt sp.toInt fa.toInt) a) 0 p = 1 := (if_neg (Nat.ne_of_lt hp)).trans hpk
  have r3 := T.r3 hp
  have r2 := T1.r2 hn1
  have hfu : (9 : Int) ≤ (a_fu (a_add p (a_vW p (a_nd a 2 p) kn.toInt pa.toInt st.toInt sp.toInt fa.toInt) a) (a_mk a) : Int) + a_nd (a_add p (a_vW p (a_nd a 2 p) kn.toInt pa.toInt st.toInt sp.toInt fa.toInt) a) 2 (a_mk a) := by
    have e : a_fu (a_add p (a_vW p (a_nd a 2 p) kn.toInt pa.toInt st.toInt sp.toInt fa.toInt) a) (a_mk a) = (9 - a_nd (a_add p (a_vW p (a_nd a 2 p) kn.toInt pa.toInt st.toInt sp.toInt fa.toInt) a) 2 (a_mk a)).toNat := rfl
    omega
  have hfu9 : a_fu (a_add p (a_vW p (a_nd a 2 p) kn.toInt pa.toInt st.toInt sp.toInt fa.toInt) a) (a_mk a) ≤ 9 := by
    have e : a_fu (a_add p (a_vW p (a_nd a 2 p) kn.toInt pa.toInt st.toInt sp.toInt fa.toInt) a) (a_mk a) = (9 - a_nd (a_add p (a_vW p (a_nd a 2 p) kn.toInt pa.toInt st.toInt sp.toInt fa.toInt) a) 2 (a_mk a)).toNat := rfl
    omega
  generalize ha1 : a_add p (a_vW p (a_nd a 2 p) kn.toInt pa.toInt st.toInt sp.toInt fa.toInt) a = a1 at *
  refine hp_aloadR C dX5_worker_85 (show (_ : Option Value) = some (Value.ref (κ1.1 0 p)) from by rw [g0 p hp]; rfl) ?_
  refine hp_get C fl_X5_45_2 dX5_worker_87 (K1.isK hp1 hpk1) (K1.f68 hp1) ?_
  refine hp_iconst (v := 1) C dX5_worker_90 (by decide) ?_
  refine hp_icmp_ne (tgt := 120) C dX5_worker_91 (by decide) (fun c_91 => ?_) (fun c_91 => ?_)
  · have hu : ¬ a_nd a 3 p = 1 := fun e => c_91 (by rw [e3p, e]; decide)
    rw [if_neg hu]
    refine hp_aloadR C dX5_worker_120 (show (_ : Option Value) = some (Value.ref (κ1.1 0 (a_mk a))) from by rw [gx]; rfl) ?_
    refine hp_get C fl_X5_93_4 dX5_worker_122 (K1.isW hn1 hnk) (K1.f64 hn1) ?_
    refine hp_iret C hr (by first | rfl | decide) dX5_worker_125 ?_
    exact ⟨rfl, κ1, K1, g5⟩
  · have hu : a_nd a 3 p = 1 := by
      rw [← e3p]
      exact (a_ofI_eq (x := a_nd a1 3 p) (y := 1) (by rw [e3p]; omega) (by omega)).mp c_91
    rw [if_pos hu] at hl ⊢
    have kg := a_go_kp (a_fu a1 (a_mk a)) (a_mk a) a1
    have hRW := kc_riseW (l := M.2.1) (d := d - 1) (q := a_fu a1 (a_mk a) - 1) K1 T1 hn1 hnk (hlx hu) (by omega)
    rw [show a_fu a1 (a_mk a) - 1 + 1 = a_fu a1 (a_mk a) by omega] at hRW
    refine hp_aloadR C dX5_worker_94 (show (_ : Option Value) = some (Value.ref (κ1.1 0 (a_mk a))) from by rw [gx]; rfl) ?_
    refine hp_aload_nR C dX5_worker_96 (show (_ : Option Value) = some (Value.ref (κ1.1 5 0)) from by rw [g5]; rfl) ?_
    refine hp_get C fl_X5_10_5 dX5_worker_97 K1.isT K1.f160 ?_
    refine hp_callV (ci := 4) C ml_X5_88 im_X4_rise se_X4_rise rfl (by decide) hRW (by omega) dX5_worker_100 (K1.isW hn1 hnk) rfl rfl (by simp [Value.category]) (fun v_100 h_100 hp_ => ?_) (fun _ _ hf => hf.elim)
    obtain ⟨rfl, ρ1, K_100⟩ := hp_
    refine hp_if_ne (tgt := 120) C dX5_worker_103 (by decide) (fun c_103 => ?_) (fun c_103 => ?_)
    · have hg : (a_go (a_fu a1 (a_mk a)) (a_mk a) a1).1 = true := Classical.byContradiction (fun z => c_103 (if_neg z))
      rw [if_pos hg]
      refine hp_aloadR C dX5_worker_120 (show (_ : Option Value) = some (Value.ref (κ1.1 0 (a_mk a))) from by rw [gx]; rfl) ?_
      refine hp_get C fl_X5_93_4 dX5_worker_122 (K_100.isW (by rw [kg.mk]; exact hn1) (by rw [kg.nd]; exact hnk)) (K_100.f64 (by rw [kg.mk]; exact hn1)) ?_
      refine hp_iret C hr (by first | rfl | decide) dX5_worker_125 ?_
      exact ⟨rfl, (κ1.1, κ1.2.1, ρ1), K_100, g5⟩
    · have hg : ¬ (a_go (a_fu a1 (a_mk a)) (a_mk a) a1).1 = true := fun z => absurd (c_103.symm.trans (if_pos z)) (by decide)
      rw [if_neg hg] at hl ⊢
      have hmp : a_mk a ∈ a_rw (a_go (a_fu a1 (a_mk a)) (a_mk a) a1).2 p := by
        rw [kg.rw', ← ha1]
        show a_mk a ∈ va_up (va_up (a_rw a) (a_mk a) []) p (a_rw a p ++ [a_mk a]) p
        rw [va_up_self]
        exact List.mem_append_right _ (List.mem_singleton.mpr rfl)
      have hix := a_ix_ok hmp
      have hl2 : (a_ev (a_go (a_fu a1 (a_mk a)) (a_mk a) a1).2).length < 2 ^ 30 := Nat.lt_of_le_of_lt (a_dis_k2 _ _ _ _ _).ev hl
      refine hp_aloadR C dX5_worker_106 (show (_ : Option Value) = some (Value.ref (κ1.1 0 p)) from by rw [g0 p hp]; rfl) ?_
      refine hp_aloadR C dX5_worker_108 (show (_ : Option Value) = some (Value.ref (κ1.1 0 (a_mk a))) from by rw [gx]; rfl) ?_
      refine hp_aload_nR C dX5_worker_110 (show (_ : Option Value) = some (Value.ref (κ1.1 5 0)) from by rw [g5]; rfl) ?_
      refine hp_get C fl_X5_10_5 dX5_worker_111 K_100.isT K_100.f160 ?_
      refine hp_callV (ci := 2) C ml_X5_89 im_X1_dismiss se_X1_dismiss rfl (by decide) (kc_dismiss (d := d - 1) (f := a_fu a1 (a_mk a)) (c := a_mk a) (t := a_ix (a_mk a) (a_rw (a_go (a_fu a1 (a_mk a)) (a_mk a) a1).2 p)) (γ := κ1.1) (μ := κ1.2.1) (ρ := ρ1) K_100 (kg.T T1) (by rw [kg.mk]; exact hp1) (by rw [kg.nd]; exact hpk1) hix.1 hix.2.1 (by rw [kg.nd]; exact hfu) (by omega) hl2) (by omega) dX5_worker_114 (K_100.isK (by rw [kg.mk]; exact hp1) (by rw [kg.nd]; exact hpk1)) rfl rfl (by simp [Value.category]) (fun v_114 h_114 hp_ => ?_) (fun _ _ hf => hf.elim)
      obtain ⟨rfl, μ1, K_114⟩ := hp_
      refine hp_pop C dX5_worker_117 rfl ?_
      refine hp_iconst (v := (-1)) C dX5_worker_118 (by decide) ?_
      refine hp_iret C hr (by first | rfl | decide) dX5_worker_119 ?_
      exact ⟨rfl, (κ1.1, μ1, ρ1), K_114, g5⟩
