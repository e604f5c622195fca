/-! ===== what a constructor leaves; join ===== -/
section FG
/-- cells from a on that were there are as they were -/
def hp_fg (a : Nat) (h h1 : hpT) : Prop := hp_nx h ≤ hp_nx h1 ∧ ∀ b, a ≤ b → b < hp_nx h → hp_kd h1 b = hp_kd h b ∧ hp_ln h1 b = hp_ln h b ∧ (∀ f, hp_fl h1 f b = hp_fl h f b) ∧ hp_ar h1 b = hp_ar h b
variable {a : Nat} {h h1 : hpT}
theorem hp_fg.rf : hp_fg a h h := ⟨Nat.le_refl _, fun _ _ _ => ⟨rfl, rfl, fun _ => rfl, rfl⟩⟩
theorem hp_fg.put (x : hp_fg a h h1) (f : Nat) {b : Nat} (v : Value) (c : b < a ∨ hp_nx h ≤ b) : hp_fg a h (hp_put h1 f b v) := by
  refine ⟨x.1, fun q h2 h3 => ?_⟩
  obtain ⟨e1, e2, e3, e4⟩ := x.2 q h2 h3
  refine ⟨e1, e2, fun g => ?_, e4⟩
  rw [hp_put_fl, if_neg (show ¬ q = b by omega)]
  split
  · rename_i e; rw [e3, e]
  · exact e3 g
theorem hp_fg.set (x : hp_fg a h h1) (i : Nat) {b : Nat} (v : Value) (c : b < a ∨ hp_nx h ≤ b) : hp_fg a h (hp_set h1 b i v) := by
  refine ⟨x.1, fun q h2 h3 => ?_⟩
  obtain ⟨e1, e2, e3, e4⟩ := x.2 q h2 h3
  exact ⟨e1, e2, e3, (va_up_ne _ _ (by omega)).trans e4⟩
theorem hp_fg.mk (x : hp_fg a h h1) (c n : Nat) : hp_fg a h (hp_mk h1 c n) := by
  refine ⟨Nat.le_succ_of_le x.1, fun q h2 h3 => ?_⟩
  obtain ⟨e1, e2, e3, e4⟩ := x.2 q h2 h3
  have hq : ¬ q = hp_nx h1 := by have := x.1; omega
  exact ⟨(va_up_ne _ _ hq).trans e1, e2, fun f => (va_up_ne _ _ hq).trans (e3 f), e4⟩
theorem hp_fg.mkA (x : hp_fg a h h1) (t n : Nat) (v : Value) : hp_fg a h (hp_mkA h1 t n v) := by
  refine ⟨Nat.le_succ_of_le x.1, fun q h2 h3 => ?_⟩
  obtain ⟨e1, e2, e3, e4⟩ := x.2 q h2 h3
  have hq : ¬ q = hp_nx h1 := by have := x.1; omega
  exact ⟨(va_up_ne _ _ hq).trans e1, (va_up_ne _ _ hq).trans e2, e3, (va_up_ne _ _ hq).trans e4⟩
theorem hp_fg.node (x : hp_fg a h h1) (ci : Nat) {b : Nat} (n : Int32) (ow : Option Nat) (dp kn : Int32) (c : hp_nx h ≤ b) : hp_fg a h (kc_Node ci h1 b n ow dp kn) := ((((x.put _ _ (Or.inr c)).put _ _ (Or.inr c)).put _ _ (Or.inr c)).put _ _ (Or.inr c)).put _ _ (Or.inr c)
theorem hp_fg.arr (x : hp_fg a h h1) (G : hpG) {b : Nat} (c : hp_nx h ≤ b) : hp_fg a h (kc_Arr G h1 b) := (x.put _ _ (Or.inr c)).put _ _ (Or.inr c)
theorem hp_fg.rt (x : hp_fg a h h1) {b : Nat} (c : hp_nx h ≤ b) : hp_fg a h (kc_RT h1 b) := ((x.mkA _ _ _).put _ _ (Or.inr c)).put _ _ (Or.inr c)
theorem hp_fg.keep (x : hp_fg a h h1) (G : hpG) {b : Nat} (n : Int32) (ow : Option Nat) (dp kn sg r t : Int32) (c : hp_nx h ≤ b) : hp_fg a h (kc_Keep G h1 b n ow dp kn sg r t) := by
  have c1 : hp_nx h ≤ hp_nx h1 := x.1
  have c2 : hp_nx h ≤ hp_nx h1 + 1 := Nat.le_succ_of_le c1
  exact ((((((((((x.node 2 n ow dp kn c).mk 0 3).arr G c1).put _ _ (Or.inr c)).mk 3 2).rt c2).put _ _ (Or.inr c)).put _ _ (Or.inr c)).put _ _ (Or.inr c)).put _ _ (Or.inr c))
end FG
theorem hp_fg.work {a : Nat} {h h1 : hpT} (x : hp_fg a h h1) {u : Nat} (n : Int32) (ow : Option Nat) (dp kn p b e f : Int32) (c : hp_nx h ≤ u) : hp_fg a h (kc_Work h1 u n ow dp kn p b e f) := ((((x.node 4 n ow dp kn c).put _ _ (Or.inr c)).put _ _ (Or.inr c)).put _ _ (Or.inr c)).put _ _ (Or.inr c)
theorem hp_mk_fl (h : hpT) (c n f b : Nat) : hp_fl (hp_mk h c n) f b = if b = hp_nx h then hp_dv c f else hp_fl h f b := rfl
theorem hp_mkA_fl (h : hpT) (t n f b : Nat) (v : Value) : hp_fl (hp_mkA h t n v) f b = hp_fl h f b := rfl
theorem hp_mk_nx (h : hpT) (c n : Nat) : hp_nx (hp_mk h c n) = hp_nx h + 1 := rfl
theorem hp_put_nx (h : hpT) (f b : Nat) (v : Value) : hp_nx (hp_put h f b v) = hp_nx h := rfl
theorem hp_put_kd (h : hpT) (f b : Nat) (v : Value) : hp_kd (hp_put h f b v) = hp_kd h := rfl
theorem hp_put_ln (h : hpT) (f b : Nat) (v : Value) : hp_ln (hp_put h f b v) = hp_ln h := rfl
theorem hp_put_sl (h : hpT) (f b : Nat) (v : Value) : hp_sl (hp_put h f b v) = hp_sl h := rfl
section KCF
variable {G : hpG} {h : hpT} {a : Nat} {n : Int32} {ow : Option Nat} {dp kn sg r t : Int32}
theorem kc_Node_fl {ci : Nat} (f b : Nat) : hp_fl (kc_Node ci h a n ow dp kn) f b = if f = hp_fd ci 3 then (if b = a then .int kn else hp_fl (hp_put (hp_put (hp_put (hp_put h (hp_fd ci 4) a (.int 0)) (hp_fd ci 0) a (.int n)) (hp_fd ci 1) a (va_rf ow)) (hp_fd ci 2) a (.int dp)) (hp_fd ci 3) b) else hp_fl (hp_put (hp_put (hp_put (hp_put h (hp_fd ci 4) a (.int 0)) (hp_fd ci 0) a (.int n)) (hp_fd ci 1) a (va_rf ow)) (hp_fd ci 2) a (.int dp)) f b := hp_put_fl _ _ _ _ _ _
theorem kc_Keep_nx : hp_nx (kc_Keep G h a n ow dp kn sg r t) = hp_nx h + 3 := rfl
theorem kc_Keep_sl : hp_sl (kc_Keep G h a n ow dp kn sg r t) = hp_sl h + 13 := rfl
theorem kc_Keep_kd (b : Nat) : hp_kd (kc_Keep G h a n ow dp kn sg r t) b = va_up (va_up (va_up (hp_kd h) (hp_nx h) 0) (hp_nx h + 1) 3) (hp_nx h + 2) 10 b := rfl
theorem kc_Keep_ln (b : Nat) : hp_ln (kc_Keep G h a n ow dp kn sg r t) b = va_up (hp_ln h) (hp_nx h + 2) 8 b := rfl
theorem kc_Keep_f64 (ha : a < hp_nx h) : hp_fl (kc_Keep G h a n ow dp kn sg r t) 64 a = .int n := by
  have n1 : ¬ a = hp_nx h := by omega
  have n2 : ¬ a = hp_nx h + 1 := by omega
  have n3 : ¬ hp_nx h = a := by omega
  have n4 : ¬ hp_nx h + 1 = a := by omega
  unfold kc_Keep kc_RT kc_Arr kc_AL kc_Node
  simp [hp_put_fl, hp_mk_fl, hp_mkA_fl, hp_mk_nx, hp_put_nx, hp_fd, n1, n2, n3, n4, hp_dv, hp_ty, tyJx4a65c]
theorem kc_Keep_f65 (ha : a < hp_nx h) : hp_fl (kc_Keep G h a n ow dp kn sg r t) 65 a = va_rf ow := by
  have n1 : ¬ a = hp_nx h := by omega
  have n2 : ¬ a = hp_nx h + 1 := by omega
  have n3 : ¬ hp_nx h = a := by omega
  have n4 : ¬ hp_nx h + 1 = a := by omega
  unfold kc_Keep kc_RT kc_Arr kc_AL kc_Node
  simp [hp_put_fl, hp_mk_fl, hp_mkA_fl, hp_mk_nx, hp_put_nx, hp_fd, n1, n2, n3, n4, hp_dv, hp_ty, tyJx4a65c]
theorem kc_Keep_f66 (ha : a < hp_nx h) : hp_fl (kc_Keep G h a n ow dp kn sg r t) 66 a = .int dp := by
  have n1 : ¬ a = hp_nx h := by omega
  have n2 : ¬ a = hp_nx h + 1 := by omega
  have n3 : ¬ hp_nx h = a := by omega
  have n4 : ¬ hp_nx h + 1 = a := by omega
  unfold kc_Keep kc_RT kc_Arr kc_AL kc_Node
  simp [hp_put_fl, hp_mk_fl, hp_mkA_fl, hp_mk_nx, hp_put_nx, hp_fd, n1, n2, n3, n4, hp_dv, hp_ty, tyJx4a65c]
theorem kc_Keep_f67 (ha : a < hp_nx h) : hp_fl (kc_Keep G h a n ow dp kn sg r t) 67 a = .int kn := by
  have n1 : ¬ a = hp_nx h := by omega
  have n2 : ¬ a = hp_nx h + 1 := by omega
  have n3 : ¬ hp_nx h = a := by omega
  have n4 : ¬ hp_nx h + 1 = a := by omega
  unfold kc_Keep kc_RT kc_Arr kc_AL kc_Node
  simp [hp_put_fl, hp_mk_fl, hp_mkA_fl, hp_mk_nx, hp_put_nx, hp_fd, n1, n2, n3, n4, hp_dv, hp_ty, tyJx4a65c]
theorem kc_Keep_f68 (ha : a < hp_nx h) : hp_fl (kc_Keep G h a n ow dp kn sg r t) 68 a = .int 0 := by
  have n1 : ¬ a = hp_nx h := by omega
  have n2 : ¬ a = hp_nx h + 1 := by omega
  have n3 : ¬ hp_nx h = a := by omega
  have n4 : ¬ hp_nx h + 1 = a := by omega
  unfold kc_Keep kc_RT kc_Arr kc_AL kc_Node
  simp [hp_put_fl, hp_mk_fl, hp_mkA_fl, hp_mk_nx, hp_put_nx, hp_fd, n1, n2, n3, n4, hp_dv, hp_ty, tyJx4a65c]
theorem kc_Keep_f69 (ha : a < hp_nx h) : hp_fl (kc_Keep G h a n ow dp kn sg r t) 69 a = .ref (hp_nx h) := by
  have n1 : ¬ a = hp_nx h := by omega
  have n2 : ¬ a = hp_nx h + 1 := by omega
  have n3 : ¬ hp_nx h = a := by omega
  have n4 : ¬ hp_nx h + 1 = a := by omega
  unfold kc_Keep kc_RT kc_Arr kc_AL kc_Node
  simp [hp_put_fl, hp_mk_fl, hp_mkA_fl, hp_mk_nx, hp_put_nx, hp_fd, n1, n2, n3, n4, hp_dv, hp_ty, tyJx4a65c]
theorem kc_Keep_f70 (ha : a < hp_nx h) : hp_fl (kc_Keep G h a n ow dp kn sg r t) 70 a = .ref (hp_nx h + 1) := by
  have n1 : ¬ a = hp_nx h := by omega
  have n2 : ¬ a = hp_nx h + 1 := by omega
  have n3 : ¬ hp_nx h = a := by omega
  have n4 : ¬ hp_nx h + 1 = a := by omega
  unfold kc_Keep kc_RT kc_Arr kc_AL kc_Node
  simp [hp_put_fl, hp_mk_fl, hp_mkA_fl, hp_mk_nx, hp_put_nx, hp_fd, n1, n2, n3, n4, hp_dv, hp_ty, tyJx4a65c]
theorem kc_Keep_f71 (ha : a < hp_nx h) : hp_fl (kc_Keep G h a n ow dp kn sg r t) 71 a = .int sg := by
  have n1 : ¬ a = hp_nx h := by omega
  have n2 : ¬ a = hp_nx h + 1 := by omega
  have n3 : ¬ hp_nx h = a := by omega
  have n4 : ¬ hp_nx h + 1 = a := by omega
  unfold kc_Keep kc_RT kc_Arr kc_AL kc_Node
  simp [hp_put_fl, hp_mk_fl, hp_mkA_fl, hp_mk_nx, hp_put_nx, hp_fd, n1, n2, n3, n4, hp_dv, hp_ty, tyJx4a65c]
theorem kc_Keep_f72 (ha : a < hp_nx h) : hp_fl (kc_Keep G h a n ow dp kn sg r t) 72 a = .int r := by
  have n1 : ¬ a = hp_nx h := by omega
  have n2 : ¬ a = hp_nx h + 1 := by omega
  have n3 : ¬ hp_nx h = a := by omega
  have n4 : ¬ hp_nx h + 1 = a := by omega
  unfold kc_Keep kc_RT kc_Arr kc_AL kc_Node
  simp [hp_put_fl, hp_mk_fl, hp_mkA_fl, hp_mk_nx, hp_put_nx, hp_fd, n1, n2, n3, n4, hp_dv, hp_ty, tyJx4a65c]
theorem kc_Keep_f73 (ha : a < hp_nx h) : hp_fl (kc_Keep G h a n ow dp kn sg r t) 73 a = .int t := by
  have n1 : ¬ a = hp_nx h := by omega
  have n2 : ¬ a = hp_nx h + 1 := by omega
  have n3 : ¬ hp_nx h = a := by omega
  have n4 : ¬ hp_nx h + 1 = a := by omega
  unfold kc_Keep kc_RT kc_Arr kc_AL kc_Node
  simp [hp_put_fl, hp_mk_fl, hp_mkA_fl, hp_mk_nx, hp_put_nx, hp_fd, n1, n2, n3, n4, hp_dv, hp_ty, tyJx4a65c]
theorem kc_Keep_f0 (ha : a < hp_nx h) : hp_fl (kc_Keep G h a n ow dp kn sg r t) 0 (hp_nx h) = .int 0 := by
  have n1 : ¬ a = hp_nx h := by omega
  have n2 : ¬ a = hp_nx h + 1 := by omega
  have n3 : ¬ hp_nx h = a := by omega
  have n4 : ¬ hp_nx h + 1 = a := by omega
  unfold kc_Keep kc_RT kc_Arr kc_AL kc_Node
  simp [hp_put_fl, hp_mk_fl, hp_mkA_fl, hp_mk_nx, hp_put_nx, hp_fd, n1, n2, n3, n4, hp_dv, hp_ty, tyJx4a65c]
theorem kc_Keep_f1 (ha : a < hp_nx h) : hp_fl (kc_Keep G h a n ow dp kn sg r t) 1 (hp_nx h) = .ref (hp_dE G) := by
  have n1 : ¬ a = hp_nx h := by omega
  have n2 : ¬ a = hp_nx h + 1 := by omega
  have n3 : ¬ hp_nx h = a := by omega
  have n4 : ¬ hp_nx h + 1 = a := by omega
  unfold kc_Keep kc_RT kc_Arr kc_AL kc_Node
  simp [hp_put_fl, hp_mk_fl, hp_mkA_fl, hp_mk_nx, hp_put_nx, hp_fd, n1, n2, n3, n4, hp_dv, hp_ty, tyJx4a65c]
theorem kc_Keep_f2 (ha : a < hp_nx h) : hp_fl (kc_Keep G h a n ow dp kn sg r t) 2 (hp_nx h) = .int 0 := by
  have n1 : ¬ a = hp_nx h := by omega
  have n2 : ¬ a = hp_nx h + 1 := by omega
  have n3 : ¬ hp_nx h = a := by omega
  have n4 : ¬ hp_nx h + 1 = a := by omega
  unfold kc_Keep kc_RT kc_Arr kc_AL kc_Node
  simp [hp_put_fl, hp_mk_fl, hp_mkA_fl, hp_mk_nx, hp_put_nx, hp_fd, n1, n2, n3, n4, hp_dv, hp_ty, tyJx4a65c]
  rfl
theorem kc_Keep_f96 (ha : a < hp_nx h) : hp_fl (kc_Keep G h a n ow dp kn sg r t) 96 (hp_nx h + 1) = .ref (hp_nx h + 2) := by
  have n1 : ¬ a = hp_nx h := by omega
  have n2 : ¬ a = hp_nx h + 1 := by omega
  have n3 : ¬ hp_nx h = a := by omega
  have n4 : ¬ hp_nx h + 1 = a := by omega
  unfold kc_Keep kc_RT kc_Arr kc_AL kc_Node
  simp [hp_put_fl, hp_mk_fl, hp_mkA_fl, hp_mk_nx, hp_put_nx, hp_fd, n1, n2, n3, n4, hp_dv, hp_ty, tyJx4a65c]
theorem kc_Keep_f97 (ha : a < hp_nx h) : hp_fl (kc_Keep G h a n ow dp kn sg r t) 97 (hp_nx h + 1) = .int 0 := by
  have n1 : ¬ a = hp_nx h := by omega
  have n2 : ¬ a = hp_nx h + 1 := by omega
  have n3 : ¬ hp_nx h = a := by omega
  have n4 : ¬ hp_nx h + 1 = a := by omega
  unfold kc_Keep kc_RT kc_Arr kc_AL kc_Node
  simp [hp_put_fl, hp_mk_fl, hp_mkA_fl, hp_mk_nx, hp_put_nx, hp_fd, n1, n2, n3, n4, hp_dv, hp_ty, tyJx4a65c]
end KCF
section KCW
variable {h : hpT} {a : Nat} {n : Int32} {ow : Option Nat} {dp kn p b e f : Int32}
theorem kc_Work_nx : hp_nx (kc_Work h a n ow dp kn p b e f) = hp_nx h := rfl
theorem kc_Work_sl : hp_sl (kc_Work h a n ow dp kn p b e f) = hp_sl h := rfl
theorem kc_Work_kd (b_ : Nat) : hp_kd (kc_Work h a n ow dp kn p b e f) b_ = hp_kd h b_ := rfl
theorem kc_Work_f64 : hp_fl (kc_Work h a n ow dp kn p b e f) 64 a = .int n := by
  unfold kc_Work kc_Node
  simp [hp_put_fl, hp_fd]
theorem kc_Work_f65 : hp_fl (kc_Work h a n ow dp kn p b e f) 65 a = va_rf ow := by
  unfold kc_Work kc_Node
  simp [hp_put_fl, hp_fd]
theorem kc_Work_f66 : hp_fl (kc_Work h a n ow dp kn p b e f) 66 a = .int dp := by
  unfold kc_Work kc_Node
  simp [hp_put_fl, hp_fd]
theorem kc_Work_f67 : hp_fl (kc_Work h a n ow dp kn p b e f) 67 a = .int kn := by
  unfold kc_Work kc_Node
  simp [hp_put_fl, hp_fd]
theorem kc_Work_f68 : hp_fl (kc_Work h a n ow dp kn p b e f) 68 a = .int 0 := by
  unfold kc_Work kc_Node
  simp [hp_put_fl, hp_fd]
theorem kc_Work_f133 : hp_fl (kc_Work h a n ow dp kn p b e f) 133 a = .int p := by
  unfold kc_Work kc_Node
  simp [hp_put_fl, hp_fd]
theorem kc_Work_f134 : hp_fl (kc_Work h a n ow dp kn p b e f) 134 a = .int b := by
  unfold kc_Work kc_Node
  simp [hp_put_fl, hp_fd]
theorem kc_Work_f135 : hp_fl (kc_Work h a n ow dp kn p b e f) 135 a = .int e := by
  unfold kc_Work kc_Node
  simp [hp_put_fl, hp_fd]
theorem kc_Work_f136 : hp_fl (kc_Work h a n ow dp kn p b e f) 136 a = .int f := by
  unfold kc_Work kc_Node
  simp [hp_put_fl, hp_fd]
end KCW
/-- what an add leaves -/
theorem hp_ad.fx {G : hpG} {h h' : hpT} {r e n x : Nat} (A : hp_ad G h h' r e n x) (hr : r < hp_nx h) (f1 : hp_fl h 1 r = .ref e) : ∃ e1 : Nat, hp_nx h ≤ hp_nx h' ∧ hp_nx h' ≤ hp_nx h + 1 ∧ hp_sl h ≤ hp_sl h' ∧ hp_sl h' ≤ hp_sl h + 130 ∧ (∀ c, c < hp_nx h → hp_kd h' c = hp_kd h c ∧ hp_ln h' c = hp_ln h c) ∧ (∀ f c, c < hp_nx h → ¬ (c = r ∧ (f = 1 ∨ f = 2)) → hp_fl h' f c = hp_fl h f c) ∧ hp_fl h' 1 r = .ref e1 ∧ hp_fl h' 2 r = .int (nI (n + 1)) ∧
    (∀ c, c < hp_nx h → c ≠ e1 → hp_ar h' c = hp_ar h c) ∧ (∀ i, i < n → hp_ar h' e1 i = hp_ar h e i) ∧ hp_ar h' e1 n = .ref x ∧ ((e1 = e ∧ hp_is G h e 13) ∨ e1 = hp_nx h) ∧ hp_kd h' e1 = 13 ∧ e1 < hp_nx h' ∧ n + 1 ≤ hp_ln h' e1 := by
  obtain ⟨h1, e1, hc, rfl⟩ := A
  have ef : ∀ f c, hp_fl (hp_put (hp_set h1 e1 n (.ref x)) 2 r (.int (nI (n + 1)))) f c = va_up (hp_fl h1) 2 (va_up (hp_fl h1 2) r (.int (nI (n + 1)))) f c := fun _ _ => rfl
  have ea : ∀ c i, hp_ar (hp_put (hp_set h1 e1 n (.ref x)) 2 r (.int (nI (n + 1)))) c i = va_up (hp_ar h1) e1 (va_up (hp_ar h1 e1) n (.ref x)) c i := fun _ _ => rfl
  have ek : ∀ c, hp_kd (hp_put (hp_set h1 e1 n (.ref x)) 2 r (.int (nI (n + 1)))) c = hp_kd h1 c := fun _ => rfl
  have el : ∀ c, hp_ln (hp_put (hp_set h1 e1 n (.ref x)) 2 r (.int (nI (n + 1)))) c = hp_ln h1 c := fun _ => rfl
  have en : hp_nx (hp_put (hp_set h1 e1 n (.ref x)) 2 r (.int (nI (n + 1)))) = hp_nx h1 := rfl
  have es : hp_sl (hp_put (hp_set h1 e1 n (.ref x)) 2 r (.int (nI (n + 1)))) = hp_sl h1 := rfl
  generalize hp_put (hp_set h1 e1 n (.ref x)) 2 r (.int (nI (n + 1))) = H at *
  have fne : ∀ f c, ¬ (c = r ∧ f = 2) → hp_fl H f c = hp_fl h1 f c := fun f c hz => by
    rw [ef]
    by_cases e2 : f = 2
    · subst e2
      rw [va_up_self, va_up_ne _ _ (fun z => hz ⟨z, rfl⟩)]
    · rw [va_up_ne _ _ e2]
  have f2 : hp_fl H 2 r = .int (nI (n + 1)) := by rw [ef, va_up_self, va_up_self]
  have an : ∀ c, c ≠ e1 → hp_ar H c = hp_ar h1 c := fun c hc => by funext i; rw [ea, va_up_ne _ _ hc]
  have ai : ∀ i, i < n → hp_ar H e1 i = hp_ar h1 e1 i := fun i hi => by rw [ea, va_up_self, va_up_ne _ _ (by omega)]
  have ax : hp_ar H e1 n = .ref x := by rw [ea, va_up_self, va_up_self]
  rcases hc with ⟨rfl, rfl, z1, z2⟩ | ⟨rfl, L, g1, g2, g3, g4, g5, g6, g7, g8, g9⟩
  · exact ⟨e1, by omega, by omega, by omega, by omega, fun c _ => ⟨ek c, el c⟩, fun f c _ hz => fne f c (fun z => hz ⟨z.1, Or.inr z.2⟩), (fne 1 r (fun z => by omega)).trans f1, f2, fun c _ hce => an c hce, ai, ax, Or.inl ⟨rfl, z1⟩, by rw [ek]; exact z1.2.2, by rw [en]; exact z1.2.1, by rw [el]; exact z2⟩
  · refine ⟨hp_nx h, by omega, by omega, by omega, by omega, fun c hc => ⟨?_, ?_⟩, fun f c hc hz => ?_, ?_, f2, fun c hc hce => (an c hce).trans (g6 c hce), fun i hi => (ai i hi).trans (g7 i hi), ax, Or.inr rfl, ?_, by rw [en, g1]; exact Nat.lt_succ_self _, ?_⟩
    · rw [ek, g3, va_up_ne _ _ (by omega)]
    · rw [el, g4, va_up_ne _ _ (by omega)]
    · rw [fne f c (fun z => hz ⟨z.1, Or.inr z.2⟩), g5, if_neg (fun z => hz ⟨z.2, Or.inl z.1⟩)]
    · rw [fne 1 r (fun z => by omega), g5, if_pos ⟨rfl, rfl⟩]
    · rw [ek, g3, va_up_self]
    · rw [el, g4, va_up_self]; exact g8
set_option maxRecDepth 20000 in
set_option maxHeartbeats 4000000 in
theorem kj_join {l : Launch} {G : hpG} {h : hpT} {d k q r u x n e len ci : Nat} {cn : String} {mc : Int32} (ik : hp_is G h k 5) (g1 : hp_fl h 161 k = .ref q) (iq : hp_is G h q 14) (lq : hp_ln h q = 80) (hn : n < 80) (g64 : hp_fl h 64 x = .int (nI n)) (iu : hp_is G h u 2) (g69 : hp_fl h 69 u = .ref r) (g163 : hp_fl h 163 k = .int (nI n)) (ir : hp_is G h r 0) (f0 : hp_fl h 0 r = .int mc) (f1 : hp_fl h 1 r = .ref e) (f2 : hp_fl h 2 r = .int (nI len)) (hE : (len = 0 ∧ e = hp_dE G) ∨ (hp_is G h e 13 ∧ len ≤ hp_ln h e)) (hqe : e ≠ q) (hel : hp_els G h (hp_ar h e) len) (hl : len ≤ 79) (hx1 : hp_is G h x ci) (hx2 : ci < 10) (hx3 : (vwCl[ci]?).map (fun r => r.1) = some cn) (hx4 : Cond.castable cn "java/lang/Object" ∈ hp_ow) (hx7 : Cond.castable cn "KeeperTree$Node" ∈ hp_ow) (hx8 : hp_FL RX5 167 ci 0) (hx9 : hp_fd ci 0 = 64) (rm : hp_nx h + 1 ≤ hp_n0 G + hp_LC ∧ hp_sl h + 130 ≤ hp_LS) (hd : 7 ≤ d) : hp_C l G yX5_join (.code yX5_join cX5_join 3 none) d [.ref k, .ref x, .ref u] (h) (fun v h' => v = none ∧ ∃ h2, hp_ad G (hp_put (hp_set h q n (.ref x)) 0 r (.int (mc + 1))) h2 r e len x ∧ h' = hp_put h2 163 k (.int (nI (n + 1)))) (fun _ _ => False) := by
  refine hp_ofV (by decide) (by simp [Value.category]) (Nat.le_of_ble_eq_true rfl) (fun M C hr hx el => ?_)
  refine hp_aload_nR C dX5_join_0 rfl ?_
  refine hp_get C fl_X5_18_5 dX5_join_1 ik g1 ?_
  refine hp_aload_nR C dX5_join_4 rfl ?_
  refine hp_get C hx8 dX5_join_5 hx1 ((congrArg (fun f => hp_fl h f x) hx9).trans g64) ?_
  refine hp_aload_nR C dX5_join_8 rfl ?_
  refine hp_aast C 4 ci rfl (by decide) hx7 hx3 hx2 dX5_join_9 iq hx1 (by rw [lq]; exact nI_in hn (by omega)) ?_
  rw [nI_clamp (by omega)]
  have hel2 : hp_els G (hp_set h q n (.ref x)) (hp_ar (hp_set h q n (.ref x)) e) len := by
    have ea : hp_ar (hp_set h q n (.ref x)) e = hp_ar h e := va_up_ne _ _ hqe
    rw [ea]
    exact hel
  refine hp_aload_nR C dX5_join_10 rfl ?_
  refine hp_get C fl_X5_146_2 dX5_join_11 iu g69 ?_
  refine hp_aload_nR C dX5_join_14 rfl ?_
  refine hp_callV (ci := 0) C ml_X5_181 im_Jx4a65c_add_9ea2d se_Jx4a65c_add_9ea2d rfl (by decide) (kj_add (d := d - 1) (h := hp_set h q n (.ref x)) (f0 := f0) ir f1 f2 hE hel2 hl hx1 hx2 hx3 hx4 rm (by omega)) (by omega) dX5_join_15 ir rfl rfl (by simp [Value.category]) (fun v_15 h_15 hp => ?_) (fun _ _ hf => hf.elim)
  obtain ⟨rfl, hA⟩ := hp
  refine hp_pop C dX5_join_18 rfl ?_
  obtain ⟨e1, y1, y2, y3, y4, y5, y6, y7, y8, -⟩ := hA.fx (show r < hp_nx h from ir.2.1) f1
  have ik2 : hp_is G h_15 k 5 := ⟨ik.1, Nat.lt_of_lt_of_le ik.2.1 y1, (y5 k ik.2.1).1.trans ik.2.2⟩
  have g163b : hp_fl h_15 163 k = .int (nI n) := (y6 163 k ik.2.1 (fun z => by omega)).trans g163
  refine hp_aload_nR C dX5_join_19 rfl ?_
  refine hp_dup C dX5_join_20 rfl ?_
  refine hp_get C fl_X5_31_5 dX5_join_21 ik2 g163b ?_
  refine hp_iconst (v := 1) C dX5_join_24 (by decide) ?_
  refine hp_iadd C dX5_join_25 ?_
  rw [nI_1]
  refine hp_putf C fl_X5_31_5 rfl rfl rfl dX5_join_26 ik2 ?_
  refine hp_vret C hr dX5_join_29 ?_
  exact ⟨rfl, h_15, hA, rfl⟩
