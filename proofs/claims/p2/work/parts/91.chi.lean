/-! ===== the reference makes a node ===== -/
def mo_chi (s : moS) (n p c : Nat) (k kind dp : Int32) : moS := mo_up (mo_up (mo_up (mo_up (mo_up (mo_up (mo_pt s 1 (nI n + 1)) 2 n k) 3 n (nI p)) 4 n (dp + 1)) 6 n kind) 14 (80 * p + c) (nI n)) 15 p (nI c + 1)
set_option maxHeartbeats 4000000 in
theorem mo_child {l : Launch} {G : hpG} {h : hpT} {m d : Nat} {s : moS} (sh : mo_sh G h m) {n p c : Nat} {k kind : Int32} (hn : n < 80) (hp : p < 80) (hc : c < 80) (h1 : s.1 1 = nI n) (h15 : s.2 15 p = nI c) (hk : narrow .boolean (.int k) = .int k) : hp_C l G yX6_child (.code yX6_child cX6_child 5 (some .int)) d [.ref m, .int (nI p), .int kind, .int k] (mo_w h m s) (fun v h' => v = some (.int (nI n)) ∧ h' = mo_w h m (mo_chi s n p c k kind (s.2 4 p))) (fun _ _ => False) := by
  refine hp_ofV (by decide) (by simp [Value.category]) (Nat.le_of_ble_eq_true rfl) (fun M C hr hx el => ?_)
  obtain ⟨p1, p2⟩ := nI_80 hp
  obtain ⟨n1, n2⟩ := nI_80 hn
  obtain ⟨q1, q2⟩ := mo_row_in hp hc
  refine hp_aload_nR C dX6_child_0 rfl ?_
  refine mo_getS C sh fl_X6_68_6 rfl (by decide) h1 dX6_child_1 ?_
  refine hp_istore C dX6_child_4 (by decide) ?_
  refine hp_aload_nR C dX6_child_6 rfl ?_
  refine hp_dup C dX6_child_7 rfl ?_
  refine mo_getS C sh fl_X6_68_6 rfl (by decide) h1 dX6_child_8 ?_
  refine hp_iconst (v := 1) C dX6_child_11 (by decide) ?_
  refine hp_iadd C dX6_child_12 ?_
  refine mo_putS C sh fl_X6_68_6 rfl (by decide) rfl rfl rfl dX6_child_13 ?_
  refine hp_aload_nR C dX6_child_16 rfl ?_
  refine mo_getA C sh fl_X6_7_6 rfl (by decide) dX6_child_17 ?_
  refine hp_iload C dX6_child_20 rfl ?_
  refine hp_iload_n C dX6_child_22 rfl ?_
  refine mo_zst C sh hk dX6_child_23 (by exact n1) ?_
  rw [n2]
  refine hp_aload_nR C dX6_child_24 rfl ?_
  refine mo_getA C sh fl_X6_13_6 rfl (by decide) dX6_child_25 ?_
  refine hp_iload C dX6_child_28 rfl ?_
  refine hp_iload_n C dX6_child_30 rfl ?_
  refine mo_ast C sh rfl (by decide) dX6_child_31 (by exact n1) ?_
  rw [n2]
  refine hp_aload_nR C dX6_child_32 rfl ?_
  refine mo_getA C sh fl_X6_17_6 rfl (by decide) dX6_child_33 ?_
  refine hp_iload C dX6_child_36 rfl ?_
  refine hp_aload_nR C dX6_child_38 rfl ?_
  refine mo_getA C sh fl_X6_17_6 rfl (by decide) dX6_child_39 ?_
  refine hp_iload_n C dX6_child_42 rfl ?_
  refine mo_aldv (v := s.2 4 p) C sh rfl (by decide) (by rw [p2]; rfl) dX6_child_43 (by exact p1) ?_
  refine hp_iconst (v := 1) C dX6_child_44 (by decide) ?_
  refine hp_iadd C dX6_child_45 ?_
  refine mo_ast C sh rfl (by decide) dX6_child_46 (by exact n1) ?_
  rw [n2]
  refine hp_aload_nR C dX6_child_47 rfl ?_
  refine mo_getA C sh fl_X6_23_6 rfl (by decide) dX6_child_48 ?_
  refine hp_iload C dX6_child_51 rfl ?_
  refine hp_iload_n C dX6_child_53 rfl ?_
  refine mo_ast C sh rfl (by decide) dX6_child_54 (by exact n1) ?_
  rw [n2]
  refine hp_aload_nR C dX6_child_55 rfl ?_
  refine mo_getA C sh fl_X6_47_6 rfl (by decide) dX6_child_56 ?_
  refine hp_bipush (v := 80) C dX6_child_59 (by decide) ?_
  refine hp_iload_n C dX6_child_61 rfl ?_
  refine hp_imul C dX6_child_62 ?_
  refine hp_aload_nR C dX6_child_63 rfl ?_
  refine mo_getA C sh fl_X6_50_6 rfl (by decide) dX6_child_64 ?_
  refine hp_iload_n C dX6_child_67 rfl ?_
  refine mo_aldv (v := nI c) C sh rfl (by decide) (by rw [p2]; exact h15) dX6_child_68 (by exact p1) ?_
  refine hp_iadd C dX6_child_69 ?_
  refine hp_iload C dX6_child_70 rfl ?_
  refine mo_ast C sh rfl (by decide) dX6_child_72 (by exact q1) ?_
  rw [q2]
  refine hp_aload_nR C dX6_child_73 rfl ?_
  refine mo_getA C sh fl_X6_50_6 rfl (by decide) dX6_child_74 ?_
  refine hp_iload_n C dX6_child_77 rfl ?_
  refine hp_dup2 C dX6_child_78 rfl rfl ?_
  refine mo_aldv (v := nI c) C sh rfl (by decide) (by rw [p2]; exact h15) dX6_child_79 (by exact p1) ?_
  refine hp_iconst (v := 1) C dX6_child_80 (by decide) ?_
  refine hp_iadd C dX6_child_81 ?_
  refine mo_ast C sh rfl (by decide) dX6_child_82 (by exact p1) ?_
  rw [p2]
  refine hp_iload C dX6_child_83 rfl ?_
  refine hp_iret C hr rfl dX6_child_85 ?_
  exact ⟨rfl, rfl⟩
/-- what child sets -/
def a_v0 (p : Nat) (k dp kn : Int) (f : Nat) : Int := if f = 0 then k else if f = 1 then p else if f = 2 then dp + 1 else if f = 4 then kn else 0
theorem rb_R.chi {s : moS} {a : aS} {ex : Nat} (x : rb_R s a ex) (T : a_T a) (AR : a_R a) {p : Nat} {k kn : Int} (hp : p < a_mk a) (h80 : a_mk a < 80) (hk : k = 0 ∨ k = 1) (hkn : 0 ≤ kn ∧ kn ≤ 2) : rb_R (mo_chi s (a_mk a) p (a_rw a p).length (Int32.ofInt k) (Int32.ofInt kn) (s.2 4 p)) (a_add p (a_v0 p k (a_nd a 2 p) kn) a) ex := by
  obtain ⟨x1, x2, x3, x4, x5, x6, x7, x8, x9⟩ := x
  obtain ⟨z1, z2, z3⟩ := AR.2.2.2.2 (a_mk a) (Nat.le_refl _) h80
  have hl79 := T.rl hp
  have r2 := T.r2 hp
  have hp8 : p < 80 := by omega
  have hpn : p ≠ a_mk a := by omega
  generalize hS : mo_chi s (a_mk a) p (a_rw a p).length (Int32.ofInt k) (Int32.ofInt kn) (s.2 4 p) = S
  have ne : ∀ j, j ≠ 2 → j ≠ 3 → j ≠ 4 → j ≠ 6 → j ≠ 14 → j ≠ 15 → S.2 j = s.2 j := fun j j2 j3 j4 j6 j14 j15 => by
    rw [← hS]
    show va_up (va_up (va_up (va_up (va_up (va_up s.2 2 _) 3 _) 4 _) 6 _) 14 _) 15 _ j = _
    rw [va_up_ne _ _ j15, va_up_ne _ _ j14, va_up_ne _ _ j6, va_up_ne _ _ j4, va_up_ne _ _ j3, va_up_ne _ _ j2]
  have at2 : ∀ q, S.2 2 q = if q = a_mk a then Int32.ofInt k else s.2 2 q := fun q => by rw [← hS]; rfl
  have at3 : ∀ q, S.2 3 q = if q = a_mk a then nI p else s.2 3 q := fun q => by rw [← hS]; rfl
  have at4 : ∀ q, S.2 4 q = if q = a_mk a then s.2 4 p + 1 else s.2 4 q := fun q => by rw [← hS]; rfl
  have at6 : ∀ q, S.2 6 q = if q = a_mk a then Int32.ofInt kn else s.2 6 q := fun q => by rw [← hS]; rfl
  have at14 : ∀ q, S.2 14 q = if q = 80 * p + (a_rw a p).length then nI (a_mk a) else s.2 14 q := fun q => by rw [← hS]; rfl
  have at15 : ∀ q, S.2 15 q = if q = p then nI (a_rw a p).length + 1 else s.2 15 q := fun q => by rw [← hS]; rfl
  have S1 : ∀ j, j ≠ 1 → S.1 j = s.1 j := fun j hj => by rw [← hS]; exact va_up_ne _ _ hj
  have end' : ∀ f q, a_nd (a_add p (a_v0 p k (a_nd a 2 p) kn) a) f q = if q = a_mk a then a_v0 p k (a_nd a 2 p) kn f else a_nd a f q := fun f q => rfl
  refine ⟨⟨?_, Nat.succ_le_succ (Nat.zero_le _), h80⟩, by rw [S1 _ (by decide)]; exact x2, by rw [S1 _ (by decide)]; exact x3, by rw [S1 _ (by decide)]; exact x4, by rw [S1 _ (by decide)]; exact x5, fun f q hf hq => ?_, fun q hq => ?_, fun i hi q hq => ?_, fun q hq => ?_⟩
  · rw [← hS]
    show va_up s.1 1 (nI (a_mk a) + 1) 1 = nI (a_mk a + 1)
    rw [va_up_self, nI_1]
  · rw [end']
    obtain ⟨y1, y2⟩ := x6 f q hf hq
    by_cases e : q = a_mk a
    · rw [if_pos e]
      have f12 : f = 0 ∨ f = 1 ∨ f = 2 ∨ f = 4 ∨ (f ≠ 0 ∧ f ≠ 1 ∧ f ≠ 2 ∧ f ≠ 4) := by omega
      rcases f12 with rfl | rfl | rfl | rfl | ⟨f0, f1, f2, f4⟩
      · rw [show (0 + 2 : Nat) = 2 from rfl, at2, if_pos e]
        refine ⟨rfl, ?_⟩
        show a_sm k
        omega
      · rw [show (1 + 2 : Nat) = 3 from rfl, at3, if_pos e]
        refine ⟨rfl, ?_⟩
        show a_sm (p : Int)
        omega
      · rw [show (2 + 2 : Nat) = 4 from rfl, at4, if_pos e, (x6 2 p (by omega) hp8).1]
        refine ⟨?_, ?_⟩
        · show Int32.ofInt (a_nd a 2 p) + 1 = Int32.ofInt (a_nd a 2 p + 1)
          rw [Int32.ofInt_add]
          rfl
        · show a_sm (a_nd a 2 p + 1)
          omega
      · rw [show (4 + 2 : Nat) = 6 from rfl, at6, if_pos e]
        refine ⟨rfl, ?_⟩
        show a_sm kn
        omega
      · have ev : a_v0 p k (a_nd a 2 p) kn f = 0 := by
          unfold a_v0
          rw [if_neg f0, if_neg f1, if_neg f2, if_neg f4]
        rw [ev, ne _ (by omega) (by omega) (by omega) (by omega) (by omega) (by omega), y1, e, z1 f hf]
        exact ⟨rfl, by omega⟩
    · rw [if_neg e]
      refine ⟨?_, y2⟩
      have f12 : f = 0 ∨ f = 1 ∨ f = 2 ∨ f = 4 ∨ (f ≠ 0 ∧ f ≠ 1 ∧ f ≠ 2 ∧ f ≠ 4) := by omega
      rcases f12 with rfl | rfl | rfl | rfl | ⟨f0, f1, f2, f4⟩
      · rw [show (0 + 2 : Nat) = 2 from rfl, at2, if_neg e]; exact y1
      · rw [show (1 + 2 : Nat) = 3 from rfl, at3, if_neg e]; exact y1
      · rw [show (2 + 2 : Nat) = 4 from rfl, at4, if_neg e]; exact y1
      · rw [show (4 + 2 : Nat) = 6 from rfl, at6, if_neg e]; exact y1
      · rw [ne _ (by omega) (by omega) (by omega) (by omega) (by omega) (by omega)]; exact y1
  · obtain ⟨y1, y2, y3⟩ := x7 q hq
    by_cases ep : q = p
    · subst ep
      have er : a_rw (a_add q (a_v0 q k (a_nd a 2 q) kn) a) q = a_rw a q ++ [a_mk a] := va_up_self _ _ _
      rw [er, at15, if_pos rfl, List.length_append]
      refine ⟨nI_1 _, by show (a_rw a q).length + 1 ≤ 80; omega, fun i hi => ?_⟩
      have hi' : i < (a_rw a q).length + 1 := hi
      rw [at14, List.getD_eq_getElem?_getD]
      by_cases ei : i = (a_rw a q).length
      · rw [if_pos (by omega), List.getElem?_append_right (by omega), ei, Nat.sub_self]
        exact ⟨rfl, h80⟩
      · rw [if_neg (by omega), List.getElem?_append_left (by omega), ← List.getD_eq_getElem?_getD]
        exact y3 i (by omega)
    · by_cases em : q = a_mk a
      · have er : a_rw (a_add p (a_v0 p k (a_nd a 2 p) kn) a) q = [] := by
          show va_up (va_up (a_rw a) (a_mk a) []) p _ q = _
          rw [va_up_ne _ _ ep, em, va_up_self]
        rw [er, at15, if_neg ep, y1, em, z2]
        exact ⟨rfl, by decide, fun i hi => absurd hi (Nat.not_lt_zero _)⟩
      · have er : a_rw (a_add p (a_v0 p k (a_nd a 2 p) kn) a) q = a_rw a q := by
          show va_up (va_up (a_rw a) (a_mk a) []) p _ q = _
          rw [va_up_ne _ _ ep, va_up_ne _ _ em]
        rw [er, at15, if_neg ep]
        refine ⟨y1, y2, fun i hi => ?_⟩
        rw [at14, if_neg (by omega)]
        exact y3 i hi
  · rw [ne _ (by decide) (by decide) (by decide) (by decide) (by decide) (by decide)]
    exact x8 i hi q hq
  · obtain ⟨P, y1, y2, y3, y4, dr, y5, y6⟩ := x9 q hq
    refine ⟨P, ?_⟩
    unfold rb_t
    rw [ne 17 (by decide) (by decide) (by decide) (by decide) (by decide) (by decide), ne 16 (by decide) (by decide) (by decide) (by decide) (by decide) (by decide), end', end']
    by_cases em : q = a_mk a
    · have er : a_rt (a_add p (a_v0 p k (a_nd a 2 p) kn) a) q = a_rt a q := by
        show va_up (a_rt a) (a_mk a) [] q = _
        rw [em, va_up_self, z3]
      rw [er, if_pos em]
      have e3 : ¬ a_v0 p k (a_nd a 2 p) kn 3 = 1 := fun e => by cases e
      exact ⟨y1, y2, fun e => absurd e e3, y4, dr, y5, fun e => absurd e e3⟩
    · have er : a_rt (a_add p (a_v0 p k (a_nd a 2 p) kn) a) q = a_rt a q := va_up_ne _ _ em
      rw [er, if_neg em, if_neg em]
      exact ⟨y1, y2, y3, y4, dr, y5, y6⟩
theorem mc_chi {l : Launch} {G : hpG} {h H : hpT} {m d : Nat} {a : aS} {z : mrZ} (sh : mo_sh G h m) (R : MR h m H a z) (T : a_T a) (AR : a_R a) {p : Nat} {k kind : Int32} {kn : Int} (hp : p < a_mk a) (h80 : a_mk a < 80) (hk : k = 0 ∨ k = 1) (hkn : 0 ≤ kn ∧ kn ≤ 2) (ekn : kind = Int32.ofInt kn) : hp_C l G yX6_child (.code yX6_child cX6_child 5 (some .int)) d [.ref m, .int (nI p), .int kind, .int k] H (fun v h' => v = some (.int (nI (a_mk a))) ∧ MR h m h' (a_add p (a_v0 p k.toInt (a_nd a 2 p) kn) a) z) (fun _ _ => False) := by
  obtain ⟨s, rfl, r, r1, r2, r3⟩ := R
  subst ekn
  have hl79 := T.rl hp
  have hkI : k.toInt = 0 ∨ k.toInt = 1 := by
    rcases hk with rfl | rfl
    · exact Or.inl (by decide)
    · exact Or.inr (by decide)
  have con := mo_child (l := l) (d := d) (s := s) sh (n := a_mk a) (p := p) (c := (a_rw a p).length) (k := k) (kind := Int32.ofInt kn) h80 (by omega) (by omega) r.1.1 (r.2.2.2.2.2.2.1 p (by omega)).1 (by rcases hk with rfl | rfl <;> rfl)
  have rc := r.chi T AR hp h80 hkI hkn
  rw [← k_i32 k] at rc
  exact hp_Cw con (fun v h' hv => ⟨hv.1, _, hv.2, rc, r1, r2, r3⟩)
theorem a_add_sn (p : Nat) (v : Nat → Int) (a : aS) (f : Nat) (x : Int) : a_sn (a_add p v a) f (a_mk a) x = a_add p (va_up v f x) a := by
  have e : va_up (a_nd (a_add p v a)) f (va_up (a_nd (a_add p v a) f) (a_mk a) x) = fun g m => if m = a_mk a then va_up v f x g else a_nd a g m := by
    funext g m
    by_cases eg : g = f
    · subst eg
      rw [va_up_self]
      by_cases em : m = a_mk a
      · rw [em, va_up_self, if_pos rfl, va_up_self]
      · rw [va_up_ne _ _ em, if_neg em]
        exact if_neg em
    · rw [va_up_ne _ _ eg]
      by_cases em : m = a_mk a
      · rw [if_pos em, va_up_ne _ _ eg]
        exact if_pos em
      · rw [if_neg em]
        exact if_neg em
  show ((a_add p v a).1, (a_add p v a).2.1, (a_add p v a).2.2.1, (a_add p v a).2.2.2.1, va_up (a_nd (a_add p v a)) f (va_up (a_nd (a_add p v a) f) (a_mk a) x), (a_add p v a).2.2.2.2.2) = _
  rw [e]
  rfl
