theorem a_Us.same {E : Nat → Prop} {a b : aS} (x : a_Us E a) (hm : a_mk b = a_mk a) (h1 : a_nd b 1 = a_nd a 1) (h3 : a_nd b 3 = a_nd a 3) : a_Us E b := fun m hmm hm0 hu => by
  have ep : a_pa b m = a_pa a m := by show (a_nd b 1 m).toNat = (a_nd a 1 m).toNat; rw [h1]
  rw [h3] at hu ⊢
  rw [ep]
  exact x m (by rw [hm] at hmm; exact hmm) hm0 hu
theorem a_fs_up {a b : aS} {n : Nat} (h : ∀ m, m ≠ n → a_nd b 11 m = a_nd a 11 m) (hn : a_nd b 11 n ≤ 50) : ∀ i, a_fs b i ≤ a_fs a i + (if n < i then 50 else 0)
  | 0 => Nat.zero_le _
  | i + 1 => by
    have ih := a_fs_up h hn i
    unfold a_fs
    by_cases e : i = n
    · subst e
      rw [if_neg (Nat.lt_irrefl i)] at ih
      rw [if_pos (Nat.lt_succ_self i)]
      omega
    · rw [h i e]
      by_cases l : n < i
      · rw [if_pos l] at ih
        rw [if_pos (by omega)]
        omega
      · rw [if_neg l] at ih
        rw [if_neg (by omega)]
        omega
theorem k_z5 {w w' f f' : Nat} (h : w' ≤ w + 20000) (g : f' ≤ f + 50) : w' + 18000 * f' ≤ w + 18000 * f + 1082000 := by
  have h1 : 18000 * f' ≤ 18000 * f + 18000 * 50 := by
    rw [← Nat.mul_add]
    exact Nat.mul_le_mul_left _ g
  have h2 : w' + 18000 * f' ≤ w + 20000 + (18000 * f + 18000 * 50) := Nat.add_le_add h h1
  have h3 : w + 20000 + (18000 * f + 18000 * 50) = w + 18000 * f + (20000 + 18000 * 50) := Nat.add_add_add_comm _ _ _ _
  rw [h3] at h2
  exact Nat.le_trans h2 (Nat.add_le_add_left (by decide) _)
theorem a_Z.lf {N i : Nat} {a b : aS} (z : a_Z N i a) (hI : a_I b) (hU : a_U b) (hw : a_w b ≤ a_w a + 20000) (hf : a_fs b N ≤ a_fs a N + 50) (hr : a_rs b = a_rs a) : a_Z N (i + 1) b := z.mk' hI hU (k_z5 hw hf) (by omega)
/-- failing -/
theorem a_Z.fail {N i : Nat} {a : aS} (z : a_Z N i a) {n : Nat} {g : Int} (hn : n < a_mk a) (hg : 0 ≤ g ∧ g ≤ 50) : a_Z N (i + 1) (a_sn a 11 n g) := by
  obtain ⟨I, x, -, -⟩ := id z
  have e3 : a_nd (a_sn a 11 n g) 3 = a_nd a 3 := a_nd_sne (f := 11) (g := 3) a n g (by decide)
  have e11 : ∀ m, a_nd (a_sn a 11 n g) 11 m = if m = n then g else a_nd a 11 m := fun m => by
    show va_up (a_nd a) 11 (va_up (a_nd a 11) n g) 11 m = _
    rw [va_up_self]
    by_cases e : m = n
    · rw [e, va_up_self, if_pos rfl]
    · rw [va_up_ne _ _ e, if_neg e]
  have hf := a_fs_up (a := a) (b := a_sn a 11 n g) (n := n) (fun m hm => by rw [e11, if_neg hm]) (by rw [e11, if_pos rfl]; exact hg.2) N
  refine z.lf (I.gk (a_gk.sn11 a hn (fun _ _ => hg))) (a_Us.same x rfl (a_nd_sne (f := 11) (g := 1) a n g (by decide)) e3) ?_ ?_ rfl
  · have c1 : a_ci (a_sn a 11 n g) 1 80 = a_ci a 1 80 := a_ci_eq (fun m => by rw [e3]) 80
    have c2 : a_ci (a_sn a 11 n g) 2 80 = a_ci a 2 80 := a_ci_eq (fun m => by rw [e3]) 80
    have et : a_tm (a_sn a 11 n g) = a_tm a := rfl
    have ee : a_ev (a_sn a 11 n g) = a_ev a := rfl
    unfold a_w a_u
    rw [c1, c2, et, ee]
    omega
  · split at hf <;> omega
/-- first -/
theorem a_Z.fst {N i : Nat} {a : aS} (z : a_Z N i a) {x r t : Int} (hb : (0 ≤ x ∧ x ≤ 2) ∧ (0 ≤ r ∧ r ≤ 50) ∧ (1 ≤ t ∧ t ≤ 1000)) : a_Z N (i + 1) (a_sn (a_sn (a_sn a 5 0 x) 6 0 r) 7 0 t) := by
  obtain ⟨⟨T, AR, W, A⟩, u, -, -⟩ := id z
  have en : ∀ f, f ≠ 5 → f ≠ 6 → f ≠ 7 → a_nd (a_sn (a_sn (a_sn a 5 0 x) 6 0 r) 7 0 t) f = a_nd a f := fun f h5 h6 h7 => by
    rw [a_nd_sne _ _ _ h7, a_nd_sne _ _ _ h6, a_nd_sne _ _ _ h5]
  have e5 : ∀ m, a_nd (a_sn (a_sn (a_sn a 5 0 x) 6 0 r) 7 0 t) 5 m = if m = 0 then x else a_nd a 5 m := fun m => rfl
  have e6 : ∀ m, a_nd (a_sn (a_sn (a_sn a 5 0 x) 6 0 r) 7 0 t) 6 m = if m = 0 then r else a_nd a 6 m := fun m => rfl
  have e7 : ∀ m, a_nd (a_sn (a_sn (a_sn a 5 0 x) 6 0 r) 7 0 t) 7 m = if m = 0 then t else a_nd a 7 m := fun m => rfl
  have em : a_mk (a_sn (a_sn (a_sn a 5 0 x) 6 0 r) 7 0 t) = a_mk a := rfl
  have er : a_rw (a_sn (a_sn (a_sn a 5 0 x) 6 0 r) 7 0 t) = a_rw a := rfl
  have et : a_tm (a_sn (a_sn (a_sn a 5 0 x) 6 0 r) 7 0 t) = a_tm a := rfl
  have ee : a_ev (a_sn (a_sn (a_sn a 5 0 x) 6 0 r) 7 0 t) = a_ev a := rfl
  have ert : a_rt (a_sn (a_sn (a_sn a 5 0 x) 6 0 r) 7 0 t) = a_rt a := rfl
  have ers : a_rs (a_sn (a_sn (a_sn a 5 0 x) 6 0 r) 7 0 t) = a_rs a := rfl
  generalize a_sn (a_sn (a_sn a 5 0 x) 6 0 r) 7 0 t = b at *
  have n0 := en 0 (by decide) (by decide) (by decide)
  have n1 := en 1 (by decide) (by decide) (by decide)
  have n2 := en 2 (by decide) (by decide) (by decide)
  have n3 := en 3 (by decide) (by decide) (by decide)
  have n4 := en 4 (by decide) (by decide) (by decide)
  have n8 := en 8 (by decide) (by decide) (by decide)
  have n9 := en 9 (by decide) (by decide) (by decide)
  have n10 := en 10 (by decide) (by decide) (by decide)
  have n11 := en 11 (by decide) (by decide) (by decide)
  have TT : a_T b := by
    unfold a_T
    rw [em, n0, n1, n2, n3, n4, n8, n9, n10, n11, er]
    refine ⟨T.1, fun n hn => ?_, T.2.2⟩
    obtain ⟨q0, q2, q4, q5, q6, q7, q8⟩ := T.2.1 n hn
    rw [e5, e6, e7]
    refine ⟨q0, q2, q4, ?_, ?_, ?_, q8⟩
    · split
      · exact hb.1
      · exact q5
    · split
      · exact hb.2.1
      · exact q6
    · split
      · omega
      · exact q7
  have RR : a_R b := by
    obtain ⟨x1, x2, x3, x4, x5⟩ := AR
    have ep : ∀ n, a_pa b n = a_pa a n := fun n => by show (a_nd b 1 n).toNat = (a_nd a 1 n).toNat; rw [n1]
    refine ⟨by rw [n2]; exact x1, by rw [n0]; exact x2, fun n hn h0 h2 => ?_, fun n c hn hc h2 => ?_, fun n hn h8 => ?_⟩
    · rw [em] at hn
      rw [n3] at h2
      rw [ep, er, n0, n3]
      exact x3 n hn h0 h2
    · rw [em] at hn
      rw [er] at hc
      rw [n3] at h2 ⊢
      exact x4 n c hn hc h2
    · rw [em] at hn
      have m1 := T.1.1
      obtain ⟨q1, q2, q3⟩ := x5 n hn h8
      refine ⟨fun f hf => ?_, by rw [er]; exact q2, by rw [ert]; exact q3⟩
      by_cases c5 : f = 5
      · subst c5; rw [e5, if_neg (by omega)]; exact q1 5 hf
      · by_cases c6 : f = 6
        · subst c6; rw [e6, if_neg (by omega)]; exact q1 6 hf
        · by_cases c7 : f = 7
          · subst c7; rw [e7, if_neg (by omega)]; exact q1 7 hf
          · rw [en f c5 c6 c7]; exact q1 f hf
  have WW : a_W b := by
    unfold a_W
    rw [em, n0, ert]
    exact W
  have AA : a_A b := by
    unfold a_A
    rw [em, ert, et]
    exact A
  refine z.lt ⟨TT, RR, WW, AA⟩ (a_Us.same u em n1 n3) ?_ (a_fd.of n11) ers
  have c1 : a_ci b 1 80 = a_ci a 1 80 := a_ci_eq (fun m => by rw [n3]) 80
  have c2 : a_ci b 2 80 = a_ci a 2 80 := a_ci_eq (fun m => by rw [n3]) 80
  unfold a_w a_u
  rw [c1, c2, et, ee]
  omega
