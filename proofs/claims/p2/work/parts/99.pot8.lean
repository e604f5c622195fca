/-- a node is made -/
theorem a_add_Z {a : aS} (I : a_I a) (x : a_U a) {p N : Nat} {v : Nat → Int} (hp : p < a_mk a) (hk : a_nd a 0 p = 1) (h3 : ¬ a_nd a 3 p = 2) (h80 : a_mk a < 80) (T' : a_T (a_add p v a)) (v1 : v 1 = p) (v3 : v 3 = 0) (v11 : v 11 ≤ 50) : a_I (a_add p v a) ∧ a_U (a_add p v a) ∧ a_w (a_add p v a) = a_w a ∧ a_fs (a_add p v a) N ≤ a_fs a N + 50 := by
  have en : ∀ f n, a_nd (a_add p v a) f n = if n = a_mk a then v f else a_nd a f n := fun f n => rfl
  have z0 := (I.2.1.2.2.2.2 (a_mk a) (Nat.le_refl _) h80).1 3 (by decide)
  have e3 : a_nd (a_add p v a) 3 = a_nd a 3 := by
    funext m
    rw [en]
    by_cases e : m = a_mk a
    · rw [if_pos e, e, v3, z0]
    · rw [if_neg e]
  refine ⟨⟨T', a_add_R I.1 I.2.1 hp hk h3 v1 v3, a_add_W I.2.2.1, a_add_A I.2.2.2⟩, fun m hm hm0 hu => ?_, ?_, ?_⟩
  · rw [e3] at hu ⊢
    have hm' : m < a_mk a + 1 := hm
    have hne : m ≠ a_mk a := fun e => by rw [e, z0] at hu; cases hu
    have ep : a_pa (a_add p v a) m = a_pa a m := by
      show (a_nd (a_add p v a) 1 m).toNat = (a_nd a 1 m).toNat
      rw [en, if_neg hne]
    rw [ep]
    exact x m (by omega) hm0 hu
  · have c1 : a_ci (a_add p v a) 1 80 = a_ci a 1 80 := a_ci_eq (fun m => by rw [e3]) 80
    have c2 : a_ci (a_add p v a) 2 80 = a_ci a 2 80 := a_ci_eq (fun m => by rw [e3]) 80
    have et : a_tm (a_add p v a) = a_tm a := rfl
    have ee : a_ev (a_add p v a) = a_ev a := rfl
    unfold a_w a_u
    rw [c1, c2, et, ee]
  · have hf := a_fs_up (a := a) (b := a_add p v a) (n := a_mk a) (fun m hm => by rw [en, if_neg hm]) (by rw [en, if_pos rfl]; exact v11) N
    split at hf <;> omega
/-- it is started -/
theorem a_add_go {a : aS} (I : a_I a) (x : a_U a) {p N : Nat} {v : Nat → Int} (hp : p < a_mk a) (hk : a_nd a 0 p = 1) (hu : a_nd a 3 p = 1) (h80 : a_mk a < 80) (T' : a_T (a_add p v a)) (v1 : v 1 = p) (v2 : v 2 = a_nd a 2 p + 1) (v3 : v 3 = 0) (v11 : v 11 ≤ 50) : a_I (a_go (a_fu (a_add p v a) (a_mk a)) (a_mk a) (a_add p v a)).2 ∧ a_U (a_go (a_fu (a_add p v a) (a_mk a)) (a_mk a) (a_add p v a)).2 ∧ a_w (a_go (a_fu (a_add p v a) (a_mk a)) (a_mk a) (a_add p v a)).2 ≤ a_w a + 17800 ∧ a_fs (a_go (a_fu (a_add p v a) (a_mk a)) (a_mk a) (a_add p v a)).2 N ≤ a_fs a N + 50 ∧ a_rs (a_go (a_fu (a_add p v a) (a_mk a)) (a_mk a) (a_add p v a)).2 = a_rs a ∧ a_gk (a_add p v a) (a_go (a_fu (a_add p v a) (a_mk a)) (a_mk a) (a_add p v a)).2 := by
  obtain ⟨I', x', w', f'⟩ := a_add_Z (N := N) I x hp hk (by omega) h80 T' v1 v3 v11
  have en : ∀ f n, a_nd (a_add p v a) f n = if n = a_mk a then v f else a_nd a f n := fun f n => rfl
  have hn : a_mk a < a_mk (a_add p v a) := Nat.lt_succ_self _
  have e3 : a_nd (a_add p v a) 3 (a_mk a) = 0 := by rw [en, if_pos rfl]; exact v3
  have r2 := I.1.r2 hp
  have e2 : a_nd (a_add p v a) 2 (a_mk a) = a_nd a 2 p + 1 := by rw [en, if_pos rfl]; exact v2
  have r2' := I'.1.r2 hn
  have efu : a_fu (a_add p v a) (a_mk a) = (9 - a_nd (a_add p v a) 2 (a_mk a)).toNat := rfl
  have ep : a_pa (a_add p v a) (a_mk a) = p := by
    show (a_nd (a_add p v a) 1 (a_mk a)).toNat = p
    rw [en, if_pos rfl, v1]
    rfl
  have hup : a_nd (a_add p v a) 3 (a_pa (a_add p v a) (a_mk a)) = 1 := by
    rw [ep, en, if_neg (by omega)]
    exact hu
  have h9 : (9 : Int) ≤ (a_fu (a_add p v a) (a_mk a) : Nat) + a_nd (a_add p v a) 2 (a_mk a) := by omega
  have hf9 : a_fu (a_add p v a) (a_mk a) ≤ 9 := by omega
  have ers : a_rs (a_add p v a) = a_rs a := rfl
  generalize a_fu (a_add p v a) (a_mk a) = f at *
  generalize a_mk a = n at *
  generalize a_add p v a = b at *
  have h2 : ¬ a_nd b 3 n = 2 := by omega
  have h1 : ¬ a_nd b 3 n = 1 := by omega
  have kg := a_go_gk f n b I'.1 I'.2.1 hn h2
  have u := (a_go_Us f n (fun _ => False) b I'.1 I'.2.1 hn h2 h9 h1 (fun _ h => h.elim) (Or.inr (Or.inl hup)) x').1
  have w := a_go_pw f n (fun _ => False) b I'.1 I'.2.1 hn h2 h9 h1 (fun _ h => h.elim) (Or.inr (Or.inl hup)) x'
  have u8 : a_u (a_go f n b).2 ≤ 80 := a_ci_80 _ 1
  have fl := a_fs_le (a_go_11 f n b I'.1 hn h9).1 N
  refine ⟨I'.gk kg, u, ?_, Nat.le_trans fl f', kg.1.rs.trans ers, kg⟩
  rw [← w']
  by_cases g : (a_go f n b).1 = true
  · have := (w.1 g).2
    omega
  · have := w.2 g
    omega
