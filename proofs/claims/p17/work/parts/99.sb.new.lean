/-! ===== a new object ===== -/
def a_new : aS := (1, 0, 0, 0, fun f n => if n = 0 then (if f = 0 then 1 else if f = 1 then -1 else if f = 6 then 1 else if f = 7 then 5 else 0) else 0, fun _ => [], fun _ => [], [])
theorem a_new_mk : a_mk a_new = 1 := rfl
theorem a_new_n {n : Nat} (h : n < a_mk a_new) : n = 0 := by
  have : n < 1 := h
  omega
theorem a_new_3 (n : Nat) : a_nd a_new 3 n = 0 := by
  show (if n = 0 then (if 3 = 0 then (1 : Int) else if 3 = 1 then -1 else if 3 = 6 then 1 else if 3 = 7 then 5 else 0) else 0) = 0
  split <;> rfl
theorem a_new_11 (n : Nat) : a_nd a_new 11 n = 0 := by
  show (if n = 0 then (if 11 = 0 then (1 : Int) else if 11 = 1 then -1 else if 11 = 6 then 1 else if 11 = 7 then 5 else 0) else 0) = 0
  split <;> rfl
theorem a_new_T : a_T a_new := by
  refine ⟨⟨Nat.le_refl _, by decide⟩, fun n hn => ?_, fun n hn => ?_, fun n hn => ?_, fun _ _ _ => rfl, fun n hn => ⟨Nat.zero_le _, List.nodup_nil, fun c hc => (by cases hc)⟩⟩
  · cases a_new_n hn
    exact ⟨Or.inr rfl, by decide, by decide, by decide, by decide, by decide, by decide, by decide, by decide, fun z => absurd rfl z⟩
  · rw [a_new_3]
    decide
  · rw [a_new_11]
    decide
theorem a_new_I : a_I a_new := by
  refine ⟨a_new_T, ⟨rfl, rfl, fun n hn h0 => absurd (a_new_n hn) h0, fun n c hn hc => (by cases hc), fun n hn h80 => ⟨fun f _ => ?_, rfl, rfl⟩⟩, fun _ _ _ => rfl, fun n hn => ⟨List.Pairwise.nil, fun x hx => (by cases hx)⟩⟩
  have h1 : 1 ≤ n := hn
  show (if n = 0 then _ else (0 : Int)) = 0
  rw [if_neg (by omega)]
theorem a_new_U : a_U a_new := fun m hm h0 => absurd (a_new_n hm) h0
theorem a_new_ci {s : Int} (hs : s ≠ 0) : ∀ N, a_ci a_new s N = 0
  | 0 => rfl
  | N + 1 => by
    unfold a_ci
    rw [a_new_3, if_neg (Ne.symm hs), a_new_ci hs N]
theorem a_new_fs : ∀ N, a_fs a_new N = 0
  | 0 => rfl
  | N + 1 => by
    unfold a_fs
    rw [a_new_11, a_new_fs N]
    rfl
theorem a_new_Y : a_Y 0 a_new := by
  refine ⟨⟨a_new_I, a_new_U, ?_, ?_⟩, by rw [a_new_3]; decide⟩
  · rw [a_new_fs]
    unfold a_w a_u
    rw [a_new_ci (by decide), a_new_ci (by decide)]
    decide
  · rw [a_new_fs]
    decide
theorem mo_up_off (s : moS) (k i : Nat) (x : Int32) {q n : Nat} (h : ¬ n = i) : (mo_up s k i x).2 q n = s.2 q n := by
  show va_up s.2 k (va_up (s.2 k) i x) q n = s.2 q n
  by_cases e : q = k
  · subst e
    rw [va_up_self, va_up_ne _ _ h]
  · rw [va_up_ne _ _ e]
theorem mo_s0_nd {f n : Nat} (hf : f < 12) : mo_s0.2 (f + 2) n = Int32.ofInt (a_nd a_new f n) ∧ a_sm (a_nd a_new f n) := by
  have e : f = 0 ∨ f = 1 ∨ f = 2 ∨ f = 3 ∨ f = 4 ∨ f = 5 ∨ f = 6 ∨ f = 7 ∨ f = 8 ∨ f = 9 ∨ f = 10 ∨ f = 11 := by omega
  by_cases hn : n = 0
  · subst hn
    rcases e with rfl | rfl | rfl | rfl | rfl | rfl | rfl | rfl | rfl | rfl | rfl | rfl <;> exact ⟨by decide, by decide⟩
  · have en : a_nd a_new f n = 0 := by
      show (if n = 0 then _ else (0 : Int)) = 0
      rw [if_neg hn]
    rw [en]
    refine ⟨?_, by decide⟩
    have z : ∀ k, mo_s0.2 k n = 0 := fun k => by
      show (mo_up (mo_up (mo_up (mo_up mo_z 2 0 1) 3 0 (-1)) 8 0 1) 9 0 5).2 k n = 0
      rw [mo_up_off _ _ _ _ hn, mo_up_off _ _ _ _ hn, mo_up_off _ _ _ _ hn, mo_up_off _ _ _ _ hn]
      rfl
    rw [z]
    rfl
theorem mo_s0_R : rb_R mo_s0 a_new 80 := by
  refine ⟨⟨rfl, Nat.le_refl _, by decide⟩, rfl, rfl, rfl, rfl, fun f n hf _ => mo_s0_nd hf, fun n _ => ⟨rfl, Nat.zero_le _, fun i hi => absurd hi (Nat.not_lt_zero _)⟩, fun i _ q hq => (by cases hq), fun n _ => ⟨[], rfl, Nat.zero_le _, fun _ _ => Nat.zero_le _, fun i hi => absurd hi (Nat.not_lt_zero _), [], rfl, fun _ x hx => (by cases hx)⟩⟩
/-- where its things lie -/
def k_new (G : hpG) (k : Nat) : kS := (fun r n => if r = 0 then k + 8 else if r = 1 then k + 9 else if r = 2 then hp_dE G else if r = 3 then k + 10 else if r = 4 then k + 11 else k + n, fun _ => 0, fun _ => [])
theorem lw_newK {G : hpG} {H : hpT} {k N S : Nat} (sK : kt_sh G H k) (eK : H = kt_w G H k kt_s0) (nx : hp_nx H = k + 33) (hN : hp_nx H ≤ N) (hS : hp_sl H ≤ S) : LK G (k + 12) k N S H H a_new := by
  have is : ∀ (o ci : Nat), o < 12 → kt_kd o = ci → k_is G (lw_pr (k + 12)) H (k + o) ci := fun o ci h1 h2 => ⟨by have h := sK.o (s := kt_s0) o h1 h2; rw [← eK] at h; exact h, fun z => by have := z.1; omega⟩
  have ln : ∀ o, o < 12 → kt_ai o = true → hp_ln H (k + o) = kt_ln o := fun o h1 h2 => sK.2.2.2 o h1 h2
  have fl : ∀ (f o : Nat), kt_fi f = true → kt_off f = o → hp_fl H f (k + o) = kt_fv G k kt_s0 f := fun f o h1 h2 => by
    rw [eK]
    exact kt_fl h1 h2
  have ar : ∀ (o i : Nat), kt_ai o = true → o < 12 → hp_ar H (k + o) i = kt_av k kt_s0 o i := fun o i h1 h2 => by
    rw [eK]
    exact kt_ar h1 h2
  refine ⟨k_new G k, ⟨⟨fun n hn => ?_, fun n hn _ => ?_, is 0 5 (by decide) rfl, is 1 1 (by decide) rfl, ⟨is 2 15 (by decide) rfl, ln 2 (by decide) rfl⟩, fun j hj => ?_, ⟨is 7 14 (by decide) rfl, ln 7 (by decide) rfl⟩⟩, ⟨fun n m hn hm _ => ?_, fun r n m _ hn hm _ _ _ => ?_, fun n j hn _ hj => ?_, fun i j hi hj e => ?_⟩, fun f n ok => ?_, fun r n i ok => ?_, fun b hb => ⟨by rw [nx]; have := hb.2; omega, rfl, rfl, fun _ => rfl, rfl⟩, ⟨hN, ?_⟩, fun n _ _ => ⟨[], rfl, fun x hx => (by cases hx)⟩⟩, rfl⟩
  · cases a_new_n hn
    exact is 8 2 (by decide) rfl
  · cases a_new_n hn
    refine ⟨is 9 0 (by decide) rfl, is 10 3 (by decide) rfl, is 11 10 (by decide) rfl, ?_, Or.inl ⟨rfl, rfl⟩⟩
    have h11 : hp_ln H ((k_new G k).1 4 0) = 8 := ln 11 (by decide) rfl
    rw [h11]
    exact ⟨Nat.zero_le _, by decide, by decide⟩
  · have e : (k_new G k).1 5 (3 + j) = k + (3 + j) := rfl
    rw [e]
    have hj4 : j = 0 ∨ j = 1 ∨ j = 2 ∨ j = 3 := by omega
    rcases hj4 with rfl | rfl | rfl | rfl
    · exact ⟨is 3 10 (by decide) rfl, ln 3 (by decide) rfl⟩
    · exact ⟨is 4 10 (by decide) rfl, ln 4 (by decide) rfl⟩
    · exact ⟨is 5 10 (by decide) rfl, ln 5 (by decide) rfl⟩
    · exact ⟨is 6 10 (by decide) rfl, ln 6 (by decide) rfl⟩
  · rw [a_new_n hn, a_new_n hm]
  · rw [a_new_n hn, a_new_n hm]
  · show k + 11 ≠ k + (3 + j)
    omega
  · have e' : k + (3 + i) = k + (3 + j) := e
    omega
  · rcases ok with ⟨h1, h2, h3⟩ | ⟨h1, h2, h3⟩ | ⟨h1, h2, h3⟩ | ⟨h1, h2, h3, h4⟩ | ⟨h1, h2, h3, h4⟩ | ⟨h1, h2, h3, h4⟩ | ⟨h1, h2, h3⟩
    · cases a_new_n h2
      have e : f = 0 ∨ f = 1 ∨ f = 2 := by omega
      rcases e with rfl | rfl | rfl <;> exact (fl _ 9 (by decide) rfl).trans rfl
    · subst h3
      have e : f = 32 ∨ f = 33 ∨ f = 34 := by omega
      rcases e with rfl | rfl | rfl <;> exact (fl _ 1 (by decide) rfl).trans rfl
    · cases a_new_n h3
      have e : f = 64 ∨ f = 65 ∨ f = 66 ∨ f = 67 ∨ f = 68 := by omega
      rcases e with rfl | rfl | rfl | rfl | rfl <;> exact (fl _ 8 (by decide) rfl).trans rfl
    · cases a_new_n h3
      have e : f = 69 ∨ f = 70 ∨ f = 71 ∨ f = 72 ∨ f = 73 := by omega
      rcases e with rfl | rfl | rfl | rfl | rfl <;> exact (fl _ 8 (by decide) rfl).trans rfl
    · cases a_new_n h3
      have e : f = 96 ∨ f = 97 := by omega
      rcases e with rfl | rfl <;> exact (fl _ 10 (by decide) rfl).trans rfl
    · cases a_new_n h3
      cases h4
    · subst h3
      have e : f = 160 ∨ f = 161 ∨ f = 162 ∨ f = 163 ∨ f = 164 ∨ f = 165 := by omega
      rcases e with rfl | rfl | rfl | rfl | rfl | rfl <;> exact (fl _ 0 (by decide) rfl).trans rfl
  · rcases ok with ⟨rfl, h2, h3, h4⟩ | ⟨rfl, h2, h3, h4⟩ | ⟨rfl, rfl, h3⟩ | ⟨rfl, h2, h3, h4, h5⟩ | ⟨rfl, rfl, h3⟩
    · exact absurd h4 (Nat.not_lt_zero _)
    · exact absurd h4 (Nat.not_lt_zero _)
    · refine (ar 2 i rfl (by decide)).trans ?_
      show Value.ref (k + 3 + i) = Value.ref (k + (3 + i))
      rw [Nat.add_assoc]
    · exact absurd h5 (Nat.not_lt_zero _)
    · refine (ar 7 i rfl (by decide)).trans ?_
      show (if i = 0 then Value.ref (k + 8) else Value.null) = va_rf (if i < 1 then some (k + 8) else none)
      by_cases hi : i = 0
      · rw [if_pos hi, if_pos (by omega)]; rfl
      · rw [if_neg hi, if_neg (by omega)]; rfl
  · show hp_sl H + hp_sm (k_po (hp_ln H) (k_new G k) (a_nd a_new 0)) 0 1 ≤ S
    have e : hp_sm (k_po (hp_ln H) (k_new G k) (a_nd a_new 0)) 0 1 = 0 := by
      show k_po (hp_ln H) (k_new G k) (a_nd a_new 0) 0 + 0 = 0
      show (if a_nd a_new 0 0 = 1 then 4 * (0 - hp_ln H ((k_new G k).1 4 0) / 2) else 0) + 0 = 0
      rw [Nat.zero_sub]
      split <;> rfl
    rw [e]
    exact hS
theorem lw_newM {G : hpG} {H : hpT} {m : Nat} (sM : mo_sh G H m) (eM : H = mo_w H m mo_s0) : LM G m 0 H a_new := ⟨sM, (mo_s0.2 23, mo_s0.2 24, 0, 80), ⟨mo_s0, eM, mo_s0_R, rfl, rfl, rfl⟩, rfl⟩
