/-! ===== a node has joined: what the class holds ===== -/
/-- h2: the heap with the new objects; H: behind join -/
theorem kj_H {G : hpG} {h2 h3 : hpT} {q r k e n len x : Nat} {mc : Int32} (hr : r < hp_nx h2) (hk : k < hp_nx h2) (hq : q < hp_nx h2) (hkr : k ≠ r) (f1 : hp_fl h2 1 r = .ref e) (hqe : ¬ (q = e ∧ hp_is G h2 e 13)) (A : hp_ad G (hp_put (hp_set h2 q n (.ref x)) 0 r (.int (mc + 1))) h3 r e len x) :
    ∃ e1 : Nat, (hp_nx h2 ≤ hp_nx (hp_put h3 163 k (.int (nI (n + 1)))) ∧ hp_nx (hp_put h3 163 k (.int (nI (n + 1)))) ≤ hp_nx h2 + 1 ∧ hp_sl h2 ≤ hp_sl (hp_put h3 163 k (.int (nI (n + 1)))) ∧ hp_sl (hp_put h3 163 k (.int (nI (n + 1)))) ≤ hp_sl h2 + 130) ∧
    (∀ c, c < hp_nx h2 → hp_kd (hp_put h3 163 k (.int (nI (n + 1)))) c = hp_kd h2 c ∧ hp_ln (hp_put h3 163 k (.int (nI (n + 1)))) c = hp_ln h2 c) ∧
    (∀ f c, c < hp_nx h2 → ¬ (c = r ∧ f < 3) → ¬ (c = k ∧ f = 163) → hp_fl (hp_put h3 163 k (.int (nI (n + 1)))) f c = hp_fl h2 f c) ∧
    (hp_fl (hp_put h3 163 k (.int (nI (n + 1)))) 0 r = .int (mc + 1) ∧ hp_fl (hp_put h3 163 k (.int (nI (n + 1)))) 1 r = .ref e1 ∧ hp_fl (hp_put h3 163 k (.int (nI (n + 1)))) 2 r = .int (nI (len + 1)) ∧ hp_fl (hp_put h3 163 k (.int (nI (n + 1)))) 163 k = .int (nI (n + 1))) ∧
    (∀ c, c < hp_nx h2 → c ≠ q → c ≠ e1 → hp_ar (hp_put h3 163 k (.int (nI (n + 1)))) c = hp_ar h2 c) ∧ (∀ i, i ≠ n → hp_ar (hp_put h3 163 k (.int (nI (n + 1)))) q i = hp_ar h2 q i) ∧ hp_ar (hp_put h3 163 k (.int (nI (n + 1)))) q n = .ref x ∧
    (∀ i, i < len → hp_ar (hp_put h3 163 k (.int (nI (n + 1)))) e1 i = hp_ar (hp_set h2 q n (.ref x)) e i) ∧ hp_ar (hp_put h3 163 k (.int (nI (n + 1)))) e1 len = .ref x ∧ ((e1 = e ∧ hp_is G h2 e 13) ∨ e1 = hp_nx h2) ∧ hp_kd (hp_put h3 163 k (.int (nI (n + 1)))) e1 = 13 ∧ e1 < hp_nx (hp_put h3 163 k (.int (nI (n + 1)))) ∧ len + 1 ≤ hp_ln (hp_put h3 163 k (.int (nI (n + 1)))) e1 := by
  obtain ⟨e1, y1, y2, y3, y4, y5, y6, y7, y8, y9, y10, y11, y12, y13, y14, y15⟩ := A.fx hr f1
  have hn1 : hp_nx (hp_put (hp_set h2 q n (.ref x)) 0 r (.int (mc + 1))) = hp_nx h2 := rfl
  have hs1 : hp_sl (hp_put (hp_set h2 q n (.ref x)) 0 r (.int (mc + 1))) = hp_sl h2 := rfl
  have hk1 : ∀ c, hp_kd (hp_put (hp_set h2 q n (.ref x)) 0 r (.int (mc + 1))) c = hp_kd h2 c := fun _ => rfl
  have hl1 : ∀ c, hp_ln (hp_put (hp_set h2 q n (.ref x)) 0 r (.int (mc + 1))) c = hp_ln h2 c := fun _ => rfl
  have hf1 : ∀ f c, hp_fl (hp_put (hp_set h2 q n (.ref x)) 0 r (.int (mc + 1))) f c = va_up (hp_fl h2) 0 (va_up (hp_fl h2 0) r (.int (mc + 1))) f c := fun _ _ => rfl
  have ha1 : ∀ c, hp_ar (hp_put (hp_set h2 q n (.ref x)) 0 r (.int (mc + 1))) c = va_up (hp_ar h2) q (va_up (hp_ar h2 q) n (.ref x)) c := fun _ => rfl
  have hi1 : hp_is G (hp_put (hp_set h2 q n (.ref x)) 0 r (.int (mc + 1))) e 13 ↔ hp_is G h2 e 13 := Iff.rfl
  have ha2 : ∀ i, hp_ar (hp_put (hp_set h2 q n (.ref x)) 0 r (.int (mc + 1))) e i = hp_ar (hp_set h2 q n (.ref x)) e i := fun _ => rfl
  generalize hp_put (hp_set h2 q n (.ref x)) 0 r (.int (mc + 1)) = b at *
  have hf2 : ∀ f c, hp_fl (hp_put h3 163 k (.int (nI (n + 1)))) f c = va_up (hp_fl h3) 163 (va_up (hp_fl h3 163) k (.int (nI (n + 1)))) f c := fun _ _ => rfl
  have hne : q ≠ e1 := by
    rcases y12 with ⟨z1, z2⟩ | z
    · intro z; exact hqe ⟨z.trans z1, hi1.mp z2⟩
    · omega
  have f163 : ∀ f c, ¬ (c = k ∧ f = 163) → hp_fl (hp_put h3 163 k (.int (nI (n + 1)))) f c = hp_fl h3 f c := fun f c hz => by
    rw [hf2]
    by_cases e6 : f = 163
    · subst e6
      rw [va_up_self, va_up_ne _ _ (fun z => hz ⟨z, rfl⟩)]
    · rw [va_up_ne _ _ e6]
  refine ⟨e1, ⟨by show hp_nx h2 ≤ hp_nx h3; omega, by show hp_nx h3 ≤ _; omega, by show _ ≤ hp_sl h3; omega, by show hp_sl h3 ≤ _; omega⟩, fun c hc => ⟨?_, ?_⟩, fun f c hc z1 z2 => ?_, ⟨?_, ?_, ?_, ?_⟩, fun c hc z1 z2 => ?_, fun i hi => ?_, ?_, fun i hi => ?_, y11, ?_, y13, y14, y15⟩
  · exact (y5 c (by omega)).1.trans (hk1 c)
  · exact (y5 c (by omega)).2.trans (hl1 c)
  · rw [f163 f c z2, y6 f c (by omega) (fun z => z1 ⟨z.1, by omega⟩), hf1]
    by_cases e0 : f = 0
    · subst e0
      rw [va_up_self, va_up_ne _ _ (fun z => z1 ⟨z, by omega⟩)]
    · rw [va_up_ne _ _ e0]
  · rw [f163 0 r (fun z => by omega), y6 0 r (by omega) (fun z => by omega), hf1, va_up_self, va_up_self]
  · rw [f163 1 r (fun z => by omega)]; exact y7
  · rw [f163 2 r (fun z => by omega)]; exact y8
  · rw [hf2, va_up_self, va_up_self]
  · show hp_ar h3 c = _
    rw [y9 c (by omega) z2, ha1, va_up_ne _ _ z1]
  · show hp_ar h3 q i = _
    rw [y9 q (by omega) hne, ha1, va_up_self, va_up_ne _ _ hi]
  · show hp_ar h3 q n = _
    rw [y9 q (by omega) hne, ha1, va_up_self, va_up_self]
  · show hp_ar h3 e1 i = _
    rw [y10 i hi, ha2]
  · rcases y12 with ⟨z1, z2⟩ | z
    · exact Or.inl ⟨z1, hi1.mp z2⟩
    · exact Or.inr (z.trans hn1)
theorem k_pig : ∀ (m : Nat) (L : List Nat), L.Nodup → (∀ x, x ∈ L → x < m) → L.length ≤ m
  | 0, L, _, h => by
    cases L with
    | nil => exact Nat.le_refl _
    | cons x r => exact absurd (h x List.mem_cons_self) (Nat.not_lt_zero _)
  | m + 1, L, hd, h => by
    by_cases hm : m ∈ L
    · have h1 := k_pig m (L.erase m) (hd.erase m) (fun x hx => by
        have h2 := h x (List.mem_of_mem_erase hx)
        have h3 : x ≠ m := ((List.Nodup.mem_erase_iff hd).mp hx).1
        omega)
      have h2 := List.length_erase_of_mem hm
      omega
    · have := k_pig m L hd (fun x hx => by
        have h2 := h x hx
        have h3 : x ≠ m := fun z => hm (z ▸ hx)
        omega)
      omega
/-- a row has at most as many as are made beside its keeper -/
theorem a_T.rw1 {a : aS} (T : a_T a) {p : Nat} (hp : p < a_mk a) : (a_rw a p).length + 1 ≤ a_mk a := by
  have hnp : p ∉ a_rw a p := fun z => by
    have := (T.rc hp z).2.2
    omega
  have := k_pig (a_mk a) (p :: a_rw a p) (List.nodup_cons.mpr ⟨hnp, T.nd hp⟩) (fun x hx => by
    rcases List.mem_cons.mp hx with rfl | hx
    · exact hp
    · exact (T.rc hp hx).1)
  exact this
def a_vK (p : Nat) (dp : Int) (kn sg r t : Int) (f : Nat) : Int := if f = 0 then 1 else if f = 1 then p else if f = 2 then dp + 1 else if f = 4 then kn else if f = 5 then sg else if f = 6 then r else if f = 7 then t else 0
def a_vW (p : Nat) (dp : Int) (kn pa st sp fa : Int) (f : Nat) : Int := if f = 1 then p else if f = 2 then dp + 1 else if f = 4 then kn else if f = 8 then pa else if f = 9 then st else if f = 10 then sp else if f = 11 then fa else 0
theorem a_add_T {a : aS} (T : a_T a) {p : Nat} (hp : p < a_mk a) (hpk : a_nd a 0 p = 1) (h80 : a_mk a < 80) (h8 : a_nd a 2 p < 8) {v : Nat → Int} (v0 : v 0 = 0 ∨ v 0 = 1) (v1 : v 1 = p) (v2 : v 2 = a_nd a 2 p + 1) (v3 : v 3 = 0) (v4 : 0 ≤ v 4 ∧ v 4 ≤ 2) (v5 : 0 ≤ v 5 ∧ v 5 ≤ 2) (v6 : 0 ≤ v 6 ∧ v 6 ≤ 50) (v7 : 0 ≤ v 7 ∧ v 7 ≤ 1000) (v8 : -1 ≤ v 8 ∧ v 8 ≤ 1000) (v9 : 0 ≤ v 9 ∧ v 9 ≤ 100) (v10 : 0 ≤ v 10 ∧ v 10 ≤ 100) (v11 : 0 ≤ v 11 ∧ v 11 ≤ 50) : a_T (a_add p v a) := by
  have hpn : p ≠ a_mk a := Nat.ne_of_lt hp
  have nn : ∀ f, a_nd (a_add p v a) f (a_mk a) = v f := fun f => if_pos rfl
  have nm : ∀ f m, m ≠ a_mk a → a_nd (a_add p v a) f m = a_nd a f m := fun f m hm => if_neg hm
  have rn : a_rw (a_add p v a) (a_mk a) = [] := by
    show va_up (va_up (a_rw a) (a_mk a) []) p _ (a_mk a) = []
    rw [va_up_ne _ _ (Ne.symm hpn), va_up_self]
  have rp : a_rw (a_add p v a) p = a_rw a p ++ [a_mk a] := va_up_self _ _ _
  have rm : ∀ m, m ≠ a_mk a → m ≠ p → a_rw (a_add p v a) m = a_rw a m := fun m h1 h2 => by
    show va_up (va_up (a_rw a) (a_mk a) []) p _ m = _
    rw [va_up_ne _ _ h2, va_up_ne _ _ h1]
  have lt : ∀ m, m < a_mk (a_add p v a) → m = a_mk a ∨ m < a_mk a := fun m hm => by
    have : m < a_mk a + 1 := hm
    omega
  have up : ∀ m, m < a_mk a → m < a_mk (a_add p v a) := fun m hm => Nat.lt_succ_of_lt hm
  have r2p := T.r2 hp
  have t1 := T.1.1
  refine ⟨⟨Nat.le_succ_of_le t1, h80⟩, fun m hm => ?_, fun m hm => ?_, fun m hm => ?_, fun m hm hw => ?_, fun m hm => ?_⟩
  · rcases lt m hm with rfl | hm
    · simp only [nn]
      exact ⟨v0, by omega, v4, v5, v6, v7, v8, v9, v10, fun _ => by omega⟩
    · have hmn : m ≠ a_mk a := Nat.ne_of_lt hm
      simp only [nm _ m hmn]
      exact T.2.1 m hm
  · rcases lt m hm with rfl | hm
    · rw [nn, v3]; omega
    · rw [nm 3 m (Nat.ne_of_lt hm)]; exact T.r3 hm
  · rcases lt m hm with rfl | hm
    · rw [nn]; exact v11
    · rw [nm 11 m (Nat.ne_of_lt hm)]; exact T.r11 hm
  · rcases lt m hm with rfl | hm
    · exact rn
    · have hmn : m ≠ a_mk a := Nat.ne_of_lt hm
      rw [nm 0 m hmn] at hw
      have hmp : m ≠ p := fun z => by rw [z] at hw; omega
      rw [rm m hmn hmp]
      exact T.2.2.2.2.1 m hm hw
  · rcases lt m hm with rfl | hm
    · rw [rn]
      exact ⟨Nat.zero_le _, List.nodup_nil, fun c hc => by cases hc⟩
    · have hmn : m ≠ a_mk a := Nat.ne_of_lt hm
      by_cases em : m = p
      · subst em
        rw [rp]
        have hl := T.rw1 hp
        refine ⟨by rw [List.length_append]; show _ + 1 ≤ 79; omega, ?_, fun c hc => ?_⟩
        · refine List.nodup_append.mpr ⟨T.nd hp, List.pairwise_singleton _ _, fun x hx y hy => ?_⟩
          rw [List.mem_singleton.mp hy]
          have := (T.rc hp hx).1
          omega
        · rcases List.mem_append.mp hc with hc | hc
          · obtain ⟨z1, z2, z3⟩ := T.rc hp hc
            have hcn : c ≠ a_mk a := Nat.ne_of_lt z1
            rw [nm 1 c hcn, nm 2 c hcn, nm 2 m hmn]
            exact ⟨up c z1, z2, z3⟩
          · rw [List.mem_singleton.mp hc, nn, nn, nm 2 m hmn]
            exact ⟨Nat.lt_succ_self _, v1, v2⟩
      · rw [rm m hmn em]
        obtain ⟨y1, y2, y3⟩ := T.2.2.2.2.2 m hm
        refine ⟨y1, y2, fun c hc => ?_⟩
        obtain ⟨z1, z2, z3⟩ := y3 c hc
        have hcn : c ≠ a_mk a := Nat.ne_of_lt z1
        rw [nm 1 c hcn, nm 2 c hcn, nm 2 m hmn]
        exact ⟨up c z1, z2, z3⟩
theorem a_add_A {a : aS} (A : a_A a) {p : Nat} {v : Nat → Int} : a_A (a_add p v a) := by
  intro m hm
  show (va_up (a_rt a) (a_mk a) [] m).Pairwise (· ≤ ·) ∧ ∀ x, x ∈ va_up (a_rt a) (a_mk a) [] m → x ≤ a_tm a
  by_cases e : m = a_mk a
  · rw [e, va_up_self]
    exact ⟨List.Pairwise.nil, fun x hx => by cases hx⟩
  · rw [va_up_ne _ _ e]
    exact A m (by have : m < a_mk a + 1 := hm; omega)
set_option maxRecDepth 20000 in
set_option maxHeartbeats 4000000 in
theorem KR.mkK {G : hpG} {pr : Nat → Prop} {B : hpT} {N S : Nat} {h : hpT} {κ : kS} {a : aS} (K : KR G pr B N S h κ a) (T : a_T a) (hd : hp_dE G < hp_n0 G) {p : Nat} (hp : p < a_mk a) (hpk : a_nd a 0 p = 1) (h80 : a_mk a < 80) {kn sg r t : Int32} {h3 : hpT} (A : hp_ad G (hp_put (hp_set (kc_Keep G (hp_mk h 2 10) (hp_nx h) (nI (a_mk a)) (some (κ.1 0 p)) (Int32.ofInt (a_nd a 2 p) + 1) kn sg r t) (κ.1 5 7) (a_mk a) (.ref (hp_nx h))) 0 (κ.1 1 p) (.int (κ.2.1 p + 1))) h3 (κ.1 1 p) (κ.1 2 p) (a_rw a p).length (hp_nx h)) :
    ∃ κ', KR G pr B (N + 5) (S + 160) (hp_put h3 163 (κ.1 5 0) (.int (nI (a_mk a + 1)))) κ' (a_add p (a_vK p (a_nd a 2 p) kn.toInt sg.toInt r.toInt t.toInt) a) ∧ (∀ m, m < a_mk a → κ'.1 0 m = κ.1 0 m) ∧ κ'.1 5 = κ.1 5 ∧ κ'.1 0 (a_mk a) = hp_nx h := by
  have hfg : hp_fg 0 h (kc_Keep G (hp_mk h 2 10) (hp_nx h) (nI (a_mk a)) (some (κ.1 0 p)) (Int32.ofInt (a_nd a 2 p) + 1) kn sg r t) := (hp_fg.rf.mk 2 10).keep G _ _ _ _ _ _ _ (Nat.le_refl _)
  have ha : hp_nx h < hp_nx (hp_mk h 2 10) := Nat.lt_succ_self _
  have F64 := kc_Keep_f64 (G := G) (n := nI (a_mk a)) (ow := some (κ.1 0 p)) (dp := Int32.ofInt (a_nd a 2 p) + 1) (kn := kn) (sg := sg) (r := r) (t := t) ha
  have F65 := kc_Keep_f65 (G := G) (n := nI (a_mk a)) (ow := some (κ.1 0 p)) (dp := Int32.ofInt (a_nd a 2 p) + 1) (kn := kn) (sg := sg) (r := r) (t := t) ha
  have F66 := kc_Keep_f66 (G := G) (n := nI (a_mk a)) (ow := some (κ.1 0 p)) (dp := Int32.ofInt (a_nd a 2 p) + 1) (kn := kn) (sg := sg) (r := r) (t := t) ha
  have F67 := kc_Keep_f67 (G := G) (n := nI (a_mk a)) (ow := some (κ.1 0 p)) (dp := Int32.ofInt (a_nd a 2 p) + 1) (kn := kn) (sg := sg) (r := r) (t := t) ha
  have F68 := kc_Keep_f68 (G := G) (n := nI (a_mk a)) (ow := some (κ.1 0 p)) (dp := Int32.ofInt (a_nd a 2 p) + 1) (kn := kn) (sg := sg) (r := r) (t := t) ha
  have F69 := kc_Keep_f69 (G := G) (n := nI (a_mk a)) (ow := some (κ.1 0 p)) (dp := Int32.ofInt (a_nd a 2 p) + 1) (kn := kn) (sg := sg) (r := r) (t := t) ha
  have F70 := kc_Keep_f70 (G := G) (n := nI (a_mk a)) (ow := some (κ.1 0 p)) (dp := Int32.ofInt (a_nd a 2 p) + 1) (kn := kn) (sg := sg) (r := r) (t := t) ha
  have F71 := kc_Keep_f71 (G := G) (n := nI (a_mk a)) (ow := some (κ.1 0 p)) (dp := Int32.ofInt (a_nd a 2 p) + 1) (kn := kn) (sg := sg) (r := r) (t := t) ha
  have F72 := kc_Keep_f72 (G := G) (n := nI (a_mk a)) (ow := some (κ.1 0 p)) (dp := Int32.ofInt (a_nd a 2 p) + 1) (kn := kn) (sg := sg) (r := r) (t := t) ha
  have F73 := kc_Keep_f73 (G := G) (n := nI (a_mk a)) (ow := some (κ.1 0 p)) (dp := Int32.ofInt (a_nd a 2 p) + 1) (kn := kn) (sg := sg) (r := r) (t := t) ha
  have F0 := kc_Keep_f0 (G := G) (n := nI (a_mk a)) (ow := some (κ.1 0 p)) (dp := Int32.ofInt (a_nd a 2 p) + 1) (kn := kn) (sg := sg) (r := r) (t := t) ha
  have F1 := kc_Keep_f1 (G := G) (n := nI (a_mk a)) (ow := some (κ.1 0 p)) (dp := Int32.ofInt (a_nd a 2 p) + 1) (kn := kn) (sg := sg) (r := r) (t := t) ha
  have F2 := kc_Keep_f2 (G := G) (n := nI (a_mk a)) (ow := some (κ.1 0 p)) (dp := Int32.ofInt (a_nd a 2 p) + 1) (kn := kn) (sg := sg) (r := r) (t := t) ha
  have F96 := kc_Keep_f96 (G := G) (n := nI (a_mk a)) (ow := some (κ.1 0 p)) (dp := Int32.ofInt (a_nd a 2 p) + 1) (kn := kn) (sg := sg) (r := r) (t := t) ha
  have F97 := kc_Keep_f97 (G := G) (n := nI (a_mk a)) (ow := some (κ.1 0 p)) (dp := Int32.ofInt (a_nd a 2 p) + 1) (kn := kn) (sg := sg) (r := r) (t := t) ha
  have Kd : ∀ b, hp_kd (kc_Keep G (hp_mk h 2 10) (hp_nx h) (nI (a_mk a)) (some (κ.1 0 p)) (Int32.ofInt (a_nd a 2 p) + 1) kn sg r t) b = va_up (va_up (va_up (va_up (hp_kd h) (hp_nx h) 2) (hp_nx h + 1) 0) (hp_nx h + 2) 3) (hp_nx h + 3) 10 b := fun _ => rfl
  have Kl : ∀ b, hp_ln (kc_Keep G (hp_mk h 2 10) (hp_nx h) (nI (a_mk a)) (some (κ.1 0 p)) (Int32.ofInt (a_nd a 2 p) + 1) kn sg r t) b = va_up (hp_ln h) (hp_nx h + 3) 8 b := fun _ => rfl
  have Kn : hp_nx (kc_Keep G (hp_mk h 2 10) (hp_nx h) (nI (a_mk a)) (some (κ.1 0 p)) (Int32.ofInt (a_nd a 2 p) + 1) kn sg r t) = hp_nx h + 4 := rfl
  have Ks : hp_sl (kc_Keep G (hp_mk h 2 10) (hp_nx h) (nI (a_mk a)) (some (κ.1 0 p)) (Int32.ofInt (a_nd a 2 p) + 1) kn sg r t) = hp_sl h + 23 := rfl
  have m1 : hp_nx (hp_mk h 2 10) = hp_nx h + 1 := rfl
  rw [m1] at F69 F70 F0 F1 F2 F96 F97
  generalize (kc_Keep G (hp_mk h 2 10) (hp_nx h) (nI (a_mk a)) (some (κ.1 0 p)) (Int32.ofInt (a_nd a 2 p) + 1) kn sg r t) = h2 at *
  have lL := (K.isL hp hpk).2.1
  have lT := K.isT.2.1
  have lM := K.isM.1.2.1
  have gT := K.isT.1
  have hkr : κ.1 5 0 ≠ κ.1 1 p := fun z => by
    have z1 := K.isT.2.2
    have z2 := (K.isL hp hpk).2.2
    rw [z, z2] at z1
    cases z1
  have old : ∀ b, b < hp_nx h → hp_kd h2 b = hp_kd h b ∧ hp_ln h2 b = hp_ln h b ∧ (∀ f, hp_fl h2 f b = hp_fl h f b) ∧ hp_ar h2 b = hp_ar h b := fun b hb => hfg.2 b (Nat.zero_le _) hb
  have he : (a_rw a p = [] ∧ κ.1 2 p = hp_dE G) ∨ (k_is G pr h (κ.1 2 p) 13 ∧ (a_rw a p).length ≤ hp_ln h (κ.1 2 p)) := K.isE hp hpk
  have hn0 : hp_n0 G ≤ hp_nx h := by omega
  have e13 : hp_is G h2 (κ.1 2 p) 13 → k_is G pr h (κ.1 2 p) 13 := fun z => by
    rcases he with e | e
    · have := z.1; rw [e.2] at this; omega
    · exact e.1
  obtain ⟨e1, ⟨j1, j2, j3, j4⟩, J2, J3, J4, J5, J6, J7, J8, J9, J10, J11, J12, J13⟩ := kj_H (k := κ.1 5 0) (by omega) (by omega) (by omega) hkr ((old _ lL).2.2.1 1 |>.trans (K.f1 hp hpk)) (fun z => by
    have z1 := K.isM.1.2.2
    have z2 := (e13 z.2).1.2.2
    rw [z.1, z2] at z1
    cases z1) A
  generalize hp_put h3 163 (κ.1 5 0) (.int (nI (a_mk a + 1))) = H at *
  have npr : ∀ b, hp_nx h ≤ b → ¬ pr b := fun b hb z => by
    have := (K.2.2.2.2.1 b z).1
    omega
  have nfl : ∀ f b, hp_nx h ≤ b → b < hp_nx h2 → hp_fl H f b = hp_fl h2 f b := fun f b h1 h2' => J3 f b h2' (fun z => by omega) (fun z => by omega)
  have nk : ∀ b, hp_nx h ≤ b → b < hp_nx h2 → ∀ c, hp_kd h2 b = c → k_is G pr H b c := fun b h1 h2' c hc => ⟨⟨by omega, by omega, (J2 b h2').1.trans hc⟩, npr b h1⟩
  refine ⟨k_nw κ (fun q => if q = 0 then hp_nx h else if q = 1 then hp_nx h + 1 else if q = 2 then hp_dE G else if q = 3 then hp_nx h + 2 else hp_nx h + 3) (a_mk a) p e1 (κ.2.1 p + 1), K.join T hd hp hpk T.1.1 (v := (a_vK p (a_nd a 2 p) kn.toInt sg.toInt r.toInt t.toInt)) (Or.inr rfl) (by omega) (fun b hb => ?_) (fun f b hb z1 z2 => ?_) J4 (fun b hb z1 z2 => ?_) (fun i hi => ?_) J7 ?_ ⟨⟨⟨?_, J12, J11⟩, ?_⟩, J13⟩ (fun i hi => ?_) J9 ?_ (fun hv1 => ?_) (fun f ok => ?_) (by have := K.2.2.2.2.2.1.1; omega) (by omega), fun m hm => ?_, ?_, ?_⟩
  · exact ⟨(J2 b (by omega)).1.trans (old b hb).1, (J2 b (by omega)).2.trans (old b hb).2.1⟩
  · exact (J3 f b (by omega) z1 z2).trans ((old b hb).2.2.1 f)
  · exact (J5 b (by omega) z1 z2).trans (old b hb).2.2.2
  · exact (J6 i hi).trans (congrFun (old _ lM).2.2.2 i)
  · rcases J10 with ⟨z1, z2⟩ | z
    · exact Or.inl ⟨z1, by rw [z1]; exact z2.1, by rw [z1]; exact e13 z2⟩
    · exact Or.inr (by omega)
  · rcases J10 with ⟨z1, z2⟩ | z
    · rw [z1]; exact z2.1
    · omega
  · rcases J10 with ⟨z1, z2⟩ | z
    · rw [z1]; exact (e13 z2).2
    · exact npr e1 (by omega)
  · rw [J8 i hi]
    have hE2 : κ.1 2 p ≠ κ.1 5 7 := fun z => by
      have z2 := (K.isE2 hp hpk hi).1.1.2.2
      have z1 := K.isM.1.2.2
      rw [z, z1] at z2
      cases z2
    have ea : hp_ar (hp_set h2 (κ.1 5 7) (a_mk a) (.ref (hp_nx h))) (κ.1 2 p) i = hp_ar h2 (κ.1 2 p) i := congrFun (va_up_ne _ _ hE2) i
    rw [ea, (old _ (K.isE2 hp hpk hi).1.1.2.1).2.2.2]
    exact K.elt hp hpk hi
  · refine ⟨Nat.le_refl _, nk _ (Nat.le_refl _) (by omega) 2 ?_⟩
    rw [Kd, va_up_ne _ _ (by omega), va_up_ne _ _ (by omega), va_up_ne _ _ (by omega), va_up_self]
  · refine ⟨⟨Nat.le_succ _, nk (hp_nx h + 1) (by omega) (by omega) 0 ?_⟩, rfl, ⟨Nat.le_add_right _ 2, nk (hp_nx h + 2) (by omega) (by omega) 3 ?_⟩, ⟨Nat.le_add_right _ 3, nk (hp_nx h + 3) (by omega) (by omega) 10 ?_⟩, ?_⟩
    · rw [Kd, va_up_ne _ _ (by omega), va_up_ne _ _ (by omega), va_up_self]
    · rw [Kd, va_up_ne _ _ (by omega), va_up_self]
    · rw [Kd, va_up_self]
    · have el : hp_ln H (hp_nx h + 3) = 8 := by rw [(J2 (hp_nx h + 3) (by omega)).2, Kl, va_up_self]
      show 2 ≤ hp_ln H (hp_nx h + 3) ∧ hp_ln H (hp_nx h + 3) ≤ 16777216
      omega
  · have nn : ∀ f, a_nd (a_add p (a_vK p (a_nd a 2 p) kn.toInt sg.toInt r.toInt t.toInt) a) f (a_mk a) = (a_vK p (a_nd a 2 p) kn.toInt sg.toInt r.toInt t.toInt) f := fun f => if_pos rfl
    have t1 := T.1.1
    have hpn : ¬ p = a_mk a := Nat.ne_of_lt hp
    rcases ok with ⟨z1, z2, z3⟩ | ⟨-, -, z3⟩ | ⟨z1, z2, z3⟩ | ⟨z1, z2, z3, z4⟩ | ⟨z1, z2, z3, z4⟩ | ⟨z1, z2, z3, z4⟩ | ⟨-, -, z3⟩
    · have q3 : f = 0 ∨ f = 1 ∨ f = 2 := by omega
      rcases q3 with rfl | rfl | rfl
      · have ka : k_at (k_nw κ (fun q => if q = 0 then hp_nx h else if q = 1 then hp_nx h + 1 else if q = 2 then hp_dE G else if q = 3 then hp_nx h + 2 else hp_nx h + 3) (a_mk a) p e1 (κ.2.1 p + 1)) 0 (a_mk a) = hp_nx h + 1 := by
          unfold k_at
          rw [if_pos (by omega)]
          exact if_pos ⟨by decide, rfl⟩
        rw [ka, nfl 0 _ (by omega) (by omega), F0]
        show _ = Value.int (va_up (va_up κ.2.1 (a_mk a) 0) p (κ.2.1 p + 1) (a_mk a))
        rw [va_up_ne _ _ (fun z => hpn z.symm), va_up_self]
      · have ka : k_at (k_nw κ (fun q => if q = 0 then hp_nx h else if q = 1 then hp_nx h + 1 else if q = 2 then hp_dE G else if q = 3 then hp_nx h + 2 else hp_nx h + 3) (a_mk a) p e1 (κ.2.1 p + 1)) 1 (a_mk a) = hp_nx h + 1 := by
          unfold k_at
          rw [if_pos (by omega)]
          exact if_pos ⟨by decide, rfl⟩
        rw [ka, nfl 1 _ (by omega) (by omega), F1]
        exact (congrArg Value.ref (if_pos ⟨by decide, rfl⟩)).symm
      · have ka : k_at (k_nw κ (fun q => if q = 0 then hp_nx h else if q = 1 then hp_nx h + 1 else if q = 2 then hp_dE G else if q = 3 then hp_nx h + 2 else hp_nx h + 3) (a_mk a) p e1 (κ.2.1 p + 1)) 2 (a_mk a) = hp_nx h + 1 := by
          unfold k_at
          rw [if_pos (by omega)]
          exact if_pos ⟨by decide, rfl⟩
        rw [ka, nfl 2 _ (by omega) (by omega), F2]
        show _ = Value.int (nI (va_up (va_up (a_rw a) (a_mk a) []) p (a_rw a p ++ [a_mk a]) (a_mk a)).length)
        rw [va_up_ne _ _ (fun z => hpn z.symm), va_up_self]
        rfl
    · omega
    · have ka : k_at (k_nw κ (fun q => if q = 0 then hp_nx h else if q = 1 then hp_nx h + 1 else if q = 2 then hp_dE G else if q = 3 then hp_nx h + 2 else hp_nx h + 3) (a_mk a) p e1 (κ.2.1 p + 1)) f (a_mk a) = hp_nx h := by
        unfold k_at
        rw [if_neg (by omega), if_neg (by omega), if_pos (by omega)]
        exact if_pos ⟨by decide, rfl⟩
      rw [ka, nfl f _ (by omega) (by omega)]
      have q5 : f = 64 ∨ f = 65 ∨ f = 66 ∨ f = 67 ∨ f = 68 := by omega
      rcases q5 with rfl | rfl | rfl | rfl | rfl
      · rw [F64]; rfl
      · rw [F65]
        show va_rf (some (κ.1 0 p)) = va_rf (if a_mk a = 0 then none else some ((k_nw κ (fun q => if q = 0 then hp_nx h else if q = 1 then hp_nx h + 1 else if q = 2 then hp_dE G else if q = 3 then hp_nx h + 2 else hp_nx h + 3) (a_mk a) p e1 (κ.2.1 p + 1)).1 0 (a_nd (a_add p (a_vK p (a_nd a 2 p) kn.toInt sg.toInt r.toInt t.toInt) a) 1 (a_mk a)).toNat))
        rw [if_neg (by omega), nn]
        have e1' : ((a_vK p (a_nd a 2 p) kn.toInt sg.toInt r.toInt t.toInt) 1).toNat = p := Int.toNat_natCast p
        rw [e1']
        have e2' : (k_nw κ (fun q => if q = 0 then hp_nx h else if q = 1 then hp_nx h + 1 else if q = 2 then hp_dE G else if q = 3 then hp_nx h + 2 else hp_nx h + 3) (a_mk a) p e1 (κ.2.1 p + 1)).1 0 p = κ.1 0 p := by
          show (if 0 ≤ 4 ∧ p = a_mk a then _ else if 0 = 2 ∧ p = p then e1 else κ.1 0 p) = _
          rw [if_neg (fun z => hpn z.2), if_neg (fun z => by omega)]
        rw [e2']
      · rw [F66]
        show _ = Value.int (Int32.ofInt (a_nd (a_add p (a_vK p (a_nd a 2 p) kn.toInt sg.toInt r.toInt t.toInt) a) 2 (a_mk a)))
        rw [nn]
        show Value.int (Int32.ofInt (a_nd a 2 p) + Int32.ofInt 1) = Value.int (Int32.ofInt (a_nd a 2 p + 1))
        rw [Int32.ofInt_add]
      · rw [F67]
        show _ = Value.int (Int32.ofInt (a_nd (a_add p (a_vK p (a_nd a 2 p) kn.toInt sg.toInt r.toInt t.toInt) a) 4 (a_mk a)))
        rw [nn]
        exact (congrArg Value.int (Int32.ofInt_toInt kn)).symm
      · rw [F68]
        show _ = Value.int (Int32.ofInt (a_nd (a_add p (a_vK p (a_nd a 2 p) kn.toInt sg.toInt r.toInt t.toInt) a) 3 (a_mk a)))
        rw [nn]
        rfl
    · have ka : k_at (k_nw κ (fun q => if q = 0 then hp_nx h else if q = 1 then hp_nx h + 1 else if q = 2 then hp_dE G else if q = 3 then hp_nx h + 2 else hp_nx h + 3) (a_mk a) p e1 (κ.2.1 p + 1)) f (a_mk a) = hp_nx h := by
        unfold k_at
        rw [if_neg (by omega), if_neg (by omega), if_pos (by omega)]
        exact if_pos ⟨by decide, rfl⟩
      rw [ka, nfl f _ (by omega) (by omega)]
      have q5 : f = 69 ∨ f = 70 ∨ f = 71 ∨ f = 72 ∨ f = 73 := by omega
      rcases q5 with rfl | rfl | rfl | rfl | rfl
      · rw [F69]
        exact (congrArg Value.ref (if_pos ⟨by decide, rfl⟩)).symm
      · rw [F70]
        exact (congrArg Value.ref (if_pos ⟨by decide, rfl⟩)).symm
      · rw [F71]
        show _ = Value.int (Int32.ofInt (a_nd (a_add p (a_vK p (a_nd a 2 p) kn.toInt sg.toInt r.toInt t.toInt) a) 5 (a_mk a)))
        rw [nn]
        exact (congrArg Value.int (Int32.ofInt_toInt sg)).symm
      · rw [F72]
        show _ = Value.int (Int32.ofInt (a_nd (a_add p (a_vK p (a_nd a 2 p) kn.toInt sg.toInt r.toInt t.toInt) a) 6 (a_mk a)))
        rw [nn]
        exact (congrArg Value.int (Int32.ofInt_toInt r)).symm
      · rw [F73]
        show _ = Value.int (Int32.ofInt (a_nd (a_add p (a_vK p (a_nd a 2 p) kn.toInt sg.toInt r.toInt t.toInt) a) 7 (a_mk a)))
        rw [nn]
        exact (congrArg Value.int (Int32.ofInt_toInt t)).symm
    · have ka : k_at (k_nw κ (fun q => if q = 0 then hp_nx h else if q = 1 then hp_nx h + 1 else if q = 2 then hp_dE G else if q = 3 then hp_nx h + 2 else hp_nx h + 3) (a_mk a) p e1 (κ.2.1 p + 1)) f (a_mk a) = hp_nx h + 2 := by
        unfold k_at
        rw [if_neg (by omega), if_neg (by omega), if_neg (by omega), if_pos (by omega)]
        exact if_pos ⟨by decide, rfl⟩
      rw [ka, nfl f _ (by omega) (by omega)]
      have q5 : f = 96 ∨ f = 97 := by omega
      rcases q5 with rfl | rfl
      · rw [F96]
        exact (congrArg Value.ref (if_pos ⟨by decide, rfl⟩)).symm
      · rw [F97]
        show _ = Value.int (nI (va_up κ.2.2 (a_mk a) [] (a_mk a)).length)
        rw [va_up_self]
        rfl
    · rw [nn] at z4; cases z4
    · omega
  · show (if 0 ≤ 4 ∧ m = a_mk a then _ else if 0 = 2 ∧ m = p then e1 else κ.1 0 m) = _
    rw [if_neg (fun z => by omega), if_neg (fun z => by omega)]
  · funext m
    show (if 5 ≤ 4 ∧ m = a_mk a then hp_nx h + 3 else if 5 = 2 ∧ m = p then e1 else κ.1 5 m) = _
    rw [if_neg (fun z => by omega), if_neg (fun z => by omega)]
  · exact if_pos ⟨by decide, rfl⟩
set_option maxRecDepth 20000 in
set_option maxHeartbeats 4000000 in
theorem KR.mkW {G : hpG} {pr : Nat → Prop} {B : hpT} {N S : Nat} {h : hpT} {κ : kS} {a : aS} (K : KR G pr B N S h κ a) (T : a_T a) (hd : hp_dE G < hp_n0 G) {p : Nat} (hp : p < a_mk a) (hpk : a_nd a 0 p = 1) (h80 : a_mk a < 80) {kn pa st sp fa : Int32} {h3 : hpT} (A : hp_ad G (hp_put (hp_set (kc_Work (hp_mk h 4 9) (hp_nx h) (nI (a_mk a)) (some (κ.1 0 p)) (Int32.ofInt (a_nd a 2 p) + 1) kn pa st sp fa) (κ.1 5 7) (a_mk a) (.ref (hp_nx h))) 0 (κ.1 1 p) (.int (κ.2.1 p + 1))) h3 (κ.1 1 p) (κ.1 2 p) (a_rw a p).length (hp_nx h)) :
    ∃ κ', KR G pr B (N + 5) (S + 160) (hp_put h3 163 (κ.1 5 0) (.int (nI (a_mk a + 1)))) κ' (a_add p (a_vW p (a_nd a 2 p) kn.toInt pa.toInt st.toInt sp.toInt fa.toInt) a) ∧ (∀ m, m < a_mk a → κ'.1 0 m = κ.1 0 m) ∧ κ'.1 5 = κ.1 5 ∧ κ'.1 0 (a_mk a) = hp_nx h := by
  have hfg : hp_fg 0 h (kc_Work (hp_mk h 4 9) (hp_nx h) (nI (a_mk a)) (some (κ.1 0 p)) (Int32.ofInt (a_nd a 2 p) + 1) kn pa st sp fa) := (hp_fg.rf.mk 4 9).work _ _ _ _ _ _ _ _ (Nat.le_refl _)
  have F64 := kc_Work_f64 (h := hp_mk h 4 9) (a := hp_nx h) (n := nI (a_mk a)) (ow := some (κ.1 0 p)) (dp := Int32.ofInt (a_nd a 2 p) + 1) (kn := kn) (p := pa) (b := st) (e := sp) (f := fa)
  have F65 := kc_Work_f65 (h := hp_mk h 4 9) (a := hp_nx h) (n := nI (a_mk a)) (ow := some (κ.1 0 p)) (dp := Int32.ofInt (a_nd a 2 p) + 1) (kn := kn) (p := pa) (b := st) (e := sp) (f := fa)
  have F66 := kc_Work_f66 (h := hp_mk h 4 9) (a := hp_nx h) (n := nI (a_mk a)) (ow := some (κ.1 0 p)) (dp := Int32.ofInt (a_nd a 2 p) + 1) (kn := kn) (p := pa) (b := st) (e := sp) (f := fa)
  have F67 := kc_Work_f67 (h := hp_mk h 4 9) (a := hp_nx h) (n := nI (a_mk a)) (ow := some (κ.1 0 p)) (dp := Int32.ofInt (a_nd a 2 p) + 1) (kn := kn) (p := pa) (b := st) (e := sp) (f := fa)
  have F68 := kc_Work_f68 (h := hp_mk h 4 9) (a := hp_nx h) (n := nI (a_mk a)) (ow := some (κ.1 0 p)) (dp := Int32.ofInt (a_nd a 2 p) + 1) (kn := kn) (p := pa) (b := st) (e := sp) (f := fa)
  have F133 := kc_Work_f133 (h := hp_mk h 4 9) (a := hp_nx h) (n := nI (a_mk a)) (ow := some (κ.1 0 p)) (dp := Int32.ofInt (a_nd a 2 p) + 1) (kn := kn) (p := pa) (b := st) (e := sp) (f := fa)
  have F134 := kc_Work_f134 (h := hp_mk h 4 9) (a := hp_nx h) (n := nI (a_mk a)) (ow := some (κ.1 0 p)) (dp := Int32.ofInt (a_nd a 2 p) + 1) (kn := kn) (p := pa) (b := st) (e := sp) (f := fa)
  have F135 := kc_Work_f135 (h := hp_mk h 4 9) (a := hp_nx h) (n := nI (a_mk a)) (ow := some (κ.1 0 p)) (dp := Int32.ofInt (a_nd a 2 p) + 1) (kn := kn) (p := pa) (b := st) (e := sp) (f := fa)
  have F136 := kc_Work_f136 (h := hp_mk h 4 9) (a := hp_nx h) (n := nI (a_mk a)) (ow := some (κ.1 0 p)) (dp := Int32.ofInt (a_nd a 2 p) + 1) (kn := kn) (p := pa) (b := st) (e := sp) (f := fa)
  have Kd : ∀ b, hp_kd (kc_Work (hp_mk h 4 9) (hp_nx h) (nI (a_mk a)) (some (κ.1 0 p)) (Int32.ofInt (a_nd a 2 p) + 1) kn pa st sp fa) b = va_up (hp_kd h) (hp_nx h) 4 b := fun _ => rfl
  have Kl : ∀ b, hp_ln (kc_Work (hp_mk h 4 9) (hp_nx h) (nI (a_mk a)) (some (κ.1 0 p)) (Int32.ofInt (a_nd a 2 p) + 1) kn pa st sp fa) b = hp_ln h b := fun _ => rfl
  have Kn : hp_nx (kc_Work (hp_mk h 4 9) (hp_nx h) (nI (a_mk a)) (some (κ.1 0 p)) (Int32.ofInt (a_nd a 2 p) + 1) kn pa st sp fa) = hp_nx h + 1 := rfl
  have Ks : hp_sl (kc_Work (hp_mk h 4 9) (hp_nx h) (nI (a_mk a)) (some (κ.1 0 p)) (Int32.ofInt (a_nd a 2 p) + 1) kn pa st sp fa) = hp_sl h + 9 := rfl
  generalize (kc_Work (hp_mk h 4 9) (hp_nx h) (nI (a_mk a)) (some (κ.1 0 p)) (Int32.ofInt (a_nd a 2 p) + 1) kn pa st sp fa) = h2 at *
  have lL := (K.isL hp hpk).2.1
  have lT := K.isT.2.1
  have lM := K.isM.1.2.1
  have gT := K.isT.1
  have hkr : κ.1 5 0 ≠ κ.1 1 p := fun z => by
    have z1 := K.isT.2.2
    have z2 := (K.isL hp hpk).2.2
    rw [z, z2] at z1
    cases z1
  have old : ∀ b, b < hp_nx h → hp_kd h2 b = hp_kd h b ∧ hp_ln h2 b = hp_ln h b ∧ (∀ f, hp_fl h2 f b = hp_fl h f b) ∧ hp_ar h2 b = hp_ar h b := fun b hb => hfg.2 b (Nat.zero_le _) hb
  have he : (a_rw a p = [] ∧ κ.1 2 p = hp_dE G) ∨ (k_is G pr h (κ.1 2 p) 13 ∧ (a_rw a p).length ≤ hp_ln h (κ.1 2 p)) := K.isE hp hpk
  have hn0 : hp_n0 G ≤ hp_nx h := by omega
  have e13 : hp_is G h2 (κ.1 2 p) 13 → k_is G pr h (κ.1 2 p) 13 := fun z => by
    rcases he with e | e
    · have := z.1; rw [e.2] at this; omega
    · exact e.1
  obtain ⟨e1, ⟨j1, j2, j3, j4⟩, J2, J3, J4, J5, J6, J7, J8, J9, J10, J11, J12, J13⟩ := kj_H (k := κ.1 5 0) (by omega) (by omega) (by omega) hkr ((old _ lL).2.2.1 1 |>.trans (K.f1 hp hpk)) (fun z => by
    have z1 := K.isM.1.2.2
    have z2 := (e13 z.2).1.2.2
    rw [z.1, z2] at z1
    cases z1) A
  generalize hp_put h3 163 (κ.1 5 0) (.int (nI (a_mk a + 1))) = H at *
  have npr : ∀ b, hp_nx h ≤ b → ¬ pr b := fun b hb z => by
    have := (K.2.2.2.2.1 b z).1
    omega
  have nfl : ∀ f b, hp_nx h ≤ b → b < hp_nx h2 → hp_fl H f b = hp_fl h2 f b := fun f b h1 h2' => J3 f b h2' (fun z => by omega) (fun z => by omega)
  have nk : ∀ b, hp_nx h ≤ b → b < hp_nx h2 → ∀ c, hp_kd h2 b = c → k_is G pr H b c := fun b h1 h2' c hc => ⟨⟨by omega, by omega, (J2 b h2').1.trans hc⟩, npr b h1⟩
  refine ⟨k_nw κ (fun q => if q = 0 then hp_nx h else if q = 1 then hp_nx h + 1 else if q = 2 then hp_dE G else if q = 3 then hp_nx h + 2 else hp_nx h + 3) (a_mk a) p e1 (κ.2.1 p + 1), K.join T hd hp hpk T.1.1 (v := (a_vW p (a_nd a 2 p) kn.toInt pa.toInt st.toInt sp.toInt fa.toInt)) (Or.inl rfl) (by omega) (fun b hb => ?_) (fun f b hb z1 z2 => ?_) J4 (fun b hb z1 z2 => ?_) (fun i hi => ?_) J7 ?_ ⟨⟨⟨?_, J12, J11⟩, ?_⟩, J13⟩ (fun i hi => ?_) J9 ?_ (fun hv1 => ?_) (fun f ok => ?_) (by have := K.2.2.2.2.2.1.1; omega) (by omega), fun m hm => ?_, ?_, ?_⟩
  · exact ⟨(J2 b (by omega)).1.trans (old b hb).1, (J2 b (by omega)).2.trans (old b hb).2.1⟩
  · exact (J3 f b (by omega) z1 z2).trans ((old b hb).2.2.1 f)
  · exact (J5 b (by omega) z1 z2).trans (old b hb).2.2.2
  · exact (J6 i hi).trans (congrFun (old _ lM).2.2.2 i)
  · rcases J10 with ⟨z1, z2⟩ | z
    · exact Or.inl ⟨z1, by rw [z1]; exact z2.1, by rw [z1]; exact e13 z2⟩
    · exact Or.inr (by omega)
  · rcases J10 with ⟨z1, z2⟩ | z
    · rw [z1]; exact z2.1
    · omega
  · rcases J10 with ⟨z1, z2⟩ | z
    · rw [z1]; exact (e13 z2).2
    · exact npr e1 (by omega)
  · rw [J8 i hi]
    have hE2 : κ.1 2 p ≠ κ.1 5 7 := fun z => by
      have z2 := (K.isE2 hp hpk hi).1.1.2.2
      have z1 := K.isM.1.2.2
      rw [z, z1] at z2
      cases z2
    have ea : hp_ar (hp_set h2 (κ.1 5 7) (a_mk a) (.ref (hp_nx h))) (κ.1 2 p) i = hp_ar h2 (κ.1 2 p) i := congrFun (va_up_ne _ _ hE2) i
    rw [ea, (old _ (K.isE2 hp hpk hi).1.1.2.1).2.2.2]
    exact K.elt hp hpk hi
  · refine ⟨Nat.le_refl _, nk _ (Nat.le_refl _) (by omega) 4 ?_⟩
    rw [Kd, va_up_self]
  · cases hv1
  · have nn : ∀ f, a_nd (a_add p (a_vW p (a_nd a 2 p) kn.toInt pa.toInt st.toInt sp.toInt fa.toInt) a) f (a_mk a) = (a_vW p (a_nd a 2 p) kn.toInt pa.toInt st.toInt sp.toInt fa.toInt) f := fun f => if_pos rfl
    have t1 := T.1.1
    have hpn : ¬ p = a_mk a := Nat.ne_of_lt hp
    rcases ok with ⟨z1, z2, z3⟩ | ⟨-, -, z3⟩ | ⟨z1, z2, z3⟩ | ⟨z1, z2, z3, z4⟩ | ⟨z1, z2, z3, z4⟩ | ⟨z1, z2, z3, z4⟩ | ⟨-, -, z3⟩
    · rw [nn] at z3; cases z3
    · omega
    · have ka : k_at (k_nw κ (fun q => if q = 0 then hp_nx h else if q = 1 then hp_nx h + 1 else if q = 2 then hp_dE G else if q = 3 then hp_nx h + 2 else hp_nx h + 3) (a_mk a) p e1 (κ.2.1 p + 1)) f (a_mk a) = hp_nx h := by
        unfold k_at
        rw [if_neg (by omega), if_neg (by omega), if_pos (by omega)]
        exact if_pos ⟨by decide, rfl⟩
      rw [ka, nfl f _ (by omega) (by omega)]
      have q5 : f = 64 ∨ f = 65 ∨ f = 66 ∨ f = 67 ∨ f = 68 := by omega
      rcases q5 with rfl | rfl | rfl | rfl | rfl
      · rw [F64]; rfl
      · rw [F65]
        show va_rf (some (κ.1 0 p)) = va_rf (if a_mk a = 0 then none else some ((k_nw κ (fun q => if q = 0 then hp_nx h else if q = 1 then hp_nx h + 1 else if q = 2 then hp_dE G else if q = 3 then hp_nx h + 2 else hp_nx h + 3) (a_mk a) p e1 (κ.2.1 p + 1)).1 0 (a_nd (a_add p (a_vW p (a_nd a 2 p) kn.toInt pa.toInt st.toInt sp.toInt fa.toInt) a) 1 (a_mk a)).toNat))
        rw [if_neg (by omega), nn]
        have e1' : ((a_vW p (a_nd a 2 p) kn.toInt pa.toInt st.toInt sp.toInt fa.toInt) 1).toNat = p := Int.toNat_natCast p
        rw [e1']
        have e2' : (k_nw κ (fun q => if q = 0 then hp_nx h else if q = 1 then hp_nx h + 1 else if q = 2 then hp_dE G else if q = 3 then hp_nx h + 2 else hp_nx h + 3) (a_mk a) p e1 (κ.2.1 p + 1)).1 0 p = κ.1 0 p := by
          show (if 0 ≤ 4 ∧ p = a_mk a then _ else if 0 = 2 ∧ p = p then e1 else κ.1 0 p) = _
          rw [if_neg (fun z => hpn z.2), if_neg (fun z => by omega)]
        rw [e2']
      · rw [F66]
        show _ = Value.int (Int32.ofInt (a_nd (a_add p (a_vW p (a_nd a 2 p) kn.toInt pa.toInt st.toInt sp.toInt fa.toInt) a) 2 (a_mk a)))
        rw [nn]
        show Value.int (Int32.ofInt (a_nd a 2 p) + Int32.ofInt 1) = Value.int (Int32.ofInt (a_nd a 2 p + 1))
        rw [Int32.ofInt_add]
      · rw [F67]
        show _ = Value.int (Int32.ofInt (a_nd (a_add p (a_vW p (a_nd a 2 p) kn.toInt pa.toInt st.toInt sp.toInt fa.toInt) a) 4 (a_mk a)))
        rw [nn]
        exact (congrArg Value.int (Int32.ofInt_toInt kn)).symm
      · rw [F68]
        show _ = Value.int (Int32.ofInt (a_nd (a_add p (a_vW p (a_nd a 2 p) kn.toInt pa.toInt st.toInt sp.toInt fa.toInt) a) 3 (a_mk a)))
        rw [nn]
        rfl
    · rw [nn] at z4; cases z4
    · rw [nn] at z4; cases z4
    · have ka : k_at (k_nw κ (fun q => if q = 0 then hp_nx h else if q = 1 then hp_nx h + 1 else if q = 2 then hp_dE G else if q = 3 then hp_nx h + 2 else hp_nx h + 3) (a_mk a) p e1 (κ.2.1 p + 1)) f (a_mk a) = hp_nx h := by
        unfold k_at
        rw [if_neg (by omega), if_neg (by omega), if_neg (by omega), if_neg (by omega), if_pos (by omega)]
        exact if_pos ⟨by decide, rfl⟩
      rw [ka, nfl f _ (by omega) (by omega)]
      have q5 : f = 133 ∨ f = 134 ∨ f = 135 ∨ f = 136 := by omega
      rcases q5 with rfl | rfl | rfl | rfl
      · rw [F133]
        show _ = Value.int (Int32.ofInt (a_nd (a_add p (a_vW p (a_nd a 2 p) kn.toInt pa.toInt st.toInt sp.toInt fa.toInt) a) 8 (a_mk a)))
        rw [nn]
        exact (congrArg Value.int (Int32.ofInt_toInt pa)).symm
      · rw [F134]
        show _ = Value.int (Int32.ofInt (a_nd (a_add p (a_vW p (a_nd a 2 p) kn.toInt pa.toInt st.toInt sp.toInt fa.toInt) a) 9 (a_mk a)))
        rw [nn]
        exact (congrArg Value.int (Int32.ofInt_toInt st)).symm
      · rw [F135]
        show _ = Value.int (Int32.ofInt (a_nd (a_add p (a_vW p (a_nd a 2 p) kn.toInt pa.toInt st.toInt sp.toInt fa.toInt) a) 10 (a_mk a)))
        rw [nn]
        exact (congrArg Value.int (Int32.ofInt_toInt sp)).symm
      · rw [F136]
        show _ = Value.int (Int32.ofInt (a_nd (a_add p (a_vW p (a_nd a 2 p) kn.toInt pa.toInt st.toInt sp.toInt fa.toInt) a) 11 (a_mk a)))
        rw [nn]
        exact (congrArg Value.int (Int32.ofInt_toInt fa)).symm
    · omega
  · show (if 0 ≤ 4 ∧ m = a_mk a then _ else if 0 = 2 ∧ m = p then e1 else κ.1 0 m) = _
    rw [if_neg (fun z => by omega), if_neg (fun z => by omega)]
  · funext m
    show (if 5 ≤ 4 ∧ m = a_mk a then hp_nx h + 3 else if 5 = 2 ∧ m = p then e1 else κ.1 5 m) = _
    rw [if_neg (fun z => by omega), if_neg (fun z => by omega)]
  · exact if_pos ⟨by decide, rfl⟩
