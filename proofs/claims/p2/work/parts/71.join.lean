/-! ===== a node is made ===== -/
/-- node mk, of numbers v, joins keeper p's row -/
def a_add (p : Nat) (v : Nat → Int) (a : aS) : aS := (a_mk a + 1, a_tm a, a_rs a, a_gv a, (fun f m => if m = a_mk a then v f else a_nd a f m), va_up (va_up (a_rw a) (a_mk a) []) p (a_rw a p ++ [a_mk a]), va_up (a_rt a) (a_mk a) [], a_ev a)
/-- where things lie then -/
def k_nw (κ : kS) (nw : Nat → Nat) (n p e : Nat) (mc : Int32) : kS := ((fun r m => if r ≤ 4 ∧ m = n then nw r else if r = 2 ∧ m = p then e else κ.1 r m), va_up (va_up κ.2.1 n 0) p mc, va_up κ.2.2 n [])
section KRJ
variable {G : hpG} {pr : Nat → Prop} {B : hpT} {N S : Nat} {h : hpT} {κ : kS} {a : aS}
theorem KR.join (K : KR G pr B N S h κ a) (T : a_T a) (hd : hp_dE G < hp_n0 G) {p : Nat} (hp : p < a_mk a) (hpk : a_nd a 0 p = 1) (h1k : 1 ≤ a_mk a) {v : Nat → Int} (hv : v 0 = 0 ∨ v 0 = 1) {H : hpT} {nw : Nat → Nat} {e : Nat} {mc : Int32} {N' S' : Nat}
    (c1 : hp_nx h ≤ hp_nx H) (c2 : ∀ b, b < hp_nx h → hp_kd H b = hp_kd h b ∧ hp_ln H b = hp_ln h b)
    (c3 : ∀ f b, b < hp_nx h → ¬ (b = κ.1 1 p ∧ f < 3) → ¬ (b = κ.1 5 0 ∧ f = 163) → hp_fl H f b = hp_fl h f b)
    (c4 : hp_fl H 0 (κ.1 1 p) = .int mc ∧ hp_fl H 1 (κ.1 1 p) = .ref e ∧ hp_fl H 2 (κ.1 1 p) = .int (nI ((a_rw a p).length + 1)) ∧ hp_fl H 163 (κ.1 5 0) = .int (nI (a_mk a + 1)))
    (c5 : ∀ b, b < hp_nx h → b ≠ κ.1 5 7 → b ≠ e → hp_ar H b = hp_ar h b) (c6 : ∀ i, i ≠ a_mk a → hp_ar H (κ.1 5 7) i = hp_ar h (κ.1 5 7) i) (c7 : hp_ar H (κ.1 5 7) (a_mk a) = .ref (nw 0))
    (c8 : (e = κ.1 2 p ∧ hp_n0 G ≤ e ∧ k_is G pr h e 13) ∨ hp_nx h ≤ e) (c9 : k_is G pr H e 13 ∧ (a_rw a p).length + 1 ≤ hp_ln H e) (c10 : ∀ i, i < (a_rw a p).length → hp_ar H e i = .ref (κ.1 0 ((a_rw a p).getD i 0))) (c11 : hp_ar H e (a_rw a p).length = .ref (nw 0))
    (c12 : hp_nx h ≤ nw 0 ∧ k_is G pr H (nw 0) (if v 0 = 0 then 4 else 2)) (c13 : v 0 = 1 → (hp_nx h ≤ nw 1 ∧ k_is G pr H (nw 1) 0) ∧ nw 2 = hp_dE G ∧ (hp_nx h ≤ nw 3 ∧ k_is G pr H (nw 3) 3) ∧ (hp_nx h ≤ nw 4 ∧ k_is G pr H (nw 4) 10) ∧ 2 ≤ hp_ln H (nw 4) ∧ hp_ln H (nw 4) ≤ 16777216)
    (c14 : ∀ f, k_ok (a_add p v a) f (a_mk a) → hp_fl H f (k_at (k_nw κ nw (a_mk a) p e mc) f (a_mk a)) = k_fv (k_nw κ nw (a_mk a) p e mc) (a_add p v a) f (a_mk a))
    (hN : hp_nx H ≤ N') (hS : hp_sl H + S ≤ S' + hp_sl h) : KR G pr B N' S' H (k_nw κ nw (a_mk a) p e mc) (a_add p v a) := by
  have hpn : p ≠ a_mk a := Nat.ne_of_lt hp
  have g5 : (k_nw κ nw (a_mk a) p e mc).1 5 = κ.1 5 := by
    funext m
    show (if 5 ≤ 4 ∧ m = a_mk a then nw 5 else if 5 = 2 ∧ m = p then e else κ.1 5 m) = _
    rw [if_neg (by omega), if_neg (by omega)]
  have gn : ∀ r, r ≤ 4 → (k_nw κ nw (a_mk a) p e mc).1 r (a_mk a) = nw r := fun r hr => if_pos ⟨hr, rfl⟩
  have gp : (k_nw κ nw (a_mk a) p e mc).1 2 p = e := by
    show (if 2 ≤ 4 ∧ p = a_mk a then nw 2 else if 2 = 2 ∧ p = p then e else κ.1 2 p) = _
    rw [if_neg (fun z => hpn z.2), if_pos ⟨rfl, rfl⟩]
  have gm : ∀ r m, m ≠ a_mk a → (r = 2 → m ≠ p) → (k_nw κ nw (a_mk a) p e mc).1 r m = κ.1 r m := fun r m hm h2 => by
    show (if r ≤ 4 ∧ m = a_mk a then nw r else if r = 2 ∧ m = p then e else κ.1 r m) = _
    rw [if_neg (fun z => hm z.2), if_neg (fun z => h2 z.1 z.2)]
  have nn : ∀ f, a_nd (a_add p v a) f (a_mk a) = v f := fun f => if_pos rfl
  have nm : ∀ f m, m ≠ a_mk a → a_nd (a_add p v a) f m = a_nd a f m := fun f m hm => if_neg hm
  have rn : a_rw (a_add p v a) (a_mk a) = [] := by
    show va_up (va_up (a_rw a) (a_mk a) []) p _ (a_mk a) = []
    rw [va_up_ne _ _ (Ne.symm hpn), va_up_self]
  have rp : a_rw (a_add p v a) p = a_rw a p ++ [a_mk a] := va_up_self _ _ _
  have rm : ∀ m, m ≠ a_mk a → m ≠ p → a_rw (a_add p v a) m = a_rw a m := fun m h1 h2 => by
    show va_up (va_up (a_rw a) (a_mk a) []) p _ m = _
    rw [va_up_ne _ _ h2, va_up_ne _ _ h1]
  have tn : (k_nw κ nw (a_mk a) p e mc).2.2 (a_mk a) = [] := va_up_self _ _ _
  have tm : ∀ m, m ≠ a_mk a → (k_nw κ nw (a_mk a) p e mc).2.2 m = κ.2.2 m := fun m hm => va_up_ne _ _ hm
  have lt : ∀ m, m < a_mk (a_add p v a) → m = a_mk a ∨ m < a_mk a := fun m hm => by
    have : m < a_mk a + 1 := hm
    omega
  have is : ∀ b k, k_is G pr h b k → k_is G pr H b k := fun b k z => ⟨⟨z.1.1, Nat.lt_of_lt_of_le z.1.2.1 c1, by rw [(c2 b z.1.2.1).1]; exact z.1.2.2⟩, z.2⟩
  have ek : ∀ (r m : Nat), k_rok G κ a r m → κ.1 r m = e → r = 2 ∧ m = p := fun r m ok ee => by
    rcases c8 with c | c
    · exact K.dis hd ok (Or.inl ⟨rfl, hp, hpk, by rw [← c.1]; exact c.2.1⟩) (ee.trans c.1)
    · have := (K.rkd hd ok).1.2.1
      omega
  refine ⟨⟨fun m hm => ?_, fun m hm hkm => ?_, by rw [g5]; exact is _ _ K.1.2.2.1, by rw [g5]; exact is _ _ K.1.2.2.2.1, by rw [g5]; exact ⟨is _ _ K.1.2.2.2.2.1.1, (c2 _ K.1.2.2.2.2.1.1.1.2.1).2.trans K.1.2.2.2.2.1.2⟩, fun j hj => by rw [g5]; exact ⟨is _ _ (K.1.2.2.2.2.2.1 j hj).1, (c2 _ (K.1.2.2.2.2.2.1 j hj).1.1.2.1).2.trans (K.1.2.2.2.2.2.1 j hj).2⟩, by rw [g5]; exact ⟨is _ _ K.1.2.2.2.2.2.2.1, (c2 _ K.1.2.2.2.2.2.2.1.1.2.1).2.trans K.1.2.2.2.2.2.2.2⟩⟩, ⟨fun q m hq hm ee => ?_, fun r q m hr hq hm hkq hkm ee => ?_, fun m j hm hkm hj => ?_, by rw [g5]; exact K.2.1.2.2.2⟩, fun f m ok => ?_, fun r m i ok => ?_, fun c hc => ?_, ⟨hN, ?_⟩, fun m hm hkm => ?_⟩
  · rcases lt m hm with rfl | hm
    · rw [gn 0 (by decide), nn]; exact c12.2
    · have hmn : m ≠ a_mk a := Nat.ne_of_lt hm
      rw [gm 0 m hmn (fun z => by omega), nm 0 m hmn]
      exact is _ _ (K.1.1 m hm)
  · rcases lt m hm with rfl | hm
    · rw [nn] at hkm
      obtain ⟨d1, d2, d3, d4, d5⟩ := c13 hkm
      rw [gn 1 (by decide), gn 2 (by decide), gn 3 (by decide), gn 4 (by decide), tn, rn]
      exact ⟨d1.2, d3.2, d4.2, ⟨Nat.zero_le _, d5⟩, Or.inl ⟨rfl, d2⟩⟩
    · have hmn : m ≠ a_mk a := Nat.ne_of_lt hm
      rw [nm 0 m hmn] at hkm
      obtain ⟨z1, z2, z3, z4, z5⟩ := K.1.2.1 m hm hkm
      rw [gm 1 m hmn (fun z => by omega), gm 3 m hmn (fun z => by omega), gm 4 m hmn (fun z => by omega), tm m hmn]
      refine ⟨is _ _ z1, is _ _ z2, is _ _ z3, by rw [(c2 _ z3.1.2.1).2]; exact z4, ?_⟩
      by_cases em : m = p
      · subst em
        rw [gp, rp, List.length_append]
        exact Or.inr c9
      · rw [gm 2 m hmn (fun _ => em), rm m hmn em]
        rcases z5 with z5 | z5
        · exact Or.inl z5
        · exact Or.inr ⟨is _ _ z5.1, by rw [(c2 _ z5.1.1.2.1).2]; exact z5.2⟩
  · rcases lt q hq with rfl | hq
    · rcases lt m hm with rfl | hm
      · rfl
      · rw [gn 0 (by decide), gm 0 m (Nat.ne_of_lt hm) (fun z => by omega)] at ee
        have := (K.1.1 m hm).1.2.1
        omega
    · rcases lt m hm with rfl | hm
      · rw [gn 0 (by decide), gm 0 q (Nat.ne_of_lt hq) (fun z => by omega)] at ee
        have := (K.1.1 q hq).1.2.1
        omega
      · rw [gm 0 q (Nat.ne_of_lt hq) (fun z => by omega), gm 0 m (Nat.ne_of_lt hm) (fun z => by omega)] at ee
        exact K.2.1.1 q m hq hm ee
  · have old : ∀ q, q < a_mk a → a_nd a 0 q = 1 → (r = 1 ∨ r = 3 ∨ r = 4) → κ.1 r q < hp_nx h := fun q hq hkq hr => by
      obtain ⟨z1, z2, z3, -, -⟩ := K.1.2.1 q hq hkq
      rcases hr with rfl | rfl | rfl
      · exact z1.1.2.1
      · exact z2.1.2.1
      · exact z3.1.2.1
    have new : v 0 = 1 → (r = 1 ∨ r = 3 ∨ r = 4) → hp_nx h ≤ nw r := fun hv1 hr => by
      obtain ⟨d1, d2, d3, d4, d5⟩ := c13 hv1
      rcases hr with rfl | rfl | rfl
      · exact d1.1
      · exact d3.1
      · exact d4.1
    by_cases er : r = 2
    · subst er
      have hge : hp_n0 G ≤ (k_nw κ nw (a_mk a) p e mc).1 2 q := by
        rcases hr with z | z | z | z
        · omega
        · omega
        · omega
        · exact z.2
      rcases lt q hq with rfl | hq'
      · rw [nn] at hkq
        rw [gn 2 (by decide), (c13 hkq).2.1] at hge
        omega
      · have hqn : q ≠ a_mk a := Nat.ne_of_lt hq'
        rw [nm 0 q hqn] at hkq
        rcases lt m hm with rfl | hm'
        · rw [nn] at hkm
          rw [ee, gn 2 (by decide), (c13 hkm).2.1] at hge
          omega
        · have hmn : m ≠ a_mk a := Nat.ne_of_lt hm'
          rw [nm 0 m hmn] at hkm
          by_cases eq : q = p
          · by_cases em : m = p
            · rw [eq, em]
            · subst eq
              rw [gp, gm 2 m hmn (fun _ => em)] at ee
              rw [gp] at hge
              exact absurd (ek 2 m (Or.inl ⟨rfl, hm', hkm, by rw [← ee]; exact hge⟩) ee.symm).2 em
          · by_cases em : m = p
            · subst em
              rw [gp, gm 2 q hqn (fun _ => eq)] at ee
              rw [gm 2 q hqn (fun _ => eq)] at hge
              exact absurd (ek 2 q (Or.inl ⟨rfl, hq', hkq, hge⟩) ee).2 eq
            · rw [gm 2 q hqn (fun _ => eq), gm 2 m hmn (fun _ => em)] at ee
              rw [gm 2 q hqn (fun _ => eq)] at hge
              exact K.2.1.2.1 2 q m (Or.inr (Or.inr (Or.inr ⟨rfl, hge⟩))) hq' hm' hkq hkm ee
    · have hr' : r = 1 ∨ r = 3 ∨ r = 4 := by
        rcases hr with z | z | z | z
        · exact Or.inl z
        · exact Or.inr (Or.inl z)
        · exact Or.inr (Or.inr z)
        · exact absurd z.1 er
      have hr4 : r ≤ 4 := by omega
      rcases lt q hq with rfl | hq
      · rcases lt m hm with rfl | hm
        · rfl
        · have hmn : m ≠ a_mk a := Nat.ne_of_lt hm
          rw [nn] at hkq
          rw [nm 0 m hmn] at hkm
          rw [gn r hr4, gm r m hmn (fun z => absurd z er)] at ee
          have := old m hm hkm hr'
          have := new hkq hr'
          omega
      · have hqn : q ≠ a_mk a := Nat.ne_of_lt hq
        rw [nm 0 q hqn] at hkq
        rcases lt m hm with rfl | hm
        · rw [nn] at hkm
          rw [gn r hr4, gm r q hqn (fun z => absurd z er)] at ee
          have := old q hq hkq hr'
          have := new hkm hr'
          omega
        · have hmn : m ≠ a_mk a := Nat.ne_of_lt hm
          rw [nm 0 m hmn] at hkm
          rw [gm r q hqn (fun z => absurd z er), gm r m hmn (fun z => absurd z er)] at ee
          exact K.2.1.2.1 r q m (by rcases hr' with z | z | z <;> first | exact Or.inl z | exact Or.inr (Or.inl z) | exact Or.inr (Or.inr (Or.inl z))) hq hm hkq hkm ee
  · rw [g5]
    rcases lt m hm with rfl | hm
    · rw [nn] at hkm
      rw [gn 4 (by decide)]
      have := (c13 hkm).2.2.2.1.1
      have := (K.isc hj).1.2.1
      omega
    · have hmn : m ≠ a_mk a := Nat.ne_of_lt hm
      rw [nm 0 m hmn] at hkm
      rw [gm 4 m hmn (fun z => by omega)]
      exact K.2.1.2.2.1 m j hm hkm hj
  · by_cases em : m = a_mk a
    · subst em; exact c14 f ok
    · have ok' : k_ok a f m := by
        rcases ok with ⟨z1, z2, z3⟩ | z | ⟨z1, z2, z3⟩ | ⟨z1, z2, z3, z4⟩ | ⟨z1, z2, z3, z4⟩ | ⟨z1, z2, z3, z4⟩ | z
        · exact Or.inl ⟨z1, (lt m z2).resolve_left em, by rw [nm 0 m em] at z3; exact z3⟩
        · exact Or.inr (Or.inl z)
        · exact Or.inr (Or.inr (Or.inl ⟨z1, z2, (lt m z3).resolve_left em⟩))
        · exact Or.inr (Or.inr (Or.inr (Or.inl ⟨z1, z2, (lt m z3).resolve_left em, by rw [nm 0 m em] at z4; exact z4⟩)))
        · exact Or.inr (Or.inr (Or.inr (Or.inr (Or.inl ⟨z1, z2, (lt m z3).resolve_left em, by rw [nm 0 m em] at z4; exact z4⟩))))
        · exact Or.inr (Or.inr (Or.inr (Or.inr (Or.inr (Or.inl ⟨z1, z2, (lt m z3).resolve_left em, by rw [nm 0 m em] at z4; exact z4⟩)))))
        · exact Or.inr (Or.inr (Or.inr (Or.inr (Or.inr (Or.inr z)))))
      have ea : k_at (k_nw κ nw (a_mk a) p e mc) f m = k_at κ f m := by
        unfold k_at
        rw [gm 1 m em (fun z => by omega), g5, gm 0 m em (fun z => by omega), gm 3 m em (fun z => by omega)]
      rw [ea]
      have hlt := K.ltA ok'
      by_cases e3 : f < 3
      · have hm : m < a_mk a ∧ a_nd a 0 m = 1 := by
          rcases ok' with ⟨-, z2, z3⟩ | ⟨z1, -⟩ | ⟨z1, -⟩ | ⟨z1, -⟩ | ⟨z1, -⟩ | ⟨z1, -⟩ | ⟨z1, -⟩ <;> first | exact ⟨z2, z3⟩ | omega
        by_cases ep : m = p
        · subst ep
          have q3 : f = 0 ∨ f = 1 ∨ f = 2 := by omega
          rcases q3 with rfl | rfl | rfl
          · show hp_fl H 0 (κ.1 1 m) = Value.int (va_up (va_up κ.2.1 (a_mk a) 0) m mc m)
            rw [va_up_self]; exact c4.1
          · show hp_fl H 1 (κ.1 1 m) = Value.ref ((k_nw κ nw (a_mk a) m e mc).1 2 m)
            rw [gp]; exact c4.2.1
          · show hp_fl H 2 (κ.1 1 m) = Value.int (nI (a_rw (a_add m v a) m).length)
            rw [rp, List.length_append]; exact c4.2.2.1
        · have hne : ¬ (k_at κ f m = κ.1 1 p ∧ f < 3) := fun z => ep (by
            have z1 : κ.1 1 m = κ.1 1 p := by
              have := z.1
              unfold k_at at this
              rwa [if_pos e3] at this
            exact K.2.1.2.1 1 m p (Or.inl rfl) hm.1 hp hm.2 hpk z1)
          rw [c3 f _ hlt hne (fun z => by omega), K.V f m ok']
          have q3 : f = 0 ∨ f = 1 ∨ f = 2 := by omega
          rcases q3 with rfl | rfl | rfl
          · show Value.int (κ.2.1 m) = Value.int (va_up (va_up κ.2.1 (a_mk a) 0) p mc m)
            rw [va_up_ne _ _ ep, va_up_ne _ _ em]
          · show Value.ref (κ.1 2 m) = Value.ref ((k_nw κ nw (a_mk a) p e mc).1 2 m)
            rw [gm 2 m em (fun _ => ep)]
          · show Value.int (nI (a_rw a m).length) = Value.int (nI (a_rw (a_add p v a) m).length)
            rw [rm m em ep]
      · by_cases e6 : f = 163
        · subst e6
          exact c4.2.2.2
        · rw [c3 f _ hlt (fun z => e3 z.2) (fun z => e6 z.2), K.V f m ok']
          unfold k_fv
          by_cases en : k_isN f = true
          · rw [if_pos en, if_pos en, nm _ m em]
          · rw [if_neg en, if_neg en]
            have e0 : ¬ f = 0 := by omega
            have e1 : ¬ f = 1 := by omega
            have e2 : ¬ f = 2 := by omega
            have q5 : ∀ i, (k_nw κ nw (a_mk a) p e mc).1 5 i = κ.1 5 i := fun i => congrFun g5 i
            by_cases e65 : f = 65
            · subst e65
              have hmk : m < a_mk a := by
                rcases ok' with ⟨z1, -⟩ | ⟨-, z1, -⟩ | ⟨-, -, z3⟩ | ⟨z1, -⟩ | ⟨z1, -⟩ | ⟨z1, -⟩ | ⟨z1, -⟩ <;> first | exact z3 | omega
              show va_rf (if m = 0 then none else some (κ.1 0 (a_nd a 1 m).toNat)) = va_rf (if m = 0 then none else some ((k_nw κ nw (a_mk a) p e mc).1 0 (a_nd (a_add p v a) 1 m).toNat))
              rw [nm 1 m em]
              by_cases m0 : m = 0
              · rw [if_pos m0, if_pos m0]
              · have := T.r1 hmk m0
                rw [gm 0 _ (by omega) (fun z => by omega)]
            · unfold k_fo
              simp only [e0, e1, e2, e6, e65, if_false, q5, gm 1 m em (fun z => by omega), gm 3 m em (fun z => by omega), gm 4 m em (fun z => by omega), gm 0 0 (by omega) (fun z => by omega), tm m em]
              rfl
  · by_cases e7 : r = 5 ∧ m = 7
    · obtain ⟨rfl, rfl⟩ := e7
      have hi : i < 80 := by
        rcases ok with ⟨z, -⟩ | ⟨z, -⟩ | ⟨-, z, -⟩ | ⟨-, -, z, -⟩ | ⟨-, -, z⟩ <;> omega
      rw [g5]
      show hp_ar H (κ.1 5 7) i = va_rf (if i < a_mk a + 1 then some ((k_nw κ nw (a_mk a) p e mc).1 0 i) else none)
      by_cases ei : i = a_mk a
      · subst ei
        rw [c7, if_pos (Nat.lt_succ_self _), gn 0 (by decide)]
        rfl
      · rw [c6 i ei, K.nod hi, gm 0 i ei (fun z => by omega)]
        by_cases e8 : i < a_mk a
        · rw [if_pos e8, if_pos (by omega)]
        · rw [if_neg e8, if_neg (by omega)]
    · by_cases e2 : r = 2 ∧ m = p
      · obtain ⟨rfl, rfl⟩ := e2
        have hi : i < (a_rw a m).length + 1 := by
          rcases ok with ⟨-, -, -, z⟩ | ⟨z, -⟩ | ⟨z, -⟩ | ⟨z, -⟩ | ⟨z, -⟩ <;> first | (rw [rp, List.length_append] at z; exact z) | omega
        rw [gp]
        show hp_ar H e i = Value.ref ((k_nw κ nw (a_mk a) m e mc).1 0 ((a_rw (a_add m v a) m).getD i 0))
        rw [rp]
        by_cases ei : i = (a_rw a m).length
        · subst ei
          rw [c11, List.getD_eq_getElem?_getD, List.getElem?_append_right (Nat.le_refl _), Nat.sub_self]
          show Value.ref (nw 0) = Value.ref ((k_nw κ nw (a_mk a) m e mc).1 0 (a_mk a))
          rw [gn 0 (by decide)]
        · have hil : i < (a_rw a m).length := by omega
          rw [c10 i hil, List.getD_eq_getElem?_getD (l := a_rw a m ++ _), List.getElem?_append_left hil, ← List.getD_eq_getElem?_getD]
          have := (T.rc hp (k_rc T hp hil)).1
          rw [gm 0 _ (by omega) (fun z => by omega)]
      · have hm0 : r = 2 ∨ r = 4 → m ≠ a_mk a := fun hr em => by
          subst em
          rcases ok with ⟨rfl, z2, z3, z4⟩ | ⟨rfl, z2, z3, z4⟩ | ⟨z1, -⟩ | ⟨z1, -⟩ | ⟨z1, -⟩
          · rw [rn] at z4; cases z4
          · have z4' : i < ((k_nw κ nw (a_mk a) p e mc).2.2 (a_mk a)).length := z4
            rw [tn] at z4'; cases z4'
          · omega
          · omega
          · omega
        have ok' : k_aok κ a r m i := by
          rcases ok with ⟨z1, z2, z3, z4⟩ | ⟨z1, z2, z3, z4⟩ | z | z | z
          · have em := hm0 (Or.inl z1)
            exact Or.inl ⟨z1, (lt m z2).resolve_left em, by rw [nm 0 m em] at z3; exact z3, by rw [rm m em (fun z => e2 ⟨z1, z⟩)] at z4; exact z4⟩
          · have em := hm0 (Or.inr z1)
            refine Or.inr (Or.inl ⟨z1, (lt m z2).resolve_left em, by rw [nm 0 m em] at z3; exact z3, ?_⟩)
            have z4' : i < ((k_nw κ nw (a_mk a) p e mc).2.2 m).length := z4
            rw [tm m em] at z4'; exact z4'
          · exact Or.inr (Or.inr (Or.inl z))
          · exact Or.inr (Or.inr (Or.inr (Or.inl z)))
          · exact Or.inr (Or.inr (Or.inr (Or.inr z)))
        have rk := K.rok ok'
        have hg : (k_nw κ nw (a_mk a) p e mc).1 r m = κ.1 r m := by
          by_cases e5 : r = 5
          · subst e5; rw [g5]
          · have hr : r = 2 ∨ r = 4 := by rcases rk with z | z | z | z | z <;> omega
            exact gm r m (hm0 hr) (fun z1 z2 => e2 ⟨z1, z2⟩)
        have hne7 : κ.1 r m ≠ κ.1 5 7 := fun z => e7 (K.dis hd rk (Or.inr (Or.inr (Or.inr (Or.inr ⟨rfl, rfl⟩)))) z)
        rw [hg, c5 _ (K.rkd hd rk).1.2.1 hne7 (fun z => e2 (ek r m rk z)), K.A r m i ok']
        unfold k_av
        by_cases x2 : r = 2
        · rw [if_pos x2, if_pos x2, rm m (hm0 (Or.inl x2)) (fun z => e2 ⟨x2, z⟩)]
          have hmi : m < a_mk a ∧ i < (a_rw a m).length := by
            rcases ok' with ⟨-, z2, -, z4⟩ | ⟨z1, -⟩ | ⟨z1, -⟩ | ⟨z1, -⟩ | ⟨z1, -⟩ <;> first | exact ⟨z2, z4⟩ | omega
          have := (T.rc hmi.1 (k_rc T hmi.1 hmi.2)).1
          rw [gm 0 _ (by omega) (fun z => by omega)]
        · rw [if_neg x2, if_neg x2]
          by_cases x4 : r = 4
          · rw [if_pos x4, if_pos x4, tm m (hm0 (Or.inr x4))]
          · rw [if_neg x4, if_neg x4]
            have x7 : ¬ m = 7 := fun z => e7 ⟨by rcases rk with q | q | q | q | q <;> omega, z⟩
            rw [if_neg x7, if_neg x7, g5]
            rfl
  · obtain ⟨y1, y2, y3, y4, y5⟩ := K.2.2.2.2.1 c hc
    have n1 : c ≠ κ.1 1 p := fun z => (K.1.2.1 p hp hpk).1.2 (z ▸ hc)
    have n2 : c ≠ κ.1 5 0 := fun z => K.1.2.2.1.2 (z ▸ hc)
    have n3 : c ≠ κ.1 5 7 := fun z => K.1.2.2.2.2.2.2.1.2 (z ▸ hc)
    have n4 : c ≠ e := fun z => c9.1.2 (z ▸ hc)
    exact ⟨Nat.lt_of_lt_of_le y1 c1, (c2 c y1).1.trans y2, (c2 c y1).2.trans y3, fun f => (c3 f c y1 (fun z => n1 z.1) (fun z => n2 z.1)).trans (y4 f), (c5 c y1 n3 n4).trans y5⟩
  · have hsum : hp_sm (k_po (hp_ln H) (k_nw κ nw (a_mk a) p e mc) (a_nd (a_add p v a) 0)) 0 (a_mk a + 1) = hp_sm (k_po (hp_ln h) κ (a_nd a 0)) 0 (a_mk a) := by
      rw [hp_sm_app]
      have z1 : hp_sm (k_po (hp_ln H) (k_nw κ nw (a_mk a) p e mc) (a_nd (a_add p v a) 0)) (0 + a_mk a) 1 = 0 := by
        show k_po (hp_ln H) (k_nw κ nw (a_mk a) p e mc) (a_nd (a_add p v a) 0) (0 + a_mk a) + 0 = 0
        rw [Nat.zero_add]
        unfold k_po
        rw [tn]
        split <;> simp
      rw [z1, Nat.add_zero]
      refine hp_sm_congr _ _ (fun i _ hi => ?_)
      have him : i ≠ a_mk a := by omega
      unfold k_po
      rw [nm 0 i him, tm i him, gm 4 i him (fun z => by omega)]
      by_cases c0 : a_nd a 0 i = 1
      · rw [if_pos c0, if_pos c0, (c2 _ (K.isI (by omega) c0).1.2.1).2]
      · rw [if_neg c0, if_neg c0]
    have h2 := K.2.2.2.2.2.1.2
    show hp_sl H + hp_sm (k_po (hp_ln H) (k_nw κ nw (a_mk a) p e mc) (a_nd (a_add p v a) 0)) 0 (a_mk a + 1) ≤ S'
    rw [hsum]
    omega
  · rcases lt m hm with rfl | hm
    · refine ⟨[], ?_, fun x hx => by cases hx⟩
      show va_up (a_rt a) (a_mk a) [] (a_mk a) = [] ++ (k_nw κ nw (a_mk a) p e mc).2.2 (a_mk a)
      rw [va_up_self, tn]
      rfl
    · have hmn : m ≠ a_mk a := Nat.ne_of_lt hm
      rw [nm 0 m hmn] at hkm
      obtain ⟨dr, y1, y2⟩ := K.2.2.2.2.2.2 m hm hkm
      refine ⟨dr, ?_, y2⟩
      show va_up (a_rt a) (a_mk a) [] m = dr ++ (k_nw κ nw (a_mk a) p e mc).2.2 m
      rw [va_up_ne _ _ hmn, tm m hmn]
      exact y1
end KRJ
