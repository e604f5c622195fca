/-! ===== the restarts' times grow ===== -/
section NB
variable {g : Nat → Nat} {b : Int}
theorem k_nb_lt : ∀ L, k_nb g b L < L → (g (L - k_nb g b L - 1) : Int) < b
  | 0, h => absurd h (Nat.not_lt_zero _)
  | L + 1, h => by
    unfold k_nb at h ⊢
    split at h
    · rename_i c
      rw [if_pos c]
      exact c
    · rename_i c
      rw [if_neg c, show L + 1 - (k_nb g b L + 1) - 1 = L - k_nb g b L - 1 by omega]
      exact k_nb_lt L (by omega)
theorem k_nb_ge : ∀ L i, L - k_nb g b L ≤ i → i < L → b ≤ (g i : Int)
  | 0, i, _, h => absurd h (Nat.not_lt_zero _)
  | L + 1, i, h1, h2 => by
    unfold k_nb at h1
    split at h1
    · omega
    · rename_i c
      by_cases e : i = L
      · subst e; omega
      · exact k_nb_ge L i (by omega) (by omega)
end NB
theorem k_asc {R : List Nat} (h : R.Pairwise (· ≤ ·)) {i j : Nat} (hij : i ≤ j) (hj : j < R.length) : R.getD i 0 ≤ R.getD j 0 := by
  rw [List.getD_eq_getElem?_getD, List.getD_eq_getElem?_getD, List.getElem?_eq_getElem hj, List.getElem?_eq_getElem (show i < R.length by omega)]
  show R[i] ≤ R[j]
  by_cases e : i = j
  · subst e; exact Nat.le_refl _
  · exact (List.pairwise_iff_getElem.mp h) i j (by omega) hj (by omega)
theorem a_srt_self (a : aS) (n : Nat) : a_srt a n (a_rt a n) = a := by
  have : va_up (a_rt a) n (a_rt a n) = a_rt a := by
    funext m
    by_cases e : m = n
    · rw [e, va_up_self]
    · rw [va_up_ne _ _ e]
  unfold a_srt
  rw [this]
def k_stm (κ : kS) (n b : Nat) (R : List Nat) : kS := (va_up κ.1 4 (va_up (κ.1 4) n b), κ.2.1, va_up κ.2.2 n R)
section KRT
variable {G : hpG} {pr : Nat → Prop} {B : hpT} {N S : Nat} {h : hpT} {κ : kS} {a : aS} {n : Nat}
theorem KR.ltA (K : KR G pr B N S h κ a) {f : Nat} (ok : k_ok a f n) : k_at κ f n < hp_nx h := by
  rcases ok with ⟨h1, h2, h3⟩ | ⟨h1, h2, h3⟩ | ⟨h1, h2, h3⟩ | ⟨h1, h2, h3, h4⟩ | ⟨h1, h2, h3, h4⟩ | ⟨h1, h2, h3, h4⟩ | ⟨h1, h2, h3⟩ <;> unfold k_at
  · rw [if_pos h1]; exact (K.1.2.1 n h2 h3).1.1.2.1
  · rw [if_neg (by omega), if_pos h2]; exact K.1.2.2.2.1.1.2.1
  · rw [if_neg (by omega), if_neg (by omega), if_pos (by omega)]; exact (K.1.1 n h3).1.2.1
  · rw [if_neg (by omega), if_neg (by omega), if_pos (by omega)]; exact (K.1.1 n h3).1.2.1
  · rw [if_neg (by omega), if_neg (by omega), if_neg (by omega), if_pos (by omega)]; exact (K.1.2.1 n h3 h4).2.1.1.2.1
  · rw [if_neg (by omega), if_neg (by omega), if_neg (by omega), if_neg (by omega), if_pos (by omega)]; exact (K.1.1 n h3).1.2.1
  · rw [if_neg (by omega), if_neg (by omega), if_neg (by omega), if_neg (by omega), if_neg (by omega)]; exact K.1.2.2.1.1.2.1
/-- keeper n's times are R now, in the array b (its own, or a new one) -/
theorem KR.tms (K : KR G pr B N S h κ a) (hd : hp_dE G < hp_n0 G) (hn : n < a_mk a) (hk : a_nd a 0 n = 1) {h' : hpT} {b : Nat} {R A : List Nat} {N' S' : Nat} (hb : b = κ.1 4 n ∨ hp_nx h ≤ b) (hb0 : hp_n0 G ≤ b) (hb1 : b < hp_nx h') (hkb : hp_kd h' b = 10) (hpb : ¬ pr b)
    (e1 : hp_nx h ≤ hp_nx h') (e3 : ∀ c, c < hp_nx h → hp_kd h' c = hp_kd h c) (e4 : ∀ c, c < hp_nx h → hp_ln h' c = hp_ln h c) (hf : ∀ f c, c < hp_nx h → (f = 96 ∨ f = 97 → c ≠ κ.1 3 n) → hp_fl h' f c = hp_fl h f c) (h96 : hp_fl h' 96 (κ.1 3 n) = .ref b) (h97 : hp_fl h' 97 (κ.1 3 n) = .int (nI R.length))
    (ha : ∀ c, c < hp_nx h → c ≠ b → hp_ar h' c = hp_ar h c) (hE : ∀ i, i < R.length → hp_ar h' b i = .int (nI (R.getD i 0))) (hl : R.length ≤ hp_ln h' b ∧ 2 ≤ hp_ln h' b ∧ hp_ln h' b ≤ 16777216) (hN : hp_nx h' ≤ N') (hS : hp_sl h' + (hp_sm (k_po (hp_ln h) κ (a_nd a 0)) 0 (a_mk a) + 4 * (R.length - hp_ln h' b / 2)) ≤ S' + 4 * ((κ.2.2 n).length - hp_ln h (κ.1 4 n) / 2))
    (hT : ∃ dr, A = dr ++ R ∧ ∀ x ∈ dr, x + 1000 < a_tm a) : KR G pr B N' S' h' (k_stm κ n b R) (a_srt a n A) := by
  have is : ∀ c k, k_is G pr h c k → k_is G pr h' c k := fun c k z => ⟨⟨z.1.1, Nat.lt_of_lt_of_le z.1.2.1 e1, by rw [e3 c z.1.2.1]; exact z.1.2.2⟩, z.2⟩
  have g4n : (k_stm κ n b R).1 4 n = b := by show va_up κ.1 4 (va_up (κ.1 4) n b) 4 n = b; rw [va_up_self, va_up_self]
  have g4m : ∀ m, m ≠ n → (k_stm κ n b R).1 4 m = κ.1 4 m := fun m hm => by show va_up κ.1 4 (va_up (κ.1 4) n b) 4 m = _; rw [va_up_self, va_up_ne _ _ hm]
  have gr : ∀ r, r ≠ 4 → (k_stm κ n b R).1 r = κ.1 r := fun r hr => va_up_ne _ _ hr
  have rn : (k_stm κ n b R).2.2 n = R := va_up_self _ _ _
  have rm : ∀ m, m ≠ n → (k_stm κ n b R).2.2 m = κ.2.2 m := fun m hm => va_up_ne _ _ hm
  have hnew : ∀ r m, k_rok G κ a r m → κ.1 r m = b → r = 4 ∧ m = n := fun r m ok e => by
    rcases hb with hb | hb
    · have := K.dis hd ok (Or.inr (Or.inl ⟨rfl, hn, hk⟩)) (e.trans hb)
      exact this
    · have := (K.rkd hd ok).1.2.1
      omega
  refine ⟨⟨fun m hm => is _ _ (K.1.1 m hm), fun m hm hkm => ?_, is _ _ K.1.2.2.1, is _ _ K.1.2.2.2.1, ⟨is _ _ K.1.2.2.2.2.1.1, (e4 _ K.1.2.2.2.2.1.1.1.2.1).trans K.1.2.2.2.2.1.2⟩, fun j hj => ⟨is _ _ (K.1.2.2.2.2.2.1 j hj).1, (e4 _ (K.1.2.2.2.2.2.1 j hj).1.1.2.1).trans (K.1.2.2.2.2.2.1 j hj).2⟩, is _ _ K.1.2.2.2.2.2.2.1, (e4 _ K.1.2.2.2.2.2.2.1.1.2.1).trans K.1.2.2.2.2.2.2.2⟩, ⟨K.2.1.1, fun r q m hr hq hm hkq hkm e => ?_, fun m j hm hkm hj => ?_, K.2.1.2.2.2⟩, fun f m ok => ?_, fun r m i ok => ?_, fun c hc => ?_, ⟨hN, ?_⟩, fun m hm hkm => ?_⟩
  · obtain ⟨z1, z2, z3, z4, z5⟩ := K.1.2.1 m hm hkm
    have z5' : (a_rw a m = [] ∧ κ.1 2 m = hp_dE G) ∨ (k_is G pr h' (κ.1 2 m) 13 ∧ (a_rw a m).length ≤ hp_ln h' (κ.1 2 m)) := by
      rcases z5 with z5 | z5
      · exact Or.inl z5
      · exact Or.inr ⟨is _ _ z5.1, by rw [e4 _ z5.1.1.2.1]; exact z5.2⟩
    by_cases em : m = n
    · subst em
      rw [g4n, rn]
      exact ⟨is _ _ z1, is _ _ z2, ⟨⟨hb0, hb1, hkb⟩, hpb⟩, hl, z5'⟩
    · rw [g4m m em, rm m em]
      exact ⟨is _ _ z1, is _ _ z2, is _ _ z3, by rw [e4 _ z3.1.2.1]; exact z4, z5'⟩
  · by_cases er : r = 4
    · subst er
      by_cases eq : q = n
      · by_cases em : m = n
        · rw [eq, em]
        · subst eq
          rw [g4n, g4m m em] at e
          exact absurd (hnew 4 m (Or.inr (Or.inl ⟨rfl, hm, hkm⟩)) e.symm).2 em
      · by_cases em : m = n
        · subst em
          rw [g4n, g4m q eq] at e
          exact absurd (hnew 4 q (Or.inr (Or.inl ⟨rfl, hq, hkq⟩)) e).2 eq
        · rw [g4m q eq, g4m m em] at e
          exact K.2.1.2.1 4 q m (Or.inr (Or.inr (Or.inl rfl))) hq hm hkq hkm e
    · rw [gr r er] at e
      refine K.2.1.2.1 r q m ?_ hq hm hkq hkm e
      rcases hr with z | z | z | z
      · exact Or.inl z
      · exact Or.inr (Or.inl z)
      · exact absurd z er
      · exact Or.inr (Or.inr (Or.inr z))
  · have h5 : (k_stm κ n b R).1 5 (3 + j) = κ.1 5 (3 + j) := by rw [gr 5 (by decide)]
    rw [h5]
    by_cases em : m = n
    · subst em
      rw [g4n]
      intro z
      have := (hnew 5 (3 + j) (Or.inr (Or.inr (Or.inr (Or.inl ⟨rfl, by omega, by omega⟩)))) z.symm).1
      omega
    · rw [g4m m em]
      exact K.2.1.2.2.1 m j hm hkm hj
  · have ea : k_at (k_stm κ n b R) f m = k_at κ f m := rfl
    have ok' : k_ok a f m := ok
    rw [ea]
    by_cases e6 : f = 96
    · subst e6
      have hm : m < a_mk a ∧ a_nd a 0 m = 1 := by
        rcases ok' with ⟨z1, -⟩ | ⟨-, z1, -⟩ | ⟨-, z1, -⟩ | ⟨-, z1, -⟩ | ⟨-, -, z3, z4⟩ | ⟨z1, -⟩ | ⟨z1, -⟩ <;> first | exact ⟨z3, z4⟩ | omega
      show hp_fl h' 96 (κ.1 3 m) = Value.ref ((k_stm κ n b R).1 4 m)
      by_cases em : m = n
      · subst em; rw [h96, g4n]
      · rw [hf 96 _ (K.isR hm.1 hm.2).2.1 (fun _ z => em (K.2.1.2.1 3 m n (Or.inr (Or.inl rfl)) hm.1 hn hm.2 hk z)), g4m m em]
        exact K.f96 hm.1 hm.2
    · by_cases e7 : f = 97
      · subst e7
        have hm : m < a_mk a ∧ a_nd a 0 m = 1 := by
          rcases ok' with ⟨z1, -⟩ | ⟨-, z1, -⟩ | ⟨-, z1, -⟩ | ⟨-, z1, -⟩ | ⟨-, -, z3, z4⟩ | ⟨z1, -⟩ | ⟨z1, -⟩ <;> first | exact ⟨z3, z4⟩ | omega
        show hp_fl h' 97 (κ.1 3 m) = Value.int (nI ((k_stm κ n b R).2.2 m).length)
        by_cases em : m = n
        · subst em; rw [h97, rn]
        · rw [hf 97 _ (K.isR hm.1 hm.2).2.1 (fun _ z => em (K.2.1.2.1 3 m n (Or.inr (Or.inl rfl)) hm.1 hn hm.2 hk z)), rm m em]
          exact K.f97 hm.1 hm.2
      · rw [hf f _ (K.ltA ok') (fun z => by omega), K.V f m ok']
        unfold k_fv
        by_cases e : k_isN f = true
        · rw [if_pos e, if_pos e]; rfl
        · rw [if_neg e, if_neg e]
          unfold k_fo
          simp only [e6, e7, if_false]
          rfl
  · by_cases er : r = 4 ∧ m = n
    · obtain ⟨rfl, rfl⟩ := er
      have hi : i < R.length := by
        rcases ok with ⟨z, -⟩ | ⟨-, -, -, z⟩ | ⟨z, -⟩ | ⟨z, -⟩ | ⟨z, -⟩ <;> first | (have z' : i < ((k_stm κ m b R).2.2 m).length := z; rw [rn] at z'; exact z') | omega
      rw [g4n, hE i hi]
      show _ = Value.int (nI (((k_stm κ m b R).2.2 m).getD i 0))
      rw [rn]
    · have ok' : k_aok κ a r m i := by
        rcases ok with z | ⟨z1, z2, z3, z4⟩ | z
        · exact Or.inl z
        · exact Or.inr (Or.inl ⟨z1, z2, z3, by have z4' : i < ((k_stm κ n b R).2.2 m).length := z4; rw [rm m (fun z => er ⟨z1, z⟩)] at z4'; exact z4'⟩)
        · exact Or.inr (Or.inr z)
      have rk := K.rok ok'
      have hg : (k_stm κ n b R).1 r m = κ.1 r m := by
        by_cases e4' : r = 4
        · subst e4'; exact g4m m (fun z => er ⟨rfl, z⟩)
        · rw [gr r e4']
      rw [hg, ha _ (K.rkd hd rk).1.2.1 (fun z => er (hnew r m rk z)), K.A r m i ok']
      by_cases e4' : r = 4
      · subst e4'
        show Value.int (nI ((κ.2.2 m).getD i 0)) = Value.int (nI (((k_stm κ n b R).2.2 m).getD i 0))
        rw [rm m (fun z => er ⟨rfl, z⟩)]
      · unfold k_av
        rw [if_neg e4', if_neg e4']
        rfl
  · obtain ⟨y1, y2, y3, y4, y5⟩ := K.2.2.2.2.1 c hc
    have hc1 : c ≠ κ.1 3 n := fun z => (K.1.2.1 n hn hk).2.1.2 (z ▸ hc)
    have hc2 : c ≠ b := fun z => hpb (z ▸ hc)
    exact ⟨Nat.lt_of_lt_of_le y1 e1, (e3 c y1).trans y2, (e4 c y1).trans y3, fun f => (hf f c y1 (fun _ => hc1)).trans (y4 f), (ha c y1 hc2).trans y5⟩
  · have hp : hp_sm (k_po (hp_ln h') (k_stm κ n b R) (a_nd a 0)) 0 (a_mk a) + k_po (hp_ln h) κ (a_nd a 0) n = hp_sm (k_po (hp_ln h) κ (a_nd a 0)) 0 (a_mk a) + k_po (hp_ln h') (k_stm κ n b R) (a_nd a 0) n := by
      have q := hp_sm_up (f := fun m => if m < a_mk a then k_po (hp_ln h') (k_stm κ n b R) (a_nd a 0) m else 0) (g := fun m => if m < a_mk a then k_po (hp_ln h) κ (a_nd a 0) m else 0) (q := n) (a_mk a) 0 (Nat.zero_le _) (by omega) (fun i hi => by
        by_cases c : i < a_mk a
        · rw [if_pos c, if_pos c]
          unfold k_po
          by_cases c2 : a_nd a 0 i = 1
          · rw [if_pos c2, if_pos c2, g4m i hi, rm i hi, e4 _ (K.isI c c2).1.2.1]
          · rw [if_neg c2, if_neg c2]
        · rw [if_neg c, if_neg c])
      rw [hp_sm_congr (g := k_po (hp_ln h') (k_stm κ n b R) (a_nd a 0)) (a_mk a) 0 (fun i _ hi => if_pos (by omega)), hp_sm_congr (f := fun m => if m < a_mk a then k_po (hp_ln h) κ (a_nd a 0) m else 0) (g := k_po (hp_ln h) κ (a_nd a 0)) (a_mk a) 0 (fun i _ hi => if_pos (by omega))] at q
      simp only [if_pos hn] at q
      exact q
    have p1 : k_po (hp_ln h) κ (a_nd a 0) n = 4 * ((κ.2.2 n).length - hp_ln h (κ.1 4 n) / 2) := if_pos hk
    have p2 : k_po (hp_ln h') (k_stm κ n b R) (a_nd a 0) n = 4 * (R.length - hp_ln h' b / 2) := by
      unfold k_po
      rw [if_pos hk, g4n, rn]
    show hp_sl h' + hp_sm (k_po (hp_ln h') (k_stm κ n b R) (a_nd a 0)) 0 (a_mk a) ≤ S'
    omega
  · by_cases em : m = n
    · subst em
      obtain ⟨dr, y1, y2⟩ := hT
      refine ⟨dr, ?_, y2⟩
      show va_up (a_rt a) m A m = dr ++ (k_stm κ m b R).2.2 m
      rw [va_up_self, rn, y1]
    · obtain ⟨dr, y1, y2⟩ := K.2.2.2.2.2.2 m hm hkm
      refine ⟨dr, ?_, y2⟩
      show va_up (a_rt a) n A m = dr ++ (k_stm κ n b R).2.2 m
      rw [va_up_ne _ _ em, rm m em]
      exact y1
theorem hp_sm_one {f : Nat → Nat} {q : Nat} : ∀ (n b : Nat), b ≤ q → q < b + n → f q ≤ hp_sm f b n
  | 0, b, h1, h2 => by omega
  | n + 1, b, h1, h2 => by
    show f q ≤ f b + hp_sm f (b + 1) n
    by_cases e : b = q
    · subst e; exact Nat.le_add_right _ _
    · have := hp_sm_one (f := f) (q := q) n (b + 1) (by omega) (by omega)
      omega
/-- the row of times is no longer than the room has slots -/
theorem KR.tl (K : KR G pr B N S h κ a) (hn : n < a_mk a) (hk : a_nd a 0 n = 1) : hp_sl h + 4 * ((κ.2.2 n).length - hp_ln h (κ.1 4 n) / 2) ≤ S := by
  have h1 := K.2.2.2.2.2.1.2
  have h2 := hp_sm_one (f := k_po (hp_ln h) κ (a_nd a 0)) (q := n) (a_mk a) 0 (Nat.zero_le _) (by omega)
  have p1 : k_po (hp_ln h) κ (a_nd a 0) n = 4 * ((κ.2.2 n).length - hp_ln h (κ.1 4 n) / 2) := if_pos hk
  omega
end KRT
