/-! ===== the class's writes ===== -/
/-- one of the class's arrays -/
def k_rok (G : hpG) (κ : kS) (a : aS) (r n : Nat) : Prop := (r = 2 ∧ n < a_mk a ∧ a_nd a 0 n = 1 ∧ hp_n0 G ≤ κ.1 2 n) ∨ (r = 4 ∧ n < a_mk a ∧ a_nd a 0 n = 1) ∨ (r = 5 ∧ n = 2) ∨ (r = 5 ∧ 3 ≤ n ∧ n < 7) ∨ (r = 5 ∧ n = 7)
def k_kd (r n : Nat) : Nat := if r = 2 then 13 else if r = 4 then 10 else if n = 2 then 15 else if n = 7 then 14 else 10
section KRW
variable {G : hpG} {pr : Nat → Prop} {B : hpT} {N S : Nat} {h : hpT} {κ : kS} {a : aS} {n : Nat}
theorem KR.eltA (K : KR G pr B N S h κ a) (hd : hp_dE G < hp_n0 G) (hn : n < a_mk a) (hk : a_nd a 0 n = 1) (h0 : hp_n0 G ≤ κ.1 2 n) : k_is G pr h (κ.1 2 n) 13 ∧ (a_rw a n).length ≤ hp_ln h (κ.1 2 n) := by
  rcases K.isE hn hk with ⟨-, e⟩ | e
  · omega
  · exact e
theorem KR.rok (K : KR G pr B N S h κ a) {r i : Nat} (ok : k_aok κ a r n i) : k_rok G κ a r n := by
  rcases ok with ⟨rfl, h2, h3, h4⟩ | ⟨rfl, h2, h3, h4⟩ | ⟨rfl, h2, h3⟩ | ⟨rfl, h2, h3, h4⟩ | ⟨rfl, h2, h3⟩
  · refine Or.inl ⟨rfl, h2, h3, ?_⟩
    rcases K.isE h2 h3 with ⟨e, -⟩ | e
    · rw [e] at h4; cases h4
    · exact e.1.1.1
  · exact Or.inr (Or.inl ⟨rfl, h2, h3⟩)
  · exact Or.inr (Or.inr (Or.inl ⟨rfl, h2⟩))
  · exact Or.inr (Or.inr (Or.inr (Or.inl ⟨rfl, h2, h3⟩)))
  · exact Or.inr (Or.inr (Or.inr (Or.inr ⟨rfl, h2⟩)))
theorem KR.rkd (K : KR G pr B N S h κ a) (hd : hp_dE G < hp_n0 G) {r : Nat} (ok : k_rok G κ a r n) : k_is G pr h (κ.1 r n) (k_kd r n) := by
  rcases ok with ⟨rfl, h2, h3, h4⟩ | ⟨rfl, h2, h3⟩ | ⟨rfl, rfl⟩ | ⟨rfl, h2, h3⟩ | ⟨rfl, rfl⟩
  · exact (K.eltA hd h2 h3 h4).1
  · exact (K.1.2.1 n h2 h3).2.2.1
  · exact K.1.2.2.2.2.1.1
  · have e : k_kd 5 n = 10 := by unfold k_kd; rw [if_neg (by decide), if_neg (by decide), if_neg (by omega), if_neg (by omega)]
    have := (K.1.2.2.2.2.2.1 (n - 3) (by omega)).1
    rw [show 3 + (n - 3) = n by omega] at this
    rw [e]; exact this
  · exact K.1.2.2.2.2.2.2.1
theorem KR.dis (K : KR G pr B N S h κ a) (hd : hp_dE G < hp_n0 G) {r r' m : Nat} (ok : k_rok G κ a r n) (ok' : k_rok G κ a r' m) (e : κ.1 r n = κ.1 r' m) : r = r' ∧ n = m := by
  have q1 := (K.rkd hd ok).1.2.2
  have q2 := (K.rkd hd ok').1.2.2
  rw [e, q2] at q1
  obtain ⟨-, i2, i3, i4⟩ := K.2.1
  rcases ok with ⟨rfl, h2, h3, h4⟩ | ⟨rfl, h2, h3⟩ | ⟨rfl, rfl⟩ | ⟨rfl, h2, h3⟩ | ⟨rfl, rfl⟩ <;>
  rcases ok' with ⟨rfl, g2, g3, g4⟩ | ⟨rfl, g2, g3⟩ | ⟨rfl, rfl⟩ | ⟨rfl, g2, g3⟩ | ⟨rfl, rfl⟩ <;> unfold k_kd at q1 <;> try (exfalso; (repeat' split at q1) <;> omega)
  · exact ⟨rfl, i2 2 n m (Or.inr (Or.inr (Or.inr ⟨rfl, h4⟩))) h2 g2 h3 g3 e⟩
  · exact ⟨rfl, i2 4 n m (Or.inr (Or.inr (Or.inl rfl))) h2 g2 h3 g3 e⟩
  · exact absurd e (by have := i3 n (m - 3) h2 h3 (by omega); rwa [show 3 + (m - 3) = m by omega] at this)
  · exact ⟨rfl, rfl⟩
  · exact absurd e.symm (by have := i3 m (n - 3) g2 g3 (by omega); rwa [show 3 + (n - 3) = n by omega] at this)
  · refine ⟨rfl, ?_⟩
    have := i4 (n - 3) (m - 3) (by omega) (by omega) (by rw [show 3 + (n - 3) = n by omega, show 3 + (m - 3) = m by omega]; exact e)
    omega
  · exact ⟨rfl, rfl⟩
/-- a place that says nothing is written -/
theorem KR.set (K : KR G pr B N S h κ a) {b j : Nat} {v : Value} (hb : ¬ pr b) (hd : ∀ r n i, k_aok κ a r n i → κ.1 r n = b → i ≠ j) : KR G pr B N S (hp_set h b j v) κ a := by
  refine ⟨K.1, K.2.1, K.2.2.1, fun r n i ok => ?_, K.2.2.2.2.1.set hb, K.2.2.2.2.2.1, K.2.2.2.2.2.2⟩
  rw [hp_set_ar]
  by_cases e : κ.1 r n = b
  · rw [if_pos e, if_neg (hd r n i ok e), ← e]
    exact K.A r n i ok
  · rw [if_neg e]
    exact K.A r n i ok
/-- TIME goes on -/
theorem KR.time (K : KR G pr B N S h κ a) {t : Nat} (ht : a_tm a ≤ t) : KR G pr B N S (hp_put h 33 (κ.1 5 1) (.int (nI t))) κ (a_st a t) := by
  refine ⟨K.1, K.2.1, K.putV (n := 0) (f := 33) k_o33 (fun _ _ z => z) (fun _ _ => rfl) rfl (fun g m ok hg => ?_), K.2.2.2.1, K.2.2.2.2.1.put K.1.2.2.2.1.2, K.2.2.2.2.2.1, fun n hn hk => ?_⟩
  · have hg3 : g ≠ 33 := fun e => by
      subst e
      rcases ok with ⟨h1, -⟩ | ⟨-, -, h3⟩ | ⟨h1, -⟩ | ⟨h1, -⟩ | ⟨h1, -⟩ | ⟨h1, -⟩ | ⟨h1, -⟩ <;> first | exact hg rfl h3 | omega
    unfold k_fv
    by_cases e : k_isN g = true
    · rw [if_pos e, if_pos e]; rfl
    · rw [if_neg e, if_neg e]
      unfold k_fo
      rw [if_neg hg3, if_neg hg3]
      rfl
  · obtain ⟨dr, h1, h2⟩ := K.2.2.2.2.2.2 n hn hk
    exact ⟨dr, h1, fun x hx => by have := h2 x hx; show x + 1000 < t; omega⟩
def a_srs (a : aS) (x : Nat) : aS := (a.1, a.2.1, x, a.2.2.2)
theorem KR.rs (K : KR G pr B N S h κ a) (x : Nat) : KR G pr B N S (hp_put h 164 (κ.1 5 0) (.int (nI x))) κ (a_srs a x) := by
  refine ⟨K.1, K.2.1, K.putV (n := 0) (f := 164) k_o164 (fun _ _ z => z) (fun _ _ => rfl) rfl (fun g m ok hg => ?_), K.2.2.2.1, K.2.2.2.2.1.put K.1.2.2.1.2, K.2.2.2.2.2.1, K.2.2.2.2.2.2⟩
  have hg3 : g ≠ 164 := fun e => by
    subst e
    rcases ok with ⟨h1, -⟩ | ⟨-, h1, -⟩ | ⟨-, h1, -⟩ | ⟨-, h1, -⟩ | ⟨-, h1, -⟩ | ⟨-, h1, -⟩ | ⟨-, -, h3⟩ <;> first | exact hg rfl h3 | omega
  unfold k_fv
  by_cases e : k_isN g = true
  · rw [if_pos e, if_pos e]; rfl
  · rw [if_neg e, if_neg e]
    unfold k_fo
    rw [if_neg hg3, if_neg hg3]
    rfl
def a_sgv (a : aS) (x : Nat) : aS := (a.1, a.2.1, a.2.2.1, x, a.2.2.2.2)
theorem KR.gv (K : KR G pr B N S h κ a) (x : Nat) : KR G pr B N S (hp_put h 165 (κ.1 5 0) (.int (nI x))) κ (a_sgv a x) := by
  refine ⟨K.1, K.2.1, K.putV (n := 0) (f := 165) k_o165 (fun _ _ z => z) (fun _ _ => rfl) rfl (fun g m ok hg => ?_), K.2.2.2.1, K.2.2.2.2.1.put K.1.2.2.1.2, K.2.2.2.2.2.1, K.2.2.2.2.2.2⟩
  have hg3 : g ≠ 165 := fun e => by
    subst e
    rcases ok with ⟨h1, -⟩ | ⟨-, h1, -⟩ | ⟨-, h1, -⟩ | ⟨-, h1, -⟩ | ⟨-, h1, -⟩ | ⟨-, h1, -⟩ | ⟨-, -, h3⟩ <;> first | exact hg rfl h3 | omega
  unfold k_fv
  by_cases e : k_isN g = true
  · rw [if_pos e, if_pos e]; rfl
  · rw [if_neg e, if_neg e]
    unfold k_fo
    rw [if_neg hg3, if_neg hg3]
    rfl
/-- an event is told: the columns' places are written ahead -/
theorem KR.tell (K : KR G pr B N S h κ a) {w n r : Nat} (hw : (a_ev a).length < 600 → ∀ j, j < 4 → hp_ar h (κ.1 5 (3 + j)) (a_ev a).length = .int (nI (k_ec j (w, n, a_tm a, r)))) : KR G pr B N S (hp_put h 34 (κ.1 5 1) (.int (nI ((a_ev a).length + 1)))) κ (a_no a w n r) := by
  have el : (a_ev (a_no a w n r)).length = (a_ev a).length + 1 := by
    show (a_ev a ++ [_]).length = _
    rw [List.length_append]
    rfl
  refine ⟨K.1, K.2.1, K.putV (n := 0) (f := 34) k_o34 (fun _ _ z => z) (fun _ _ => rfl) ?_ (fun g m ok hg => ?_), fun q m i ok => ?_, K.2.2.2.2.1.put K.1.2.2.2.1.2, K.2.2.2.2.2.1, K.2.2.2.2.2.2⟩
  · show Value.int (nI (a_ev (a_no a w n r)).length) = _
    rw [el]
  · have hg3 : g ≠ 34 := fun e => by
      subst e
      rcases ok with ⟨h1, -⟩ | ⟨-, -, h3⟩ | ⟨h1, -⟩ | ⟨h1, -⟩ | ⟨h1, -⟩ | ⟨h1, -⟩ | ⟨h1, -⟩ <;> first | exact hg rfl h3 | omega
    unfold k_fv
    by_cases e : k_isN g = true
    · rw [if_pos e, if_pos e]; rfl
    · rw [if_neg e, if_neg e]
      unfold k_fo
      rw [if_neg hg3, if_neg hg3]
      rfl
  · show hp_ar h (κ.1 q m) i = _
    have hav : ∀ i, i < (a_ev a).length → k_av κ (a_no a w n r) q m i = k_av κ a q m i := fun i hi => by
      have : (a_ev (a_no a w n r)).getD i (0, 0, 0, 0) = (a_ev a).getD i (0, 0, 0, 0) := by
        show (a_ev a ++ [_]).getD i _ = _
        rw [List.getD_eq_getElem?_getD, List.getD_eq_getElem?_getD, List.getElem?_append_left hi]
      unfold k_av
      rw [this]
      rfl
    have hav2 : (q = 5 → ¬ (3 ≤ m ∧ m < 7)) → q = 2 ∨ q = 4 ∨ m = 2 ∨ m = 7 → k_av κ (a_no a w n r) q m i = k_av κ a q m i := fun _ hz => by
      unfold k_av
      rcases hz with rfl | rfl | rfl | rfl
      · rw [if_pos rfl, if_pos rfl]; rfl
      · rfl
      · by_cases c1 : q = 2
        · rw [if_pos c1, if_pos c1]; rfl
        · by_cases c2 : q = 4
          · rw [if_neg c1, if_neg c1, if_pos c2, if_pos c2]
          · rw [if_neg c1, if_neg c1, if_neg c2, if_neg c2, if_pos rfl, if_pos rfl]
      · by_cases c1 : q = 2
        · rw [if_pos c1, if_pos c1]; rfl
        · by_cases c2 : q = 4
          · rw [if_neg c1, if_neg c1, if_pos c2, if_pos c2]
          · rw [if_neg c1, if_neg c1, if_neg c2, if_neg c2]; rfl
    rcases ok with ⟨h1, h2, h3, h4⟩ | ⟨h1, h2, h3, h4⟩ | ⟨h1, h2, h3⟩ | ⟨h1, h2, h3, h4, h5⟩ | ⟨h1, h2, h3⟩
    · rw [hav2 (by omega) (Or.inl h1)]; exact K.A q m i (Or.inl ⟨h1, h2, h3, h4⟩)
    · rw [hav2 (by omega) (Or.inr (Or.inl h1))]; exact K.A q m i (Or.inr (Or.inl ⟨h1, h2, h3, h4⟩))
    · rw [hav2 (by omega) (Or.inr (Or.inr (Or.inl h2)))]; exact K.A q m i (Or.inr (Or.inr (Or.inl ⟨h1, h2, h3⟩)))
    · by_cases c : i < (a_ev a).length
      · rw [hav i c]; exact K.A q m i (Or.inr (Or.inr (Or.inr (Or.inl ⟨h1, h2, h3, h4, c⟩))))
      · have ei : i = (a_ev a).length := by rw [el] at h5; omega
        subst h1 ei
        have hz := hw h4 (m - 3) (by omega)
        rw [show 3 + (m - 3) = m by omega] at hz
        rw [hz]
        unfold k_av
        rw [if_neg (by decide), if_neg (by decide), if_neg (by omega), if_neg (by omega)]
        have : (a_ev (a_no a w n r)).getD (a_ev a).length (0, 0, 0, 0) = (w, n, a_tm a, r) := by
          show (a_ev a ++ [_]).getD _ _ = _
          rw [List.getD_eq_getElem?_getD, List.getElem?_append_right (Nat.le_refl _), Nat.sub_self]
          rfl
        rw [this]
    · rw [hav2 (by omega) (Or.inr (Or.inr (Or.inr h2)))]; exact K.A q m i (Or.inr (Or.inr (Or.inr (Or.inr ⟨h1, h2, h3⟩))))
/-- the sum of what is beyond the half, where one row's changes -/
theorem hp_sm_up {f g : Nat → Nat} {q : Nat} : ∀ (n b : Nat), b ≤ q → q < b + n → (∀ i, i ≠ q → f i = g i) → hp_sm f b n + g q = hp_sm g b n + f q
  | 0, b, h1, h2, _ => by omega
  | n + 1, b, h1, h2, hf => by
    show f b + hp_sm f (b + 1) n + g q = g b + hp_sm g (b + 1) n + f q
    by_cases e : b = q
    · subst e
      rw [hp_sm_congr (f := f) (g := g) n (b + 1) (fun i h1 _ => hf i (by omega))]
      omega
    · have := hp_sm_up (f := f) (g := g) n (b + 1) (by omega) (by omega) hf
      rw [hf b e]
      omega
theorem hp_sm_le {f g : Nat → Nat} : ∀ (n b : Nat), (∀ i, b ≤ i → i < b + n → f i ≤ g i) → hp_sm f b n ≤ hp_sm g b n
  | 0, _, _ => Nat.le_refl _
  | n + 1, b, hf => by
    show f b + hp_sm f (b + 1) n ≤ g b + hp_sm g (b + 1) n
    have h1 := hf b (Nat.le_refl _) (by omega)
    have h2 := hp_sm_le (f := f) (g := g) n (b + 1) (fun i _ _ => hf i (by omega) (by omega))
    omega
/-- the restarts' times of keeper n are x -/
def k_srt (κ : kS) (n : Nat) (x : List Nat) : kS := (κ.1, κ.2.1, va_up κ.2.2 n x)
/-- a keeper's restarts are forgotten -/
theorem KR.clear (K : KR G pr B N S h κ a) (hn : n < a_mk a) (hk : a_nd a 0 n = 1) : KR G pr B N S (hp_put h 97 (κ.1 3 n) (.int 0)) (k_srt κ n []) (a_srt a n []) := by
  have ne : ∀ m, m ≠ n → (k_srt κ n []).2.2 m = κ.2.2 m := fun m hm => va_up_ne _ _ hm
  have se : (k_srt κ n []).2.2 n = [] := va_up_self _ _ _
  have le : ∀ m, ((k_srt κ n []).2.2 m).length ≤ (κ.2.2 m).length := fun m => by
    by_cases e : m = n
    · rw [e, se]; exact Nat.zero_le _
    · rw [ne m e]; exact Nat.le_refl _
  refine ⟨⟨K.1.1, fun m hm hkm => ?_, K.1.2.2⟩, K.2.1, K.putV (n := n) (f := 97) (k_o97 hn hk) (fun _ _ z => z) (fun _ _ => rfl) ?_ (fun g m ok hg => ?_), fun r m i ok => ?_, K.2.2.2.2.1.put (K.1.2.1 n hn hk).2.1.2, ⟨K.2.2.2.2.2.1.1, ?_⟩, fun m hm hkm => ?_⟩
  · obtain ⟨z1, z2, z3, z4, z5⟩ := K.1.2.1 m hm hkm
    exact ⟨z1, z2, z3, ⟨Nat.le_trans (le m) z4.1, z4.2⟩, z5⟩
  · show Value.int (nI ((k_srt κ n []).2.2 n).length) = _
    rw [se]
    rfl
  · unfold k_fv
    by_cases e : k_isN g = true
    · rw [if_pos e, if_pos e]; rfl
    · rw [if_neg e, if_neg e]
      by_cases e2 : g = 97
      · subst e2
        show Value.int (nI ((k_srt κ n []).2.2 m).length) = Value.int (nI (κ.2.2 m).length)
        rw [ne m (hg rfl)]
      · unfold k_fo
        simp only [e2, if_false]
        rfl
  · have ok' : k_aok κ a r m i := by
      rcases ok with z | ⟨z1, z2, z3, z4⟩ | z
      · exact Or.inl z
      · exact Or.inr (Or.inl ⟨z1, z2, z3, Nat.lt_of_lt_of_le z4 (le m)⟩)
      · exact Or.inr (Or.inr z)
    have := K.A r m i ok'
    refine this.trans ?_
    by_cases e : r = 4
    · subst e
      rcases ok with ⟨z1, -⟩ | ⟨z1, z2, z3, z4⟩ | ⟨z1, -⟩ | ⟨z1, -⟩ | ⟨z1, -⟩ <;> try omega
      by_cases em : m = n
      · subst em; have z4' : i < ((k_srt κ m []).2.2 m).length := z4; rw [se] at z4'; cases z4'
      · show Value.int (nI ((κ.2.2 m).getD i 0)) = Value.int (nI (((k_srt κ n []).2.2 m).getD i 0))
        rw [ne m em]
    · unfold k_av
      by_cases e2 : r = 2
      · rw [if_pos e2, if_pos e2]; rfl
      · rw [if_neg e2, if_neg e2, if_neg e, if_neg e]; rfl
  · refine Nat.le_trans (Nat.add_le_add_left (hp_sm_le _ _ (fun i _ _ => ?_)) _) K.2.2.2.2.2.1.2
    show (if a_nd a 0 i = 1 then 4 * (((k_srt κ n []).2.2 i).length - hp_ln h (κ.1 4 i) / 2) else 0) ≤ (if a_nd a 0 i = 1 then 4 * ((κ.2.2 i).length - hp_ln h (κ.1 4 i) / 2) else 0)
    have := le i
    split <;> omega
  · by_cases em : m = n
    · subst em
      refine ⟨[], ?_, fun x hx => by cases hx⟩
      show va_up (a_rt a) m [] m = [] ++ (k_srt κ m []).2.2 m
      rw [va_up_self, se]
      rfl
    · obtain ⟨dr, y1, y2⟩ := K.2.2.2.2.2.2 m hm hkm
      refine ⟨dr, ?_, y2⟩
      show va_up (a_rt a) n [] m = dr ++ (k_srt κ n []).2.2 m
      rw [va_up_ne _ _ em, ne m em]
      exact y1
end KRW
section KRR
variable {M : hpM} {G : hpG} {y : MethodName} {cc : ByteArray} {nL d : Nat} {h0 h : hpT} {Q : State → Prop} {pc : Nat} {lo : Nat → Option Value} {st : List Value} {pr : Nat → Prop} {B : hpT} {N S : Nat} {κ : kS} {a : aS} {n idx : Nat}
/-- a field that keepers and workers have -/
theorem kg_N (C : hp_F M G y cc nL d h0) (K : KR G pr B N S h κ a) (hn : n < a_mk a) (hb : a_nd a 0 n = 0 ∨ a_nd a 0 n = 1) {j : Nat} (hj : j < 5) (f2 : hp_FL y.cls idx 2 j) (f4 : hp_FL y.cls idx 4 j) {v : Value} (dd : decode cc pc = .ok (.getfield idx, 3)) (ev : hp_fl h (64 + j) (κ.1 0 n) = v) (kk : hp_V M G nL Q h (pc + 3) lo (v :: st)) : hp_V M G nL Q h pc lo (.ref (κ.1 0 n) :: st) := by
  rcases hb with hb | hb
  · exact hp_get C f4 dd (K.isW hn hb) (by unfold hp_fd; rw [if_pos rfl, if_pos hj]; exact ev) kk
  · exact hp_get C f2 dd (K.isK hn hb) ev kk
theorem kp_68K (C : hp_F M G y cc nL d h0) (K : KR G pr B N S h κ a) (hn : n < a_mk a) (hk : a_nd a 0 n = 1) (fl : hp_FL y.cls idx 2 4) {v : Int32} (x : Int) (ev : v = Int32.ofInt x) (dd : decode cc pc = .ok (.putfield idx, 3)) (kk : ∀ h', KR G pr B N S h' κ (a_sn a 3 n x) → hp_V M G nL Q h' (pc + 3) lo st) : hp_V M G nL Q h pc lo (.int v :: .ref (κ.1 0 n) :: st) := by
  subst ev
  exact hp_putf C fl rfl rfl rfl dd (K.isK hn hk) (kk _ (K.p68 hn x))
theorem kp_68W (C : hp_F M G y cc nL d h0) (K : KR G pr B N S h κ a) (hn : n < a_mk a) (hk : a_nd a 0 n = 0) (fl : hp_FL y.cls idx 4 4) {v : Int32} (x : Int) (ev : v = Int32.ofInt x) (dd : decode cc pc = .ok (.putfield idx, 3)) (kk : ∀ h', KR G pr B N S h' κ (a_sn a 3 n x) → hp_V M G nL Q h' (pc + 3) lo st) : hp_V M G nL Q h pc lo (.int v :: .ref (κ.1 0 n) :: st) := by
  subst ev
  exact hp_putf C fl rfl rfl rfl dd (K.isW hn hk) (kk _ (K.p68 hn x))
theorem kp_136W (C : hp_F M G y cc nL d h0) (K : KR G pr B N S h κ a) (hn : n < a_mk a) (hk : a_nd a 0 n = 0) (fl : hp_FL y.cls idx 4 8) {v : Int32} (x : Int) (ev : v = Int32.ofInt x) (dd : decode cc pc = .ok (.putfield idx, 3)) (kk : ∀ h', KR G pr B N S h' κ (a_sn a 11 n x) → hp_V M G nL Q h' (pc + 3) lo st) : hp_V M G nL Q h pc lo (.int v :: .ref (κ.1 0 n) :: st) := by
  subst ev
  exact hp_putf C fl rfl rfl rfl dd (K.isW hn hk) (kk _ (K.p136 hn hk x))
theorem kp_71K (C : hp_F M G y cc nL d h0) (K : KR G pr B N S h κ a) (hn : n < a_mk a) (hk : a_nd a 0 n = 1) (fl : hp_FL y.cls idx 2 7) {v : Int32} (x : Int) (ev : v = Int32.ofInt x) (dd : decode cc pc = .ok (.putfield idx, 3)) (kk : ∀ h', KR G pr B N S h' κ (a_sn a 5 n x) → hp_V M G nL Q h' (pc + 3) lo st) : hp_V M G nL Q h pc lo (.int v :: .ref (κ.1 0 n) :: st) := by
  subst ev
  exact hp_putf C fl rfl rfl rfl dd (K.isK hn hk) (kk _ (K.p71 hn hk x))
theorem kp_72K (C : hp_F M G y cc nL d h0) (K : KR G pr B N S h κ a) (hn : n < a_mk a) (hk : a_nd a 0 n = 1) (fl : hp_FL y.cls idx 2 8) {v : Int32} (x : Int) (ev : v = Int32.ofInt x) (dd : decode cc pc = .ok (.putfield idx, 3)) (kk : ∀ h', KR G pr B N S h' κ (a_sn a 6 n x) → hp_V M G nL Q h' (pc + 3) lo st) : hp_V M G nL Q h pc lo (.int v :: .ref (κ.1 0 n) :: st) := by
  subst ev
  exact hp_putf C fl rfl rfl rfl dd (K.isK hn hk) (kk _ (K.p72 hn hk x))
theorem kp_73K (C : hp_F M G y cc nL d h0) (K : KR G pr B N S h κ a) (hn : n < a_mk a) (hk : a_nd a 0 n = 1) (fl : hp_FL y.cls idx 2 9) {v : Int32} (x : Int) (ev : v = Int32.ofInt x) (dd : decode cc pc = .ok (.putfield idx, 3)) (kk : ∀ h', KR G pr B N S h' κ (a_sn a 7 n x) → hp_V M G nL Q h' (pc + 3) lo st) : hp_V M G nL Q h pc lo (.int v :: .ref (κ.1 0 n) :: st) := by
  subst ev
  exact hp_putf C fl rfl rfl rfl dd (K.isK hn hk) (kk _ (K.p73 hn hk x))
theorem kp_68N (C : hp_F M G y cc nL d h0) (K : KR G pr B N S h κ a) (hn : n < a_mk a) (hb : a_nd a 0 n = 0 ∨ a_nd a 0 n = 1) (f2 : hp_FL y.cls idx 2 4) (f4 : hp_FL y.cls idx 4 4) {v : Int32} (x : Int) (ev : v = Int32.ofInt x) (dd : decode cc pc = .ok (.putfield idx, 3)) (kk : ∀ h', KR G pr B N S h' κ (a_sn a 3 n x) → hp_V M G nL Q h' (pc + 3) lo st) : hp_V M G nL Q h pc lo (.int v :: .ref (κ.1 0 n) :: st) := by
  rcases hb with hb | hb
  · exact kp_68W C K hn hb f4 x ev dd kk
  · exact kp_68K C K hn hb f2 x ev dd kk
theorem kp_33 (C : hp_F M G y cc nL d h0) (K : KR G pr B N S h κ a) (fl : hp_FL y.cls idx 1 1) {v : Int32} (t : Nat) (ev : v = nI t) (ht : a_tm a ≤ t) (dd : decode cc pc = .ok (.putfield idx, 3)) (kk : ∀ h', KR G pr B N S h' κ (a_st a t) → hp_V M G nL Q h' (pc + 3) lo st) : hp_V M G nL Q h pc lo (.int v :: .ref (κ.1 5 1) :: st) := by
  subst ev
  exact hp_putf C fl rfl rfl rfl dd K.isJ (kk _ (K.time ht))
theorem kp_164 (C : hp_F M G y cc nL d h0) (K : KR G pr B N S h κ a) (fl : hp_FL y.cls idx 5 4) {v : Int32} (t : Nat) (ev : v = nI t) (dd : decode cc pc = .ok (.putfield idx, 3)) (kk : ∀ h', KR G pr B N S h' κ (a_srs a t) → hp_V M G nL Q h' (pc + 3) lo st) : hp_V M G nL Q h pc lo (.int v :: .ref (κ.1 5 0) :: st) := by
  subst ev
  exact hp_putf C fl rfl rfl rfl dd K.isT (kk _ (K.rs t))
theorem kp_165 (C : hp_F M G y cc nL d h0) (K : KR G pr B N S h κ a) (fl : hp_FL y.cls idx 5 5) {v : Int32} (t : Nat) (ev : v = nI t) (dd : decode cc pc = .ok (.putfield idx, 3)) (kk : ∀ h', KR G pr B N S h' κ (a_sgv a t) → hp_V M G nL Q h' (pc + 3) lo st) : hp_V M G nL Q h pc lo (.int v :: .ref (κ.1 5 0) :: st) := by
  subst ev
  exact hp_putf C fl rfl rfl rfl dd K.isT (kk _ (K.gv t))
end KRR
