/-! ===== THE PURE HEAP: every cell made since the law's entry, by its address; fields by their own numbers, arrays by places ===== -/
/-- next address, slots made, kind of a cell, length of an array, field of an object (by the field's number), element of an array -/
abbrev hpT : Type := Nat × Nat × (Nat → Nat) × (Nat → Nat) × (Nat → Nat → Value) × (Nat → Nat → Value)
abbrev hp_nx (h : hpT) : Nat := h.1
abbrev hp_sl (h : hpT) : Nat := h.2.1
abbrev hp_kd (h : hpT) : Nat → Nat := h.2.2.1
abbrev hp_ln (h : hpT) : Nat → Nat := h.2.2.2.1
abbrev hp_fl (h : hpT) : Nat → Nat → Value := h.2.2.2.2.1
abbrev hp_ar (h : hpT) : Nat → Nat → Value := h.2.2.2.2.2
/-- the world: classes and slots, array classes, the first new address, ArrayList's empty array, the mirror of Object[], the heap at the law's entry -/
abbrev hpG : Type := va_G × (Nat → ClassId) × Nat × Nat × Nat × Heap
abbrev hp_D (G : hpG) : va_G := G.1
abbrev hp_cA (G : hpG) : Nat → ClassId := G.2.1
abbrev hp_n0 (G : hpG) : Nat := G.2.2.1
abbrev hp_dE (G : hpG) : Nat := G.2.2.2.1
abbrev hp_mi (G : hpG) : Nat := G.2.2.2.2.1
abbrev hp_H0 (G : hpG) : Heap := G.2.2.2.2.2
/-- a frame of the machine -/
abbrev hpM := Program × Launch × Env × Room × State × MethodId × Array Value × List Frame × Method × Code
abbrev hp_R4 (M : hpM) : Room := M.2.2.2.1
abbrev hp_st (M : hpM) : State := M.2.2.2.2.1
abbrev hp_mi4 (M : hpM) : MethodId := M.2.2.2.2.2.1
abbrev hp_av (M : hpM) : Array Value := M.2.2.2.2.2.2.1
abbrev hp_bl (M : hpM) : List Frame := M.2.2.2.2.2.2.2.1
abbrev hp_mt (M : hpM) : Method := M.2.2.2.2.2.2.2.2.1
abbrev hp_cd (M : hpM) : Code := M.2.2.2.2.2.2.2.2.2
abbrev hp_LC : Nat := 600000
abbrev hp_LS : Nat := 7290000
/-! sums of slots -/
def hp_sm (f : Nat → Nat) : Nat → Nat → Nat
  | _, 0 => 0
  | a, n + 1 => f a + hp_sm f (a + 1) n
theorem hp_sm_app (f : Nat → Nat) : ∀ (n a m : Nat), hp_sm f a (n + m) = hp_sm f a n + hp_sm f (a + n) m
  | 0, a, m => by simp [hp_sm]
  | n + 1, a, m => by
    rw [show n + 1 + m = (n + m) + 1 by omega]
    show f a + hp_sm f (a + 1) (n + m) = f a + hp_sm f (a + 1) n + hp_sm f (a + (n + 1)) m
    rw [hp_sm_app f n (a + 1) m, show a + 1 + n = a + (n + 1) by omega]
    omega
theorem hp_sm_congr {f g : Nat → Nat} : ∀ (n a : Nat), (∀ i, a ≤ i → i < a + n → f i = g i) → hp_sm f a n = hp_sm g a n
  | 0, _, _ => rfl
  | n + 1, a, h => by
    show f a + hp_sm f (a + 1) n = g a + hp_sm g (a + 1) n
    rw [h a (Nat.le_refl a) (by omega), hp_sm_congr n (a + 1) (fun i h1 h2 => h i (by omega) (by omega))]
def hp_sz (H : Heap) (q : Nat) : Nat := match H[q]? with
  | some c => c.slots.size
  | none => 0
theorem hp_sm_drop (H : Heap) : ∀ (n k : Nat), H.size - k = n → ((H.toList.drop k).map (·.slots.size)).sum = hp_sm (hp_sz H) k n
  | 0, k, h => by
    rw [List.drop_eq_nil_of_le (by rw [Array.length_toList]; omega)]
    rfl
  | n + 1, k, h => by
    have hk : k < H.toList.length := by rw [Array.length_toList]; omega
    rw [List.drop_eq_getElem_cons hk, List.map_cons, List.sum_cons, hp_sm_drop H n (k + 1) (by omega)]
    show _ = hp_sz H k + hp_sm (hp_sz H) (k + 1) n
    have e : hp_sz H k = H.toList[k].slots.size := by
      have hk2 : k < H.size := by omega
      unfold hp_sz
      rw [Array.getElem?_eq_getElem hk2]
      simp
    rw [e]
/-- a cell of the heap is what the pure heap says -/
def hp_at (G : hpG) (h : hpT) (a : Nat) (H : Heap) : Prop :=
  (∃ (k : Nat) (r : vw_C), hp_kd h a = k ∧ k < 10 ∧ vwCl[k]? = some r ∧ t_OB a ((hp_D G).1 k) r.2.2 ((hp_D G).2 k) H (fun j => hp_fl h (hp_fd k j) a)) ∨
  (∃ t : Nat, hp_kd h a = 10 + t ∧ t < 6 ∧ H[a]? = some (arrV (hp_cA G t) (hp_ln h a) (hp_ar h a))) ∨
  (20 ≤ hp_kd h a ∧ ∃ cell : Cell, H[a]? = some cell ∧ cell.vm = .none)
theorem hp_at.lt {G : hpG} {h : hpT} {a : Nat} {H : Heap} (x : hp_at G h a H) : a < H.size := by
  rcases x with ⟨k, r, -, -, -, cell, h1, -⟩ | ⟨t, -, -, h1⟩ | ⟨-, cell, h1, -⟩ <;> exact (Array.getElem?_eq_some_iff.mp h1).1
theorem hp_at.kept {G : hpG} {h : hpT} {a : Nat} {H H1 : Heap} (x : hp_at G h a H) (e : H1[a]? = H[a]?) : hp_at G h a H1 := by
  rcases x with ⟨k, r, h1, h2, h3, h4⟩ | ⟨t, h1, h2, h3⟩ | ⟨h1, cell, h2, h3⟩
  · exact Or.inl ⟨k, r, h1, h2, h3, h4.kept e⟩
  · exact Or.inr (Or.inl ⟨t, h1, h2, by rw [e]; exact h3⟩)
  · exact Or.inr (Or.inr ⟨h1, cell, by rw [e]; exact h2, h3⟩)
/-- the same cell under another pure heap that says the same of it -/
theorem hp_at.to {G : hpG} {h h' : hpT} {a : Nat} {H : Heap} (x : hp_at G h a H) (e1 : hp_kd h' a = hp_kd h a) (e2 : hp_ln h' a = hp_ln h a) (e3 : ∀ f, hp_fl h' f a = hp_fl h f a) (e4 : hp_ar h' a = hp_ar h a) : hp_at G h' a H := by
  rcases x with ⟨k, r, h1, h2, h3, h4⟩ | ⟨t, h1, h2, h3⟩ | ⟨h1, cell, h2, h3⟩
  · exact Or.inl ⟨k, r, e1.trans h1, h2, h3, h4.to (fun j _ => (e3 _).symm)⟩
  · exact Or.inr (Or.inl ⟨t, e1.trans h1, h2, by rw [e2, e4]; exact h3⟩)
  · exact Or.inr (Or.inr ⟨by rw [e1]; exact h1, cell, h2, h3⟩)
/-- the heap H is the entry's, and the pure heap's cells behind it -/
def hp_R (G : hpG) (h : hpT) (H : Heap) : Prop :=
  hp_n0 G ≤ hp_nx h ∧ H.size = hp_nx h ∧ (∀ q : Nat, q < hp_n0 G → H[q]? = (hp_H0 G)[q]?) ∧ (∀ a : Nat, hp_n0 G ≤ a → a < hp_nx h → hp_at G h a H) ∧ hp_sm (hp_sz H) (hp_n0 G) (hp_nx h - hp_n0 G) = hp_sl h ∧ hp_nx h ≤ hp_n0 G + hp_LC ∧ hp_sl h ≤ hp_LS
/-- an object of class ci is at a -/
abbrev hp_is (G : hpG) (h : hpT) (a k : Nat) : Prop := hp_n0 G ≤ a ∧ a < hp_nx h ∧ hp_kd h a = k
theorem hp_R.obj {G : hpG} {h : hpT} {H : Heap} {a k : Nat} (x : hp_R G h H) (hi : hp_is G h a k) (hk : k < 10) : ∃ r : vw_C, vwCl[k]? = some r ∧ t_OB a ((hp_D G).1 k) r.2.2 ((hp_D G).2 k) H (fun j => hp_fl h (hp_fd k j) a) := by
  obtain ⟨i1, i2, i3⟩ := hi
  rcases x.2.2.2.1 a i1 i2 with ⟨k', r, h1, h2, h3, h4⟩ | ⟨t, h1, h2, h3⟩ | ⟨h1, cell, h2, h3⟩
  · rw [i3] at h1
    subst h1
    exact ⟨r, h3, h4⟩
  · omega
  · omega
theorem hp_R.arr {G : hpG} {h : hpT} {H : Heap} {a t : Nat} (x : hp_R G h H) (hi : hp_is G h a (10 + t)) (ht : t < 6) : H[a]? = some (arrV (hp_cA G t) (hp_ln h a) (hp_ar h a)) := by
  obtain ⟨i1, i2, i3⟩ := hi
  rcases x.2.2.2.1 a i1 i2 with ⟨k', r, h1, h2, h3, h4⟩ | ⟨t', h1, h2, h3⟩ | ⟨h1, cell, h2, h3⟩
  · omega
  · have e : t' = t := by omega
    subst e
    exact h3
  · omega
/-- one cell is changed, its size stays -/
theorem hp_R.upd {G : hpG} {h h' : hpT} {H H1 : Heap} {a : Nat} (x : hp_R G h H) (ha : hp_n0 G ≤ a) (e0 : hp_nx h' = hp_nx h) (e1 : hp_sl h' = hp_sl h) (z : H1.size = H.size) (o : ∀ q : Nat, q ≠ a → H1[q]? = H[q]?) (zs : hp_sz H1 a = hp_sz H a)
    (hk : ∀ b, b ≠ a → hp_kd h' b = hp_kd h b) (hl : ∀ b, b ≠ a → hp_ln h' b = hp_ln h b) (hf : ∀ f b, b ≠ a → hp_fl h' f b = hp_fl h f b) (hr : ∀ b, b ≠ a → hp_ar h' b = hp_ar h b) (hn : hp_at G h' a H1) : hp_R G h' H1 := by
  obtain ⟨x1, x2, x3, x4, x5, x6, x7⟩ := x
  refine ⟨by rw [e0]; exact x1, by rw [z, e0]; exact x2, fun q hq => ?_, fun b h1 h2 => ?_, ?_, by rw [e0]; exact x6, by rw [e1]; exact x7⟩
  · rw [o q (by omega)]
    exact x3 q hq
  · by_cases e : b = a
    · rw [e]; exact hn
    · exact ((x4 b h1 (by rw [← e0]; exact h2)).kept (o b e)).to (hk b e) (hl b e) (fun f => hf f b e) (hr b e)
  · rw [e0, e1, ← x5]
    refine hp_sm_congr _ _ (fun i _ _ => ?_)
    by_cases e : i = a
    · rw [e]; exact zs
    · unfold hp_sz
      rw [o i e]
/-- a cell is made -/
theorem hp_R.new {G : hpG} {h h' : hpT} {H H1 : Heap} {n : Nat} (x : hp_R G h H) (b1 : hp_nx h + 1 ≤ hp_n0 G + hp_LC) (b2 : hp_sl h + n ≤ hp_LS) (e0 : hp_nx h' = hp_nx h + 1) (e1 : hp_sl h' = hp_sl h + n) (z : H1.size = H.size + 1) (o : ∀ q : Nat, q < H.size → H1[q]? = H[q]?) (zs : hp_sz H1 H.size = n)
    (hk : ∀ b, b < hp_nx h → hp_kd h' b = hp_kd h b) (hl : ∀ b, b < hp_nx h → hp_ln h' b = hp_ln h b) (hf : ∀ f b, b < hp_nx h → hp_fl h' f b = hp_fl h f b) (hr : ∀ b, b < hp_nx h → hp_ar h' b = hp_ar h b) (hn : hp_at G h' (hp_nx h) H1) : hp_R G h' H1 := by
  obtain ⟨x1, x2, x3, x4, x5, x6, x7⟩ := x
  refine ⟨by omega, by rw [z, e0, x2], fun q hq => ?_, fun b h1 h2 => ?_, ?_, by omega, by omega⟩
  · rw [o q (by omega)]
    exact x3 q hq
  · by_cases e : b = hp_nx h
    · rw [e]; exact hn
    · have hb : b < hp_nx h := by omega
      exact ((x4 b h1 hb).kept (o b (by omega))).to (hk b hb) (hl b hb) (fun f => hf f b hb) (hr b hb)
  · rw [e0, e1, show hp_nx h + 1 - hp_n0 G = (hp_nx h - hp_n0 G) + 1 by omega, hp_sm_app, show hp_n0 G + (hp_nx h - hp_n0 G) = H.size by omega]
    show _ + (hp_sz H1 H.size + 0) = _
    rw [zs, Nat.add_zero, ← x5]
    congr 1
    refine hp_sm_congr _ _ (fun i _ h2 => ?_)
    unfold hp_sz
    rw [o i (by omega)]
/-! ===== what stays true of the tables ===== -/
/-- words of the tables that are not 'good' ones, but stay true as the machine warms -/
def hp_Ow (U : State) : Prop := ∀ w ∈ hp_ow, va_Nw w U
/-- what is known of a state's tables, and of the entry's heap -/
def hp_E (G : hpG) (U : State) : Prop :=
  va_K (hp_D G) vwCl (hp_tys (hp_cA G)) U ∧ hp_Ow U ∧
  vx_Zq Bundle.tN "UNASSIGNED_STACK" Bundle.steD (fun q => hp_n0 G ≤ q) U (hp_H0 G) ∧ vx_Zq Bundle.tN "SUPPRESSED_SENTINEL" Bundle.listD (fun q => hp_n0 G ≤ q) U (hp_H0 G) ∧
  va_Z "java/util/ArrayList" "DEFAULTCAPACITY_EMPTY_ELEMENTDATA" "[Ljava/lang/Object;" (.ref (hp_dE G)) (fun q => hp_n0 G ≤ q) U (hp_H0 G) ∧
  (∃ cell : Cell, (hp_H0 G)[hp_dE G]? = some cell ∧ cell.cls = hp_cA G 3 ∧ cell.slots.size = 0 ∧ ∀ q, cell.vm ≠ .statics q) ∧ hp_dE G < hp_n0 G ∧
  va_Mi "[Ljava/lang/Object;" (hp_mi G) U ∧ (∀ q ∈ hp_nc, va_Nc q.1 q.2 U)
def hp_owk : Cond → Bool
  | .methodLinkNest .. => true
  | .declares _ => true
  | .castable _ _ => true
  | .arrayOver _ => true
  | _ => false
theorem hp_ow_k : hp_ow.all hp_owk = true := by decide +kernel
theorem hp_Nw_moved {u U : State} (hW : u.WarmedH U.vm) : ∀ w : Cond, hp_owk w = true → va_Nw w u → va_Nw w U
  | .methodLinkNest .., _, hz => va_Nw.warmM hW hz
  | .declares _, _, hz => va_Nw.warmD hW hz
  | .castable a b, _, hz => va_tabs (A' := #[]) rfl (rfl : (u.setVm U.vm).vm = U.vm) (show (Cond.castable a b).before #[] (u.setVm U.vm) = true by rw [Cond.castable_setVm hW.alike]; exact hz)
  | .arrayOver C, _, hz => by
    have e : (Cond.arrayOver C).before #[] (u.setVm U.vm) = true := by rw [Cond.arrayOver_setVmC hW.alike]; exact hz
    exact e
theorem hp_Ow_moved {u U : State} (hW : u.WarmedH U.vm) (h : hp_Ow u) : hp_Ow U := fun w hw => hp_Nw_moved hW w (List.all_eq_true.mp hp_ow_k w hw) (h w hw)
