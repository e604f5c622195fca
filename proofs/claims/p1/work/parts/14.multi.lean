/-- n rows of k numbers each -/
def hp_mkM (h : hpT) (n k : Nat) : hpT := (h.1 + 1 + n, h.2.1 + (n + n * k), (fun b => if b < h.1 then hp_kd h b else if b = h.1 then 15 else if b < h.1 + 1 + n then 10 else hp_kd h b), (fun b => if b < h.1 then hp_ln h b else if b = h.1 then n else if b < h.1 + 1 + n then k else hp_ln h b), h.2.2.2.2.1,
  (fun b i => if b < h.1 then hp_ar h b i else if b = h.1 then .ref (h.1 + 1 + i) else if b < h.1 + 1 + n then .int 0 else hp_ar h b i))
theorem hp_sm_const {f : Nat → Nat} {v : Nat} : ∀ (n a : Nat), (∀ i, a ≤ i → i < a + n → f i = v) → hp_sm f a n = n * v
  | 0, _, _ => by simp [hp_sm]
  | n + 1, a, h => by
    show f a + hp_sm f (a + 1) n = (n + 1) * v
    rw [h a (Nat.le_refl a) (by omega), hp_sm_const n (a + 1) (fun i h1 h2 => h i (by omega) (by omega)), Nat.succ_mul]
    omega
section HP4
variable {M : hpM} {G : hpG} {y : MethodName} {cc : ByteArray} {nL d : Nat} {h0 h : hpT} {Q : State → Prop} {pc : Nat} {lo : Nat → Option Value} {st : List Value}
theorem hp_multi (C : hp_F M G y cc nL d h0) {idx : Nat} {n k : Int32} (w1 : Cond.classLink y.cls idx "[[I" ∈ hp_ws) (dd : decode cc pc = .ok (.multianewarray idx 2, 4)) (hn : ¬ n < 0) (hk : ¬ k < 0) (hn4 : n.toNatClampNeg < 10) (hk4 : k.toNatClampNeg ≤ 1000) (hcl : hp_nx h + 20 ≤ hp_n0 G + hp_LC) (hsl : hp_sl h + 12000 ≤ hp_LS)
    (kk : hp_V M G nL Q (hp_mkM h n.toNatClampNeg k.toNatClampNeg) (pc + 4) lo (.ref (hp_nx h) :: st)) : hp_V M G nL Q h pc lo (.int k :: .int n :: st) := by
  intro H locs cells slots ls hR hl hL
  refine hp_tight C hR (fun hle hls => ?_)
  have rc := C.rc
  have rs := C.rs
  have hsz := hR.2.1
  have es : "[" ++ (FieldType.array .int).toString = "[[I" := by decide +kernel
  have es2 : (FieldType.array .int).toString = "[" ++ FieldType.int.toString := by decide +kernel
  have hover : (Cond.arrayOver (.array .int)).before (hp_av M) (hp_st M) = true := C.en.2.1 (Cond.arrayOver (.array .int)) (by decide)
  have hNK : n.toNatClampNeg * k.toNatClampNeg ≤ 10 * 1000 := Nat.mul_le_mul (by omega) hk4
  intro T hT X
  obtain ⟨vm₁, cA, comp, hfA, hfC, X1, step⟩ := sf_multi X C.ex (own := y.cls) C.own (by rw [es]; exact C.ws _ w1) hover (C.ws _ ac_int) (g := F0 (hp_mi4 M) pc ls (.int k :: .int n :: st)) rfl (by rw [C.bc]; exact dd) rfl hn hk (by omega) hk4 (by omega) (by omega)
  have hzT : T.heap.size = hp_nx h := by rw [hT]; exact hsz
  have eA : cA = hp_cA G 5 := Option.some.inj (hfA.symm.trans (C.en.arr (t := 5) rfl).2)
  have eC : comp = hp_cA G 0 := by
    have q1 := (C.en.arr (t := 0) rfl).2
    have q2 : (hp_st M).vm.findClass ("[" ++ FieldType.int.toString) = some (hp_cA G 0) := q1
    rw [← es2] at q2
    exact Option.some.inj (hfC.symm.trans q2)
  obtain ⟨f1, f2, f3, f4⟩ := sf_Tfacts (T.setVm vm₁) cA comp n.toNatClampNeg k.toNatClampNeg n.toNatClampNeg
  have e9 : (T.setVm vm₁).heap.size = T.heap.size := rfl
  rw [e9] at f1 f2 f3 f4
  generalize sf_T (T.setVm vm₁) cA comp n.toNatClampNeg k.toNatClampNeg T.heap.size n.toNatClampNeg = T1 at X1 step f1 f2 f3 f4
  have f1 : T1.heap.size = hp_nx h + 1 + n.toNatClampNeg := by rw [f1, hzT]
  have f2 : T1.heap[hp_nx h]? = some (arrV (hp_cA G 5) n.toNatClampNeg (fun j => .ref (hp_nx h + 1 + j))) := by
    rw [hzT, eA] at f2
    rw [f2]
    show some ({ cls := hp_cA G 5, slots := Array.ofFn (n := n.toNatClampNeg) fun j => (if j.val < n.toNatClampNeg then Value.ref (hp_nx h + 1 + j.val) else .null), vm := .none } : Cell) = some { cls := hp_cA G 5, slots := Array.ofFn (n := n.toNatClampNeg) fun j => Value.ref (hp_nx h + 1 + j.val), vm := .none }
    congr 3
    funext j
    rw [if_pos j.isLt]
  have f3 : ∀ a : Nat, a < hp_nx h → T1.heap[a]? = H[a]? := fun a ha => by
    have q : T1.heap[a]? = T.heap[a]? := f3 a (by rw [hzT]; exact ha)
    rw [q, hT]
  have f4 : ∀ j : Nat, j < n.toNatClampNeg → T1.heap[hp_nx h + 1 + j]? = some (arrV (hp_cA G 0) k.toNatClampNeg (fun _ => .int 0)) := fun j hj => by
    have q := f4 j hj
    rw [hzT, eC] at q
    exact q
  obtain ⟨x1, x2, x3, x4, x5, x6, x7⟩ := hR
  have hN1 : hp_nx (hp_mkM h n.toNatClampNeg k.toNatClampNeg) = hp_nx h + 1 + n.toNatClampNeg := rfl
  have hS1 : hp_sl (hp_mkM h n.toNatClampNeg k.toNatClampNeg) = hp_sl h + (n.toNatClampNeg + n.toNatClampNeg * k.toNatClampNeg) := rfl
  have hR1 : hp_R G (hp_mkM h n.toNatClampNeg k.toNatClampNeg) T1.heap := by
    refine ⟨by omega, by rw [f1, hN1], fun q hq => ?_, fun b h1 h2 => ?_, ?_, by omega, by omega⟩
    · rw [f3 q (by omega)]
      exact x3 q hq
    · by_cases c1 : b < hp_nx h
      · exact ((x4 b h1 c1).kept (f3 b c1)).to (if_pos c1) (if_pos c1) (fun _ => rfl) (by funext i; exact if_pos c1)
      · by_cases c2 : b = hp_nx h
        · refine Or.inr (Or.inl ⟨5, ?_, by decide, ?_⟩)
          · show (if b < h.1 then _ else if b = h.1 then 15 else _) = _
            rw [if_neg c1, if_pos c2]
          · have e1 : hp_ln (hp_mkM h n.toNatClampNeg k.toNatClampNeg) b = n.toNatClampNeg := by
              show (if b < h.1 then _ else if b = h.1 then _ else _) = _
              rw [if_neg c1, if_pos c2]
            have e2 : hp_ar (hp_mkM h n.toNatClampNeg k.toNatClampNeg) b = fun j => .ref (hp_nx h + 1 + j) := by
              funext i
              show (if b < h.1 then _ else if b = h.1 then _ else _) = _
              rw [if_neg c1, if_pos c2]
            rw [e1, e2, c2]
            exact f2
        · have c3 : b < hp_nx h + 1 + n.toNatClampNeg := by omega
          refine Or.inr (Or.inl ⟨0, ?_, by decide, ?_⟩)
          · show (if b < h.1 then _ else if b = h.1 then 15 else if b < h.1 + 1 + n.toNatClampNeg then 10 else _) = _
            rw [if_neg c1, if_neg c2, if_pos c3]
          · have e1 : hp_ln (hp_mkM h n.toNatClampNeg k.toNatClampNeg) b = k.toNatClampNeg := by
              show (if b < h.1 then _ else if b = h.1 then _ else if b < h.1 + 1 + n.toNatClampNeg then _ else _) = _
              rw [if_neg c1, if_neg c2, if_pos c3]
            have e2 : hp_ar (hp_mkM h n.toNatClampNeg k.toNatClampNeg) b = fun _ => .int 0 := by
              funext i
              show (if b < h.1 then _ else if b = h.1 then _ else if b < h.1 + 1 + n.toNatClampNeg then _ else _) = _
              rw [if_neg c1, if_neg c2, if_pos c3]
            rw [e1, e2]
            have := f4 (b - (hp_nx h + 1)) (by omega)
            rw [show hp_nx h + 1 + (b - (hp_nx h + 1)) = b by omega] at this
            exact this
    · rw [hN1, hS1, show hp_nx h + 1 + n.toNatClampNeg - hp_n0 G = (hp_nx h - hp_n0 G) + (1 + n.toNatClampNeg) by omega, hp_sm_app, show hp_n0 G + (hp_nx h - hp_n0 G) = hp_nx h by omega, hp_sm_app]
      have q1 : hp_sm (hp_sz T1.heap) (hp_n0 G) (hp_nx h - hp_n0 G) = hp_sl h := by
        rw [← x5]
        refine hp_sm_congr _ _ (fun i _ h2 => ?_)
        unfold hp_sz
        rw [f3 i (by omega)]
      have q2 : hp_sm (hp_sz T1.heap) (hp_nx h) 1 = n.toNatClampNeg := by
        show hp_sz T1.heap (hp_nx h) + 0 = _
        unfold hp_sz
        rw [f2]
        exact arrV_size _ _ _
      have q3 : hp_sm (hp_sz T1.heap) (hp_nx h + 1) n.toNatClampNeg = n.toNatClampNeg * k.toNatClampNeg := by
        refine hp_sm_const _ _ (fun i h1 h2 => ?_)
        have := f4 (i - (hp_nx h + 1)) (by omega)
        rw [show hp_nx h + 1 + (i - (hp_nx h + 1)) = i by omega] at this
        unfold hp_sz
        rw [this]
        exact arrV_size _ _ _
      rw [q1, q2, q3]
  obtain ⟨t, a1, b1⟩ := kk T1.heap locs _ _ ls hR1 hl hL T1 rfl X1
  refine ⟨t, step t ?_, b1⟩
  rw [← hzT] at a1
  exact a1
end HP4
