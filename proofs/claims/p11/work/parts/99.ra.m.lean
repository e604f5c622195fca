theorem hp_sm_const {f : Nat → Nat} {v : Nat} : ∀ (n a : Nat), (∀ i, a ≤ i → i < a + n → f i = v) → hp_sm f a n = n * v
  | 0, _, _ => by simp [hp_sm]
  | n + 1, a, h => by
    show f a + hp_sm f (a + 1) n = (n + 1) * v
    rw [h a (Nat.le_refl a) (by omega), hp_sm_const n (a + 1) (fun i h1 h2 => h i (by omega) (by omega)), Nat.succ_mul]
    omega
section HP4
variable {M : hpM} {G : hpG} {y : MethodName} {cc : ByteArray} {nL d : Nat} {h0 h : hpT} {Q : State → Prop} {pc : Nat} {lo : Nat → Option Value} {st : List Value}
theorem hp_multi (C : hp_F M G y cc nL d h0) {idx : Nat} {n k : Int32} (w1 : Cond.classLink y.cls idx "[[I" ∈ hp_ws) (dd : decode cc pc = .ok (.multianewarray idx 2, 4)) (hn : ¬ n < 0) (hk : ¬ k < 0) (hn4 : n.toNatClampNeg < 10) (hk4 : k.toNatClampNeg ≤ 1000) (hcl : hp_nx h + 20 ≤ hp_n0 G + hp_LC) (hsl : hp_sl h + 12000 ≤ hp_LS)
    (kk : hp_V M G nL Q (hp_mkM h n.toNatClampNeg k.toNatClampNeg) (pc + 4) lo (.ref (hp_nx h) :: st)) : hp_V M G nL Q h pc lo (.int k :: .int n :: st) := by
  intro H locs cells slots ls hR hl hL
  refine hp_tight C hR (fun hle hls => ?_)
  have rc := C.rc
  have rs := C.rs
  have hsz := hR.2.1
  have es : "[" ++ (FieldType.array .int).toString = "[[I" := by decide +kernel
  have es2 : (FieldType.array .int).toString = "[" ++ FieldType.int.toString := by decide +kernel
  have hover : (Cond.arrayOver (.array .int)).before (hp_av M) (hp_st M) = true := C.en.2.1 (Cond.arrayOver (.array .int)) (by decide)
  have hNK : n.toNatClampNeg * k.toNatClampNeg ≤ 10 * 1000 := Nat.mul_le_mul (by omega) hk4
  intro T hT X
  obtain ⟨vm₁, cA, comp, hfA, hfC, X1, step⟩ := sf_multi X C.ex (own := y.cls) C.own (by rw [es]; exact C.ws _ w1) hover (C.ws _ ac_int) (g := F0 (hp_mi4 M) pc ls (.int k :: .int n :: st)) rfl (by rw [C.bc]; exact dd) rfl hn hk (by omega) hk4 (by omega) (by omega)
  have hzT : T.heap.size = hp_nx h := by rw [hT]; exact hsz
  have eA : cA = hp_cA G 5 := Option.some.inj (hfA.symm.trans (C.en.arr (t := 5) rfl).2)
  have eC : comp = hp_cA G 0 := by
    have q1 := (C.en.arr (t := 0) rfl).2
    have q2 : (hp_st M).vm.findClass ("[" ++ FieldType.int.toString) = some (hp_cA G 0) := q1
    rw [← es2] at q2
    exact Option.some.inj (hfC.symm.trans q2)
  obtain ⟨f1, f2, f3, f4⟩ := sf_Tfacts (T.setVm vm₁) cA comp n.toNatClampNeg k.toNatClampNeg n.toNatClampNeg
  have e9 : (T.setVm vm₁).heap.size = T.heap.size := rfl
  rw [e9] at f1 f2 f3 f4
  generalize sf_T (T.setVm vm₁) cA comp n.toNatClampNeg k.toNatClampNeg T.heap.size n.toNatClampNeg = T1 at X1 step f1 f2 f3 f4
  have f1 : T1.heap.size = hp_nx h + 1 + n.toNatClampNeg := by rw [f1, hzT]
  have f2 : T1.heap[hp_nx h]? = some (arrV (hp_cA G 5) n.toNatClampNeg (fun j => .ref (hp_nx h + 1 + j))) := by
    rw [hzT, eA] at f2
    rw [f2]
    show some ({ cls := hp_cA G 5, slots := Array.ofFn (n := n.toNatClampNeg) fun j => (if j.val < n.toNatClampNeg then Value.ref (hp_nx h + 1 + j.val) else .null), vm := .none } : Cell) = some { cls := hp_cA G 5, slots := Array.ofFn (n := n.toNatClampNeg) fun j => Value.ref (hp_nx h + 1 + j.val), vm := .none }
    congr 3
    funext j
    rw [if_pos j.isLt]
  have f3 : ∀ a : Nat, a < hp_nx h → T1.heap[a]? = H[a]? := fun a ha => by
    have q : T1.heap[a]? = T.heap[a]? := f3 a (by rw [hzT]; exact ha)
    rw [q, hT]
  have f4 : ∀ j : Nat, j < n.toNatClampNeg → T1.heap[hp_nx h + 1 + j]? = some (arrV (hp_cA G 0) k.toNatClampNeg (fun _ => .int 0)) := fun j hj => by
    have q := f4 j hj
    rw [hzT, eC] at q
    exact q
  obtain ⟨x1, x2, x3, x4, x5, x6, x7⟩ := hR
  have hN1 : hp_nx (hp_mkM h n.toNatClampNeg k.toNatClampNeg) = hp_nx h + 1 + n.toNatClampNeg := rfl
  have hS1 : hp_sl (hp_mkM h n.toNatClampNeg k.toNatClampNeg) = hp_sl h + (n.toNatClampNeg + n.toNatClampNeg * k.toNatClampNeg) := rfl
  have hR1 : hp_R G (hp_mkM h n.toNatClampNeg k.toNatClampNeg) T1.heap := by
    refine ⟨by omega, by rw [f1, hN1], fun q hq => ?_, fun b h1 h2 => ?_, ?_, by omega, by omega⟩
    · rw [f3 q (by omega)]
      exact x3 q hq
    · by_cases c1 : b < hp_nx h
      · exact ((x4 b h1 c1).kept (f3 b c1)).to (if_pos c1) (if_pos c1) (fun _ => rfl) (by funext i; exact if_pos c1)
      · by_cases c2 : b = hp_nx h
        · refine Or.inr (Or.inl ⟨5, ?_, by decide, ?_⟩)
          · show (if b < h.1 then _ else if b = h.1 then 15 else _) = _
            rw [if_neg c1, if_pos c2]
          · have e1 : hp_ln (hp_mkM h n.toNatClampNeg k.toNatClampNeg) b = n.toNatClampNeg := by
              show (if b < h.1 then _ else if b = h.1 then _ else _) = _
              rw [if_neg c1, if_pos c2]
            have e2 : hp_ar (hp_mkM h n.toNatClampNeg k.toNatClampNeg) b = fun j => .ref (hp_nx h + 1 + j) := by
              funext i
              show (if b < h.1 then _ else if b = h.1 then _ else _) = _
              rw [if_neg c1, if_pos c2]
            rw [e1, e2, c2]
            exact f2
        · have c3 : b < hp_nx h + 1 + n.toNatClampNeg := by omega
          refine Or.inr (Or.inl ⟨0, ?_, by decide, ?_⟩)
          · show (if b < h.1 then _ else if b = h.1 then 15 else if b < h.1 + 1 + n.toNatClampNeg then 10 else _) = _
            rw [if_neg c1, if_neg c2, if_pos c3]
          · have e1 : hp_ln (hp_mkM h n.toNatClampNeg k.toNatClampNeg) b = k.toNatClampNeg := by
              show (if b < h.1 then _ else if b = h.1 then _ else if b < h.1 + 1 + n.toNatClampNeg then _ else _) = _
              rw [if_neg c1, if_neg c2, if_pos c3]
            have e2 : hp_ar (hp_mkM h n.toNatClampNeg k.toNatClampNeg) b = fun _ => .int 0 := by
              funext i
              show (if b < h.1 then _ else if b = h.1 then _ else if b < h.1 + 1 + n.toNatClampNeg then _ else _) = _
              rw [if_neg c1, if_neg c2, if_pos c3]
            rw [e1, e2]
            have := f4 (b - (hp_nx h + 1)) (by omega)
            rw [show hp_nx h + 1 + (b - (hp_nx h + 1)) = b by omega] at this
            exact this
    · rw [hN1, hS1, show hp_nx h + 1 + n.toNatClampNeg - hp_n0 G = (hp_nx h - hp_n0 G) + (1 + n.toNatClampNeg) by omega, hp_sm_app, show hp_n0 G + (hp_nx h - hp_n0 G) = hp_nx h by omega, hp_sm_app]
      have q1 : hp_sm (hp_sz T1.heap) (hp_n0 G) (hp_nx h - hp_n0 G) = hp_sl h := by
        rw [← x5]
        refine hp_sm_congr _ _ (fun i _ h2 => ?_)
        unfold hp_sz
        rw [f3 i (by omega)]
      have q2 : hp_sm (hp_sz T1.heap) (hp_nx h) 1 = n.toNatClampNeg := by
        show hp_sz T1.heap (hp_nx h) + 0 = _
        unfold hp_sz
        rw [f2]
        exact arrV_size _ _ _
      have q3 : hp_sm (hp_sz T1.heap) (hp_nx h + 1) n.toNatClampNeg = n.toNatClampNeg * k.toNatClampNeg := by
        refine hp_sm_const _ _ (fun i h1 h2 => ?_)
        have := f4 (i - (hp_nx h + 1)) (by omega)
        rw [show hp_nx h + 1 + (i - (hp_nx h + 1)) = i by omega] at this
        unfold hp_sz
        rw [this]
        exact arrV_size _ _ _
      rw [q1, q2, q3]
  obtain ⟨t, a1, b1⟩ := kk T1.heap locs _ _ ls hR1 hl hL T1 rfl X1
  refine ⟨t, step t ?_, b1⟩
  rw [← hzT] at a1
  exact a1
end HP4
/-! ===== a catch ===== -/
section Rows9
variable {p : Program} {l : Launch} {e : Env} {R : Room} {s : State} {m : MethodId} {args : Array Value} {below : List Frame} {meth : Method} {c : Code} {H : Heap} {locs : List Loc} {cells slots : Nat} {Q : State → Prop}
variable {mc ms : Nat} {free : Addr → Prop} {A0 A1 : Nat → Prop} {H0 : Heap} {a : Array Value} {pc : Nat} {ls : Array Slot} {st0 rest : List Value}
/-- caught by the row x of this method's table; the rows ahead don't take it -/
theorem vx_catch {own name : String} {E : String} {ce : Cell} {q : Addr} (hown : s.vm.findClass own = some m.cls) (pre : List ExceptionTableEntry) (x : ExceptionTableEntry) (suf : List ExceptionTableEntry) (hsplit : c.exceptionTable.toList = pre ++ x :: suf)
    (hpass : ∀ z ∈ pre, covers z pc = false ∨ (z.catchType ≠ 0 ∧ ∃ nm : String, (Cond.classLink own z.catchType nm).before args s = true ∧ va_Nc E nm s)) (hx : covers x pc = true) (h0 : x.catchType ≠ 0)
    (hlink : (Cond.classLink own x.catchType name).before args s = true) (hcast : (Cond.castable E name).before args s = true) (hcell : H[q]? = some ce) (hv : ce.vm = .none) (hcl : s.vm.findClass E = some ce.cls)
    (kk : W p l e R s m args below meth c H locs cells slots Q (F0 m x.handlerPc ls [.ref q])) : vx_W p l e R s m args below meth c H locs cells slots Q (F0 m pc ls rest) q := by
  intro T hT X
  have hpl : e.platform.magicAccessors = ({} : Platform).magicAccessors := by rw [X.admits.platform]
  obtain ⟨c3, c4, hc3, hc4, hasg⟩ := Cond.castable_spec hcast
  cases Option.some.inj (hc3.symm.trans hcl)
  obtain ⟨c5, hc5, hcl5⟩ := Cond.classLink_spec hown hlink e.platform hpl
  cases Option.some.inj (hc4.symm.trans hc5)
  obtain ⟨vm', X', st⟩ := sf_caught X (g := F0 m pc ls rest) rfl (q := q) (ce := ce) (by rw [hT]; exact hcell) hv (by obtain ⟨k9, h9, -⟩ := Vm.findClass_spec hcl; exact ⟨k9, h9⟩) pre x suf hsplit
    (fun z hz => by
      rcases hpass z hz with h | ⟨hz0, nm, hl1, hn1⟩
      · exact Or.inl h
      · obtain ⟨c6, hc6, hcl6⟩ := Cond.classLink_spec hown hl1 e.platform hpl
        obtain ⟨a8, b8, h1, h2, h3⟩ := hn1
        cases Option.some.inj (h1.symm.trans hcl)
        cases Option.some.inj (h2.symm.trans hc6)
        exact Or.inr ⟨hz0, _, hcl6, h3⟩) hx h0 hcl5 hasg
  obtain ⟨t, a1, b1⟩ := kk (T.setVm vm') hT X'
  exact ⟨t, st.trans a1, b1⟩
end Rows9
section HP3
variable {M : hpM} {G : hpG} {y : MethodName} {cc : ByteArray} {nL d : Nat} {h0 h : hpT} {Q : State → Prop} {pc : Nat} {lo : Nat → Option Value} {st : List Value}
theorem hp_catch (C : hp_F M G y cc nL d h0) {E name : String} (pre : List ExceptionTableEntry) (x : ExceptionTableEntry) (suf : List ExceptionTableEntry) (hsplit : (hp_cd M).exceptionTable.toList = pre ++ x :: suf)
    (hpass : ∀ z ∈ pre, covers z pc = false ∨ (z.catchType ≠ 0 ∧ ∃ nm : String, Cond.classLink y.cls z.catchType nm ∈ hp_ws ∧ (E, nm) ∈ hp_nc)) (hx : covers x pc = true) (h00 : x.catchType ≠ 0)
    (w1 : Cond.classLink y.cls x.catchType name ∈ hp_ws) (w2 : Cond.castable E name ∈ hp_ow) (kk : ∀ q : Nat, hp_V M G nL Q h x.handlerPc lo [.ref q]) : hp_VX M G nL Q h pc lo st E := by
  intro H locs cells slots ls q ce hR hl hL hce hcv hcl
  exact vx_catch (own := y.cls) (name := name) C.own pre x suf hsplit (fun z hz => (hpass z hz).imp id (fun ⟨a1, nm, b1, b2⟩ => ⟨a1, nm, C.ws _ b1, C.en.2.2.2.2.2.2.2.2 _ b2⟩)) hx h00 (C.ws _ w1) (va_Nw.use rfl (C.en.2.1 _ w2)) hce hcv hcl (kk q H locs cells slots ls hR hl hL)
end HP3
def kt_s0 : ktS := ((fun f => if f = 163 then 1 else if f = 72 then 1 else if f = 73 then 5 else 0), fun _ _ => 0)
/-! ===== the class's constructor ===== -/
theorem hp_mkM_fl (h : hpT) (n k : Nat) (f b : Nat) : hp_fl (hp_mkM h n k) f b = hp_fl h f b := rfl
theorem hp_set_fl (h : hpT) (a i : Nat) (v : Value) (f b : Nat) : hp_fl (hp_set h a i v) f b = hp_fl h f b := rfl
theorem hp_mk_kd (h : hpT) (c n b : Nat) : hp_kd (hp_mk h c n) b = if b = hp_nx h then c else hp_kd h b := rfl
theorem hp_mkA_kd (h : hpT) (t n : Nat) (v : Value) (b : Nat) : hp_kd (hp_mkA h t n v) b = if b = hp_nx h then 10 + t else hp_kd h b := rfl
theorem hp_mkM_kd (h : hpT) (n k b : Nat) : hp_kd (hp_mkM h n k) b = if b < hp_nx h then hp_kd h b else if b = hp_nx h then 15 else if b < hp_nx h + 1 + n then 10 else hp_kd h b := rfl
theorem hp_set_kd (h : hpT) (i a b : Nat) (v : Value) : hp_kd (hp_set h a i v) b = hp_kd h b := rfl
theorem hp_mk_ln (h : hpT) (c n b : Nat) : hp_ln (hp_mk h c n) b = hp_ln h b := rfl
theorem hp_mkA_ln (h : hpT) (t n : Nat) (v : Value) (b : Nat) : hp_ln (hp_mkA h t n v) b = if b = hp_nx h then n else hp_ln h b := rfl
theorem hp_mkM_ln (h : hpT) (n k b : Nat) : hp_ln (hp_mkM h n k) b = if b < hp_nx h then hp_ln h b else if b = hp_nx h then n else if b < hp_nx h + 1 + n then k else hp_ln h b := rfl
theorem hp_set_ln (h : hpT) (i a b : Nat) (v : Value) : hp_ln (hp_set h a i v) b = hp_ln h b := rfl
theorem hp_mk_ar (h : hpT) (c n b i : Nat) : hp_ar (hp_mk h c n) b i = hp_ar h b i := rfl
theorem hp_put_ar (h : hpT) (f a b i : Nat) (v : Value) : hp_ar (hp_put h f a v) b i = hp_ar h b i := rfl
theorem hp_mkA_ar (h : hpT) (t n : Nat) (v : Value) (b i : Nat) : hp_ar (hp_mkA h t n v) b i = if b = hp_nx h then v else hp_ar h b i := by
  show va_up (hp_ar h) h.1 (fun _ => v) b i = _
  unfold va_up
  split <;> rfl
theorem hp_mkM_ar (h : hpT) (n k b i : Nat) : hp_ar (hp_mkM h n k) b i = if b < hp_nx h then hp_ar h b i else if b = hp_nx h then .ref (hp_nx h + 1 + i) else if b < hp_nx h + 1 + n then .int 0 else hp_ar h b i := rfl
theorem hp_mkA_nx (h : hpT) (t n : Nat) (v : Value) : hp_nx (hp_mkA h t n v) = hp_nx h + 1 := rfl
theorem hp_mkM_nx (h : hpT) (n k : Nat) : hp_nx (hp_mkM h n k) = hp_nx h + 1 + n := rfl
theorem hp_set_nx (h : hpT) (a i : Nat) (v : Value) : hp_nx (hp_set h a i v) = hp_nx h := rfl
def kc_K1 (h : hpT) (k : Nat) : hpT := hp_put (kc_Jou (hp_mk h 1 3) (k + 1)) (hp_fd 5 0) k (.ref (k + 1))
def kc_K2 (h : hpT) (k : Nat) : hpT := hp_mk (hp_put (hp_mkA (kc_K1 h k) 4 80 .null) (hp_fd 5 1) k (.ref (k + 7))) 2 10
def kc_K3 (G : hpG) (h : hpT) (k : Nat) : hpT := hp_put (hp_put (hp_put (hp_put (kc_Keep G (kc_K2 h k) (k + 8) 0 none 0 0 0 1 5) (hp_fd 5 2) k (.ref (k + 8))) (hp_fd 5 3) k (.int 1)) (hp_fd 5 4) k (.int 0)) (hp_fd 5 5) k (.int 0)
def kc_K4 (G : hpG) (h : hpT) (k : Nat) : hpT := hp_set (kc_K3 G h k) (k + 7) (0 : Int32).toNatClampNeg (.ref (k + 8))
theorem ki_f0 {G : hpG} {h : hpT} {k : Nat} (hx : hp_nx h = k + 1) : hp_fl (kc_K4 G h k) 0 (k + 9) = .int 0 := by
  simp only [if_true, if_false, reduceIte, Nat.reduceEqDiff, kc_K4, kc_K3, kc_K2, kc_K1, kc_Keep, kc_RT, kc_Arr, kc_AL, kc_Node, kc_Jou, hp_put_fl, hp_mk_fl, hp_mkA_fl, hp_mkM_fl, hp_set_fl, hp_mk_nx, hp_mkA_nx, hp_mkM_nx, hp_put_nx, hp_set_nx, hx, show hp_fd 0 0 = 0 from rfl, show hp_fd 0 1 = 1 from rfl, show hp_fd 1 0 = 32 from rfl, show hp_fd 1 1 = 33 from rfl, show hp_fd 1 2 = 34 from rfl, show hp_fd 2 0 = 64 from rfl, show hp_fd 2 1 = 65 from rfl, show hp_fd 2 2 = 66 from rfl, show hp_fd 2 3 = 67 from rfl, show hp_fd 2 4 = 68 from rfl, show hp_fd 2 5 = 69 from rfl, show hp_fd 2 6 = 70 from rfl, show hp_fd 2 7 = 71 from rfl, show hp_fd 2 8 = 72 from rfl, show hp_fd 2 9 = 73 from rfl, show hp_fd 3 0 = 96 from rfl, show hp_fd 3 1 = 97 from rfl, show hp_fd 5 0 = 160 from rfl, show hp_fd 5 1 = 161 from rfl, show hp_fd 5 2 = 162 from rfl, show hp_fd 5 3 = 163 from rfl, show hp_fd 5 4 = 164 from rfl, show hp_fd 5 5 = 165 from rfl]
  repeat (first | rw [if_pos (by omega)] | rw [if_neg (by omega)])
  try rfl
theorem ki_f1 {G : hpG} {h : hpT} {k : Nat} (hx : hp_nx h = k + 1) : hp_fl (kc_K4 G h k) 1 (k + 9) = .ref (hp_dE G) := by
  simp only [if_true, if_false, reduceIte, Nat.reduceEqDiff, kc_K4, kc_K3, kc_K2, kc_K1, kc_Keep, kc_RT, kc_Arr, kc_AL, kc_Node, kc_Jou, hp_put_fl, hp_mk_fl, hp_mkA_fl, hp_mkM_fl, hp_set_fl, hp_mk_nx, hp_mkA_nx, hp_mkM_nx, hp_put_nx, hp_set_nx, hx, show hp_fd 0 0 = 0 from rfl, show hp_fd 0 1 = 1 from rfl, show hp_fd 1 0 = 32 from rfl, show hp_fd 1 1 = 33 from rfl, show hp_fd 1 2 = 34 from rfl, show hp_fd 2 0 = 64 from rfl, show hp_fd 2 1 = 65 from rfl, show hp_fd 2 2 = 66 from rfl, show hp_fd 2 3 = 67 from rfl, show hp_fd 2 4 = 68 from rfl, show hp_fd 2 5 = 69 from rfl, show hp_fd 2 6 = 70 from rfl, show hp_fd 2 7 = 71 from rfl, show hp_fd 2 8 = 72 from rfl, show hp_fd 2 9 = 73 from rfl, show hp_fd 3 0 = 96 from rfl, show hp_fd 3 1 = 97 from rfl, show hp_fd 5 0 = 160 from rfl, show hp_fd 5 1 = 161 from rfl, show hp_fd 5 2 = 162 from rfl, show hp_fd 5 3 = 163 from rfl, show hp_fd 5 4 = 164 from rfl, show hp_fd 5 5 = 165 from rfl]
  repeat (first | rw [if_pos (by omega)] | rw [if_neg (by omega)])
  try rfl
theorem ki_f2 {G : hpG} {h : hpT} {k : Nat} (hx : hp_nx h = k + 1) : hp_fl (kc_K4 G h k) 2 (k + 9) = .int 0 := by
  simp only [if_true, if_false, reduceIte, Nat.reduceEqDiff, kc_K4, kc_K3, kc_K2, kc_K1, kc_Keep, kc_RT, kc_Arr, kc_AL, kc_Node, kc_Jou, hp_put_fl, hp_mk_fl, hp_mkA_fl, hp_mkM_fl, hp_set_fl, hp_mk_nx, hp_mkA_nx, hp_mkM_nx, hp_put_nx, hp_set_nx, hx, show hp_fd 0 0 = 0 from rfl, show hp_fd 0 1 = 1 from rfl, show hp_fd 1 0 = 32 from rfl, show hp_fd 1 1 = 33 from rfl, show hp_fd 1 2 = 34 from rfl, show hp_fd 2 0 = 64 from rfl, show hp_fd 2 1 = 65 from rfl, show hp_fd 2 2 = 66 from rfl, show hp_fd 2 3 = 67 from rfl, show hp_fd 2 4 = 68 from rfl, show hp_fd 2 5 = 69 from rfl, show hp_fd 2 6 = 70 from rfl, show hp_fd 2 7 = 71 from rfl, show hp_fd 2 8 = 72 from rfl, show hp_fd 2 9 = 73 from rfl, show hp_fd 3 0 = 96 from rfl, show hp_fd 3 1 = 97 from rfl, show hp_fd 5 0 = 160 from rfl, show hp_fd 5 1 = 161 from rfl, show hp_fd 5 2 = 162 from rfl, show hp_fd 5 3 = 163 from rfl, show hp_fd 5 4 = 164 from rfl, show hp_fd 5 5 = 165 from rfl]
  repeat (first | rw [if_pos (by omega)] | rw [if_neg (by omega)])
  try rfl
theorem ki_f32 {G : hpG} {h : hpT} {k : Nat} (hx : hp_nx h = k + 1) : hp_fl (kc_K4 G h k) 32 (k + 1) = .ref (k + 2) := by
  simp only [if_true, if_false, reduceIte, Nat.reduceEqDiff, kc_K4, kc_K3, kc_K2, kc_K1, kc_Keep, kc_RT, kc_Arr, kc_AL, kc_Node, kc_Jou, hp_put_fl, hp_mk_fl, hp_mkA_fl, hp_mkM_fl, hp_set_fl, hp_mk_nx, hp_mkA_nx, hp_mkM_nx, hp_put_nx, hp_set_nx, hx, show hp_fd 0 0 = 0 from rfl, show hp_fd 0 1 = 1 from rfl, show hp_fd 1 0 = 32 from rfl, show hp_fd 1 1 = 33 from rfl, show hp_fd 1 2 = 34 from rfl, show hp_fd 2 0 = 64 from rfl, show hp_fd 2 1 = 65 from rfl, show hp_fd 2 2 = 66 from rfl, show hp_fd 2 3 = 67 from rfl, show hp_fd 2 4 = 68 from rfl, show hp_fd 2 5 = 69 from rfl, show hp_fd 2 6 = 70 from rfl, show hp_fd 2 7 = 71 from rfl, show hp_fd 2 8 = 72 from rfl, show hp_fd 2 9 = 73 from rfl, show hp_fd 3 0 = 96 from rfl, show hp_fd 3 1 = 97 from rfl, show hp_fd 5 0 = 160 from rfl, show hp_fd 5 1 = 161 from rfl, show hp_fd 5 2 = 162 from rfl, show hp_fd 5 3 = 163 from rfl, show hp_fd 5 4 = 164 from rfl, show hp_fd 5 5 = 165 from rfl]
  repeat (first | rw [if_pos (by omega)] | rw [if_neg (by omega)])
  try rfl
theorem ki_f33 {G : hpG} {h : hpT} {k : Nat} (hx : hp_nx h = k + 1) : hp_fl (kc_K4 G h k) 33 (k + 1) = .int 0 := by
  simp only [if_true, if_false, reduceIte, Nat.reduceEqDiff, kc_K4, kc_K3, kc_K2, kc_K1, kc_Keep, kc_RT, kc_Arr, kc_AL, kc_Node, kc_Jou, hp_put_fl, hp_mk_fl, hp_mkA_fl, hp_mkM_fl, hp_set_fl, hp_mk_nx, hp_mkA_nx, hp_mkM_nx, hp_put_nx, hp_set_nx, hx, show hp_fd 0 0 = 0 from rfl, show hp_fd 0 1 = 1 from rfl, show hp_fd 1 0 = 32 from rfl, show hp_fd 1 1 = 33 from rfl, show hp_fd 1 2 = 34 from rfl, show hp_fd 2 0 = 64 from rfl, show hp_fd 2 1 = 65 from rfl, show hp_fd 2 2 = 66 from rfl, show hp_fd 2 3 = 67 from rfl, show hp_fd 2 4 = 68 from rfl, show hp_fd 2 5 = 69 from rfl, show hp_fd 2 6 = 70 from rfl, show hp_fd 2 7 = 71 from rfl, show hp_fd 2 8 = 72 from rfl, show hp_fd 2 9 = 73 from rfl, show hp_fd 3 0 = 96 from rfl, show hp_fd 3 1 = 97 from rfl, show hp_fd 5 0 = 160 from rfl, show hp_fd 5 1 = 161 from rfl, show hp_fd 5 2 = 162 from rfl, show hp_fd 5 3 = 163 from rfl, show hp_fd 5 4 = 164 from rfl, show hp_fd 5 5 = 165 from rfl]
  repeat (first | rw [if_pos (by omega)] | rw [if_neg (by omega)])
  try rfl
theorem ki_f34 {G : hpG} {h : hpT} {k : Nat} (hx : hp_nx h = k + 1) : hp_fl (kc_K4 G h k) 34 (k + 1) = .int 0 := by
  simp only [if_true, if_false, reduceIte, Nat.reduceEqDiff, kc_K4, kc_K3, kc_K2, kc_K1, kc_Keep, kc_RT, kc_Arr, kc_AL, kc_Node, kc_Jou, hp_put_fl, hp_mk_fl, hp_mkA_fl, hp_mkM_fl, hp_set_fl, hp_mk_nx, hp_mkA_nx, hp_mkM_nx, hp_put_nx, hp_set_nx, hx, show hp_fd 0 0 = 0 from rfl, show hp_fd 0 1 = 1 from rfl, show hp_fd 1 0 = 32 from rfl, show hp_fd 1 1 = 33 from rfl, show hp_fd 1 2 = 34 from rfl, show hp_fd 2 0 = 64 from rfl, show hp_fd 2 1 = 65 from rfl, show hp_fd 2 2 = 66 from rfl, show hp_fd 2 3 = 67 from rfl, show hp_fd 2 4 = 68 from rfl, show hp_fd 2 5 = 69 from rfl, show hp_fd 2 6 = 70 from rfl, show hp_fd 2 7 = 71 from rfl, show hp_fd 2 8 = 72 from rfl, show hp_fd 2 9 = 73 from rfl, show hp_fd 3 0 = 96 from rfl, show hp_fd 3 1 = 97 from rfl, show hp_fd 5 0 = 160 from rfl, show hp_fd 5 1 = 161 from rfl, show hp_fd 5 2 = 162 from rfl, show hp_fd 5 3 = 163 from rfl, show hp_fd 5 4 = 164 from rfl, show hp_fd 5 5 = 165 from rfl]
  repeat (first | rw [if_pos (by omega)] | rw [if_neg (by omega)])
  try rfl
theorem ki_f64 {G : hpG} {h : hpT} {k : Nat} (hx : hp_nx h = k + 1) : hp_fl (kc_K4 G h k) 64 (k + 8) = .int 0 := by
  simp only [if_true, if_false, reduceIte, Nat.reduceEqDiff, kc_K4, kc_K3, kc_K2, kc_K1, kc_Keep, kc_RT, kc_Arr, kc_AL, kc_Node, kc_Jou, hp_put_fl, hp_mk_fl, hp_mkA_fl, hp_mkM_fl, hp_set_fl, hp_mk_nx, hp_mkA_nx, hp_mkM_nx, hp_put_nx, hp_set_nx, hx, show hp_fd 0 0 = 0 from rfl, show hp_fd 0 1 = 1 from rfl, show hp_fd 1 0 = 32 from rfl, show hp_fd 1 1 = 33 from rfl, show hp_fd 1 2 = 34 from rfl, show hp_fd 2 0 = 64 from rfl, show hp_fd 2 1 = 65 from rfl, show hp_fd 2 2 = 66 from rfl, show hp_fd 2 3 = 67 from rfl, show hp_fd 2 4 = 68 from rfl, show hp_fd 2 5 = 69 from rfl, show hp_fd 2 6 = 70 from rfl, show hp_fd 2 7 = 71 from rfl, show hp_fd 2 8 = 72 from rfl, show hp_fd 2 9 = 73 from rfl, show hp_fd 3 0 = 96 from rfl, show hp_fd 3 1 = 97 from rfl, show hp_fd 5 0 = 160 from rfl, show hp_fd 5 1 = 161 from rfl, show hp_fd 5 2 = 162 from rfl, show hp_fd 5 3 = 163 from rfl, show hp_fd 5 4 = 164 from rfl, show hp_fd 5 5 = 165 from rfl]
  repeat (first | rw [if_pos (by omega)] | rw [if_neg (by omega)])
  try rfl
theorem ki_f65 {G : hpG} {h : hpT} {k : Nat} (hx : hp_nx h = k + 1) : hp_fl (kc_K4 G h k) 65 (k + 8) = .null := by
  simp only [if_true, if_false, reduceIte, Nat.reduceEqDiff, kc_K4, kc_K3, kc_K2, kc_K1, kc_Keep, kc_RT, kc_Arr, kc_AL, kc_Node, kc_Jou, hp_put_fl, hp_mk_fl, hp_mkA_fl, hp_mkM_fl, hp_set_fl, hp_mk_nx, hp_mkA_nx, hp_mkM_nx, hp_put_nx, hp_set_nx, hx, show hp_fd 0 0 = 0 from rfl, show hp_fd 0 1 = 1 from rfl, show hp_fd 1 0 = 32 from rfl, show hp_fd 1 1 = 33 from rfl, show hp_fd 1 2 = 34 from rfl, show hp_fd 2 0 = 64 from rfl, show hp_fd 2 1 = 65 from rfl, show hp_fd 2 2 = 66 from rfl, show hp_fd 2 3 = 67 from rfl, show hp_fd 2 4 = 68 from rfl, show hp_fd 2 5 = 69 from rfl, show hp_fd 2 6 = 70 from rfl, show hp_fd 2 7 = 71 from rfl, show hp_fd 2 8 = 72 from rfl, show hp_fd 2 9 = 73 from rfl, show hp_fd 3 0 = 96 from rfl, show hp_fd 3 1 = 97 from rfl, show hp_fd 5 0 = 160 from rfl, show hp_fd 5 1 = 161 from rfl, show hp_fd 5 2 = 162 from rfl, show hp_fd 5 3 = 163 from rfl, show hp_fd 5 4 = 164 from rfl, show hp_fd 5 5 = 165 from rfl]
  repeat (first | rw [if_pos (by omega)] | rw [if_neg (by omega)])
  try rfl
theorem ki_f66 {G : hpG} {h : hpT} {k : Nat} (hx : hp_nx h = k + 1) : hp_fl (kc_K4 G h k) 66 (k + 8) = .int 0 := by
  simp only [if_true, if_false, reduceIte, Nat.reduceEqDiff, kc_K4, kc_K3, kc_K2, kc_K1, kc_Keep, kc_RT, kc_Arr, kc_AL, kc_Node, kc_Jou, hp_put_fl, hp_mk_fl, hp_mkA_fl, hp_mkM_fl, hp_set_fl, hp_mk_nx, hp_mkA_nx, hp_mkM_nx, hp_put_nx, hp_set_nx, hx, show hp_fd 0 0 = 0 from rfl, show hp_fd 0 1 = 1 from rfl, show hp_fd 1 0 = 32 from rfl, show hp_fd 1 1 = 33 from rfl, show hp_fd 1 2 = 34 from rfl, show hp_fd 2 0 = 64 from rfl, show hp_fd 2 1 = 65 from rfl, show hp_fd 2 2 = 66 from rfl, show hp_fd 2 3 = 67 from rfl, show hp_fd 2 4 = 68 from rfl, show hp_fd 2 5 = 69 from rfl, show hp_fd 2 6 = 70 from rfl, show hp_fd 2 7 = 71 from rfl, show hp_fd 2 8 = 72 from rfl, show hp_fd 2 9 = 73 from rfl, show hp_fd 3 0 = 96 from rfl, show hp_fd 3 1 = 97 from rfl, show hp_fd 5 0 = 160 from rfl, show hp_fd 5 1 = 161 from rfl, show hp_fd 5 2 = 162 from rfl, show hp_fd 5 3 = 163 from rfl, show hp_fd 5 4 = 164 from rfl, show hp_fd 5 5 = 165 from rfl]
  repeat (first | rw [if_pos (by omega)] | rw [if_neg (by omega)])
  try rfl
theorem ki_f67 {G : hpG} {h : hpT} {k : Nat} (hx : hp_nx h = k + 1) : hp_fl (kc_K4 G h k) 67 (k + 8) = .int 0 := by
  simp only [if_true, if_false, reduceIte, Nat.reduceEqDiff, kc_K4, kc_K3, kc_K2, kc_K1, kc_Keep, kc_RT, kc_Arr, kc_AL, kc_Node, kc_Jou, hp_put_fl, hp_mk_fl, hp_mkA_fl, hp_mkM_fl, hp_set_fl, hp_mk_nx, hp_mkA_nx, hp_mkM_nx, hp_put_nx, hp_set_nx, hx, show hp_fd 0 0 = 0 from rfl, show hp_fd 0 1 = 1 from rfl, show hp_fd 1 0 = 32 from rfl, show hp_fd 1 1 = 33 from rfl, show hp_fd 1 2 = 34 from rfl, show hp_fd 2 0 = 64 from rfl, show hp_fd 2 1 = 65 from rfl, show hp_fd 2 2 = 66 from rfl, show hp_fd 2 3 = 67 from rfl, show hp_fd 2 4 = 68 from rfl, show hp_fd 2 5 = 69 from rfl, show hp_fd 2 6 = 70 from rfl, show hp_fd 2 7 = 71 from rfl, show hp_fd 2 8 = 72 from rfl, show hp_fd 2 9 = 73 from rfl, show hp_fd 3 0 = 96 from rfl, show hp_fd 3 1 = 97 from rfl, show hp_fd 5 0 = 160 from rfl, show hp_fd 5 1 = 161 from rfl, show hp_fd 5 2 = 162 from rfl, show hp_fd 5 3 = 163 from rfl, show hp_fd 5 4 = 164 from rfl, show hp_fd 5 5 = 165 from rfl]
  repeat (first | rw [if_pos (by omega)] | rw [if_neg (by omega)])
  try rfl
theorem ki_f68 {G : hpG} {h : hpT} {k : Nat} (hx : hp_nx h = k + 1) : hp_fl (kc_K4 G h k) 68 (k + 8) = .int 0 := by
  simp only [if_true, if_false, reduceIte, Nat.reduceEqDiff, kc_K4, kc_K3, kc_K2, kc_K1, kc_Keep, kc_RT, kc_Arr, kc_AL, kc_Node, kc_Jou, hp_put_fl, hp_mk_fl, hp_mkA_fl, hp_mkM_fl, hp_set_fl, hp_mk_nx, hp_mkA_nx, hp_mkM_nx, hp_put_nx, hp_set_nx, hx, show hp_fd 0 0 = 0 from rfl, show hp_fd 0 1 = 1 from rfl, show hp_fd 1 0 = 32 from rfl, show hp_fd 1 1 = 33 from rfl, show hp_fd 1 2 = 34 from rfl, show hp_fd 2 0 = 64 from rfl, show hp_fd 2 1 = 65 from rfl, show hp_fd 2 2 = 66 from rfl, show hp_fd 2 3 = 67 from rfl, show hp_fd 2 4 = 68 from rfl, show hp_fd 2 5 = 69 from rfl, show hp_fd 2 6 = 70 from rfl, show hp_fd 2 7 = 71 from rfl, show hp_fd 2 8 = 72 from rfl, show hp_fd 2 9 = 73 from rfl, show hp_fd 3 0 = 96 from rfl, show hp_fd 3 1 = 97 from rfl, show hp_fd 5 0 = 160 from rfl, show hp_fd 5 1 = 161 from rfl, show hp_fd 5 2 = 162 from rfl, show hp_fd 5 3 = 163 from rfl, show hp_fd 5 4 = 164 from rfl, show hp_fd 5 5 = 165 from rfl]
  repeat (first | rw [if_pos (by omega)] | rw [if_neg (by omega)])
  try rfl
theorem ki_f69 {G : hpG} {h : hpT} {k : Nat} (hx : hp_nx h = k + 1) : hp_fl (kc_K4 G h k) 69 (k + 8) = .ref (k + 9) := by
  simp only [if_true, if_false, reduceIte, Nat.reduceEqDiff, kc_K4, kc_K3, kc_K2, kc_K1, kc_Keep, kc_RT, kc_Arr, kc_AL, kc_Node, kc_Jou, hp_put_fl, hp_mk_fl, hp_mkA_fl, hp_mkM_fl, hp_set_fl, hp_mk_nx, hp_mkA_nx, hp_mkM_nx, hp_put_nx, hp_set_nx, hx, show hp_fd 0 0 = 0 from rfl, show hp_fd 0 1 = 1 from rfl, show hp_fd 1 0 = 32 from rfl, show hp_fd 1 1 = 33 from rfl, show hp_fd 1 2 = 34 from rfl, show hp_fd 2 0 = 64 from rfl, show hp_fd 2 1 = 65 from rfl, show hp_fd 2 2 = 66 from rfl, show hp_fd 2 3 = 67 from rfl, show hp_fd 2 4 = 68 from rfl, show hp_fd 2 5 = 69 from rfl, show hp_fd 2 6 = 70 from rfl, show hp_fd 2 7 = 71 from rfl, show hp_fd 2 8 = 72 from rfl, show hp_fd 2 9 = 73 from rfl, show hp_fd 3 0 = 96 from rfl, show hp_fd 3 1 = 97 from rfl, show hp_fd 5 0 = 160 from rfl, show hp_fd 5 1 = 161 from rfl, show hp_fd 5 2 = 162 from rfl, show hp_fd 5 3 = 163 from rfl, show hp_fd 5 4 = 164 from rfl, show hp_fd 5 5 = 165 from rfl]
  repeat (first | rw [if_pos (by omega)] | rw [if_neg (by omega)])
  try rfl
theorem ki_f70 {G : hpG} {h : hpT} {k : Nat} (hx : hp_nx h = k + 1) : hp_fl (kc_K4 G h k) 70 (k + 8) = .ref (k + 10) := by
  simp only [if_true, if_false, reduceIte, Nat.reduceEqDiff, kc_K4, kc_K3, kc_K2, kc_K1, kc_Keep, kc_RT, kc_Arr, kc_AL, kc_Node, kc_Jou, hp_put_fl, hp_mk_fl, hp_mkA_fl, hp_mkM_fl, hp_set_fl, hp_mk_nx, hp_mkA_nx, hp_mkM_nx, hp_put_nx, hp_set_nx, hx, show hp_fd 0 0 = 0 from rfl, show hp_fd 0 1 = 1 from rfl, show hp_fd 1 0 = 32 from rfl, show hp_fd 1 1 = 33 from rfl, show hp_fd 1 2 = 34 from rfl, show hp_fd 2 0 = 64 from rfl, show hp_fd 2 1 = 65 from rfl, show hp_fd 2 2 = 66 from rfl, show hp_fd 2 3 = 67 from rfl, show hp_fd 2 4 = 68 from rfl, show hp_fd 2 5 = 69 from rfl, show hp_fd 2 6 = 70 from rfl, show hp_fd 2 7 = 71 from rfl, show hp_fd 2 8 = 72 from rfl, show hp_fd 2 9 = 73 from rfl, show hp_fd 3 0 = 96 from rfl, show hp_fd 3 1 = 97 from rfl, show hp_fd 5 0 = 160 from rfl, show hp_fd 5 1 = 161 from rfl, show hp_fd 5 2 = 162 from rfl, show hp_fd 5 3 = 163 from rfl, show hp_fd 5 4 = 164 from rfl, show hp_fd 5 5 = 165 from rfl]
  repeat (first | rw [if_pos (by omega)] | rw [if_neg (by omega)])
  try rfl
theorem ki_f71 {G : hpG} {h : hpT} {k : Nat} (hx : hp_nx h = k + 1) : hp_fl (kc_K4 G h k) 71 (k + 8) = .int 0 := by
  simp only [if_true, if_false, reduceIte, Nat.reduceEqDiff, kc_K4, kc_K3, kc_K2, kc_K1, kc_Keep, kc_RT, kc_Arr, kc_AL, kc_Node, kc_Jou, hp_put_fl, hp_mk_fl, hp_mkA_fl, hp_mkM_fl, hp_set_fl, hp_mk_nx, hp_mkA_nx, hp_mkM_nx, hp_put_nx, hp_set_nx, hx, show hp_fd 0 0 = 0 from rfl, show hp_fd 0 1 = 1 from rfl, show hp_fd 1 0 = 32 from rfl, show hp_fd 1 1 = 33 from rfl, show hp_fd 1 2 = 34 from rfl, show hp_fd 2 0 = 64 from rfl, show hp_fd 2 1 = 65 from rfl, show hp_fd 2 2 = 66 from rfl, show hp_fd 2 3 = 67 from rfl, show hp_fd 2 4 = 68 from rfl, show hp_fd 2 5 = 69 from rfl, show hp_fd 2 6 = 70 from rfl, show hp_fd 2 7 = 71 from rfl, show hp_fd 2 8 = 72 from rfl, show hp_fd 2 9 = 73 from rfl, show hp_fd 3 0 = 96 from rfl, show hp_fd 3 1 = 97 from rfl, show hp_fd 5 0 = 160 from rfl, show hp_fd 5 1 = 161 from rfl, show hp_fd 5 2 = 162 from rfl, show hp_fd 5 3 = 163 from rfl, show hp_fd 5 4 = 164 from rfl, show hp_fd 5 5 = 165 from rfl]
  repeat (first | rw [if_pos (by omega)] | rw [if_neg (by omega)])
  try rfl
theorem ki_f72 {G : hpG} {h : hpT} {k : Nat} (hx : hp_nx h = k + 1) : hp_fl (kc_K4 G h k) 72 (k + 8) = .int 1 := by
  simp only [if_true, if_false, reduceIte, Nat.reduceEqDiff, kc_K4, kc_K3, kc_K2, kc_K1, kc_Keep, kc_RT, kc_Arr, kc_AL, kc_Node, kc_Jou, hp_put_fl, hp_mk_fl, hp_mkA_fl, hp_mkM_fl, hp_set_fl, hp_mk_nx, hp_mkA_nx, hp_mkM_nx, hp_put_nx, hp_set_nx, hx, show hp_fd 0 0 = 0 from rfl, show hp_fd 0 1 = 1 from rfl, show hp_fd 1 0 = 32 from rfl, show hp_fd 1 1 = 33 from rfl, show hp_fd 1 2 = 34 from rfl, show hp_fd 2 0 = 64 from rfl, show hp_fd 2 1 = 65 from rfl, show hp_fd 2 2 = 66 from rfl, show hp_fd 2 3 = 67 from rfl, show hp_fd 2 4 = 68 from rfl, show hp_fd 2 5 = 69 from rfl, show hp_fd 2 6 = 70 from rfl, show hp_fd 2 7 = 71 from rfl, show hp_fd 2 8 = 72 from rfl, show hp_fd 2 9 = 73 from rfl, show hp_fd 3 0 = 96 from rfl, show hp_fd 3 1 = 97 from rfl, show hp_fd 5 0 = 160 from rfl, show hp_fd 5 1 = 161 from rfl, show hp_fd 5 2 = 162 from rfl, show hp_fd 5 3 = 163 from rfl, show hp_fd 5 4 = 164 from rfl, show hp_fd 5 5 = 165 from rfl]
  repeat (first | rw [if_pos (by omega)] | rw [if_neg (by omega)])
  try rfl
theorem ki_f73 {G : hpG} {h : hpT} {k : Nat} (hx : hp_nx h = k + 1) : hp_fl (kc_K4 G h k) 73 (k + 8) = .int 5 := by
  simp only [if_true, if_false, reduceIte, Nat.reduceEqDiff, kc_K4, kc_K3, kc_K2, kc_K1, kc_Keep, kc_RT, kc_Arr, kc_AL, kc_Node, kc_Jou, hp_put_fl, hp_mk_fl, hp_mkA_fl, hp_mkM_fl, hp_set_fl, hp_mk_nx, hp_mkA_nx, hp_mkM_nx, hp_put_nx, hp_set_nx, hx, show hp_fd 0 0 = 0 from rfl, show hp_fd 0 1 = 1 from rfl, show hp_fd 1 0 = 32 from rfl, show hp_fd 1 1 = 33 from rfl, show hp_fd 1 2 = 34 from rfl, show hp_fd 2 0 = 64 from rfl, show hp_fd 2 1 = 65 from rfl, show hp_fd 2 2 = 66 from rfl, show hp_fd 2 3 = 67 from rfl, show hp_fd 2 4 = 68 from rfl, show hp_fd 2 5 = 69 from rfl, show hp_fd 2 6 = 70 from rfl, show hp_fd 2 7 = 71 from rfl, show hp_fd 2 8 = 72 from rfl, show hp_fd 2 9 = 73 from rfl, show hp_fd 3 0 = 96 from rfl, show hp_fd 3 1 = 97 from rfl, show hp_fd 5 0 = 160 from rfl, show hp_fd 5 1 = 161 from rfl, show hp_fd 5 2 = 162 from rfl, show hp_fd 5 3 = 163 from rfl, show hp_fd 5 4 = 164 from rfl, show hp_fd 5 5 = 165 from rfl]
  repeat (first | rw [if_pos (by omega)] | rw [if_neg (by omega)])
  try rfl
theorem ki_f96 {G : hpG} {h : hpT} {k : Nat} (hx : hp_nx h = k + 1) : hp_fl (kc_K4 G h k) 96 (k + 10) = .ref (k + 11) := by
  simp only [if_true, if_false, reduceIte, Nat.reduceEqDiff, kc_K4, kc_K3, kc_K2, kc_K1, kc_Keep, kc_RT, kc_Arr, kc_AL, kc_Node, kc_Jou, hp_put_fl, hp_mk_fl, hp_mkA_fl, hp_mkM_fl, hp_set_fl, hp_mk_nx, hp_mkA_nx, hp_mkM_nx, hp_put_nx, hp_set_nx, hx, show hp_fd 0 0 = 0 from rfl, show hp_fd 0 1 = 1 from rfl, show hp_fd 1 0 = 32 from rfl, show hp_fd 1 1 = 33 from rfl, show hp_fd 1 2 = 34 from rfl, show hp_fd 2 0 = 64 from rfl, show hp_fd 2 1 = 65 from rfl, show hp_fd 2 2 = 66 from rfl, show hp_fd 2 3 = 67 from rfl, show hp_fd 2 4 = 68 from rfl, show hp_fd 2 5 = 69 from rfl, show hp_fd 2 6 = 70 from rfl, show hp_fd 2 7 = 71 from rfl, show hp_fd 2 8 = 72 from rfl, show hp_fd 2 9 = 73 from rfl, show hp_fd 3 0 = 96 from rfl, show hp_fd 3 1 = 97 from rfl, show hp_fd 5 0 = 160 from rfl, show hp_fd 5 1 = 161 from rfl, show hp_fd 5 2 = 162 from rfl, show hp_fd 5 3 = 163 from rfl, show hp_fd 5 4 = 164 from rfl, show hp_fd 5 5 = 165 from rfl]
  repeat (first | rw [if_pos (by omega)] | rw [if_neg (by omega)])
  try rfl
theorem ki_f97 {G : hpG} {h : hpT} {k : Nat} (hx : hp_nx h = k + 1) : hp_fl (kc_K4 G h k) 97 (k + 10) = .int 0 := by
  simp only [if_true, if_false, reduceIte, Nat.reduceEqDiff, kc_K4, kc_K3, kc_K2, kc_K1, kc_Keep, kc_RT, kc_Arr, kc_AL, kc_Node, kc_Jou, hp_put_fl, hp_mk_fl, hp_mkA_fl, hp_mkM_fl, hp_set_fl, hp_mk_nx, hp_mkA_nx, hp_mkM_nx, hp_put_nx, hp_set_nx, hx, show hp_fd 0 0 = 0 from rfl, show hp_fd 0 1 = 1 from rfl, show hp_fd 1 0 = 32 from rfl, show hp_fd 1 1 = 33 from rfl, show hp_fd 1 2 = 34 from rfl, show hp_fd 2 0 = 64 from rfl, show hp_fd 2 1 = 65 from rfl, show hp_fd 2 2 = 66 from rfl, show hp_fd 2 3 = 67 from rfl, show hp_fd 2 4 = 68 from rfl, show hp_fd 2 5 = 69 from rfl, show hp_fd 2 6 = 70 from rfl, show hp_fd 2 7 = 71 from rfl, show hp_fd 2 8 = 72 from rfl, show hp_fd 2 9 = 73 from rfl, show hp_fd 3 0 = 96 from rfl, show hp_fd 3 1 = 97 from rfl, show hp_fd 5 0 = 160 from rfl, show hp_fd 5 1 = 161 from rfl, show hp_fd 5 2 = 162 from rfl, show hp_fd 5 3 = 163 from rfl, show hp_fd 5 4 = 164 from rfl, show hp_fd 5 5 = 165 from rfl]
  repeat (first | rw [if_pos (by omega)] | rw [if_neg (by omega)])
  try rfl
theorem ki_f160 {G : hpG} {h : hpT} {k : Nat} (hx : hp_nx h = k + 1) : hp_fl (kc_K4 G h k) 160 (k + 0) = .ref (k + 1) := by
  simp only [if_true, if_false, reduceIte, Nat.reduceEqDiff, kc_K4, kc_K3, kc_K2, kc_K1, kc_Keep, kc_RT, kc_Arr, kc_AL, kc_Node, kc_Jou, hp_put_fl, hp_mk_fl, hp_mkA_fl, hp_mkM_fl, hp_set_fl, hp_mk_nx, hp_mkA_nx, hp_mkM_nx, hp_put_nx, hp_set_nx, hx, show hp_fd 0 0 = 0 from rfl, show hp_fd 0 1 = 1 from rfl, show hp_fd 1 0 = 32 from rfl, show hp_fd 1 1 = 33 from rfl, show hp_fd 1 2 = 34 from rfl, show hp_fd 2 0 = 64 from rfl, show hp_fd 2 1 = 65 from rfl, show hp_fd 2 2 = 66 from rfl, show hp_fd 2 3 = 67 from rfl, show hp_fd 2 4 = 68 from rfl, show hp_fd 2 5 = 69 from rfl, show hp_fd 2 6 = 70 from rfl, show hp_fd 2 7 = 71 from rfl, show hp_fd 2 8 = 72 from rfl, show hp_fd 2 9 = 73 from rfl, show hp_fd 3 0 = 96 from rfl, show hp_fd 3 1 = 97 from rfl, show hp_fd 5 0 = 160 from rfl, show hp_fd 5 1 = 161 from rfl, show hp_fd 5 2 = 162 from rfl, show hp_fd 5 3 = 163 from rfl, show hp_fd 5 4 = 164 from rfl, show hp_fd 5 5 = 165 from rfl]
  repeat (first | rw [if_pos (by omega)] | rw [if_neg (by omega)])
  try rfl
theorem ki_f161 {G : hpG} {h : hpT} {k : Nat} (hx : hp_nx h = k + 1) : hp_fl (kc_K4 G h k) 161 (k + 0) = .ref (k + 7) := by
  simp only [if_true, if_false, reduceIte, Nat.reduceEqDiff, kc_K4, kc_K3, kc_K2, kc_K1, kc_Keep, kc_RT, kc_Arr, kc_AL, kc_Node, kc_Jou, hp_put_fl, hp_mk_fl, hp_mkA_fl, hp_mkM_fl, hp_set_fl, hp_mk_nx, hp_mkA_nx, hp_mkM_nx, hp_put_nx, hp_set_nx, hx, show hp_fd 0 0 = 0 from rfl, show hp_fd 0 1 = 1 from rfl, show hp_fd 1 0 = 32 from rfl, show hp_fd 1 1 = 33 from rfl, show hp_fd 1 2 = 34 from rfl, show hp_fd 2 0 = 64 from rfl, show hp_fd 2 1 = 65 from rfl, show hp_fd 2 2 = 66 from rfl, show hp_fd 2 3 = 67 from rfl, show hp_fd 2 4 = 68 from rfl, show hp_fd 2 5 = 69 from rfl, show hp_fd 2 6 = 70 from rfl, show hp_fd 2 7 = 71 from rfl, show hp_fd 2 8 = 72 from rfl, show hp_fd 2 9 = 73 from rfl, show hp_fd 3 0 = 96 from rfl, show hp_fd 3 1 = 97 from rfl, show hp_fd 5 0 = 160 from rfl, show hp_fd 5 1 = 161 from rfl, show hp_fd 5 2 = 162 from rfl, show hp_fd 5 3 = 163 from rfl, show hp_fd 5 4 = 164 from rfl, show hp_fd 5 5 = 165 from rfl]
  repeat (first | rw [if_pos (by omega)] | rw [if_neg (by omega)])
  try rfl
theorem ki_f162 {G : hpG} {h : hpT} {k : Nat} (hx : hp_nx h = k + 1) : hp_fl (kc_K4 G h k) 162 (k + 0) = .ref (k + 8) := by
  simp only [if_true, if_false, reduceIte, Nat.reduceEqDiff, kc_K4, kc_K3, kc_K2, kc_K1, kc_Keep, kc_RT, kc_Arr, kc_AL, kc_Node, kc_Jou, hp_put_fl, hp_mk_fl, hp_mkA_fl, hp_mkM_fl, hp_set_fl, hp_mk_nx, hp_mkA_nx, hp_mkM_nx, hp_put_nx, hp_set_nx, hx, show hp_fd 0 0 = 0 from rfl, show hp_fd 0 1 = 1 from rfl, show hp_fd 1 0 = 32 from rfl, show hp_fd 1 1 = 33 from rfl, show hp_fd 1 2 = 34 from rfl, show hp_fd 2 0 = 64 from rfl, show hp_fd 2 1 = 65 from rfl, show hp_fd 2 2 = 66 from rfl, show hp_fd 2 3 = 67 from rfl, show hp_fd 2 4 = 68 from rfl, show hp_fd 2 5 = 69 from rfl, show hp_fd 2 6 = 70 from rfl, show hp_fd 2 7 = 71 from rfl, show hp_fd 2 8 = 72 from rfl, show hp_fd 2 9 = 73 from rfl, show hp_fd 3 0 = 96 from rfl, show hp_fd 3 1 = 97 from rfl, show hp_fd 5 0 = 160 from rfl, show hp_fd 5 1 = 161 from rfl, show hp_fd 5 2 = 162 from rfl, show hp_fd 5 3 = 163 from rfl, show hp_fd 5 4 = 164 from rfl, show hp_fd 5 5 = 165 from rfl]
  repeat (first | rw [if_pos (by omega)] | rw [if_neg (by omega)])
  try rfl
theorem ki_f163 {G : hpG} {h : hpT} {k : Nat} (hx : hp_nx h = k + 1) : hp_fl (kc_K4 G h k) 163 (k + 0) = .int 1 := by
  simp only [if_true, if_false, reduceIte, Nat.reduceEqDiff, kc_K4, kc_K3, kc_K2, kc_K1, kc_Keep, kc_RT, kc_Arr, kc_AL, kc_Node, kc_Jou, hp_put_fl, hp_mk_fl, hp_mkA_fl, hp_mkM_fl, hp_set_fl, hp_mk_nx, hp_mkA_nx, hp_mkM_nx, hp_put_nx, hp_set_nx, hx, show hp_fd 0 0 = 0 from rfl, show hp_fd 0 1 = 1 from rfl, show hp_fd 1 0 = 32 from rfl, show hp_fd 1 1 = 33 from rfl, show hp_fd 1 2 = 34 from rfl, show hp_fd 2 0 = 64 from rfl, show hp_fd 2 1 = 65 from rfl, show hp_fd 2 2 = 66 from rfl, show hp_fd 2 3 = 67 from rfl, show hp_fd 2 4 = 68 from rfl, show hp_fd 2 5 = 69 from rfl, show hp_fd 2 6 = 70 from rfl, show hp_fd 2 7 = 71 from rfl, show hp_fd 2 8 = 72 from rfl, show hp_fd 2 9 = 73 from rfl, show hp_fd 3 0 = 96 from rfl, show hp_fd 3 1 = 97 from rfl, show hp_fd 5 0 = 160 from rfl, show hp_fd 5 1 = 161 from rfl, show hp_fd 5 2 = 162 from rfl, show hp_fd 5 3 = 163 from rfl, show hp_fd 5 4 = 164 from rfl, show hp_fd 5 5 = 165 from rfl]
  repeat (first | rw [if_pos (by omega)] | rw [if_neg (by omega)])
  try rfl
theorem ki_f164 {G : hpG} {h : hpT} {k : Nat} (hx : hp_nx h = k + 1) : hp_fl (kc_K4 G h k) 164 (k + 0) = .int 0 := by
  simp only [if_true, if_false, reduceIte, Nat.reduceEqDiff, kc_K4, kc_K3, kc_K2, kc_K1, kc_Keep, kc_RT, kc_Arr, kc_AL, kc_Node, kc_Jou, hp_put_fl, hp_mk_fl, hp_mkA_fl, hp_mkM_fl, hp_set_fl, hp_mk_nx, hp_mkA_nx, hp_mkM_nx, hp_put_nx, hp_set_nx, hx, show hp_fd 0 0 = 0 from rfl, show hp_fd 0 1 = 1 from rfl, show hp_fd 1 0 = 32 from rfl, show hp_fd 1 1 = 33 from rfl, show hp_fd 1 2 = 34 from rfl, show hp_fd 2 0 = 64 from rfl, show hp_fd 2 1 = 65 from rfl, show hp_fd 2 2 = 66 from rfl, show hp_fd 2 3 = 67 from rfl, show hp_fd 2 4 = 68 from rfl, show hp_fd 2 5 = 69 from rfl, show hp_fd 2 6 = 70 from rfl, show hp_fd 2 7 = 71 from rfl, show hp_fd 2 8 = 72 from rfl, show hp_fd 2 9 = 73 from rfl, show hp_fd 3 0 = 96 from rfl, show hp_fd 3 1 = 97 from rfl, show hp_fd 5 0 = 160 from rfl, show hp_fd 5 1 = 161 from rfl, show hp_fd 5 2 = 162 from rfl, show hp_fd 5 3 = 163 from rfl, show hp_fd 5 4 = 164 from rfl, show hp_fd 5 5 = 165 from rfl]
  repeat (first | rw [if_pos (by omega)] | rw [if_neg (by omega)])
  try rfl
theorem ki_f165 {G : hpG} {h : hpT} {k : Nat} (hx : hp_nx h = k + 1) : hp_fl (kc_K4 G h k) 165 (k + 0) = .int 0 := by
  simp only [if_true, if_false, reduceIte, Nat.reduceEqDiff, kc_K4, kc_K3, kc_K2, kc_K1, kc_Keep, kc_RT, kc_Arr, kc_AL, kc_Node, kc_Jou, hp_put_fl, hp_mk_fl, hp_mkA_fl, hp_mkM_fl, hp_set_fl, hp_mk_nx, hp_mkA_nx, hp_mkM_nx, hp_put_nx, hp_set_nx, hx, show hp_fd 0 0 = 0 from rfl, show hp_fd 0 1 = 1 from rfl, show hp_fd 1 0 = 32 from rfl, show hp_fd 1 1 = 33 from rfl, show hp_fd 1 2 = 34 from rfl, show hp_fd 2 0 = 64 from rfl, show hp_fd 2 1 = 65 from rfl, show hp_fd 2 2 = 66 from rfl, show hp_fd 2 3 = 67 from rfl, show hp_fd 2 4 = 68 from rfl, show hp_fd 2 5 = 69 from rfl, show hp_fd 2 6 = 70 from rfl, show hp_fd 2 7 = 71 from rfl, show hp_fd 2 8 = 72 from rfl, show hp_fd 2 9 = 73 from rfl, show hp_fd 3 0 = 96 from rfl, show hp_fd 3 1 = 97 from rfl, show hp_fd 5 0 = 160 from rfl, show hp_fd 5 1 = 161 from rfl, show hp_fd 5 2 = 162 from rfl, show hp_fd 5 3 = 163 from rfl, show hp_fd 5 4 = 164 from rfl, show hp_fd 5 5 = 165 from rfl]
  repeat (first | rw [if_pos (by omega)] | rw [if_neg (by omega)])
  try rfl
theorem ki_k0 {G : hpG} {h : hpT} {k : Nat} (hx : hp_nx h = k + 1) (hk : hp_kd h k = 5) : hp_kd (kc_K4 G h k) (k + 0) = 5 := by
  simp only [if_true, if_false, reduceIte, Nat.reduceEqDiff, kc_K4, kc_K3, kc_K2, kc_K1, kc_Keep, kc_RT, kc_Arr, kc_AL, kc_Node, kc_Jou, hp_mk_kd, hp_mkA_kd, hp_mkM_kd, hp_put_kd, hp_set_kd, hp_mk_nx, hp_mkA_nx, hp_mkM_nx, hp_put_nx, hp_set_nx, hx, hk]
  repeat (first | rw [if_pos (by omega)] | rw [if_neg (by omega)])
  try first | rfl | exact hk
theorem ki_k1 {G : hpG} {h : hpT} {k : Nat} (hx : hp_nx h = k + 1) (hk : hp_kd h k = 5) : hp_kd (kc_K4 G h k) (k + 1) = 1 := by
  simp only [if_true, if_false, reduceIte, Nat.reduceEqDiff, kc_K4, kc_K3, kc_K2, kc_K1, kc_Keep, kc_RT, kc_Arr, kc_AL, kc_Node, kc_Jou, hp_mk_kd, hp_mkA_kd, hp_mkM_kd, hp_put_kd, hp_set_kd, hp_mk_nx, hp_mkA_nx, hp_mkM_nx, hp_put_nx, hp_set_nx, hx, hk]
  repeat (first | rw [if_pos (by omega)] | rw [if_neg (by omega)])
  try first | rfl | exact hk
theorem ki_k2 {G : hpG} {h : hpT} {k : Nat} (hx : hp_nx h = k + 1) (hk : hp_kd h k = 5) : hp_kd (kc_K4 G h k) (k + 2) = 15 := by
  simp only [if_true, if_false, reduceIte, Nat.reduceEqDiff, kc_K4, kc_K3, kc_K2, kc_K1, kc_Keep, kc_RT, kc_Arr, kc_AL, kc_Node, kc_Jou, hp_mk_kd, hp_mkA_kd, hp_mkM_kd, hp_put_kd, hp_set_kd, hp_mk_nx, hp_mkA_nx, hp_mkM_nx, hp_put_nx, hp_set_nx, hx, hk]
  repeat (first | rw [if_pos (by omega)] | rw [if_neg (by omega)])
  try first | rfl | exact hk
theorem ki_k3 {G : hpG} {h : hpT} {k : Nat} (hx : hp_nx h = k + 1) (hk : hp_kd h k = 5) : hp_kd (kc_K4 G h k) (k + 3) = 10 := by
  simp only [if_true, if_false, reduceIte, Nat.reduceEqDiff, kc_K4, kc_K3, kc_K2, kc_K1, kc_Keep, kc_RT, kc_Arr, kc_AL, kc_Node, kc_Jou, hp_mk_kd, hp_mkA_kd, hp_mkM_kd, hp_put_kd, hp_set_kd, hp_mk_nx, hp_mkA_nx, hp_mkM_nx, hp_put_nx, hp_set_nx, hx, hk]
  repeat (first | rw [if_pos (by omega)] | rw [if_neg (by omega)])
  try first | rfl | exact hk
theorem ki_k4 {G : hpG} {h : hpT} {k : Nat} (hx : hp_nx h = k + 1) (hk : hp_kd h k = 5) : hp_kd (kc_K4 G h k) (k + 4) = 10 := by
  simp only [if_true, if_false, reduceIte, Nat.reduceEqDiff, kc_K4, kc_K3, kc_K2, kc_K1, kc_Keep, kc_RT, kc_Arr, kc_AL, kc_Node, kc_Jou, hp_mk_kd, hp_mkA_kd, hp_mkM_kd, hp_put_kd, hp_set_kd, hp_mk_nx, hp_mkA_nx, hp_mkM_nx, hp_put_nx, hp_set_nx, hx, hk]
  repeat (first | rw [if_pos (by omega)] | rw [if_neg (by omega)])
  try first | rfl | exact hk
theorem ki_k5 {G : hpG} {h : hpT} {k : Nat} (hx : hp_nx h = k + 1) (hk : hp_kd h k = 5) : hp_kd (kc_K4 G h k) (k + 5) = 10 := by
  simp only [if_true, if_false, reduceIte, Nat.reduceEqDiff, kc_K4, kc_K3, kc_K2, kc_K1, kc_Keep, kc_RT, kc_Arr, kc_AL, kc_Node, kc_Jou, hp_mk_kd, hp_mkA_kd, hp_mkM_kd, hp_put_kd, hp_set_kd, hp_mk_nx, hp_mkA_nx, hp_mkM_nx, hp_put_nx, hp_set_nx, hx, hk]
  repeat (first | rw [if_pos (by omega)] | rw [if_neg (by omega)])
  try first | rfl | exact hk
theorem ki_k6 {G : hpG} {h : hpT} {k : Nat} (hx : hp_nx h = k + 1) (hk : hp_kd h k = 5) : hp_kd (kc_K4 G h k) (k + 6) = 10 := by
  simp only [if_true, if_false, reduceIte, Nat.reduceEqDiff, kc_K4, kc_K3, kc_K2, kc_K1, kc_Keep, kc_RT, kc_Arr, kc_AL, kc_Node, kc_Jou, hp_mk_kd, hp_mkA_kd, hp_mkM_kd, hp_put_kd, hp_set_kd, hp_mk_nx, hp_mkA_nx, hp_mkM_nx, hp_put_nx, hp_set_nx, hx, hk]
  repeat (first | rw [if_pos (by omega)] | rw [if_neg (by omega)])
  try first | rfl | exact hk
theorem ki_k7 {G : hpG} {h : hpT} {k : Nat} (hx : hp_nx h = k + 1) (hk : hp_kd h k = 5) : hp_kd (kc_K4 G h k) (k + 7) = 14 := by
  simp only [if_true, if_false, reduceIte, Nat.reduceEqDiff, kc_K4, kc_K3, kc_K2, kc_K1, kc_Keep, kc_RT, kc_Arr, kc_AL, kc_Node, kc_Jou, hp_mk_kd, hp_mkA_kd, hp_mkM_kd, hp_put_kd, hp_set_kd, hp_mk_nx, hp_mkA_nx, hp_mkM_nx, hp_put_nx, hp_set_nx, hx, hk]
  repeat (first | rw [if_pos (by omega)] | rw [if_neg (by omega)])
  try first | rfl | exact hk
theorem ki_k8 {G : hpG} {h : hpT} {k : Nat} (hx : hp_nx h = k + 1) (hk : hp_kd h k = 5) : hp_kd (kc_K4 G h k) (k + 8) = 2 := by
  simp only [if_true, if_false, reduceIte, Nat.reduceEqDiff, kc_K4, kc_K3, kc_K2, kc_K1, kc_Keep, kc_RT, kc_Arr, kc_AL, kc_Node, kc_Jou, hp_mk_kd, hp_mkA_kd, hp_mkM_kd, hp_put_kd, hp_set_kd, hp_mk_nx, hp_mkA_nx, hp_mkM_nx, hp_put_nx, hp_set_nx, hx, hk]
  repeat (first | rw [if_pos (by omega)] | rw [if_neg (by omega)])
  try first | rfl | exact hk
theorem ki_k9 {G : hpG} {h : hpT} {k : Nat} (hx : hp_nx h = k + 1) (hk : hp_kd h k = 5) : hp_kd (kc_K4 G h k) (k + 9) = 0 := by
  simp only [if_true, if_false, reduceIte, Nat.reduceEqDiff, kc_K4, kc_K3, kc_K2, kc_K1, kc_Keep, kc_RT, kc_Arr, kc_AL, kc_Node, kc_Jou, hp_mk_kd, hp_mkA_kd, hp_mkM_kd, hp_put_kd, hp_set_kd, hp_mk_nx, hp_mkA_nx, hp_mkM_nx, hp_put_nx, hp_set_nx, hx, hk]
  repeat (first | rw [if_pos (by omega)] | rw [if_neg (by omega)])
  try first | rfl | exact hk
theorem ki_k10 {G : hpG} {h : hpT} {k : Nat} (hx : hp_nx h = k + 1) (hk : hp_kd h k = 5) : hp_kd (kc_K4 G h k) (k + 10) = 3 := by
  simp only [if_true, if_false, reduceIte, Nat.reduceEqDiff, kc_K4, kc_K3, kc_K2, kc_K1, kc_Keep, kc_RT, kc_Arr, kc_AL, kc_Node, kc_Jou, hp_mk_kd, hp_mkA_kd, hp_mkM_kd, hp_put_kd, hp_set_kd, hp_mk_nx, hp_mkA_nx, hp_mkM_nx, hp_put_nx, hp_set_nx, hx, hk]
  repeat (first | rw [if_pos (by omega)] | rw [if_neg (by omega)])
  try first | rfl | exact hk
theorem ki_k11 {G : hpG} {h : hpT} {k : Nat} (hx : hp_nx h = k + 1) (hk : hp_kd h k = 5) : hp_kd (kc_K4 G h k) (k + 11) = 10 := by
  simp only [if_true, if_false, reduceIte, Nat.reduceEqDiff, kc_K4, kc_K3, kc_K2, kc_K1, kc_Keep, kc_RT, kc_Arr, kc_AL, kc_Node, kc_Jou, hp_mk_kd, hp_mkA_kd, hp_mkM_kd, hp_put_kd, hp_set_kd, hp_mk_nx, hp_mkA_nx, hp_mkM_nx, hp_put_nx, hp_set_nx, hx, hk]
  repeat (first | rw [if_pos (by omega)] | rw [if_neg (by omega)])
  try first | rfl | exact hk
theorem ki_l2 {G : hpG} {h : hpT} {k : Nat} (hx : hp_nx h = k + 1) : hp_ln (kc_K4 G h k) (k + 2) = 4 := by
  simp only [if_true, if_false, reduceIte, Nat.reduceEqDiff, kc_K4, kc_K3, kc_K2, kc_K1, kc_Keep, kc_RT, kc_Arr, kc_AL, kc_Node, kc_Jou, hp_mk_ln, hp_mkA_ln, hp_mkM_ln, hp_put_ln, hp_set_ln, hp_mk_nx, hp_mkA_nx, hp_mkM_nx, hp_put_nx, hp_set_nx, hx]
  repeat (first | rw [if_pos (by omega)] | rw [if_neg (by omega)])
  try rfl
theorem ki_a2 {G : hpG} {h : hpT} {k : Nat} (hx : hp_nx h = k + 1) (i : Nat) : hp_ar (kc_K4 G h k) (k + 2) i = .ref (k + 3 + i) := by
  simp only [if_true, if_false, reduceIte, Nat.reduceEqDiff, kc_K4, kc_K3, kc_K2, kc_K1, kc_Keep, kc_RT, kc_Arr, kc_AL, kc_Node, kc_Jou, hp_set_ar, hp_mk_ar, hp_mkA_ar, hp_mkM_ar, hp_put_ar, hp_mk_nx, hp_mkA_nx, hp_mkM_nx, hp_put_nx, hp_set_nx, hx, show (0 : Int32).toNatClampNeg = 0 from rfl]
  repeat (first | rw [if_pos (by omega)] | rw [if_neg (by omega)])
  try rfl
theorem ki_l3 {G : hpG} {h : hpT} {k : Nat} (hx : hp_nx h = k + 1) : hp_ln (kc_K4 G h k) (k + 3) = 600 := by
  simp only [if_true, if_false, reduceIte, Nat.reduceEqDiff, kc_K4, kc_K3, kc_K2, kc_K1, kc_Keep, kc_RT, kc_Arr, kc_AL, kc_Node, kc_Jou, hp_mk_ln, hp_mkA_ln, hp_mkM_ln, hp_put_ln, hp_set_ln, hp_mk_nx, hp_mkA_nx, hp_mkM_nx, hp_put_nx, hp_set_nx, hx]
  repeat (first | rw [if_pos (by omega)] | rw [if_neg (by omega)])
  try rfl
theorem ki_a3 {G : hpG} {h : hpT} {k : Nat} (hx : hp_nx h = k + 1) (i : Nat) : hp_ar (kc_K4 G h k) (k + 3) i = .int 0 := by
  simp only [if_true, if_false, reduceIte, Nat.reduceEqDiff, kc_K4, kc_K3, kc_K2, kc_K1, kc_Keep, kc_RT, kc_Arr, kc_AL, kc_Node, kc_Jou, hp_set_ar, hp_mk_ar, hp_mkA_ar, hp_mkM_ar, hp_put_ar, hp_mk_nx, hp_mkA_nx, hp_mkM_nx, hp_put_nx, hp_set_nx, hx, show (0 : Int32).toNatClampNeg = 0 from rfl]
  repeat (first | rw [if_pos (by omega)] | rw [if_neg (by omega)])
  try rfl
theorem ki_l4 {G : hpG} {h : hpT} {k : Nat} (hx : hp_nx h = k + 1) : hp_ln (kc_K4 G h k) (k + 4) = 600 := by
  simp only [if_true, if_false, reduceIte, Nat.reduceEqDiff, kc_K4, kc_K3, kc_K2, kc_K1, kc_Keep, kc_RT, kc_Arr, kc_AL, kc_Node, kc_Jou, hp_mk_ln, hp_mkA_ln, hp_mkM_ln, hp_put_ln, hp_set_ln, hp_mk_nx, hp_mkA_nx, hp_mkM_nx, hp_put_nx, hp_set_nx, hx]
  repeat (first | rw [if_pos (by omega)] | rw [if_neg (by omega)])
  try rfl
theorem ki_a4 {G : hpG} {h : hpT} {k : Nat} (hx : hp_nx h = k + 1) (i : Nat) : hp_ar (kc_K4 G h k) (k + 4) i = .int 0 := by
  simp only [if_true, if_false, reduceIte, Nat.reduceEqDiff, kc_K4, kc_K3, kc_K2, kc_K1, kc_Keep, kc_RT, kc_Arr, kc_AL, kc_Node, kc_Jou, hp_set_ar, hp_mk_ar, hp_mkA_ar, hp_mkM_ar, hp_put_ar, hp_mk_nx, hp_mkA_nx, hp_mkM_nx, hp_put_nx, hp_set_nx, hx, show (0 : Int32).toNatClampNeg = 0 from rfl]
  repeat (first | rw [if_pos (by omega)] | rw [if_neg (by omega)])
  try rfl
theorem ki_l5 {G : hpG} {h : hpT} {k : Nat} (hx : hp_nx h = k + 1) : hp_ln (kc_K4 G h k) (k + 5) = 600 := by
  simp only [if_true, if_false, reduceIte, Nat.reduceEqDiff, kc_K4, kc_K3, kc_K2, kc_K1, kc_Keep, kc_RT, kc_Arr, kc_AL, kc_Node, kc_Jou, hp_mk_ln, hp_mkA_ln, hp_mkM_ln, hp_put_ln, hp_set_ln, hp_mk_nx, hp_mkA_nx, hp_mkM_nx, hp_put_nx, hp_set_nx, hx]
  repeat (first | rw [if_pos (by omega)] | rw [if_neg (by omega)])
  try rfl
theorem ki_a5 {G : hpG} {h : hpT} {k : Nat} (hx : hp_nx h = k + 1) (i : Nat) : hp_ar (kc_K4 G h k) (k + 5) i = .int 0 := by
  simp only [if_true, if_false, reduceIte, Nat.reduceEqDiff, kc_K4, kc_K3, kc_K2, kc_K1, kc_Keep, kc_RT, kc_Arr, kc_AL, kc_Node, kc_Jou, hp_set_ar, hp_mk_ar, hp_mkA_ar, hp_mkM_ar, hp_put_ar, hp_mk_nx, hp_mkA_nx, hp_mkM_nx, hp_put_nx, hp_set_nx, hx, show (0 : Int32).toNatClampNeg = 0 from rfl]
  repeat (first | rw [if_pos (by omega)] | rw [if_neg (by omega)])
  try rfl
theorem ki_l6 {G : hpG} {h : hpT} {k : Nat} (hx : hp_nx h = k + 1) : hp_ln (kc_K4 G h k) (k + 6) = 600 := by
  simp only [if_true, if_false, reduceIte, Nat.reduceEqDiff, kc_K4, kc_K3, kc_K2, kc_K1, kc_Keep, kc_RT, kc_Arr, kc_AL, kc_Node, kc_Jou, hp_mk_ln, hp_mkA_ln, hp_mkM_ln, hp_put_ln, hp_set_ln, hp_mk_nx, hp_mkA_nx, hp_mkM_nx, hp_put_nx, hp_set_nx, hx]
  repeat (first | rw [if_pos (by omega)] | rw [if_neg (by omega)])
  try rfl
theorem ki_a6 {G : hpG} {h : hpT} {k : Nat} (hx : hp_nx h = k + 1) (i : Nat) : hp_ar (kc_K4 G h k) (k + 6) i = .int 0 := by
  simp only [if_true, if_false, reduceIte, Nat.reduceEqDiff, kc_K4, kc_K3, kc_K2, kc_K1, kc_Keep, kc_RT, kc_Arr, kc_AL, kc_Node, kc_Jou, hp_set_ar, hp_mk_ar, hp_mkA_ar, hp_mkM_ar, hp_put_ar, hp_mk_nx, hp_mkA_nx, hp_mkM_nx, hp_put_nx, hp_set_nx, hx, show (0 : Int32).toNatClampNeg = 0 from rfl]
  repeat (first | rw [if_pos (by omega)] | rw [if_neg (by omega)])
  try rfl
theorem ki_l7 {G : hpG} {h : hpT} {k : Nat} (hx : hp_nx h = k + 1) : hp_ln (kc_K4 G h k) (k + 7) = 80 := by
  simp only [if_true, if_false, reduceIte, Nat.reduceEqDiff, kc_K4, kc_K3, kc_K2, kc_K1, kc_Keep, kc_RT, kc_Arr, kc_AL, kc_Node, kc_Jou, hp_mk_ln, hp_mkA_ln, hp_mkM_ln, hp_put_ln, hp_set_ln, hp_mk_nx, hp_mkA_nx, hp_mkM_nx, hp_put_nx, hp_set_nx, hx]
  repeat (first | rw [if_pos (by omega)] | rw [if_neg (by omega)])
  try rfl
theorem ki_a7 {G : hpG} {h : hpT} {k : Nat} (hx : hp_nx h = k + 1) (i : Nat) : hp_ar (kc_K4 G h k) (k + 7) i = (if i = 0 then .ref (k + 8) else .null) := by
  simp only [if_true, if_false, reduceIte, Nat.reduceEqDiff, kc_K4, kc_K3, kc_K2, kc_K1, kc_Keep, kc_RT, kc_Arr, kc_AL, kc_Node, kc_Jou, hp_set_ar, hp_mk_ar, hp_mkA_ar, hp_mkM_ar, hp_put_ar, hp_mk_nx, hp_mkA_nx, hp_mkM_nx, hp_put_nx, hp_set_nx, hx, show (0 : Int32).toNatClampNeg = 0 from rfl]
  repeat (first | rw [if_pos (by omega)] | rw [if_neg (by omega)])
  try rfl
  by_cases e : i = 0
  · rw [if_pos e, if_pos e]
  · rw [if_neg e, if_neg e, if_neg (by omega)]
theorem ki_l11 {G : hpG} {h : hpT} {k : Nat} (hx : hp_nx h = k + 1) : hp_ln (kc_K4 G h k) (k + 11) = 8 := by
  simp only [if_true, if_false, reduceIte, Nat.reduceEqDiff, kc_K4, kc_K3, kc_K2, kc_K1, kc_Keep, kc_RT, kc_Arr, kc_AL, kc_Node, kc_Jou, hp_mk_ln, hp_mkA_ln, hp_mkM_ln, hp_put_ln, hp_set_ln, hp_mk_nx, hp_mkA_nx, hp_mkM_nx, hp_put_nx, hp_set_nx, hx]
  repeat (first | rw [if_pos (by omega)] | rw [if_neg (by omega)])
  try rfl
theorem ki_a11 {G : hpG} {h : hpT} {k : Nat} (hx : hp_nx h = k + 1) (i : Nat) : hp_ar (kc_K4 G h k) (k + 11) i = .int 0 := by
  simp only [if_true, if_false, reduceIte, Nat.reduceEqDiff, kc_K4, kc_K3, kc_K2, kc_K1, kc_Keep, kc_RT, kc_Arr, kc_AL, kc_Node, kc_Jou, hp_set_ar, hp_mk_ar, hp_mkA_ar, hp_mkM_ar, hp_put_ar, hp_mk_nx, hp_mkA_nx, hp_mkM_nx, hp_put_nx, hp_set_nx, hx, show (0 : Int32).toNatClampNeg = 0 from rfl]
  repeat (first | rw [if_pos (by omega)] | rw [if_neg (by omega)])
  try rfl
theorem hp_multiN {M : hpM} {G : hpG} {y : MethodName} {cc : ByteArray} {nL d : Nat} {h0 h : hpT} {Q : State → Prop} {pc : Nat} {lo : Nat → Option Value} {st : List Value} (C : hp_F M G y cc nL d h0) {idx N K : Nat} {n k : Int32} (w1 : Cond.classLink y.cls idx "[[I" ∈ hp_ws) (dd : decode cc pc = .ok (.multianewarray idx 2, 4)) (hn : ¬ n < 0) (hk : ¬ k < 0) (eN : n.toNatClampNeg = N) (eK : k.toNatClampNeg = K) (hn4 : N < 10) (hk4 : K ≤ 1000) (hcl : hp_nx h + 20 ≤ hp_n0 G + hp_LC) (hsl : hp_sl h + 12000 ≤ hp_LS)
    (kk : hp_V M G nL Q (hp_mkM h N K) (pc + 4) lo (.ref (hp_nx h) :: st)) : hp_V M G nL Q h pc lo (.int k :: .int n :: st) := by
  subst eN
  subst eK
  exact hp_multi C w1 dd hn hk hn4 hk4 hcl hsl kk
set_option maxRecDepth 20000 in
set_option maxHeartbeats 4000000 in
theorem kc_joI0 {l : Launch} {G : hpG} {h : hpT} {a d : Nat} (hd : 1 ≤ d) (hi : hp_is G h a 1) (rm : hp_nx h + 100 ≤ hp_n0 G + hp_LC ∧ hp_sl h + 20000 ≤ hp_LS) : hp_C l G yX0_init (.code yX0_init cX0_init 1 none) d [.ref a] (h) (fun v h' => v = none ∧ h' = kc_Jou h a) (fun _ _ => False) := by
  refine hp_ofV (by decide) (by simp [Value.category]) (Nat.le_of_ble_eq_true rfl) (fun M C hr hx el => ?_)
  refine hp_aload_nR C dX0_init_0 rfl ?_
  refine hp_obj C ob_X0_3 ob_i ob_c (by omega) dX0_init_1 (by simp [Value.category]) ?_
  refine hp_aload_nR C dX0_init_4 rfl ?_
  refine hp_iconst (v := 4) C dX0_init_5 (by decide) ?_
  refine hp_sipush (v := 600) C dX0_init_6 (by decide) ?_
  refine hp_multiN C (N := 4) (K := 600) cl_X0_11 dX0_init_9 (by decide) (by decide) rfl rfl (by decide) (by decide) (by have := rm.1; omega) (by have := rm.2; omega) ?_
  refine hp_putF C fl_X0_13_1 rfl rfl rfl rfl dX0_init_13 (hi.mkM 4 600) ?_
  refine hp_aload_nR C dX0_init_16 rfl ?_
  refine hp_iconst (v := 0) C dX0_init_17 (by decide) ?_
  refine hp_putf C fl_X0_16_1 rfl rfl rfl dX0_init_18 (hi.mkM 4 600) ?_
  refine hp_aload_nR C dX0_init_21 rfl ?_
  refine hp_iconst (v := 0) C dX0_init_22 (by decide) ?_
  refine hp_putf C fl_X0_20_1 rfl rfl rfl dX0_init_23 (hi.mkM 4 600) ?_
  refine hp_vret C hr dX0_init_26 ?_
  exact ⟨rfl, rfl⟩
theorem kt_iniX {G : hpG} {X : hpT} {k : Nat} (hn0 : hp_n0 G ≤ k) (hn : hp_nx X = k + 12) (f1 : ∀ o, o < 12 → hp_kd X (k + o) = kt_kd o) (f2 : ∀ o, o < 12 → kt_ai o = true → hp_ln X (k + o) = kt_ln o) (f3 : ∀ f, kt_fi f = true → hp_fl X f (k + kt_off f) = kt_fv G k kt_s0 f) (f4 : ∀ o i, o < 12 → kt_ai o = true → hp_ar X (k + o) i = kt_av k kt_s0 o i) : kt_sh G X k ∧ X = kt_w G X k kt_s0 := by
  refine ⟨⟨hn0, by omega, f1, f2⟩, hp_ext rfl rfl rfl rfl (fun f b => ?_) (fun b i => ?_)⟩
  · rw [kt_w_fl]
    by_cases c : kt_fi f = true ∧ b = k + kt_off f
    · rw [if_pos c, c.2]
      exact f3 f c.1
    · rw [if_neg c]
  · rw [kt_w_ar]
    by_cases c : (k ≤ b ∧ b < k + 12) ∧ kt_ai (b - k) = true
    · rw [if_pos c]
      have := f4 (b - k) i (by omega) c.2
      rw [show k + (b - k) = b by omega] at this
      exact this
    · rw [if_neg c]
theorem kt_ini3 {G : hpG} {h : hpT} {k : Nat} (hx0 : hp_nx h = k + 1) (f : Nat) (c1 : kt_fi f = true) : hp_fl (kc_K4 G h k) f (k + kt_off f) = kt_fv G k kt_s0 f := by
  have h2 : f = 0 ∨ f = 1 ∨ f = 2 ∨ f = 32 ∨ f = 33 ∨ f = 34 ∨ f = 64 ∨ f = 65 ∨ f = 66 ∨ f = 67 ∨ f = 68 ∨ f = 69 ∨ f = 70 ∨ f = 71 ∨ f = 72 ∨ f = 73 ∨ f = 96 ∨ f = 97 ∨ f = 160 ∨ f = 161 ∨ f = 162 ∨ f = 163 ∨ f = 164 ∨ f = 165 := by
    unfold kt_fi at c1
    simp only [Bool.or_eq_true, Bool.and_eq_true, decide_eq_true_eq] at c1
    omega
  rcases h2 with rfl | rfl | rfl | rfl | rfl | rfl | rfl | rfl | rfl | rfl | rfl | rfl | rfl | rfl | rfl | rfl | rfl | rfl | rfl | rfl | rfl | rfl | rfl | rfl
  · rw [show kt_off 0 = 9 from rfl, ki_f0 hx0]
    rfl
  · rw [show kt_off 1 = 9 from rfl, ki_f1 hx0]
    rfl
  · rw [show kt_off 2 = 9 from rfl, ki_f2 hx0]
    rfl
  · rw [show kt_off 32 = 1 from rfl, ki_f32 hx0]
    rfl
  · rw [show kt_off 33 = 1 from rfl, ki_f33 hx0]
    rfl
  · rw [show kt_off 34 = 1 from rfl, ki_f34 hx0]
    rfl
  · rw [show kt_off 64 = 8 from rfl, ki_f64 hx0]
    rfl
  · rw [show kt_off 65 = 8 from rfl, ki_f65 hx0]
    rfl
  · rw [show kt_off 66 = 8 from rfl, ki_f66 hx0]
    rfl
  · rw [show kt_off 67 = 8 from rfl, ki_f67 hx0]
    rfl
  · rw [show kt_off 68 = 8 from rfl, ki_f68 hx0]
    rfl
  · rw [show kt_off 69 = 8 from rfl, ki_f69 hx0]
    rfl
  · rw [show kt_off 70 = 8 from rfl, ki_f70 hx0]
    rfl
  · rw [show kt_off 71 = 8 from rfl, ki_f71 hx0]
    rfl
  · rw [show kt_off 72 = 8 from rfl, ki_f72 hx0]
    rfl
  · rw [show kt_off 73 = 8 from rfl, ki_f73 hx0]
    rfl
  · rw [show kt_off 96 = 10 from rfl, ki_f96 hx0]
    rfl
  · rw [show kt_off 97 = 10 from rfl, ki_f97 hx0]
    rfl
  · rw [show kt_off 160 = 0 from rfl, ki_f160 hx0]
    rfl
  · rw [show kt_off 161 = 0 from rfl, ki_f161 hx0]
    rfl
  · rw [show kt_off 162 = 0 from rfl, ki_f162 hx0]
    rfl
  · rw [show kt_off 163 = 0 from rfl, ki_f163 hx0]
    rfl
  · rw [show kt_off 164 = 0 from rfl, ki_f164 hx0]
    rfl
  · rw [show kt_off 165 = 0 from rfl, ki_f165 hx0]
    rfl
theorem kt_ini1 {G : hpG} {h : hpT} {k : Nat} (hx0 : hp_nx h = k + 1) (hk : hp_kd h k = 5) (o : Nat) (ho : o < 12) : hp_kd (kc_K4 G h k) (k + o) = kt_kd o := by
  rcases (show o = 0 ∨ o = 1 ∨ o = 2 ∨ o = 3 ∨ o = 4 ∨ o = 5 ∨ o = 6 ∨ o = 7 ∨ o = 8 ∨ o = 9 ∨ o = 10 ∨ o = 11 by omega) with rfl | rfl | rfl | rfl | rfl | rfl | rfl | rfl | rfl | rfl | rfl | rfl
  · rw [ki_k0 hx0 hk]
    rfl
  · rw [ki_k1 hx0 hk]
    rfl
  · rw [ki_k2 hx0 hk]
    rfl
  · rw [ki_k3 hx0 hk]
    rfl
  · rw [ki_k4 hx0 hk]
    rfl
  · rw [ki_k5 hx0 hk]
    rfl
  · rw [ki_k6 hx0 hk]
    rfl
  · rw [ki_k7 hx0 hk]
    rfl
  · rw [ki_k8 hx0 hk]
    rfl
  · rw [ki_k9 hx0 hk]
    rfl
  · rw [ki_k10 hx0 hk]
    rfl
  · rw [ki_k11 hx0 hk]
    rfl
theorem kt_ini2 {G : hpG} {h : hpT} {k : Nat} (hx0 : hp_nx h = k + 1) (o : Nat) (ha : kt_ai o = true) : hp_ln (kc_K4 G h k) (k + o) = kt_ln o := by
  have h2 : o = 2 ∨ o = 3 ∨ o = 4 ∨ o = 5 ∨ o = 6 ∨ o = 7 ∨ o = 11 := by
    unfold kt_ai at ha
    simp only [Bool.or_eq_true, Bool.and_eq_true, decide_eq_true_eq] at ha
    omega
  rcases h2 with rfl | rfl | rfl | rfl | rfl | rfl | rfl
  · rw [ki_l2 hx0]
    rfl
  · rw [ki_l3 hx0]
    rfl
  · rw [ki_l4 hx0]
    rfl
  · rw [ki_l5 hx0]
    rfl
  · rw [ki_l6 hx0]
    rfl
  · rw [ki_l7 hx0]
    rfl
  · rw [ki_l11 hx0]
    rfl
theorem kt_ini4 {G : hpG} {h : hpT} {k : Nat} (hx0 : hp_nx h = k + 1) (o i : Nat) (ha : kt_ai o = true) : hp_ar (kc_K4 G h k) (k + o) i = kt_av k kt_s0 o i := by
  have h2 : o = 2 ∨ o = 3 ∨ o = 4 ∨ o = 5 ∨ o = 6 ∨ o = 7 ∨ o = 11 := by
    unfold kt_ai at ha
    simp only [Bool.or_eq_true, Bool.and_eq_true, decide_eq_true_eq] at ha
    omega
  rcases h2 with rfl | rfl | rfl | rfl | rfl | rfl | rfl
  · rw [ki_a2 hx0 i]
    rfl
  · rw [ki_a3 hx0 i]
    rfl
  · rw [ki_a4 hx0 i]
    rfl
  · rw [ki_a5 hx0 i]
    rfl
  · rw [ki_a6 hx0 i]
    rfl
  · rw [ki_a7 hx0 i]
    rfl
  · rw [ki_a11 hx0 i]
    rfl
theorem kc_K4_nx {G : hpG} {h : hpT} {k : Nat} (hx0 : hp_nx h = k + 1) : hp_nx (kc_K4 G h k) = k + 12 := by
  simp only [kc_K4, kc_K3, kc_K2, kc_K1, kc_Keep, kc_RT, kc_Arr, kc_AL, kc_Node, kc_Jou, hp_mk_nx, hp_mkA_nx, hp_mkM_nx, hp_put_nx, hp_set_nx, hx0]
theorem kt_ini {G : hpG} {h : hpT} {k : Nat} (hx0 : hp_nx h = k + 1) (hk : hp_is G h k 5) : kt_sh G (kc_K4 G h k) k ∧ kc_K4 G h k = kt_w G (kc_K4 G h k) k kt_s0 := kt_iniX hk.1 (kc_K4_nx hx0) (fun o ho => kt_ini1 hx0 hk.2.2 o ho) (fun o _ ha => kt_ini2 hx0 o ha) (fun f c => kt_ini3 hx0 f c) (fun o i _ ha => kt_ini4 hx0 o i ha)
theorem kj_fl {G : hpG} {h : hpT} {k f b : Nat} {v : Value} (e : hp_fl (kc_K4 G h k) f b = v) : hp_fl (kc_K3 G h k) f b = v := by
  unfold kc_K4 at e
  rw [hp_set_fl] at e
  exact e
theorem kj_kd {G : hpG} {h : hpT} {k b v : Nat} (e : hp_kd (kc_K4 G h k) b = v) : hp_kd (kc_K3 G h k) b = v := by
  unfold kc_K4 at e
  rw [hp_set_kd] at e
  exact e
theorem kj_ln {G : hpG} {h : hpT} {k b v : Nat} (e : hp_ln (kc_K4 G h k) b = v) : hp_ln (kc_K3 G h k) b = v := by
  unfold kc_K4 at e
  rw [hp_set_ln] at e
  exact e
theorem kj_nx {G : hpG} {h : hpT} {k v : Nat} (e : hp_nx (kc_K4 G h k) = v) : hp_nx (kc_K3 G h k) = v := by
  unfold kc_K4 at e
  rw [hp_set_nx] at e
  exact e
theorem hp_set_sl (h : hpT) (a i : Nat) (v : Value) : hp_sl (hp_set h a i v) = hp_sl h := rfl
theorem kj_sl {G : hpG} {h : hpT} {k : Nat} : hp_sl (kc_K4 G h k) = hp_sl (kc_K3 G h k) := by
  unfold kc_K4
  rw [hp_set_sl]
theorem kj_eV {G : hpG} {h : hpT} {k : Nat} : hp_set (kc_K3 G h k) (k + 7) (0 : Int32).toNatClampNeg (.ref (k + 8)) = kc_K4 G h k := by
  unfold kc_K4
  rfl
theorem kj_eG {G : hpG} {h : hpT} {k : Nat} : hp_put (hp_put (hp_put (hp_put (kc_Keep G (hp_mk (hp_put (hp_mkA (hp_put (kc_Jou (hp_mk h 1 3) (k + 1)) (hp_fd 5 0) k (.ref (k + 1))) 4 80 .null) (hp_fd 5 1) k (.ref (k + 7))) 2 10) (k + 8) 0 none 0 0 0 1 5) (hp_fd 5 2) k (.ref (k + 8))) (hp_fd 5 3) k (.int 1)) (hp_fd 5 4) k (.int 0)) (hp_fd 5 5) k (.int 0) = kc_K3 G h k := by
  unfold kc_K3 kc_K2 kc_K1
  rfl
theorem hp_is_put {G : hpG} {h : hpT} {a ci f b : Nat} {v : Value} (x : hp_is G h a ci) : hp_is G (hp_put h f b v) a ci := x
set_option maxRecDepth 20000 in
set_option maxHeartbeats 4000000 in
theorem kc_ktI {l : Launch} {G : hpG} {h : hpT} {k d : Nat} (hd : 8 ≤ d) (hx0 : hp_nx h = k + 1) (hk : hp_is G h k 5) (rm : hp_nx h + 300 ≤ hp_n0 G + hp_LC ∧ hp_sl h + 40000 ≤ hp_LS) : hp_C l G yX5_init (.code yX5_init cX5_init 1 none) d [.ref k] (h) (fun v h' => v = none ∧ ∃ h2, h' = kt_w G h2 k kt_s0 ∧ kt_sh G h2 k ∧ hp_nx h2 = k + 12 ∧ hp_sl h2 ≤ hp_sl h + 3000) (fun _ _ => False) := by
  refine hp_ofV (by decide) (by simp [Value.category]) (Nat.le_of_ble_eq_true rfl) (fun M C hr hx el => ?_)
  have r1 := rm.1
  have r2 := rm.2
  have hn : hp_n0 G ≤ hp_nx h := Nat.le_of_lt (Nat.lt_of_le_of_lt hk.1 hk.2.1)
  have hk0 := hk.1
  refine hp_aload_nR C dX5_init_0 rfl ?_
  refine hp_obj C ob_X5_1 ob_i ob_c (by omega) dX5_init_1 (by simp [Value.category]) ?_
  refine hp_aload_nR C dX5_init_4 rfl ?_
  refine hp_new C nl_X5_7 dX5_init_5 (by omega) (by omega) ?_
  have iJ : hp_is G (hp_mk h 1 3) (hp_nx h) 1 := hp_isN hn 1 3
  have ikA : hp_is G (hp_mk h 1 3) k 5 := hk.mk 1 3
  have nA : hp_nx (hp_mk h 1 3) = hp_nx h + 1 := rfl
  have sA : hp_sl (hp_mk h 1 3) = hp_sl h + 3 := rfl
  rw [hx0] at iJ ⊢
  generalize eA : hp_mk h 1 3 = A at iJ ikA nA sA ⊢
  refine hp_dup C dX5_init_8 rfl ?_
  refine hp_callIN C cw_X0_init in_X0_init nk_X5_9 ⟨by decide, by decide, by decide +kernel⟩ (by decide) im_X0_init rfl (kc_joI0 (d := d - 1) (by omega) iJ ⟨by omega, by omega⟩) (by omega) dX5_init_9 rfl rfl (by simp [Value.category]) (fun v_1 h_1 hp => ?_)
  obtain ⟨rfl, eB⟩ := hp
  have ikB : hp_is G h_1 k 5 := by rw [eB]; exact ikA.mkM 4 600
  have nB : hp_nx h_1 = hp_nx A + 5 := by rw [eB]; rfl
  have sB : hp_sl h_1 = hp_sl A + 2404 := by rw [eB]; rfl
  refine hp_putF C fl_X5_10_5 rfl rfl rfl rfl dX5_init_12 ikB ?_
  generalize eC : hp_put h_1 (hp_fd 5 0) k (.ref (k + 1)) = B
  have ikC : hp_is G B k 5 := by rw [← eC]; exact ikB
  have nC : hp_nx B = k + 7 := by rw [← eC]; show hp_nx h_1 = _; omega
  have sC : hp_sl B = hp_sl h + 2407 := by rw [← eC]; show hp_sl h_1 = _; omega
  refine hp_aload_nR C dX5_init_15 rfl ?_
  refine hp_bipush (v := 80) C dX5_init_16 (by decide) ?_
  refine hp_anew C 4 (N := 80) rfl (by decide) cl_X5_16 (by decide) dX5_init_18 (by decide) rfl (by decide) (by omega) (by omega) ?_
  rw [nC]
  refine hp_putF C fl_X5_18_5 rfl rfl rfl rfl dX5_init_21 (ikC.mkA 4 80 .null) ?_
  generalize eD : hp_put (hp_mkA B 4 80 .null) (hp_fd 5 1) k (.ref (k + 7)) = D
  have ikD : hp_is G D k 5 := by rw [← eD]; exact ikC.mkA 4 80 .null
  have nD : hp_nx D = k + 8 := by rw [← eD]; show hp_nx B + 1 = _; omega
  have sD : hp_sl D = hp_sl h + 2487 := by rw [← eD]; show hp_sl B + 80 = _; omega
  refine hp_aload_nR C dX5_init_24 rfl ?_
  refine hp_new C nl_X5_22 dX5_init_25 (by omega) (by omega) ?_
  have iK : hp_is G (hp_mk D 2 10) (hp_nx D) 2 := hp_isN (by omega) 2 10
  have ikE : hp_is G (hp_mk D 2 10) k 5 := ikD.mk 2 10
  have nE : hp_nx (hp_mk D 2 10) = hp_nx D + 1 := rfl
  have sE : hp_sl (hp_mk D 2 10) = hp_sl D + 10 := rfl
  rw [nD] at iK ⊢
  generalize eE : hp_mk D 2 10 = E at iK ikE nE sE ⊢
  refine hp_dup C dX5_init_28 rfl ?_
  refine hp_iconst (v := 0) C dX5_init_29 (by decide) ?_
  refine hp_null C dX5_init_30 ?_
  refine hp_iconst (v := 0) C dX5_init_31 (by decide) ?_
  refine hp_iconst (v := 0) C dX5_init_32 (by decide) ?_
  refine hp_iconst (v := 1) C dX5_init_33 (by decide) ?_
  refine hp_iconst (v := 5) C dX5_init_34 (by decide) ?_
  refine hp_callI C ml_X5_24 im_X1_init rfl (kc_keI (d := d - 1) (by omega) iK ⟨by omega, by omega⟩) (by omega) dX5_init_35 rfl rfl (by simp [Value.category]) (fun v_1 h_2 hp => ?_)
  obtain ⟨rfl, eF⟩ := hp
  have ikF : hp_is G h_2 k 5 := by rw [eF]; exact ((ikE.mk 0 3).mk 3 2).mkA 0 8 (.int 0)
  have sF : hp_sl h_2 = hp_sl E + 13 := by rw [eF]; rfl
  refine hp_putF C fl_X5_27_5 rfl rfl rfl rfl dX5_init_38 ikF ?_
  refine hp_aload_nR C dX5_init_41 rfl ?_
  refine hp_iconst (v := 1) C dX5_init_42 (by decide) ?_
  refine hp_putf C fl_X5_31_5 rfl rfl rfl dX5_init_43 ikF ?_
  refine hp_aload_nR C dX5_init_46 rfl ?_
  refine hp_iconst (v := 0) C dX5_init_47 (by decide) ?_
  refine hp_putf C fl_X5_35_5 rfl rfl rfl dX5_init_48 ikF ?_
  refine hp_aload_nR C dX5_init_51 rfl ?_
  refine hp_iconst (v := 0) C dX5_init_52 (by decide) ?_
  refine hp_putf C fl_X5_38_5 rfl rfl rfl dX5_init_53 ikF ?_
  have eG : hp_put (hp_put (hp_put (hp_put h_2 (hp_fd 5 2) k (.ref (k + 8))) (hp_fd 5 3) k (.int 1)) (hp_fd 5 4) k (.int 0)) (hp_fd 5 5) k (.int 0) = kc_K3 G h k := by rw [eF, ← eE, ← eD, ← eC, eB, ← eA]; exact kj_eG
  rw [eG]
  have n4 : hp_nx (kc_K3 G h k) = k + 12 := kj_nx (kc_K4_nx hx0)
  have s4 : hp_sl (kc_K3 G h k) = hp_sl h_2 := by rw [← eG]; rfl
  have ik4 : hp_is G (kc_K3 G h k) k 5 := by rw [← eG]; exact ikF
  have i7 : hp_is G (kc_K3 G h k) (k + 7) 14 := ⟨by omega, by omega, kj_kd (ki_k7 hx0 hk.2.2)⟩
  have i8 : hp_is G (kc_K3 G h k) (k + 8) 2 := ⟨by omega, by omega, kj_kd (ki_k8 hx0 hk.2.2)⟩
  have l7 : hp_ln (kc_K3 G h k) (k + 7) = 80 := kj_ln (ki_l7 hx0)
  have g1 : hp_fl (kc_K3 G h k) 161 k = .ref (k + 7) := kj_fl (ki_f161 hx0)
  have g2 : hp_fl (kc_K3 G h k) 162 k = .ref (k + 8) := kj_fl (ki_f162 hx0)
  have eV : hp_set (kc_K3 G h k) (k + 7) (0 : Int32).toNatClampNeg (.ref (k + 8)) = kc_K4 G h k := kj_eV
  obtain ⟨sh, vw⟩ := kt_ini hx0 hk
  have n5 : hp_nx (kc_K4 G h k) = k + 12 := kc_K4_nx hx0
  have s5 : hp_sl (kc_K4 G h k) = hp_sl (kc_K3 G h k) := kj_sl
  generalize kc_K4 G h k = X4 at eV sh vw n5 s5
  generalize kc_K3 G h k = X3 at n4 s4 ik4 i7 i8 l7 g1 g2 eV s5 ⊢
  refine hp_aload_nR C dX5_init_56 rfl ?_
  refine hp_get (v := .ref (k + 7)) C fl_X5_18_5 dX5_init_57 ik4 g1 ?_
  refine hp_iconst (v := 0) C dX5_init_60 (by decide) ?_
  refine hp_aload_nR C dX5_init_61 rfl ?_
  refine hp_get (v := .ref (k + 8)) C fl_X5_27_5 dX5_init_62 ik4 g2 ?_
  refine hp_aast C 4 2 rfl (by decide) (by decide) rfl (by decide) dX5_init_65 i7 i8 (by rw [l7]; unfold vp_in; decide) ?_
  rw [eV]
  refine hp_vret C hr dX5_init_66 ?_
  exact ⟨rfl, X4, vw, sh, n5, by omega⟩
