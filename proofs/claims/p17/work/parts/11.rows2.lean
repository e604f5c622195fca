/-! ===== more rows: static fields, casts, arrays of references, the script, calls of methods with handlers ===== -/
section HP2
variable {M : hpM} {G : hpG} {y : MethodName} {cc : ByteArray} {nL d : Nat} {h0 h : hpT} {Q : State → Prop} {pc : Nat} {lo : Nat → Option Value} {st : List Value}
theorem hp_kept (C : hp_F M G y cc nL d h0) : ∀ q : Nat, q < (hp_H0 G).size → ¬ (fun q => hp_n0 G ≤ q) q → (hp_st M).heap[q]? = (hp_H0 G)[q]? := fun q _ hq => C.he.2.2.1 q (by have : ¬ hp_n0 G ≤ q := hq; omega)
/-- ArrayList's empty array -/
theorem hp_gets (C : hp_F M G y cc nL d h0) {idx : Nat} (w1 : Cond.fieldLink y.cls idx "java/util/ArrayList" "DEFAULTCAPACITY_EMPTY_ELEMENTDATA" "[Ljava/lang/Object;" ∈ hp_ws) (dd : decode cc pc = .ok (.getstatic idx, 3)) (kk : hp_V M G nL Q h (pc + 3) lo (.ref (hp_dE G) :: st)) : hp_V M G nL Q h pc lo st := by
  intro H locs cells slots ls hR hl hL
  refine hp_tight C hR (fun hle hls => ?_)
  exact va_gets (A := fun q => hp_n0 G ≤ q) C.ex C.bc (C.en.2.2.2.2.1.kept (hp_kept C)) (hR.old (M := M) (h0 := h0) C.he hl hle) C.own (C.ws _ w1) (fun _ z => z) dd (kk H locs _ _ ls hR hl hL)
theorem hp_instY (C : hp_F M G y cc nL d h0) {idx a : Nat} (ci : Nat) {cn nm : String} (w1 : Cond.classLink y.cls idx nm ∈ hp_ws) (w2 : Cond.castable cn nm ∈ hp_ow) (hci : (vwCl[ci]?).map (fun r => r.1) = some cn) (h10 : ci < 10) (dd : decode cc pc = .ok (.instanceof idx, 3)) (hi : hp_is G h a ci) (kk : hp_V M G nL Q h (pc + 3) lo (.int 1 :: st)) : hp_V M G nL Q h pc lo (.ref a :: st) :=
  fun H locs cells slots ls hR hl hL => va_instY C.ex C.bc C.own (C.ws _ w1) (C.en.2.1 _ w2) (hp_recv C hR hi h10 hci) dd (kk H locs cells slots ls hR hl hL)
theorem hp_instNo (C : hp_F M G y cc nL d h0) {idx a : Nat} (ci : Nat) {cn nm : String} (w1 : Cond.classLink y.cls idx nm ∈ hp_ws) (w2 : (cn, nm) ∈ hp_nc) (hci : (vwCl[ci]?).map (fun r => r.1) = some cn) (h10 : ci < 10) (dd : decode cc pc = .ok (.instanceof idx, 3)) (hi : hp_is G h a ci) (kk : hp_V M G nL Q h (pc + 3) lo (.int 0 :: st)) : hp_V M G nL Q h pc lo (.ref a :: st) :=
  fun H locs cells slots ls hR hl hL => va_instNo C.ex C.bc C.own (C.ws _ w1) (C.en.2.2.2.2.2.2.2.2 _ w2) (hp_recv C hR hi h10 hci) dd (kk H locs cells slots ls hR hl hL)
theorem hp_instNull (C : hp_F M G y cc nL d h0) {idx : Nat} (dd : decode cc pc = .ok (.instanceof idx, 3)) (kk : hp_V M G nL Q h (pc + 3) lo (.int 0 :: st)) : hp_V M G nL Q h pc lo (.null :: st) :=
  fun H locs cells slots ls hR hl hL => lv_instN C.ex C.bc dd (kk H locs cells slots ls hR hl hL)
theorem hp_castY (C : hp_F M G y cc nL d h0) {idx a : Nat} (ci : Nat) {cn nm : String} (w1 : Cond.classLink y.cls idx nm ∈ hp_ws) (w2 : Cond.castable cn nm ∈ hp_ow) (hci : (vwCl[ci]?).map (fun r => r.1) = some cn) (h10 : ci < 10) (dd : decode cc pc = .ok (.checkcast idx, 3)) (hi : hp_is G h a ci) (kk : hp_V M G nL Q h (pc + 3) lo (.ref a :: st)) : hp_V M G nL Q h pc lo (.ref a :: st) :=
  fun H locs cells slots ls hR hl hL => va_castY C.ex C.bc C.own (C.ws _ w1) (C.en.2.1 _ w2) (hp_recv C hR hi h10 hci) dd (kk H locs cells slots ls hR hl hL)
/-- anewarray -/
theorem hp_anew (C : hp_F M G y cc nL d h0) (t : Nat) {cn : String} {idx : Nat} {n : Int32} {N : Nat} (ht : (hp_tys (hp_cA G))[t]? = some (hp_cA G t, .object cn)) (h6 : t < 6) (w1 : Cond.classLink y.cls idx cn ∈ hp_ws) (w2 : Cond.arrayOver (.object cn) ∈ hp_ow) (dd : decode cc pc = .ok (.anewarray idx, 3)) (hn : ¬ n < 0) (hN : n.toNatClampNeg = N) (hb : N * 4 ≤ 536870912)
    (hcl : hp_nx h + 1 ≤ hp_n0 G + hp_LC) (hsl : hp_sl h + N ≤ hp_LS) (kk : hp_V M G nL Q (hp_mkA h t N .null) (pc + 3) lo (.ref (hp_nx h) :: st)) : hp_V M G nL Q h pc lo (.int n :: st) := by
  subst hN
  intro H locs cells slots ls hR hl hL
  refine hp_tight C hR (fun hle hls => ?_)
  have rc := C.rc
  have rs := C.rs
  have hsz := hR.2.1
  have hov : (Cond.arrayOver (.object cn)).before (hp_av M) (hp_st M) = true := C.en.2.1 _ w2
  refine W.anew C.ex C.bc C.own (C.ws _ w1) hov rfl dd rfl hn hb (by omega) (by omega) fun cA kA comp f1 f2 f3 f4 => ?_
  generalize hH1 : H.push ({ cls := cA, slots := Array.replicate n.toNatClampNeg .null, vm := .none } : Cell) = H1
  have z1 : H1.size = H.size + 1 := by rw [← hH1, Array.size_push]
  have e1 : H1[H.size]? = some (arrV cA n.toNatClampNeg (fun _ => .null)) := by rw [← hH1, Array.getElem?_push_size, ← arrV_new]
  have o1 : ∀ q : Nat, q < H.size → H1[q]? = H[q]? := fun q hq => by rw [← hH1, Array.getElem?_push, if_neg (Nat.ne_of_lt hq)]
  obtain ⟨-, -, -, -, -, g4⟩ := (C.en.arr ht).2
  have ec : cA = hp_cA G t := Option.some.inj (f1.symm.trans g4)
  subst ec
  rw [hsz] at e1
  refine kk H1 locs _ _ ls (hR.new (n := n.toNatClampNeg) hcl hsl rfl rfl z1 o1 ?_ (fun b hb => ?_) (fun b hb => ?_) (fun f b hb => rfl) (fun b hb => ?_) ?_) hl hL |> (fun z => by rw [hsz]; exact z)
  · unfold hp_sz
    rw [hsz, e1]
    exact arrV_size _ _ _
  · exact va_up_ne _ _ (Nat.ne_of_lt hb)
  · exact va_up_ne _ _ (Nat.ne_of_lt hb)
  · exact va_up_ne _ _ (Nat.ne_of_lt hb)
  · refine Or.inr (Or.inl ⟨t, va_up_self _ _ _, h6, ?_⟩)
    show H1[hp_nx h]? = some (arrV (hp_cA G t) (va_up (hp_ln h) (hp_nx h) _ (hp_nx h)) (va_up (hp_ar h) (hp_nx h) (fun _ => _) (hp_nx h)))
    rw [va_up_self, va_up_self]
    exact e1
/-- aastore of an object of ours -/
theorem hp_aast (C : hp_F M G y cc nL d h0) {a v : Nat} (t ci : Nat) {cn E : String} {i : Int32} (ht : (hp_tys (hp_cA G))[t]? = some (hp_cA G t, .object E)) (h6 : t < 6) (w2 : Cond.castable cn E ∈ hp_ow) (hci : (vwCl[ci]?).map (fun r => r.1) = some cn) (h10 : ci < 10) (dd : decode cc pc = .ok (.aastore, 1)) (hi : hp_is G h a (10 + t)) (hv : hp_is G h v ci) (hin : vp_in i (hp_ln h a))
    (kk : hp_V M G nL Q (hp_set h a i.toNatClampNeg (.ref v)) (pc + 1) lo st) : hp_V M G nL Q h pc lo (.ref v :: .int i :: .ref a :: st) := by
  intro H locs cells slots ls hR hl hL
  have hlt : i.toNatClampNeg < hp_ln h a := Nat.not_le.mp fun q => hin (Or.inr q)
  have hn0 : ¬ i < 0 := fun q => hin (Or.inl q)
  obtain ⟨cellV, g1, g3, g2⟩ := hp_recv C hR hv h10 hci
  obtain ⟨kA, comp, k1, k2, k3, -⟩ := (C.en.arr ht).2
  obtain ⟨kE, hkE, -⟩ := Vm.findClass_spec k3
  obtain ⟨c0, t1, f1, f2, f3⟩ := Cond.castable_spec (va_Nw.use (A := hp_av M) rfl (C.en.2.1 _ w2))
  cases g2.symm.trans f1
  cases k3.symm.trans f2
  obtain ⟨kC, hkC, -⟩ := Vm.findClass_spec g2
  refine W.aast C.ex C.bc (hR.arr hi h6) (fun q hq => by cases hq) (fun hq => by cases hq) k1 k2 rfl hkE ⟨hn0, by show _ < (arrV _ _ _).slots.size; rw [arrV_size]; exact hlt⟩ g1 (fun q hq => by rw [hq] at g3; cases g3) hkC f3 rfl rfl dd fun H1 e1 e2 e3 => ?_
  exact kk H1 _ _ _ ls (hp_wroteA hR hi h6 e1 e2 e3) (t_lc hl hi.1) hL
/-- the law's script -/
theorem hp_sld (C : hp_F M G y cc nL d h0) {b L : Nat} {xs : Nat → Int32} (hX : va_X b L xs (hp_st M) (hp_H0 G)) (hb : b < hp_n0 G) {i : Int32} {v : Int32} (hin : vp_in i L) (ev : xs i.toNatClampNeg = v) (dd : decode cc pc = .ok (.iaload, 1)) (kk : hp_V M G nL Q h (pc + 1) lo (.int v :: st)) : hp_V M G nL Q h pc lo (.int i :: .ref b :: st) := by
  subst ev
  intro H locs cells slots ls hR hl hL
  obtain ⟨scr, q1, q2, q3, q4, q5⟩ := hX
  have hlt : i.toNatClampNeg < L := Nat.not_le.mp fun q => hin (Or.inr q)
  exact W.iald (v := .int (xs i.toNatClampNeg)) C.ex C.bc (by rw [hR.2.2.1 b hb]; exact q1) q2 q3 (by rw [q4]; exact hin) (q5 _ hlt) rfl rfl dd (kk H locs cells slots ls hR hl hL)
theorem hp_slen (C : hp_F M G y cc nL d h0) {b L : Nat} {xs : Nat → Int32} (hX : va_X b L xs (hp_st M) (hp_H0 G)) (hb : b < hp_n0 G) (dd : decode cc pc = .ok (.arraylength, 1)) (kk : hp_V M G nL Q h (pc + 1) lo (.int (Int32.ofNat L) :: st)) : hp_V M G nL Q h pc lo (.ref b :: st) := by
  intro H locs cells slots ls hR hl hL
  obtain ⟨scr, q1, q2, q3, q4, q5⟩ := hX
  exact W.alen (n := Int32.ofNat L) C.ex C.bc (by rw [hR.2.2.1 b hb]; exact q1) q2 (by rw [q4] <;> rfl) rfl rfl dd (kk H locs cells slots ls hR hl hL)
/-- own's pool: idx names the static method y, whose code has the table hh of handlers -/
def hp_MLX (own : String) (idx : Nat) (y : MethodName) (cc : ByteArray) (maxL : Nat) (ret : Option FieldType) (hh : List (Nat × Nat × Nat × Nat)) (n : Nat) : Prop := Cond.codeWith y cc maxL ret hh ∈ hp_ws ∧ Cond.initialized y.cls ∈ hp_ws ∧ Cond.methodLink own idx y ∈ hp_ws ∧ Cond.static y ∈ hp_ws ∧ (y.cls ≠ "java/lang/invoke/MethodHandle" ∧ y.cls ≠ "java/lang/invoke/VarHandle" ∧ (parseMethodDescriptor y.desc).map (fun d => d.parameters.length) = some n) ∧ maxL ≤ 22
/-- invokestatic of a method with handlers -/
theorem hp_callSX (C : hp_F M G y cc nL d h0) {idx n maxL d' : Nat} {y' : MethodName} {cc' : ByteArray} {ret : Option FieldType} {hh : List (Nat × Nat × Nat × Nat)} {As stk : List Value} {P' : Option Value → hpT → Prop} {X' : String → hpT → Prop} (ml : hp_MLX y.cls idx y' cc' maxL ret hh n)
    (con : hp_C M.2.1 G y' (.codeWith y' cc' maxL ret hh) d' As h P' X') (hd : d' + 1 ≤ d) (dd : decode cc pc = .ok (.invokestatic idx, 3)) (hn : As.length = n) (hst : stk = As.reverse ++ st) (hw : (st.map fun v => v.category).sum ≤ 8)
    (kk : ∀ v h', P' v h' → hp_V M G nL Q h' (pc + 3) lo (v.toList ++ st)) (kx : ∀ E h', X' E h' → hp_VX M G nL Q h' pc lo st E) : hp_V M G nL Q h pc lo stk := by
  obtain ⟨w0, w1, w2, w3, hnm, hm⟩ := ml
  intro H locs cells slots ls hR hl hL
  refine hp_tight C hR (fun hle hls => ?_)
  have rf := C.rf
  have rl := C.rl
  have hG : GoodIn hp_ws (va_wsS y.cls idx y' (.codeWith y' cc' maxL ret hh :: hp_ws)) := by
    intro w hw
    unfold va_wsS at hw
    rcases List.mem_append.mp hw with hw | hw
    · simp only [List.mem_cons, List.not_mem_nil, or_false] at hw
      rcases hw with rfl | rfl | rfl
      · exact hp_ws_good _ w2
      · exact hp_ws_good _ w3
      · exact hp_ws_good _ w1
    · exact hp_gin w0 w hw
  exact hp_run C (vx_runSX (Ts := hp_ws) (hh := hh) (g := F0 (hp_mi4 M) pc ls stk) ⟨C.ex, C.bc, C.ml, C.own, C.ws⟩ (con C.tr) (vx_cwSW n C.ws hG rfl rfl rfl hnm ⟨by show d' + 1 ≤ _; omega, by show 8 + (maxL + 11) + 41 * d' ≤ _; omega⟩) ⟨hp_blind, hp_pre C hR⟩ rfl hn hL.1 hst (lv_room hw) dd (hp_room C hR hle hls d')) hl hL kk kx
/-- own's pool: idx names x', which owner declares; a receiver of class cn takes y' -/
def hp_UL (own : String) (idx : Nat) (x' : MethodName) (owner cn : String) (y' : MethodName) (cc' : ByteArray) (maxL : Nat) (ret : Option FieldType) (n : Nat) : Prop := Cond.code y' cc' maxL ret ∈ hp_ws ∧ Cond.methodLink own idx x' ∈ hp_ws ∧ Cond.sameMethod x'.cls owner x'.name x'.desc ∈ hp_ws ∧ Cond.selects cn x' y' ∈ hp_ws ∧ Cond.instanceMethod y' ∈ hp_ws ∧ Cond.initialized y'.cls ∈ hp_ws ∧ Cond.declares ⟨owner, x'.name, x'.desc⟩ ∈ hp_ow ∧
  (owner ≠ "java/lang/invoke/MethodHandle" ∧ owner ≠ "java/lang/invoke/VarHandle" ∧ (parseMethodDescriptor x'.desc).map (fun d => d.parameters.length) = some n) ∧ maxL ≤ 22
theorem hp_callU (C : hp_F M G y cc nL d h0) {idx n maxL d' b : Nat} (ci : Nat) {x' y' : MethodName} {owner cn : String} {cc' : ByteArray} {ret : Option FieldType} {As stk : List Value} {P' : Option Value → hpT → Prop} (ul : hp_UL y.cls idx x' owner cn y' cc' maxL ret n) (hci : (vwCl[ci]?).map (fun r => r.1) = some cn) (h10 : ci < 10)
    (con : hp_C M.2.1 G y' (.code y' cc' maxL ret) d' (.ref b :: As) h P' (fun _ _ => False)) (hd : d' + 1 ≤ d) (dd : decode cc pc = .ok (.invokevirtual idx, 3)) (hi : hp_is G h b ci) (hn : As.length = n) (hst : stk = As.reverse ++ .ref b :: st) (hw : (st.map fun v => v.category).sum ≤ 8)
    (kk : ∀ v h', P' v h' → hp_V M G nL Q h' (pc + 3) lo (v.toList ++ st)) : hp_V M G nL Q h pc lo stk := by
  obtain ⟨w0, w1, w2, w3, w4, w5, w6, hnm, hm⟩ := ul
  intro H locs cells slots ls hR hl hL
  refine hp_tight C hR (fun hle hls => ?_)
  have rf := C.rf
  have rl := C.rl
  have hG : GoodIn hp_ws (va_wsU y.cls idx cn owner x' y' (.code y' cc' maxL ret :: hp_ws)) := by
    intro w hw
    unfold va_wsU at hw
    rcases List.mem_append.mp hw with hw | hw
    · simp only [List.mem_cons, List.not_mem_nil, or_false] at hw
      rcases hw with rfl | rfl | rfl | rfl | rfl
      · exact hp_ws_good _ w1
      · exact hp_ws_good _ w2
      · exact hp_ws_good _ w3
      · exact hp_ws_good _ w4
      · exact hp_ws_good _ w5
    · exact hp_gin w0 w hw
  exact hp_run C (X' := fun _ _ => False) (hp_ofRun (va_runU (Ts := hp_ws) (C := cn) (owner := owner) (x := x') (g := F0 (hp_mi4 M) pc ls stk) ⟨C.ex, C.bc, C.ml, C.own, C.ws⟩ (con.met C.tr) (va_cwA n C.ws hG rfl rfl rfl (C.en.2.1 _ w6) hnm ⟨by show d' + 1 ≤ _; omega, by show 8 + (maxL + 11) + 41 * d' ≤ _; omega⟩) ⟨hp_blind, hp_recv C hR hi h10 hci, hp_pre C hR⟩ rfl hn hL.1 hst (lv_room hw) dd (hp_room C hR hle hls d'))) hl hL kk (fun _ _ hf => hf.elim)
/-- Math.max -/
def hp_MX (own : String) (idx : Nat) : Prop := Cond.methodLink own idx Lib.Math.max.name ∈ hp_ws ∧ Cond.static Lib.Math.max.name ∈ hp_ws ∧ Cond.initialized "java/lang/Math" ∈ hp_ws ∧ Cond.code Lib.Math.max.name Lib.Math.max.code 2 (some .int) ∈ hp_ws
theorem hp_mmax (C : hp_F M G y cc nL d h0) {idx : Nat} {a b v : Int32} (mx : hp_MX y.cls idx) (hd : 1 ≤ d) (hw : (st.map fun v => v.category).sum ≤ 8) (dd : decode cc pc = .ok (.invokestatic idx, 3)) (ev : (if a < b then b else a) = v) (kk : hp_V M G nL Q h (pc + 3) lo (.int v :: st)) : hp_V M G nL Q h pc lo (.int b :: .int a :: st) := by
  subst ev
  obtain ⟨w1, w2, w3, w4⟩ := mx
  intro H locs cells slots ls hR hl hL
  refine hp_tight C hR (fun hle hls => ?_)
  have rf := C.rf
  have rl := C.rl
  have rc := C.rc
  have rs := C.rs
  have b1 := hR.2.2.2.2.2.1
  have b2 := hR.2.2.2.2.2.2
  exact va_mmax C.ex C.bc (C.ml.trans hL.1.symm) C.own (C.ws _ w1) (C.ws _ w2) (C.ws _ w3) (C.ws _ w4) (by omega) (by omega) (by omega) (by omega) dd (kk H locs _ _ ls hR hl hL)
end HP2
