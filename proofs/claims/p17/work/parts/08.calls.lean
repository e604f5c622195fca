/-! ===== contracts, their ends, calls ===== -/
def hp_rm (G : hpG) (d : Nat) (h : hpT) : Room := { frames := d, cells := hp_n0 G + hp_LC - hp_nx h, slots := hp_LS - hp_sl h, locals := 41 * d }
def hp_Qc (G : hpG) (P : Option Value → hpT → Prop) : Array Value → State → Outcome → State → Prop := fun _ _ o t => ∃ (v : Option Value) (h' : hpT), o = .returned v ∧ P v h' ∧ hp_R G h' t.heap ∧ hp_E G t
def hp_Xc (G : hpG) (X : String → hpT → Prop) : String → State → State → Prop := fun E _ t => ∃ h' : hpT, X E h' ∧ hp_R G h' t.heap
/-- THE CONTRACT of method y (its code's word wd) at depth d: with arguments av over the pure heap h it returns with P, or throws with X -/
def hp_C (l : Launch) (G : hpG) (y : MethodName) (wd : Cond) (d : Nat) (av : List Value) (h : hpT) (P : Option Value → hpT → Prop) (X : String → hpT → Prop) : Prop :=
  l.stackTraces = false → vx_Met l y (wd :: hp_ws) (hp_rm G d h) (va_Pc av (fun U => hp_R G h U.heap ∧ hp_E G U)) (hp_Qc G P) (hp_Xc G X) (hp_rm G d h).cells (hp_rm G d h).slots (fun q => hp_n0 G ≤ q)
def hp_Q (M : hpM) (G : hpG) (h0 : hpT) (P : Option Value → hpT → Prop) (X : String → hpT → Prop) : State → Prop := vx_MQ (hp_bl M) (hp_Qc G P) (hp_Xc G X) (hp_av M) (hp_st M) (hp_n0 G + hp_LC - hp_nx h0) (hp_LS - hp_sl h0) (fun q => hp_n0 G ≤ q)
theorem hp_E.moved {G : hpG} {u U : State} (hW : u.WarmedH U.vm) (h : hp_E G u) : hp_E G U := by
  obtain ⟨h1, h2, h3, h4, h5, h6, h7, h8, h9⟩ := h
  exact ⟨va_K.moved hW.alike h1, hp_Ow_moved hW h2, vx_Zq.moved hW.alike h3, vx_Zq.moved hW.alike h4, va_Z.moved hW.alike h5, h6, h7, va_Mi.moved hW.alike h8, fun q hq => va_Nc.moved hW.alike (h9 q hq)⟩
theorem hp_sl1 : ∀ (av : List Value), (∀ v ∈ av, v.category = 1) → lg_sl av = av.map Slot.val
  | [], _ => rfl
  | v :: r, h => by
    have h1 : ¬ v.category = 2 := by rw [h v List.mem_cons_self]; decide
    have ih := hp_sl1 r (fun w hw => h w (List.mem_cons_of_mem _ hw))
    unfold lg_sl at ih ⊢
    rw [List.flatMap_cons, ih, if_neg h1]
    rfl
theorem hp_L_entry {av : List Value} {n : Nat} (h : ∀ v ∈ av, v.category = 1) (hn : av.length ≤ n) : hp_L ((lg_sl av ++ List.replicate (n - (lg_sl av).length) Slot.unset).toArray) (fun i => av[i]?) n := by
  have e := hp_sl1 av h
  have el : (lg_sl av).length = av.length := by rw [e, List.length_map]
  obtain ⟨z1, z2, -⟩ := lv_entry av (n := n) (by rw [el]; exact hn)
  refine ⟨z1, z2, fun i v hv => ⟨?_, h v (List.mem_of_getElem? hv)⟩⟩
  have hi : i < av.length := (List.getElem?_eq_some_iff.mp hv).1
  have e2 : ((lg_sl av ++ List.replicate (n - (lg_sl av).length) Slot.unset).toArray)[i]? = (lg_sl av ++ List.replicate (n - (lg_sl av).length) Slot.unset)[i]? := by simp
  have hv' : av[i]? = some v := hv
  rw [e2, List.getElem?_append_left (by rw [el]; exact hi), e, List.getElem?_map, hv']
  rfl
/-- a contract out of a walk of its body -/
theorem hp_ofV {l : Launch} {G : hpG} {y : MethodName} {cc : ByteArray} {maxL d : Nat} {ret : Option FieldType} {av : List Value} {h : hpT} {P : Option Value → hpT → Prop} {X : String → hpT → Prop} (hy : plainName y.cls = true) (hav : ∀ v ∈ av, v.category = 1) (hn : av.length ≤ maxL)
    (body : ∀ M : hpM, hp_F M G y cc maxL d h → (hp_mt M).sig.returnType = ret → (∀ x ∈ (hp_cd M).exceptionTable.toList, False) → M.2.1 = l → hp_V M G maxL (hp_Q M G h P X) h 0 (fun i => av[i]?) []) : hp_C l G y (.code y cc maxL ret) d av h P X := by
  intro hl
  refine vx_ofW (cc := cc) (maxL := maxL) (ret := ret) hy rfl ?_
  intro p e s m args below meth c s₁ B hml ht hP
  obtain ⟨rfl, hR, hE⟩ := hP
  have hts : ∀ w ∈ hp_ws, w.before av.toArray s = true := fun w hw => atoms_spec (ws := .code y cc maxL ret :: hp_ws) B.pre w (List.mem_cons_of_mem _ hw)
  have C : hp_F (p, l, e, hp_rm G d h, s, m, av.toArray, below, meth, c) G y cc maxL d h :=
    ⟨B.exec, B.bytes, hml, findClass_of_methodNamed B.named, hts, B.notSynchronized, (name_of_methodNamed B.named B.method).1, hE, hR, Nat.le_refl _, Nat.le_refl _, by show _ ≤ hp_n0 G + hp_LC - hp_nx h + hp_nx h; omega, by show _ ≤ hp_LS - hp_sl h + hp_sl h; omega, hl⟩
  rw [lg_entry_eq]
  exact body _ C B.returns ht rfl s.heap [] 0 0 _ hR (fun q hq => by cases hq) (hp_L_entry hav hn)
/-- .. of a method with a table of handlers -/
theorem hp_ofVH {l : Launch} {G : hpG} {y : MethodName} {cc : ByteArray} {maxL d : Nat} {ret : Option FieldType} {hh : List (Nat × Nat × Nat × Nat)} {av : List Value} {h : hpT} {P : Option Value → hpT → Prop} {X : String → hpT → Prop} (hy : plainName y.cls = true) (hav : ∀ v ∈ av, v.category = 1) (hn : av.length ≤ maxL)
    (body : ∀ M : hpM, hp_F M G y cc maxL d h → (hp_mt M).sig.returnType = ret → (hp_cd M).exceptionTable.toList = tableOf hh → M.2.1 = l → hp_V M G maxL (hp_Q M G h P X) h 0 (fun i => av[i]?) []) : hp_C l G y (.codeWith y cc maxL ret hh) d av h P X := by
  intro hl
  refine vx_ofWH (cc := cc) (maxL := maxL) (ret := ret) (hh := hh) hy rfl ?_
  intro p e s m args below meth c s₁ B hml hP
  obtain ⟨rfl, hR, hE⟩ := hP
  have hts : ∀ w ∈ hp_ws, w.before av.toArray s = true := fun w hw => atoms_spec (ws := .codeWith y cc maxL ret hh :: hp_ws) B.pre w (List.mem_cons_of_mem _ hw)
  have hcw : (Cond.codeWith y cc maxL ret hh).before av.toArray s = true := atoms_spec (ws := .codeWith y cc maxL ret hh :: hp_ws) B.pre _ List.mem_cons_self
  have C : hp_F (p, l, e, hp_rm G d h, s, m, av.toArray, below, meth, c) G y cc maxL d h :=
    ⟨B.exec, B.bytes, hml, findClass_of_methodNamed B.named, hts, B.notSynchronized, (name_of_methodNamed B.named B.method).1, hE, hR, Nat.le_refl _, Nat.le_refl _, by show _ ≤ hp_n0 G + hp_LC - hp_nx h + hp_nx h; omega, by show _ ≤ hp_LS - hp_sl h + hp_sl h; omega, hl⟩
  rw [lg_entry_eq]
  exact body _ C B.returns (vx_table (x := y) B hcw) rfl s.heap [] 0 0 _ hR (fun q hq => by cases hq) (hp_L_entry hav hn)
section HPE
variable {M : hpM} {G : hpG} {y : MethodName} {cc : ByteArray} {nL d : Nat} {h0 h : hpT} {Q : State → Prop} {pc : Nat} {lo : Nat → Option Value} {st : List Value} {P : Option Value → hpT → Prop} {X : String → hpT → Prop}
theorem hp_iret (C : hp_F M G y cc nL d h0) {ty : FieldType} {v : Int32} (hr : (hp_mt M).sig.returnType = some ty) (hn : narrow ty (.int v) = .int v) (dd : decode cc pc = .ok (.ireturn, 1)) (hP : P (some (.int v)) h) : hp_V M G nL (hp_Q M G h0 P X) h pc lo [.int v] := by
  intro H locs cells slots ls hR hl hL
  refine hp_tight C hR (fun hle hls => ?_)
  have b1 := hR.2.2.2.2.2.1
  have b2 := hR.2.2.2.2.2.2
  refine W.widen (k := hp_n0 G + hp_LC - hp_nx h0) (n := hp_LS - hp_sl h0) (by omega) (by omega) ?_
  refine vx_ret ?_
  exact W.zret C.ex C.bc hr hn (fun t ht hW => ⟨_, h, rfl, hP, by rw [ht]; exact hR, C.en.moved hW⟩) hl dd C.lk
theorem hp_aret (C : hp_F M G y cc nL d h0) {rt : FieldType} {r : Option Nat} (hr : (hp_mt M).sig.returnType = some rt) (hrt : (∃ n, rt = .object n) ∨ ∃ t, rt = .array t) (dd : decode cc pc = .ok (.areturn, 1)) (hP : P (some (va_rf r)) h) : hp_V M G nL (hp_Q M G h0 P X) h pc lo [va_rf r] := by
  intro H locs cells slots ls hR hl hL
  refine hp_tight C hR (fun hle hls => ?_)
  have b1 := hR.2.2.2.2.2.1
  have b2 := hR.2.2.2.2.2.2
  refine W.widen (k := hp_n0 G + hp_LC - hp_nx h0) (n := hp_LS - hp_sl h0) (by omega) (by omega) ?_
  refine vx_ret ?_
  exact W.aret C.ex C.bc hr hrt (by cases r with | none => exact Or.inl rfl | some z => exact Or.inr ⟨z, rfl⟩) (fun t ht hW => ⟨_, h, rfl, hP, by rw [ht]; exact hR, C.en.moved hW⟩) hl dd C.lk
theorem hp_vret (C : hp_F M G y cc nL d h0) (hr : (hp_mt M).sig.returnType = none) (dd : decode cc pc = .ok (.return_, 1)) (hP : P none h) : hp_V M G nL (hp_Q M G h0 P X) h pc lo [] := by
  intro H locs cells slots ls hR hl hL
  refine hp_tight C hR (fun hle hls => ?_)
  have b1 := hR.2.2.2.2.2.1
  have b2 := hR.2.2.2.2.2.2
  refine W.widen (k := hp_n0 G + hp_LC - hp_nx h0) (n := hp_LS - hp_sl h0) (by omega) (by omega) ?_
  refine vx_ret ?_
  exact W.vret C.ex C.bc hr (fun t ht hW => ⟨_, h, rfl, hP, by rw [ht]; exact hR, C.en.moved hW⟩) hl dd C.lk
/-- an exception of class E over this frame -/
def hp_VX (M : hpM) (G : hpG) (nL : Nat) (Q : State → Prop) (h : hpT) (pc : Nat) (lo : Nat → Option Value) (st : List Value) (E : String) : Prop :=
  ∀ (H : Heap) (locs : List Loc) (cells slots : Nat) (ls : Array Slot) (q : Addr) (ce : Cell), hp_R G h H → (∀ q ∈ locs, hp_n0 G ≤ q.base) → hp_L ls lo nL → H[q]? = some ce → ce.vm = .none → (hp_st M).vm.findClass E = some ce.cls → hp_WX M H locs cells slots Q (F0 (hp_mi4 M) pc ls st) q
/-- it leaves the method -/
theorem hp_out (C : hp_F M G y cc nL d h0) {E : String} (hx : ∀ x ∈ (hp_cd M).exceptionTable.toList, False) (hX : X E h) : hp_VX M G nL (hp_Q M G h0 P X) h pc lo st E := by
  intro H locs cells slots ls q ce hR hl hL hce hcv hcl
  refine hp_tightX C hR (fun hle hls => ?_)
  have b1 := hR.2.2.2.2.2.1
  have b2 := hR.2.2.2.2.2.2
  exact vx_out (fun x hx' => (hx x hx').elim) C.lk hce hcv hcl (fun t ht _ => ⟨h, hX, by rw [ht]; exact hR⟩) hl (by omega) (by omega)
/-- behind a call -/
theorem hp_run (C : hp_F M G y cc nL d h0) {H : Heap} {locs : List Loc} {cells slots mc ms : Nat} {ls : Array Slot} {st0 : List Value} {a : Array Value} {P' : Option Value → hpT → Prop} {X' : String → hpT → Prop}
    (run : vx_Run M.1 M.2.1 M.2.2.1 (hp_R4 M) (hp_st M) (hp_mi4 M) (hp_av M) (hp_bl M) (hp_mt M) (hp_cd M) H locs cells slots mc ms (F0 (hp_mi4 M) pc ls st0) st (hp_Qc G P' a) (hp_Xc G X') (fun q => hp_n0 G ≤ q)) (hl : ∀ q ∈ locs, hp_n0 G ≤ q.base) (hL : hp_L ls lo nL)
    (kk : ∀ v h', P' v h' → hp_V M G nL Q h' (pc + 3) lo (v.toList ++ st)) (kx : ∀ E h', X' E h' → hp_VX M G nL Q h' pc lo st E) : hp_W M H locs cells slots Q (F0 (hp_mi4 M) pc ls st0) := by
  intro T hT Y
  rcases run T hT Y with ⟨v, st₀, t, T', L, e0, Y', hL', e1, e2, ⟨v', h', ev, hP, hR', -⟩, go⟩ | ⟨q, st₀, t, T', L, E, ce, e0, Y', hL', e1, e2, ⟨h', hX, hR'⟩, hce, hcv, hcl, go⟩
  · cases ev
    obtain ⟨t2, a1, b1⟩ := kk v h' hP T'.heap (locs ++ L) _ _ ls (by rw [e1]; exact hR') (t_lL hl hL') hL T' rfl Y'
    exact ⟨t2, go t2 a1, b1⟩
  · obtain ⟨t2, a1, b1⟩ := kx E h' hX T'.heap (locs ++ L) _ _ ls q ce (by rw [e1]; exact hR') (t_lL hl hL') hL (by rw [e1]; exact hce) hcv hcl T' rfl Y'
    exact ⟨t2, go.trans a1, b1⟩
end HPE
