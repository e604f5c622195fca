/-! ===== calls, throws ===== -/
section HPT
variable {p : Program} {l : Launch} {e : Env} {R : Room} {s : State} {m : MethodId} {args : Array Value} {below : List Frame} {meth : Method} {c : Code} {H : Heap} {locs : List Loc} {cells slots : Nat} {Q : State → Prop}
variable {mc ms : Nat} {free : Addr → Prop} {A0 A1 : Nat → Prop} {H0 : Heap} {a : Array Value} {ls : Array Slot} {st0 rest : List Value}
variable {Qc : Array Value → State → Outcome → State → Prop} {XC : String → State → State → Prop}
theorem hp_throw0 {cc : ByteArray} {pc : Nat} (hexec : p.tables.exec = Jvm.exec) (hb : c.code = cc) (hl : l.stackTraces = false) {own cls : String} {names : List String} {ik ic mc ms : Nat} {A : Nat → Prop}
    (hown : s.vm.findClass own = some m.cls) (hcls : Bundle.fit cls = true) (hnames : ∀ n ∈ names, Bundle.fit n = true)
    (hk : (Cond.classLink own ik cls).before args s = true) (hini : (Cond.initialized cls).before args s = true) (hat : ∀ w ∈ vx_at0 own ic cls names, w.before args s = true)
    (hgood : ∀ w ∈ Cond.classLink own ik cls :: Cond.initialized cls :: vx_at0 own ic cls names, vx_ot w = true)
    (hU : vx_Zq Bundle.tN "UNASSIGNED_STACK" Bundle.steD A s s.heap) (hN : vx_Zq Bundle.tN "SUPPRESSED_SENTINEL" Bundle.listD A s s.heap) (hS : va_S A s.heap H locs) (hsize : ls.size = c.maxLocals)
    (d0 : decode cc pc = .ok (.new ik, 3)) (d3 : decode cc (pc + 3) = .ok (.dup, 1)) (d4 : decode cc (pc + 4) = .ok (.invokespecial ic, 3)) (d7 : decode cc (pc + 7) = .ok (.athrow, 1))
    (hout : ∀ x ∈ c.exceptionTable.toList, covers x (pc + 7) = false)
    (hRframes : names.length + 3 < R.frames) (hRlocals : (rest.map fun v => v.category).sum + (13 * (names.length + 1) + 42) ≤ R.locals) (hRcells : cells + 1 ≤ R.cells) (hRslots : slots + 6 ≤ R.slots) (hlocks : meth.locks = false)
    (hx : ∀ t : State, s.vm.Alike t.vm → t.heap.size = H.size + 1 → (∀ q : Nat, q < H.size → t.heap[q]? = H[q]?) → (∃ ce : Cell, t.heap[H.size]? = some ce ∧ ce.vm = .none ∧ ce.slots.size = 6) → XC cls s t)
    (hf : ∀ z ∈ locs, free z.base) (hc : cells + 1 ≤ mc) (hs : slots + 6 ≤ ms) :
    W p l e R s m args below meth c H locs cells slots (vx_MQ below Qc XC args s mc ms free) (F0 m pc ls rest) := by
  intro T hT X
  have htr : e.platform.stackTraces = false := (show e.platform.stackTraces = l.stackTraces by rw [X.admits.platform]).trans hl
  have Y := vx_rebase X (R' := { frames := R.frames, locals := R.locals, cells := 1, slots := 6 }) (Nat.le_refl _) (Nat.le_refl _) hRcells hRslots
  obtain ⟨s', hA⟩ : ∃ z, z = (T.setVm s.vm).setFrames (.invoking m args :: below) := ⟨_, rfl⟩
  rw [← hA] at Y
  have hvm : s'.vm = s.vm := by rw [hA]; rfl
  have hhp : s'.heap = H := by rw [hA]; exact hT
  have hW0 : s.WarmedH s'.vm := by rw [hvm]; exact State.WarmedH.refl s
  have hat' : ∀ w ∈ vx_at0 own ic cls names, w.before args s' = true := fun w hw => vx_ot_at hW0 hvm.symm (hgood w (List.mem_cons_of_mem _ (List.mem_cons_of_mem _ hw))) (hat w hw)
  have hk' : (Cond.classLink own ik cls).before args s' = true := vx_ot_at hW0 hvm.symm (hgood _ List.mem_cons_self) hk
  have hini' : (Cond.initialized cls).before args s' = true := vx_ot_at hW0 hvm.symm (hgood _ (List.mem_cons_of_mem _ List.mem_cons_self)) hini
  have hU' : vx_Zq Bundle.tN "UNASSIGNED_STACK" Bundle.steD A s' s'.heap := by rw [hhp]; exact vx_Zq.moved hW0.alike (hU.kept hS.2.1)
  have hN' : vx_Zq Bundle.tN "SUPPRESSED_SENTINEL" Bundle.listD A s' s'.heap := by rw [hhp]; exact vx_Zq.moved hW0.alike (hN.kept hS.2.1)
  have h : ∀ w ∈ Bundle.ownAtoms0 own ic cls names, w.before args s' = true := vx_own hat' (vx_isRefq hU'.1) (vx_isRefq hN'.1) hU'.2.word hN'.2.word
  have hown' : s'.vm.findClass own = some m.cls := by rw [hvm]; exact hown
  have hins : (Cond.instantiable cls 6).before args s' = true := h _ (by simp [Bundle.ownAtoms0])
  obtain ⟨vm₁, cX, kX, hfX, hkX, -, -, X₁, st1⟩ := Y.newCold hexec (own := own) (C := cls) (index := ik) (n := 6) hown' hk' hins hini'
    (g := F0 m pc ls rest) rfl (by rw [hb]; exact d0) (Nat.le_refl _) (Nat.le_refl _)
  generalize hT1 : (T.setVm vm₁).pushCell { cls := cX, slots := kX.instanceTypes.map defaultValue, vm := .none } = T1 at X₁ st1
  have hcat : (Value.ref T.heap.size).category = 1 := rfl
  have hcellA : T1.heap[T.heap.size]? = some (freshCell cX kX) := by rw [← hT1]; exact State.heap_pushCell_size _ _
  have d3' : decode c.code (pc + 3) = .ok (.dup, 1) := by rw [hb]; exact d3
  obtain ⟨U, hsteps, hrun, hend, hW, hsame, ce, hce, hO⟩ := X₁.ctorThrow0 hexec htr (own := own) (cls := cls) (names := names) (ic := ic) hown' hcls hnames h (fun x hx => nomatch hx) hfX hkX hcellA (by rw [hhp, hT]; exact Nat.le_refl _)
    (g := { method := m, pc := pc + 4, locals := ls, stack := .ref T.heap.size :: .ref T.heap.size :: rest, locked := none }) rfl hsize rfl rfl (rest := rest) rfl
    (by rw [hb]; exact d4) (by rw [hb]; exact d7) hout hRframes (by simp only [List.map_cons, List.sum_cons, hcat]; omega) hlocks
  obtain ⟨f1, f2⟩ := vx_frame hsame
  rw [hhp] at f1 f2
  have hWs : s.WarmedH U.vm := State.WarmedH.trans hW0 hW
  have hcl : s.vm.findClass cls = some ce.cls := by
    have h9 := hO.cls
    rw [hvm] at h9
    exact h9
  have hz9 : U.heap.size = H.size + 1 := by
    have g1 : U.heap.size ≤ s'.heap.size + (0 + 1) := hsame.2.2.1
    have g2 : T.heap.size < U.heap.size := (Array.getElem?_eq_some_iff.mp hce).1
    rw [hhp] at g1
    rw [hT] at g2
    omega
  have hall : s.sameButNew ({ U with vm := s.vm } : State) locs mc ms := by
    subst hA
    obtain ⟨e1, e2⟩ := hsame
    rw [State.setFrames_setFrames] at e1
    have h2 : (T.setVm s.vm).sameButNew ({ U with vm := s.vm } : State) [] (0 + 1) (0 + 6) := ⟨e1, e2⟩
    have h3 := X.same.trans h2
    rw [List.append_nil] at h3
    exact h3.mono hc hs
  refine ⟨U, ?_, .threw T.heap.size, hrun, hend, Or.inr ⟨T.heap.size, rfl, cls, ce, locs, hx U hWs.alike hz9 (fun q hq => f2 q hq (fun z hz => nomatch hz)) ⟨ce, by rw [← hT]; exact hce, hO.vm, hO.size⟩, hce, hO.vm, hcl, hWs, hall, hf⟩⟩
  refine st1 _ ?_
  show Steps p.tables e below (T1.setTop { method := m, pc := pc + 3, locals := ls, stack := .ref T.heap.size :: rest, locked := none }) _
  jvm_step X₁.here [X₁.here.top, hexec, d3', Value.category]
  exact hsteps
end HPT
/-- the pure heap with an exception's cell more -/
def hp_mkX (h : hpT) : hpT := (h.1 + 1, h.2.1 + 6, va_up (hp_kd h) h.1 20, h.2.2.2.1, h.2.2.2.2.1, h.2.2.2.2.2)
/-- own's pool: ik names the exception's class, ic its constructor -/
def hp_TL (own : String) (ik ic : Nat) (cls : String) : Prop := Bundle.fit cls = true ∧ Cond.classLink own ik cls ∈ hp_ws ∧ Cond.initialized cls ∈ hp_ws ∧
  (∀ w ∈ vx_at0 own ic cls ["java/lang/RuntimeException", "java/lang/Exception"], (w ∈ hp_ws ∧ goodWord w = true) ∨ (w ∈ hp_ow ∧ w.onTables = true)) ∧ (∀ w ∈ Cond.classLink own ik cls :: Cond.initialized cls :: vx_at0 own ic cls ["java/lang/RuntimeException", "java/lang/Exception"], vx_ot w = true)
section HPI
variable {M : hpM} {G : hpG} {y : MethodName} {cc : ByteArray} {nL d : Nat} {h0 h : hpT} {Q : State → Prop} {pc : Nat} {lo : Nat → Option Value} {st : List Value} {P : Option Value → hpT → Prop} {X : String → hpT → Prop}
theorem hp_R.old {H : Heap} {locs : List Loc} (hR : hp_R G h H) (hR0 : hp_R G h0 (hp_st M).heap) (hl : ∀ q ∈ locs, hp_n0 G ≤ q.base) (hle : hp_nx h0 ≤ hp_nx h) : va_S (fun q => hp_n0 G ≤ q) (hp_st M).heap H locs :=
  ⟨by rw [hR0.2.1, hR.2.1]; exact hle, fun q _ hq => by rw [hR.2.2.1 q (by omega), hR0.2.2.1 q (by omega)], hl⟩
theorem hp_athrow (C : hp_F M G y cc nL d h0) {ik ic : Nat} {cls : String} (tl : hp_TL y.cls ik ic cls) (hd : 6 ≤ d) (d0 : decode cc pc = .ok (.new ik, 3)) (d3 : decode cc (pc + 3) = .ok (.dup, 1)) (d4 : decode cc (pc + 4) = .ok (.invokespecial ic, 3)) (d7 : decode cc (pc + 7) = .ok (.athrow, 1))
    (hx : ∀ x ∈ (hp_cd M).exceptionTable.toList, False) (hst : (st.map fun v => v.category).sum ≤ 100) (hcl : hp_nx h + 1 ≤ hp_n0 G + hp_LC) (hsl : hp_sl h + 6 ≤ hp_LS) (hX : X cls (hp_mkX h)) : hp_V M G nL (hp_Q M G h0 P X) h pc lo st := by
  obtain ⟨hfit, w1, w2, w3, w4⟩ := tl
  intro H locs cells slots ls hR hl hL
  refine hp_tight C hR (fun hle hls => ?_)
  have rc := C.rc
  have rs := C.rs
  have rf := C.rf
  have rl := C.rl
  have hold := hR.old (M := M) (h0 := h0) C.he hl hle
  have hz0 : ∀ q : Nat, q < (hp_H0 G).size → ¬ (fun q => hp_n0 G ≤ q) q → (hp_st M).heap[q]? = (hp_H0 G)[q]? := fun q _ hq => C.he.2.2.1 q (by have : ¬ hp_n0 G ≤ q := hq; omega)
  refine hp_throw0 (names := ["java/lang/RuntimeException", "java/lang/Exception"]) C.ex C.bc C.tr C.own hfit (by decide +kernel) (C.ws _ w1) (C.ws _ w2) ?_ w4 (C.en.2.2.1.kept hz0) (C.en.2.2.2.1.kept hz0) hold (hL.1.trans C.ml.symm) d0 d3 d4 d7 (fun x hx' => (hx x hx').elim) (by show 2 + 3 < _; omega) (by show _ + (13 * (2 + 1) + 42) ≤ _; omega) (by omega) (by omega) C.lk ?_ hl (by omega) (by omega)
  · intro w hw
    rcases w3 w hw with ⟨a1, -⟩ | ⟨a1, a2⟩
    · exact C.ws w a1
    · exact va_Nw.use a2 (C.en.2.1 w a1)
  · intro t _ z1 o1 hce
    obtain ⟨ce, c1, c2, c3⟩ := hce
    have hsz := hR.2.1
    refine ⟨hp_mkX h, hX, hR.new (n := 6) hcl hsl rfl rfl z1 o1 ?_ (fun b hb => va_up_ne _ _ (Nat.ne_of_lt hb)) (fun b hb => rfl) (fun f b hb => rfl) (fun b hb => rfl) ?_⟩
    · unfold hp_sz
      rw [c1]
      exact c3
    · rw [hsz] at c1
      exact Or.inr (Or.inr ⟨by show 20 ≤ va_up (hp_kd h) (hp_nx h) 20 (hp_nx h); rw [va_up_self]; exact Nat.le_refl _, ce, c1, c2⟩)
theorem hp_gin {wd : Cond} (hw : wd ∈ hp_ws) : GoodIn hp_ws (wd :: hp_ws) := fun w h => (List.mem_cons.mp h).elim (fun e => by rw [e]; exact hp_ws_good wd hw) (fun h => hp_ws_good w h)
theorem hp_blind {av : List Value} : FrameBlind (va_Pc av (fun U => hp_R G h U.heap ∧ hp_E G U)) := fun a U g mk q => ⟨q.1, q.2.1, hp_E.moved (u := U) (U := U.calling g mk a) (State.WarmedH.refl U) q.2.2⟩
/-- own's pool: idx names method y, whose code's word is wd -/
def hp_ML (own : String) (idx : Nat) (y : MethodName) (cc : ByteArray) (maxL : Nat) (ret : Option FieldType) (n : Nat) : Prop := Cond.code y cc maxL ret ∈ hp_ws ∧ Cond.initialized y.cls ∈ hp_ws ∧ Cond.methodLink own idx y ∈ hp_ws ∧ (y.cls ≠ "java/lang/invoke/MethodHandle" ∧ y.cls ≠ "java/lang/invoke/VarHandle" ∧ (parseMethodDescriptor y.desc).map (fun d => d.parameters.length) = some n) ∧ maxL ≤ 22
theorem hp_cb (C : hp_F M G y cc nL d h0) {idx n maxL d' : Nat} {y' : MethodName} {cc' : ByteArray} {ret : Option FieldType} (ml : hp_ML y.cls idx y' cc' maxL ret n) (hd : d' + 1 ≤ d) : CallB (hp_R4 M) (hp_st M) (hp_av M) y.cls idx y' cc' maxL ret (.code y' cc' maxL ret :: hp_ws) (hp_rm G d' h) (hp_rm G d' h).cells (hp_rm G d' h).slots n := by
  obtain ⟨w1, w2, w3, hn, hm⟩ := ml
  have rf := C.rf
  have rl := C.rl
  exact callB_of n C.ws (hp_gin w1) rfl rfl rfl (C.ws _ w2) (C.ws _ w3) hn ⟨by show d' + 1 ≤ _; omega, by show 8 + (maxL + 11) + 41 * d' ≤ _; omega⟩
theorem hp_room (C : hp_F M G y cc nL d h0) {H : Heap} (hR : hp_R G h H) (hle : hp_nx h0 ≤ hp_nx h) (hls : hp_sl h0 ≤ hp_sl h) (d' : Nat) : hp_nx h - hp_nx h0 + (hp_rm G d' h).cells ≤ (hp_R4 M).cells ∧ hp_sl h - hp_sl h0 + (hp_rm G d' h).slots ≤ (hp_R4 M).slots := by
  have rc := C.rc
  have rs := C.rs
  have b1 := hR.2.2.2.2.2.1
  have b2 := hR.2.2.2.2.2.2
  constructor
  · show hp_nx h - hp_nx h0 + (hp_n0 G + hp_LC - hp_nx h) ≤ _
    omega
  · show hp_sl h - hp_sl h0 + (hp_LS - hp_sl h) ≤ _
    omega
theorem hp_recv (C : hp_F M G y cc nL d h0) {H : Heap} {b ci : Nat} {cn : String} (hR : hp_R G h H) (hi : hp_is G h b ci) (h10 : ci < 10) (hci : (vwCl[ci]?).map (fun r => r.1) = some cn) : ∃ cellB : Cell, H[b]? = some cellB ∧ cellB.vm.isStatics = false ∧ (hp_st M).vm.findClass cn = some cellB.cls := by
  obtain ⟨r, hr, cell, q1, q2, q3, -⟩ := hR.obj hi h10
  rw [hr] at hci
  have e : r.1 = cn := Option.some.inj hci
  exact ⟨cell, q1, by rw [q3]; rfl, by rw [q2, ← e]; exact (C.en.1.1 ci r hr).2.1⟩
theorem hp_pre (C : hp_F M G y cc nL d h0) {H : Heap} {av : List Value} (hR : hp_R G h H) : ∀ U : State, U.heap = H → (hp_st M).WarmedH U.vm → va_Pc av (fun U => hp_R G h U.heap ∧ hp_E G U) av.toArray U := fun U hU hW => ⟨rfl, by rw [hU]; exact hR, C.en.moved hW⟩
/-- invokevirtual of a method of the receiver's own class -/
theorem hp_callV (C : hp_F M G y cc nL d h0) {idx n maxL d' ci b : Nat} {y' : MethodName} {cc' : ByteArray} {ret : Option FieldType} {As stk : List Value} {P' : Option Value → hpT → Prop} {X' : String → hpT → Prop} (ml : hp_ML y.cls idx y' cc' maxL ret n) (w1 : Cond.instanceMethod y' ∈ hp_ws) (w2 : Cond.selects y'.cls y' y' ∈ hp_ws) (hci : (vwCl[ci]?).map (fun r => r.1) = some y'.cls) (h10 : ci < 10)
    (con : hp_C M.2.1 G y' (.code y' cc' maxL ret) d' (.ref b :: As) h P' X') (hd : d' + 1 ≤ d) (dd : decode cc pc = .ok (.invokevirtual idx, 3)) (hi : hp_is G h b ci) (hn : As.length = n) (hst : stk = As.reverse ++ .ref b :: st) (hw : (st.map fun v => v.category).sum ≤ 8)
    (kk : ∀ v h', P' v h' → hp_V M G nL Q h' (pc + 3) lo (v.toList ++ st)) (kx : ∀ E h', X' E h' → hp_VX M G nL Q h' pc lo st E) : hp_V M G nL Q h pc lo stk := by
  intro H locs cells slots ls hR hl hL
  refine hp_tight C hR (fun hle hls => ?_)
  exact hp_run C (vx_runV (Ts := hp_ws) (C := y'.cls) (g := F0 (hp_mi4 M) pc ls stk) ⟨C.ex, C.bc, C.ml, C.own, C.ws⟩ (con C.tr) ⟨hp_cb (h := h) C ml hd, C.ws _ w1, C.ws _ w2⟩ ⟨hp_blind, hp_recv C hR hi h10 hci, hp_pre C hR⟩ rfl hn hL.1 hst (lv_room hw) dd (hp_room C hR hle hls d')) hl hL kk kx
/-- invokestatic -/
theorem hp_callS (C : hp_F M G y cc nL d h0) {idx n maxL d' : Nat} {y' : MethodName} {cc' : ByteArray} {ret : Option FieldType} {As stk : List Value} {P' : Option Value → hpT → Prop} {X' : String → hpT → Prop} (ml : hp_ML y.cls idx y' cc' maxL ret n) (w1 : Cond.static y' ∈ hp_ws)
    (con : hp_C M.2.1 G y' (.code y' cc' maxL ret) d' As h P' X') (hd : d' + 1 ≤ d) (dd : decode cc pc = .ok (.invokestatic idx, 3)) (hn : As.length = n) (hst : stk = As.reverse ++ st) (hw : (st.map fun v => v.category).sum ≤ 8)
    (kk : ∀ v h', P' v h' → hp_V M G nL Q h' (pc + 3) lo (v.toList ++ st)) (kx : ∀ E h', X' E h' → hp_VX M G nL Q h' pc lo st E) : hp_V M G nL Q h pc lo stk := by
  intro H locs cells slots ls hR hl hL
  refine hp_tight C hR (fun hle hls => ?_)
  exact hp_run C (vx_runS (Ts := hp_ws) (g := F0 (hp_mi4 M) pc ls stk) ⟨C.ex, C.bc, C.ml, C.own, C.ws⟩ (con C.tr) ⟨hp_cb (h := h) C ml hd, C.ws _ w1⟩ ⟨hp_blind, hp_pre C hR⟩ rfl hn hL.1 hst (lv_room hw) dd (hp_room C hR hle hls d')) hl hL kk kx
/-- a contract that never throws, as the kit's own -/
theorem hp_C.met {l : Launch} {wd : Cond} {av : List Value} {P' : Option Value → hpT → Prop} {d' : Nat} (con : hp_C l G y wd d' av h P' (fun _ _ => False)) (hl : l.stackTraces = false) : Met l y (wd :: hp_ws) (hp_rm G d' h) (va_Pc av (fun U => hp_R G h U.heap ∧ hp_E G U)) (hp_Qc G P') (hp_rm G d' h).cells (hp_rm G d' h).slots (fun q => hp_n0 G ≤ q) := by
  intro p e ha hc hk s m args below hf happ hP hK
  obtain ⟨n, o, h1, h2, h3, hq⟩ := con hl p e ha hc hk s m args below hf happ hP hK
  refine ⟨n, o, h1, h2, h3, ?_⟩
  rcases hq with hq | ⟨q, -, E, ce, L, ⟨h', hf', -⟩, -⟩
  · exact hq
  · exact hf'.elim
theorem hp_ofRun {H : Heap} {locs : List Loc} {cells slots mc ms : Nat} {g : JFrame} {Qa : State → Outcome → State → Prop} {free : Addr → Prop} {XC : String → State → State → Prop}
    (run : va_Run M.1 M.2.1 M.2.2.1 (hp_R4 M) (hp_st M) (hp_mi4 M) (hp_av M) (hp_bl M) (hp_mt M) (hp_cd M) H locs cells slots mc ms g st Qa free) : vx_Run M.1 M.2.1 M.2.2.1 (hp_R4 M) (hp_st M) (hp_mi4 M) (hp_av M) (hp_bl M) (hp_mt M) (hp_cd M) H locs cells slots mc ms g st Qa XC free := fun T hT Y => Or.inl (run T hT Y)
/-- invokespecial of a constructor -/
theorem hp_callI (C : hp_F M G y cc nL d h0) {idx n maxL d' b : Nat} {y' : MethodName} {cc' : ByteArray} {As stk : List Value} {P' : Option Value → hpT → Prop} (ml : hp_ML y.cls idx y' cc' maxL none n) (w1 : Cond.instanceMethod y' ∈ hp_ws) (hy' : y'.name = "<init>")
    (con : hp_C M.2.1 G y' (.code y' cc' maxL none) d' (.ref b :: As) h P' (fun _ _ => False)) (hd : d' + 1 ≤ d) (dd : decode cc pc = .ok (.invokespecial idx, 3)) (hn : As.length = n) (hst : stk = As.reverse ++ .ref b :: st) (hw : (st.map fun v => v.category).sum ≤ 8)
    (kk : ∀ v h', P' v h' → hp_V M G nL Q h' (pc + 3) lo (v.toList ++ st)) : hp_V M G nL Q h pc lo stk := by
  intro H locs cells slots ls hR hl hL
  refine hp_tight C hR (fun hle hls => ?_)
  exact hp_run C (X' := fun _ _ => False) (hp_ofRun (va_runI (Ts := hp_ws) (g := F0 (hp_mi4 M) pc ls stk) ⟨C.ex, C.bc, C.ml, C.own, C.ws⟩ (con.met C.tr) ⟨hp_cb (h := h) C ml hd, hy', C.ws _ w1⟩ ⟨hp_blind, hp_pre C hR⟩ rfl hn hL.1 hst (lv_room hw) dd (hp_room C hR hle hls d'))) hl hL kk (fun _ _ hf => hf.elim)
/-- .. of a nest mate's private constructor -/
theorem hp_callIN (C : hp_F M G y cc nL d h0) {idx n maxL d' b : Nat} {y' : MethodName} {host : String} {cc' : ByteArray} {As stk : List Value} {P' : Option Value → hpT → Prop} (w0 : Cond.code y' cc' maxL none ∈ hp_ws) (w2 : Cond.initialized y'.cls ∈ hp_ws) (w3 : Cond.methodLinkNest y.cls idx y' host ∈ hp_ow) (hnm : y'.cls ≠ "java/lang/invoke/MethodHandle" ∧ y'.cls ≠ "java/lang/invoke/VarHandle" ∧ (parseMethodDescriptor y'.desc).map (fun d => d.parameters.length) = some n) (hm : maxL ≤ 22) (w1 : Cond.instanceMethod y' ∈ hp_ws) (hy' : y'.name = "<init>")
    (con : hp_C M.2.1 G y' (.code y' cc' maxL none) d' (.ref b :: As) h P' (fun _ _ => False)) (hd : d' + 1 ≤ d) (dd : decode cc pc = .ok (.invokespecial idx, 3)) (hn : As.length = n) (hst : stk = As.reverse ++ .ref b :: st) (hw : (st.map fun v => v.category).sum ≤ 8)
    (kk : ∀ v h', P' v h' → hp_V M G nL Q h' (pc + 3) lo (v.toList ++ st)) : hp_V M G nL Q h pc lo stk := by
  intro H locs cells slots ls hR hl hL
  refine hp_tight C hR (fun hle hls => ?_)
  have rf := C.rf
  have rl := C.rl
  exact hp_run C (X' := fun _ _ => False) (hp_ofRun (va_runIN (Ts := hp_ws) (host := host) (g := F0 (hp_mi4 M) pc ls stk) ⟨C.ex, C.bc, C.ml, C.own, C.ws⟩ (con.met C.tr) ⟨va_cnB n C.ws (hp_gin w0) rfl rfl rfl (C.en.2.1 _ w3) (C.ws _ w2) hnm ⟨by show d' + 1 ≤ _; omega, by show 8 + (maxL + 11) + 41 * d' ≤ _; omega⟩, hy', C.ws _ w1⟩ ⟨hp_blind, hp_pre C hR⟩ rfl hn hL.1 hst (lv_room hw) dd (hp_room C hR hle hls d'))) hl hL kk (fun _ _ hf => hf.elim)
/-- invokevirtual of a method that another class declares (owner; abstract), on a receiver of class cn -/
theorem hp_callA (C : hp_F M G y cc nL d h0) {idx n maxL d' ci b : Nat} {x' y' : MethodName} {cn : String} {cc' : ByteArray} {ret : Option FieldType} {As stk : List Value} {P' : Option Value → hpT → Prop} (w0 : Cond.code y' cc' maxL ret ∈ hp_ws) (w1 : Cond.methodLink y.cls idx x' ∈ hp_ws) (w2 : Cond.sameMethod x'.cls x'.cls x'.name x'.desc ∈ hp_ws) (w3 : Cond.selects cn x' y' ∈ hp_ws) (w4 : Cond.instanceMethod y' ∈ hp_ws) (w5 : Cond.initialized y'.cls ∈ hp_ws) (w6 : Cond.declares x' ∈ hp_ow)
    (hnm : x'.cls ≠ "java/lang/invoke/MethodHandle" ∧ x'.cls ≠ "java/lang/invoke/VarHandle" ∧ (parseMethodDescriptor x'.desc).map (fun d => d.parameters.length) = some n) (hm : maxL ≤ 22) (hci : (vwCl[ci]?).map (fun r => r.1) = some cn) (h10 : ci < 10)
    (con : hp_C M.2.1 G y' (.code y' cc' maxL ret) d' (.ref b :: As) h P' (fun _ _ => False)) (hd : d' + 1 ≤ d) (dd : decode cc pc = .ok (.invokevirtual idx, 3)) (hi : hp_is G h b ci) (hn : As.length = n) (hst : stk = As.reverse ++ .ref b :: st) (hw : (st.map fun v => v.category).sum ≤ 8)
    (kk : ∀ v h', P' v h' → hp_V M G nL Q h' (pc + 3) lo (v.toList ++ st)) : hp_V M G nL Q h pc lo stk := by
  intro H locs cells slots ls hR hl hL
  refine hp_tight C hR (fun hle hls => ?_)
  have rf := C.rf
  have rl := C.rl
  have hG : GoodIn hp_ws (va_wsU y.cls idx cn x'.cls x' y' (.code y' cc' maxL ret :: hp_ws)) := by
    intro w hw
    unfold va_wsU at hw
    rcases List.mem_append.mp hw with hw | hw
    · simp only [List.mem_cons, List.not_mem_nil, or_false] at hw
      rcases hw with rfl | rfl | rfl | rfl | rfl
      · exact hp_ws_good _ w1
      · exact hp_ws_good _ w2
      · exact hp_ws_good _ w3
      · exact hp_ws_good _ w4
      · exact hp_ws_good _ w5
    · exact hp_gin w0 w hw
  exact hp_run C (X' := fun _ _ => False) (hp_ofRun (va_runU (Ts := hp_ws) (C := cn) (owner := x'.cls) (x := x') (g := F0 (hp_mi4 M) pc ls stk) ⟨C.ex, C.bc, C.ml, C.own, C.ws⟩ (con.met C.tr) (va_cwA n C.ws hG rfl rfl rfl (C.en.2.1 _ w6) hnm ⟨by show d' + 1 ≤ _; omega, by show 8 + (maxL + 11) + 41 * d' ≤ _; omega⟩) ⟨hp_blind, hp_recv C hR hi h10 hci, hp_pre C hR⟩ rfl hn hL.1 hst (lv_room hw) dd (hp_room C hR hle hls d'))) hl hL kk (fun _ _ hf => hf.elim)
/-- Object's constructor -/
theorem hp_obj (C : hp_F M G y cc nL d h0) {idx a : Nat} (w1 : Cond.methodLink y.cls idx objectInit ∈ hp_ws) (w2 : Cond.instanceMethod objectInit ∈ hp_ws) (w3 : Cond.code objectInit ⟨#[0xb1]⟩ 1 none ∈ hp_ws) (hd : 1 ≤ d) (dd : decode cc pc = .ok (.invokespecial idx, 3)) (hw : (st.map fun v => v.category).sum ≤ 8) (kk : hp_V M G nL Q h (pc + 3) lo st) : hp_V M G nL Q h pc lo (.ref a :: st) := by
  intro H locs cells slots ls hR hl hL
  have rf := C.rf
  have rl := C.rl
  refine W.objInit C.ex C.bc C.own (C.ws _ w1) (C.ws _ w2) (C.ws _ w3) rfl (hL.1.trans C.ml.symm) rfl dd (by omega) (by show 2 * 0 + _ + 12 ≤ _; omega) ?_
  exact kk H locs cells slots ls hR hl hL
end HPI
