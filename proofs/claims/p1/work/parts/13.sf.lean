/-! ===== a catch whose class may still have to be linked; an array of arrays of ints: over what a round reads by itself ===== -/
section SF0
variable {E : CtlPost} {e : Env} {d : Bool} {acts : List Action} {S s0 : State} {f : JFrame} {q : Addr} {Q : Handler → Pre}
/-- a row that covers the place and names a class: as from the tables that linking the class leaves -/
theorem sf_warm {x : ExceptionTableEntry} {t : List ExceptionTableEntry} {c : ClassId} {vm' : Vm} (hsz : vm'.classes.size ≤ S.vm.classes.size) (hx : covers x f.pc = true) (h0 : x.catchType ≠ 0)
    (hg : (Jvm.resolveClass f.method.cls x.catchType).Gives e.toSetting S.vm (.ok c) vm') (hr : vm'.classReady f.method.cls x.catchType c) {ce : Cell} (hce : S.heap[q]? = some ce) (hv : ∀ k, ce.vm ≠ .statics k)
    (k1 : ∃ k, vm'.classes[ce.cls]? = some k) (k2 : ∃ k, vm'.classes[c]? = some k) :
    wp (findHandler.go f q (x :: t)) Q E e d acts S ↔ (if vm'.assignable ce.cls c = true then Q (.found x.handlerPc) d acts (S.setVm vm') else wp (findHandler.go f q t) Q E e d acts (S.setVm vm')) := by
  obtain ⟨ha, ht⟩ := hg.op (op := VmOp.resolveClass f.method.cls x.catchType) rfl
  simp only [covers] at hx
  cases hf : vm'.assignable ce.cls c <;> simp [findHandler.go, hx, h0, ha, ht, hsz, hce, hv, k1, k2, hf, VmOp.dirties, VmOp.acts]
/-- the search: the rows of pre let the object by, x takes it; what was linked on the way stays linked -/
theorem sf_search {ce : Cell} (hv : ∀ k, ce.vm ≠ .statics k) (hk : ∃ k, s0.vm.classes[ce.cls]? = some k) {x : ExceptionTableEntry} {suf : List ExceptionTableEntry} (hx : covers x f.pc = true) (h0 : x.catchType ≠ 0)
    {cx : ClassId} (lx : s0.vm.ClassLinks e.platform f.method.cls x.catchType cx) (fx : s0.vm.assignable ce.cls cx = true) (pre : List ExceptionTableEntry) :
    ∀ S : State, s0.WarmedH S.vm → S.heap[q]? = some ce →
      (∀ z ∈ pre, covers z f.pc = false ∨ (z.catchType ≠ 0 ∧ ∃ cz, s0.vm.ClassLinks e.platform f.method.cls z.catchType cz ∧ s0.vm.assignable ce.cls cz = false)) →
      ∃ vm', s0.WarmedH vm' ∧ ∀ (Q : Handler → Pre) (E : CtlPost) (d : Bool) (acts : List Action), wp (findHandler.go f q (pre ++ x :: suf)) Q E e d acts S ↔ Q (.found x.handlerPc) d acts (S.setVm vm') := by
  have link : ∀ {S : State} {z : ExceptionTableEntry} {cz : ClassId}, s0.WarmedH S.vm → s0.vm.ClassLinks e.platform f.method.cls z.catchType cz →
      ∃ vm', vm'.classes.size ≤ S.vm.classes.size ∧ (Jvm.resolveClass f.method.cls z.catchType).Gives e.toSetting S.vm (.ok cz) vm' ∧ s0.WarmedH vm' ∧ vm'.classReady f.method.cls z.catchType cz ∧ (∃ k, vm'.classes[ce.cls]? = some k) ∧ (∃ k, vm'.classes[cz]? = some k) ∧
        ∀ b : Bool, s0.vm.assignable ce.cls cz = b → vm'.assignable ce.cls cz = b := by
    intro S z cz hW hl
    obtain ⟨g1, g2, g3⟩ := State.classEntry (e := e) hW hl
    obtain ⟨k0, hk0⟩ := hk
    obtain ⟨k0', hk0', -⟩ := g2.alike.2.2 _ _ hk0
    obtain ⟨_, _, _, kc, _, _, _, _, _, hkc, _, _⟩ := hl.here
    obtain ⟨kc', hkc', -⟩ := g2.alike.2.2 _ _ hkc
    exact ⟨_, by no_record, g1, g2, g3, ⟨k0', hk0'⟩, ⟨kc', hkc'⟩, fun b hb => by rw [g2.alike.assignable]; exact hb⟩
  induction pre with
  | nil =>
    intro S hW hc _
    obtain ⟨vm', hz, g1, g2, g3, k1, k2, hb⟩ := link (z := x) hW lx
    refine ⟨vm', g2, fun Q E d acts => ?_⟩
    rw [List.nil_append, sf_warm hz hx h0 g1 g3 hc hv k1 k2, if_pos (hb _ fx)]
  | cons z zs ih =>
    intro S hW hc hp
    have hp' : ∀ y ∈ zs, _ := fun y hy => hp y (List.mem_cons_of_mem _ hy)
    rcases hp z (List.mem_cons_self ..) with hn | ⟨hz0, cz, lz, nz⟩
    · obtain ⟨vm', g2, hq⟩ := ih S hW hc hp'
      exact ⟨vm', g2, fun Q E d acts => by rw [List.cons_append, W.findHandler_go_skip hn]; exact hq Q E d acts⟩
    · cases hcov : covers z f.pc
      · obtain ⟨vm', g2, hq⟩ := ih S hW hc hp'
        exact ⟨vm', g2, fun Q E d acts => by rw [List.cons_append, W.findHandler_go_skip hcov]; exact hq Q E d acts⟩
      · obtain ⟨vm1, hz, g1, g2, g3, k1, k2, hb⟩ := link (z := z) hW lz
        obtain ⟨vm', g4, hq⟩ := ih (S.setVm vm1) g2 hc hp'
        exact ⟨vm', g4, fun Q E d acts => by
          rw [List.cons_append, sf_warm hz hcov hz0 g1 g3 hc hv k1 k2, if_neg (by rw [hb _ nz]; decide)]
          exact hq Q E d acts⟩
end SF0
section SF1
variable {p : Program} {l : Launch} {e : Env} {R : Room} {s : State} {m : MethodId} {args : Array Value} {below : List Frame} {meth : Method} {c : Code} {T : State} {locs : List Loc} {cells slots : Nat}
/-- the note 'q is thrown' over the frame g of this method, and a row that takes it: on at the row's place -/
theorem sf_caught (X : Stand p l e R s m args below meth c T locs cells slots) {g : JFrame} (hg : g.method = m) {q : Addr} {ce : Cell} (hce : T.heap[q]? = some ce) (hv : ce.vm = .none) (hk : ∃ k, s.vm.classes[ce.cls]? = some k)
    (pre : List ExceptionTableEntry) (x : ExceptionTableEntry) (suf : List ExceptionTableEntry) (hsplit : c.exceptionTable.toList = pre ++ x :: suf)
    (hpass : ∀ z ∈ pre, covers z g.pc = false ∨ (z.catchType ≠ 0 ∧ ∃ cz, s.vm.ClassLinks e.platform m.cls z.catchType cz ∧ s.vm.assignable ce.cls cz = false))
    (hx : covers x g.pc = true) (h0 : x.catchType ≠ 0) {cx : ClassId} (lx : s.vm.ClassLinks e.platform m.cls x.catchType cx) (fx : s.vm.assignable ce.cls cx = true) :
    ∃ vm', Stand p l e R s m args below meth c (T.setVm vm') locs cells slots ∧ Steps p.tables e below ((T.setTop g).pushFrame (.throwing q)) ((T.setVm vm').setTop { g with pc := x.handlerPc, stack := [.ref q] }) := by
  subst hg
  obtain ⟨vm', hW, hq⟩ := sf_search (e := e) (f := g) (q := q) (s0 := s) (ce := ce) (fun k => by rw [hv]; intro h; cases h) hk (suf := suf) hx h0 lx fx pre ((T.setTop g).pushFrame (.throwing q)) X.warmed hce hpass
  refine ⟨vm', X.noted hW, ?_⟩
  obtain ⟨hgo, hw⟩ := X.here.throwing (g := g) q
  refine Steps.head hgo hw ?_
  have hm : ((T.setTop g).pushFrame (.throwing q)).vm.method? g.method = some meth := X.method'
  have hres : (stepThrowing e ((T.setTop g).pushFrame (.throwing q)) q (.java g :: T.frames.tail)).Is ((((T.setTop g).pushFrame (.throwing q)).setVm vm').setFrames (.java { g with pc := x.handlerPc, stack := [.ref q] } :: T.frames.tail)) [] := by
    simp only [stepThrowing, searchFrame, vmDo]
    generalize hr : Sem.go _ e false [] ((T.setTop g).pushFrame (.throwing q)) = res
    obtain ⟨as, rfl, ha⟩ := Sem.eq_ok_of hr (a := Handler.found x.handlerPc) (s' := ((T.setTop g).pushFrame (.throwing q)).setVm vm') (acts' := [])
      (by simp [W.findHandler_eq hm X.code, hsplit, hq])
    exact ⟨rfl, ha⟩
  rw [stepThread_throwing (frames_entered X.here.top _), hres.1]
  obtain ⟨g₀, hg₀⟩ := Option.isSome_iff_exists.mp X.here.top
  obtain ⟨r, hr⟩ := State.topJava?_eq_some.mp hg₀
  have e1 : (((T.setTop g).pushFrame (.throwing q)).setVm vm').setFrames (.java { g with pc := x.handlerPc, stack := [.ref q] } :: T.frames.tail) = (T.setVm vm').setTop { g with pc := x.handlerPc, stack := [.ref q] } := by
    have hr' : (T.setVm vm').frames = .java g₀ :: r := hr
    rw [State.setTop_of_frames _ hr', State.pushFrame, State.setTop_of_frames _ hr, hr]
    show (((T.setVm vm').setFrames _).setFrames _).setFrames _ = _
    rw [State.setFrames_setFrames, State.setFrames_setFrames]
    rfl
  rw [e1]
  exact Steps.refl _
end SF1
section SF2
/-- the class over arrays of t, by its word -/
theorem sf_over {args : Array Value} {first s : State} {o : Option Outcome} {idx : List Nat} {t : FieldType} (h : (Cond.arrayOver (.array t)).holds args first o s idx = true) :
    ∃ comp c k, s.vm.findClass (FieldType.array t).toString = some comp ∧ s.vm.classes[c]? = some k ∧ k.kind = .array comp (.array t) ∧ s.vm.findClass ("[" ++ (FieldType.array t).toString) = some c := by
  rcases hc : s.vm.findClass (FieldType.array t).toString with _ | comp
  · simp [Cond.holds, Cond.value, hc] at h
  · simp only [Cond.holds, Cond.value, hc, beq_iff_eq, Option.bind_some, Option.bind_eq_some_iff, Option.map_eq_some_iff] at h
    obtain ⟨c, hi, k, hk, hb⟩ := h
    have h9 : (match k.kind with | .array component _ => component == comp | _ => false) = true := by
      obtain ⟨hlt, h1, -⟩ := Array.findIdx?_eq_some_iff_getElem.mp hi
      rw [(Array.getElem?_eq_some_iff.mp hk).2] at h1
      exact h1
    refine ⟨comp, c, k, rfl, hk, ?_, ?_⟩ <;> (cases hkk : k.kind <;> rw [hkk] at hb h9 <;> simp at hb h9)
    · rw [hb.1, h9]
    · exact hb.2
/-- the outer array behind i inner ones; the inner one -/
abbrev sf_o (cA : ClassId) (N z i : Nat) : Cell := arrV cA N (fun j => if j < i then .ref (z + 1 + j) else .null)
abbrev sf_n (cI : ClassId) (K : Nat) : Cell := arrV cI K (fun _ => .int 0)
theorem sf_o0 (cA : ClassId) (N z : Nat) : ({ cls := cA, slots := Array.replicate N .null, vm := .none } : Cell) = sf_o cA N z 0 :=
  (arrV_new cA N .null).trans (congrArg (arrV cA N) (by funext j; rw [if_neg (Nat.not_lt_zero j)]))
theorem sf_oS (cA : ClassId) (N z i : Nat) : (sf_o cA N z i).setSlot i (.ref (z + 1 + i)) = sf_o cA N z (i + 1) := by
  rw [arrV_store]
  refine congrArg (arrV cA N) ?_
  funext j
  unfold updV
  by_cases e : j = i
  · subst e
    rw [if_pos rfl, if_pos (Nat.lt_succ_self _)]
  · rw [if_neg e]
    show (if j < i then Value.ref (z + 1 + j) else Value.null) = _
    by_cases c : j < i
    · rw [if_pos c, if_pos (by omega)]
    · rw [if_neg c, if_neg (by omega)]
/-- the state behind the outer array and i inner ones -/
def sf_T (T : State) (cA cI : ClassId) (N K z : Nat) : Nat → State
  | 0 => T.pushCell (sf_o cA N z 0)
  | i + 1 => ((sf_T T cA cI N K z i).pushCell (sf_n cI K)).setCell z (sf_o cA N z (i + 1))
theorem sf_Tvm (T : State) (cA cI : ClassId) (N K z : Nat) : ∀ i, (sf_T T cA cI N K z i).vm = T.vm
  | 0 => rfl
  | i + 1 => sf_Tvm T cA cI N K z i
theorem sf_Ttop (T : State) (cA cI : ClassId) (N K z : Nat) (f : JFrame) : ∀ i, sf_T (T.setTop f) cA cI N K z i = (sf_T T cA cI N K z i).setTop f
  | 0 => rfl
  | i + 1 => by
    show ((sf_T (T.setTop f) cA cI N K z i).pushCell _).setCell z _ = _
    rw [sf_Ttop T cA cI N K z f i]
    rfl
theorem sf_Tjava (T : State) (cA cI : ClassId) (N K z : Nat) : ∀ i, (sf_T T cA cI N K z i).topJava? = T.topJava?
  | 0 => rfl
  | i + 1 => sf_Tjava T cA cI N K z i
theorem sf_Tused (T : State) (cA cI : ClassId) (N K z : Nat) : ∀ i, (sf_T T cA cI N K z i).slotsUsed = T.slotsUsed + N + i * K
  | 0 => by
    show T.slotsUsed + (sf_o cA N z 0).slots.size = _
    rw [arrV_size]; omega
  | i + 1 => by
    show (sf_T T cA cI N K z i).slotsUsed + (sf_n cI K).slots.size = _
    rw [sf_Tused T cA cI N K z i, arrV_size, Nat.succ_mul]; omega
theorem sf_Tfacts (T : State) (cA cI : ClassId) (N K : Nat) : ∀ i, (sf_T T cA cI N K T.heap.size i).heap.size = T.heap.size + 1 + i ∧ (sf_T T cA cI N K T.heap.size i).heap[T.heap.size]? = some (sf_o cA N T.heap.size i) ∧
    (∀ a, a < T.heap.size → (sf_T T cA cI N K T.heap.size i).heap[a]? = T.heap[a]?) ∧ (∀ j, j < i → (sf_T T cA cI N K T.heap.size i).heap[T.heap.size + 1 + j]? = some (sf_n cI K))
  | 0 => ⟨State.heap_size_pushCell _ _, State.heap_pushCell_size _ _, fun a ha => State.heap_pushCell_of_lt _ _ ha, fun j hj => absurd hj (Nat.not_lt_zero j)⟩
  | i + 1 => by
    obtain ⟨h1, h2, h3, h4⟩ := sf_Tfacts T cA cI N K i
    have z1 : T.heap.size < ((sf_T T cA cI N K T.heap.size i).pushCell (sf_n cI K)).heap.size := by rw [State.heap_size_pushCell, h1]; omega
    refine ⟨?_, heapAt_setCell_self _ z1, fun a ha => ?_, fun j hj => ?_⟩
    · show (((sf_T T cA cI N K T.heap.size i).pushCell (sf_n cI K)).setCell _ _).heap.size = _
      rw [show ∀ (U : State) (a : Addr) (x : Cell), (U.setCell a x).heap.size = U.heap.size from fun U a x => by simp [State.setCell], State.heap_size_pushCell, h1]
      omega
    · show (((sf_T T cA cI N K T.heap.size i).pushCell (sf_n cI K)).setCell _ _).heap[a]? = _
      rw [heapAt_setCell_ne _ (Nat.ne_of_gt ha), State.heap_pushCell_of_lt _ _ (show a < (sf_T T cA cI N K T.heap.size i).heap.size by rw [h1]; omega)]
      exact h3 a ha
    · show (((sf_T T cA cI N K T.heap.size i).pushCell (sf_n cI K)).setCell _ _).heap[T.heap.size + 1 + j]? = _
      rw [heapAt_setCell_ne _ (show T.heap.size ≠ T.heap.size + 1 + j by omega)]
      by_cases c : j < i
      · rw [State.heap_pushCell_of_lt _ _ (show T.heap.size + 1 + j < (sf_T T cA cI N K T.heap.size i).heap.size by rw [h1]; omega)]
        exact h4 j c
      · have e : T.heap.size + 1 + j = (sf_T T cA cI N K T.heap.size i).heap.size := by rw [h1]; omega
        rw [e]
        exact State.heap_pushCell_size _ _
variable {p : Program} {l : Launch} {e : Env} {R : Room} {s : State} {m : MethodId} {args : Array Value} {below : List Frame} {meth : Method} {c : Code} {T : State} {locs : List Loc} {cells slots : Nat}
theorem sf_Tstand (X : Stand p l e R s m args below meth c T locs cells slots) (cA cI : ClassId) (N K : Nat) : ∀ i, Stand p l e R s m args below meth c (sf_T T cA cI N K T.heap.size i) locs (cells + 1 + i) (slots + N + i * K)
  | 0 => by
    have h := X.pushed (sf_o cA N T.heap.size 0)
    rw [arrV_size] at h
    rw [Nat.zero_mul]
    exact h
  | i + 1 => by
    obtain ⟨h1, h2, -, -⟩ := sf_Tfacts T cA cI N K i
    have h := ((sf_Tstand X cA cI N K i).pushed (sf_n cI K)).stored (a := T.heap.size) (cell := sf_o cA N T.heap.size i) (by rw [State.heap_pushCell_of_lt _ _ (show T.heap.size < (sf_T T cA cI N K T.heap.size i).heap.size by rw [h1]; omega)]; exact h2) i (.ref (T.heap.size + 1 + i))
    rw [sf_oS] at h
    have h' := h.dropFresh (fun x hx => by cases List.mem_singleton.mp hx; exact X.heapGrown)
    rw [arrV_size] at h'
    rw [Nat.succ_mul, ← Nat.add_assoc, ← Nat.add_assoc]
    exact h'
theorem sf_ask {E : CtlPost} {d : Bool} {acts : List Action} {S : State} {Q : Addr → Pre} {cI : ClassId} {kI : Class} {cc : ClassId} {k : Int32} (hk : S.vm.classes[cI]? = some kI) (hkind : kI.kind = .array cc .int) (h0 : ¬ k < 0)
    (hlim : ¬ k.toNatClampNeg > e.platform.arrayLengthLimit) (hheap : ¬ k.toNatClampNeg * componentBytes .int > e.platform.maxHeapBytes) (hcells : S.heap.size < e.platform.maxCells) (hslots : S.slotsUsed + k.toNatClampNeg ≤ e.platform.maxSlots)
    (hq : ∀ acts', Q S.heap.size d acts' (S.pushCell (sf_n cI k.toNatClampNeg))) : wp (multianewarray.make cI [k]) Q E e d acts S := by
  have hq' : ∀ acts', Q S.heap.size d acts' (S.pushCell { cls := cI, slots := Array.replicate k.toNatClampNeg (defaultValue .int) }) := fun acts' => by
    have := hq acts'
    unfold sf_n at this
    rw [← arrV_new] at this
    exact this
  simp only [multianewarray.make, wp_bind', W.ite, h0, if_false, wp_pure', W.theClass, hk, Option.some.injEq, exists_eq_left', hkind]
  exact W.newArray_of hk hkind hlim hheap hcells hslots rfl hq'
theorem sf_make {E : CtlPost} {d : Bool} {acts : List Action} {S : State} {Q : Addr → Pre} {cA cI : ClassId} {kA kI : Class} {cc : ClassId} {n k : Int32} (hkA : S.vm.classes[cA]? = some kA) (hkindA : kA.kind = .array cI (.array .int))
    (hkI : S.vm.classes[cI]? = some kI) (hkind : kI.kind = .array cc .int) (hn : ¬ n < 0) (hk : ¬ k < 0) (hn4 : n.toNatClampNeg ≤ 1000) (hk4 : k.toNatClampNeg ≤ 1000) (hlim : 1000 ≤ e.platform.arrayLengthLimit) (hheap : 4000 ≤ e.platform.maxHeapBytes)
    (hcells : S.heap.size + 1 + n.toNatClampNeg ≤ e.platform.maxCells) (hslots : S.slotsUsed + n.toNatClampNeg + n.toNatClampNeg * k.toNatClampNeg ≤ e.platform.maxSlots)
    (hq : ∀ d' acts', Q S.heap.size d' acts' (sf_T S cA cI n.toNatClampNeg k.toNatClampNeg S.heap.size n.toNatClampNeg)) : wp (multianewarray.make cA [n, k]) Q E e d acts S := by
  have b4 : componentBytes (.array .int) = 4 := rfl
  have b5 : componentBytes .int = 4 := rfl
  rw [multianewarray.make]
  simp only [wp_bind', W.ite, hn, if_false, wp_pure', W.theClass, hkA, Option.some.injEq, exists_eq_left', hkindA]
  refine W.newArray_of hkA hkindA (by omega) (by rw [b4]; omega) (by omega) (by omega) rfl (fun acts1 => ?_)
  have hf : List.find? (fun x => decide (x < 0)) [k] = none := by simp [List.find?, hk]
  rw [hf]
  simp only [ite_self, wp_bind']
  rw [sf_o0 cA n.toNatClampNeg S.heap.size]
  simp
  refine wp_forIn_inv (fun rest U => ∃ i, i + rest.length = n.toNatClampNeg ∧ rest = List.range' i rest.length ∧ U = sf_T S cA cI n.toNatClampNeg k.toNatClampNeg S.heap.size i) _ _ ⟨0, by simp, by simp, rfl⟩ ?_ ?_
  · rintro x rest U d' acts' Q' ⟨i, hlen, hr, rfl⟩ hcont
    rw [List.length_cons] at hlen hr
    rw [List.range'_succ] at hr
    obtain ⟨rfl, hr⟩ := List.cons.inj hr
    obtain ⟨f1, f2, -, -⟩ := sf_Tfacts S cA cI n.toNatClampNeg k.toNatClampNeg x
    have hm : (x + 1) * k.toNatClampNeg ≤ n.toNatClampNeg * k.toNatClampNeg := Nat.mul_le_mul_right _ (by omega)
    rw [Nat.succ_mul] at hm
    simp only [wp_bind']
    refine sf_ask (by rw [sf_Tvm]; exact hkI) hkind hk (by omega) (by rw [b5]; omega) (by rw [f1]; omega) (by rw [sf_Tused]; omega) (fun acts2 => ?_)
    simp only [map_eq_pure_bind, wp_bind', W.writeLoc, wp_pure']
    refine ⟨sf_o cA n.toNatClampNeg S.heap.size x, ?_, fun h => (by cases h), ?_, ?_, ?_⟩
    · rw [State.heap_pushCell_of_lt _ _ (show S.heap.size < (sf_T S cA cI n.toNatClampNeg k.toNatClampNeg S.heap.size x).heap.size by rw [f1]; omega)]
      exact f2
    · rw [arrV_size]; omega
    · rw [State.fitsSlot_pushCell]
      have hv : (sf_T S cA cI n.toNatClampNeg k.toNatClampNeg S.heap.size x).vm.classes[cA]? = some kA := by rw [sf_Tvm]; exact hkA
      simp [State.fitsSlot, State.slotType?, arrV, hv, hkindA, fits]
    · refine hcont _ _ _ ⟨x + 1, by omega, hr, ?_⟩
      rw [f1, sf_oS]
      rfl
  · rintro U d' acts' ⟨i, hlen, -, rfl⟩
    have : i = n.toNatClampNeg := by simpa using hlen
    subst this
    simp only [wp_pure']
    exact hq _ _
/-- multianewarray of two lengths, of ints -/
theorem sf_multi (X : Stand p l e R s m args below meth c T locs cells slots) (hexec : p.tables.exec = Jvm.exec) {own : String} {index : Nat} (hown : s.vm.findClass own = some m.cls)
    (hclink : (Cond.classLink own index ("[" ++ (FieldType.array .int).toString)).before args s = true) (hover : (Cond.arrayOver (.array .int)).before args s = true) (harr : (Cond.arrayClass .int).before args s = true)
    {g : JFrame} (hg : g.method = m) (hdg : decode c.code g.pc = .ok (.multianewarray index 2, 4)) {n k : Int32} {rest : List Value} (hstack : g.stack = .int k :: .int n :: rest)
    (hn : ¬ n < 0) (hk : ¬ k < 0) (hn4 : n.toNatClampNeg ≤ 1000) (hk4 : k.toNatClampNeg ≤ 1000) (hcells : cells + (1 + n.toNatClampNeg) ≤ R.cells) (hslots : slots + (n.toNatClampNeg + n.toNatClampNeg * k.toNatClampNeg) ≤ R.slots) :
    ∃ (vm₁ : Vm) (cA cI : ClassId), s.vm.findClass ("[" ++ (FieldType.array .int).toString) = some cA ∧ s.vm.findClass (FieldType.array .int).toString = some cI ∧
      Stand p l e R s m args below meth c (sf_T (T.setVm vm₁) cA cI n.toNatClampNeg k.toNatClampNeg T.heap.size n.toNatClampNeg) locs (cells + 1 + n.toNatClampNeg) (slots + n.toNatClampNeg + n.toNatClampNeg * k.toNatClampNeg) ∧
      ∀ target, Steps p.tables e below ((sf_T (T.setVm vm₁) cA cI n.toNatClampNeg k.toNatClampNeg T.heap.size n.toNatClampNeg).setTop { g with pc := g.pc + 4, stack := .ref T.heap.size :: rest }) target → Steps p.tables e below (T.setTop g) target := by
  subst hg
  have hpl : e.platform.magicAccessors = ({} : Platform).magicAccessors := by rw [X.admits.platform]
  have es : (FieldType.array .int).toString = "[" ++ FieldType.int.toString := by decide +kernel
  obtain ⟨cI, cA, kA, hcI, hkA, hkindA, hcA⟩ := sf_over hover
  obtain ⟨cI', kI, cc, hcI', hkI, hkindI⟩ := Cond.arrayClass_spec harr
  rw [← es] at hcI'
  cases hcI.symm.trans hcI'
  obtain ⟨cA', hcA', hcl⟩ := Cond.classLink_spec hown hclink e.platform hpl
  cases hcA.symm.trans hcA'
  obtain ⟨g1, g2, g3⟩ := State.classEntry (e := e) X.warmed hcl
  have hsz : (T.vm.noted g.method.cls index (.cls cA)).classes.size ≤ T.vm.classes.size := by no_record
  generalize T.vm.noted g.method.cls index (.cls cA) = vm₁ at g1 g2 g3 hsz
  obtain ⟨kA', hkA', eA⟩ := g2.alike.2.2 _ _ hkA
  obtain ⟨kI', hkI', eI⟩ := g2.alike.2.2 _ _ hkI
  have hkindA' : kA'.kind = .array cI (.array .int) := by rw [eA]; exact hkindA
  have hkindI' : kI'.kind = .array cc .int := by rw [eI]; exact hkindI
  have X1 := X.noted g2
  obtain ⟨r1, r2⟩ := X.roomAbove hcells hslots
  refine ⟨vm₁, cA, cI, hcA, hcI, sf_Tstand X1 cA cI _ _ _, fun target hrest => ?_⟩
  refine Steps.instr (c := _) X.here ?_
  rw [hdg, hexec]
  show wpRun (multianewarray.sem index 2) _ _ e (T.setTop g)
  unfold wpRun
  simp only [multianewarray.sem, wp_bind']
  have hs : (T.setVm vm₁).topJava?.isSome := X1.here.top
  rw [W.resolveClassAt_transfer (s := T.setTop g) (State.method?_setTop g X.here.top) g1 g3 hsz]
  rw [W.resolveClassAt_ready (s := (T.setTop g).setVm vm₁) (State.method?_setTop (s := T.setVm vm₁) g hs) g3]
  rw [wp_bind']
  refine (popN_top (s := T.setVm vm₁) (f := g) hs (args := [.int n, .int k]) (rest := rest) hstack).mpr ?_
  simp only [List.mapM_cons, List.mapM_nil, wp_bind', wp_pure']
  have lim1 := Launch.admits_arrayLengthLimit X.admits
  have lim2 := Launch.admits_maxHeapBytes X.admits
  refine sf_make (S := (T.setVm vm₁).setTop { g with stack := rest }) hkA' hkindA' hkI' hkindI' hn hk hn4 hk4 (by rw [lim1]; omega) (by rw [lim2]; omega) (by show T.heap.size + _ + _ ≤ _; omega) (by show T.slotsUsed + _ + _ ≤ _; omega) (fun d' acts' => ?_)
  rw [sf_Ttop]
  have hj : (sf_T (T.setVm vm₁) cA cI n.toNatClampNeg k.toNatClampNeg T.heap.size n.toNatClampNeg).topJava?.isSome := by rw [sf_Tjava]; exact hs
  show wp _ _ _ e d' acts' ((sf_T (T.setVm vm₁) cA cI n.toNatClampNeg k.toNatClampNeg T.heap.size n.toNatClampNeg).setTop _)
  generalize sf_T (T.setVm vm₁) cA cI n.toNatClampNeg k.toNatClampNeg T.heap.size n.toNatClampNeg = U at hj hrest
  simp only [wp_bind', W.mark, W.pushRef, State.topJava?_setTop' _ hj, Option.some.injEq, exists_eq_left', State.setTop_setTop]
  intro acts
  simp [jvm, hj]
  exact hrest
end SF2
