/-! ===== THE JUDGEMENT: the machine at pc, over the pure heap h, with locals lo and operand stack st, comes to Q ===== -/
/-- the locals: what lo says is held; only values of one slot -/
def hp_L (ls : Array Slot) (lo : Nat → Option Value) (n : Nat) : Prop := ls.size = n ∧ lv_wf ls ∧ ∀ (i : Nat) (v : Value), lo i = some v → ls[i]? = some (.val v) ∧ v.category = 1
abbrev hp_W (M : hpM) (H : Heap) (locs : List Loc) (cells slots : Nat) (Q : State → Prop) (g : JFrame) : Prop := W M.1 M.2.1 M.2.2.1 (hp_R4 M) (hp_st M) (hp_mi4 M) (hp_av M) (hp_bl M) (hp_mt M) (hp_cd M) H locs cells slots Q g
def hp_V (M : hpM) (G : hpG) (nL : Nat) (Q : State → Prop) (h : hpT) (pc : Nat) (lo : Nat → Option Value) (st : List Value) : Prop :=
  ∀ (H : Heap) (locs : List Loc) (cells slots : Nat) (ls : Array Slot), hp_R G h H → (∀ q ∈ locs, hp_n0 G ≤ q.base) → hp_L ls lo nL → hp_W M H locs cells slots Q (F0 (hp_mi4 M) pc ls st)
/-- what holds of a frame: the machine, the method y's code, its words, its room at depth d, the pure heap h0 at its entry -/
def hp_F (M : hpM) (G : hpG) (y : MethodName) (cc : ByteArray) (nL d : Nat) (h0 : hpT) : Prop :=
  M.1.tables.exec = Jvm.exec ∧ (hp_cd M).code = cc ∧ (hp_cd M).maxLocals = nL ∧ (hp_st M).vm.findClass y.cls = some (hp_mi4 M).cls ∧ (∀ w ∈ hp_ws, w.before (hp_av M) (hp_st M) = true) ∧ (hp_mt M).locks = false ∧ (hp_mt M).name = y.name ∧
  hp_E G (hp_st M) ∧ hp_R G h0 (hp_st M).heap ∧ d ≤ (hp_R4 M).frames ∧ 41 * d ≤ (hp_R4 M).locals ∧ hp_n0 G + hp_LC ≤ (hp_R4 M).cells + hp_nx h0 ∧ hp_LS ≤ (hp_R4 M).slots + hp_sl h0 ∧ M.2.1.stackTraces = false
section HPR
variable {M : hpM} {G : hpG} {y : MethodName} {cc : ByteArray} {nL d : Nat} {h0 h : hpT} {Q : State → Prop} {pc : Nat} {lo : Nat → Option Value} {st : List Value}
theorem hp_F.ex (C : hp_F M G y cc nL d h0) : M.1.tables.exec = Jvm.exec := C.1
theorem hp_F.bc (C : hp_F M G y cc nL d h0) : (hp_cd M).code = cc := C.2.1
theorem hp_F.ml (C : hp_F M G y cc nL d h0) : (hp_cd M).maxLocals = nL := C.2.2.1
theorem hp_F.own (C : hp_F M G y cc nL d h0) : (hp_st M).vm.findClass y.cls = some (hp_mi4 M).cls := C.2.2.2.1
theorem hp_F.ws (C : hp_F M G y cc nL d h0) : ∀ w ∈ hp_ws, w.before (hp_av M) (hp_st M) = true := C.2.2.2.2.1
theorem hp_F.lk (C : hp_F M G y cc nL d h0) : (hp_mt M).locks = false := C.2.2.2.2.2.1
theorem hp_F.nm (C : hp_F M G y cc nL d h0) : (hp_mt M).name = y.name := C.2.2.2.2.2.2.1
theorem hp_F.en (C : hp_F M G y cc nL d h0) : hp_E G (hp_st M) := C.2.2.2.2.2.2.2.1
theorem hp_F.he (C : hp_F M G y cc nL d h0) : hp_R G h0 (hp_st M).heap := C.2.2.2.2.2.2.2.2.1
theorem hp_F.rf (C : hp_F M G y cc nL d h0) : d ≤ (hp_R4 M).frames := C.2.2.2.2.2.2.2.2.2.1
theorem hp_F.rl (C : hp_F M G y cc nL d h0) : 41 * d ≤ (hp_R4 M).locals := C.2.2.2.2.2.2.2.2.2.2.1
theorem hp_F.rc (C : hp_F M G y cc nL d h0) : hp_n0 G + hp_LC ≤ (hp_R4 M).cells + hp_nx h0 := C.2.2.2.2.2.2.2.2.2.2.2.1
theorem hp_F.rs (C : hp_F M G y cc nL d h0) : hp_LS ≤ (hp_R4 M).slots + hp_sl h0 := C.2.2.2.2.2.2.2.2.2.2.2.2.1
theorem hp_F.tr (C : hp_F M G y cc nL d h0) : M.2.1.stackTraces = false := C.2.2.2.2.2.2.2.2.2.2.2.2.2
theorem hp_L.at {ls : Array Slot} {n i : Nat} {v : Value} (x : hp_L ls lo n) (e : lo i = some v) : ls[i]? = some (.val v) := (x.2.2 i v e).1
theorem hp_L.store {ls : Array Slot} {n i : Nat} {v : Value} (x : hp_L ls lo n) (hi : i < n) (hc : v.category = 1) : ∃ ls', storeLocals ls i v = some ls' ∧ hp_L ls' (va_up lo i (some v)) n := by
  obtain ⟨ls', e', h'⟩ := lv_store1 (l := []) ⟨x.1, x.2.1, fun q hq => by cases hq⟩ hi hc
  refine ⟨ls', e', h'.1, h'.2.1, fun j w hw => ?_⟩
  by_cases ej : j = i
  · subst ej
    rw [va_up_self] at hw
    cases hw
    exact ⟨h'.2.2 (j, v) List.mem_cons_self, hc⟩
  · rw [va_up_ne _ _ ej] at hw
    obtain ⟨w1, w2⟩ := x.2.2 j w hw
    obtain ⟨ls2, e2, h2⟩ := lv_store1 (l := [(j, w)]) ⟨x.1, x.2.1, fun q hq => by rw [List.mem_singleton.mp hq]; exact w1⟩ hi hc
    rw [e'] at e2
    cases e2
    refine ⟨h2.2.2 (j, w) (List.mem_cons_of_mem _ (List.mem_filter.mpr ⟨List.mem_cons_self, ?_⟩)), w2⟩
    simp [ej, w2]
theorem hp_iconst (C : hp_F M G y cc nL d h0) {n : Int} {v : Int32} (dd : decode cc pc = .ok (.iconst n, 1)) (hv : Int32.ofInt n = v) (k : hp_V M G nL Q h (pc + 1) lo (.int v :: st)) : hp_V M G nL Q h pc lo (st) := fun H locs cells slots ls hR hl hL => lv_iconst C.ex C.bc dd hv (k H locs cells slots ls hR hl hL)
theorem hp_bipush (C : hp_F M G y cc nL d h0) {n : Int} {v : Int32} (dd : decode cc pc = .ok (.bipush n, 2)) (hv : (Int8.ofInt n).toInt32 = v) (k : hp_V M G nL Q h (pc + 2) lo (.int v :: st)) : hp_V M G nL Q h pc lo (st) := fun H locs cells slots ls hR hl hL => lv_bipush C.ex C.bc dd hv (k H locs cells slots ls hR hl hL)
theorem hp_sipush (C : hp_F M G y cc nL d h0) {n : Int} {v : Int32} (dd : decode cc pc = .ok (.sipush n, 3)) (hv : (Int16.ofInt n).toInt32 = v) (k : hp_V M G nL Q h (pc + 3) lo (.int v :: st)) : hp_V M G nL Q h pc lo (st) := fun H locs cells slots ls hR hl hL => lv_sipush C.ex C.bc dd hv (k H locs cells slots ls hR hl hL)
theorem hp_lconst0 (C : hp_F M G y cc nL d h0) (dd : decode cc pc = .ok (.lconst 0, 1)) (k : hp_V M G nL Q h (pc + 1) lo (.long 0 :: st)) : hp_V M G nL Q h pc lo (st) := fun H locs cells slots ls hR hl hL => lv_lconst C.ex C.bc dd rfl (k H locs cells slots ls hR hl hL)
theorem hp_lconst1 (C : hp_F M G y cc nL d h0) (dd : decode cc pc = .ok (.lconst 1, 1)) (k : hp_V M G nL Q h (pc + 1) lo (.long 1 :: st)) : hp_V M G nL Q h pc lo (st) := fun H locs cells slots ls hR hl hL => lv_lconst C.ex C.bc dd rfl (k H locs cells slots ls hR hl hL)
theorem hp_null (C : hp_F M G y cc nL d h0) (dd : decode cc pc = .ok (.aconst_null, 1)) (k : hp_V M G nL Q h (pc + 1) lo (.null :: st)) : hp_V M G nL Q h pc lo (st) := fun H locs cells slots ls hR hl hL => lv_null C.ex C.bc dd (k H locs cells slots ls hR hl hL)
theorem hp_iadd (C : hp_F M G y cc nL d h0) {x z : Int32} (dd : decode cc pc = .ok (.iadd, 1)) (k : hp_V M G nL Q h (pc + 1) lo (.int (x + z) :: st)) : hp_V M G nL Q h pc lo (.int z :: .int x :: st) := fun H locs cells slots ls hR hl hL => lv_iadd C.ex C.bc dd (k H locs cells slots ls hR hl hL)
theorem hp_isub (C : hp_F M G y cc nL d h0) {x z : Int32} (dd : decode cc pc = .ok (.isub, 1)) (k : hp_V M G nL Q h (pc + 1) lo (.int (x - z) :: st)) : hp_V M G nL Q h pc lo (.int z :: .int x :: st) := fun H locs cells slots ls hR hl hL => lv_isub C.ex C.bc dd (k H locs cells slots ls hR hl hL)
theorem hp_imul (C : hp_F M G y cc nL d h0) {x z : Int32} (dd : decode cc pc = .ok (.imul, 1)) (k : hp_V M G nL Q h (pc + 1) lo (.int (x * z) :: st)) : hp_V M G nL Q h pc lo (.int z :: .int x :: st) := fun H locs cells slots ls hR hl hL => lv_imul C.ex C.bc dd (k H locs cells slots ls hR hl hL)
theorem hp_iand (C : hp_F M G y cc nL d h0) {x z : Int32} (dd : decode cc pc = .ok (.iand, 1)) (k : hp_V M G nL Q h (pc + 1) lo (.int (x &&& z) :: st)) : hp_V M G nL Q h pc lo (.int z :: .int x :: st) := fun H locs cells slots ls hR hl hL => lv_iand C.ex C.bc dd (k H locs cells slots ls hR hl hL)
theorem hp_ishr (C : hp_F M G y cc nL d h0) {x z : Int32} (dd : decode cc pc = .ok (.ishr, 1)) (k : hp_V M G nL Q h (pc + 1) lo (.int (x >>> (z &&& 31)) :: st)) : hp_V M G nL Q h pc lo (.int z :: .int x :: st) := fun H locs cells slots ls hR hl hL => lv_ishr C.ex C.bc dd (k H locs cells slots ls hR hl hL)
theorem hp_idiv (C : hp_F M G y cc nL d h0) {x z : Int32} (dd : decode cc pc = .ok (.idiv, 1)) (hz : ¬ z = 0) (k : hp_V M G nL Q h (pc + 1) lo (.int (x / z) :: st)) : hp_V M G nL Q h pc lo (.int z :: .int x :: st) := fun H locs cells slots ls hR hl hL => lv_idiv C.ex C.bc dd hz (k H locs cells slots ls hR hl hL)
theorem hp_i2l (C : hp_F M G y cc nL d h0) {x : Int32} (dd : decode cc pc = .ok (.i2l, 1)) (k : hp_V M G nL Q h (pc + 1) lo (.long x.toInt64 :: st)) : hp_V M G nL Q h pc lo (.int x :: st) := fun H locs cells slots ls hR hl hL => lv_i2l C.ex C.bc dd rfl (k H locs cells slots ls hR hl hL)
theorem hp_dup (C : hp_F M G y cc nL d h0) {v : Value} (dd : decode cc pc = .ok (.dup, 1)) (hv : v.category = 1) (k : hp_V M G nL Q h (pc + 1) lo (v :: v :: st)) : hp_V M G nL Q h pc lo (v :: st) := fun H locs cells slots ls hR hl hL => lv_dup C.ex C.bc dd hv (k H locs cells slots ls hR hl hL)
theorem hp_pop (C : hp_F M G y cc nL d h0) {v : Value} (dd : decode cc pc = .ok (.pop, 1)) (hv : v.category = 1) (k : hp_V M G nL Q h (pc + 1) lo (st)) : hp_V M G nL Q h pc lo (v :: st) := fun H locs cells slots ls hR hl hL => lv_pop C.ex C.bc dd hv (k H locs cells slots ls hR hl hL)
theorem hp_dup_x1 (C : hp_F M G y cc nL d h0) {v w : Value} (dd : decode cc pc = .ok (.dup_x1, 1)) (hv : v.category = 1) (hw : w.category = 1) (k : hp_V M G nL Q h (pc + 1) lo (v :: w :: v :: st)) : hp_V M G nL Q h pc lo (v :: w :: st) := fun H locs cells slots ls hR hl hL => lv_dup_x1 C.ex C.bc dd hv hw (k H locs cells slots ls hR hl hL)
theorem hp_dup2 (C : hp_F M G y cc nL d h0) {v w : Value} (dd : decode cc pc = .ok (.dup2, 1)) (hv : v.category = 1) (hw : w.category = 1) (k : hp_V M G nL Q h (pc + 1) lo (v :: w :: v :: w :: st)) : hp_V M G nL Q h pc lo (v :: w :: st) := fun H locs cells slots ls hR hl hL => lv_dup2_11 C.ex C.bc dd hv hw (k H locs cells slots ls hR hl hL)
theorem hp_lcmp (C : hp_F M G y cc nL d h0) {x z : Int64} (dd : decode cc pc = .ok (.lcmp, 1)) (k : hp_V M G nL Q h (pc + 1) lo (.int (lg_cmp x z) :: st)) : hp_V M G nL Q h pc lo (.long z :: .long x :: st) := fun H locs cells slots ls hR hl hL => W.lcmp C.ex C.bc dd (k H locs cells slots ls hR hl hL)
theorem hp_iload (C : hp_F M G y cc nL d h0) {i : Nat} {x : Int32} (dd : decode cc pc = .ok (.iload i, 2)) (e : lo i = some (.int x)) (k : hp_V M G nL Q h (pc + 2) lo (.int x :: st)) : hp_V M G nL Q h pc lo (st) := fun H locs cells slots ls hR hl hL => lv_iload C.ex C.bc dd (hL.at e) (k H locs cells slots ls hR hl hL)
theorem hp_iload_n (C : hp_F M G y cc nL d h0) {n : Fin 4} {x : Int32} (dd : decode cc pc = .ok (.iload_n n, 1)) (e : lo (n : Nat) = some (.int x)) (k : hp_V M G nL Q h (pc + 1) lo (.int x :: st)) : hp_V M G nL Q h pc lo (st) := fun H locs cells slots ls hR hl hL => lv_iload_n C.ex C.bc dd rfl (hL.at e) (k H locs cells slots ls hR hl hL)
theorem hp_aload (C : hp_F M G y cc nL d h0) {i : Nat} {r : Option Nat} (dd : decode cc pc = .ok (.aload i, 2)) (e : lo i = some (va_rf r)) (k : hp_V M G nL Q h (pc + 2) lo (va_rf r :: st)) : hp_V M G nL Q h pc lo st := by
  intro H locs cells slots ls hR hl hL
  cases r with
  | none => exact lv_aloadN C.ex C.bc dd (hL.at e) (k H locs cells slots ls hR hl hL)
  | some x => exact lv_aload C.ex C.bc dd (hL.at e) (k H locs cells slots ls hR hl hL)
theorem hp_aloadR (C : hp_F M G y cc nL d h0) {i : Nat} {x : Nat} (dd : decode cc pc = .ok (.aload i, 2)) (e : lo i = some (.ref x)) (k : hp_V M G nL Q h (pc + 2) lo (.ref x :: st)) : hp_V M G nL Q h pc lo st := hp_aload (r := some x) C dd e k
theorem hp_aload_n (C : hp_F M G y cc nL d h0) {n : Fin 4} {r : Option Nat} (dd : decode cc pc = .ok (.aload_n n, 1)) (e : lo (n : Nat) = some (va_rf r)) (k : hp_V M G nL Q h (pc + 1) lo (va_rf r :: st)) : hp_V M G nL Q h pc lo st := by
  intro H locs cells slots ls hR hl hL
  cases r with
  | none => exact lv_aload_nN C.ex C.bc dd rfl (hL.at e) (k H locs cells slots ls hR hl hL)
  | some x => exact lv_aload_n C.ex C.bc dd rfl (hL.at e) (k H locs cells slots ls hR hl hL)
theorem hp_aload_nR (C : hp_F M G y cc nL d h0) {n : Fin 4} {x : Nat} (dd : decode cc pc = .ok (.aload_n n, 1)) (e : lo (n : Nat) = some (.ref x)) (k : hp_V M G nL Q h (pc + 1) lo (.ref x :: st)) : hp_V M G nL Q h pc lo st := hp_aload_n (r := some x) C dd e k
theorem hp_istore (C : hp_F M G y cc nL d h0) {i : Nat} {x : Int32} (dd : decode cc pc = .ok (.istore i, 2)) (hn : i < nL) (k : hp_V M G nL Q h (pc + 2) (va_up lo i (some (.int x))) st) : hp_V M G nL Q h pc lo (.int x :: st) := by
  intro H locs cells slots ls hR hl hL
  have hb := C.bc
  have hx := C.ex
  obtain ⟨ls', e', h'⟩ := hL.store (v := .int x) hn rfl
  intro T hT X
  obtain ⟨t, a, b⟩ := k H locs cells slots ls' hR hl h' T hT X
  refine ⟨t, ?_, b⟩
  jvm_step X.here [X.here.top, ↓top_set X.here.top, hx, hb, dd, e']
  exact a
theorem hp_istore_n (C : hp_F M G y cc nL d h0) {n : Fin 4} {x : Int32} (dd : decode cc pc = .ok (.istore_n n, 1)) (hn : (n : Nat) < nL) (k : hp_V M G nL Q h (pc + 1) (va_up lo (n : Nat) (some (.int x))) st) : hp_V M G nL Q h pc lo (.int x :: st) := by
  intro H locs cells slots ls hR hl hL
  have hb := C.bc
  have hx := C.ex
  obtain ⟨ls', e', h'⟩ := hL.store (v := .int x) hn rfl
  intro T hT X
  obtain ⟨t, a, b⟩ := k H locs cells slots ls' hR hl h' T hT X
  refine ⟨t, ?_, b⟩
  jvm_step X.here [X.here.top, ↓top_set X.here.top, hx, hb, dd, e']
  exact a
theorem hp_astore (C : hp_F M G y cc nL d h0) {i : Nat} {r : Option Nat} (dd : decode cc pc = .ok (.astore i, 2)) (hn : i < nL) (k : hp_V M G nL Q h (pc + 2) (va_up lo i (some (va_rf r))) st) : hp_V M G nL Q h pc lo (va_rf r :: st) := by
  intro H locs cells slots ls hR hl hL
  have hb := C.bc
  have hx := C.ex
  cases r with
  | none =>
    obtain ⟨ls', e', h'⟩ := hL.store (v := .null) hn rfl
    intro T hT X
    obtain ⟨t, a, b⟩ := k H locs cells slots ls' hR hl h' T hT X
    refine ⟨t, ?_, b⟩
    jvm_step X.here [X.here.top, ↓top_set X.here.top, hx, hb, dd, e', va_rf, Value.isRef]
    exact a
  | some z =>
    obtain ⟨ls', e', h'⟩ := hL.store (v := .ref z) hn rfl
    intro T hT X
    obtain ⟨t, a, b⟩ := k H locs cells slots ls' hR hl h' T hT X
    refine ⟨t, ?_, b⟩
    jvm_step X.here [X.here.top, ↓top_set X.here.top, hx, hb, dd, e', va_rf, Value.isRef]
    exact a
theorem hp_astore_n (C : hp_F M G y cc nL d h0) {n : Fin 4} {r : Option Nat} (dd : decode cc pc = .ok (.astore_n n, 1)) (hn : (n : Nat) < nL) (k : hp_V M G nL Q h (pc + 1) (va_up lo (n : Nat) (some (va_rf r))) st) : hp_V M G nL Q h pc lo (va_rf r :: st) := by
  intro H locs cells slots ls hR hl hL
  have hb := C.bc
  have hx := C.ex
  cases r with
  | none =>
    obtain ⟨ls', e', h'⟩ := hL.store (v := .null) hn rfl
    intro T hT X
    obtain ⟨t, a, b⟩ := k H locs cells slots ls' hR hl h' T hT X
    refine ⟨t, ?_, b⟩
    jvm_step X.here [X.here.top, ↓top_set X.here.top, hx, hb, dd, e', va_rf, Value.isRef]
    exact a
  | some z =>
    obtain ⟨ls', e', h'⟩ := hL.store (v := .ref z) hn rfl
    intro T hT X
    obtain ⟨t, a, b⟩ := k H locs cells slots ls' hR hl h' T hT X
    refine ⟨t, ?_, b⟩
    jvm_step X.here [X.here.top, ↓top_set X.here.top, hx, hb, dd, e', va_rf, Value.isRef]
    exact a
theorem hp_iinc (C : hp_F M G y cc nL d h0) {i : Nat} {n : Int} {x v : Int32} (dd : decode cc pc = .ok (.iinc i n, 3)) (e : lo i = some (.int x)) (hn : i < nL) (hv : x + Int32.ofInt n = v) (k : hp_V M G nL Q h (pc + 3) (va_up lo i (some (.int v))) st) : hp_V M G nL Q h pc lo st := by
  intro H locs cells slots ls hR hl hL
  subst hv
  have hb := C.bc
  have hx := C.ex
  have hg := hL.at e
  obtain ⟨ls', e', h'⟩ := hL.store (v := .int (x + Int32.ofInt n)) hn rfl
  intro T hT X
  obtain ⟨t, a, b⟩ := k H locs cells slots ls' hR hl h' T hT X
  refine ⟨t, ?_, b⟩
  jvm_step X.here [X.here.top, ↓top_set X.here.top, hx, hb, dd, hg, e']
  exact a
theorem hp_if_eq (C : hp_F M G y cc nL d h0) {x : Int32} {off : Int} {tgt : Nat} (dd : decode cc pc = .ok (.ifCond .eq off, 3)) (ht : (pc : Int) + off = (tgt : Int)) (kt : x = 0 → hp_V M G nL Q h tgt lo st) (kf : ¬ (x = 0) → hp_V M G nL Q h (pc + 3) lo st) : hp_V M G nL Q h pc lo (.int x :: st) := fun H locs cells slots ls hR hl hL => lv_if_eq C.ex C.bc dd ht (fun z9 => kt z9 H locs cells slots ls hR hl hL) (fun z9 => kf z9 H locs cells slots ls hR hl hL)
theorem hp_icmp_eq (C : hp_F M G y cc nL d h0) {x z : Int32} {off : Int} {tgt : Nat} (dd : decode cc pc = .ok (.if_icmp .eq off, 3)) (ht : (pc : Int) + off = (tgt : Int)) (kt : x = z → hp_V M G nL Q h tgt lo st) (kf : ¬ (x = z) → hp_V M G nL Q h (pc + 3) lo st) : hp_V M G nL Q h pc lo (.int z :: .int x :: st) := fun H locs cells slots ls hR hl hL => lv_icmp_eq C.ex C.bc dd ht (fun z9 => kt z9 H locs cells slots ls hR hl hL) (fun z9 => kf z9 H locs cells slots ls hR hl hL)
theorem hp_if_ne (C : hp_F M G y cc nL d h0) {x : Int32} {off : Int} {tgt : Nat} (dd : decode cc pc = .ok (.ifCond .ne off, 3)) (ht : (pc : Int) + off = (tgt : Int)) (kt : ¬ x = 0 → hp_V M G nL Q h tgt lo st) (kf : x = 0 → hp_V M G nL Q h (pc + 3) lo st) : hp_V M G nL Q h pc lo (.int x :: st) := fun H locs cells slots ls hR hl hL => lv_if_ne C.ex C.bc dd ht (fun z9 => kt z9 H locs cells slots ls hR hl hL) (fun z9 => kf z9 H locs cells slots ls hR hl hL)
theorem hp_icmp_ne (C : hp_F M G y cc nL d h0) {x z : Int32} {off : Int} {tgt : Nat} (dd : decode cc pc = .ok (.if_icmp .ne off, 3)) (ht : (pc : Int) + off = (tgt : Int)) (kt : ¬ x = z → hp_V M G nL Q h tgt lo st) (kf : x = z → hp_V M G nL Q h (pc + 3) lo st) : hp_V M G nL Q h pc lo (.int z :: .int x :: st) := fun H locs cells slots ls hR hl hL => lv_icmp_ne C.ex C.bc dd ht (fun z9 => kt z9 H locs cells slots ls hR hl hL) (fun z9 => kf z9 H locs cells slots ls hR hl hL)
theorem hp_if_lt (C : hp_F M G y cc nL d h0) {x : Int32} {off : Int} {tgt : Nat} (dd : decode cc pc = .ok (.ifCond .lt off, 3)) (ht : (pc : Int) + off = (tgt : Int)) (kt : x < 0 → hp_V M G nL Q h tgt lo st) (kf : ¬ (x < 0) → hp_V M G nL Q h (pc + 3) lo st) : hp_V M G nL Q h pc lo (.int x :: st) := fun H locs cells slots ls hR hl hL => lv_if_lt C.ex C.bc dd ht (fun z9 => kt z9 H locs cells slots ls hR hl hL) (fun z9 => kf z9 H locs cells slots ls hR hl hL)
theorem hp_icmp_lt (C : hp_F M G y cc nL d h0) {x z : Int32} {off : Int} {tgt : Nat} (dd : decode cc pc = .ok (.if_icmp .lt off, 3)) (ht : (pc : Int) + off = (tgt : Int)) (kt : x < z → hp_V M G nL Q h tgt lo st) (kf : ¬ (x < z) → hp_V M G nL Q h (pc + 3) lo st) : hp_V M G nL Q h pc lo (.int z :: .int x :: st) := fun H locs cells slots ls hR hl hL => lv_icmp_lt C.ex C.bc dd ht (fun z9 => kt z9 H locs cells slots ls hR hl hL) (fun z9 => kf z9 H locs cells slots ls hR hl hL)
theorem hp_if_ge (C : hp_F M G y cc nL d h0) {x : Int32} {off : Int} {tgt : Nat} (dd : decode cc pc = .ok (.ifCond .ge off, 3)) (ht : (pc : Int) + off = (tgt : Int)) (kt : 0 ≤ x → hp_V M G nL Q h tgt lo st) (kf : ¬ (0 ≤ x) → hp_V M G nL Q h (pc + 3) lo st) : hp_V M G nL Q h pc lo (.int x :: st) := fun H locs cells slots ls hR hl hL => lv_if_ge C.ex C.bc dd ht (fun z9 => kt z9 H locs cells slots ls hR hl hL) (fun z9 => kf z9 H locs cells slots ls hR hl hL)
theorem hp_icmp_ge (C : hp_F M G y cc nL d h0) {x z : Int32} {off : Int} {tgt : Nat} (dd : decode cc pc = .ok (.if_icmp .ge off, 3)) (ht : (pc : Int) + off = (tgt : Int)) (kt : z ≤ x → hp_V M G nL Q h tgt lo st) (kf : ¬ (z ≤ x) → hp_V M G nL Q h (pc + 3) lo st) : hp_V M G nL Q h pc lo (.int z :: .int x :: st) := fun H locs cells slots ls hR hl hL => lv_icmp_ge C.ex C.bc dd ht (fun z9 => kt z9 H locs cells slots ls hR hl hL) (fun z9 => kf z9 H locs cells slots ls hR hl hL)
theorem hp_if_gt (C : hp_F M G y cc nL d h0) {x : Int32} {off : Int} {tgt : Nat} (dd : decode cc pc = .ok (.ifCond .gt off, 3)) (ht : (pc : Int) + off = (tgt : Int)) (kt : 0 < x → hp_V M G nL Q h tgt lo st) (kf : ¬ (0 < x) → hp_V M G nL Q h (pc + 3) lo st) : hp_V M G nL Q h pc lo (.int x :: st) := fun H locs cells slots ls hR hl hL => lv_if_gt C.ex C.bc dd ht (fun z9 => kt z9 H locs cells slots ls hR hl hL) (fun z9 => kf z9 H locs cells slots ls hR hl hL)
theorem hp_icmp_gt (C : hp_F M G y cc nL d h0) {x z : Int32} {off : Int} {tgt : Nat} (dd : decode cc pc = .ok (.if_icmp .gt off, 3)) (ht : (pc : Int) + off = (tgt : Int)) (kt : z < x → hp_V M G nL Q h tgt lo st) (kf : ¬ (z < x) → hp_V M G nL Q h (pc + 3) lo st) : hp_V M G nL Q h pc lo (.int z :: .int x :: st) := fun H locs cells slots ls hR hl hL => lv_icmp_gt C.ex C.bc dd ht (fun z9 => kt z9 H locs cells slots ls hR hl hL) (fun z9 => kf z9 H locs cells slots ls hR hl hL)
theorem hp_if_le (C : hp_F M G y cc nL d h0) {x : Int32} {off : Int} {tgt : Nat} (dd : decode cc pc = .ok (.ifCond .le off, 3)) (ht : (pc : Int) + off = (tgt : Int)) (kt : x ≤ 0 → hp_V M G nL Q h tgt lo st) (kf : ¬ (x ≤ 0) → hp_V M G nL Q h (pc + 3) lo st) : hp_V M G nL Q h pc lo (.int x :: st) := fun H locs cells slots ls hR hl hL => lv_if_le C.ex C.bc dd ht (fun z9 => kt z9 H locs cells slots ls hR hl hL) (fun z9 => kf z9 H locs cells slots ls hR hl hL)
theorem hp_icmp_le (C : hp_F M G y cc nL d h0) {x z : Int32} {off : Int} {tgt : Nat} (dd : decode cc pc = .ok (.if_icmp .le off, 3)) (ht : (pc : Int) + off = (tgt : Int)) (kt : x ≤ z → hp_V M G nL Q h tgt lo st) (kf : ¬ (x ≤ z) → hp_V M G nL Q h (pc + 3) lo st) : hp_V M G nL Q h pc lo (.int z :: .int x :: st) := fun H locs cells slots ls hR hl hL => lv_icmp_le C.ex C.bc dd ht (fun z9 => kt z9 H locs cells slots ls hR hl hL) (fun z9 => kf z9 H locs cells slots ls hR hl hL)
theorem hp_goto (C : hp_F M G y cc nL d h0) {off : Int} {tgt : Nat} (dd : decode cc pc = .ok (.goto off, 3)) (ht : (pc : Int) + off = (tgt : Int)) (k : hp_V M G nL Q h tgt lo st) : hp_V M G nL Q h pc lo st := fun H locs cells slots ls hR hl hL => lv_goto C.ex C.bc dd ht (k H locs cells slots ls hR hl hL)
theorem hp_acmp_eq (C : hp_F M G y cc nL d h0) {r q : Option Nat} {off : Int} {tgt : Nat} (dd : decode cc pc = .ok (.if_acmp .eq off, 3)) (ht : (pc : Int) + off = (tgt : Int)) (kt : r = q → hp_V M G nL Q h tgt lo st) (kf : ¬ r = q → hp_V M G nL Q h (pc + 3) lo st) : hp_V M G nL Q h pc lo (va_rf q :: va_rf r :: st) := fun H locs cells slots ls hR hl hL => lv_acmp_eq C.ex C.bc dd ht (fun z9 => kt z9 H locs cells slots ls hR hl hL) (fun z9 => kf z9 H locs cells slots ls hR hl hL)
theorem hp_acmp_ne (C : hp_F M G y cc nL d h0) {r q : Option Nat} {off : Int} {tgt : Nat} (dd : decode cc pc = .ok (.if_acmp .ne off, 3)) (ht : (pc : Int) + off = (tgt : Int)) (kt : ¬ r = q → hp_V M G nL Q h tgt lo st) (kf : r = q → hp_V M G nL Q h (pc + 3) lo st) : hp_V M G nL Q h pc lo (va_rf q :: va_rf r :: st) := fun H locs cells slots ls hR hl hL => lv_acmp_ne C.ex C.bc dd ht (fun z9 => kt z9 H locs cells slots ls hR hl hL) (fun z9 => kf z9 H locs cells slots ls hR hl hL)
theorem hp_ifnull (C : hp_F M G y cc nL d h0) {r : Option Nat} {off : Int} {tgt : Nat} (dd : decode cc pc = .ok (.ifnull off, 3)) (ht : (pc : Int) + off = (tgt : Int)) (kt : r = none → hp_V M G nL Q h tgt lo st) (kf : ∀ x, r = some x → hp_V M G nL Q h (pc + 3) lo st) : hp_V M G nL Q h pc lo (va_rf r :: st) := by
  intro H locs cells slots ls hR hl hL
  cases r with
  | none => exact lv_ifnullN C.ex C.bc dd ht (kt rfl H locs cells slots ls hR hl hL)
  | some x => exact lv_ifnull C.ex C.bc dd (kf x rfl H locs cells slots ls hR hl hL)
theorem hp_ifnonnull (C : hp_F M G y cc nL d h0) {r : Option Nat} {off : Int} {tgt : Nat} (dd : decode cc pc = .ok (.ifnonnull off, 3)) (ht : (pc : Int) + off = (tgt : Int)) (kt : ∀ x, r = some x → hp_V M G nL Q h tgt lo st) (kf : r = none → hp_V M G nL Q h (pc + 3) lo st) : hp_V M G nL Q h pc lo (va_rf r :: st) := by
  intro H locs cells slots ls hR hl hL
  cases r with
  | none => exact lv_ifnonnullN C.ex C.bc dd (kf rfl H locs cells slots ls hR hl hL)
  | some x => exact lv_ifnonnull C.ex C.bc dd ht (kt x rfl H locs cells slots ls hR hl hL)
theorem hp_tableOut (C : hp_F M G y cc nL d h0) {dflt low hi : Int} {offs : Array Int} {len : Nat} {x : Int32} {tgt : Nat} (dd : decode cc pc = .ok (.tableswitch dflt low hi offs, len)) (hx : x.toInt < low ∨ hi < x.toInt) (ht : (pc : Int) + dflt = (tgt : Int)) (k : hp_V M G nL Q h tgt lo st) : hp_V M G nL Q h pc lo (.int x :: st) := fun H locs cells slots ls hR hl hL => lv_tableOut C.ex C.bc dd hx ht (k H locs cells slots ls hR hl hL)
theorem hp_tableIn (C : hp_F M G y cc nL d h0) {dflt low hi : Int} {offs : Array Int} {len : Nat} {x : Int32} {off : Int} {tgt : Nat} (dd : decode cc pc = .ok (.tableswitch dflt low hi offs, len)) (h1 : ¬ x.toInt < low) (h2 : ¬ hi < x.toInt) (ho : offs[(x.toInt - low).toNat]? = some off) (ht : (pc : Int) + off = (tgt : Int)) (k : hp_V M G nL Q h tgt lo st) : hp_V M G nL Q h pc lo (.int x :: st) := fun H locs cells slots ls hR hl hL => lv_tableIn C.ex C.bc dd h1 h2 ho ht (k H locs cells slots ls hR hl hL)
theorem hp_ldc (C : hp_F M G y cc nL d h0) {index : Nat} {v : Int32} (hc : Cond.constant y.cls index v ∈ hp_ws) (dd : decode cc pc = .ok (.ldc index, 2)) (k : hp_V M G nL Q h (pc + 2) lo (.int v :: st)) : hp_V M G nL Q h pc lo st := fun H locs cells slots ls hR hl hL => lv_ldc C.ex C.bc C.own (C.ws _ hc) dd (k H locs cells slots ls hR hl hL)
end HPR
