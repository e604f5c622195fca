section
-- ===== PART A: goes FIRST, ahead of the names: the tables' words, and 'selects' of the private methods out of them =====
/-- a private method of a class that the tables say can be made, by its rows of tables_1 -/
def lw_okq (q : MethodName × Nat) : Prop := (q.1.cls ≠ "java/lang/invoke/MethodHandle" ∧ q.1.cls ≠ "java/lang/invoke/VarHandle") ∧ Cond.instantiable q.1.cls q.2 ∈ tables_1 ∧ Cond.privateMethod q.1 ∈ tables_1 ∧ Cond.instanceMethod q.1 ∈ tables_1
theorem lw_p0 : lw_okq (⟨"java/lang/Throwable", "fillInStackTrace", "(I)Ljava/lang/Throwable;"⟩, 6) := ⟨⟨by decide +kernel, by decide +kernel⟩, List.mem_of_getElem? (i := 233) (by decide +kernel), List.mem_of_getElem? (i := 231) (by decide +kernel), List.mem_of_getElem? (i := 232) (by decide +kernel)⟩
theorem lw_p1 : lw_okq (⟨"KeeperTree", "keeperAt", "(I)LKeeperTree$Keeper;"⟩, 6) := ⟨⟨by decide +kernel, by decide +kernel⟩, List.mem_of_getElem? (i := 23) (by decide +kernel), List.mem_of_getElem? (i := 283) (by decide +kernel), List.mem_of_getElem? (i := 284) (by decide +kernel)⟩
theorem lw_p2 : lw_okq (⟨"KeeperTree", "nodeAt", "(I)LKeeperTree$Node;"⟩, 6) := ⟨⟨by decide +kernel, by decide +kernel⟩, List.mem_of_getElem? (i := 23) (by decide +kernel), List.mem_of_getElem? (i := 287) (by decide +kernel), List.mem_of_getElem? (i := 288) (by decide +kernel)⟩
theorem lw_p3 : lw_okq (⟨"KeeperTree", "madeNode", "(I)LKeeperTree$Node;"⟩, 6) := ⟨⟨by decide +kernel, by decide +kernel⟩, List.mem_of_getElem? (i := 23) (by decide +kernel), List.mem_of_getElem? (i := 291) (by decide +kernel), List.mem_of_getElem? (i := 292) (by decide +kernel)⟩
theorem lw_p4 : lw_okq (⟨"KeeperTree", "hasRoomBelow", "(LKeeperTree$Keeper;)Z"⟩, 6) := ⟨⟨by decide +kernel, by decide +kernel⟩, List.mem_of_getElem? (i := 23) (by decide +kernel), List.mem_of_getElem? (i := 295) (by decide +kernel), List.mem_of_getElem? (i := 296) (by decide +kernel)⟩
theorem lw_p5 : lw_okq (⟨"KeeperTree", "join", "(LKeeperTree$Node;LKeeperTree$Keeper;)V"⟩, 6) := ⟨⟨by decide +kernel, by decide +kernel⟩, List.mem_of_getElem? (i := 23) (by decide +kernel), List.mem_of_getElem? (i := 299) (by decide +kernel), List.mem_of_getElem? (i := 300) (by decide +kernel)⟩
theorem lw_p6 : lw_okq (⟨"java/util/ArrayList", "add", "(Ljava/lang/Object;[Ljava/lang/Object;I)V"⟩, 3) := ⟨⟨by decide +kernel, by decide +kernel⟩, List.mem_of_getElem? (i := 64) (by decide +kernel), List.mem_of_getElem? (i := 307) (by decide +kernel), List.mem_of_getElem? (i := 308) (by decide +kernel)⟩
theorem lw_p7 : lw_okq (⟨"java/util/ArrayList", "grow", "()[Ljava/lang/Object;"⟩, 3) := ⟨⟨by decide +kernel, by decide +kernel⟩, List.mem_of_getElem? (i := 64) (by decide +kernel), List.mem_of_getElem? (i := 311) (by decide +kernel), List.mem_of_getElem? (i := 312) (by decide +kernel)⟩
theorem lw_p8 : lw_okq (⟨"java/util/ArrayList", "grow", "(I)[Ljava/lang/Object;"⟩, 3) := ⟨⟨by decide +kernel, by decide +kernel⟩, List.mem_of_getElem? (i := 64) (by decide +kernel), List.mem_of_getElem? (i := 315) (by decide +kernel), List.mem_of_getElem? (i := 316) (by decide +kernel)⟩
theorem lw_p9 : lw_okq (⟨"KeeperTree$Keeper", "fallAll", "(LKeeperTree$Journal;)V"⟩, 10) := ⟨⟨by decide +kernel, by decide +kernel⟩, List.mem_of_getElem? (i := 55) (by decide +kernel), List.mem_of_getElem? (i := 408) (by decide +kernel), List.mem_of_getElem? (i := 409) (by decide +kernel)⟩
theorem lw_p10 : lw_okq (⟨"java/util/ArrayList", "fastRemove", "([Ljava/lang/Object;I)V"⟩, 3) := ⟨⟨by decide +kernel, by decide +kernel⟩, List.mem_of_getElem? (i := 64) (by decide +kernel), List.mem_of_getElem? (i := 471) (by decide +kernel), List.mem_of_getElem? (i := 472) (by decide +kernel)⟩
theorem lw_p11 : lw_okq (⟨"KeeperTree", "workerAt", "(I)LKeeperTree$Worker;"⟩, 6) := ⟨⟨by decide +kernel, by decide +kernel⟩, List.mem_of_getElem? (i := 23) (by decide +kernel), List.mem_of_getElem? (i := 492) (by decide +kernel), List.mem_of_getElem? (i := 493) (by decide +kernel)⟩
theorem lw_p12 : lw_okq (⟨"KeeperTree", "handleEnd", "(LKeeperTree$Node;I)V"⟩, 6) := ⟨⟨by decide +kernel, by decide +kernel⟩, List.mem_of_getElem? (i := 23) (by decide +kernel), List.mem_of_getElem? (i := 511) (by decide +kernel), List.mem_of_getElem? (i := 512) (by decide +kernel)⟩
theorem lw_p13 : lw_okq (⟨"KeeperTree", "restartOrGiveUp", "(LKeeperTree$Keeper;LKeeperTree$Node;)Z"⟩, 6) := ⟨⟨by decide +kernel, by decide +kernel⟩, List.mem_of_getElem? (i := 23) (by decide +kernel), List.mem_of_getElem? (i := 515) (by decide +kernel), List.mem_of_getElem? (i := 516) (by decide +kernel)⟩
theorem lw_p14 : lw_okq (⟨"KeeperTree$RestartTimes", "makeRoom", "(I)V"⟩, 2) := ⟨⟨by decide +kernel, by decide +kernel⟩, List.mem_of_getElem? (i := 90) (by decide +kernel), List.mem_of_getElem? (i := 524) (by decide +kernel), List.mem_of_getElem? (i := 525) (by decide +kernel)⟩
theorem lw_p15 : lw_okq (⟨"KeeperTree", "countIn", "(I)I"⟩, 6) := ⟨⟨by decide +kernel, by decide +kernel⟩, List.mem_of_getElem? (i := 23) (by decide +kernel), List.mem_of_getElem? (i := 644) (by decide +kernel), List.mem_of_getElem? (i := 645) (by decide +kernel)⟩
def lw_privs_1 : List (MethodName × Nat) := [(⟨"java/lang/Throwable", "fillInStackTrace", "(I)Ljava/lang/Throwable;"⟩, 6), (⟨"KeeperTree", "keeperAt", "(I)LKeeperTree$Keeper;"⟩, 6), (⟨"KeeperTree", "nodeAt", "(I)LKeeperTree$Node;"⟩, 6), (⟨"KeeperTree", "madeNode", "(I)LKeeperTree$Node;"⟩, 6), (⟨"KeeperTree", "hasRoomBelow", "(LKeeperTree$Keeper;)Z"⟩, 6), (⟨"KeeperTree", "join", "(LKeeperTree$Node;LKeeperTree$Keeper;)V"⟩, 6), (⟨"java/util/ArrayList", "add", "(Ljava/lang/Object;[Ljava/lang/Object;I)V"⟩, 3), (⟨"java/util/ArrayList", "grow", "()[Ljava/lang/Object;"⟩, 3), (⟨"java/util/ArrayList", "grow", "(I)[Ljava/lang/Object;"⟩, 3), (⟨"KeeperTree$Keeper", "fallAll", "(LKeeperTree$Journal;)V"⟩, 10), (⟨"java/util/ArrayList", "fastRemove", "([Ljava/lang/Object;I)V"⟩, 3), (⟨"KeeperTree", "workerAt", "(I)LKeeperTree$Worker;"⟩, 6), (⟨"KeeperTree", "handleEnd", "(LKeeperTree$Node;I)V"⟩, 6), (⟨"KeeperTree", "restartOrGiveUp", "(LKeeperTree$Keeper;LKeeperTree$Node;)Z"⟩, 6), (⟨"KeeperTree$RestartTimes", "makeRoom", "(I)V"⟩, 2), (⟨"KeeperTree", "countIn", "(I)I"⟩, 6)]
theorem lw_r1 : ∀ q ∈ lw_privs_1, lw_okq q := List.forall_mem_cons.mpr ⟨lw_p0, List.forall_mem_cons.mpr ⟨lw_p1, List.forall_mem_cons.mpr ⟨lw_p2, List.forall_mem_cons.mpr ⟨lw_p3, List.forall_mem_cons.mpr ⟨lw_p4, List.forall_mem_cons.mpr ⟨lw_p5, List.forall_mem_cons.mpr ⟨lw_p6, List.forall_mem_cons.mpr ⟨lw_p7, List.forall_mem_cons.mpr ⟨lw_p8, List.forall_mem_cons.mpr ⟨lw_p9, List.forall_mem_cons.mpr ⟨lw_p10, List.forall_mem_cons.mpr ⟨lw_p11, List.forall_mem_cons.mpr ⟨lw_p12, List.forall_mem_cons.mpr ⟨lw_p13, List.forall_mem_cons.mpr ⟨lw_p14, List.forall_mem_cons.mpr ⟨lw_p15, fun _ h => absurd h List.not_mem_nil⟩⟩⟩⟩⟩⟩⟩⟩⟩⟩⟩⟩⟩⟩⟩⟩
theorem lw_p16 : lw_okq (⟨"KeeperTreeModel", "refuses", "(I)Z"⟩, 25) := ⟨⟨by decide +kernel, by decide +kernel⟩, List.mem_of_getElem? (i := 648) (by decide +kernel), List.mem_of_getElem? (i := 745) (by decide +kernel), List.mem_of_getElem? (i := 746) (by decide +kernel)⟩
theorem lw_p17 : lw_okq (⟨"KeeperTreeModel", "isKeeper", "(I)Z"⟩, 25) := ⟨⟨by decide +kernel, by decide +kernel⟩, List.mem_of_getElem? (i := 648) (by decide +kernel), List.mem_of_getElem? (i := 753) (by decide +kernel), List.mem_of_getElem? (i := 754) (by decide +kernel)⟩
theorem lw_p18 : lw_okq (⟨"KeeperTreeModel", "isNode", "(I)Z"⟩, 25) := ⟨⟨by decide +kernel, by decide +kernel⟩, List.mem_of_getElem? (i := 648) (by decide +kernel), List.mem_of_getElem? (i := 757) (by decide +kernel), List.mem_of_getElem? (i := 758) (by decide +kernel)⟩
theorem lw_p19 : lw_okq (⟨"KeeperTreeModel", "child", "(IIZ)I"⟩, 25) := ⟨⟨by decide +kernel, by decide +kernel⟩, List.mem_of_getElem? (i := 648) (by decide +kernel), List.mem_of_getElem? (i := 761) (by decide +kernel), List.mem_of_getElem? (i := 762) (by decide +kernel)⟩
theorem lw_p20 : lw_okq (⟨"KeeperTreeModel", "starts", "(I)Z"⟩, 25) := ⟨⟨by decide +kernel, by decide +kernel⟩, List.mem_of_getElem? (i := 648) (by decide +kernel), List.mem_of_getElem? (i := 765) (by decide +kernel), List.mem_of_getElem? (i := 766) (by decide +kernel)⟩
theorem lw_p21 : lw_okq (⟨"KeeperTreeModel", "stopsBelow", "(III)V"⟩, 25) := ⟨⟨by decide +kernel, by decide +kernel⟩, List.mem_of_getElem? (i := 648) (by decide +kernel), List.mem_of_getElem? (i := 769) (by decide +kernel), List.mem_of_getElem? (i := 770) (by decide +kernel)⟩
theorem lw_p22 : lw_okq (⟨"KeeperTreeModel", "ceases", "(IIZ)I"⟩, 25) := ⟨⟨by decide +kernel, by decide +kernel⟩, List.mem_of_getElem? (i := 648) (by decide +kernel), List.mem_of_getElem? (i := 773) (by decide +kernel), List.mem_of_getElem? (i := 774) (by decide +kernel)⟩
theorem lw_p23 : lw_okq (⟨"KeeperTreeModel", "note", "(III)V"⟩, 25) := ⟨⟨by decide +kernel, by decide +kernel⟩, List.mem_of_getElem? (i := 648) (by decide +kernel), List.mem_of_getElem? (i := 777) (by decide +kernel), List.mem_of_getElem? (i := 778) (by decide +kernel)⟩
theorem lw_p24 : lw_okq (⟨"KeeperTreeModel", "goes", "(I)I"⟩, 25) := ⟨⟨by decide +kernel, by decide +kernel⟩, List.mem_of_getElem? (i := 648) (by decide +kernel), List.mem_of_getElem? (i := 785) (by decide +kernel), List.mem_of_getElem? (i := 786) (by decide +kernel)⟩
theorem lw_p25 : lw_okq (⟨"KeeperTreeModel", "place", "(I)I"⟩, 25) := ⟨⟨by decide +kernel, by decide +kernel⟩, List.mem_of_getElem? (i := 648) (by decide +kernel), List.mem_of_getElem? (i := 789) (by decide +kernel), List.mem_of_getElem? (i := 790) (by decide +kernel)⟩
theorem lw_p26 : lw_okq (⟨"KeeperTreeModel", "isWorker", "(I)Z"⟩, 25) := ⟨⟨by decide +kernel, by decide +kernel⟩, List.mem_of_getElem? (i := 648) (by decide +kernel), List.mem_of_getElem? (i := 797) (by decide +kernel), List.mem_of_getElem? (i := 798) (by decide +kernel)⟩
theorem lw_p27 : lw_okq (⟨"KeeperTreeModel", "handles", "(II)V"⟩, 25) := ⟨⟨by decide +kernel, by decide +kernel⟩, List.mem_of_getElem? (i := 648) (by decide +kernel), List.mem_of_getElem? (i := 809) (by decide +kernel), List.mem_of_getElem? (i := 810) (by decide +kernel)⟩
theorem lw_p28 : lw_okq (⟨"KeeperTreeModel", "counts", "(I)Z"⟩, 25) := ⟨⟨by decide +kernel, by decide +kernel⟩, List.mem_of_getElem? (i := 648) (by decide +kernel), List.mem_of_getElem? (i := 813) (by decide +kernel), List.mem_of_getElem? (i := 814) (by decide +kernel)⟩
theorem lw_p29 : lw_okq (⟨"KeeperTreeModel", "restarts", "(II)I"⟩, 25) := ⟨⟨by decide +kernel, by decide +kernel⟩, List.mem_of_getElem? (i := 648) (by decide +kernel), List.mem_of_getElem? (i := 817) (by decide +kernel), List.mem_of_getElem? (i := 818) (by decide +kernel)⟩
def lw_privs_2 : List (MethodName × Nat) := [(⟨"KeeperTreeModel", "refuses", "(I)Z"⟩, 25), (⟨"KeeperTreeModel", "isKeeper", "(I)Z"⟩, 25), (⟨"KeeperTreeModel", "isNode", "(I)Z"⟩, 25), (⟨"KeeperTreeModel", "child", "(IIZ)I"⟩, 25), (⟨"KeeperTreeModel", "starts", "(I)Z"⟩, 25), (⟨"KeeperTreeModel", "stopsBelow", "(III)V"⟩, 25), (⟨"KeeperTreeModel", "ceases", "(IIZ)I"⟩, 25), (⟨"KeeperTreeModel", "note", "(III)V"⟩, 25), (⟨"KeeperTreeModel", "goes", "(I)I"⟩, 25), (⟨"KeeperTreeModel", "place", "(I)I"⟩, 25), (⟨"KeeperTreeModel", "isWorker", "(I)Z"⟩, 25), (⟨"KeeperTreeModel", "handles", "(II)V"⟩, 25), (⟨"KeeperTreeModel", "counts", "(I)Z"⟩, 25), (⟨"KeeperTreeModel", "restarts", "(II)I"⟩, 25)]
theorem lw_r2 : ∀ q ∈ lw_privs_2, lw_okq q := List.forall_mem_cons.mpr ⟨lw_p16, List.forall_mem_cons.mpr ⟨lw_p17, List.forall_mem_cons.mpr ⟨lw_p18, List.forall_mem_cons.mpr ⟨lw_p19, List.forall_mem_cons.mpr ⟨lw_p20, List.forall_mem_cons.mpr ⟨lw_p21, List.forall_mem_cons.mpr ⟨lw_p22, List.forall_mem_cons.mpr ⟨lw_p23, List.forall_mem_cons.mpr ⟨lw_p24, List.forall_mem_cons.mpr ⟨lw_p25, List.forall_mem_cons.mpr ⟨lw_p26, List.forall_mem_cons.mpr ⟨lw_p27, List.forall_mem_cons.mpr ⟨lw_p28, List.forall_mem_cons.mpr ⟨lw_p29, fun _ h => absurd h List.not_mem_nil⟩⟩⟩⟩⟩⟩⟩⟩⟩⟩⟩⟩⟩⟩
def lw_privs : List (MethodName × Nat) := lw_privs_1 ++ (lw_privs_2)
def lw_tbl : List Cond := k2_sels lw_privs ++ tables_1
theorem lw_privs_ok : ∀ q ∈ lw_privs, lw_okq q := by
  show ∀ q ∈ lw_privs_1 ++ (lw_privs_2), lw_okq q
  exact List.forall_mem_append.mpr ⟨lw_r1, lw_r2⟩
end
section
/-! ===== BEGIN words of one list among another's, by their places ===== -/
theorem goodIn_r {big : List Cond} (ws : List Cond) (ps : List Nat) (hp : ws = ps.filterMap (fun i => big[i]?)) (h : ws.all goodWord = true) : GoodIn big ws := by
  intro w hw
  have h1 := List.all_eq_true.mp h w hw
  rw [hp] at hw
  obtain ⟨i, -, hi⟩ := List.mem_filterMap.mp hw
  have hm : w ∈ big := by first | exact List.mem_of_getElem? hi | exact List.getElem?_mem hi
  exact ⟨hm, good_of_word h1⟩
theorem goodIn_app {big a b : List Cond} (ha : GoodIn big a) (hb : GoodIn big b) : GoodIn big (a ++ b) := fun w h => (List.mem_append.mp h).elim (ha w) (hb w)
theorem goodIn_ca {big a b : List Cond} {c : Cond} (ha : GoodIn big (c :: a)) (hb : GoodIn big b) : GoodIn big (c :: (a ++ b)) := fun w h => (List.mem_cons.mp h).elim (fun e => ha w (List.mem_cons.mpr (Or.inl e))) (fun h => (List.mem_append.mp h).elim (fun h => ha w (List.mem_cons.mpr (Or.inr h))) (hb w))
theorem goodIn_sub {big ws : List Cond} (hm : ∀ w ∈ ws, w ∈ big) (h : ws.all goodWord = true) : GoodIn big ws := fun w hw => ⟨hm w hw, good_of_word (List.all_eq_true.mp h w hw)⟩
/-! ===== END ===== -/

/-! ===== BEGIN exceptions that leave a method, and their catching by the caller (launches without stack traces) ===== -/
section VXA
/-! The laws vx_back, vx_callV, vx_callS, vx_callSW, vx_throw0, vx_throwS follow proofs of the library, with one case more: JvmDerived/Free/Laws.lean (Back.of_free), Shelf42/LK1.lean (callV, callS), Shelf/KitTraced.lean (throwNew0V, throwNewS). -/
/-- where a method has thrown q: the class by its name, the cell, what was written, the world -/
def vx_T (XC : String → State → State → Prop) (st : State) (q : Addr) (t : State) (mc ms : Nat) (free : Addr → Prop) : Prop :=
  ∃ (E : String) (ce : Cell) (L : List Loc), XC E st t ∧ t.heap[q]? = some ce ∧ ce.vm = .none ∧ st.vm.findClass E = some ce.cls ∧ st.WarmedH t.vm ∧ st.sameButNew ({ t with vm := st.vm } : State) L mc ms ∧ ∀ z ∈ L, free z.base
def vx_Q (Qc : Array Value → State → Outcome → State → Prop) (XC : String → State → State → Prop) (mc ms : Nat) (free : Addr → Prop) : Array Value → State → Outcome → State → Prop := fun a st o t =>
  (Qc a st o t ∧ ∃ L, FrameEnd st o t L mc ms ∧ ∀ q ∈ L, free q.base) ∨ ∃ q, o = .threw q ∧ vx_T XC st q t mc ms free
/-- a callee that returns or throws -/
def vx_Met (l : Launch) (y : MethodName) (ws : List Cond) (rm : Room) (Pc : Array Value → State → Prop) (Qc : Array Value → State → Outcome → State → Prop) (XC : String → State → State → Prop) (mc ms : Nat) (free : Addr → Prop) : Prop :=
  MetFree l y (headSpec ws rm) Pc (fun _ _ _ _ _ => True) (vx_Q Qc XC mc ms free)
def vx_Post (XC : String → State → State → Prop) (mc ms : Nat) (free : Addr → Prop) : Pt → Array Value → Addr → Pt → Prop := fun A a q B =>
  ∃ (g : JFrame) (mk : MethodId) (t : State) (L : List Loc) (E : String) (ce : Cell), B.U.heap = t.heap ∧ B.U.vm = t.vm ∧ XC E (A.U.calling g mk a) t ∧ t.heap[q]? = some ce ∧ ce.vm = .none ∧ A.U.vm.findClass E = some ce.cls ∧ B.locs = A.locs ++ L ∧ (∀ z ∈ L, free z.base) ∧ B.cells = A.cells + mc ∧ B.slots = A.slots + ms
def vx_Back (l : Launch) (R : Room) (p : Program) (e : Env) (below : List Frame) (s : State) (sargs : Array Value) (y : MethodName) (len W9 : Nat)
    (Pre : Pt → Array Value → Prop) (Post : Pt → Array Value → Option Value → Pt → Prop) (PostX : Pt → Array Value → Addr → Pt → Prop) : Prop :=
  ∀ (m : MethodId) (meth : Method) (c : Code) (A : Pt) (g : JFrame) (ig : Instr) (mk : MethodId) (a : Array Value),
    Stand p l e R s m sargs below meth c A.U A.locs A.cells A.slots → g.method = m → g.locals.size = c.maxLocals → decode c.code g.pc = .ok (ig, len) →
    2 * g.monitorRoom + (g.stack.map fun v => v.category).sum ≤ W9 → A.U.methodNamed? y = some mk → Pre A a →
    (∃ (v : Option Value) (B : Pt), Stand p l e R s m sargs below meth c B.U B.locs B.cells B.slots ∧ Post A a v B ∧
      Steps p.tables e below (doInvoke e (A.U.setTop g) [] mk a).1 (B.U.setTop { g with pc := g.pc + len, stack := v.toList ++ g.stack })) ∨
    (∃ (q : Addr) (B : Pt), Stand p l e R s m sargs below meth c B.U B.locs B.cells B.slots ∧ PostX A a q B ∧
      Steps p.tables e below (doInvoke e (A.U.setTop g) [] mk a).1 ((B.U.setTop g).pushFrame (.throwing q)))
section Payer
variable {l : Launch} {R : Room} {p : Program} {e : Env} {below : List Frame} {s : State} {sargs : Array Value} {y : MethodName} {len W9 : Nat}
theorem vx_back {ws : List Cond} {rm : Room} {Pc : Array Value → State → Prop} {Qc : Array Value → State → Outcome → State → Prop} {XC : String → State → State → Prop} {mc ms : Nat} {free : Addr → Prop} {bytes : ByteArray} {maxL : Nat} {ret : Option FieldType}
    (hM : vx_Met l y ws rm Pc Qc XC mc ms free) (hblind : FrameBlind Pc) (hrc : rm.cells = mc) (hrs : rm.slots = ms)
    (hframes : rm.frames + 1 ≤ R.frames) (hlocals : W9 + (maxL + 11) + rm.locals ≤ R.locals)
    (hws : ∀ w ∈ ws, ∀ a' U, s.WarmedH U.vm → w.before a' U = true) (hcode : Cond.code y bytes maxL ret ∈ ws) (hinit : ∀ a' U, s.WarmedH U.vm → (Cond.initialized y.cls).before a' U = true) :
    vx_Back l R p e below s sargs y len W9 (PreOf R mc ms Pc) (PostOf Qc mc ms free) (vx_Post XC mc ms free) := by
  intro m meth c A g ig mk a X hg hsize hdg hW hn hp
  have h1 : (headSpec ws rm).pre.before a A.U = true := atoms_intro fun w hw => hws w hw _ _ X.warmed
  have h2 : (Cond.code y bytes maxL ret).before a A.U = true := hws _ hcode _ _ X.warmed
  have h3 : (Cond.initialized y.cls).before a A.U = true := hinit _ _ X.warmed
  have h4 : A.cells + (headSpec ws rm).room.cells ≤ R.cells := by rw [show (headSpec ws rm).room.cells = mc from hrc]; exact hp.1
  have h5 : A.slots + (headSpec ws rm).room.slots ≤ R.slots := by rw [show (headSpec ws rm).room.slots = ms from hrs]; exact hp.2.1
  have hPc : Pc a (A.U.calling g mk a) := hblind _ _ _ _ hp.2.2
  obtain ⟨U, Ls, c0, s0⟩ := A
  dsimp only [Pt.U, Pt.locs, Pt.cells, Pt.slots] at h1 h2 h3 h4 h5 X hn hPc ⊢
  obtain ⟨methY, cY, hmY, hcY, -, hlY, -, -, -, -⟩ := Cond.code_spec hn h2
  obtain ⟨kY, hkY, -⟩ := className_of_methodNamed hn
  have hinitY : kY.init = .initialized := Cond.initialized_spec (findClass_of_methodNamed hn) hkY h3
  have h : At U g.method c below := by rw [hg]; exact X.here
  have hlocals9 : W9 + (maxL + 11) + (headSpec ws rm).room.locals ≤ R.locals := hlocals
  have happ : (headSpec ws rm).appliesLoose y e.platform (U.calling g mk a) = true :=
    Spec.appliesLoose_calling (g := g) h hdg hn hkY hinitY
      (X.room_calling (g := g) (R' := (headSpec ws rm).room) hsize hmY hcY hframes (by rw [hlY]; omega) h4 h5) h1
  obtain ⟨mid, hmid⟩ := h.above
  have hfr : (U.setTop g).frames = (.java g :: mid) ++ below := by rw [State.frames_setTop' g h.top, hmid]; rfl
  obtain ⟨o, s₂, hsteps, -, hend, hq⟩ := Steps.callFree hM p X.admits X.cas X.clock (acts := []) hfr happ hPc trivial
  have hq' : vx_Q Qc XC mc ms free a (U.calling g mk a) o s₂ := hq
  rw [State.frames_setTop' g h.top] at hend
  obtain ⟨g₀, hg0⟩ := Option.isSome_iff_exists.mp h.top
  obtain ⟨r, hr⟩ := State.topJava?_eq_some.mp hg0
  have hr' : (({ U with heap := s₂.heap, slotsUsed := s₂.slotsUsed } : State).setVm s₂.vm).frames = .java g₀ :: r := hr
  rcases hq' with ⟨hqc, L, hfe, hL⟩ | ⟨q, rfl, E, ce, L, hx, hce, hcv, hcl, hW₂, hsm, hL⟩
  · obtain ⟨⟨v, rfl⟩, hW₂, e2, q2, q3, q4, q5, q6⟩ := id hfe
    have e3 : s₂ = ({ (U.calling g mk a).setFrames s₂.frames with heap := s₂.heap, slotsUsed := s₂.slotsUsed } : State).setVm s₂.vm := by
      have : s₂ = ({ s₂ with vm := (U.calling g mk a).vm } : State).setVm s₂.vm := rfl
      rw [e2] at this
      exact this
    obtain ⟨c₂, i₂, len₂, hc₂, hd₂, hf₂⟩ := hend
    have hW' : U.WarmedH s₂.vm := hW₂
    have hcc : c₂ = c := by
      have h1 : s₂.code? g.method = U.code? g.method := by
        rw [State.code?_eq, State.code?_eq, hW'.alike.method?]
      exact Option.some.inj (hc₂.symm.trans (h1.trans h.code))
    subst hcc
    have hlen : len₂ = len := by rw [hdg] at hd₂; cases hd₂; rfl
    subst hlen
    have hs₂ : s₂ = (({ U with heap := s₂.heap, slotsUsed := s₂.slotsUsed } : State).setVm s₂.vm).setTop { g with pc := g.pc + len₂, stack := v.toList ++ g.stack } := by
      refine e3.trans ?_
      rw [hf₂, State.calling_eq h.top, State.setFrames_setFrames, State.setTop_of_frames _ hr', hr]
      rfl
    have hsame : U.sameButNew ({ U with heap := s₂.heap, slotsUsed := s₂.slotsUsed } : State) L mc ms := by
      refine ⟨?_, q2, q3, q4, q5, q6⟩
      obtain ⟨t, ht, -⟩ := State.frames_cons hr
      show ({ U with heap := s₂.heap, slotsUsed := s₂.slotsUsed } : State) = { U.setFrames U.frames with heap := s₂.heap, slotsUsed := s₂.slotsUsed }
      rw [State.setFrames_self ht]
    subst hg
    refine Or.inl ⟨v, ⟨(({ U with heap := s₂.heap, slotsUsed := s₂.slotsUsed } : State).setVm s₂.vm), Ls ++ L, c0 + mc, s0 + ms⟩,
      ⟨X.admits, X.cas, X.clock, X.frames, X.room, X.hears, X.method, X.code, (X.here.setHeapUsed s₂.heap s₂.slotsUsed).setVm hW'.alike, X.tail, State.WarmedH.trans X.warmed hW', X.limits, X.bytes, X.same.trans (hsame.setVm s.vm)⟩,
      ⟨g, mk, s₂, L, rfl, rfl, hqc, rfl, hL, rfl, rfl⟩, ?_⟩
    show Steps p.tables e below _ ((({ U with heap := s₂.heap, slotsUsed := s₂.slotsUsed } : State).setVm s₂.vm).setTop { g with pc := g.pc + len₂, stack := v.toList ++ g.stack })
    rw [← hs₂]
    exact hsteps
  · obtain ⟨e2, q2, q3, q4, q5, q6⟩ := id hsm
    have e3 : s₂ = ({ (U.calling g mk a).setFrames s₂.frames with heap := s₂.heap, slotsUsed := s₂.slotsUsed } : State).setVm s₂.vm := by
      have : s₂ = ({ s₂ with vm := (U.calling g mk a).vm } : State).setVm s₂.vm := rfl
      rw [e2] at this
      exact this
    have hf₂ : s₂.frames = .throwing q :: .java g :: U.frames.tail := hend
    have hW' : U.WarmedH s₂.vm := hW₂
    have hs₂ : s₂ = ((({ U with heap := s₂.heap, slotsUsed := s₂.slotsUsed } : State).setVm s₂.vm).setTop g).pushFrame (.throwing q) := by
      refine e3.trans ?_
      rw [hf₂, State.calling_eq h.top, State.setFrames_setFrames, State.pushFrame, State.frames_setTop _ hr', State.setTop_of_frames _ hr', State.setFrames_setFrames, hr]
      rfl
    have hsame : U.sameButNew ({ U with heap := s₂.heap, slotsUsed := s₂.slotsUsed } : State) L mc ms := by
      refine ⟨?_, q2, q3, q4, q5, q6⟩
      obtain ⟨t, ht, -⟩ := State.frames_cons hr
      show ({ U with heap := s₂.heap, slotsUsed := s₂.slotsUsed } : State) = { U.setFrames U.frames with heap := s₂.heap, slotsUsed := s₂.slotsUsed }
      rw [State.setFrames_self ht]
    subst hg
    refine Or.inr ⟨q, ⟨(({ U with heap := s₂.heap, slotsUsed := s₂.slotsUsed } : State).setVm s₂.vm), Ls ++ L, c0 + mc, s0 + ms⟩,
      ⟨X.admits, X.cas, X.clock, X.frames, X.room, X.hears, X.method, X.code, (X.here.setHeapUsed s₂.heap s₂.slotsUsed).setVm hW'.alike, X.tail, State.WarmedH.trans X.warmed hW', X.limits, X.bytes, X.same.trans (hsame.setVm s.vm)⟩,
      ⟨g, mk, s₂, L, E, ce, rfl, rfl, hx, hce, hcv, hcl, rfl, hL, rfl, rfl⟩, ?_⟩
    show Steps p.tables e below _ (((({ U with heap := s₂.heap, slotsUsed := s₂.slotsUsed } : State).setVm s₂.vm).setTop g).pushFrame (.throwing q))
    rw [← hs₂]
    exact hsteps
end Payer
section Calls
variable {p : Program} {l : Launch} {e : Env} {R : Room} {s : State} {m : MethodId} {args : Array Value} {below : List Frame} {meth : Method} {c : Code} {T : State} {locs : List Loc} {cells slots : Nat}
theorem vx_callV (X : Stand p l e R s m args below meth c T locs cells slots) (hexec : p.tables.exec = Jvm.exec) {own C : String} {index : Nat} {y : MethodName} {bytes : ByteArray} {maxL : Nat} {ret : Option FieldType}
    (hown : s.vm.findClass own = some m.cls) (hlink : (Cond.methodLink own index y).before args s = true) (hinst : (Cond.instanceMethod y).before args s = true) (hsel : (Cond.selects C y y).before args s = true)
    (hcode : (Cond.code y bytes maxL ret).before args s = true) (hy : y.cls ≠ "java/lang/invoke/MethodHandle" ∧ y.cls ≠ "java/lang/invoke/VarHandle")
    {W9 : Nat} {Pre : Pt → Array Value → Prop} {Post : Pt → Array Value → Option Value → Pt → Prop} {PostX : Pt → Array Value → Addr → Pt → Prop} (hK : vx_Back l R p e below s args y 3 W9 Pre Post PostX)
    {b : Addr} {cellB : Cell} (hcell : T.heap[b]? = some cellB) (hobj : cellB.vm.isStatics = false) (hcls : s.vm.findClass C = some cellB.cls)
    {g : JFrame} (hg : g.method = m) (hsize : g.locals.size = c.maxLocals) {argsL rest : List Value} (hlen : ∀ sig, parseMethodDescriptor y.desc = some sig → argsL.length = sig.parameters.length)
    (hstack : g.stack = argsL.reverse ++ .ref b :: rest) (hW : 2 * g.monitorRoom + (rest.map fun v => v.category).sum ≤ W9) (hdg : decode c.code g.pc = .ok (.invokevirtual index, 3))
    (hpre : ∀ vm₁, s.WarmedH vm₁ → Pre ⟨T.setVm vm₁, locs, cells, slots⟩ (Value.ref b :: argsL).toArray) :
    (∃ (v : Option Value) (vm₁ : Vm) (B : Pt), s.WarmedH vm₁ ∧ Stand p l e R s m args below meth c B.U B.locs B.cells B.slots ∧ Post ⟨T.setVm vm₁, locs, cells, slots⟩ (Value.ref b :: argsL).toArray v B ∧
      ∀ target, Steps p.tables e below (B.U.setTop { g with pc := g.pc + 3, stack := v.toList ++ rest }) target → Steps p.tables e below (T.setTop g) target) ∨
    (∃ (q : Addr) (vm₁ : Vm) (B : Pt), s.WarmedH vm₁ ∧ Stand p l e R s m args below meth c B.U B.locs B.cells B.slots ∧ PostX ⟨T.setVm vm₁, locs, cells, slots⟩ (Value.ref b :: argsL).toArray q B ∧
      Steps p.tables e below (T.setTop g) ((B.U.setTop { g with stack := rest }).pushFrame (.throwing q))) := by
  obtain ⟨mk, methM, hnamed, hmethM, hstM, habM⟩ := Cond.instanceMethod_spec hinst
  obtain ⟨methM', cM, hmethM', -, -, -, -, -, -, hsigM⟩ := Cond.code_spec hnamed hcode
  cases hmethM.symm.trans hmethM'
  obtain ⟨c2, r2, m2, q1, q2, q3, q4, kP, hkP, hkPi⟩ := Cond.selects_spec hsel
  cases hcls.symm.trans q1
  cases (State.methodFound?_of_named hnamed hy).symm.trans q2
  cases hnamed.symm.trans q3
  have hselP : selectMethod e.platform s.vm cellB.cls mk = .method mk := by rw [Launch.admits_selectMethod X.admits]; exact q4
  obtain ⟨vm₁, X₁, hstep₁⟩ := X.invokevirtual hexec hown hlink hnamed hmethM hstM hkP hkPi hy (a := b) (cell := cellB) hcell
    (fun z h => by rw [h] at hobj; cases hobj) hselP hmethM habM hkP hkPi (g := g) hg (argsL := argsL) (rest := rest) (hlen _ hsigM) hstack hdg
  rcases hK m meth c ⟨T.setVm vm₁, locs, cells, slots⟩ { g with stack := rest } (.invokevirtual index) mk (Value.ref b :: argsL).toArray X₁ hg hsize hdg hW (X₁.named hnamed) (hpre vm₁ X₁.warmed) with ⟨v, B, X', hpost, hsteps⟩ | ⟨q, B, X', hpost, hsteps⟩
  · exact Or.inl ⟨v, vm₁, B, X₁.warmed, X', hpost, fun target h => hstep₁ _ fun acts => by rw [doInvoke_state]; exact hsteps.trans h⟩
  · exact Or.inr ⟨q, vm₁, B, X₁.warmed, X', hpost, hstep₁ _ fun acts => by rw [doInvoke_state]; exact hsteps⟩
theorem vx_callS (X : Stand p l e R s m args below meth c T locs cells slots) (hexec : p.tables.exec = Jvm.exec) {own : String} {index : Nat} {y : MethodName} {bytes : ByteArray} {maxL : Nat} {ret : Option FieldType}
    (hown : s.vm.findClass own = some m.cls) (hlink : (Cond.methodLink own index y).before args s = true) (hstat : (Cond.static y).before args s = true) (hinit : (Cond.initialized y.cls).before args s = true)
    (hcode : (Cond.code y bytes maxL ret).before args s = true) (hy : y.cls ≠ "java/lang/invoke/MethodHandle" ∧ y.cls ≠ "java/lang/invoke/VarHandle")
    {W9 : Nat} {Pre : Pt → Array Value → Prop} {Post : Pt → Array Value → Option Value → Pt → Prop} {PostX : Pt → Array Value → Addr → Pt → Prop} (hK : vx_Back l R p e below s args y 3 W9 Pre Post PostX)
    {g : JFrame} (hg : g.method = m) (hsize : g.locals.size = c.maxLocals) {argsL rest : List Value} (hlen : ∀ sig, parseMethodDescriptor y.desc = some sig → argsL.length = sig.parameters.length)
    (hstack : g.stack = argsL.reverse ++ rest) (hW : 2 * g.monitorRoom + (rest.map fun v => v.category).sum ≤ W9) (hdg : decode c.code g.pc = .ok (.invokestatic index, 3))
    (hpre : ∀ vm₁, s.WarmedH vm₁ → Pre ⟨T.setVm vm₁, locs, cells, slots⟩ argsL.toArray) :
    (∃ (v : Option Value) (vm₁ : Vm) (B : Pt), s.WarmedH vm₁ ∧ Stand p l e R s m args below meth c B.U B.locs B.cells B.slots ∧ Post ⟨T.setVm vm₁, locs, cells, slots⟩ argsL.toArray v B ∧
      ∀ target, Steps p.tables e below (B.U.setTop { g with pc := g.pc + 3, stack := v.toList ++ rest }) target → Steps p.tables e below (T.setTop g) target) ∨
    (∃ (q : Addr) (vm₁ : Vm) (B : Pt), s.WarmedH vm₁ ∧ Stand p l e R s m args below meth c B.U B.locs B.cells B.slots ∧ PostX ⟨T.setVm vm₁, locs, cells, slots⟩ argsL.toArray q B ∧
      Steps p.tables e below (T.setTop g) ((B.U.setTop { g with stack := rest }).pushFrame (.throwing q))) := by
  obtain ⟨mk, hnamed⟩ := Cond.code_named hcode
  obtain ⟨methM, cM, hmethM, -, -, -, -, -, -, hsigM⟩ := Cond.code_spec hnamed hcode
  have hstatic : methM.isStatic = true := Cond.static_spec hnamed hmethM hstat
  obtain ⟨kP, hkP, -⟩ := className_of_methodNamed hnamed
  have hinitP : kP.init = .initialized := Cond.initialized_spec (findClass_of_methodNamed hnamed) hkP hinit
  obtain ⟨vm₁, X₁, hstep₁⟩ := X.invokestatic hexec hown hlink hnamed hmethM hstatic hkP hinitP hy (g := g) hg (argsL := argsL) (rest := rest) (hlen _ hsigM) hstack hdg
  rcases hK m meth c ⟨T.setVm vm₁, locs, cells, slots⟩ { g with stack := rest } (.invokestatic index) mk argsL.toArray X₁ hg hsize hdg hW (X₁.named hnamed) (hpre vm₁ X₁.warmed) with ⟨v, B, X', hpost, hsteps⟩ | ⟨q, B, X', hpost, hsteps⟩
  · exact Or.inl ⟨v, vm₁, B, X₁.warmed, X', hpost, fun target h => hstep₁ _ fun acts => by rw [doInvoke_state]; exact hsteps.trans h⟩
  · exact Or.inr ⟨q, vm₁, B, X₁.warmed, X', hpost, hstep₁ _ fun acts => by rw [doInvoke_state]; exact hsteps⟩
end Calls
theorem vx_cls {s : State} {T : State} {vm₁ : Vm} {E : String} {k : ClassId} (hW : s.WarmedH vm₁) (h : (T.setVm vm₁).vm.findClass E = some k) : s.vm.findClass E = some k := by
  have h1 : vm₁.findClass E = some k := h
  rw [hW.alike.findClass] at h1
  exact h1
/-- the method's frame g, with q thrown over it -/
def vx_W (p : Program) (l : Launch) (e : Env) (R : Room) (s : State) (m : MethodId) (args : Array Value) (below : List Frame) (meth : Method) (c : Code) (H : Heap) (locs : List Loc) (cells slots : Nat) (Q : State → Prop) (g : JFrame) (q : Addr) : Prop :=
  ∀ T : State, T.heap = H → Stand p l e R s m args below meth c T locs cells slots → ∃ t, Steps p.tables e below ((T.setTop g).pushFrame (.throwing q)) t ∧ Q t
def vx_Run (p : Program) (l : Launch) (e : Env) (R : Room) (s : State) (m : MethodId) (args : Array Value) (below : List Frame) (meth : Method) (c : Code) (H : Heap) (locs : List Loc) (cells slots mc ms : Nat) (g : JFrame) (rest : List Value) (Qa : State → Outcome → State → Prop) (XC : String → State → State → Prop) (free : Addr → Prop) : Prop :=
  ∀ T : State, T.heap = H → Stand p l e R s m args below meth c T locs cells slots →
    (∃ (v : Option Value) (st₀ t T' : State) (L : List Loc), st₀.heap = H ∧ Stand p l e R s m args below meth c T' (locs ++ L) (cells + mc) (slots + ms) ∧ (∀ q ∈ L, free q.base) ∧ T'.heap = t.heap ∧ T'.vm = t.vm ∧ Qa st₀ (.returned v) t ∧
      Goes p e below T g T' { g with pc := g.pc + 3, stack := v.toList ++ rest }) ∨
    (∃ (q : Addr) (st₀ t T' : State) (L : List Loc) (E : String) (ce : Cell), st₀.heap = H ∧ Stand p l e R s m args below meth c T' (locs ++ L) (cells + mc) (slots + ms) ∧ (∀ z ∈ L, free z.base) ∧ T'.heap = t.heap ∧ T'.vm = t.vm ∧ XC E st₀ t ∧ t.heap[q]? = some ce ∧ ce.vm = .none ∧ s.vm.findClass E = some ce.cls ∧
      Steps p.tables e below (T.setTop g) ((T'.setTop { g with stack := rest }).pushFrame (.throwing q)))
def vx_X {S : Type} (px : S → Prop) (B : String → S → State → Prop) (A : Nat → Prop) : String → State → State → Prop := fun E st t => ∃ u : S, px u ∧ B E u t ∧ va_F A st t
section Runs
variable {p : Program} {l : Launch} {e : Env} {R : Room} {s : State} {m : MethodId} {args : Array Value} {below : List Frame} {meth : Method} {c : Code} {H : Heap} {locs : List Loc} {cells slots : Nat}
variable {y : MethodName} {bytes cc : ByteArray} {maxL nL mc ms n index : Nat} {ret : Option FieldType} {ws : List Cond} {rm : Room} {Pc : Array Value → State → Prop} {Qc : Array Value → State → Outcome → State → Prop} {XC : String → State → State → Prop} {free : Addr → Prop} {Ts : List Cond} {own C : String} {b : Addr} {As rest : List Value} {g : JFrame}
theorem vx_callBack (cb : CallB R s args own index y bytes maxL ret ws rm mc ms n) (hM : vx_Met l y ws rm Pc Qc XC mc ms free) (hbl : FrameBlind Pc) : vx_Back l R p e below s args y 3 8 (PreOf R mc ms Pc) (PostOf Qc mc ms free) (vx_Post XC mc ms free) := by
  obtain ⟨hrc, hrs, hfr, hlo, hws, hcw, -, hini, -⟩ := cb
  exact vx_back (bytes := bytes) (maxL := maxL) (ret := ret) hM hbl hrc hrs hfr hlo hws hcw (fun a' U hW => word_at hW (Or.inl (by first | rfl | simp [Cond.onTables, Cond.keeps, Cond.steady])) hini)
theorem vx_runV (S : CallFix p m c cc nL s args Ts own) (hM : vx_Met l y ws rm Pc Qc XC mc ms free) (cw : CallW R s args own C index y bytes maxL ret ws rm mc ms n) (hp : PreV s H C b Pc As)
    (hg : g.method = m) (hn : As.length = n) (hsize : g.locals.size = nL) (hstack : g.stack = As.reverse ++ .ref b :: rest) (hW : 2 * g.monitorRoom + (rest.map fun v => v.category).sum ≤ 8) (hdg : decode cc g.pc = .ok (.invokevirtual index, 3)) (hf : cells + mc ≤ R.cells ∧ slots + ms ≤ R.slots) :
    vx_Run p l e R s m args below meth c H locs cells slots mc ms g rest (Qc (Value.ref b :: As).toArray) XC free := by
  have hK : vx_Back l R p e below s args y 3 8 (PreOf R mc ms Pc) (PostOf Qc mc ms free) (vx_Post XC mc ms free) := vx_callBack cw.1 hM hp.1
  obtain ⟨⟨-, -, -, -, -, -, hcode, -, hy, hlen, hl⟩, hin, hse⟩ := cw
  obtain ⟨hx, hb, hml, ho, -⟩ := S
  obtain ⟨-, ⟨cellB, hcB, hoB, hclB⟩, hPc⟩ := hp
  intro T hT X
  rcases vx_callV X hx (C := C) (bytes := bytes) (maxL := maxL) (ret := ret) ho hl hin hse hcode hy hK (by rw [hT]; exact hcB) hoB hclB hg (hsize.trans hml.symm) (argsL := As) (rest := rest) (fun sig h => hn.trans (hlen sig h)) hstack hW (by rw [hb]; exact hdg)
    (fun vm₁ hW₁ => ⟨hf.1, hf.2, hPc (T.setVm vm₁) hT hW₁⟩) with ⟨v, vm₁, ⟨U', l2, c2, s2⟩, hW₁, X', ⟨g', mk, t, L, e1, e2, hq, h1, hL, h2, h3⟩, st⟩ | ⟨q, vm₁, ⟨U', l2, c2, s2⟩, hW₁, X', ⟨g', mk, t, L, E, ce, e1, e2, hq, hce, hcv, hcl, h1, hL, h2, h3⟩, st⟩
  · dsimp only [Pt.U, Pt.locs, Pt.cells, Pt.slots] at X' e1 e2 h1 h2 h3 st
    subst h1; subst h2; subst h3
    exact Or.inl ⟨v, (T.setVm vm₁).calling g' mk (Value.ref b :: As).toArray, t, U', L, hT, X', hL, e1, e2, hq, st⟩
  · dsimp only [Pt.U, Pt.locs, Pt.cells, Pt.slots] at X' e1 e2 h1 h2 h3 st hcl
    subst h1; subst h2; subst h3
    exact Or.inr ⟨q, (T.setVm vm₁).calling g' mk (Value.ref b :: As).toArray, t, U', L, E, ce, hT, X', hL, e1, e2, hq, hce, hcv, vx_cls hW₁ hcl, st⟩
theorem vx_runS (S : CallFix p m c cc nL s args Ts own) (hM : vx_Met l y ws rm Pc Qc XC mc ms free) (cw : CallB R s args own index y bytes maxL ret ws rm mc ms n ∧ (Cond.static y).before args s = true) (hp : PreS s H Pc As)
    (hg : g.method = m) (hn : As.length = n) (hsize : g.locals.size = nL) (hstack : g.stack = As.reverse ++ rest) (hW : 2 * g.monitorRoom + (rest.map fun v => v.category).sum ≤ 8) (hdg : decode cc g.pc = .ok (.invokestatic index, 3)) (hf : cells + mc ≤ R.cells ∧ slots + ms ≤ R.slots) :
    vx_Run p l e R s m args below meth c H locs cells slots mc ms g rest (Qc As.toArray) XC free := by
  have hK : vx_Back l R p e below s args y 3 8 (PreOf R mc ms Pc) (PostOf Qc mc ms free) (vx_Post XC mc ms free) := vx_callBack cw.1 hM hp.1
  obtain ⟨⟨-, -, -, -, -, -, hcode, hini, hy, hlen, hl⟩, hstt⟩ := cw
  obtain ⟨hx, hb, hml, ho, -⟩ := S
  intro T hT X
  rcases vx_callS X hx (bytes := bytes) (maxL := maxL) (ret := ret) ho hl hstt hini hcode hy hK hg (hsize.trans hml.symm) (argsL := As) (rest := rest) (fun sig h => hn.trans (hlen sig h)) hstack hW (by rw [hb]; exact hdg)
    (fun vm₁ hW₁ => ⟨hf.1, hf.2, hp.2 (T.setVm vm₁) hT hW₁⟩) with ⟨v, vm₁, ⟨U', l2, c2, s2⟩, hW₁, X', ⟨g', mk, t, L, e1, e2, hq, h1, hL, h2, h3⟩, st⟩ | ⟨q, vm₁, ⟨U', l2, c2, s2⟩, hW₁, X', ⟨g', mk, t, L, E, ce, e1, e2, hq, hce, hcv, hcl, h1, hL, h2, h3⟩, st⟩
  · dsimp only [Pt.U, Pt.locs, Pt.cells, Pt.slots] at X' e1 e2 h1 h2 h3 st
    subst h1; subst h2; subst h3
    exact Or.inl ⟨v, (T.setVm vm₁).calling g' mk As.toArray, t, U', L, hT, X', hL, e1, e2, hq, st⟩
  · dsimp only [Pt.U, Pt.locs, Pt.cells, Pt.slots] at X' e1 e2 h1 h2 h3 st hcl
    subst h1; subst h2; subst h3
    exact Or.inr ⟨q, (T.setVm vm₁).calling g' mk As.toArray, t, U', L, E, ce, hT, X', hL, e1, e2, hq, hce, hcv, vx_cls hW₁ hcl, st⟩
end Runs
section Rows
variable {p : Program} {l : Launch} {e : Env} {R : Room} {s : State} {m : MethodId} {args : Array Value} {below : List Frame} {meth : Method} {c : Code} {H : Heap} {locs : List Loc} {cells slots : Nat} {Q : State → Prop}
variable {mc ms : Nat} {free : Addr → Prop} {A0 A1 : Nat → Prop} {H0 : Heap} {a : Array Value} {pc : Nat} {ls : Array Slot} {st0 rest : List Value}
theorem vx_keep {st₀ t T' : State} {L : List Loc} (h0 : st₀.heap = H) (e1 : T'.heap = t.heap) (hS : va_S A0 H0 H locs) (hA : ∀ q, q < H.size → A1 q → A0 q) (hf : ∀ q, free q → A0 q) (hL : ∀ q ∈ L, free q.base) (hF : va_F A1 st₀ t) :
    H.size ≤ T'.heap.size ∧ (∀ q : Nat, q < H.size → ¬ A1 q → T'.heap[q]? = H[q]?) ∧ va_S A0 H0 T'.heap (locs ++ L) := by
  obtain ⟨hz, hk⟩ := hF
  rw [h0] at hz hk
  exact ⟨by rw [e1]; exact hz, fun q h1 h2 => by rw [e1]; exact hk q h1 h2,
    ⟨Nat.le_trans hS.1 (by rw [e1]; exact hz), fun q h1 h2 => by rw [e1, hk q (Nat.lt_of_lt_of_le h1 hS.1) (fun z => h2 (hA q (Nat.lt_of_lt_of_le h1 hS.1) z))]; exact hS.2.1 q h1 h2, fun q hq => by
      rcases List.mem_append.mp hq with h | h
      · exact hS.2.2 q h
      · exact hf _ (hL q h)⟩⟩
theorem vx_calli {S SX : Type} {post : Int32 → S → Prop} {px : SX → Prop} {B : S → State → Prop} {BX : String → SX → State → Prop} {AX : Nat → Prop} (hr : vx_Run p l e R s m args below meth c H locs cells slots mc ms (F0 m pc ls st0) rest (va_Qi post B A1 a) (vx_X px BX AX) free) (hS : va_S A0 H0 H locs) (hA : ∀ q, q < H.size → A1 q → A0 q) (hf : ∀ q, free q → A0 q) (hAX : ∀ q, q < H.size → AX q → A0 q)
    (kx : ∀ (E : String) (ce : Cell) (q9 : Addr) (u : SX) (t : State) (H1 : Heap) (locs1 : List Loc), t.heap = H1 → s.vm.Alike t.vm → px u → BX E u t → H.size ≤ H1.size → (∀ q : Nat, q < H.size → ¬ AX q → H1[q]? = H[q]?) → va_S A0 H0 H1 locs1 → H1[q9]? = some ce → ce.vm = .none → s.vm.findClass E = some ce.cls → vx_W p l e R s m args below meth c H1 locs1 (cells + mc) (slots + ms) Q (F0 m pc ls rest) q9)
    (kk : ∀ (r : Int32) (u : S) (t : State) (H1 : Heap) (locs1 : List Loc), t.heap = H1 → s.vm.Alike t.vm → post r u → B u t → H.size ≤ H1.size → (∀ q : Nat, q < H.size → ¬ A1 q → H1[q]? = H[q]?) → va_S A0 H0 H1 locs1 → W p l e R s m args below meth c H1 locs1 (cells + mc) (slots + ms) Q (F0 m (pc + 3) ls (.int r :: rest))) : W p l e R s m args below meth c H locs cells slots Q (F0 m pc ls st0) := by
  intro T hT X
  rcases hr T hT X with ⟨v, st₀, t, T', L, h0, X', hL, e1, e2, ⟨⟨r, u, hv, hp, hb⟩, hF⟩, st⟩ | ⟨q, st₀, t, T', L, E, ce, h0, X', hL, e1, e2, ⟨u, hp, hb, hF⟩, hce, hcv, hcl, st⟩
  · cases hv
    obtain ⟨k1, k2, k3⟩ := vx_keep h0 e1 hS hA hf hL hF
    obtain ⟨t2, a1, b1⟩ := kk r u t T'.heap (locs ++ L) e1.symm (by rw [← e2]; exact X'.warmed.alike) hp hb k1 k2 k3 T' rfl X'
    exact ⟨t2, st t2 a1, b1⟩
  · obtain ⟨k1, k2, k3⟩ := vx_keep h0 e1 hS hAX hf hL hF
    obtain ⟨t2, a1, b1⟩ := kx E ce q u t T'.heap (locs ++ L) e1.symm (by rw [← e2]; exact X'.warmed.alike) hp hb k1 k2 k3 (by rw [e1]; exact hce) hcv hcl T' rfl X'
    exact ⟨t2, st.trans a1, b1⟩
theorem vx_calll {S SX : Type} {post : Int64 → S → Prop} {px : SX → Prop} {B : S → State → Prop} {BX : String → SX → State → Prop} {AX : Nat → Prop} (hr : vx_Run p l e R s m args below meth c H locs cells slots mc ms (F0 m pc ls st0) rest (va_Ql post B A1 a) (vx_X px BX AX) free) (hS : va_S A0 H0 H locs) (hA : ∀ q, q < H.size → A1 q → A0 q) (hf : ∀ q, free q → A0 q) (hAX : ∀ q, q < H.size → AX q → A0 q)
    (kx : ∀ (E : String) (ce : Cell) (q9 : Addr) (u : SX) (t : State) (H1 : Heap) (locs1 : List Loc), t.heap = H1 → s.vm.Alike t.vm → px u → BX E u t → H.size ≤ H1.size → (∀ q : Nat, q < H.size → ¬ AX q → H1[q]? = H[q]?) → va_S A0 H0 H1 locs1 → H1[q9]? = some ce → ce.vm = .none → s.vm.findClass E = some ce.cls → vx_W p l e R s m args below meth c H1 locs1 (cells + mc) (slots + ms) Q (F0 m pc ls rest) q9)
    (kk : ∀ (r : Int64) (u : S) (t : State) (H1 : Heap) (locs1 : List Loc), t.heap = H1 → s.vm.Alike t.vm → post r u → B u t → H.size ≤ H1.size → (∀ q : Nat, q < H.size → ¬ A1 q → H1[q]? = H[q]?) → va_S A0 H0 H1 locs1 → W p l e R s m args below meth c H1 locs1 (cells + mc) (slots + ms) Q (F0 m (pc + 3) ls (.long r :: rest))) : W p l e R s m args below meth c H locs cells slots Q (F0 m pc ls st0) := by
  intro T hT X
  rcases hr T hT X with ⟨v, st₀, t, T', L, h0, X', hL, e1, e2, ⟨⟨r, u, hv, hp, hb⟩, hF⟩, st⟩ | ⟨q, st₀, t, T', L, E, ce, h0, X', hL, e1, e2, ⟨u, hp, hb, hF⟩, hce, hcv, hcl, st⟩
  · cases hv
    obtain ⟨k1, k2, k3⟩ := vx_keep h0 e1 hS hA hf hL hF
    obtain ⟨t2, a1, b1⟩ := kk r u t T'.heap (locs ++ L) e1.symm (by rw [← e2]; exact X'.warmed.alike) hp hb k1 k2 k3 T' rfl X'
    exact ⟨t2, st t2 a1, b1⟩
  · obtain ⟨k1, k2, k3⟩ := vx_keep h0 e1 hS hAX hf hL hF
    obtain ⟨t2, a1, b1⟩ := kx E ce q u t T'.heap (locs ++ L) e1.symm (by rw [← e2]; exact X'.warmed.alike) hp hb k1 k2 k3 (by rw [e1]; exact hce) hcv hcl T' rfl X'
    exact ⟨t2, st.trans a1, b1⟩
theorem vx_callf {S SX : Type} {post : UInt32 → S → Prop} {px : SX → Prop} {B : S → State → Prop} {BX : String → SX → State → Prop} {AX : Nat → Prop} (hr : vx_Run p l e R s m args below meth c H locs cells slots mc ms (F0 m pc ls st0) rest (va_Qf post B A1 a) (vx_X px BX AX) free) (hS : va_S A0 H0 H locs) (hA : ∀ q, q < H.size → A1 q → A0 q) (hf : ∀ q, free q → A0 q) (hAX : ∀ q, q < H.size → AX q → A0 q)
    (kx : ∀ (E : String) (ce : Cell) (q9 : Addr) (u : SX) (t : State) (H1 : Heap) (locs1 : List Loc), t.heap = H1 → s.vm.Alike t.vm → px u → BX E u t → H.size ≤ H1.size → (∀ q : Nat, q < H.size → ¬ AX q → H1[q]? = H[q]?) → va_S A0 H0 H1 locs1 → H1[q9]? = some ce → ce.vm = .none → s.vm.findClass E = some ce.cls → vx_W p l e R s m args below meth c H1 locs1 (cells + mc) (slots + ms) Q (F0 m pc ls rest) q9)
    (kk : ∀ (r : UInt32) (u : S) (t : State) (H1 : Heap) (locs1 : List Loc), t.heap = H1 → s.vm.Alike t.vm → post r u → B u t → H.size ≤ H1.size → (∀ q : Nat, q < H.size → ¬ A1 q → H1[q]? = H[q]?) → va_S A0 H0 H1 locs1 → W p l e R s m args below meth c H1 locs1 (cells + mc) (slots + ms) Q (F0 m (pc + 3) ls (.float r :: rest))) : W p l e R s m args below meth c H locs cells slots Q (F0 m pc ls st0) := by
  intro T hT X
  rcases hr T hT X with ⟨v, st₀, t, T', L, h0, X', hL, e1, e2, ⟨⟨r, u, hv, hp, hb⟩, hF⟩, st⟩ | ⟨q, st₀, t, T', L, E, ce, h0, X', hL, e1, e2, ⟨u, hp, hb, hF⟩, hce, hcv, hcl, st⟩
  · cases hv
    obtain ⟨k1, k2, k3⟩ := vx_keep h0 e1 hS hA hf hL hF
    obtain ⟨t2, a1, b1⟩ := kk r u t T'.heap (locs ++ L) e1.symm (by rw [← e2]; exact X'.warmed.alike) hp hb k1 k2 k3 T' rfl X'
    exact ⟨t2, st t2 a1, b1⟩
  · obtain ⟨k1, k2, k3⟩ := vx_keep h0 e1 hS hAX hf hL hF
    obtain ⟨t2, a1, b1⟩ := kx E ce q u t T'.heap (locs ++ L) e1.symm (by rw [← e2]; exact X'.warmed.alike) hp hb k1 k2 k3 (by rw [e1]; exact hce) hcv hcl T' rfl X'
    exact ⟨t2, st.trans a1, b1⟩
theorem vx_calld {S SX : Type} {post : UInt64 → S → Prop} {px : SX → Prop} {B : S → State → Prop} {BX : String → SX → State → Prop} {AX : Nat → Prop} (hr : vx_Run p l e R s m args below meth c H locs cells slots mc ms (F0 m pc ls st0) rest (va_Qd post B A1 a) (vx_X px BX AX) free) (hS : va_S A0 H0 H locs) (hA : ∀ q, q < H.size → A1 q → A0 q) (hf : ∀ q, free q → A0 q) (hAX : ∀ q, q < H.size → AX q → A0 q)
    (kx : ∀ (E : String) (ce : Cell) (q9 : Addr) (u : SX) (t : State) (H1 : Heap) (locs1 : List Loc), t.heap = H1 → s.vm.Alike t.vm → px u → BX E u t → H.size ≤ H1.size → (∀ q : Nat, q < H.size → ¬ AX q → H1[q]? = H[q]?) → va_S A0 H0 H1 locs1 → H1[q9]? = some ce → ce.vm = .none → s.vm.findClass E = some ce.cls → vx_W p l e R s m args below meth c H1 locs1 (cells + mc) (slots + ms) Q (F0 m pc ls rest) q9)
    (kk : ∀ (r : UInt64) (u : S) (t : State) (H1 : Heap) (locs1 : List Loc), t.heap = H1 → s.vm.Alike t.vm → post r u → B u t → H.size ≤ H1.size → (∀ q : Nat, q < H.size → ¬ A1 q → H1[q]? = H[q]?) → va_S A0 H0 H1 locs1 → W p l e R s m args below meth c H1 locs1 (cells + mc) (slots + ms) Q (F0 m (pc + 3) ls (.double r :: rest))) : W p l e R s m args below meth c H locs cells slots Q (F0 m pc ls st0) := by
  intro T hT X
  rcases hr T hT X with ⟨v, st₀, t, T', L, h0, X', hL, e1, e2, ⟨⟨r, u, hv, hp, hb⟩, hF⟩, st⟩ | ⟨q, st₀, t, T', L, E, ce, h0, X', hL, e1, e2, ⟨u, hp, hb, hF⟩, hce, hcv, hcl, st⟩
  · cases hv
    obtain ⟨k1, k2, k3⟩ := vx_keep h0 e1 hS hA hf hL hF
    obtain ⟨t2, a1, b1⟩ := kk r u t T'.heap (locs ++ L) e1.symm (by rw [← e2]; exact X'.warmed.alike) hp hb k1 k2 k3 T' rfl X'
    exact ⟨t2, st t2 a1, b1⟩
  · obtain ⟨k1, k2, k3⟩ := vx_keep h0 e1 hS hAX hf hL hF
    obtain ⟨t2, a1, b1⟩ := kx E ce q u t T'.heap (locs ++ L) e1.symm (by rw [← e2]; exact X'.warmed.alike) hp hb k1 k2 k3 (by rw [e1]; exact hce) hcv hcl T' rfl X'
    exact ⟨t2, st.trans a1, b1⟩
theorem vx_callv {S SX : Type} {post : S → Prop} {px : SX → Prop} {B : S → State → Prop} {BX : String → SX → State → Prop} {AX : Nat → Prop} (hr : vx_Run p l e R s m args below meth c H locs cells slots mc ms (F0 m pc ls st0) rest (va_Qv post B A1 a) (vx_X px BX AX) free) (hS : va_S A0 H0 H locs) (hA : ∀ q, q < H.size → A1 q → A0 q) (hf : ∀ q, free q → A0 q) (hAX : ∀ q, q < H.size → AX q → A0 q)
    (kx : ∀ (E : String) (ce : Cell) (q9 : Addr) (u : SX) (t : State) (H1 : Heap) (locs1 : List Loc), t.heap = H1 → s.vm.Alike t.vm → px u → BX E u t → H.size ≤ H1.size → (∀ q : Nat, q < H.size → ¬ AX q → H1[q]? = H[q]?) → va_S A0 H0 H1 locs1 → H1[q9]? = some ce → ce.vm = .none → s.vm.findClass E = some ce.cls → vx_W p l e R s m args below meth c H1 locs1 (cells + mc) (slots + ms) Q (F0 m pc ls rest) q9)
    (kk : ∀ (u : S) (t : State) (H1 : Heap) (locs1 : List Loc), t.heap = H1 → s.vm.Alike t.vm → post u → B u t → H.size ≤ H1.size → (∀ q : Nat, q < H.size → ¬ A1 q → H1[q]? = H[q]?) → va_S A0 H0 H1 locs1 → W p l e R s m args below meth c H1 locs1 (cells + mc) (slots + ms) Q (F0 m (pc + 3) ls (rest))) : W p l e R s m args below meth c H locs cells slots Q (F0 m pc ls st0) := by
  intro T hT X
  rcases hr T hT X with ⟨v, st₀, t, T', L, h0, X', hL, e1, e2, ⟨⟨u, hv, hp, hb⟩, hF⟩, st⟩ | ⟨q, st₀, t, T', L, E, ce, h0, X', hL, e1, e2, ⟨u, hp, hb, hF⟩, hce, hcv, hcl, st⟩
  · cases hv
    obtain ⟨k1, k2, k3⟩ := vx_keep h0 e1 hS hA hf hL hF
    obtain ⟨t2, a1, b1⟩ := kk u t T'.heap (locs ++ L) e1.symm (by rw [← e2]; exact X'.warmed.alike) hp hb k1 k2 k3 T' rfl X'
    exact ⟨t2, st t2 a1, b1⟩
  · obtain ⟨k1, k2, k3⟩ := vx_keep h0 e1 hS hAX hf hL hF
    obtain ⟨t2, a1, b1⟩ := kx E ce q u t T'.heap (locs ++ L) e1.symm (by rw [← e2]; exact X'.warmed.alike) hp hb k1 k2 k3 (by rw [e1]; exact hce) hcv hcl T' rfl X'
    exact ⟨t2, st.trans a1, b1⟩
end Rows
section Ends
variable {p : Program} {l : Launch} {e : Env} {R : Room} {s : State} {m : MethodId} {args : Array Value} {below : List Frame} {meth : Method} {c : Code} {H : Heap} {locs : List Loc} {cells slots : Nat} {Q : State → Prop}
variable {mc ms : Nat} {free : Addr → Prop} {A0 A1 : Nat → Prop} {H0 : Heap} {a : Array Value} {ls : Array Slot} {st0 rest : List Value}
variable {Qc : Array Value → State → Outcome → State → Prop} {XC : String → State → State → Prop}
/-- what a body that may throw owes at its end -/
def vx_MQ (below : List Frame) (Qc : Array Value → State → Outcome → State → Prop) (XC : String → State → State → Prop) (a : Array Value) (s : State) (mc ms : Nat) (free : Addr → Prop) : State → Prop := fun t =>
  ∃ o, t.status = .running ∧ Ended t below o ∧ vx_Q Qc XC mc ms free a s o t
theorem vx_ret {g : JFrame} {mc ms : Nat} (k : W p l e R s m args below meth c H locs cells slots (MQ below Qc args s mc ms free) g) : W p l e R s m args below meth c H locs cells slots (vx_MQ below Qc XC args s mc ms free) g := by
  intro T hT X
  obtain ⟨t, a1, o, b1, b2, b3, b4⟩ := k T hT X
  exact ⟨t, a1, o, b1, b2, Or.inl ⟨b3, b4⟩⟩
/-- not caught here: it goes on to the caller -/
theorem vx_widen {g : JFrame} {q : Addr} {k n : Nat} (h1 : cells ≤ k) (h2 : slots ≤ n) (kk : vx_W p l e R s m args below meth c H locs k n Q g q) : vx_W p l e R s m args below meth c H locs cells slots Q g q := fun T hT X => kk T hT (stand_widen X h1 h2)
theorem vx_out {pc : Nat} {E : String} {ce : Cell} {q : Addr} {mc ms : Nat} (hout : ∀ x ∈ c.exceptionTable.toList, covers x pc = false) (hlocks : meth.locks = false) (hcell : H[q]? = some ce) (hv : ce.vm = .none) (hcl : s.vm.findClass E = some ce.cls)
    (hx : ∀ t : State, t.heap = H → s.vm.Alike t.vm → XC E s t) (hf : ∀ z ∈ locs, free z.base) (hc : cells ≤ mc) (hs : slots ≤ ms) :
    vx_W p l e R s m args below meth c H locs cells slots (vx_MQ below Qc XC args s mc ms free) (F0 m pc ls rest) q := by
  intro T hT X
  obtain ⟨st1, hrun, hend, hW, hsm⟩ := X.leaveThrown q (g := F0 m pc ls rest) rfl rfl rfl hout hlocks
  have hcell9 : (T.setFrames (.throwing q :: below)).heap[q]? = some ce := by
    show T.heap[q]? = some ce
    rw [hT]; exact hcell
  exact ⟨_, st1, .threw q, hrun, hend, Or.inr ⟨q, rfl, E, ce, locs, hx _ hT hW.alike, hcell9, hv, hcl, hW, hsm.mono hc hs, hf⟩⟩
theorem vx_frame {U : State} {k n : Nat} (h : s.sameButNew ({ U with vm := s.vm } : State) locs k n) : s.heap.size ≤ U.heap.size ∧ ∀ q : Nat, q < s.heap.size → (∀ z ∈ locs, z.base ≠ q) → U.heap[q]? = s.heap[q]? := by
  obtain ⟨-, h2, -, -, -, h6⟩ := h
  refine ⟨h2, fun q hq hz => ?_⟩
  obtain ⟨c9, e1, e2, e3, e4⟩ := h6 q _ (Array.getElem?_eq_getElem hq)
  have hs : c9.slots = (s.heap[q]).slots := Array.ext_getElem? fun i => e4 i fun hm => hz _ hm rfl
  have h9 : c9 = s.heap[q] := by
    rw [hs] at e2
    exact e2
  have e5 : U.heap[q]? = some c9 := e1
  rw [e5, h9, Array.getElem?_eq_getElem hq]
/-- the words of a throw but the four that speak of the heap -/
def vx_no (w : Cond) : Bool := decide (w ≠ .isRef (.static Bundle.tN "UNASSIGNED_STACK" Bundle.steD)) && decide (w ≠ .isRef (.static Bundle.tN "SUPPRESSED_SENTINEL" Bundle.listD)) && decide (w ≠ .laysStatic Bundle.tN "UNASSIGNED_STACK" Bundle.steD) && decide (w ≠ .laysStatic Bundle.tN "SUPPRESSED_SENTINEL" Bundle.listD)
def vx_at0 (own : String) (ic : Nat) (X : String) (names : List String) : List Cond := (Bundle.ownAtoms0 own ic X names).filter vx_no
def vx_atS (own : String) (ic : Nat) (X : String) (names : List String) : List Cond := (Bundle.ownAtoms own ic X names).filter vx_no
/-- a word that the tables alone decide, or a good one -/
def vx_ot (w : Cond) : Bool := w.onTables || goodWord w
theorem vx_ot_at {args a' : Array Value} {s U : State} {w : Cond} (hW : s.WarmedH U.vm) (hvm : s.vm = U.vm) (hg : vx_ot w = true) (h : w.before args s = true) : w.before a' U = true := by
  simp only [vx_ot, Bool.or_eq_true] at hg
  rcases hg with hg | hg
  · exact va_tabs hg hvm h
  · exact word_at hW (good_of_word hg) h
/-- a list's words: the good ones out of the method's own list, the others by premises of their own -/
theorem vx_hat {args : Array Value} {s : State} {L B : List Cond} (h1 : ∀ w ∈ L.filter goodWord, w.before args s = true) (h2 : ∀ w ∈ L.filter (fun w => !goodWord w), w ∈ B) (h3 : ∀ w ∈ B, w.before args s = true) : ∀ w ∈ L, w.before args s = true := by
  intro w hw
  by_cases g : goodWord w = true
  · exact h1 w (List.mem_filter.mpr ⟨hw, g⟩)
  · refine h3 w (h2 w (List.mem_filter.mpr ⟨hw, ?_⟩))
    show (!goodWord w) = true
    cases hgw : goodWord w
    · rfl
    · exact absurd hgw g
theorem vx_c {args : Array Value} {s : State} {w : Cond} {B : List Cond} (h : w.before args s = true) (t : ∀ w ∈ B, w.before args s = true) : ∀ w' ∈ w :: B, w'.before args s = true := fun w' h' => (List.mem_cons.mp h').elim (fun e => by rw [e]; exact h) (t w')
theorem vx_n {args : Array Value} {s : State} : ∀ w ∈ ([] : List Cond), w.before args s = true := fun _ h => nomatch h
theorem vx_own {args : Array Value} {s : State} {L : List Cond} (h1 : ∀ w ∈ L.filter vx_no, w.before args s = true)
    (hU : (Cond.isRef (.static Bundle.tN "UNASSIGNED_STACK" Bundle.steD)).before args s = true) (hN : (Cond.isRef (.static Bundle.tN "SUPPRESSED_SENTINEL" Bundle.listD)).before args s = true)
    (lU : (Cond.laysStatic Bundle.tN "UNASSIGNED_STACK" Bundle.steD).before args s = true) (lN : (Cond.laysStatic Bundle.tN "SUPPRESSED_SENTINEL" Bundle.listD).before args s = true) : ∀ w ∈ L, w.before args s = true := by
  intro w hw
  by_cases e1 : w = .isRef (.static Bundle.tN "UNASSIGNED_STACK" Bundle.steD)
  · rw [e1]; exact hU
  · by_cases e2 : w = .isRef (.static Bundle.tN "SUPPRESSED_SENTINEL" Bundle.listD)
    · rw [e2]; exact hN
    · by_cases e3 : w = .laysStatic Bundle.tN "UNASSIGNED_STACK" Bundle.steD
      · rw [e3]; exact lU
      · by_cases e4 : w = .laysStatic Bundle.tN "SUPPRESSED_SENTINEL" Bundle.listD
        · rw [e4]; exact lN
        · exact h1 w (List.mem_filter.mpr ⟨hw, by unfold vx_no; rw [decide_eq_true e1, decide_eq_true e2, decide_eq_true e3, decide_eq_true e4]; rfl⟩)
/-- where a static field lies, its class's statics cell in H -/
def vx_L (C n d : String) (A : Nat → Prop) (U : State) (H : Heap) : Prop := ∃ (c : ClassId) (k : Class) (i : Nat) (f : Field) (a : Nat) (cell : Cell), U.vm.findClass C = some c ∧ U.fieldFound? C n d = some (c, k, i, f) ∧ f.isStatic = true ∧ k.statics = some a ∧ H[a]? = some cell ∧ cell.vm.isStatics = true ∧ cell.cls = c ∧ f.slot < cell.slots.size ∧ k.staticTypes[f.slot]? = some f.type ∧ ¬ A a
theorem vx_L.moved {C n d : String} {A : Nat → Prop} {u U : State} {H : Heap} (hvm : u.vm.Alike U.vm) (h : vx_L C n d A u H) : vx_L C n d A U H := by
  obtain ⟨c, k, i, f, a, cell, h1, h2, h3, h4, h5, h6, h7, h8, h9, h10⟩ := h
  obtain ⟨k', hi', he⟩ := State.fieldFound?_setVm hvm h2
  exact ⟨c, k', i, f, a, cell, by rw [hvm.findClass]; exact h1, hi', h3, by rw [he]; exact h4, h5, h6, h7, h8, by rw [he]; exact h9, h10⟩
theorem vx_L.kept {C n d : String} {A : Nat → Prop} {U : State} {H H1 : Heap} (h : vx_L C n d A U H) (hq : ∀ a : Nat, a < H.size → ¬ A a → H1[a]? = H[a]?) : vx_L C n d A U H1 := by
  obtain ⟨c, k, i, f, a, cell, h1, h2, h3, h4, h5, h6, h7, h8, h9, h10⟩ := h
  exact ⟨c, k, i, f, a, cell, h1, h2, h3, h4, by rw [hq a (Array.getElem?_eq_some_iff.mp h5).1 h10]; exact h5, h6, h7, h8, h9, h10⟩
theorem vx_L.narrow {C n d : String} {A B : Nat → Prop} {U : State} {H : Heap} (h : vx_L C n d A U H) (hAB : ∀ q, B q → A q) : vx_L C n d B U H := by
  obtain ⟨c, k, i, f, a, cell, h1, h2, h3, h4, h5, h6, h7, h8, h9, h10⟩ := h
  exact ⟨c, k, i, f, a, cell, h1, h2, h3, h4, h5, h6, h7, h8, h9, fun z => h10 (hAB _ z)⟩
theorem vx_L.word {C n d : String} {A : Nat → Prop} {s : State} {args : Array Value} (h : vx_L C n d A s s.heap) : (Cond.laysStatic C n d).before args s = true := by
  obtain ⟨c, k, i, f, a, cell, h1, h2, h3, h4, h5, h6, h7, h8, h9, -⟩ := h
  show (Cond.laysStatic C n d).holds args s none s [] = true
  exact Cond.laysStatic_of h1 h2 h3 h4 h5 h6 h7 h8 h9
/-- .. and what it holds: null or some reference -/
def vx_Zq (C n d : String) (A : Nat → Prop) (U : State) (H : Heap) : Prop := va_Zq C n d A U H ∧ vx_L C n d A U H
theorem vx_Zq.moved {C n d : String} {A : Nat → Prop} {u U : State} {H : Heap} (hvm : u.vm.Alike U.vm) (h : vx_Zq C n d A u H) : vx_Zq C n d A U H := ⟨va_Zq.moved hvm h.1, vx_L.moved hvm h.2⟩
theorem vx_Zq.kept {C n d : String} {A : Nat → Prop} {U : State} {H H1 : Heap} (h : vx_Zq C n d A U H) (hq : ∀ a : Nat, a < H.size → ¬ A a → H1[a]? = H[a]?) : vx_Zq C n d A U H1 := ⟨va_Zq.kept h.1 hq, vx_L.kept h.2 hq⟩
theorem vx_Zq.narrow {C n d : String} {A B : Nat → Prop} {U : State} {H : Heap} (h : vx_Zq C n d A U H) (hAB : ∀ q, B q → A q) : vx_Zq C n d B U H := ⟨va_Zq.narrow h.1 hAB, vx_L.narrow h.2 hAB⟩
theorem vx_Zqof {args : Array Value} {s : State} {C n d : String} {A : Nat → Prop} (hl : (Cond.laysStatic C n d).before args s = true) (hini : (Cond.initialized C).before args s = true) (h : (Cond.isRef (.static C n d)).before args s = true) (hA : ∀ a : Nat, a < s.heap.size → ¬ A a) : vx_Zq C n d A s s.heap := by
  refine ⟨va_Zqof hl hini h hA, ?_⟩
  obtain ⟨c, k, i, f, a, cell, h1, h2, h3, h4, h5, h6, h7, h8, h9⟩ := Cond.laysStatic_spec hl
  exact ⟨c, k, i, f, a, cell, h1, h2, h3, h4, h5, h6, h7, h8, h9, hA a (Array.getElem?_eq_some_iff.mp h5).1⟩
theorem vx_isRef {C n d : String} {v : Value} {A : Nat → Prop} {s : State} {args : Array Value} (h : va_Z C n d v A s s.heap) (hv : v.isRef = true) : (Cond.isRef (.static C n d)).before args s = true := by
  obtain ⟨cf, kf, fi, f, a, cell, h1, h2, h3, h4, h5, h6, h7, -⟩ := h
  have he : (Term.static C n d).eval args s none [] s = some v := by
    simp [Term.eval, State.fieldNamed?, h1, h2, h4, h5, h6, h7]
  simp only [Cond.before, Cond.holds, Cond.value, he]
  cases v <;> simp_all [Value.isRef]
theorem vx_isRefq {C n d : String} {A : Nat → Prop} {s : State} {args : Array Value} (h : va_Zq C n d A s s.heap) : (Cond.isRef (.static C n d)).before args s = true := by
  rcases h with h | ⟨t, h⟩
  · exact vx_isRef h rfl
  · exact vx_isRef h rfl
/-- the same frame, seen from here: as if the method were called anew in this heap -/
theorem vx_rebase {T : State} (X : Stand p l e R s m args below meth c T locs cells slots) {R' : Room} (hf : R'.frames ≤ R.frames) (hl : R'.locals ≤ R.locals) (hc : cells + R'.cells ≤ R.cells) (hs : slots + R'.slots ≤ R.slots) :
    Stand p l e R' ((T.setVm s.vm).setFrames (.invoking m args :: below)) m args below meth c T [] 0 0 := by
  have htop : (T.setVm s.vm).topJava?.isSome := X.here.top
  have hF : ((T.setVm s.vm).setFrames (.invoking m args :: below)).frames = .invoking m args :: below := State.frames_setFrames _ (State.cur_lt_of_top htop)
  obtain ⟨g₀, hg0⟩ := Option.isSome_iff_exists.mp htop
  obtain ⟨r, hr⟩ := State.topJava?_eq_some.mp hg0
  have hl9 : e.platform.stackLimits (T.setVm s.vm).me = e.platform.stackLimits s.me := X.limits
  have hb9 : (T.setVm s.vm).me.stackBytes = s.me.stackBytes := X.bytes
  refine ⟨X.admits, X.cas, X.clock, hF, ?_, X.hears, X.method, X.code, X.here, X.tail, X.warmed, ?_, ?_, ?_⟩
  · have h := X.room
    have hU : ((T.setVm s.vm).setFrames (.invoking m args :: below)).localsInUse = s.localsInUse := by
      rw [State.localsInUse_invoking hF (meth := meth) (c := c) X.method X.code, State.localsInUse_invoking X.frames X.method X.code]
    simp only [State.hasRoom, Bool.and_eq_true, decide_eq_true_eq] at h ⊢
    obtain ⟨⟨⟨⟨h1, h2, h3, h4, h5, h6⟩, h7⟩, h8⟩, h9⟩ := h
    rw [X.frames, List.length_cons] at h2 h3
    have q1 := X.heapSize
    have q2 := X.used
    simp only [hF, hU, List.length_cons, State.stackLimits_setFrames, State.stackBytes_setFrames, hl9, hb9]
    refine ⟨⟨⟨⟨by omega, by omega, by omega, by omega, by omega, h6⟩, ?_⟩, ?_⟩, X.book⟩
    · show T.heap.size + R'.cells ≤ e.platform.maxCells
      omega
    · show T.slotsUsed + R'.slots ≤ e.platform.maxSlots
      omega
  · rw [State.stackLimits_setFrames]; rfl
  · rw [State.stackBytes_setFrames]; rfl
  · refine ⟨?_, Nat.le_refl _, Nat.le_refl _, ?_, ?_, fun a c9 h9 => ⟨c9, h9, rfl, rfl, fun _ _ => rfl⟩⟩
    · obtain ⟨t, ht, -⟩ := State.frames_cons hr
      show T.setVm s.vm = { ((T.setVm s.vm).setFrames (.invoking m args :: below)).setFrames (T.setVm s.vm).frames with heap := T.heap, slotsUsed := T.slotsUsed }
      rw [State.setFrames_setFrames, State.setFrames_self ht]
      rfl
    · show T.slotsUsed = T.slotsUsed + ((T.heap.toList.drop T.heap.size).map (·.slots.size)).sum
      rw [List.drop_eq_nil_of_le (Nat.le_of_eq Array.length_toList)]
      rfl
    · show ((T.heap.toList.drop T.heap.size).map (·.slots.size)).sum ≤ 0
      rw [List.drop_eq_nil_of_le (Nat.le_of_eq Array.length_toList)]
      exact Nat.le_refl _
/-- 'throw new E()': new; dup; invokespecial; athrow -/
theorem vx_throw0 {cc : ByteArray} {pc : Nat} (hexec : p.tables.exec = Jvm.exec) (hb : c.code = cc) (hl : l.stackTraces = false) {own cls : String} {names : List String} {ik ic mc ms : Nat} {A : Nat → Prop}
    (hown : s.vm.findClass own = some m.cls) (hcls : Bundle.fit cls = true) (hnames : ∀ n ∈ names, Bundle.fit n = true)
    (hk : (Cond.classLink own ik cls).before args s = true) (hini : (Cond.initialized cls).before args s = true) (hat : ∀ w ∈ vx_at0 own ic cls names, w.before args s = true)
    (hgood : ∀ w ∈ Cond.classLink own ik cls :: Cond.initialized cls :: vx_at0 own ic cls names, vx_ot w = true)
    (hU : vx_Zq Bundle.tN "UNASSIGNED_STACK" Bundle.steD A s s.heap) (hN : vx_Zq Bundle.tN "SUPPRESSED_SENTINEL" Bundle.listD A s s.heap) (hS : va_S A s.heap H locs) (hsize : ls.size = c.maxLocals)
    (d0 : decode cc pc = .ok (.new ik, 3)) (d3 : decode cc (pc + 3) = .ok (.dup, 1)) (d4 : decode cc (pc + 4) = .ok (.invokespecial ic, 3)) (d7 : decode cc (pc + 7) = .ok (.athrow, 1))
    (hout : ∀ x ∈ c.exceptionTable.toList, covers x (pc + 7) = false)
    (hRframes : names.length + 3 < R.frames) (hRlocals : (rest.map fun v => v.category).sum + (13 * (names.length + 1) + 42) ≤ R.locals) (hRcells : cells + 1 ≤ R.cells) (hRslots : slots + 6 ≤ R.slots) (hlocks : meth.locks = false)
    (hx : ∀ t : State, s.vm.Alike t.vm → H.size ≤ t.heap.size → (∀ q : Nat, q < H.size → t.heap[q]? = H[q]?) → XC cls s t)
    (hf : ∀ z ∈ locs, free z.base) (hc : cells + 1 ≤ mc) (hs : slots + 6 ≤ ms) :
    W p l e R s m args below meth c H locs cells slots (vx_MQ below Qc XC args s mc ms free) (F0 m pc ls rest) := by
  intro T hT X
  have htr : e.platform.stackTraces = false := (show e.platform.stackTraces = l.stackTraces by rw [X.admits.platform]).trans hl
  have Y := vx_rebase X (R' := { frames := R.frames, locals := R.locals, cells := 1, slots := 6 }) (Nat.le_refl _) (Nat.le_refl _) hRcells hRslots
  obtain ⟨s', hA⟩ : ∃ z, z = (T.setVm s.vm).setFrames (.invoking m args :: below) := ⟨_, rfl⟩
  rw [← hA] at Y
  have hvm : s'.vm = s.vm := by rw [hA]; rfl
  have hhp : s'.heap = H := by rw [hA]; exact hT
  have hW0 : s.WarmedH s'.vm := by rw [hvm]; exact State.WarmedH.refl s
  have hat' : ∀ w ∈ vx_at0 own ic cls names, w.before args s' = true := fun w hw => vx_ot_at hW0 hvm.symm (hgood w (List.mem_cons_of_mem _ (List.mem_cons_of_mem _ hw))) (hat w hw)
  have hk' : (Cond.classLink own ik cls).before args s' = true := vx_ot_at hW0 hvm.symm (hgood _ List.mem_cons_self) hk
  have hini' : (Cond.initialized cls).before args s' = true := vx_ot_at hW0 hvm.symm (hgood _ (List.mem_cons_of_mem _ List.mem_cons_self)) hini
  have hU' : vx_Zq Bundle.tN "UNASSIGNED_STACK" Bundle.steD A s' s'.heap := by rw [hhp]; exact vx_Zq.moved hW0.alike (hU.kept hS.2.1)
  have hN' : vx_Zq Bundle.tN "SUPPRESSED_SENTINEL" Bundle.listD A s' s'.heap := by rw [hhp]; exact vx_Zq.moved hW0.alike (hN.kept hS.2.1)
  have h : ∀ w ∈ Bundle.ownAtoms0 own ic cls names, w.before args s' = true := vx_own hat' (vx_isRefq hU'.1) (vx_isRefq hN'.1) hU'.2.word hN'.2.word
  have hown' : s'.vm.findClass own = some m.cls := by rw [hvm]; exact hown
  have hins : (Cond.instantiable cls 6).before args s' = true := h _ (by simp [Bundle.ownAtoms0])
  obtain ⟨vm₁, cX, kX, hfX, hkX, -, -, X₁, st1⟩ := Y.newCold hexec (own := own) (C := cls) (index := ik) (n := 6) hown' hk' hins hini'
    (g := F0 m pc ls rest) rfl (by rw [hb]; exact d0) (Nat.le_refl _) (Nat.le_refl _)
  generalize hT1 : (T.setVm vm₁).pushCell { cls := cX, slots := kX.instanceTypes.map defaultValue, vm := .none } = T1 at X₁ st1
  have hcat : (Value.ref T.heap.size).category = 1 := rfl
  have hcellA : T1.heap[T.heap.size]? = some (freshCell cX kX) := by rw [← hT1]; exact State.heap_pushCell_size _ _
  have d3' : decode c.code (pc + 3) = .ok (.dup, 1) := by rw [hb]; exact d3
  obtain ⟨U, hsteps, hrun, hend, hW, hsame, ce, hce, hO⟩ := X₁.ctorThrow0 hexec htr (own := own) (cls := cls) (names := names) (ic := ic) hown' hcls hnames h (fun x hx => nomatch hx) hfX hkX hcellA (by rw [hhp, hT]; exact Nat.le_refl _)
    (g := { method := m, pc := pc + 4, locals := ls, stack := .ref T.heap.size :: .ref T.heap.size :: rest, locked := none }) rfl hsize rfl rfl (rest := rest) rfl
    (by rw [hb]; exact d4) (by rw [hb]; exact d7) hout hRframes (by simp only [List.map_cons, List.sum_cons, hcat]; omega) hlocks
  obtain ⟨f1, f2⟩ := vx_frame hsame
  rw [hhp] at f1 f2
  have hWs : s.WarmedH U.vm := State.WarmedH.trans hW0 hW
  have hcl : s.vm.findClass cls = some ce.cls := by
    have h9 := hO.cls
    rw [hvm] at h9
    exact h9
  have hall : s.sameButNew ({ U with vm := s.vm } : State) locs mc ms := by
    subst hA
    obtain ⟨e1, e2⟩ := hsame
    rw [State.setFrames_setFrames] at e1
    have h2 : (T.setVm s.vm).sameButNew ({ U with vm := s.vm } : State) [] (0 + 1) (0 + 6) := ⟨e1, e2⟩
    have h3 := X.same.trans h2
    rw [List.append_nil] at h3
    exact h3.mono hc hs
  refine ⟨U, ?_, .threw T.heap.size, hrun, hend, Or.inr ⟨T.heap.size, rfl, cls, ce, locs, hx U hWs.alike f1 (fun q hq => f2 q hq (fun z hz => nomatch hz)), hce, hO.vm, hcl, hWs, hall, hf⟩⟩
  refine st1 _ ?_
  show Steps p.tables e below (T1.setTop { method := m, pc := pc + 3, locals := ls, stack := .ref T.heap.size :: rest, locked := none }) _
  jvm_step X₁.here [X₁.here.top, hexec, d3', Value.category]
  exact hsteps
/-- 'throw new E("text")': new; dup; ldc; invokespecial; athrow -/
theorem vx_throwS {cc : ByteArray} {pc : Nat} (hexec : p.tables.exec = Jvm.exec) (hb : c.code = cc) (hl : l.stackTraces = false) {own cls text : String} {names : List String} {ik is ic mc ms sa : Nat} {A : Nat → Prop}
    (hown : s.vm.findClass own = some m.cls) (hcls : Bundle.fit cls = true) (hnames : ∀ n ∈ names, Bundle.fit n = true)
    (hk : (Cond.classLink own ik cls).before args s = true) (hini : (Cond.initialized cls).before args s = true) (hstr : vk_R own is text sa s) (hat : ∀ w ∈ vx_atS own ic cls names, w.before args s = true)
    (hgood : ∀ w ∈ Cond.classLink own ik cls :: Cond.initialized cls :: vx_atS own ic cls names, vx_ot w = true)
    (hU : vx_Zq Bundle.tN "UNASSIGNED_STACK" Bundle.steD A s s.heap) (hN : vx_Zq Bundle.tN "SUPPRESSED_SENTINEL" Bundle.listD A s s.heap) (hS : va_S A s.heap H locs) (hsize : ls.size = c.maxLocals)
    (d0 : decode cc pc = .ok (.new ik, 3)) (d3 : decode cc (pc + 3) = .ok (.dup, 1)) (d4 : decode cc (pc + 4) = .ok (.ldc is, 2)) (d6 : decode cc (pc + 6) = .ok (.invokespecial ic, 3)) (d9 : decode cc (pc + 9) = .ok (.athrow, 1))
    (hout : ∀ x ∈ c.exceptionTable.toList, covers x (pc + 9) = false)
    (hRframes : names.length + 3 < R.frames) (hRlocals : (rest.map fun v => v.category).sum + (13 * (names.length + 1) + 43) ≤ R.locals) (hRcells : cells + 1 ≤ R.cells) (hRslots : slots + 6 ≤ R.slots) (hlocks : meth.locks = false)
    (hx : ∀ t : State, s.vm.Alike t.vm → H.size ≤ t.heap.size → (∀ q : Nat, q < H.size → t.heap[q]? = H[q]?) → XC cls s t)
    (hf : ∀ z ∈ locs, free z.base) (hc : cells + 1 ≤ mc) (hs : slots + 6 ≤ ms) :
    W p l e R s m args below meth c H locs cells slots (vx_MQ below Qc XC args s mc ms free) (F0 m pc ls rest) := by
  intro T hT X
  have htr : e.platform.stackTraces = false := (show e.platform.stackTraces = l.stackTraces by rw [X.admits.platform]).trans hl
  have Y := vx_rebase X (R' := { frames := R.frames, locals := R.locals, cells := 1, slots := 6 }) (Nat.le_refl _) (Nat.le_refl _) hRcells hRslots
  obtain ⟨s', hA⟩ : ∃ z, z = (T.setVm s.vm).setFrames (.invoking m args :: below) := ⟨_, rfl⟩
  rw [← hA] at Y
  have hvm : s'.vm = s.vm := by rw [hA]; rfl
  have hhp : s'.heap = H := by rw [hA]; exact hT
  have hW0 : s.WarmedH s'.vm := by rw [hvm]; exact State.WarmedH.refl s
  have hat' : ∀ w ∈ vx_atS own ic cls names, w.before args s' = true := fun w hw => vx_ot_at hW0 hvm.symm (hgood w (List.mem_cons_of_mem _ (List.mem_cons_of_mem _ hw))) (hat w hw)
  have hk' : (Cond.classLink own ik cls).before args s' = true := vx_ot_at hW0 hvm.symm (hgood _ List.mem_cons_self) hk
  have hini' : (Cond.initialized cls).before args s' = true := vx_ot_at hW0 hvm.symm (hgood _ (List.mem_cons_of_mem _ List.mem_cons_self)) hini
  have hU' : vx_Zq Bundle.tN "UNASSIGNED_STACK" Bundle.steD A s' s'.heap := by rw [hhp]; exact vx_Zq.moved hW0.alike (hU.kept hS.2.1)
  have hN' : vx_Zq Bundle.tN "SUPPRESSED_SENTINEL" Bundle.listD A s' s'.heap := by rw [hhp]; exact vx_Zq.moved hW0.alike (hN.kept hS.2.1)
  have h : ∀ w ∈ Bundle.ownAtoms own ic cls names, w.before args s' = true := vx_own hat' (vx_isRefq hU'.1) (vx_isRefq hN'.1) hU'.2.word hN'.2.word
  have hown' : s'.vm.findClass own = some m.cls := by rw [hvm]; exact hown
  have hins : (Cond.instantiable cls 6).before args s' = true := h _ (by simp [Bundle.ownAtoms])
  obtain ⟨vm₁, cX, kX, hfX, hkX, -, -, X₁, st1⟩ := Y.newCold hexec (own := own) (C := cls) (index := ik) (n := 6) hown' hk' hins hini'
    (g := F0 m pc ls rest) rfl (by rw [hb]; exact d0) (Nat.le_refl _) (Nat.le_refl _)
  generalize hT1 : (T.setVm vm₁).pushCell { cls := cX, slots := kX.instanceTypes.map defaultValue, vm := .none } = T1 at X₁ st1
  have hcat : (Value.ref T.heap.size).category = 1 := rfl
  have hcellA : T1.heap[T.heap.size]? = some (freshCell cX kX) := by rw [← hT1]; exact State.heap_pushCell_size _ _
  have d3' : decode c.code (pc + 3) = .ok (.dup, 1) := by rw [hb]; exact d3
  have d4' : decode c.code (pc + 4) = .ok (.ldc is, 2) := by rw [hb]; exact d4
  have hstr' : vk_R own is text sa s' := vk_R.warm hW0 hstr
  obtain ⟨U, hsteps, hrun, hend, hW, hsame, ce, hce, hO⟩ := X₁.ctorThrowS hexec htr (own := own) (cls := cls) (names := names) (ic := ic) hown' hcls hnames h (fun x hx => nomatch hx) hfX hkX hcellA (by rw [hhp, hT]; exact Nat.le_refl _) (msg := .ref sa) rfl
    (g := { method := m, pc := pc + 6, locals := ls, stack := .ref sa :: .ref T.heap.size :: .ref T.heap.size :: rest, locked := none }) rfl hsize rfl rfl (rest := rest) rfl
    (by rw [hb]; exact d6) (by rw [hb]; exact d9) hout hRframes (by simp only [List.map_cons, List.sum_cons, hcat]; omega) hlocks
  obtain ⟨f1, f2⟩ := vx_frame hsame
  rw [hhp] at f1 f2
  have hWs : s.WarmedH U.vm := State.WarmedH.trans hW0 hW
  have hcl : s.vm.findClass cls = some ce.cls := by
    have h9 := hO.cls
    rw [hvm] at h9
    exact h9
  have hall : s.sameButNew ({ U with vm := s.vm } : State) locs mc ms := by
    subst hA
    obtain ⟨e1, e2⟩ := hsame
    rw [State.setFrames_setFrames] at e1
    have h2 : (T.setVm s.vm).sameButNew ({ U with vm := s.vm } : State) [] (0 + 1) (0 + 6) := ⟨e1, e2⟩
    have h3 := X.same.trans h2
    rw [List.append_nil] at h3
    exact h3.mono hc hs
  refine ⟨U, ?_, .threw T.heap.size, hrun, hend, Or.inr ⟨T.heap.size, rfl, cls, ce, locs, hx U hWs.alike f1 (fun q hq => f2 q hq (fun z hz => nomatch hz)), hce, hO.vm, hcl, hWs, hall, hf⟩⟩
  refine st1 _ ?_
  show Steps p.tables e below (T1.setTop { method := m, pc := pc + 3, locals := ls, stack := .ref T.heap.size :: rest, locked := none }) _
  jvm_step X₁.here [X₁.here.top, hexec, d3', Value.category]
  exact X₁.ldcString hexec (own := own) (text := text) (index := is) (a := sa) hown' hstr'.1 hstr'.2
    (g := { method := m, pc := pc + 4, locals := ls, stack := .ref T.heap.size :: .ref T.heap.size :: rest, locked := none }) rfl d4' _ hsteps
/-- 'throw new E("text")', the text by a wide index -/
theorem vx_throwSW {cc : ByteArray} {pc : Nat} (hexec : p.tables.exec = Jvm.exec) (hb : c.code = cc) (hl : l.stackTraces = false) {own cls text : String} {names : List String} {ik is ic mc ms sa : Nat} {A : Nat → Prop}
    (hown : s.vm.findClass own = some m.cls) (hcls : Bundle.fit cls = true) (hnames : ∀ n ∈ names, Bundle.fit n = true)
    (hk : (Cond.classLink own ik cls).before args s = true) (hini : (Cond.initialized cls).before args s = true) (hstr : vk_R own is text sa s) (hat : ∀ w ∈ vx_atS own ic cls names, w.before args s = true)
    (hgood : ∀ w ∈ Cond.classLink own ik cls :: Cond.initialized cls :: vx_atS own ic cls names, vx_ot w = true)
    (hU : vx_Zq Bundle.tN "UNASSIGNED_STACK" Bundle.steD A s s.heap) (hN : vx_Zq Bundle.tN "SUPPRESSED_SENTINEL" Bundle.listD A s s.heap) (hS : va_S A s.heap H locs) (hsize : ls.size = c.maxLocals)
    (d0 : decode cc pc = .ok (.new ik, 3)) (d3 : decode cc (pc + 3) = .ok (.dup, 1)) (d4 : decode cc (pc + 4) = .ok (.ldc_w is, 3)) (d7 : decode cc (pc + 7) = .ok (.invokespecial ic, 3)) (d10 : decode cc (pc + 10) = .ok (.athrow, 1))
    (hout : ∀ x ∈ c.exceptionTable.toList, covers x (pc + 10) = false)
    (hRframes : names.length + 3 < R.frames) (hRlocals : (rest.map fun v => v.category).sum + (13 * (names.length + 1) + 43) ≤ R.locals) (hRcells : cells + 1 ≤ R.cells) (hRslots : slots + 6 ≤ R.slots) (hlocks : meth.locks = false)
    (hx : ∀ t : State, s.vm.Alike t.vm → H.size ≤ t.heap.size → (∀ q : Nat, q < H.size → t.heap[q]? = H[q]?) → XC cls s t)
    (hf : ∀ z ∈ locs, free z.base) (hc : cells + 1 ≤ mc) (hs : slots + 6 ≤ ms) :
    W p l e R s m args below meth c H locs cells slots (vx_MQ below Qc XC args s mc ms free) (F0 m pc ls rest) := by
  intro T hT X
  have htr : e.platform.stackTraces = false := (show e.platform.stackTraces = l.stackTraces by rw [X.admits.platform]).trans hl
  have Y := vx_rebase X (R' := { frames := R.frames, locals := R.locals, cells := 1, slots := 6 }) (Nat.le_refl _) (Nat.le_refl _) hRcells hRslots
  obtain ⟨s', hA⟩ : ∃ z, z = (T.setVm s.vm).setFrames (.invoking m args :: below) := ⟨_, rfl⟩
  rw [← hA] at Y
  have hvm : s'.vm = s.vm := by rw [hA]; rfl
  have hhp : s'.heap = H := by rw [hA]; exact hT
  have hW0 : s.WarmedH s'.vm := by rw [hvm]; exact State.WarmedH.refl s
  have hat' : ∀ w ∈ vx_atS own ic cls names, w.before args s' = true := fun w hw => vx_ot_at hW0 hvm.symm (hgood w (List.mem_cons_of_mem _ (List.mem_cons_of_mem _ hw))) (hat w hw)
  have hk' : (Cond.classLink own ik cls).before args s' = true := vx_ot_at hW0 hvm.symm (hgood _ List.mem_cons_self) hk
  have hini' : (Cond.initialized cls).before args s' = true := vx_ot_at hW0 hvm.symm (hgood _ (List.mem_cons_of_mem _ List.mem_cons_self)) hini
  have hU' : vx_Zq Bundle.tN "UNASSIGNED_STACK" Bundle.steD A s' s'.heap := by rw [hhp]; exact vx_Zq.moved hW0.alike (hU.kept hS.2.1)
  have hN' : vx_Zq Bundle.tN "SUPPRESSED_SENTINEL" Bundle.listD A s' s'.heap := by rw [hhp]; exact vx_Zq.moved hW0.alike (hN.kept hS.2.1)
  have h : ∀ w ∈ Bundle.ownAtoms own ic cls names, w.before args s' = true := vx_own hat' (vx_isRefq hU'.1) (vx_isRefq hN'.1) hU'.2.word hN'.2.word
  have hown' : s'.vm.findClass own = some m.cls := by rw [hvm]; exact hown
  have hins : (Cond.instantiable cls 6).before args s' = true := h _ (by simp [Bundle.ownAtoms])
  obtain ⟨vm₁, cX, kX, hfX, hkX, -, -, X₁, st1⟩ := Y.newCold hexec (own := own) (C := cls) (index := ik) (n := 6) hown' hk' hins hini'
    (g := F0 m pc ls rest) rfl (by rw [hb]; exact d0) (Nat.le_refl _) (Nat.le_refl _)
  generalize hT1 : (T.setVm vm₁).pushCell { cls := cX, slots := kX.instanceTypes.map defaultValue, vm := .none } = T1 at X₁ st1
  have hcat : (Value.ref T.heap.size).category = 1 := rfl
  have hcellA : T1.heap[T.heap.size]? = some (freshCell cX kX) := by rw [← hT1]; exact State.heap_pushCell_size _ _
  have d3' : decode c.code (pc + 3) = .ok (.dup, 1) := by rw [hb]; exact d3
  have d4' : decode c.code (pc + 4) = .ok (.ldc_w is, 3) := by rw [hb]; exact d4
  have hstr' : vk_R own is text sa s' := vk_R.warm hW0 hstr
  obtain ⟨U, hsteps, hrun, hend, hW, hsame, ce, hce, hO⟩ := X₁.ctorThrowS hexec htr (own := own) (cls := cls) (names := names) (ic := ic) hown' hcls hnames h (fun x hx => nomatch hx) hfX hkX hcellA (by rw [hhp, hT]; exact Nat.le_refl _) (msg := .ref sa) rfl
    (g := { method := m, pc := pc + 7, locals := ls, stack := .ref sa :: .ref T.heap.size :: .ref T.heap.size :: rest, locked := none }) rfl hsize rfl rfl (rest := rest) rfl
    (by rw [hb]; exact d7) (by rw [hb]; exact d10) hout hRframes (by simp only [List.map_cons, List.sum_cons, hcat]; omega) hlocks
  obtain ⟨f1, f2⟩ := vx_frame hsame
  rw [hhp] at f1 f2
  have hWs : s.WarmedH U.vm := State.WarmedH.trans hW0 hW
  have hcl : s.vm.findClass cls = some ce.cls := by
    have h9 := hO.cls
    rw [hvm] at h9
    exact h9
  have hall : s.sameButNew ({ U with vm := s.vm } : State) locs mc ms := by
    subst hA
    obtain ⟨e1, e2⟩ := hsame
    rw [State.setFrames_setFrames] at e1
    have h2 : (T.setVm s.vm).sameButNew ({ U with vm := s.vm } : State) [] (0 + 1) (0 + 6) := ⟨e1, e2⟩
    have h3 := X.same.trans h2
    rw [List.append_nil] at h3
    exact h3.mono hc hs
  refine ⟨U, ?_, .threw T.heap.size, hrun, hend, Or.inr ⟨T.heap.size, rfl, cls, ce, locs, hx U hWs.alike f1 (fun q hq => f2 q hq (fun z hz => nomatch hz)), hce, hO.vm, hcl, hWs, hall, hf⟩⟩
  refine st1 _ ?_
  show Steps p.tables e below (T1.setTop { method := m, pc := pc + 3, locals := ls, stack := .ref T.heap.size :: rest, locked := none }) _
  jvm_step X₁.here [X₁.here.top, hexec, d3', Value.category]
  exact X₁.ldcStringW hexec (own := own) (text := text) (index := is) (a := sa) hown' hstr'.1 hstr'.2
    (g := { method := m, pc := pc + 4, locals := ls, stack := .ref T.heap.size :: .ref T.heap.size :: rest, locked := none }) rfl d4' _ hsteps
end Ends
section Bodies
variable {l : Launch}
theorem vx_ofW {y : MethodName} {ws ws' : List Cond} {rm : Room} {Pc : Array Value → State → Prop} {Qc : Array Value → State → Outcome → State → Prop} {XC : String → State → State → Prop} {mc ms : Nat} {free : Addr → Prop} {cc : ByteArray} {maxL : Nat} {ret : Option FieldType}
    (hy : plainName y.cls = true) (hw : ws = Cond.code y cc maxL ret :: ws')
    (body : ∀ p e s m args below meth c s₁, BodyLoose p l y (headSpec ws rm) cc maxL ret e s m args below meth c s₁ → c.maxLocals = maxL → (∀ x ∈ c.exceptionTable.toList, False) → Pc args s →
      W p l e (headSpec ws rm).room s m args below meth c s.heap [] 0 0 (vx_MQ below Qc XC args s mc ms free) (entryFrame m args maxL)) : vx_Met l y ws rm Pc Qc XC mc ms free := by
  refine MetFree.of_bodyS (code := cc) (maxLocals := maxL) (ret := ret) hy ?_ ?_
  · intro args s m h hn
    obtain ⟨meth, c, h1, h2, h3, h4, h5, h6, -, -⟩ := Cond.code_spec hn (atoms_spec (ws := ws) h _ (by rw [hw]; exact List.mem_cons_self))
    exact ⟨meth, c, h1, h2, h3, h4, h5, h6⟩
  · intro p e s m args below meth c s₁ B hml hP _
    have hh0 : s₁.heap = s.heap := by rw [B.state]; rfl
    have ht : ∀ x ∈ c.exceptionTable.toList, False := by
      obtain ⟨meth9, c9, h1, h2, -, -, -, -, h7, -⟩ := Cond.code_spec B.named (atoms_spec (ws := ws) B.pre _ (by rw [hw]; exact List.mem_cons_self))
      cases Option.some.inj (h1.symm.trans B.method)
      cases Option.some.inj (h2.symm.trans (Stand.of_body B).code)
      intro x hx
      rw [Array.isEmpty_iff.mp h7] at hx
      cases hx
    obtain ⟨t, a1, o, b1, b2, b3⟩ := body p e s m args below meth c s₁ B hml ht hP s₁ hh0 (Stand.of_body B)
    exact ⟨t, o, a1, b1, b2, b3⟩
/-- the table of a body with handlers -/
theorem vx_table {p : Program} {x y : MethodName} {S : Spec} {cc bytes : ByteArray} {maxL maxL' : Nat} {ret ret' : Option FieldType} {e : Env} {s s₁ : State} {m : MethodId} {args : Array Value} {below : List Frame} {meth : Method} {c : Code} {hh : List (Nat × Nat × Nat × Nat)}
    (B : BodyLoose p l y S cc maxL ret e s m args below meth c s₁) (h : (Cond.codeWith y bytes maxL' ret' hh).before args s = true) : c.exceptionTable.toList = tableOf hh := by
  obtain ⟨m9, meth9, c9, hn9, h1, h2, -, -, h6, -⟩ := Cond.codeWith_spec h
  cases Option.some.inj (hn9.symm.trans B.named)
  cases Option.some.inj (h1.symm.trans B.method)
  cases Option.some.inj (h2.symm.trans (Stand.of_body B).code)
  rw [← h6, table_eq]
end Bodies
end VXA
/-! ===== END ===== -/
/-! ===== BEGIN a static call of a method with an exception table ===== -/
section VXS
variable {p : Program} {l : Launch} {e : Env} {R : Room} {s : State} {m : MethodId} {args : Array Value} {below : List Frame} {meth : Method} {c : Code} {T : State} {H : Heap} {locs : List Loc} {cells slots : Nat}
abbrev vx_CSW (R : Room) (s : State) (args : Array Value) (own : String) (index : Nat) (y : MethodName) (bytes : ByteArray) (maxL : Nat) (ret : Option FieldType) (hh : List (Nat × Nat × Nat × Nat)) (ws : List Cond) (rm : Room) (mc ms n : Nat) : Prop :=
  (rm.cells = mc ∧ rm.slots = ms ∧ rm.frames + 1 ≤ R.frames ∧ 8 + (maxL + 11) + rm.locals ≤ R.locals ∧ (∀ w ∈ ws, ∀ (a' : Array Value) (U : State), s.WarmedH U.vm → w.before a' U = true) ∧ Cond.codeWith y bytes maxL ret hh ∈ ws) ∧
  (Cond.codeWith y bytes maxL ret hh).before args s = true ∧ (Cond.initialized y.cls).before args s = true ∧ (y.cls ≠ "java/lang/invoke/MethodHandle" ∧ y.cls ≠ "java/lang/invoke/VarHandle") ∧
  (∀ sig, parseMethodDescriptor y.desc = some sig → n = sig.parameters.length) ∧ (Cond.methodLink own index y).before args s = true ∧ (Cond.static y).before args s = true
theorem vx_cwSW {own : String} {index maxL mc ms : Nat} {y : MethodName} {bytes : ByteArray} {ret : Option FieldType} {hh : List (Nat × Nat × Nat × Nat)} {Ts ws ws' : List Cond} {rm : Room} (n : Nat) (ht : ∀ w ∈ Ts, w.before args s = true) (hT : GoodIn Ts (va_wsS own index y ws)) (hw : ws = Cond.codeWith y bytes maxL ret hh :: ws') (hrc : rm.cells = mc) (hrs : rm.slots = ms)
    (hd : y.cls ≠ "java/lang/invoke/MethodHandle" ∧ y.cls ≠ "java/lang/invoke/VarHandle" ∧ (parseMethodDescriptor y.desc).map (fun d => d.parameters.length) = some n) (hR : rm.frames + 1 ≤ R.frames ∧ 8 + (maxL + 11) + rm.locals ≤ R.locals) :
    vx_CSW R s args own index y bytes maxL ret hh ws rm mc ms n := by
  have ok : ∀ w ∈ va_wsS own index y ws, w.before args s = true := fun w h => ht w (hT w h).1
  have hG : GoodIn Ts ws := fun w h => hT w (by unfold va_wsS; exact List.mem_append_right _ h)
  have hc : Cond.codeWith y bytes maxL ret hh ∈ ws := by rw [hw]; exact List.mem_cons_self
  refine ⟨⟨hrc, hrs, hR.1, hR.2, pay_in ht hG, hc⟩, ht _ (hG _ hc).1, ok _ (by simp [va_wsS]), ⟨hd.1, hd.2.1⟩, fun sig h => ?_, ok _ (by simp [va_wsS]), ok _ (by simp [va_wsS])⟩
  have h2 := hd.2.2
  rw [h] at h2
  exact (Option.some.inj h2).symm
theorem vx_callSW (X : Stand p l e R s m args below meth c T locs cells slots) (hexec : p.tables.exec = Jvm.exec) {own : String} {index : Nat} {y : MethodName} {bytes : ByteArray} {maxL : Nat} {ret : Option FieldType} {hh : List (Nat × Nat × Nat × Nat)}
    (hown : s.vm.findClass own = some m.cls) (hlink : (Cond.methodLink own index y).before args s = true) (hstat : (Cond.static y).before args s = true) (hinit : (Cond.initialized y.cls).before args s = true)
    (hcode : (Cond.codeWith y bytes maxL ret hh).before args s = true) (hy : y.cls ≠ "java/lang/invoke/MethodHandle" ∧ y.cls ≠ "java/lang/invoke/VarHandle")
    {W9 : Nat} {Pre : Pt → Array Value → Prop} {Post : Pt → Array Value → Option Value → Pt → Prop} (hK : Back l R p e below s args y 3 W9 Pre Post)
    {g : JFrame} (hg : g.method = m) (hsize : g.locals.size = c.maxLocals) {argsL rest : List Value} (hlen : ∀ sig, parseMethodDescriptor y.desc = some sig → argsL.length = sig.parameters.length)
    (hstack : g.stack = argsL.reverse ++ rest) (hW : 2 * g.monitorRoom + (rest.map fun v => v.category).sum ≤ W9) (hdg : decode c.code g.pc = .ok (.invokestatic index, 3))
    (hpre : ∀ vm₁, s.WarmedH vm₁ → Pre ⟨T.setVm vm₁, locs, cells, slots⟩ argsL.toArray) :
    ∃ (v : Option Value) (vm₁ : Vm) (B : Pt), s.WarmedH vm₁ ∧ Stand p l e R s m args below meth c B.U B.locs B.cells B.slots ∧ Post ⟨T.setVm vm₁, locs, cells, slots⟩ argsL.toArray v B ∧
      ∀ target, Steps p.tables e below (B.U.setTop { g with pc := g.pc + 3, stack := v.toList ++ rest }) target → Steps p.tables e below (T.setTop g) target := by
  obtain ⟨mk, methM, cM, hnamed, hmethM, -, -, -, -, -, -, hsigM⟩ := Cond.codeWith_spec hcode
  have hstatic : methM.isStatic = true := Cond.static_spec hnamed hmethM hstat
  obtain ⟨kP, hkP, -⟩ := className_of_methodNamed hnamed
  have hinitP : kP.init = .initialized := Cond.initialized_spec (findClass_of_methodNamed hnamed) hkP hinit
  obtain ⟨vm₁, X₁, hstep₁⟩ := X.invokestatic hexec hown hlink hnamed hmethM hstatic hkP hinitP hy (g := g) hg (argsL := argsL) (rest := rest) (hlen _ hsigM) hstack hdg
  obtain ⟨v, B, X', hpost, hsteps⟩ := hK m meth c ⟨T.setVm vm₁, locs, cells, slots⟩ { g with stack := rest } (.invokestatic index) mk argsL.toArray X₁ hg hsize hdg hW (X₁.named hnamed) (hpre vm₁ X₁.warmed)
  exact ⟨v, vm₁, B, X₁.warmed, X', hpost, fun target h => hstep₁ _ fun acts => by rw [doInvoke_state]; exact hsteps.trans h⟩
theorem vx_runSW {y : MethodName} {bytes cc : ByteArray} {maxL nL mc ms n index : Nat} {ret : Option FieldType} {hh : List (Nat × Nat × Nat × Nat)} {ws : List Cond} {rm : Room} {Pc : Array Value → State → Prop} {Qc : Array Value → State → Outcome → State → Prop} {free : Addr → Prop} {Ts : List Cond} {own : String} {As rest : List Value} {g : JFrame}
    (S : CallFix p m c cc nL s args Ts own) (hM : Met l y ws rm Pc Qc mc ms free) (cw : vx_CSW R s args own index y bytes maxL ret hh ws rm mc ms n) (hp : PreS s H Pc As)
    (hg : g.method = m) (hn : As.length = n) (hsize : g.locals.size = nL) (hstack : g.stack = As.reverse ++ rest) (hW : 2 * g.monitorRoom + (rest.map fun v => v.category).sum ≤ 8) (hdg : decode cc g.pc = .ok (.invokestatic index, 3)) (hf : cells + mc ≤ R.cells ∧ slots + ms ≤ R.slots) :
    va_Run p l e R s m args below meth c H locs cells slots mc ms g rest (Qc As.toArray) (free) := by
  obtain ⟨⟨hrc, hrs, hfr, hlo, hws, hcw⟩, hcode, hini, hy, hlen, hl, hstt⟩ := cw
  have hK : Back l R p e below s args y 3 8 (PreOf R mc ms Pc) (PostOf Qc mc ms free) := va_backW (hh := hh) (bytes := bytes) (maxL := maxL) (ret := ret) hM hp.1 hrc hrs hfr hlo hws hcw (fun a' U hW => word_at hW (Or.inl (by first | rfl | simp [Cond.onTables, Cond.keeps, Cond.steady])) hini)
  obtain ⟨hx, hb, hml, ho, -⟩ := S
  intro T hT X
  obtain ⟨v, vm₁, ⟨U', l2, c2, s2⟩, hW₁, X', ⟨g', mk, t, L, e1, e2, hq, h1, hL, h2, h3⟩, st⟩ := vx_callSW X hx (hh := hh) (bytes := bytes) (maxL := maxL) (ret := ret) ho hl hstt hini hcode hy hK hg (hsize.trans hml.symm) (argsL := As) (rest := rest) (fun sig h => hn.trans (hlen sig h)) hstack hW (by rw [hb]; exact hdg)
    (fun vm₁ hW₁ => ⟨hf.1, hf.2, hp.2 (T.setVm vm₁) hT hW₁⟩)
  dsimp only [Pt.U, Pt.locs, Pt.cells, Pt.slots] at X' e1 e2 h1 h2 h3 st
  subst h1; subst h2; subst h3
  exact ⟨v, (T.setVm vm₁).calling g' mk As.toArray, t, U', L, hT, X', hL, e1, e2, hq, st⟩
/-- a thing of a world lies in the heap -/
theorem vx_lt {D : va_G} {cl : List vw_C} {ws : va_W} {H1 : Heap} (h : va_P D cl ws H1) {k : Nat} {q : Nat × va_E} (hk : ws[k]? = some q) : q.1 < H1.size := (h k q hk).lt
end VXS
/-! ===== END ===== -/
/-! ===== BEGIN methods with a table of their own: called by a name, returning or throwing ===== -/
section VXH
/-! vx_backW, vx_callVX, vx_callSX, vx_callVW, vx_runVW, vx_runVX, vx_runSX, vx_ofWH follow the same proofs as their sisters above (Free/Laws.lean, Shelf42/LK1.lean); vx_outP calls Shelf42/NT130.lean (outThrough). -/
section
variable {l : Launch} {R : Room} {p : Program} {e : Env} {below : List Frame} {s : State} {sargs : Array Value} {y : MethodName} {len W9 : Nat}
theorem vx_backW {ws : List Cond} {rm : Room} {Pc : Array Value → State → Prop} {Qc : Array Value → State → Outcome → State → Prop} {XC : String → State → State → Prop} {mc ms : Nat} {free : Addr → Prop} {bytes : ByteArray} {maxL : Nat} {ret : Option FieldType} {hh : List (Nat × Nat × Nat × Nat)}
    (hM : vx_Met l y ws rm Pc Qc XC mc ms free) (hblind : FrameBlind Pc) (hrc : rm.cells = mc) (hrs : rm.slots = ms)
    (hframes : rm.frames + 1 ≤ R.frames) (hlocals : W9 + (maxL + 11) + rm.locals ≤ R.locals)
    (hws : ∀ w ∈ ws, ∀ a' U, s.WarmedH U.vm → w.before a' U = true) (hcode : Cond.codeWith y bytes maxL ret hh ∈ ws) (hinit : ∀ a' U, s.WarmedH U.vm → (Cond.initialized y.cls).before a' U = true) :
    vx_Back l R p e below s sargs y len W9 (PreOf R mc ms Pc) (PostOf Qc mc ms free) (vx_Post XC mc ms free) := by
  intro m meth c A g ig mk a X hg hsize hdg hW hn hp
  have h1 : (headSpec ws rm).pre.before a A.U = true := atoms_intro fun w hw => hws w hw _ _ X.warmed
  have h2 : (Cond.codeWith y bytes maxL ret hh).before a A.U = true := hws _ hcode _ _ X.warmed
  have h3 : (Cond.initialized y.cls).before a A.U = true := hinit _ _ X.warmed
  have h4 : A.cells + (headSpec ws rm).room.cells ≤ R.cells := by rw [show (headSpec ws rm).room.cells = mc from hrc]; exact hp.1
  have h5 : A.slots + (headSpec ws rm).room.slots ≤ R.slots := by rw [show (headSpec ws rm).room.slots = ms from hrs]; exact hp.2.1
  have hPc : Pc a (A.U.calling g mk a) := hblind _ _ _ _ hp.2.2
  obtain ⟨U, Ls, c0, s0⟩ := A
  dsimp only [Pt.U, Pt.locs, Pt.cells, Pt.slots] at h1 h2 h3 h4 h5 X hn hPc ⊢
  obtain ⟨m9, methY, cY, hn9, hmY, hcY, -, hlY, -⟩ := Cond.codeWith_spec h2
  cases Option.some.inj (hn9.symm.trans hn)
  obtain ⟨kY, hkY, -⟩ := className_of_methodNamed hn
  have hinitY : kY.init = .initialized := Cond.initialized_spec (findClass_of_methodNamed hn) hkY h3
  have h : At U g.method c below := by rw [hg]; exact X.here
  have hlocals9 : W9 + (maxL + 11) + (headSpec ws rm).room.locals ≤ R.locals := hlocals
  have happ : (headSpec ws rm).appliesLoose y e.platform (U.calling g mk a) = true :=
    Spec.appliesLoose_calling (g := g) h hdg hn hkY hinitY
      (X.room_calling (g := g) (R' := (headSpec ws rm).room) hsize hmY hcY hframes (by rw [hlY]; omega) h4 h5) h1
  obtain ⟨mid, hmid⟩ := h.above
  have hfr : (U.setTop g).frames = (.java g :: mid) ++ below := by rw [State.frames_setTop' g h.top, hmid]; rfl
  obtain ⟨o, s₂, hsteps, -, hend, hq⟩ := Steps.callFree hM p X.admits X.cas X.clock (acts := []) hfr happ hPc trivial
  have hq' : vx_Q Qc XC mc ms free a (U.calling g mk a) o s₂ := hq
  rw [State.frames_setTop' g h.top] at hend
  obtain ⟨g₀, hg0⟩ := Option.isSome_iff_exists.mp h.top
  obtain ⟨r, hr⟩ := State.topJava?_eq_some.mp hg0
  have hr' : (({ U with heap := s₂.heap, slotsUsed := s₂.slotsUsed } : State).setVm s₂.vm).frames = .java g₀ :: r := hr
  rcases hq' with ⟨hqc, L, hfe, hL⟩ | ⟨q, rfl, E, ce, L, hx, hce, hcv, hcl, hW₂, hsm, hL⟩
  · obtain ⟨⟨v, rfl⟩, hW₂, e2, q2, q3, q4, q5, q6⟩ := id hfe
    have e3 : s₂ = ({ (U.calling g mk a).setFrames s₂.frames with heap := s₂.heap, slotsUsed := s₂.slotsUsed } : State).setVm s₂.vm := by
      have : s₂ = ({ s₂ with vm := (U.calling g mk a).vm } : State).setVm s₂.vm := rfl
      rw [e2] at this
      exact this
    obtain ⟨c₂, i₂, len₂, hc₂, hd₂, hf₂⟩ := hend
    have hW' : U.WarmedH s₂.vm := hW₂
    have hcc : c₂ = c := by
      have h1 : s₂.code? g.method = U.code? g.method := by
        rw [State.code?_eq, State.code?_eq, hW'.alike.method?]
      exact Option.some.inj (hc₂.symm.trans (h1.trans h.code))
    subst hcc
    have hlen : len₂ = len := by rw [hdg] at hd₂; cases hd₂; rfl
    subst hlen
    have hs₂ : s₂ = (({ U with heap := s₂.heap, slotsUsed := s₂.slotsUsed } : State).setVm s₂.vm).setTop { g with pc := g.pc + len₂, stack := v.toList ++ g.stack } := by
      refine e3.trans ?_
      rw [hf₂, State.calling_eq h.top, State.setFrames_setFrames, State.setTop_of_frames _ hr', hr]
      rfl
    have hsame : U.sameButNew ({ U with heap := s₂.heap, slotsUsed := s₂.slotsUsed } : State) L mc ms := by
      refine ⟨?_, q2, q3, q4, q5, q6⟩
      obtain ⟨t, ht, -⟩ := State.frames_cons hr
      show ({ U with heap := s₂.heap, slotsUsed := s₂.slotsUsed } : State) = { U.setFrames U.frames with heap := s₂.heap, slotsUsed := s₂.slotsUsed }
      rw [State.setFrames_self ht]
    subst hg
    refine Or.inl ⟨v, ⟨(({ U with heap := s₂.heap, slotsUsed := s₂.slotsUsed } : State).setVm s₂.vm), Ls ++ L, c0 + mc, s0 + ms⟩,
      ⟨X.admits, X.cas, X.clock, X.frames, X.room, X.hears, X.method, X.code, (X.here.setHeapUsed s₂.heap s₂.slotsUsed).setVm hW'.alike, X.tail, State.WarmedH.trans X.warmed hW', X.limits, X.bytes, X.same.trans (hsame.setVm s.vm)⟩,
      ⟨g, mk, s₂, L, rfl, rfl, hqc, rfl, hL, rfl, rfl⟩, ?_⟩
    show Steps p.tables e below _ ((({ U with heap := s₂.heap, slotsUsed := s₂.slotsUsed } : State).setVm s₂.vm).setTop { g with pc := g.pc + len₂, stack := v.toList ++ g.stack })
    rw [← hs₂]
    exact hsteps
  · obtain ⟨e2, q2, q3, q4, q5, q6⟩ := id hsm
    have e3 : s₂ = ({ (U.calling g mk a).setFrames s₂.frames with heap := s₂.heap, slotsUsed := s₂.slotsUsed } : State).setVm s₂.vm := by
      have : s₂ = ({ s₂ with vm := (U.calling g mk a).vm } : State).setVm s₂.vm := rfl
      rw [e2] at this
      exact this
    have hf₂ : s₂.frames = .throwing q :: .java g :: U.frames.tail := hend
    have hW' : U.WarmedH s₂.vm := hW₂
    have hs₂ : s₂ = ((({ U with heap := s₂.heap, slotsUsed := s₂.slotsUsed } : State).setVm s₂.vm).setTop g).pushFrame (.throwing q) := by
      refine e3.trans ?_
      rw [hf₂, State.calling_eq h.top, State.setFrames_setFrames, State.pushFrame, State.frames_setTop _ hr', State.setTop_of_frames _ hr', State.setFrames_setFrames, hr]
      rfl
    have hsame : U.sameButNew ({ U with heap := s₂.heap, slotsUsed := s₂.slotsUsed } : State) L mc ms := by
      refine ⟨?_, q2, q3, q4, q5, q6⟩
      obtain ⟨t, ht, -⟩ := State.frames_cons hr
      show ({ U with heap := s₂.heap, slotsUsed := s₂.slotsUsed } : State) = { U.setFrames U.frames with heap := s₂.heap, slotsUsed := s₂.slotsUsed }
      rw [State.setFrames_self ht]
    subst hg
    refine Or.inr ⟨q, ⟨(({ U with heap := s₂.heap, slotsUsed := s₂.slotsUsed } : State).setVm s₂.vm), Ls ++ L, c0 + mc, s0 + ms⟩,
      ⟨X.admits, X.cas, X.clock, X.frames, X.room, X.hears, X.method, X.code, (X.here.setHeapUsed s₂.heap s₂.slotsUsed).setVm hW'.alike, X.tail, State.WarmedH.trans X.warmed hW', X.limits, X.bytes, X.same.trans (hsame.setVm s.vm)⟩,
      ⟨g, mk, s₂, L, E, ce, rfl, rfl, hx, hce, hcv, hcl, rfl, hL, rfl, rfl⟩, ?_⟩
    show Steps p.tables e below _ (((({ U with heap := s₂.heap, slotsUsed := s₂.slotsUsed } : State).setVm s₂.vm).setTop g).pushFrame (.throwing q))
    rw [← hs₂]
    exact hsteps
end
variable {p : Program} {l : Launch} {e : Env} {R : Room} {s : State} {m : MethodId} {args : Array Value} {below : List Frame} {meth : Method} {c : Code} {T : State} {H : Heap} {locs : List Loc} {cells slots : Nat}
theorem vx_callVX (X : Stand p l e R s m args below meth c T locs cells slots) (hexec : p.tables.exec = Jvm.exec) {own C : String} {index : Nat} {y : MethodName} {bytes : ByteArray} {maxL : Nat} {ret : Option FieldType} {hh : List (Nat × Nat × Nat × Nat)}
    (hown : s.vm.findClass own = some m.cls) (hlink : (Cond.methodLink own index y).before args s = true) (hinst : (Cond.instanceMethod y).before args s = true) (hsel : (Cond.selects C y y).before args s = true)
    (hcode : (Cond.codeWith y bytes maxL ret hh).before args s = true) (hy : y.cls ≠ "java/lang/invoke/MethodHandle" ∧ y.cls ≠ "java/lang/invoke/VarHandle")
    {W9 : Nat} {Pre : Pt → Array Value → Prop} {Post : Pt → Array Value → Option Value → Pt → Prop} {PostX : Pt → Array Value → Addr → Pt → Prop} (hK : vx_Back l R p e below s args y 3 W9 Pre Post PostX)
    {b : Addr} {cellB : Cell} (hcell : T.heap[b]? = some cellB) (hobj : cellB.vm.isStatics = false) (hcls : s.vm.findClass C = some cellB.cls)
    {g : JFrame} (hg : g.method = m) (hsize : g.locals.size = c.maxLocals) {argsL rest : List Value} (hlen : ∀ sig, parseMethodDescriptor y.desc = some sig → argsL.length = sig.parameters.length)
    (hstack : g.stack = argsL.reverse ++ .ref b :: rest) (hW : 2 * g.monitorRoom + (rest.map fun v => v.category).sum ≤ W9) (hdg : decode c.code g.pc = .ok (.invokevirtual index, 3))
    (hpre : ∀ vm₁, s.WarmedH vm₁ → Pre ⟨T.setVm vm₁, locs, cells, slots⟩ (Value.ref b :: argsL).toArray) :
    (∃ (v : Option Value) (vm₁ : Vm) (B : Pt), s.WarmedH vm₁ ∧ Stand p l e R s m args below meth c B.U B.locs B.cells B.slots ∧ Post ⟨T.setVm vm₁, locs, cells, slots⟩ (Value.ref b :: argsL).toArray v B ∧
      ∀ target, Steps p.tables e below (B.U.setTop { g with pc := g.pc + 3, stack := v.toList ++ rest }) target → Steps p.tables e below (T.setTop g) target) ∨
    (∃ (q : Addr) (vm₁ : Vm) (B : Pt), s.WarmedH vm₁ ∧ Stand p l e R s m args below meth c B.U B.locs B.cells B.slots ∧ PostX ⟨T.setVm vm₁, locs, cells, slots⟩ (Value.ref b :: argsL).toArray q B ∧
      Steps p.tables e below (T.setTop g) ((B.U.setTop { g with stack := rest }).pushFrame (.throwing q))) := by
  obtain ⟨mk, methM, hnamed, hmethM, hstM, habM⟩ := Cond.instanceMethod_spec hinst
  obtain ⟨m8, methM', cM, hn8, hmethM', -, -, -, -, -, -, hsigM⟩ := Cond.codeWith_spec hcode
  cases Option.some.inj (hn8.symm.trans hnamed)
  cases hmethM.symm.trans hmethM'
  obtain ⟨c2, r2, m2, q1, q2, q3, q4, kP, hkP, hkPi⟩ := Cond.selects_spec hsel
  cases hcls.symm.trans q1
  cases (State.methodFound?_of_named hnamed hy).symm.trans q2
  cases hnamed.symm.trans q3
  have hselP : selectMethod e.platform s.vm cellB.cls mk = .method mk := by rw [Launch.admits_selectMethod X.admits]; exact q4
  obtain ⟨vm₁, X₁, hstep₁⟩ := X.invokevirtual hexec hown hlink hnamed hmethM hstM hkP hkPi hy (a := b) (cell := cellB) hcell
    (fun z h => by rw [h] at hobj; cases hobj) hselP hmethM habM hkP hkPi (g := g) hg (argsL := argsL) (rest := rest) (hlen _ hsigM) hstack hdg
  rcases hK m meth c ⟨T.setVm vm₁, locs, cells, slots⟩ { g with stack := rest } (.invokevirtual index) mk (Value.ref b :: argsL).toArray X₁ hg hsize hdg hW (X₁.named hnamed) (hpre vm₁ X₁.warmed) with ⟨v, B, X', hpost, hsteps⟩ | ⟨q, B, X', hpost, hsteps⟩
  · exact Or.inl ⟨v, vm₁, B, X₁.warmed, X', hpost, fun target h => hstep₁ _ fun acts => by rw [doInvoke_state]; exact hsteps.trans h⟩
  · exact Or.inr ⟨q, vm₁, B, X₁.warmed, X', hpost, hstep₁ _ fun acts => by rw [doInvoke_state]; exact hsteps⟩
theorem vx_callSX (X : Stand p l e R s m args below meth c T locs cells slots) (hexec : p.tables.exec = Jvm.exec) {own : String} {index : Nat} {y : MethodName} {bytes : ByteArray} {maxL : Nat} {ret : Option FieldType} {hh : List (Nat × Nat × Nat × Nat)}
    (hown : s.vm.findClass own = some m.cls) (hlink : (Cond.methodLink own index y).before args s = true) (hstat : (Cond.static y).before args s = true) (hinit : (Cond.initialized y.cls).before args s = true)
    (hcode : (Cond.codeWith y bytes maxL ret hh).before args s = true) (hy : y.cls ≠ "java/lang/invoke/MethodHandle" ∧ y.cls ≠ "java/lang/invoke/VarHandle")
    {W9 : Nat} {Pre : Pt → Array Value → Prop} {Post : Pt → Array Value → Option Value → Pt → Prop} {PostX : Pt → Array Value → Addr → Pt → Prop} (hK : vx_Back l R p e below s args y 3 W9 Pre Post PostX)
    {g : JFrame} (hg : g.method = m) (hsize : g.locals.size = c.maxLocals) {argsL rest : List Value} (hlen : ∀ sig, parseMethodDescriptor y.desc = some sig → argsL.length = sig.parameters.length)
    (hstack : g.stack = argsL.reverse ++ rest) (hW : 2 * g.monitorRoom + (rest.map fun v => v.category).sum ≤ W9) (hdg : decode c.code g.pc = .ok (.invokestatic index, 3))
    (hpre : ∀ vm₁, s.WarmedH vm₁ → Pre ⟨T.setVm vm₁, locs, cells, slots⟩ argsL.toArray) :
    (∃ (v : Option Value) (vm₁ : Vm) (B : Pt), s.WarmedH vm₁ ∧ Stand p l e R s m args below meth c B.U B.locs B.cells B.slots ∧ Post ⟨T.setVm vm₁, locs, cells, slots⟩ argsL.toArray v B ∧
      ∀ target, Steps p.tables e below (B.U.setTop { g with pc := g.pc + 3, stack := v.toList ++ rest }) target → Steps p.tables e below (T.setTop g) target) ∨
    (∃ (q : Addr) (vm₁ : Vm) (B : Pt), s.WarmedH vm₁ ∧ Stand p l e R s m args below meth c B.U B.locs B.cells B.slots ∧ PostX ⟨T.setVm vm₁, locs, cells, slots⟩ argsL.toArray q B ∧
      Steps p.tables e below (T.setTop g) ((B.U.setTop { g with stack := rest }).pushFrame (.throwing q))) := by
  obtain ⟨mk, methM, cM, hnamed, hmethM, -, -, -, -, -, -, hsigM⟩ := Cond.codeWith_spec hcode
  have hstatic : methM.isStatic = true := Cond.static_spec hnamed hmethM hstat
  obtain ⟨kP, hkP, -⟩ := className_of_methodNamed hnamed
  have hinitP : kP.init = .initialized := Cond.initialized_spec (findClass_of_methodNamed hnamed) hkP hinit
  obtain ⟨vm₁, X₁, hstep₁⟩ := X.invokestatic hexec hown hlink hnamed hmethM hstatic hkP hinitP hy (g := g) hg (argsL := argsL) (rest := rest) (hlen _ hsigM) hstack hdg
  rcases hK m meth c ⟨T.setVm vm₁, locs, cells, slots⟩ { g with stack := rest } (.invokestatic index) mk argsL.toArray X₁ hg hsize hdg hW (X₁.named hnamed) (hpre vm₁ X₁.warmed) with ⟨v, B, X', hpost, hsteps⟩ | ⟨q, B, X', hpost, hsteps⟩
  · exact Or.inl ⟨v, vm₁, B, X₁.warmed, X', hpost, fun target h => hstep₁ _ fun acts => by rw [doInvoke_state]; exact hsteps.trans h⟩
  · exact Or.inr ⟨q, vm₁, B, X₁.warmed, X', hpost, hstep₁ _ fun acts => by rw [doInvoke_state]; exact hsteps⟩
theorem vx_callVW (X : Stand p l e R s m args below meth c T locs cells slots) (hexec : p.tables.exec = Jvm.exec) {own C : String} {index : Nat} {y : MethodName} {bytes : ByteArray} {maxL : Nat} {ret : Option FieldType} {hh : List (Nat × Nat × Nat × Nat)}
    (hown : s.vm.findClass own = some m.cls) (hlink : (Cond.methodLink own index y).before args s = true) (hinst : (Cond.instanceMethod y).before args s = true) (hsel : (Cond.selects C y y).before args s = true)
    (hcode : (Cond.codeWith y bytes maxL ret hh).before args s = true) (hy : y.cls ≠ "java/lang/invoke/MethodHandle" ∧ y.cls ≠ "java/lang/invoke/VarHandle")
    {W9 : Nat} {Pre : Pt → Array Value → Prop} {Post : Pt → Array Value → Option Value → Pt → Prop} (hK : Back l R p e below s args y 3 W9 Pre Post)
    {b : Addr} {cellB : Cell} (hcell : T.heap[b]? = some cellB) (hobj : cellB.vm.isStatics = false) (hcls : s.vm.findClass C = some cellB.cls)
    {g : JFrame} (hg : g.method = m) (hsize : g.locals.size = c.maxLocals) {argsL rest : List Value} (hlen : ∀ sig, parseMethodDescriptor y.desc = some sig → argsL.length = sig.parameters.length)
    (hstack : g.stack = argsL.reverse ++ .ref b :: rest) (hW : 2 * g.monitorRoom + (rest.map fun v => v.category).sum ≤ W9) (hdg : decode c.code g.pc = .ok (.invokevirtual index, 3))
    (hpre : ∀ vm₁, s.WarmedH vm₁ → Pre ⟨T.setVm vm₁, locs, cells, slots⟩ (Value.ref b :: argsL).toArray) :
    ∃ (v : Option Value) (vm₁ : Vm) (B : Pt), s.WarmedH vm₁ ∧ Stand p l e R s m args below meth c B.U B.locs B.cells B.slots ∧ Post ⟨T.setVm vm₁, locs, cells, slots⟩ (Value.ref b :: argsL).toArray v B ∧
      ∀ target, Steps p.tables e below (B.U.setTop { g with pc := g.pc + 3, stack := v.toList ++ rest }) target → Steps p.tables e below (T.setTop g) target := by
  obtain ⟨mk, methM, hnamed, hmethM, hstM, habM⟩ := Cond.instanceMethod_spec hinst
  obtain ⟨m8, methM', cM, hn8, hmethM', -, -, -, -, -, -, hsigM⟩ := Cond.codeWith_spec hcode
  cases Option.some.inj (hn8.symm.trans hnamed)
  cases hmethM.symm.trans hmethM'
  obtain ⟨c2, r2, m2, q1, q2, q3, q4, kP, hkP, hkPi⟩ := Cond.selects_spec hsel
  cases hcls.symm.trans q1
  cases (State.methodFound?_of_named hnamed hy).symm.trans q2
  cases hnamed.symm.trans q3
  have hselP : selectMethod e.platform s.vm cellB.cls mk = .method mk := by rw [Launch.admits_selectMethod X.admits]; exact q4
  obtain ⟨vm₁, X₁, hstep₁⟩ := X.invokevirtual hexec hown hlink hnamed hmethM hstM hkP hkPi hy (a := b) (cell := cellB) hcell
    (fun z h => by rw [h] at hobj; cases hobj) hselP hmethM habM hkP hkPi (g := g) hg (argsL := argsL) (rest := rest) (hlen _ hsigM) hstack hdg
  obtain ⟨v, B, X', hpost, hsteps⟩ := hK m meth c ⟨T.setVm vm₁, locs, cells, slots⟩ { g with stack := rest } (.invokevirtual index) mk (Value.ref b :: argsL).toArray X₁ hg hsize hdg hW (X₁.named hnamed) (hpre vm₁ X₁.warmed)
  exact ⟨v, vm₁, B, X₁.warmed, X', hpost, fun target h => hstep₁ _ fun acts => by rw [doInvoke_state]; exact hsteps.trans h⟩
abbrev vx_CVW (R : Room) (s : State) (args : Array Value) (own C : String) (index : Nat) (y : MethodName) (bytes : ByteArray) (maxL : Nat) (ret : Option FieldType) (hh : List (Nat × Nat × Nat × Nat)) (ws : List Cond) (rm : Room) (mc ms n : Nat) : Prop :=
  (rm.cells = mc ∧ rm.slots = ms ∧ rm.frames + 1 ≤ R.frames ∧ 8 + (maxL + 11) + rm.locals ≤ R.locals ∧ (∀ w ∈ ws, ∀ (a' : Array Value) (U : State), s.WarmedH U.vm → w.before a' U = true) ∧ Cond.codeWith y bytes maxL ret hh ∈ ws) ∧
  (Cond.codeWith y bytes maxL ret hh).before args s = true ∧ (Cond.initialized y.cls).before args s = true ∧ (y.cls ≠ "java/lang/invoke/MethodHandle" ∧ y.cls ≠ "java/lang/invoke/VarHandle") ∧
  (∀ sig, parseMethodDescriptor y.desc = some sig → n = sig.parameters.length) ∧ (Cond.methodLink own index y).before args s = true ∧ (Cond.instanceMethod y).before args s = true ∧ (Cond.selects C y y).before args s = true
theorem vx_cwVW {own C : String} {index maxL mc ms : Nat} {y : MethodName} {bytes : ByteArray} {ret : Option FieldType} {hh : List (Nat × Nat × Nat × Nat)} {Ts ws ws' : List Cond} {rm : Room} (n : Nat) (ht : ∀ w ∈ Ts, w.before args s = true) (hT : GoodIn Ts (wsV own index C y ws)) (hw : ws = Cond.codeWith y bytes maxL ret hh :: ws') (hrc : rm.cells = mc) (hrs : rm.slots = ms)
    (hd : y.cls = C ∧ y.cls ≠ "java/lang/invoke/MethodHandle" ∧ y.cls ≠ "java/lang/invoke/VarHandle" ∧ (parseMethodDescriptor y.desc).map (fun d => d.parameters.length) = some n) (hR : rm.frames + 1 ≤ R.frames ∧ 8 + (maxL + 11) + rm.locals ≤ R.locals) :
    vx_CVW R s args own C index y bytes maxL ret hh ws rm mc ms n := by
  obtain ⟨hC, hd⟩ := hd
  subst hC
  have ok : ∀ w ∈ wsV own index y.cls y ws, w.before args s = true := fun w h => ht w (hT w h).1
  have hG : GoodIn Ts ws := fun w h => hT w (by unfold wsV; exact List.mem_append_right _ h)
  have hc : Cond.codeWith y bytes maxL ret hh ∈ ws := by rw [hw]; exact List.mem_cons_self
  refine ⟨⟨hrc, hrs, hR.1, hR.2, pay_in ht hG, hc⟩, ht _ (hG _ hc).1, ok _ (by simp [wsV]), ⟨hd.1, hd.2.1⟩, fun sig h => ?_, ok _ (by simp [wsV]), ok _ (by simp [wsV]), ok _ (by simp [wsV])⟩
  have h2 := hd.2.2
  rw [h] at h2
  exact (Option.some.inj h2).symm
theorem vx_runVW {y : MethodName} {bytes cc : ByteArray} {maxL nL mc ms n index : Nat} {ret : Option FieldType} {hh : List (Nat × Nat × Nat × Nat)} {ws : List Cond} {rm : Room} {Pc : Array Value → State → Prop} {Qc : Array Value → State → Outcome → State → Prop} {free : Addr → Prop} {Ts : List Cond} {own C : String} {b : Addr} {As rest : List Value} {g : JFrame}
    (S : CallFix p m c cc nL s args Ts own) (hM : Met l y ws rm Pc Qc mc ms free) (cw : vx_CVW R s args own C index y bytes maxL ret hh ws rm mc ms n) (hp : PreV s H C b Pc As)
    (hg : g.method = m) (hn : As.length = n) (hsize : g.locals.size = nL) (hstack : g.stack = As.reverse ++ .ref b :: rest) (hW : 2 * g.monitorRoom + (rest.map fun v => v.category).sum ≤ 8) (hdg : decode cc g.pc = .ok (.invokevirtual index, 3)) (hf : cells + mc ≤ R.cells ∧ slots + ms ≤ R.slots) :
    va_Run p l e R s m args below meth c H locs cells slots mc ms g rest (Qc (Value.ref b :: As).toArray) free := by
  obtain ⟨⟨hrc, hrs, hfr, hlo, hws, hcw⟩, hcode, hini, hy, hlen, hl, hin, hse⟩ := cw
  have hK : Back l R p e below s args y 3 8 (PreOf R mc ms Pc) (PostOf Qc mc ms free) := va_backW (hh := hh) (bytes := bytes) (maxL := maxL) (ret := ret) hM hp.1 hrc hrs hfr hlo hws hcw (fun a' U hW => word_at hW (Or.inl (by first | rfl | simp [Cond.onTables, Cond.keeps, Cond.steady])) hini)
  obtain ⟨hx, hb, hml, ho, -⟩ := S
  obtain ⟨-, ⟨cellB, hcB, hoB, hclB⟩, hPc⟩ := hp
  intro T hT X
  obtain ⟨v, vm₁, ⟨U', l2, c2, s2⟩, hW₁, X', ⟨g', mk, t, L, e1, e2, hq, h1, hL, h2, h3⟩, st⟩ := vx_callVW X hx (C := C) (hh := hh) (bytes := bytes) (maxL := maxL) (ret := ret) ho hl hin hse hcode hy hK (by rw [hT]; exact hcB) hoB hclB hg (hsize.trans hml.symm) (argsL := As) (rest := rest) (fun sig h => hn.trans (hlen sig h)) hstack hW (by rw [hb]; exact hdg)
    (fun vm₁ hW₁ => ⟨hf.1, hf.2, hPc (T.setVm vm₁) hT hW₁⟩)
  dsimp only [Pt.U, Pt.locs, Pt.cells, Pt.slots] at X' e1 e2 h1 h2 h3 st
  subst h1; subst h2; subst h3
  exact ⟨v, (T.setVm vm₁).calling g' mk (Value.ref b :: As).toArray, t, U', L, hT, X', hL, e1, e2, hq, st⟩
section
variable {y : MethodName} {bytes cc : ByteArray} {maxL nL mc ms n index : Nat} {ret : Option FieldType} {ws : List Cond} {rm : Room} {Pc : Array Value → State → Prop} {Qc : Array Value → State → Outcome → State → Prop} {XC : String → State → State → Prop} {free : Addr → Prop} {Ts : List Cond} {own C : String} {b : Addr} {As rest : List Value} {g : JFrame}
theorem vx_runVX {hh : List (Nat × Nat × Nat × Nat)} (S : CallFix p m c cc nL s args Ts own) (hM : vx_Met l y ws rm Pc Qc XC mc ms free) (cw : vx_CVW R s args own C index y bytes maxL ret hh ws rm mc ms n) (hp : PreV s H C b Pc As)
    (hg : g.method = m) (hn : As.length = n) (hsize : g.locals.size = nL) (hstack : g.stack = As.reverse ++ .ref b :: rest) (hW : 2 * g.monitorRoom + (rest.map fun v => v.category).sum ≤ 8) (hdg : decode cc g.pc = .ok (.invokevirtual index, 3)) (hf : cells + mc ≤ R.cells ∧ slots + ms ≤ R.slots) :
    vx_Run p l e R s m args below meth c H locs cells slots mc ms g rest (Qc (Value.ref b :: As).toArray) XC free := by
  obtain ⟨⟨hrc, hrs, hfr, hlo, hws, hcw⟩, hcode, hini, hy, hlen, hl, hin, hse⟩ := cw
  have hK : vx_Back l R p e below s args y 3 8 (PreOf R mc ms Pc) (PostOf Qc mc ms free) (vx_Post XC mc ms free) := vx_backW (hh := hh) (bytes := bytes) (maxL := maxL) (ret := ret) hM hp.1 hrc hrs hfr hlo hws hcw (fun a' U hW => word_at hW (Or.inl (by first | rfl | simp [Cond.onTables, Cond.keeps, Cond.steady])) hini)
  obtain ⟨hx, hb, hml, ho, -⟩ := S
  obtain ⟨-, ⟨cellB, hcB, hoB, hclB⟩, hPc⟩ := hp
  intro T hT X
  rcases vx_callVX X hx (C := C) (hh := hh) (bytes := bytes) (maxL := maxL) (ret := ret) ho hl hin hse hcode hy hK (by rw [hT]; exact hcB) hoB hclB hg (hsize.trans hml.symm) (argsL := As) (rest := rest) (fun sig h => hn.trans (hlen sig h)) hstack hW (by rw [hb]; exact hdg)
    (fun vm₁ hW₁ => ⟨hf.1, hf.2, hPc (T.setVm vm₁) hT hW₁⟩) with ⟨v, vm₁, ⟨U', l2, c2, s2⟩, hW₁, X', ⟨g', mk, t, L, e1, e2, hq, h1, hL, h2, h3⟩, st⟩ | ⟨q, vm₁, ⟨U', l2, c2, s2⟩, hW₁, X', ⟨g', mk, t, L, E, ce, e1, e2, hq, hce, hcv, hcl, h1, hL, h2, h3⟩, st⟩
  · dsimp only [Pt.U, Pt.locs, Pt.cells, Pt.slots] at X' e1 e2 h1 h2 h3 st
    subst h1; subst h2; subst h3
    exact Or.inl ⟨v, (T.setVm vm₁).calling g' mk (Value.ref b :: As).toArray, t, U', L, hT, X', hL, e1, e2, hq, st⟩
  · dsimp only [Pt.U, Pt.locs, Pt.cells, Pt.slots] at X' e1 e2 h1 h2 h3 st hcl
    subst h1; subst h2; subst h3
    exact Or.inr ⟨q, (T.setVm vm₁).calling g' mk (Value.ref b :: As).toArray, t, U', L, E, ce, hT, X', hL, e1, e2, hq, hce, hcv, vx_cls hW₁ hcl, st⟩
theorem vx_runSX {hh : List (Nat × Nat × Nat × Nat)} (S : CallFix p m c cc nL s args Ts own) (hM : vx_Met l y ws rm Pc Qc XC mc ms free) (cw : vx_CSW R s args own index y bytes maxL ret hh ws rm mc ms n) (hp : PreS s H Pc As)
    (hg : g.method = m) (hn : As.length = n) (hsize : g.locals.size = nL) (hstack : g.stack = As.reverse ++ rest) (hW : 2 * g.monitorRoom + (rest.map fun v => v.category).sum ≤ 8) (hdg : decode cc g.pc = .ok (.invokestatic index, 3)) (hf : cells + mc ≤ R.cells ∧ slots + ms ≤ R.slots) :
    vx_Run p l e R s m args below meth c H locs cells slots mc ms g rest (Qc As.toArray) XC free := by
  obtain ⟨⟨hrc, hrs, hfr, hlo, hws, hcw⟩, hcode, hini, hy, hlen, hl, hstt⟩ := cw
  have hK : vx_Back l R p e below s args y 3 8 (PreOf R mc ms Pc) (PostOf Qc mc ms free) (vx_Post XC mc ms free) := vx_backW (hh := hh) (bytes := bytes) (maxL := maxL) (ret := ret) hM hp.1 hrc hrs hfr hlo hws hcw (fun a' U hW => word_at hW (Or.inl (by first | rfl | simp [Cond.onTables, Cond.keeps, Cond.steady])) hini)
  obtain ⟨hx, hb, hml, ho, -⟩ := S
  intro T hT X
  rcases vx_callSX X hx (hh := hh) (bytes := bytes) (maxL := maxL) (ret := ret) ho hl hstt hini hcode hy hK hg (hsize.trans hml.symm) (argsL := As) (rest := rest) (fun sig h => hn.trans (hlen sig h)) hstack hW (by rw [hb]; exact hdg)
    (fun vm₁ hW₁ => ⟨hf.1, hf.2, hp.2 (T.setVm vm₁) hT hW₁⟩) with ⟨v, vm₁, ⟨U', l2, c2, s2⟩, hW₁, X', ⟨g', mk, t, L, e1, e2, hq, h1, hL, h2, h3⟩, st⟩ | ⟨q, vm₁, ⟨U', l2, c2, s2⟩, hW₁, X', ⟨g', mk, t, L, E, ce, e1, e2, hq, hce, hcv, hcl, h1, hL, h2, h3⟩, st⟩
  · dsimp only [Pt.U, Pt.locs, Pt.cells, Pt.slots] at X' e1 e2 h1 h2 h3 st
    subst h1; subst h2; subst h3
    exact Or.inl ⟨v, (T.setVm vm₁).calling g' mk As.toArray, t, U', L, hT, X', hL, e1, e2, hq, st⟩
  · dsimp only [Pt.U, Pt.locs, Pt.cells, Pt.slots] at X' e1 e2 h1 h2 h3 st hcl
    subst h1; subst h2; subst h3
    exact Or.inr ⟨q, (T.setVm vm₁).calling g' mk As.toArray, t, U', L, E, ce, hT, X', hL, e1, e2, hq, hce, hcv, vx_cls hW₁ hcl, st⟩
end
end VXH
theorem vx_ofWH {l : Launch} {y : MethodName} {ws ws' : List Cond} {rm : Room} {Pc : Array Value → State → Prop} {Qc : Array Value → State → Outcome → State → Prop} {XC : String → State → State → Prop} {mc ms : Nat} {free : Addr → Prop} {cc : ByteArray} {maxL : Nat} {ret : Option FieldType} {hh : List (Nat × Nat × Nat × Nat)}
    (hy : plainName y.cls = true) (hw : ws = Cond.codeWith y cc maxL ret hh :: ws')
    (body : ∀ p e s m args below meth c s₁, BodyLoose p l y (headSpec ws rm) cc maxL ret e s m args below meth c s₁ → c.maxLocals = maxL → Pc args s →
      W p l e (headSpec ws rm).room s m args below meth c s.heap [] 0 0 (vx_MQ below Qc XC args s mc ms free) (entryFrame m args maxL)) : vx_Met l y ws rm Pc Qc XC mc ms free := by
  refine MetFree.of_bodyS (code := cc) (maxLocals := maxL) (ret := ret) hy ?_ ?_
  · intro args s m h hn
    obtain ⟨m9, meth, c, hn9, h1, h2, h3, h4, -, h5, h6, -⟩ := Cond.codeWith_spec (atoms_spec (ws := ws) h _ (by rw [hw]; exact List.mem_cons_self))
    cases hn.symm.trans hn9
    exact ⟨meth, c, h1, h2, h3, h4, h5, h6⟩
  · intro p e s m args below meth c s₁ B hml hP _
    have hh0 : s₁.heap = s.heap := by rw [B.state]; rfl
    obtain ⟨t, a1, o, b1, b2, b3⟩ := body p e s m args below meth c s₁ B hml hP s₁ hh0 (Stand.of_body B)
    exact ⟨t, o, a1, b1, b2, b3⟩
/-! ===== END ===== -/
end
section
/-! ===== BEGIN printed: names, fields, word lists, decode rows ===== -/
def RX0 : String := "KeeperTree$Journal"
def TX0 : u_T := fun k => match k with
  | 0 => ("KeeperTree$Journal", "columns", "[[I", true)
  | 1 => ("KeeperTree$Journal", "time", "I", false)
  | _ => ("KeeperTree$Journal", "size", "I", false)
def tyX0 : Nat → FieldType := fun k => match k with
  | 0 => .array (.array .int)
  | 1 => .int
  | _ => .int
abbrev wsX00 : List Cond := u_ws RX0 TX0 3
theorem nmX0 : ∀ a, a < 3 → ∀ b, b < 3 → a ≠ b → (TX0 a).2.1 ≠ (TX0 b).2.1 := by decide +kernel
theorem tyX0_ok : ∀ k, k < 3 → parseFieldDescriptor (TX0 k).2.2.1 = some (tyX0 k) := by decide +kernel
abbrev cX0_init : ByteArray := prog_2_method_1_code
def yX0_init : MethodName := ⟨RX0, "<init>", "()V"⟩
abbrev cX0_tell : ByteArray := prog_2_method_2_code
def yX0_tell : MethodName := ⟨RX0, "tell", "(III)V"⟩
abbrev cX0_told : ByteArray := prog_2_method_3_code
def yX0_told : MethodName := ⟨RX0, "told", "(II)I"⟩
def RX1 : String := "KeeperTree$Keeper"
def TX1 : u_T := fun k => match k with
  | 0 => ("KeeperTree$Node", "number", "I", true)
  | 1 => ("KeeperTree$Node", "owner", "LKeeperTree$Keeper;", true)
  | 2 => ("KeeperTree$Node", "depth", "I", true)
  | 3 => ("KeeperTree$Node", "kind", "I", true)
  | 4 => ("KeeperTree$Node", "state", "I", false)
  | 5 => ("KeeperTree$Keeper", "row", "Ljava/util/ArrayList;", true)
  | 6 => ("KeeperTree$Keeper", "restarts", "LKeeperTree$RestartTimes;", true)
  | 7 => ("KeeperTree$Keeper", "strategy", "I", false)
  | 8 => ("KeeperTree$Keeper", "\x72", "I", false)
  | _ => ("KeeperTree$Keeper", "t", "I", false)
def tyX1 : Nat → FieldType := fun k => match k with
  | 0 => .int
  | 1 => .object "KeeperTree$Keeper"
  | 2 => .int
  | 3 => .int
  | 4 => .int
  | 5 => .object "java/util/ArrayList"
  | 6 => .object "KeeperTree$RestartTimes"
  | 7 => .int
  | 8 => .int
  | _ => .int
abbrev wsX10 : List Cond := u_ws RX1 TX1 10
theorem nmX1 : ∀ a, a < 10 → ∀ b, b < 10 → a ≠ b → (TX1 a).2.1 ≠ (TX1 b).2.1 := by decide +kernel
theorem tyX1_ok : ∀ k, k < 10 → parseFieldDescriptor (TX1 k).2.2.1 = some (tyX1 k) := by decide +kernel
abbrev cX1_init : ByteArray := prog_3_method_1_code
def yX1_init : MethodName := ⟨RX1, "<init>", "(ILKeeperTree$Keeper;IIII)V"⟩
abbrev cX1_rise : ByteArray := prog_3_method_2_code
def yX1_rise : MethodName := ⟨RX1, "rise", "(LKeeperTree$Journal;)Z"⟩
abbrev cX1_fall : ByteArray := prog_3_method_3_code
def yX1_fall : MethodName := ⟨RX1, "fall", "(LKeeperTree$Journal;)V"⟩
abbrev cX1_perish : ByteArray := prog_3_method_4_code
def yX1_perish : MethodName := ⟨RX1, "perish", "(LKeeperTree$Journal;)I"⟩
abbrev cX1_vanish : ByteArray := prog_3_method_5_code
def yX1_vanish : MethodName := ⟨RX1, "vanish", "()I"⟩
abbrev cX1_placeOf : ByteArray := prog_3_method_6_code
def yX1_placeOf : MethodName := ⟨RX1, "placeOf", "(LKeeperTree$Node;)I"⟩
abbrev cX1_recentRestarts : ByteArray := prog_3_method_7_code
def yX1_recentRestarts : MethodName := ⟨RX1, "recentRestarts", "(I)I"⟩
abbrev cX1_giveUp : ByteArray := prog_3_method_8_code
def yX1_giveUp : MethodName := ⟨RX1, "giveUp", "(LKeeperTree$Journal;)V"⟩
abbrev cX1_release : ByteArray := prog_3_method_9_code
def yX1_release : MethodName := ⟨RX1, "release", "(LKeeperTree$Node;LKeeperTree$Journal;)V"⟩
abbrev cX1_dismiss : ByteArray := prog_3_method_10_code
def yX1_dismiss : MethodName := ⟨RX1, "dismiss", "(LKeeperTree$Node;LKeeperTree$Journal;)I"⟩
abbrev cX1_releaseFrom : ByteArray := prog_3_method_11_code
def yX1_releaseFrom : MethodName := ⟨RX1, "releaseFrom", "(ILKeeperTree$Journal;)V"⟩
abbrev cX1_riseFrom : ByteArray := prog_3_method_12_code
def yX1_riseFrom : MethodName := ⟨RX1, "riseFrom", "(ILKeeperTree$Journal;)LKeeperTree$Node;"⟩
abbrev cX1_fallAll : ByteArray := prog_3_method_13_code
def yX1_fallAll : MethodName := ⟨RX1, "fallAll", "(LKeeperTree$Journal;)V"⟩
def RX2 : String := "KeeperTree$Node"
def TX2 : u_T := fun k => match k with
  | _ => ("", "", "", false)
def tyX2 : Nat → FieldType := fun k => match k with
  | _ => .int
abbrev wsX20 : List Cond := u_ws RX2 TX2 0
theorem nmX2 : ∀ a, a < 0 → ∀ b, b < 0 → a ≠ b → (TX2 a).2.1 ≠ (TX2 b).2.1 := by decide +kernel
theorem tyX2_ok : ∀ k, k < 0 → parseFieldDescriptor (TX2 k).2.2.1 = some (tyX2 k) := by decide +kernel
abbrev cX2_init : ByteArray := prog_4_method_1_code
def yX2_init : MethodName := ⟨RX2, "<init>", "(ILKeeperTree$Keeper;I)V"⟩
abbrev cX2_settle : ByteArray := prog_4_method_3_code
def yX2_settle : MethodName := ⟨RX2, "settle", "(ZLKeeperTree$Journal;)Z"⟩
def RX3 : String := "KeeperTree$RestartTimes"
def TX3 : u_T := fun k => match k with
  | 0 => ("KeeperTree$RestartTimes", "times", "[I", false)
  | _ => ("KeeperTree$RestartTimes", "size", "I", false)
def tyX3 : Nat → FieldType := fun k => match k with
  | 0 => .array .int
  | _ => .int
abbrev wsX30 : List Cond := u_ws RX3 TX3 2
theorem nmX3 : ∀ a, a < 2 → ∀ b, b < 2 → a ≠ b → (TX3 a).2.1 ≠ (TX3 b).2.1 := by decide +kernel
theorem tyX3_ok : ∀ k, k < 2 → parseFieldDescriptor (TX3 k).2.2.1 = some (tyX3 k) := by decide +kernel
abbrev cX3_init : ByteArray := prog_5_method_1_code
def yX3_init : MethodName := ⟨RX3, "<init>", "()V"⟩
abbrev cX3_add : ByteArray := prog_5_method_2_code
def yX3_add : MethodName := ⟨RX3, "add", "(I)V"⟩
abbrev cX3_notBefore : ByteArray := prog_5_method_3_code
def yX3_notBefore : MethodName := ⟨RX3, "notBefore", "(I)I"⟩
abbrev cX3_clear : ByteArray := prog_5_method_4_code
def yX3_clear : MethodName := ⟨RX3, "clear", "()V"⟩
abbrev cX3_makeRoom : ByteArray := prog_5_method_5_code
def yX3_makeRoom : MethodName := ⟨RX3, "makeRoom", "(I)V"⟩
def RX4 : String := "KeeperTree$Worker"
def TX4 : u_T := fun k => match k with
  | 0 => ("KeeperTree$Node", "number", "I", true)
  | 1 => ("KeeperTree$Node", "owner", "LKeeperTree$Keeper;", true)
  | 2 => ("KeeperTree$Node", "depth", "I", true)
  | 3 => ("KeeperTree$Node", "kind", "I", true)
  | 4 => ("KeeperTree$Node", "state", "I", false)
  | 5 => ("KeeperTree$Worker", "patience", "I", true)
  | 6 => ("KeeperTree$Worker", "startUnits", "I", true)
  | 7 => ("KeeperTree$Worker", "stopUnits", "I", true)
  | _ => ("KeeperTree$Worker", "failures", "I", false)
def tyX4 : Nat → FieldType := fun k => match k with
  | 0 => .int
  | 1 => .object "KeeperTree$Keeper"
  | 2 => .int
  | 3 => .int
  | 4 => .int
  | 5 => .int
  | 6 => .int
  | 7 => .int
  | _ => .int
abbrev wsX40 : List Cond := u_ws RX4 TX4 9
theorem nmX4 : ∀ a, a < 9 → ∀ b, b < 9 → a ≠ b → (TX4 a).2.1 ≠ (TX4 b).2.1 := by decide +kernel
theorem tyX4_ok : ∀ k, k < 9 → parseFieldDescriptor (TX4 k).2.2.1 = some (tyX4 k) := by decide +kernel
abbrev cX4_init : ByteArray := prog_6_method_1_code
def yX4_init : MethodName := ⟨RX4, "<init>", "(ILKeeperTree$Keeper;IIIII)V"⟩
abbrev cX4_rise : ByteArray := prog_6_method_2_code
def yX4_rise : MethodName := ⟨RX4, "rise", "(LKeeperTree$Journal;)Z"⟩
abbrev cX4_fall : ByteArray := prog_6_method_3_code
def yX4_fall : MethodName := ⟨RX4, "fall", "(LKeeperTree$Journal;)V"⟩
abbrev cX4_perish : ByteArray := prog_6_method_4_code
def yX4_perish : MethodName := ⟨RX4, "perish", "(LKeeperTree$Journal;)I"⟩
abbrev cX4_vanish : ByteArray := prog_6_method_5_code
def yX4_vanish : MethodName := ⟨RX4, "vanish", "()I"⟩
def RX5 : String := "KeeperTree"
def TX5 : u_T := fun k => match k with
  | 0 => ("KeeperTree", "journal", "LKeeperTree$Journal;", true)
  | 1 => ("KeeperTree", "nodes", "[LKeeperTree$Node;", true)
  | 2 => ("KeeperTree", "top", "LKeeperTree$Keeper;", true)
  | 3 => ("KeeperTree", "made", "I", false)
  | 4 => ("KeeperTree", "restartsInAll", "I", false)
  | _ => ("KeeperTree", "gaveUpInAll", "I", false)
def tyX5 : Nat → FieldType := fun k => match k with
  | 0 => .object "KeeperTree$Journal"
  | 1 => .array (.object "KeeperTree$Node")
  | 2 => .object "KeeperTree$Keeper"
  | 3 => .int
  | 4 => .int
  | _ => .int
abbrev wsX50 : List Cond := u_ws RX5 TX5 6
theorem nmX5 : ∀ a, a < 6 → ∀ b, b < 6 → a ≠ b → (TX5 a).2.1 ≠ (TX5 b).2.1 := by decide +kernel
theorem tyX5_ok : ∀ k, k < 6 → parseFieldDescriptor (TX5 k).2.2.1 = some (tyX5 k) := by decide +kernel
abbrev cX5_init : ByteArray := prog_1_method_1_code
def yX5_init : MethodName := ⟨RX5, "<init>", "()V"⟩
abbrev cX5_first : ByteArray := prog_1_method_2_code
def yX5_first : MethodName := ⟨RX5, "first", "(III)V"⟩
abbrev cX5_keeper : ByteArray := prog_1_method_3_code
def yX5_keeper : MethodName := ⟨RX5, "keeper", "(IIIII)I"⟩
abbrev cX5_worker : ByteArray := prog_1_method_4_code
def yX5_worker : MethodName := ⟨RX5, "worker", "(IIIIII)I"⟩
abbrev cX5_failing : ByteArray := prog_1_method_5_code
def yX5_failing : MethodName := ⟨RX5, "failing", "(II)I"⟩
abbrev cX5_begin : ByteArray := prog_1_method_6_code
def yX5_begin : MethodName := ⟨RX5, "begin", "()Z"⟩
abbrev cX5_ends : ByteArray := prog_1_method_7_code
def yX5_ends : MethodName := ⟨RX5, "ends", "(II)V"⟩
abbrev cX5_kill : ByteArray := prog_1_method_8_code
def yX5_kill : MethodName := ⟨RX5, "kill", "(I)I"⟩
abbrev cX5_stop : ByteArray := prog_1_method_9_code
def yX5_stop : MethodName := ⟨RX5, "stop", "(I)V"⟩
abbrev cX5_again : ByteArray := prog_1_method_10_code
def yX5_again : MethodName := ⟨RX5, "again", "(I)Z"⟩
abbrev cX5_remove : ByteArray := prog_1_method_11_code
def yX5_remove : MethodName := ⟨RX5, "remove", "(I)I"⟩
abbrev cX5_pass : ByteArray := prog_1_method_12_code
def yX5_pass : MethodName := ⟨RX5, "pass", "(I)I"⟩
abbrev cX5_state : ByteArray := prog_1_method_13_code
def yX5_state : MethodName := ⟨RX5, "state", "(I)I"⟩
abbrev cX5_about : ByteArray := prog_1_method_14_code
def yX5_about : MethodName := ⟨RX5, "about", "(II)I"⟩
abbrev cX5_child : ByteArray := prog_1_method_15_code
def yX5_child : MethodName := ⟨RX5, "child", "(II)I"⟩
abbrev cX5_event : ByteArray := prog_1_method_16_code
def yX5_event : MethodName := ⟨RX5, "event", "(II)I"⟩
abbrev cX5_total : ByteArray := prog_1_method_17_code
def yX5_total : MethodName := ⟨RX5, "total", "(I)I"⟩
abbrev cX5_wantWithin : ByteArray := prog_1_method_18_code
def yX5_wantWithin : MethodName := ⟨RX5, "wantWithin", "(III)V"⟩
abbrev cX5_wantBounds : ByteArray := prog_1_method_19_code
def yX5_wantBounds : MethodName := ⟨RX5, "wantBounds", "(III)V"⟩
abbrev cX5_wantState : ByteArray := prog_1_method_20_code
def yX5_wantState : MethodName := ⟨RX5, "wantState", "(Z)V"⟩
abbrev cX5_madeNode : ByteArray := prog_1_method_21_code
def yX5_madeNode : MethodName := ⟨RX5, "madeNode", "(I)LKeeperTree$Node;"⟩
abbrev cX5_nodeAt : ByteArray := prog_1_method_22_code
def yX5_nodeAt : MethodName := ⟨RX5, "nodeAt", "(I)LKeeperTree$Node;"⟩
abbrev cX5_keeperAt : ByteArray := prog_1_method_23_code
def yX5_keeperAt : MethodName := ⟨RX5, "keeperAt", "(I)LKeeperTree$Keeper;"⟩
abbrev cX5_workerAt : ByteArray := prog_1_method_24_code
def yX5_workerAt : MethodName := ⟨RX5, "workerAt", "(I)LKeeperTree$Worker;"⟩
abbrev cX5_ownerOf : ByteArray := prog_1_method_25_code
def yX5_ownerOf : MethodName := ⟨RX5, "ownerOf", "(LKeeperTree$Node;)LKeeperTree$Keeper;"⟩
abbrev cX5_hasRoomBelow : ByteArray := prog_1_method_26_code
def yX5_hasRoomBelow : MethodName := ⟨RX5, "hasRoomBelow", "(LKeeperTree$Keeper;)Z"⟩
abbrev cX5_join : ByteArray := prog_1_method_27_code
def yX5_join : MethodName := ⟨RX5, "join", "(LKeeperTree$Node;LKeeperTree$Keeper;)V"⟩
abbrev cX5_countIn : ByteArray := prog_1_method_28_code
def yX5_countIn : MethodName := ⟨RX5, "countIn", "(I)I"⟩
abbrev cX5_handleEnd : ByteArray := prog_1_method_29_code
def yX5_handleEnd : MethodName := ⟨RX5, "handleEnd", "(LKeeperTree$Node;I)V"⟩
abbrev cX5_restartOrGiveUp : ByteArray := prog_1_method_30_code
def yX5_restartOrGiveUp : MethodName := ⟨RX5, "restartOrGiveUp", "(LKeeperTree$Keeper;LKeeperTree$Node;)Z"⟩
def RX6 : String := "KeeperTreeModel"
def TX6 : u_T := fun k => match k with
  | 0 => ("KeeperTreeModel", "code", "I", false)
  | 1 => ("KeeperTreeModel", "made", "I", false)
  | 2 => ("KeeperTreeModel", "keeps", "[Z", true)
  | 3 => ("KeeperTreeModel", "parent", "[I", true)
  | 4 => ("KeeperTreeModel", "depth", "[I", true)
  | 5 => ("KeeperTreeModel", "state", "[I", true)
  | 6 => ("KeeperTreeModel", "kind", "[I", true)
  | 7 => ("KeeperTreeModel", "strategy", "[I", true)
  | 8 => ("KeeperTreeModel", "bound", "[I", true)
  | 9 => ("KeeperTreeModel", "span", "[I", true)
  | 10 => ("KeeperTreeModel", "patience", "[I", true)
  | 11 => ("KeeperTreeModel", "start", "[I", true)
  | 12 => ("KeeperTreeModel", "stop", "[I", true)
  | 13 => ("KeeperTreeModel", "fails", "[I", true)
  | 14 => ("KeeperTreeModel", "row", "[I", true)
  | 15 => ("KeeperTreeModel", "many", "[I", true)
  | 16 => ("KeeperTreeModel", "times", "[I", true)
  | 17 => ("KeeperTreeModel", "counted", "[I", true)
  | 18 => ("KeeperTreeModel", "time", "I", false)
  | 19 => ("KeeperTreeModel", "events", "I", false)
  | 20 => ("KeeperTreeModel", "event", "[I", true)
  | 21 => ("KeeperTreeModel", "restarts", "I", false)
  | 22 => ("KeeperTreeModel", "gaveUp", "I", false)
  | 23 => ("KeeperTreeModel", "way", "[I", true)
  | _ => ("KeeperTreeModel", "at", "[I", true)
def tyX6 : Nat → FieldType := fun k => match k with
  | 0 => .int
  | 1 => .int
  | 2 => .array .boolean
  | 3 => .array .int
  | 4 => .array .int
  | 5 => .array .int
  | 6 => .array .int
  | 7 => .array .int
  | 8 => .array .int
  | 9 => .array .int
  | 10 => .array .int
  | 11 => .array .int
  | 12 => .array .int
  | 13 => .array .int
  | 14 => .array .int
  | 15 => .array .int
  | 16 => .array .int
  | 17 => .array .int
  | 18 => .int
  | 19 => .int
  | 20 => .array .int
  | 21 => .int
  | 22 => .int
  | 23 => .array .int
  | _ => .array .int
abbrev wsX60 : List Cond := u_ws RX6 TX6 25
theorem nmX6 : ∀ a, a < 25 → ∀ b, b < 25 → a ≠ b → (TX6 a).2.1 ≠ (TX6 b).2.1 := by decide +kernel
theorem tyX6_ok : ∀ k, k < 25 → parseFieldDescriptor (TX6 k).2.2.1 = some (tyX6 k) := by decide +kernel
abbrev cX6_init : ByteArray := prog_8_method_1_code
def yX6_init : MethodName := ⟨RX6, "<init>", "()V"⟩
abbrev cX6_thrown : ByteArray := prog_8_method_2_code
def yX6_thrown : MethodName := ⟨RX6, "thrown", "()I"⟩
abbrev cX6_refuses : ByteArray := prog_8_method_3_code
def yX6_refuses : MethodName := ⟨RX6, "refuses", "(I)Z"⟩
abbrev cX6_isNode : ByteArray := prog_8_method_4_code
def yX6_isNode : MethodName := ⟨RX6, "isNode", "(I)Z"⟩
abbrev cX6_isKeeper : ByteArray := prog_8_method_5_code
def yX6_isKeeper : MethodName := ⟨RX6, "isKeeper", "(I)Z"⟩
abbrev cX6_isWorker : ByteArray := prog_8_method_6_code
def yX6_isWorker : MethodName := ⟨RX6, "isWorker", "(I)Z"⟩
abbrev cX6_in : ByteArray := prog_8_method_7_code
def yX6_in : MethodName := ⟨RX6, "in", "(III)Z"⟩
abbrev cX6_note : ByteArray := prog_8_method_8_code
def yX6_note : MethodName := ⟨RX6, "note", "(III)V"⟩
abbrev cX6_starts : ByteArray := prog_8_method_9_code
def yX6_starts : MethodName := ⟨RX6, "starts", "(I)Z"⟩
abbrev cX6_stopsBelow : ByteArray := prog_8_method_10_code
def yX6_stopsBelow : MethodName := ⟨RX6, "stopsBelow", "(III)V"⟩
abbrev cX6_ceases : ByteArray := prog_8_method_11_code
def yX6_ceases : MethodName := ⟨RX6, "ceases", "(IIZ)I"⟩
abbrev cX6_place : ByteArray := prog_8_method_12_code
def yX6_place : MethodName := ⟨RX6, "place", "(I)I"⟩
abbrev cX6_goes : ByteArray := prog_8_method_13_code
def yX6_goes : MethodName := ⟨RX6, "goes", "(I)I"⟩
abbrev cX6_counts : ByteArray := prog_8_method_14_code
def yX6_counts : MethodName := ⟨RX6, "counts", "(I)Z"⟩
abbrev cX6_handles : ByteArray := prog_8_method_15_code
def yX6_handles : MethodName := ⟨RX6, "handles", "(II)V"⟩
abbrev cX6_restarts : ByteArray := prog_8_method_16_code
def yX6_restarts : MethodName := ⟨RX6, "restarts", "(II)I"⟩
abbrev cX6_isKeeping : ByteArray := prog_8_method_17_code
def yX6_isKeeping : MethodName := ⟨RX6, "isKeeping", "(III)Z"⟩
abbrev cX6_first : ByteArray := prog_8_method_18_code
def yX6_first : MethodName := ⟨RX6, "first", "(III)V"⟩
abbrev cX6_child : ByteArray := prog_8_method_19_code
def yX6_child : MethodName := ⟨RX6, "child", "(IIZ)I"⟩
abbrev cX6_keeper : ByteArray := prog_8_method_20_code
def yX6_keeper : MethodName := ⟨RX6, "keeper", "(IIIII)I"⟩
abbrev cX6_worker : ByteArray := prog_8_method_21_code
def yX6_worker : MethodName := ⟨RX6, "worker", "(IIIIII)I"⟩
abbrev cX6_failing : ByteArray := prog_8_method_22_code
def yX6_failing : MethodName := ⟨RX6, "failing", "(II)I"⟩
abbrev cX6_begin : ByteArray := prog_8_method_23_code
def yX6_begin : MethodName := ⟨RX6, "begin", "()Z"⟩
abbrev cX6_ends : ByteArray := prog_8_method_24_code
def yX6_ends : MethodName := ⟨RX6, "ends", "(II)V"⟩
abbrev cX6_kill : ByteArray := prog_8_method_25_code
def yX6_kill : MethodName := ⟨RX6, "kill", "(I)I"⟩
abbrev cX6_stop : ByteArray := prog_8_method_26_code
def yX6_stop : MethodName := ⟨RX6, "stop", "(I)V"⟩
abbrev cX6_again : ByteArray := prog_8_method_27_code
def yX6_again : MethodName := ⟨RX6, "again", "(I)Z"⟩
abbrev cX6_remove : ByteArray := prog_8_method_28_code
def yX6_remove : MethodName := ⟨RX6, "remove", "(I)I"⟩
abbrev cX6_pass : ByteArray := prog_8_method_29_code
def yX6_pass : MethodName := ⟨RX6, "pass", "(I)I"⟩
abbrev cX6_state : ByteArray := prog_8_method_30_code
def yX6_state : MethodName := ⟨RX6, "state", "(I)I"⟩
abbrev cX6_about : ByteArray := prog_8_method_31_code
def yX6_about : MethodName := ⟨RX6, "about", "(II)I"⟩
abbrev cX6_child_ : ByteArray := prog_8_method_32_code
def yX6_child_ : MethodName := ⟨RX6, "child", "(II)I"⟩
abbrev cX6_event : ByteArray := prog_8_method_33_code
def yX6_event : MethodName := ⟨RX6, "event", "(II)I"⟩
abbrev cX6_total : ByteArray := prog_8_method_34_code
def yX6_total : MethodName := ⟨RX6, "total", "(I)I"⟩
def RJx145de : String := "java/io/Serializable"
def TJx145de : u_T := fun k => match k with
  | _ => ("", "", "", false)
def tyJx145de : Nat → FieldType := fun k => match k with
  | _ => .int
abbrev wsJx145de0 : List Cond := u_ws RJx145de TJx145de 0
theorem nmJx145de : ∀ a, a < 0 → ∀ b, b < 0 → a ≠ b → (TJx145de a).2.1 ≠ (TJx145de b).2.1 := by decide +kernel
theorem tyJx145de_ok : ∀ k, k < 0 → parseFieldDescriptor (TJx145de k).2.2.1 = some (tyJx145de k) := by decide +kernel
def RJx8e188 : String := "java/lang/Cloneable"
def TJx8e188 : u_T := fun k => match k with
  | _ => ("", "", "", false)
def tyJx8e188 : Nat → FieldType := fun k => match k with
  | _ => .int
abbrev wsJx8e1880 : List Cond := u_ws RJx8e188 TJx8e188 0
theorem nmJx8e188 : ∀ a, a < 0 → ∀ b, b < 0 → a ≠ b → (TJx8e188 a).2.1 ≠ (TJx8e188 b).2.1 := by decide +kernel
theorem tyJx8e188_ok : ∀ k, k < 0 → parseFieldDescriptor (TJx8e188 k).2.2.1 = some (tyJx8e188 k) := by decide +kernel
def RJxab1ab : String := "java/lang/Iterable"
def TJxab1ab : u_T := fun k => match k with
  | _ => ("", "", "", false)
def tyJxab1ab : Nat → FieldType := fun k => match k with
  | _ => .int
abbrev wsJxab1ab0 : List Cond := u_ws RJxab1ab TJxab1ab 0
theorem nmJxab1ab : ∀ a, a < 0 → ∀ b, b < 0 → a ≠ b → (TJxab1ab a).2.1 ≠ (TJxab1ab b).2.1 := by decide +kernel
theorem tyJxab1ab_ok : ∀ k, k < 0 → parseFieldDescriptor (TJxab1ab k).2.2.1 = some (tyJxab1ab k) := by decide +kernel
def RJ9 : String := "java/lang/Math"
def TJ9 : u_T := fun k => match k with
  | _ => ("", "", "", false)
def tyJ9 : Nat → FieldType := fun k => match k with
  | _ => .int
abbrev wsJ90 : List Cond := u_ws RJ9 TJ9 0
theorem nmJ9 : ∀ a, a < 0 → ∀ b, b < 0 → a ≠ b → (TJ9 a).2.1 ≠ (TJ9 b).2.1 := by decide +kernel
theorem tyJ9_ok : ∀ k, k < 0 → parseFieldDescriptor (TJ9 k).2.2.1 = some (tyJ9 k) := by decide +kernel
abbrev cJ9_max_7cf53 : ByteArray := prog_15_method_65_code
def yJ9_max_7cf53 : MethodName := ⟨RJ9, "max", "(II)I"⟩
abbrev cJ9_min_7cf53 : ByteArray := prog_15_method_69_code
def yJ9_min_7cf53 : MethodName := ⟨RJ9, "min", "(II)I"⟩
def RJ10 : String := "java/lang/System"
def TJ10 : u_T := fun k => match k with
  | _ => ("", "", "", false)
def tyJ10 : Nat → FieldType := fun k => match k with
  | _ => .int
abbrev wsJ100 : List Cond := u_ws RJ10 TJ10 0
theorem nmJ10 : ∀ a, a < 0 → ∀ b, b < 0 → a ≠ b → (TJ10 a).2.1 ≠ (TJ10 b).2.1 := by decide +kernel
theorem tyJ10_ok : ∀ k, k < 0 → parseFieldDescriptor (TJ10 k).2.2.1 = some (tyJ10 k) := by decide +kernel
def RJxa1e45 : String := "java/util/AbstractCollection"
def TJxa1e45 : u_T := fun k => match k with
  | _ => ("", "", "", false)
def tyJxa1e45 : Nat → FieldType := fun k => match k with
  | _ => .int
abbrev wsJxa1e450 : List Cond := u_ws RJxa1e45 TJxa1e45 0
theorem nmJxa1e45 : ∀ a, a < 0 → ∀ b, b < 0 → a ≠ b → (TJxa1e45 a).2.1 ≠ (TJxa1e45 b).2.1 := by decide +kernel
theorem tyJxa1e45_ok : ∀ k, k < 0 → parseFieldDescriptor (TJxa1e45 k).2.2.1 = some (tyJxa1e45 k) := by decide +kernel
abbrev cJxa1e45_init_da8c8 : ByteArray := prog_19_method_1_code
def yJxa1e45_init_da8c8 : MethodName := ⟨RJxa1e45, "<init>", "()V"⟩
def RJxc12de : String := "java/util/AbstractList"
def TJxc12de : u_T := fun k => match k with
  | _ => ("", "", "", false)
def tyJxc12de : Nat → FieldType := fun k => match k with
  | _ => .int
abbrev wsJxc12de0 : List Cond := u_ws RJxc12de TJxc12de 0
theorem nmJxc12de : ∀ a, a < 0 → ∀ b, b < 0 → a ≠ b → (TJxc12de a).2.1 ≠ (TJxc12de b).2.1 := by decide +kernel
theorem tyJxc12de_ok : ∀ k, k < 0 → parseFieldDescriptor (TJxc12de k).2.2.1 = some (tyJxc12de k) := by decide +kernel
abbrev cJxc12de_init_da8c8 : ByteArray := prog_20_method_1_code
def yJxc12de_init_da8c8 : MethodName := ⟨RJxc12de, "<init>", "()V"⟩
def RJx4a65c : String := "java/util/ArrayList"
def TJx4a65c : u_T := fun k => match k with
  | 0 => ("java/util/AbstractList", "modCount", "I", false)
  | 1 => ("java/util/ArrayList", "elementData", "[Ljava/lang/Object;", false)
  | _ => ("java/util/ArrayList", "size", "I", false)
def tyJx4a65c : Nat → FieldType := fun k => match k with
  | 0 => .int
  | 1 => .array (.object "java/lang/Object")
  | _ => .int
abbrev wsJx4a65c0 : List Cond := u_ws RJx4a65c TJx4a65c 3
theorem nmJx4a65c : ∀ a, a < 3 → ∀ b, b < 3 → a ≠ b → (TJx4a65c a).2.1 ≠ (TJx4a65c b).2.1 := by decide +kernel
theorem tyJx4a65c_ok : ∀ k, k < 3 → parseFieldDescriptor (TJx4a65c k).2.2.1 = some (tyJx4a65c k) := by decide +kernel
abbrev cJx4a65c_init_da8c8 : ByteArray := prog_21_method_2_code
def yJx4a65c_init_da8c8 : MethodName := ⟨RJx4a65c, "<init>", "()V"⟩
abbrev cJx4a65c_grow_92f84 : ByteArray := prog_21_method_6_code
def yJx4a65c_grow_92f84 : MethodName := ⟨RJx4a65c, "grow", "(I)[Ljava/lang/Object;"⟩
abbrev cJx4a65c_grow_d5877 : ByteArray := prog_21_method_7_code
def yJx4a65c_grow_d5877 : MethodName := ⟨RJx4a65c, "grow", "()[Ljava/lang/Object;"⟩
abbrev cJx4a65c_size_8abf5 : ByteArray := prog_21_method_8_code
def yJx4a65c_size_8abf5 : MethodName := ⟨RJx4a65c, "size", "()I"⟩
abbrev cJx4a65c_elementData_915e3 : ByteArray := prog_21_method_18_code
def yJx4a65c_elementData_915e3 : MethodName := ⟨RJx4a65c, "elementData", "(I)Ljava/lang/Object;"⟩
abbrev cJx4a65c_get_915e3 : ByteArray := prog_21_method_20_code
def yJx4a65c_get_915e3 : MethodName := ⟨RJx4a65c, "get", "(I)Ljava/lang/Object;"⟩
abbrev cJx4a65c_add_72be8 : ByteArray := prog_21_method_24_code
def yJx4a65c_add_72be8 : MethodName := ⟨RJx4a65c, "add", "(Ljava/lang/Object;[Ljava/lang/Object;I)V"⟩
abbrev cJx4a65c_add_9ea2d : ByteArray := prog_21_method_25_code
def yJx4a65c_add_9ea2d : MethodName := ⟨RJx4a65c, "add", "(Ljava/lang/Object;)Z"⟩
abbrev cJx4a65c_remove_915e3 : ByteArray := prog_21_method_29_code
def yJx4a65c_remove_915e3 : MethodName := ⟨RJx4a65c, "remove", "(I)Ljava/lang/Object;"⟩
abbrev cJx4a65c_fastRemove_b59b0 : ByteArray := prog_21_method_39_code
def yJx4a65c_fastRemove_b59b0 : MethodName := ⟨RJx4a65c, "fastRemove", "([Ljava/lang/Object;I)V"⟩
def RJ7 : String := "java/util/Arrays"
def TJ7 : u_T := fun k => match k with
  | _ => ("", "", "", false)
def tyJ7 : Nat → FieldType := fun k => match k with
  | _ => .int
abbrev wsJ70 : List Cond := u_ws RJ7 TJ7 0
theorem nmJ7 : ∀ a, a < 0 → ∀ b, b < 0 → a ≠ b → (TJ7 a).2.1 ≠ (TJ7 b).2.1 := by decide +kernel
theorem tyJ7_ok : ∀ k, k < 0 → parseFieldDescriptor (TJ7 k).2.2.1 = some (tyJ7 k) := by decide +kernel
abbrev cJ7_copyOf_1904c : ByteArray := prog_22_method_119_code
def yJ7_copyOf_1904c : MethodName := ⟨RJ7, "copyOf", "([Ljava/lang/Object;I)[Ljava/lang/Object;"⟩
abbrev cJ7_copyOf_6403c : ByteArray := prog_22_method_120_code
def yJ7_copyOf_6403c : MethodName := ⟨RJ7, "copyOf", "([Ljava/lang/Object;ILjava/lang/Class;)[Ljava/lang/Object;"⟩
def RJx5ef63 : String := "java/util/Collection"
def TJx5ef63 : u_T := fun k => match k with
  | _ => ("", "", "", false)
def tyJx5ef63 : Nat → FieldType := fun k => match k with
  | _ => .int
abbrev wsJx5ef630 : List Cond := u_ws RJx5ef63 TJx5ef63 0
theorem nmJx5ef63 : ∀ a, a < 0 → ∀ b, b < 0 → a ≠ b → (TJx5ef63 a).2.1 ≠ (TJx5ef63 b).2.1 := by decide +kernel
theorem tyJx5ef63_ok : ∀ k, k < 0 → parseFieldDescriptor (TJx5ef63 k).2.2.1 = some (tyJx5ef63 k) := by decide +kernel
def RJxbd725 : String := "java/util/List"
def TJxbd725 : u_T := fun k => match k with
  | _ => ("", "", "", false)
def tyJxbd725 : Nat → FieldType := fun k => match k with
  | _ => .int
abbrev wsJxbd7250 : List Cond := u_ws RJxbd725 TJxbd725 0
theorem nmJxbd725 : ∀ a, a < 0 → ∀ b, b < 0 → a ≠ b → (TJxbd725 a).2.1 ≠ (TJxbd725 b).2.1 := by decide +kernel
theorem tyJxbd725_ok : ∀ k, k < 0 → parseFieldDescriptor (TJxbd725 k).2.2.1 = some (tyJxbd725 k) := by decide +kernel
def RJ15 : String := "java/util/Objects"
def TJ15 : u_T := fun k => match k with
  | _ => ("", "", "", false)
def tyJ15 : Nat → FieldType := fun k => match k with
  | _ => .int
abbrev wsJ150 : List Cond := u_ws RJ15 TJ15 0
theorem nmJ15 : ∀ a, a < 0 → ∀ b, b < 0 → a ≠ b → (TJ15 a).2.1 ≠ (TJ15 b).2.1 := by decide +kernel
theorem tyJ15_ok : ∀ k, k < 0 → parseFieldDescriptor (TJ15 k).2.2.1 = some (tyJ15 k) := by decide +kernel
abbrev cJ15_checkIndex_7cf53 : ByteArray := prog_25_method_17_code
def yJ15_checkIndex_7cf53 : MethodName := ⟨RJ15, "checkIndex", "(II)I"⟩
def RJxf0a74 : String := "java/util/RandomAccess"
def TJxf0a74 : u_T := fun k => match k with
  | _ => ("", "", "", false)
def tyJxf0a74 : Nat → FieldType := fun k => match k with
  | _ => .int
abbrev wsJxf0a740 : List Cond := u_ws RJxf0a74 TJxf0a74 0
theorem nmJxf0a74 : ∀ a, a < 0 → ∀ b, b < 0 → a ≠ b → (TJxf0a74 a).2.1 ≠ (TJxf0a74 b).2.1 := by decide +kernel
theorem tyJxf0a74_ok : ∀ k, k < 0 → parseFieldDescriptor (TJxf0a74 k).2.2.1 = some (tyJxf0a74 k) := by decide +kernel
def RJxa66e6 : String := "java/util/SequencedCollection"
def TJxa66e6 : u_T := fun k => match k with
  | _ => ("", "", "", false)
def tyJxa66e6 : Nat → FieldType := fun k => match k with
  | _ => .int
abbrev wsJxa66e60 : List Cond := u_ws RJxa66e6 TJxa66e6 0
theorem nmJxa66e6 : ∀ a, a < 0 → ∀ b, b < 0 → a ≠ b → (TJxa66e6 a).2.1 ≠ (TJxa66e6 b).2.1 := by decide +kernel
theorem tyJxa66e6_ok : ∀ k, k < 0 → parseFieldDescriptor (TJxa66e6 k).2.2.1 = some (tyJxa66e6 k) := by decide +kernel
def RJ8 : String := "jdk/internal/util/ArraysSupport"
def TJ8 : u_T := fun k => match k with
  | _ => ("", "", "", false)
def tyJ8 : Nat → FieldType := fun k => match k with
  | _ => .int
abbrev wsJ80 : List Cond := u_ws RJ8 TJ8 0
theorem nmJ8 : ∀ a, a < 0 → ∀ b, b < 0 → a ≠ b → (TJ8 a).2.1 ≠ (TJ8 b).2.1 := by decide +kernel
theorem tyJ8_ok : ∀ k, k < 0 → parseFieldDescriptor (TJ8 k).2.2.1 = some (tyJ8 k) := by decide +kernel
abbrev cJ8_newLength_cabcc : ByteArray := prog_28_method_27_code
def yJ8_newLength_cabcc : MethodName := ⟨RJ8, "newLength", "(III)I"⟩
abbrev cJ8_hugeLength_7cf53 : ByteArray := prog_28_method_28_code
def yJ8_hugeLength_7cf53 : MethodName := ⟨RJ8, "hugeLength", "(II)I"⟩
def RJ3 : String := "jdk/internal/util/Preconditions"
def TJ3 : u_T := fun k => match k with
  | _ => ("", "", "", false)
def tyJ3 : Nat → FieldType := fun k => match k with
  | _ => .int
abbrev wsJ30 : List Cond := u_ws RJ3 TJ3 0
theorem nmJ3 : ∀ a, a < 0 → ∀ b, b < 0 → a ≠ b → (TJ3 a).2.1 ≠ (TJ3 b).2.1 := by decide +kernel
theorem tyJ3_ok : ∀ k, k < 0 → parseFieldDescriptor (TJ3 k).2.2.1 = some (tyJ3 k) := by decide +kernel
abbrev cJ3_checkIndex_8e157 : ByteArray := prog_29_method_11_code
def yJ3_checkIndex_8e157 : MethodName := ⟨RJ3, "checkIndex", "(IILjava/util/function/BiFunction;)I"⟩
def RL : String := "KeeperTreeLaw"
abbrev cL_first : ByteArray := method_3_code
def yL_first : MethodName := ⟨RL, "first", "(LKeeperTree;III)I"⟩
abbrev cL_keeper : ByteArray := method_4_code
def yL_keeper : MethodName := ⟨RL, "keeper", "(LKeeperTree;IIIII[J)I"⟩
abbrev cL_worker : ByteArray := method_5_code
def yL_worker : MethodName := ⟨RL, "worker", "(LKeeperTree;IIIIII[J)I"⟩
abbrev cL_failing : ByteArray := method_6_code
def yL_failing : MethodName := ⟨RL, "failing", "(LKeeperTree;II[J)I"⟩
abbrev cL_begin : ByteArray := method_7_code
def yL_begin : MethodName := ⟨RL, "begin", "(LKeeperTree;[J)I"⟩
abbrev cL_ends : ByteArray := method_8_code
def yL_ends : MethodName := ⟨RL, "ends", "(LKeeperTree;II)I"⟩
abbrev cL_kill : ByteArray := method_9_code
def yL_kill : MethodName := ⟨RL, "kill", "(LKeeperTree;I[J)I"⟩
abbrev cL_stop : ByteArray := method_10_code
def yL_stop : MethodName := ⟨RL, "stop", "(LKeeperTree;I)I"⟩
abbrev cL_again : ByteArray := method_11_code
def yL_again : MethodName := ⟨RL, "again", "(LKeeperTree;I[J)I"⟩
abbrev cL_remove : ByteArray := method_12_code
def yL_remove : MethodName := ⟨RL, "remove", "(LKeeperTree;I[J)I"⟩
abbrev cL_pass : ByteArray := method_13_code
def yL_pass : MethodName := ⟨RL, "pass", "(LKeeperTree;I[J)I"⟩
abbrev cL_state : ByteArray := method_14_code
def yL_state : MethodName := ⟨RL, "state", "(LKeeperTree;I[J)I"⟩
abbrev cL_about : ByteArray := method_15_code
def yL_about : MethodName := ⟨RL, "about", "(LKeeperTree;II[J)I"⟩
abbrev cL_child : ByteArray := method_16_code
def yL_child : MethodName := ⟨RL, "child", "(LKeeperTree;II[J)I"⟩
abbrev cL_event : ByteArray := method_17_code
def yL_event : MethodName := ⟨RL, "event", "(LKeeperTree;II[J)I"⟩
abbrev cL_total : ByteArray := method_18_code
def yL_total : MethodName := ⟨RL, "total", "(LKeeperTree;I[J)I"⟩
abbrev cL_law : ByteArray := code
def yL_law : MethodName := ⟨RL, "law", "([I)Z"⟩
abbrev vwCl : List vw_C := [(RJx4a65c, TJx4a65c, 3), (RX0, TX0, 3), (RX1, TX1, 10), (RX3, TX3, 2), (RX4, TX4, 9), (RX5, TX5, 6), (RX6, TX6, 25)]
end
section
theorem dX0_init_0 : decode cX0_init 0 = .ok (.aload_n 0, 1) := by decide +kernel
theorem dX0_init_1 : decode cX0_init 1 = .ok (.invokespecial 3, 3) := by decide +kernel
theorem dX0_init_4 : decode cX0_init 4 = .ok (.aload_n 0, 1) := by decide +kernel
theorem dX0_init_5 : decode cX0_init 5 = .ok (.iconst 4, 1) := by decide +kernel
theorem dX0_init_6 : decode cX0_init 6 = .ok (.sipush 600, 3) := by decide +kernel
theorem dX0_init_9 : decode cX0_init 9 = .ok (.multianewarray 11 2, 4) := by decide +kernel
theorem dX0_init_13 : decode cX0_init 13 = .ok (.putfield 13, 3) := by decide +kernel
theorem dX0_init_16 : decode cX0_init 16 = .ok (.aload_n 0, 1) := by decide +kernel
theorem dX0_init_17 : decode cX0_init 17 = .ok (.iconst 0, 1) := by decide +kernel
theorem dX0_init_18 : decode cX0_init 18 = .ok (.putfield 16, 3) := by decide +kernel
theorem dX0_init_21 : decode cX0_init 21 = .ok (.aload_n 0, 1) := by decide +kernel
theorem dX0_init_22 : decode cX0_init 22 = .ok (.iconst 0, 1) := by decide +kernel
theorem dX0_init_23 : decode cX0_init 23 = .ok (.putfield 20, 3) := by decide +kernel
theorem dX0_init_26 : decode cX0_init 26 = .ok (.return_, 1) := by decide +kernel
theorem dX0_tell_0 : decode cX0_tell 0 = .ok (.aload_n 0, 1) := by decide +kernel
theorem dX0_tell_1 : decode cX0_tell 1 = .ok (.getfield 20, 3) := by decide +kernel
theorem dX0_tell_4 : decode cX0_tell 4 = .ok (.sipush 600, 3) := by decide +kernel
theorem dX0_tell_7 : decode cX0_tell 7 = .ok (.if_icmp .ge 54, 3) := by decide +kernel
theorem dX0_tell_10 : decode cX0_tell 10 = .ok (.aload_n 0, 1) := by decide +kernel
theorem dX0_tell_11 : decode cX0_tell 11 = .ok (.getfield 13, 3) := by decide +kernel
theorem dX0_tell_14 : decode cX0_tell 14 = .ok (.iconst 0, 1) := by decide +kernel
theorem dX0_tell_15 : decode cX0_tell 15 = .ok (.aaload, 1) := by decide +kernel
theorem dX0_tell_16 : decode cX0_tell 16 = .ok (.aload_n 0, 1) := by decide +kernel
theorem dX0_tell_17 : decode cX0_tell 17 = .ok (.getfield 20, 3) := by decide +kernel
theorem dX0_tell_20 : decode cX0_tell 20 = .ok (.iload_n 1, 1) := by decide +kernel
theorem dX0_tell_21 : decode cX0_tell 21 = .ok (.iastore, 1) := by decide +kernel
theorem dX0_tell_22 : decode cX0_tell 22 = .ok (.aload_n 0, 1) := by decide +kernel
theorem dX0_tell_23 : decode cX0_tell 23 = .ok (.getfield 13, 3) := by decide +kernel
theorem dX0_tell_26 : decode cX0_tell 26 = .ok (.iconst 1, 1) := by decide +kernel
theorem dX0_tell_27 : decode cX0_tell 27 = .ok (.aaload, 1) := by decide +kernel
theorem dX0_tell_28 : decode cX0_tell 28 = .ok (.aload_n 0, 1) := by decide +kernel
theorem dX0_tell_29 : decode cX0_tell 29 = .ok (.getfield 20, 3) := by decide +kernel
theorem dX0_tell_32 : decode cX0_tell 32 = .ok (.iload_n 2, 1) := by decide +kernel
theorem dX0_tell_33 : decode cX0_tell 33 = .ok (.iastore, 1) := by decide +kernel
theorem dX0_tell_34 : decode cX0_tell 34 = .ok (.aload_n 0, 1) := by decide +kernel
theorem dX0_tell_35 : decode cX0_tell 35 = .ok (.getfield 13, 3) := by decide +kernel
theorem dX0_tell_38 : decode cX0_tell 38 = .ok (.iconst 2, 1) := by decide +kernel
theorem dX0_tell_39 : decode cX0_tell 39 = .ok (.aaload, 1) := by decide +kernel
theorem dX0_tell_40 : decode cX0_tell 40 = .ok (.aload_n 0, 1) := by decide +kernel
theorem dX0_tell_41 : decode cX0_tell 41 = .ok (.getfield 20, 3) := by decide +kernel
theorem dX0_tell_44 : decode cX0_tell 44 = .ok (.aload_n 0, 1) := by decide +kernel
theorem dX0_tell_45 : decode cX0_tell 45 = .ok (.getfield 16, 3) := by decide +kernel
theorem dX0_tell_48 : decode cX0_tell 48 = .ok (.iastore, 1) := by decide +kernel
theorem dX0_tell_49 : decode cX0_tell 49 = .ok (.aload_n 0, 1) := by decide +kernel
theorem dX0_tell_50 : decode cX0_tell 50 = .ok (.getfield 13, 3) := by decide +kernel
theorem dX0_tell_53 : decode cX0_tell 53 = .ok (.iconst 3, 1) := by decide +kernel
theorem dX0_tell_54 : decode cX0_tell 54 = .ok (.aaload, 1) := by decide +kernel
theorem dX0_tell_55 : decode cX0_tell 55 = .ok (.aload_n 0, 1) := by decide +kernel
theorem dX0_tell_56 : decode cX0_tell 56 = .ok (.getfield 20, 3) := by decide +kernel
theorem dX0_tell_59 : decode cX0_tell 59 = .ok (.iload_n 3, 1) := by decide +kernel
theorem dX0_tell_60 : decode cX0_tell 60 = .ok (.iastore, 1) := by decide +kernel
theorem dX0_tell_61 : decode cX0_tell 61 = .ok (.aload_n 0, 1) := by decide +kernel
theorem dX0_tell_62 : decode cX0_tell 62 = .ok (.dup, 1) := by decide +kernel
theorem dX0_tell_63 : decode cX0_tell 63 = .ok (.getfield 20, 3) := by decide +kernel
theorem dX0_tell_66 : decode cX0_tell 66 = .ok (.iconst 1, 1) := by decide +kernel
theorem dX0_tell_67 : decode cX0_tell 67 = .ok (.iadd, 1) := by decide +kernel
theorem dX0_tell_68 : decode cX0_tell 68 = .ok (.putfield 20, 3) := by decide +kernel
theorem dX0_tell_71 : decode cX0_tell 71 = .ok (.return_, 1) := by decide +kernel
theorem dX0_told_0 : decode cX0_told 0 = .ok (.iload_n 1, 1) := by decide +kernel
theorem dX0_told_1 : decode cX0_told 1 = .ok (.ifCond .lt 31, 3) := by decide +kernel
theorem dX0_told_4 : decode cX0_told 4 = .ok (.iload_n 1, 1) := by decide +kernel
theorem dX0_told_5 : decode cX0_told 5 = .ok (.aload_n 0, 1) := by decide +kernel
theorem dX0_told_6 : decode cX0_told 6 = .ok (.getfield 20, 3) := by decide +kernel
theorem dX0_told_9 : decode cX0_told 9 = .ok (.if_icmp .ge 23, 3) := by decide +kernel
theorem dX0_told_12 : decode cX0_told 12 = .ok (.iload_n 1, 1) := by decide +kernel
theorem dX0_told_13 : decode cX0_told 13 = .ok (.sipush 600, 3) := by decide +kernel
theorem dX0_told_16 : decode cX0_told 16 = .ok (.if_icmp .ge 16, 3) := by decide +kernel
theorem dX0_told_19 : decode cX0_told 19 = .ok (.iload_n 2, 1) := by decide +kernel
theorem dX0_told_20 : decode cX0_told 20 = .ok (.ifCond .lt 12, 3) := by decide +kernel
theorem dX0_told_23 : decode cX0_told 23 = .ok (.iload_n 2, 1) := by decide +kernel
theorem dX0_told_24 : decode cX0_told 24 = .ok (.iconst 4, 1) := by decide +kernel
theorem dX0_told_25 : decode cX0_told 25 = .ok (.if_icmp .ge 7, 3) := by decide +kernel
theorem dX0_told_28 : decode cX0_told 28 = .ok (.iconst 1, 1) := by decide +kernel
theorem dX0_told_29 : decode cX0_told 29 = .ok (.goto 4, 3) := by decide +kernel
theorem dX0_told_32 : decode cX0_told 32 = .ok (.iconst 0, 1) := by decide +kernel
theorem dX0_told_33 : decode cX0_told 33 = .ok (.istore_n 3, 1) := by decide +kernel
theorem dX0_told_34 : decode cX0_told 34 = .ok (.iload_n 3, 1) := by decide +kernel
theorem dX0_told_35 : decode cX0_told 35 = .ok (.ifCond .eq 14, 3) := by decide +kernel
theorem dX0_told_38 : decode cX0_told 38 = .ok (.aload_n 0, 1) := by decide +kernel
theorem dX0_told_39 : decode cX0_told 39 = .ok (.getfield 13, 3) := by decide +kernel
theorem dX0_told_42 : decode cX0_told 42 = .ok (.iload_n 2, 1) := by decide +kernel
theorem dX0_told_43 : decode cX0_told 43 = .ok (.aaload, 1) := by decide +kernel
theorem dX0_told_44 : decode cX0_told 44 = .ok (.iload_n 1, 1) := by decide +kernel
theorem dX0_told_45 : decode cX0_told 45 = .ok (.iaload, 1) := by decide +kernel
theorem dX0_told_46 : decode cX0_told 46 = .ok (.goto 4, 3) := by decide +kernel
theorem dX0_told_49 : decode cX0_told 49 = .ok (.iconst (-1), 1) := by decide +kernel
theorem dX0_told_50 : decode cX0_told 50 = .ok (.ireturn, 1) := by decide +kernel
theorem dX1_init_0 : decode cX1_init 0 = .ok (.aload_n 0, 1) := by decide +kernel
theorem dX1_init_1 : decode cX1_init 1 = .ok (.iload_n 1, 1) := by decide +kernel
theorem dX1_init_2 : decode cX1_init 2 = .ok (.aload_n 2, 1) := by decide +kernel
theorem dX1_init_3 : decode cX1_init 3 = .ok (.iload_n 3, 1) := by decide +kernel
theorem dX1_init_4 : decode cX1_init 4 = .ok (.invokespecial 3, 3) := by decide +kernel
theorem dX1_init_7 : decode cX1_init 7 = .ok (.aload_n 0, 1) := by decide +kernel
theorem dX1_init_8 : decode cX1_init 8 = .ok (.new 9, 3) := by decide +kernel
theorem dX1_init_11 : decode cX1_init 11 = .ok (.dup, 1) := by decide +kernel
theorem dX1_init_12 : decode cX1_init 12 = .ok (.invokespecial 11, 3) := by decide +kernel
theorem dX1_init_15 : decode cX1_init 15 = .ok (.putfield 14, 3) := by decide +kernel
theorem dX1_init_18 : decode cX1_init 18 = .ok (.aload_n 0, 1) := by decide +kernel
theorem dX1_init_19 : decode cX1_init 19 = .ok (.new 20, 3) := by decide +kernel
theorem dX1_init_22 : decode cX1_init 22 = .ok (.dup, 1) := by decide +kernel
theorem dX1_init_23 : decode cX1_init 23 = .ok (.invokespecial 22, 3) := by decide +kernel
theorem dX1_init_26 : decode cX1_init 26 = .ok (.putfield 23, 3) := by decide +kernel
theorem dX1_init_29 : decode cX1_init 29 = .ok (.aload_n 0, 1) := by decide +kernel
theorem dX1_init_30 : decode cX1_init 30 = .ok (.iload 4, 2) := by decide +kernel
theorem dX1_init_32 : decode cX1_init 32 = .ok (.putfield 27, 3) := by decide +kernel
theorem dX1_init_35 : decode cX1_init 35 = .ok (.aload_n 0, 1) := by decide +kernel
theorem dX1_init_36 : decode cX1_init 36 = .ok (.iload 5, 2) := by decide +kernel
theorem dX1_init_38 : decode cX1_init 38 = .ok (.putfield 31, 3) := by decide +kernel
theorem dX1_init_41 : decode cX1_init 41 = .ok (.aload_n 0, 1) := by decide +kernel
theorem dX1_init_42 : decode cX1_init 42 = .ok (.iload 6, 2) := by decide +kernel
theorem dX1_init_44 : decode cX1_init 44 = .ok (.putfield 34, 3) := by decide +kernel
theorem dX1_init_47 : decode cX1_init 47 = .ok (.return_, 1) := by decide +kernel
theorem dX1_rise_0 : decode cX1_rise 0 = .ok (.aload_n 0, 1) := by decide +kernel
theorem dX1_rise_1 : decode cX1_rise 1 = .ok (.getfield 23, 3) := by decide +kernel
theorem dX1_rise_4 : decode cX1_rise 4 = .ok (.invokevirtual 37, 3) := by decide +kernel
theorem dX1_rise_7 : decode cX1_rise 7 = .ok (.aload_n 0, 1) := by decide +kernel
theorem dX1_rise_8 : decode cX1_rise 8 = .ok (.iconst 0, 1) := by decide +kernel
theorem dX1_rise_9 : decode cX1_rise 9 = .ok (.aload_n 1, 1) := by decide +kernel
theorem dX1_rise_10 : decode cX1_rise 10 = .ok (.invokevirtual 40, 3) := by decide +kernel
theorem dX1_rise_13 : decode cX1_rise 13 = .ok (.ifnull 7, 3) := by decide +kernel
theorem dX1_rise_16 : decode cX1_rise 16 = .ok (.iconst 1, 1) := by decide +kernel
theorem dX1_rise_17 : decode cX1_rise 17 = .ok (.goto 4, 3) := by decide +kernel
theorem dX1_rise_20 : decode cX1_rise 20 = .ok (.iconst 0, 1) := by decide +kernel
theorem dX1_rise_21 : decode cX1_rise 21 = .ok (.istore_n 2, 1) := by decide +kernel
theorem dX1_rise_22 : decode cX1_rise 22 = .ok (.iload_n 2, 1) := by decide +kernel
theorem dX1_rise_23 : decode cX1_rise 23 = .ok (.ifCond .eq 8, 3) := by decide +kernel
theorem dX1_rise_26 : decode cX1_rise 26 = .ok (.aload_n 0, 1) := by decide +kernel
theorem dX1_rise_27 : decode cX1_rise 27 = .ok (.aload_n 1, 1) := by decide +kernel
theorem dX1_rise_28 : decode cX1_rise 28 = .ok (.invokevirtual 44, 3) := by decide +kernel
theorem dX1_rise_31 : decode cX1_rise 31 = .ok (.aload_n 0, 1) := by decide +kernel
theorem dX1_rise_32 : decode cX1_rise 32 = .ok (.iload_n 2, 1) := by decide +kernel
theorem dX1_rise_33 : decode cX1_rise 33 = .ok (.aload_n 1, 1) := by decide +kernel
theorem dX1_rise_34 : decode cX1_rise 34 = .ok (.invokevirtual 48, 3) := by decide +kernel
theorem dX1_rise_37 : decode cX1_rise 37 = .ok (.ireturn, 1) := by decide +kernel
theorem dX1_fall_0 : decode cX1_fall 0 = .ok (.aload_n 0, 1) := by decide +kernel
theorem dX1_fall_1 : decode cX1_fall 1 = .ok (.aload_n 1, 1) := by decide +kernel
theorem dX1_fall_2 : decode cX1_fall 2 = .ok (.invokevirtual 44, 3) := by decide +kernel
theorem dX1_fall_5 : decode cX1_fall 5 = .ok (.aload_n 0, 1) := by decide +kernel
theorem dX1_fall_6 : decode cX1_fall 6 = .ok (.iconst 0, 1) := by decide +kernel
theorem dX1_fall_7 : decode cX1_fall 7 = .ok (.putfield 52, 3) := by decide +kernel
theorem dX1_fall_10 : decode cX1_fall 10 = .ok (.aload_n 1, 1) := by decide +kernel
theorem dX1_fall_11 : decode cX1_fall 11 = .ok (.iconst 3, 1) := by decide +kernel
theorem dX1_fall_12 : decode cX1_fall 12 = .ok (.aload_n 0, 1) := by decide +kernel
theorem dX1_fall_13 : decode cX1_fall 13 = .ok (.getfield 55, 3) := by decide +kernel
theorem dX1_fall_16 : decode cX1_fall 16 = .ok (.iconst 0, 1) := by decide +kernel
theorem dX1_fall_17 : decode cX1_fall 17 = .ok (.invokevirtual 58, 3) := by decide +kernel
theorem dX1_fall_20 : decode cX1_fall 20 = .ok (.return_, 1) := by decide +kernel
theorem dX1_perish_0 : decode cX1_perish 0 = .ok (.iconst 1, 1) := by decide +kernel
theorem dX1_perish_1 : decode cX1_perish 1 = .ok (.istore_n 2, 1) := by decide +kernel
theorem dX1_perish_2 : decode cX1_perish 2 = .ok (.aload_n 0, 1) := by decide +kernel
theorem dX1_perish_3 : decode cX1_perish 3 = .ok (.getfield 14, 3) := by decide +kernel
theorem dX1_perish_6 : decode cX1_perish 6 = .ok (.invokevirtual 64, 3) := by decide +kernel
theorem dX1_perish_9 : decode cX1_perish 9 = .ok (.iconst 1, 1) := by decide +kernel
theorem dX1_perish_10 : decode cX1_perish 10 = .ok (.isub, 1) := by decide +kernel
theorem dX1_perish_11 : decode cX1_perish 11 = .ok (.istore_n 3, 1) := by decide +kernel
theorem dX1_perish_12 : decode cX1_perish 12 = .ok (.iload_n 3, 1) := by decide +kernel
theorem dX1_perish_13 : decode cX1_perish 13 = .ok (.ifCond .lt 40, 3) := by decide +kernel
theorem dX1_perish_16 : decode cX1_perish 16 = .ok (.aload_n 0, 1) := by decide +kernel
theorem dX1_perish_17 : decode cX1_perish 17 = .ok (.getfield 14, 3) := by decide +kernel
theorem dX1_perish_20 : decode cX1_perish 20 = .ok (.iload_n 3, 1) := by decide +kernel
theorem dX1_perish_21 : decode cX1_perish 21 = .ok (.invokevirtual 68, 3) := by decide +kernel
theorem dX1_perish_24 : decode cX1_perish 24 = .ok (.checkcast 4, 3) := by decide +kernel
theorem dX1_perish_27 : decode cX1_perish 27 = .ok (.astore 4, 2) := by decide +kernel
theorem dX1_perish_29 : decode cX1_perish 29 = .ok (.aload 4, 2) := by decide +kernel
theorem dX1_perish_31 : decode cX1_perish 31 = .ok (.getfield 72, 3) := by decide +kernel
theorem dX1_perish_34 : decode cX1_perish 34 = .ok (.iconst 1, 1) := by decide +kernel
theorem dX1_perish_35 : decode cX1_perish 35 = .ok (.if_icmp .ne 12, 3) := by decide +kernel
theorem dX1_perish_38 : decode cX1_perish 38 = .ok (.iload_n 2, 1) := by decide +kernel
theorem dX1_perish_39 : decode cX1_perish 39 = .ok (.aload 4, 2) := by decide +kernel
theorem dX1_perish_41 : decode cX1_perish 41 = .ok (.aload_n 1, 1) := by decide +kernel
theorem dX1_perish_42 : decode cX1_perish 42 = .ok (.invokevirtual 73, 3) := by decide +kernel
theorem dX1_perish_45 : decode cX1_perish 45 = .ok (.iadd, 1) := by decide +kernel
theorem dX1_perish_46 : decode cX1_perish 46 = .ok (.istore_n 2, 1) := by decide +kernel
theorem dX1_perish_47 : decode cX1_perish 47 = .ok (.iinc 3 (-1), 3) := by decide +kernel
theorem dX1_perish_50 : decode cX1_perish 50 = .ok (.goto (-38), 3) := by decide +kernel
theorem dX1_perish_53 : decode cX1_perish 53 = .ok (.aload_n 0, 1) := by decide +kernel
theorem dX1_perish_54 : decode cX1_perish 54 = .ok (.iconst 0, 1) := by decide +kernel
theorem dX1_perish_55 : decode cX1_perish 55 = .ok (.putfield 52, 3) := by decide +kernel
theorem dX1_perish_58 : decode cX1_perish 58 = .ok (.aload_n 1, 1) := by decide +kernel
theorem dX1_perish_59 : decode cX1_perish 59 = .ok (.iconst 4, 1) := by decide +kernel
theorem dX1_perish_60 : decode cX1_perish 60 = .ok (.aload_n 0, 1) := by decide +kernel
theorem dX1_perish_61 : decode cX1_perish 61 = .ok (.getfield 55, 3) := by decide +kernel
theorem dX1_perish_64 : decode cX1_perish 64 = .ok (.iconst 0, 1) := by decide +kernel
theorem dX1_perish_65 : decode cX1_perish 65 = .ok (.invokevirtual 58, 3) := by decide +kernel
theorem dX1_perish_68 : decode cX1_perish 68 = .ok (.iload_n 2, 1) := by decide +kernel
theorem dX1_perish_69 : decode cX1_perish 69 = .ok (.ireturn, 1) := by decide +kernel
theorem dX1_vanish_0 : decode cX1_vanish 0 = .ok (.aload_n 0, 1) := by decide +kernel
theorem dX1_vanish_1 : decode cX1_vanish 1 = .ok (.iconst 2, 1) := by decide +kernel
theorem dX1_vanish_2 : decode cX1_vanish 2 = .ok (.putfield 52, 3) := by decide +kernel
theorem dX1_vanish_5 : decode cX1_vanish 5 = .ok (.iconst 1, 1) := by decide +kernel
theorem dX1_vanish_6 : decode cX1_vanish 6 = .ok (.istore_n 1, 1) := by decide +kernel
theorem dX1_vanish_7 : decode cX1_vanish 7 = .ok (.iconst 0, 1) := by decide +kernel
theorem dX1_vanish_8 : decode cX1_vanish 8 = .ok (.istore_n 2, 1) := by decide +kernel
theorem dX1_vanish_9 : decode cX1_vanish 9 = .ok (.iload_n 2, 1) := by decide +kernel
theorem dX1_vanish_10 : decode cX1_vanish 10 = .ok (.aload_n 0, 1) := by decide +kernel
theorem dX1_vanish_11 : decode cX1_vanish 11 = .ok (.getfield 14, 3) := by decide +kernel
theorem dX1_vanish_14 : decode cX1_vanish 14 = .ok (.invokevirtual 64, 3) := by decide +kernel
theorem dX1_vanish_17 : decode cX1_vanish 17 = .ok (.if_icmp .ge 26, 3) := by decide +kernel
theorem dX1_vanish_20 : decode cX1_vanish 20 = .ok (.iload_n 1, 1) := by decide +kernel
theorem dX1_vanish_21 : decode cX1_vanish 21 = .ok (.aload_n 0, 1) := by decide +kernel
theorem dX1_vanish_22 : decode cX1_vanish 22 = .ok (.getfield 14, 3) := by decide +kernel
theorem dX1_vanish_25 : decode cX1_vanish 25 = .ok (.iload_n 2, 1) := by decide +kernel
theorem dX1_vanish_26 : decode cX1_vanish 26 = .ok (.invokevirtual 68, 3) := by decide +kernel
theorem dX1_vanish_29 : decode cX1_vanish 29 = .ok (.checkcast 4, 3) := by decide +kernel
theorem dX1_vanish_32 : decode cX1_vanish 32 = .ok (.invokevirtual 77, 3) := by decide +kernel
theorem dX1_vanish_35 : decode cX1_vanish 35 = .ok (.iadd, 1) := by decide +kernel
theorem dX1_vanish_36 : decode cX1_vanish 36 = .ok (.istore_n 1, 1) := by decide +kernel
theorem dX1_vanish_37 : decode cX1_vanish 37 = .ok (.iinc 2 1, 3) := by decide +kernel
theorem dX1_vanish_40 : decode cX1_vanish 40 = .ok (.goto (-31), 3) := by decide +kernel
theorem dX1_vanish_43 : decode cX1_vanish 43 = .ok (.iload_n 1, 1) := by decide +kernel
theorem dX1_vanish_44 : decode cX1_vanish 44 = .ok (.ireturn, 1) := by decide +kernel
theorem dX1_placeOf_0 : decode cX1_placeOf 0 = .ok (.iconst 0, 1) := by decide +kernel
theorem dX1_placeOf_1 : decode cX1_placeOf 1 = .ok (.istore_n 2, 1) := by decide +kernel
theorem dX1_placeOf_2 : decode cX1_placeOf 2 = .ok (.iload_n 2, 1) := by decide +kernel
theorem dX1_placeOf_3 : decode cX1_placeOf 3 = .ok (.aload_n 0, 1) := by decide +kernel
theorem dX1_placeOf_4 : decode cX1_placeOf 4 = .ok (.getfield 14, 3) := by decide +kernel
theorem dX1_placeOf_7 : decode cX1_placeOf 7 = .ok (.invokevirtual 64, 3) := by decide +kernel
theorem dX1_placeOf_10 : decode cX1_placeOf 10 = .ok (.if_icmp .ge 23, 3) := by decide +kernel
theorem dX1_placeOf_13 : decode cX1_placeOf 13 = .ok (.aload_n 0, 1) := by decide +kernel
theorem dX1_placeOf_14 : decode cX1_placeOf 14 = .ok (.getfield 14, 3) := by decide +kernel
theorem dX1_placeOf_17 : decode cX1_placeOf 17 = .ok (.iload_n 2, 1) := by decide +kernel
theorem dX1_placeOf_18 : decode cX1_placeOf 18 = .ok (.invokevirtual 68, 3) := by decide +kernel
theorem dX1_placeOf_21 : decode cX1_placeOf 21 = .ok (.aload_n 1, 1) := by decide +kernel
theorem dX1_placeOf_22 : decode cX1_placeOf 22 = .ok (.if_acmp .ne 5, 3) := by decide +kernel
theorem dX1_placeOf_25 : decode cX1_placeOf 25 = .ok (.iload_n 2, 1) := by decide +kernel
theorem dX1_placeOf_26 : decode cX1_placeOf 26 = .ok (.ireturn, 1) := by decide +kernel
theorem dX1_placeOf_27 : decode cX1_placeOf 27 = .ok (.iinc 2 1, 3) := by decide +kernel
theorem dX1_placeOf_30 : decode cX1_placeOf 30 = .ok (.goto (-28), 3) := by decide +kernel
theorem dX1_placeOf_33 : decode cX1_placeOf 33 = .ok (.iconst (-1), 1) := by decide +kernel
theorem dX1_placeOf_34 : decode cX1_placeOf 34 = .ok (.ireturn, 1) := by decide +kernel
theorem dX1_recentRestarts_0 : decode cX1_recentRestarts 0 = .ok (.aload_n 0, 1) := by decide +kernel
theorem dX1_recentRestarts_1 : decode cX1_recentRestarts 1 = .ok (.getfield 23, 3) := by decide +kernel
theorem dX1_recentRestarts_4 : decode cX1_recentRestarts 4 = .ok (.iload_n 1, 1) := by decide +kernel
theorem dX1_recentRestarts_5 : decode cX1_recentRestarts 5 = .ok (.aload_n 0, 1) := by decide +kernel
theorem dX1_recentRestarts_6 : decode cX1_recentRestarts 6 = .ok (.getfield 34, 3) := by decide +kernel
theorem dX1_recentRestarts_9 : decode cX1_recentRestarts 9 = .ok (.isub, 1) := by decide +kernel
theorem dX1_recentRestarts_10 : decode cX1_recentRestarts 10 = .ok (.invokevirtual 80, 3) := by decide +kernel
theorem dX1_recentRestarts_13 : decode cX1_recentRestarts 13 = .ok (.ireturn, 1) := by decide +kernel
theorem dX1_giveUp_0 : decode cX1_giveUp 0 = .ok (.aload_n 1, 1) := by decide +kernel
theorem dX1_giveUp_1 : decode cX1_giveUp 1 = .ok (.bipush 6, 2) := by decide +kernel
theorem dX1_giveUp_3 : decode cX1_giveUp 3 = .ok (.aload_n 0, 1) := by decide +kernel
theorem dX1_giveUp_4 : decode cX1_giveUp 4 = .ok (.getfield 55, 3) := by decide +kernel
theorem dX1_giveUp_7 : decode cX1_giveUp 7 = .ok (.iconst 0, 1) := by decide +kernel
theorem dX1_giveUp_8 : decode cX1_giveUp 8 = .ok (.invokevirtual 58, 3) := by decide +kernel
theorem dX1_giveUp_11 : decode cX1_giveUp 11 = .ok (.aload_n 0, 1) := by decide +kernel
theorem dX1_giveUp_12 : decode cX1_giveUp 12 = .ok (.aload_n 1, 1) := by decide +kernel
theorem dX1_giveUp_13 : decode cX1_giveUp 13 = .ok (.invokevirtual 44, 3) := by decide +kernel
theorem dX1_giveUp_16 : decode cX1_giveUp 16 = .ok (.aload_n 0, 1) := by decide +kernel
theorem dX1_giveUp_17 : decode cX1_giveUp 17 = .ok (.iconst 0, 1) := by decide +kernel
theorem dX1_giveUp_18 : decode cX1_giveUp 18 = .ok (.putfield 52, 3) := by decide +kernel
theorem dX1_giveUp_21 : decode cX1_giveUp 21 = .ok (.return_, 1) := by decide +kernel
theorem dX1_release_0 : decode cX1_release 0 = .ok (.aload_n 1, 1) := by decide +kernel
theorem dX1_release_1 : decode cX1_release 1 = .ok (.aload_n 2, 1) := by decide +kernel
theorem dX1_release_2 : decode cX1_release 2 = .ok (.invokevirtual 84, 3) := by decide +kernel
theorem dX1_release_5 : decode cX1_release 5 = .ok (.aload_n 1, 1) := by decide +kernel
theorem dX1_release_6 : decode cX1_release 6 = .ok (.getfield 87, 3) := by decide +kernel
theorem dX1_release_9 : decode cX1_release 9 = .ok (.iconst 2, 1) := by decide +kernel
theorem dX1_release_10 : decode cX1_release 10 = .ok (.if_icmp .ne 10, 3) := by decide +kernel
theorem dX1_release_13 : decode cX1_release 13 = .ok (.aload_n 0, 1) := by decide +kernel
theorem dX1_release_14 : decode cX1_release 14 = .ok (.aload_n 1, 1) := by decide +kernel
theorem dX1_release_15 : decode cX1_release 15 = .ok (.aload_n 2, 1) := by decide +kernel
theorem dX1_release_16 : decode cX1_release 16 = .ok (.invokevirtual 90, 3) := by decide +kernel
theorem dX1_release_19 : decode cX1_release 19 = .ok (.pop, 1) := by decide +kernel
theorem dX1_release_20 : decode cX1_release 20 = .ok (.return_, 1) := by decide +kernel
theorem dX1_dismiss_0 : decode cX1_dismiss 0 = .ok (.aload_n 0, 1) := by decide +kernel
theorem dX1_dismiss_1 : decode cX1_dismiss 1 = .ok (.aload_n 1, 1) := by decide +kernel
theorem dX1_dismiss_2 : decode cX1_dismiss 2 = .ok (.invokevirtual 94, 3) := by decide +kernel
theorem dX1_dismiss_5 : decode cX1_dismiss 5 = .ok (.istore_n 3, 1) := by decide +kernel
theorem dX1_dismiss_6 : decode cX1_dismiss 6 = .ok (.iload_n 3, 1) := by decide +kernel
theorem dX1_dismiss_7 : decode cX1_dismiss 7 = .ok (.ifCond .lt 23, 3) := by decide +kernel
theorem dX1_dismiss_10 : decode cX1_dismiss 10 = .ok (.iload_n 3, 1) := by decide +kernel
theorem dX1_dismiss_11 : decode cX1_dismiss 11 = .ok (.aload_n 0, 1) := by decide +kernel
theorem dX1_dismiss_12 : decode cX1_dismiss 12 = .ok (.getfield 14, 3) := by decide +kernel
theorem dX1_dismiss_15 : decode cX1_dismiss 15 = .ok (.invokevirtual 64, 3) := by decide +kernel
theorem dX1_dismiss_18 : decode cX1_dismiss 18 = .ok (.if_icmp .ge 12, 3) := by decide +kernel
theorem dX1_dismiss_21 : decode cX1_dismiss 21 = .ok (.aload_n 0, 1) := by decide +kernel
theorem dX1_dismiss_22 : decode cX1_dismiss 22 = .ok (.getfield 14, 3) := by decide +kernel
theorem dX1_dismiss_25 : decode cX1_dismiss 25 = .ok (.iload_n 3, 1) := by decide +kernel
theorem dX1_dismiss_26 : decode cX1_dismiss 26 = .ok (.invokevirtual 98, 3) := by decide +kernel
theorem dX1_dismiss_29 : decode cX1_dismiss 29 = .ok (.pop, 1) := by decide +kernel
theorem dX1_dismiss_30 : decode cX1_dismiss 30 = .ok (.aload_n 2, 1) := by decide +kernel
theorem dX1_dismiss_31 : decode cX1_dismiss 31 = .ok (.bipush 7, 2) := by decide +kernel
theorem dX1_dismiss_33 : decode cX1_dismiss 33 = .ok (.aload_n 1, 1) := by decide +kernel
theorem dX1_dismiss_34 : decode cX1_dismiss 34 = .ok (.getfield 101, 3) := by decide +kernel
theorem dX1_dismiss_37 : decode cX1_dismiss 37 = .ok (.iconst 0, 1) := by decide +kernel
theorem dX1_dismiss_38 : decode cX1_dismiss 38 = .ok (.invokevirtual 58, 3) := by decide +kernel
theorem dX1_dismiss_41 : decode cX1_dismiss 41 = .ok (.aload_n 1, 1) := by decide +kernel
theorem dX1_dismiss_42 : decode cX1_dismiss 42 = .ok (.invokevirtual 77, 3) := by decide +kernel
theorem dX1_dismiss_45 : decode cX1_dismiss 45 = .ok (.ireturn, 1) := by decide +kernel
theorem dX1_releaseFrom_0 : decode cX1_releaseFrom 0 = .ok (.aload_n 0, 1) := by decide +kernel
theorem dX1_releaseFrom_1 : decode cX1_releaseFrom 1 = .ok (.getfield 14, 3) := by decide +kernel
theorem dX1_releaseFrom_4 : decode cX1_releaseFrom 4 = .ok (.invokevirtual 64, 3) := by decide +kernel
theorem dX1_releaseFrom_7 : decode cX1_releaseFrom 7 = .ok (.iconst 1, 1) := by decide +kernel
theorem dX1_releaseFrom_8 : decode cX1_releaseFrom 8 = .ok (.isub, 1) := by decide +kernel
theorem dX1_releaseFrom_9 : decode cX1_releaseFrom 9 = .ok (.istore_n 3, 1) := by decide +kernel
theorem dX1_releaseFrom_10 : decode cX1_releaseFrom 10 = .ok (.iload_n 3, 1) := by decide +kernel
theorem dX1_releaseFrom_11 : decode cX1_releaseFrom 11 = .ok (.ifCond .lt 43, 3) := by decide +kernel
theorem dX1_releaseFrom_14 : decode cX1_releaseFrom 14 = .ok (.iload_n 3, 1) := by decide +kernel
theorem dX1_releaseFrom_15 : decode cX1_releaseFrom 15 = .ok (.iload_n 1, 1) := by decide +kernel
theorem dX1_releaseFrom_16 : decode cX1_releaseFrom 16 = .ok (.if_icmp .lt 38, 3) := by decide +kernel
theorem dX1_releaseFrom_19 : decode cX1_releaseFrom 19 = .ok (.aload_n 0, 1) := by decide +kernel
theorem dX1_releaseFrom_20 : decode cX1_releaseFrom 20 = .ok (.getfield 14, 3) := by decide +kernel
theorem dX1_releaseFrom_23 : decode cX1_releaseFrom 23 = .ok (.iload_n 3, 1) := by decide +kernel
theorem dX1_releaseFrom_24 : decode cX1_releaseFrom 24 = .ok (.invokevirtual 68, 3) := by decide +kernel
theorem dX1_releaseFrom_27 : decode cX1_releaseFrom 27 = .ok (.checkcast 4, 3) := by decide +kernel
theorem dX1_releaseFrom_30 : decode cX1_releaseFrom 30 = .ok (.astore 4, 2) := by decide +kernel
theorem dX1_releaseFrom_32 : decode cX1_releaseFrom 32 = .ok (.aload 4, 2) := by decide +kernel
theorem dX1_releaseFrom_34 : decode cX1_releaseFrom 34 = .ok (.getfield 72, 3) := by decide +kernel
theorem dX1_releaseFrom_37 : decode cX1_releaseFrom 37 = .ok (.iconst 1, 1) := by decide +kernel
theorem dX1_releaseFrom_38 : decode cX1_releaseFrom 38 = .ok (.if_icmp .ne 10, 3) := by decide +kernel
theorem dX1_releaseFrom_41 : decode cX1_releaseFrom 41 = .ok (.aload_n 0, 1) := by decide +kernel
theorem dX1_releaseFrom_42 : decode cX1_releaseFrom 42 = .ok (.aload 4, 2) := by decide +kernel
theorem dX1_releaseFrom_44 : decode cX1_releaseFrom 44 = .ok (.aload_n 2, 1) := by decide +kernel
theorem dX1_releaseFrom_45 : decode cX1_releaseFrom 45 = .ok (.invokevirtual 102, 3) := by decide +kernel
theorem dX1_releaseFrom_48 : decode cX1_releaseFrom 48 = .ok (.iinc 3 (-1), 3) := by decide +kernel
theorem dX1_releaseFrom_51 : decode cX1_releaseFrom 51 = .ok (.goto (-41), 3) := by decide +kernel
theorem dX1_releaseFrom_54 : decode cX1_releaseFrom 54 = .ok (.return_, 1) := by decide +kernel
theorem dX1_riseFrom_0 : decode cX1_riseFrom 0 = .ok (.iconst 0, 1) := by decide +kernel
theorem dX1_riseFrom_1 : decode cX1_riseFrom 1 = .ok (.iload_n 1, 1) := by decide +kernel
theorem dX1_riseFrom_2 : decode cX1_riseFrom 2 = .ok (.invokestatic 106, 3) := by decide +kernel
theorem dX1_riseFrom_5 : decode cX1_riseFrom 5 = .ok (.istore_n 3, 1) := by decide +kernel
theorem dX1_riseFrom_6 : decode cX1_riseFrom 6 = .ok (.iload_n 3, 1) := by decide +kernel
theorem dX1_riseFrom_7 : decode cX1_riseFrom 7 = .ok (.aload_n 0, 1) := by decide +kernel
theorem dX1_riseFrom_8 : decode cX1_riseFrom 8 = .ok (.getfield 14, 3) := by decide +kernel
theorem dX1_riseFrom_11 : decode cX1_riseFrom 11 = .ok (.invokevirtual 64, 3) := by decide +kernel
theorem dX1_riseFrom_14 : decode cX1_riseFrom 14 = .ok (.if_icmp .ge 34, 3) := by decide +kernel
theorem dX1_riseFrom_17 : decode cX1_riseFrom 17 = .ok (.aload_n 0, 1) := by decide +kernel
theorem dX1_riseFrom_18 : decode cX1_riseFrom 18 = .ok (.getfield 14, 3) := by decide +kernel
theorem dX1_riseFrom_21 : decode cX1_riseFrom 21 = .ok (.iload_n 3, 1) := by decide +kernel
theorem dX1_riseFrom_22 : decode cX1_riseFrom 22 = .ok (.invokevirtual 68, 3) := by decide +kernel
theorem dX1_riseFrom_25 : decode cX1_riseFrom 25 = .ok (.checkcast 4, 3) := by decide +kernel
theorem dX1_riseFrom_28 : decode cX1_riseFrom 28 = .ok (.astore 4, 2) := by decide +kernel
theorem dX1_riseFrom_30 : decode cX1_riseFrom 30 = .ok (.aload 4, 2) := by decide +kernel
theorem dX1_riseFrom_32 : decode cX1_riseFrom 32 = .ok (.aload_n 2, 1) := by decide +kernel
theorem dX1_riseFrom_33 : decode cX1_riseFrom 33 = .ok (.invokevirtual 112, 3) := by decide +kernel
theorem dX1_riseFrom_36 : decode cX1_riseFrom 36 = .ok (.ifCond .ne 6, 3) := by decide +kernel
theorem dX1_riseFrom_39 : decode cX1_riseFrom 39 = .ok (.aload 4, 2) := by decide +kernel
theorem dX1_riseFrom_41 : decode cX1_riseFrom 41 = .ok (.areturn, 1) := by decide +kernel
theorem dX1_riseFrom_42 : decode cX1_riseFrom 42 = .ok (.iinc 3 1, 3) := by decide +kernel
theorem dX1_riseFrom_45 : decode cX1_riseFrom 45 = .ok (.goto (-39), 3) := by decide +kernel
theorem dX1_riseFrom_48 : decode cX1_riseFrom 48 = .ok (.aconst_null, 1) := by decide +kernel
theorem dX1_riseFrom_49 : decode cX1_riseFrom 49 = .ok (.areturn, 1) := by decide +kernel
theorem dX1_fallAll_0 : decode cX1_fallAll 0 = .ok (.aload_n 0, 1) := by decide +kernel
theorem dX1_fallAll_1 : decode cX1_fallAll 1 = .ok (.getfield 14, 3) := by decide +kernel
theorem dX1_fallAll_4 : decode cX1_fallAll 4 = .ok (.invokevirtual 64, 3) := by decide +kernel
theorem dX1_fallAll_7 : decode cX1_fallAll 7 = .ok (.iconst 1, 1) := by decide +kernel
theorem dX1_fallAll_8 : decode cX1_fallAll 8 = .ok (.isub, 1) := by decide +kernel
theorem dX1_fallAll_9 : decode cX1_fallAll 9 = .ok (.istore_n 2, 1) := by decide +kernel
theorem dX1_fallAll_10 : decode cX1_fallAll 10 = .ok (.iload_n 2, 1) := by decide +kernel
theorem dX1_fallAll_11 : decode cX1_fallAll 11 = .ok (.ifCond .lt 34, 3) := by decide +kernel
theorem dX1_fallAll_14 : decode cX1_fallAll 14 = .ok (.aload_n 0, 1) := by decide +kernel
theorem dX1_fallAll_15 : decode cX1_fallAll 15 = .ok (.getfield 14, 3) := by decide +kernel
theorem dX1_fallAll_18 : decode cX1_fallAll 18 = .ok (.iload_n 2, 1) := by decide +kernel
theorem dX1_fallAll_19 : decode cX1_fallAll 19 = .ok (.invokevirtual 68, 3) := by decide +kernel
theorem dX1_fallAll_22 : decode cX1_fallAll 22 = .ok (.checkcast 4, 3) := by decide +kernel
theorem dX1_fallAll_25 : decode cX1_fallAll 25 = .ok (.astore_n 3, 1) := by decide +kernel
theorem dX1_fallAll_26 : decode cX1_fallAll 26 = .ok (.aload_n 3, 1) := by decide +kernel
theorem dX1_fallAll_27 : decode cX1_fallAll 27 = .ok (.getfield 72, 3) := by decide +kernel
theorem dX1_fallAll_30 : decode cX1_fallAll 30 = .ok (.iconst 1, 1) := by decide +kernel
theorem dX1_fallAll_31 : decode cX1_fallAll 31 = .ok (.if_icmp .ne 8, 3) := by decide +kernel
theorem dX1_fallAll_34 : decode cX1_fallAll 34 = .ok (.aload_n 3, 1) := by decide +kernel
theorem dX1_fallAll_35 : decode cX1_fallAll 35 = .ok (.aload_n 1, 1) := by decide +kernel
theorem dX1_fallAll_36 : decode cX1_fallAll 36 = .ok (.invokevirtual 84, 3) := by decide +kernel
theorem dX1_fallAll_39 : decode cX1_fallAll 39 = .ok (.iinc 2 (-1), 3) := by decide +kernel
theorem dX1_fallAll_42 : decode cX1_fallAll 42 = .ok (.goto (-32), 3) := by decide +kernel
theorem dX1_fallAll_45 : decode cX1_fallAll 45 = .ok (.return_, 1) := by decide +kernel
theorem dX2_init_0 : decode cX2_init 0 = .ok (.aload_n 0, 1) := by decide +kernel
theorem dX2_init_1 : decode cX2_init 1 = .ok (.invokespecial 3, 3) := by decide +kernel
theorem dX2_init_4 : decode cX2_init 4 = .ok (.aload_n 0, 1) := by decide +kernel
theorem dX2_init_5 : decode cX2_init 5 = .ok (.iconst 0, 1) := by decide +kernel
theorem dX2_init_6 : decode cX2_init 6 = .ok (.putfield 9, 3) := by decide +kernel
theorem dX2_init_9 : decode cX2_init 9 = .ok (.aload_n 0, 1) := by decide +kernel
theorem dX2_init_10 : decode cX2_init 10 = .ok (.iload_n 1, 1) := by decide +kernel
theorem dX2_init_11 : decode cX2_init 11 = .ok (.putfield 15, 3) := by decide +kernel
theorem dX2_init_14 : decode cX2_init 14 = .ok (.aload_n 0, 1) := by decide +kernel
theorem dX2_init_15 : decode cX2_init 15 = .ok (.aload_n 2, 1) := by decide +kernel
theorem dX2_init_16 : decode cX2_init 16 = .ok (.putfield 18, 3) := by decide +kernel
theorem dX2_init_19 : decode cX2_init 19 = .ok (.aload_n 0, 1) := by decide +kernel
theorem dX2_init_20 : decode cX2_init 20 = .ok (.aload_n 2, 1) := by decide +kernel
theorem dX2_init_21 : decode cX2_init 21 = .ok (.ifnonnull 7, 3) := by decide +kernel
theorem dX2_init_24 : decode cX2_init 24 = .ok (.iconst 0, 1) := by decide +kernel
theorem dX2_init_25 : decode cX2_init 25 = .ok (.goto 9, 3) := by decide +kernel
theorem dX2_init_28 : decode cX2_init 28 = .ok (.aload_n 2, 1) := by decide +kernel
theorem dX2_init_29 : decode cX2_init 29 = .ok (.getfield 22, 3) := by decide +kernel
theorem dX2_init_32 : decode cX2_init 32 = .ok (.iconst 1, 1) := by decide +kernel
theorem dX2_init_33 : decode cX2_init 33 = .ok (.iadd, 1) := by decide +kernel
theorem dX2_init_34 : decode cX2_init 34 = .ok (.putfield 27, 3) := by decide +kernel
theorem dX2_init_37 : decode cX2_init 37 = .ok (.aload_n 0, 1) := by decide +kernel
theorem dX2_init_38 : decode cX2_init 38 = .ok (.iload_n 3, 1) := by decide +kernel
theorem dX2_init_39 : decode cX2_init 39 = .ok (.putfield 28, 3) := by decide +kernel
theorem dX2_init_42 : decode cX2_init 42 = .ok (.return_, 1) := by decide +kernel
theorem dX2_settle_0 : decode cX2_settle 0 = .ok (.aload_n 0, 1) := by decide +kernel
theorem dX2_settle_1 : decode cX2_settle 1 = .ok (.iload_n 1, 1) := by decide +kernel
theorem dX2_settle_2 : decode cX2_settle 2 = .ok (.ifCond .eq 7, 3) := by decide +kernel
theorem dX2_settle_5 : decode cX2_settle 5 = .ok (.iconst 0, 1) := by decide +kernel
theorem dX2_settle_6 : decode cX2_settle 6 = .ok (.goto 4, 3) := by decide +kernel
theorem dX2_settle_9 : decode cX2_settle 9 = .ok (.iconst 1, 1) := by decide +kernel
theorem dX2_settle_10 : decode cX2_settle 10 = .ok (.putfield 9, 3) := by decide +kernel
theorem dX2_settle_13 : decode cX2_settle 13 = .ok (.aload_n 2, 1) := by decide +kernel
theorem dX2_settle_14 : decode cX2_settle 14 = .ok (.iload_n 1, 1) := by decide +kernel
theorem dX2_settle_15 : decode cX2_settle 15 = .ok (.ifCond .eq 7, 3) := by decide +kernel
theorem dX2_settle_18 : decode cX2_settle 18 = .ok (.iconst 2, 1) := by decide +kernel
theorem dX2_settle_19 : decode cX2_settle 19 = .ok (.goto 4, 3) := by decide +kernel
theorem dX2_settle_22 : decode cX2_settle 22 = .ok (.iconst 1, 1) := by decide +kernel
theorem dX2_settle_23 : decode cX2_settle 23 = .ok (.aload_n 0, 1) := by decide +kernel
theorem dX2_settle_24 : decode cX2_settle 24 = .ok (.getfield 15, 3) := by decide +kernel
theorem dX2_settle_27 : decode cX2_settle 27 = .ok (.iconst 0, 1) := by decide +kernel
theorem dX2_settle_28 : decode cX2_settle 28 = .ok (.invokevirtual 31, 3) := by decide +kernel
theorem dX2_settle_31 : decode cX2_settle 31 = .ok (.iload_n 1, 1) := by decide +kernel
theorem dX2_settle_32 : decode cX2_settle 32 = .ok (.ifCond .ne 7, 3) := by decide +kernel
theorem dX2_settle_35 : decode cX2_settle 35 = .ok (.iconst 1, 1) := by decide +kernel
theorem dX2_settle_36 : decode cX2_settle 36 = .ok (.goto 4, 3) := by decide +kernel
theorem dX2_settle_39 : decode cX2_settle 39 = .ok (.iconst 0, 1) := by decide +kernel
theorem dX2_settle_40 : decode cX2_settle 40 = .ok (.ireturn, 1) := by decide +kernel
theorem dX3_init_0 : decode cX3_init 0 = .ok (.aload_n 0, 1) := by decide +kernel
theorem dX3_init_1 : decode cX3_init 1 = .ok (.invokespecial 3, 3) := by decide +kernel
theorem dX3_init_4 : decode cX3_init 4 = .ok (.aload_n 0, 1) := by decide +kernel
theorem dX3_init_5 : decode cX3_init 5 = .ok (.bipush 8, 2) := by decide +kernel
theorem dX3_init_7 : decode cX3_init 7 = .ok (.newarray .int, 2) := by decide +kernel
theorem dX3_init_9 : decode cX3_init 9 = .ok (.putfield 9, 3) := by decide +kernel
theorem dX3_init_12 : decode cX3_init 12 = .ok (.aload_n 0, 1) := by decide +kernel
theorem dX3_init_13 : decode cX3_init 13 = .ok (.iconst 0, 1) := by decide +kernel
theorem dX3_init_14 : decode cX3_init 14 = .ok (.putfield 15, 3) := by decide +kernel
theorem dX3_init_17 : decode cX3_init 17 = .ok (.return_, 1) := by decide +kernel
theorem dX3_add_0 : decode cX3_add 0 = .ok (.aload_n 0, 1) := by decide +kernel
theorem dX3_add_1 : decode cX3_add 1 = .ok (.getfield 15, 3) := by decide +kernel
theorem dX3_add_4 : decode cX3_add 4 = .ok (.aload_n 0, 1) := by decide +kernel
theorem dX3_add_5 : decode cX3_add 5 = .ok (.getfield 9, 3) := by decide +kernel
theorem dX3_add_8 : decode cX3_add 8 = .ok (.arraylength, 1) := by decide +kernel
theorem dX3_add_9 : decode cX3_add 9 = .ok (.if_icmp .lt 12, 3) := by decide +kernel
theorem dX3_add_12 : decode cX3_add 12 = .ok (.aload_n 0, 1) := by decide +kernel
theorem dX3_add_13 : decode cX3_add 13 = .ok (.iload_n 1, 1) := by decide +kernel
theorem dX3_add_14 : decode cX3_add 14 = .ok (.sipush 1000, 3) := by decide +kernel
theorem dX3_add_17 : decode cX3_add 17 = .ok (.isub, 1) := by decide +kernel
theorem dX3_add_18 : decode cX3_add 18 = .ok (.invokevirtual 19, 3) := by decide +kernel
theorem dX3_add_21 : decode cX3_add 21 = .ok (.aload_n 0, 1) := by decide +kernel
theorem dX3_add_22 : decode cX3_add 22 = .ok (.getfield 9, 3) := by decide +kernel
theorem dX3_add_25 : decode cX3_add 25 = .ok (.aload_n 0, 1) := by decide +kernel
theorem dX3_add_26 : decode cX3_add 26 = .ok (.getfield 15, 3) := by decide +kernel
theorem dX3_add_29 : decode cX3_add 29 = .ok (.iload_n 1, 1) := by decide +kernel
theorem dX3_add_30 : decode cX3_add 30 = .ok (.iastore, 1) := by decide +kernel
theorem dX3_add_31 : decode cX3_add 31 = .ok (.aload_n 0, 1) := by decide +kernel
theorem dX3_add_32 : decode cX3_add 32 = .ok (.dup, 1) := by decide +kernel
theorem dX3_add_33 : decode cX3_add 33 = .ok (.getfield 15, 3) := by decide +kernel
theorem dX3_add_36 : decode cX3_add 36 = .ok (.iconst 1, 1) := by decide +kernel
theorem dX3_add_37 : decode cX3_add 37 = .ok (.iadd, 1) := by decide +kernel
theorem dX3_add_38 : decode cX3_add 38 = .ok (.putfield 15, 3) := by decide +kernel
theorem dX3_add_41 : decode cX3_add 41 = .ok (.return_, 1) := by decide +kernel
theorem dX3_notBefore_0 : decode cX3_notBefore 0 = .ok (.iconst 0, 1) := by decide +kernel
theorem dX3_notBefore_1 : decode cX3_notBefore 1 = .ok (.istore_n 2, 1) := by decide +kernel
theorem dX3_notBefore_2 : decode cX3_notBefore 2 = .ok (.aload_n 0, 1) := by decide +kernel
theorem dX3_notBefore_3 : decode cX3_notBefore 3 = .ok (.getfield 15, 3) := by decide +kernel
theorem dX3_notBefore_6 : decode cX3_notBefore 6 = .ok (.iconst 1, 1) := by decide +kernel
theorem dX3_notBefore_7 : decode cX3_notBefore 7 = .ok (.isub, 1) := by decide +kernel
theorem dX3_notBefore_8 : decode cX3_notBefore 8 = .ok (.istore_n 3, 1) := by decide +kernel
theorem dX3_notBefore_9 : decode cX3_notBefore 9 = .ok (.iload_n 3, 1) := by decide +kernel
theorem dX3_notBefore_10 : decode cX3_notBefore 10 = .ok (.ifCond .lt 22, 3) := by decide +kernel
theorem dX3_notBefore_13 : decode cX3_notBefore 13 = .ok (.aload_n 0, 1) := by decide +kernel
theorem dX3_notBefore_14 : decode cX3_notBefore 14 = .ok (.getfield 9, 3) := by decide +kernel
theorem dX3_notBefore_17 : decode cX3_notBefore 17 = .ok (.iload_n 3, 1) := by decide +kernel
theorem dX3_notBefore_18 : decode cX3_notBefore 18 = .ok (.iaload, 1) := by decide +kernel
theorem dX3_notBefore_19 : decode cX3_notBefore 19 = .ok (.iload_n 1, 1) := by decide +kernel
theorem dX3_notBefore_20 : decode cX3_notBefore 20 = .ok (.if_icmp .lt 12, 3) := by decide +kernel
theorem dX3_notBefore_23 : decode cX3_notBefore 23 = .ok (.iinc 2 1, 3) := by decide +kernel
theorem dX3_notBefore_26 : decode cX3_notBefore 26 = .ok (.iinc 3 (-1), 3) := by decide +kernel
theorem dX3_notBefore_29 : decode cX3_notBefore 29 = .ok (.goto (-20), 3) := by decide +kernel
theorem dX3_notBefore_32 : decode cX3_notBefore 32 = .ok (.iload_n 2, 1) := by decide +kernel
theorem dX3_notBefore_33 : decode cX3_notBefore 33 = .ok (.ireturn, 1) := by decide +kernel
theorem dX3_clear_0 : decode cX3_clear 0 = .ok (.aload_n 0, 1) := by decide +kernel
theorem dX3_clear_1 : decode cX3_clear 1 = .ok (.iconst 0, 1) := by decide +kernel
theorem dX3_clear_2 : decode cX3_clear 2 = .ok (.putfield 15, 3) := by decide +kernel
theorem dX3_clear_5 : decode cX3_clear 5 = .ok (.return_, 1) := by decide +kernel
theorem dX3_makeRoom_0 : decode cX3_makeRoom 0 = .ok (.aload_n 0, 1) := by decide +kernel
theorem dX3_makeRoom_1 : decode cX3_makeRoom 1 = .ok (.iload_n 1, 1) := by decide +kernel
theorem dX3_makeRoom_2 : decode cX3_makeRoom 2 = .ok (.invokevirtual 23, 3) := by decide +kernel
theorem dX3_makeRoom_5 : decode cX3_makeRoom 5 = .ok (.istore_n 2, 1) := by decide +kernel
theorem dX3_makeRoom_6 : decode cX3_makeRoom 6 = .ok (.iload_n 2, 1) := by decide +kernel
theorem dX3_makeRoom_7 : decode cX3_makeRoom 7 = .ok (.aload_n 0, 1) := by decide +kernel
theorem dX3_makeRoom_8 : decode cX3_makeRoom 8 = .ok (.getfield 9, 3) := by decide +kernel
theorem dX3_makeRoom_11 : decode cX3_makeRoom 11 = .ok (.arraylength, 1) := by decide +kernel
theorem dX3_makeRoom_12 : decode cX3_makeRoom 12 = .ok (.iconst 2, 1) := by decide +kernel
theorem dX3_makeRoom_13 : decode cX3_makeRoom 13 = .ok (.idiv, 1) := by decide +kernel
theorem dX3_makeRoom_14 : decode cX3_makeRoom 14 = .ok (.if_icmp .le 15, 3) := by decide +kernel
theorem dX3_makeRoom_17 : decode cX3_makeRoom 17 = .ok (.aload_n 0, 1) := by decide +kernel
theorem dX3_makeRoom_18 : decode cX3_makeRoom 18 = .ok (.getfield 9, 3) := by decide +kernel
theorem dX3_makeRoom_21 : decode cX3_makeRoom 21 = .ok (.arraylength, 1) := by decide +kernel
theorem dX3_makeRoom_22 : decode cX3_makeRoom 22 = .ok (.iconst 2, 1) := by decide +kernel
theorem dX3_makeRoom_23 : decode cX3_makeRoom 23 = .ok (.imul, 1) := by decide +kernel
theorem dX3_makeRoom_24 : decode cX3_makeRoom 24 = .ok (.newarray .int, 2) := by decide +kernel
theorem dX3_makeRoom_26 : decode cX3_makeRoom 26 = .ok (.goto 7, 3) := by decide +kernel
theorem dX3_makeRoom_29 : decode cX3_makeRoom 29 = .ok (.aload_n 0, 1) := by decide +kernel
theorem dX3_makeRoom_30 : decode cX3_makeRoom 30 = .ok (.getfield 9, 3) := by decide +kernel
theorem dX3_makeRoom_33 : decode cX3_makeRoom 33 = .ok (.astore_n 3, 1) := by decide +kernel
theorem dX3_makeRoom_34 : decode cX3_makeRoom 34 = .ok (.aload_n 0, 1) := by decide +kernel
theorem dX3_makeRoom_35 : decode cX3_makeRoom 35 = .ok (.getfield 9, 3) := by decide +kernel
theorem dX3_makeRoom_38 : decode cX3_makeRoom 38 = .ok (.aload_n 0, 1) := by decide +kernel
theorem dX3_makeRoom_39 : decode cX3_makeRoom 39 = .ok (.getfield 15, 3) := by decide +kernel
theorem dX3_makeRoom_42 : decode cX3_makeRoom 42 = .ok (.iload_n 2, 1) := by decide +kernel
theorem dX3_makeRoom_43 : decode cX3_makeRoom 43 = .ok (.isub, 1) := by decide +kernel
theorem dX3_makeRoom_44 : decode cX3_makeRoom 44 = .ok (.aload_n 3, 1) := by decide +kernel
theorem dX3_makeRoom_45 : decode cX3_makeRoom 45 = .ok (.iconst 0, 1) := by decide +kernel
theorem dX3_makeRoom_46 : decode cX3_makeRoom 46 = .ok (.iload_n 2, 1) := by decide +kernel
theorem dX3_makeRoom_47 : decode cX3_makeRoom 47 = .ok (.invokestatic 27, 3) := by decide +kernel
theorem dX3_makeRoom_50 : decode cX3_makeRoom 50 = .ok (.aload_n 0, 1) := by decide +kernel
theorem dX3_makeRoom_51 : decode cX3_makeRoom 51 = .ok (.aload_n 3, 1) := by decide +kernel
theorem dX3_makeRoom_52 : decode cX3_makeRoom 52 = .ok (.putfield 9, 3) := by decide +kernel
theorem dX3_makeRoom_55 : decode cX3_makeRoom 55 = .ok (.aload_n 0, 1) := by decide +kernel
theorem dX3_makeRoom_56 : decode cX3_makeRoom 56 = .ok (.iload_n 2, 1) := by decide +kernel
theorem dX3_makeRoom_57 : decode cX3_makeRoom 57 = .ok (.putfield 15, 3) := by decide +kernel
theorem dX3_makeRoom_60 : decode cX3_makeRoom 60 = .ok (.return_, 1) := by decide +kernel
theorem dX4_init_0 : decode cX4_init 0 = .ok (.aload_n 0, 1) := by decide +kernel
theorem dX4_init_1 : decode cX4_init 1 = .ok (.iload_n 1, 1) := by decide +kernel
theorem dX4_init_2 : decode cX4_init 2 = .ok (.aload_n 2, 1) := by decide +kernel
theorem dX4_init_3 : decode cX4_init 3 = .ok (.iload_n 3, 1) := by decide +kernel
theorem dX4_init_4 : decode cX4_init 4 = .ok (.invokespecial 3, 3) := by decide +kernel
theorem dX4_init_7 : decode cX4_init 7 = .ok (.aload_n 0, 1) := by decide +kernel
theorem dX4_init_8 : decode cX4_init 8 = .ok (.iload 4, 2) := by decide +kernel
theorem dX4_init_10 : decode cX4_init 10 = .ok (.putfield 9, 3) := by decide +kernel
theorem dX4_init_13 : decode cX4_init 13 = .ok (.aload_n 0, 1) := by decide +kernel
theorem dX4_init_14 : decode cX4_init 14 = .ok (.iload 5, 2) := by decide +kernel
theorem dX4_init_16 : decode cX4_init 16 = .ok (.putfield 15, 3) := by decide +kernel
theorem dX4_init_19 : decode cX4_init 19 = .ok (.aload_n 0, 1) := by decide +kernel
theorem dX4_init_20 : decode cX4_init 20 = .ok (.iload 6, 2) := by decide +kernel
theorem dX4_init_22 : decode cX4_init 22 = .ok (.putfield 18, 3) := by decide +kernel
theorem dX4_init_25 : decode cX4_init 25 = .ok (.aload_n 0, 1) := by decide +kernel
theorem dX4_init_26 : decode cX4_init 26 = .ok (.iload 7, 2) := by decide +kernel
theorem dX4_init_28 : decode cX4_init 28 = .ok (.putfield 21, 3) := by decide +kernel
theorem dX4_init_31 : decode cX4_init 31 = .ok (.return_, 1) := by decide +kernel
theorem dX4_rise_0 : decode cX4_rise 0 = .ok (.aload_n 1, 1) := by decide +kernel
theorem dX4_rise_1 : decode cX4_rise 1 = .ok (.dup, 1) := by decide +kernel
theorem dX4_rise_2 : decode cX4_rise 2 = .ok (.getfield 24, 3) := by decide +kernel
theorem dX4_rise_5 : decode cX4_rise 5 = .ok (.aload_n 0, 1) := by decide +kernel
theorem dX4_rise_6 : decode cX4_rise 6 = .ok (.getfield 15, 3) := by decide +kernel
theorem dX4_rise_9 : decode cX4_rise 9 = .ok (.iadd, 1) := by decide +kernel
theorem dX4_rise_10 : decode cX4_rise 10 = .ok (.putfield 24, 3) := by decide +kernel
theorem dX4_rise_13 : decode cX4_rise 13 = .ok (.aload_n 0, 1) := by decide +kernel
theorem dX4_rise_14 : decode cX4_rise 14 = .ok (.getfield 21, 3) := by decide +kernel
theorem dX4_rise_17 : decode cX4_rise 17 = .ok (.ifCond .le 7, 3) := by decide +kernel
theorem dX4_rise_20 : decode cX4_rise 20 = .ok (.iconst 1, 1) := by decide +kernel
theorem dX4_rise_21 : decode cX4_rise 21 = .ok (.goto 4, 3) := by decide +kernel
theorem dX4_rise_24 : decode cX4_rise 24 = .ok (.iconst 0, 1) := by decide +kernel
theorem dX4_rise_25 : decode cX4_rise 25 = .ok (.istore_n 2, 1) := by decide +kernel
theorem dX4_rise_26 : decode cX4_rise 26 = .ok (.iload_n 2, 1) := by decide +kernel
theorem dX4_rise_27 : decode cX4_rise 27 = .ok (.ifCond .eq 13, 3) := by decide +kernel
theorem dX4_rise_30 : decode cX4_rise 30 = .ok (.aload_n 0, 1) := by decide +kernel
theorem dX4_rise_31 : decode cX4_rise 31 = .ok (.dup, 1) := by decide +kernel
theorem dX4_rise_32 : decode cX4_rise 32 = .ok (.getfield 21, 3) := by decide +kernel
theorem dX4_rise_35 : decode cX4_rise 35 = .ok (.iconst 1, 1) := by decide +kernel
theorem dX4_rise_36 : decode cX4_rise 36 = .ok (.isub, 1) := by decide +kernel
theorem dX4_rise_37 : decode cX4_rise 37 = .ok (.putfield 21, 3) := by decide +kernel
theorem dX4_rise_40 : decode cX4_rise 40 = .ok (.aload_n 0, 1) := by decide +kernel
theorem dX4_rise_41 : decode cX4_rise 41 = .ok (.iload_n 2, 1) := by decide +kernel
theorem dX4_rise_42 : decode cX4_rise 42 = .ok (.aload_n 1, 1) := by decide +kernel
theorem dX4_rise_43 : decode cX4_rise 43 = .ok (.invokevirtual 29, 3) := by decide +kernel
theorem dX4_rise_46 : decode cX4_rise 46 = .ok (.ireturn, 1) := by decide +kernel
theorem dX4_fall_0 : decode cX4_fall 0 = .ok (.aload_n 0, 1) := by decide +kernel
theorem dX4_fall_1 : decode cX4_fall 1 = .ok (.getfield 9, 3) := by decide +kernel
theorem dX4_fall_4 : decode cX4_fall 4 = .ok (.iconst (-1), 1) := by decide +kernel
theorem dX4_fall_5 : decode cX4_fall 5 = .ok (.if_icmp .eq 21, 3) := by decide +kernel
theorem dX4_fall_8 : decode cX4_fall 8 = .ok (.aload_n 0, 1) := by decide +kernel
theorem dX4_fall_9 : decode cX4_fall 9 = .ok (.getfield 9, 3) := by decide +kernel
theorem dX4_fall_12 : decode cX4_fall 12 = .ok (.ifCond .le 18, 3) := by decide +kernel
theorem dX4_fall_15 : decode cX4_fall 15 = .ok (.aload_n 0, 1) := by decide +kernel
theorem dX4_fall_16 : decode cX4_fall 16 = .ok (.getfield 18, 3) := by decide +kernel
theorem dX4_fall_19 : decode cX4_fall 19 = .ok (.aload_n 0, 1) := by decide +kernel
theorem dX4_fall_20 : decode cX4_fall 20 = .ok (.getfield 9, 3) := by decide +kernel
theorem dX4_fall_23 : decode cX4_fall 23 = .ok (.if_icmp .gt 7, 3) := by decide +kernel
theorem dX4_fall_26 : decode cX4_fall 26 = .ok (.iconst 1, 1) := by decide +kernel
theorem dX4_fall_27 : decode cX4_fall 27 = .ok (.goto 4, 3) := by decide +kernel
theorem dX4_fall_30 : decode cX4_fall 30 = .ok (.iconst 0, 1) := by decide +kernel
theorem dX4_fall_31 : decode cX4_fall 31 = .ok (.istore_n 2, 1) := by decide +kernel
theorem dX4_fall_32 : decode cX4_fall 32 = .ok (.aload_n 1, 1) := by decide +kernel
theorem dX4_fall_33 : decode cX4_fall 33 = .ok (.dup, 1) := by decide +kernel
theorem dX4_fall_34 : decode cX4_fall 34 = .ok (.getfield 24, 3) := by decide +kernel
theorem dX4_fall_37 : decode cX4_fall 37 = .ok (.iload_n 2, 1) := by decide +kernel
theorem dX4_fall_38 : decode cX4_fall 38 = .ok (.ifCond .eq 10, 3) := by decide +kernel
theorem dX4_fall_41 : decode cX4_fall 41 = .ok (.aload_n 0, 1) := by decide +kernel
theorem dX4_fall_42 : decode cX4_fall 42 = .ok (.getfield 18, 3) := by decide +kernel
theorem dX4_fall_45 : decode cX4_fall 45 = .ok (.goto 7, 3) := by decide +kernel
theorem dX4_fall_48 : decode cX4_fall 48 = .ok (.aload_n 0, 1) := by decide +kernel
theorem dX4_fall_49 : decode cX4_fall 49 = .ok (.getfield 9, 3) := by decide +kernel
theorem dX4_fall_52 : decode cX4_fall 52 = .ok (.iadd, 1) := by decide +kernel
theorem dX4_fall_53 : decode cX4_fall 53 = .ok (.putfield 24, 3) := by decide +kernel
theorem dX4_fall_56 : decode cX4_fall 56 = .ok (.aload_n 0, 1) := by decide +kernel
theorem dX4_fall_57 : decode cX4_fall 57 = .ok (.iconst 0, 1) := by decide +kernel
theorem dX4_fall_58 : decode cX4_fall 58 = .ok (.putfield 33, 3) := by decide +kernel
theorem dX4_fall_61 : decode cX4_fall 61 = .ok (.aload_n 1, 1) := by decide +kernel
theorem dX4_fall_62 : decode cX4_fall 62 = .ok (.iload_n 2, 1) := by decide +kernel
theorem dX4_fall_63 : decode cX4_fall 63 = .ok (.ifCond .eq 7, 3) := by decide +kernel
theorem dX4_fall_66 : decode cX4_fall 66 = .ok (.iconst 3, 1) := by decide +kernel
theorem dX4_fall_67 : decode cX4_fall 67 = .ok (.goto 4, 3) := by decide +kernel
theorem dX4_fall_70 : decode cX4_fall 70 = .ok (.iconst 4, 1) := by decide +kernel
theorem dX4_fall_71 : decode cX4_fall 71 = .ok (.aload_n 0, 1) := by decide +kernel
theorem dX4_fall_72 : decode cX4_fall 72 = .ok (.getfield 36, 3) := by decide +kernel
theorem dX4_fall_75 : decode cX4_fall 75 = .ok (.iconst 0, 1) := by decide +kernel
theorem dX4_fall_76 : decode cX4_fall 76 = .ok (.invokevirtual 39, 3) := by decide +kernel
theorem dX4_fall_79 : decode cX4_fall 79 = .ok (.return_, 1) := by decide +kernel
theorem dX4_perish_0 : decode cX4_perish 0 = .ok (.aload_n 0, 1) := by decide +kernel
theorem dX4_perish_1 : decode cX4_perish 1 = .ok (.iconst 0, 1) := by decide +kernel
theorem dX4_perish_2 : decode cX4_perish 2 = .ok (.putfield 33, 3) := by decide +kernel
theorem dX4_perish_5 : decode cX4_perish 5 = .ok (.aload_n 1, 1) := by decide +kernel
theorem dX4_perish_6 : decode cX4_perish 6 = .ok (.iconst 4, 1) := by decide +kernel
theorem dX4_perish_7 : decode cX4_perish 7 = .ok (.aload_n 0, 1) := by decide +kernel
theorem dX4_perish_8 : decode cX4_perish 8 = .ok (.getfield 36, 3) := by decide +kernel
theorem dX4_perish_11 : decode cX4_perish 11 = .ok (.iconst 0, 1) := by decide +kernel
theorem dX4_perish_12 : decode cX4_perish 12 = .ok (.invokevirtual 39, 3) := by decide +kernel
theorem dX4_perish_15 : decode cX4_perish 15 = .ok (.iconst 1, 1) := by decide +kernel
theorem dX4_perish_16 : decode cX4_perish 16 = .ok (.ireturn, 1) := by decide +kernel
theorem dX4_vanish_0 : decode cX4_vanish 0 = .ok (.aload_n 0, 1) := by decide +kernel
theorem dX4_vanish_1 : decode cX4_vanish 1 = .ok (.iconst 2, 1) := by decide +kernel
theorem dX4_vanish_2 : decode cX4_vanish 2 = .ok (.putfield 33, 3) := by decide +kernel
theorem dX4_vanish_5 : decode cX4_vanish 5 = .ok (.iconst 1, 1) := by decide +kernel
theorem dX4_vanish_6 : decode cX4_vanish 6 = .ok (.ireturn, 1) := by decide +kernel
theorem dX5_init_0 : decode cX5_init 0 = .ok (.aload_n 0, 1) := by decide +kernel
theorem dX5_init_1 : decode cX5_init 1 = .ok (.invokespecial 1, 3) := by decide +kernel
theorem dX5_init_4 : decode cX5_init 4 = .ok (.aload_n 0, 1) := by decide +kernel
theorem dX5_init_5 : decode cX5_init 5 = .ok (.new 7, 3) := by decide +kernel
theorem dX5_init_8 : decode cX5_init 8 = .ok (.dup, 1) := by decide +kernel
theorem dX5_init_9 : decode cX5_init 9 = .ok (.invokespecial 9, 3) := by decide +kernel
theorem dX5_init_12 : decode cX5_init 12 = .ok (.putfield 10, 3) := by decide +kernel
theorem dX5_init_15 : decode cX5_init 15 = .ok (.aload_n 0, 1) := by decide +kernel
theorem dX5_init_16 : decode cX5_init 16 = .ok (.bipush 80, 2) := by decide +kernel
theorem dX5_init_18 : decode cX5_init 18 = .ok (.anewarray 16, 3) := by decide +kernel
theorem dX5_init_21 : decode cX5_init 21 = .ok (.putfield 18, 3) := by decide +kernel
theorem dX5_init_24 : decode cX5_init 24 = .ok (.aload_n 0, 1) := by decide +kernel
theorem dX5_init_25 : decode cX5_init 25 = .ok (.new 22, 3) := by decide +kernel
theorem dX5_init_28 : decode cX5_init 28 = .ok (.dup, 1) := by decide +kernel
theorem dX5_init_29 : decode cX5_init 29 = .ok (.iconst 0, 1) := by decide +kernel
theorem dX5_init_30 : decode cX5_init 30 = .ok (.aconst_null, 1) := by decide +kernel
theorem dX5_init_31 : decode cX5_init 31 = .ok (.iconst 0, 1) := by decide +kernel
theorem dX5_init_32 : decode cX5_init 32 = .ok (.iconst 0, 1) := by decide +kernel
theorem dX5_init_33 : decode cX5_init 33 = .ok (.iconst 1, 1) := by decide +kernel
theorem dX5_init_34 : decode cX5_init 34 = .ok (.iconst 5, 1) := by decide +kernel
theorem dX5_init_35 : decode cX5_init 35 = .ok (.invokespecial 24, 3) := by decide +kernel
theorem dX5_init_38 : decode cX5_init 38 = .ok (.putfield 27, 3) := by decide +kernel
theorem dX5_init_41 : decode cX5_init 41 = .ok (.aload_n 0, 1) := by decide +kernel
theorem dX5_init_42 : decode cX5_init 42 = .ok (.iconst 1, 1) := by decide +kernel
theorem dX5_init_43 : decode cX5_init 43 = .ok (.putfield 31, 3) := by decide +kernel
theorem dX5_init_46 : decode cX5_init 46 = .ok (.aload_n 0, 1) := by decide +kernel
theorem dX5_init_47 : decode cX5_init 47 = .ok (.iconst 0, 1) := by decide +kernel
theorem dX5_init_48 : decode cX5_init 48 = .ok (.putfield 35, 3) := by decide +kernel
theorem dX5_init_51 : decode cX5_init 51 = .ok (.aload_n 0, 1) := by decide +kernel
theorem dX5_init_52 : decode cX5_init 52 = .ok (.iconst 0, 1) := by decide +kernel
theorem dX5_init_53 : decode cX5_init 53 = .ok (.putfield 38, 3) := by decide +kernel
theorem dX5_init_56 : decode cX5_init 56 = .ok (.aload_n 0, 1) := by decide +kernel
theorem dX5_init_57 : decode cX5_init 57 = .ok (.getfield 18, 3) := by decide +kernel
theorem dX5_init_60 : decode cX5_init 60 = .ok (.iconst 0, 1) := by decide +kernel
theorem dX5_init_61 : decode cX5_init 61 = .ok (.aload_n 0, 1) := by decide +kernel
theorem dX5_init_62 : decode cX5_init 62 = .ok (.getfield 27, 3) := by decide +kernel
theorem dX5_init_65 : decode cX5_init 65 = .ok (.aastore, 1) := by decide +kernel
theorem dX5_init_66 : decode cX5_init 66 = .ok (.return_, 1) := by decide +kernel
theorem dX5_first_0 : decode cX5_first 0 = .ok (.iload_n 1, 1) := by decide +kernel
theorem dX5_first_1 : decode cX5_first 1 = .ok (.iload_n 2, 1) := by decide +kernel
theorem dX5_first_2 : decode cX5_first 2 = .ok (.iload_n 3, 1) := by decide +kernel
theorem dX5_first_3 : decode cX5_first 3 = .ok (.invokestatic 41, 3) := by decide +kernel
theorem dX5_first_6 : decode cX5_first 6 = .ok (.aload_n 0, 1) := by decide +kernel
theorem dX5_first_7 : decode cX5_first 7 = .ok (.getfield 27, 3) := by decide +kernel
theorem dX5_first_10 : decode cX5_first 10 = .ok (.getfield 45, 3) := by decide +kernel
theorem dX5_first_13 : decode cX5_first 13 = .ok (.iconst 1, 1) := by decide +kernel
theorem dX5_first_14 : decode cX5_first 14 = .ok (.if_icmp .eq 7, 3) := by decide +kernel
theorem dX5_first_17 : decode cX5_first 17 = .ok (.iconst 1, 1) := by decide +kernel
theorem dX5_first_18 : decode cX5_first 18 = .ok (.goto 4, 3) := by decide +kernel
theorem dX5_first_21 : decode cX5_first 21 = .ok (.iconst 0, 1) := by decide +kernel
theorem dX5_first_22 : decode cX5_first 22 = .ok (.invokestatic 48, 3) := by decide +kernel
theorem dX5_first_25 : decode cX5_first 25 = .ok (.aload_n 0, 1) := by decide +kernel
theorem dX5_first_26 : decode cX5_first 26 = .ok (.getfield 27, 3) := by decide +kernel
theorem dX5_first_29 : decode cX5_first 29 = .ok (.iload_n 1, 1) := by decide +kernel
theorem dX5_first_30 : decode cX5_first 30 = .ok (.putfield 52, 3) := by decide +kernel
theorem dX5_first_33 : decode cX5_first 33 = .ok (.aload_n 0, 1) := by decide +kernel
theorem dX5_first_34 : decode cX5_first 34 = .ok (.getfield 27, 3) := by decide +kernel
theorem dX5_first_37 : decode cX5_first 37 = .ok (.iload_n 2, 1) := by decide +kernel
theorem dX5_first_38 : decode cX5_first 38 = .ok (.putfield 55, 3) := by decide +kernel
theorem dX5_first_41 : decode cX5_first 41 = .ok (.aload_n 0, 1) := by decide +kernel
theorem dX5_first_42 : decode cX5_first 42 = .ok (.getfield 27, 3) := by decide +kernel
theorem dX5_first_45 : decode cX5_first 45 = .ok (.iload_n 3, 1) := by decide +kernel
theorem dX5_first_46 : decode cX5_first 46 = .ok (.putfield 58, 3) := by decide +kernel
theorem dX5_first_49 : decode cX5_first 49 = .ok (.return_, 1) := by decide +kernel
theorem dX5_keeper_0 : decode cX5_keeper 0 = .ok (.aload_n 0, 1) := by decide +kernel
theorem dX5_keeper_1 : decode cX5_keeper 1 = .ok (.iload_n 1, 1) := by decide +kernel
theorem dX5_keeper_2 : decode cX5_keeper 2 = .ok (.invokevirtual 61, 3) := by decide +kernel
theorem dX5_keeper_5 : decode cX5_keeper 5 = .ok (.astore 6, 2) := by decide +kernel
theorem dX5_keeper_7 : decode cX5_keeper 7 = .ok (.iload_n 2, 1) := by decide +kernel
theorem dX5_keeper_8 : decode cX5_keeper 8 = .ok (.iconst 0, 1) := by decide +kernel
theorem dX5_keeper_9 : decode cX5_keeper 9 = .ok (.iconst 2, 1) := by decide +kernel
theorem dX5_keeper_10 : decode cX5_keeper 10 = .ok (.invokestatic 65, 3) := by decide +kernel
theorem dX5_keeper_13 : decode cX5_keeper 13 = .ok (.iload_n 3, 1) := by decide +kernel
theorem dX5_keeper_14 : decode cX5_keeper 14 = .ok (.iload 4, 2) := by decide +kernel
theorem dX5_keeper_16 : decode cX5_keeper 16 = .ok (.iload 5, 2) := by decide +kernel
theorem dX5_keeper_18 : decode cX5_keeper 18 = .ok (.invokestatic 41, 3) := by decide +kernel
theorem dX5_keeper_21 : decode cX5_keeper 21 = .ok (.aload_n 0, 1) := by decide +kernel
theorem dX5_keeper_22 : decode cX5_keeper 22 = .ok (.aload 6, 2) := by decide +kernel
theorem dX5_keeper_24 : decode cX5_keeper 24 = .ok (.invokevirtual 68, 3) := by decide +kernel
theorem dX5_keeper_27 : decode cX5_keeper 27 = .ok (.invokestatic 48, 3) := by decide +kernel
theorem dX5_keeper_30 : decode cX5_keeper 30 = .ok (.new 22, 3) := by decide +kernel
theorem dX5_keeper_33 : decode cX5_keeper 33 = .ok (.dup, 1) := by decide +kernel
theorem dX5_keeper_34 : decode cX5_keeper 34 = .ok (.aload_n 0, 1) := by decide +kernel
theorem dX5_keeper_35 : decode cX5_keeper 35 = .ok (.getfield 31, 3) := by decide +kernel
theorem dX5_keeper_38 : decode cX5_keeper 38 = .ok (.aload 6, 2) := by decide +kernel
theorem dX5_keeper_40 : decode cX5_keeper 40 = .ok (.iload_n 2, 1) := by decide +kernel
theorem dX5_keeper_41 : decode cX5_keeper 41 = .ok (.iload_n 3, 1) := by decide +kernel
theorem dX5_keeper_42 : decode cX5_keeper 42 = .ok (.iload 4, 2) := by decide +kernel
theorem dX5_keeper_44 : decode cX5_keeper 44 = .ok (.iload 5, 2) := by decide +kernel
theorem dX5_keeper_46 : decode cX5_keeper 46 = .ok (.invokespecial 24, 3) := by decide +kernel
theorem dX5_keeper_49 : decode cX5_keeper 49 = .ok (.astore 7, 2) := by decide +kernel
theorem dX5_keeper_51 : decode cX5_keeper 51 = .ok (.aload_n 0, 1) := by decide +kernel
theorem dX5_keeper_52 : decode cX5_keeper 52 = .ok (.aload 7, 2) := by decide +kernel
theorem dX5_keeper_54 : decode cX5_keeper 54 = .ok (.aload 6, 2) := by decide +kernel
theorem dX5_keeper_56 : decode cX5_keeper 56 = .ok (.invokevirtual 72, 3) := by decide +kernel
theorem dX5_keeper_59 : decode cX5_keeper 59 = .ok (.aload 6, 2) := by decide +kernel
theorem dX5_keeper_61 : decode cX5_keeper 61 = .ok (.getfield 45, 3) := by decide +kernel
theorem dX5_keeper_64 : decode cX5_keeper 64 = .ok (.iconst 1, 1) := by decide +kernel
theorem dX5_keeper_65 : decode cX5_keeper 65 = .ok (.if_icmp .ne 13, 3) := by decide +kernel
theorem dX5_keeper_68 : decode cX5_keeper 68 = .ok (.aload 7, 2) := by decide +kernel
theorem dX5_keeper_70 : decode cX5_keeper 70 = .ok (.aload_n 0, 1) := by decide +kernel
theorem dX5_keeper_71 : decode cX5_keeper 71 = .ok (.getfield 10, 3) := by decide +kernel
theorem dX5_keeper_74 : decode cX5_keeper 74 = .ok (.invokevirtual 76, 3) := by decide +kernel
theorem dX5_keeper_77 : decode cX5_keeper 77 = .ok (.pop, 1) := by decide +kernel
theorem dX5_keeper_78 : decode cX5_keeper 78 = .ok (.aload 7, 2) := by decide +kernel
theorem dX5_keeper_80 : decode cX5_keeper 80 = .ok (.getfield 80, 3) := by decide +kernel
theorem dX5_keeper_83 : decode cX5_keeper 83 = .ok (.ireturn, 1) := by decide +kernel
theorem dX5_worker_0 : decode cX5_worker 0 = .ok (.aload_n 0, 1) := by decide +kernel
theorem dX5_worker_1 : decode cX5_worker 1 = .ok (.iload_n 1, 1) := by decide +kernel
theorem dX5_worker_2 : decode cX5_worker 2 = .ok (.invokevirtual 61, 3) := by decide +kernel
theorem dX5_worker_5 : decode cX5_worker 5 = .ok (.astore 7, 2) := by decide +kernel
theorem dX5_worker_7 : decode cX5_worker 7 = .ok (.iload_n 2, 1) := by decide +kernel
theorem dX5_worker_8 : decode cX5_worker 8 = .ok (.iconst 0, 1) := by decide +kernel
theorem dX5_worker_9 : decode cX5_worker 9 = .ok (.iconst 2, 1) := by decide +kernel
theorem dX5_worker_10 : decode cX5_worker 10 = .ok (.invokestatic 65, 3) := by decide +kernel
theorem dX5_worker_13 : decode cX5_worker 13 = .ok (.iload_n 3, 1) := by decide +kernel
theorem dX5_worker_14 : decode cX5_worker 14 = .ok (.iconst (-1), 1) := by decide +kernel
theorem dX5_worker_15 : decode cX5_worker 15 = .ok (.sipush 1000, 3) := by decide +kernel
theorem dX5_worker_18 : decode cX5_worker 18 = .ok (.invokestatic 65, 3) := by decide +kernel
theorem dX5_worker_21 : decode cX5_worker 21 = .ok (.iload 4, 2) := by decide +kernel
theorem dX5_worker_23 : decode cX5_worker 23 = .ok (.iconst 0, 1) := by decide +kernel
theorem dX5_worker_24 : decode cX5_worker 24 = .ok (.bipush 100, 2) := by decide +kernel
theorem dX5_worker_26 : decode cX5_worker 26 = .ok (.invokestatic 65, 3) := by decide +kernel
theorem dX5_worker_29 : decode cX5_worker 29 = .ok (.iload 5, 2) := by decide +kernel
theorem dX5_worker_31 : decode cX5_worker 31 = .ok (.iconst 0, 1) := by decide +kernel
theorem dX5_worker_32 : decode cX5_worker 32 = .ok (.bipush 100, 2) := by decide +kernel
theorem dX5_worker_34 : decode cX5_worker 34 = .ok (.invokestatic 65, 3) := by decide +kernel
theorem dX5_worker_37 : decode cX5_worker 37 = .ok (.iload 6, 2) := by decide +kernel
theorem dX5_worker_39 : decode cX5_worker 39 = .ok (.iconst 0, 1) := by decide +kernel
theorem dX5_worker_40 : decode cX5_worker 40 = .ok (.bipush 50, 2) := by decide +kernel
theorem dX5_worker_42 : decode cX5_worker 42 = .ok (.invokestatic 65, 3) := by decide +kernel
theorem dX5_worker_45 : decode cX5_worker 45 = .ok (.aload_n 0, 1) := by decide +kernel
theorem dX5_worker_46 : decode cX5_worker 46 = .ok (.aload 7, 2) := by decide +kernel
theorem dX5_worker_48 : decode cX5_worker 48 = .ok (.invokevirtual 68, 3) := by decide +kernel
theorem dX5_worker_51 : decode cX5_worker 51 = .ok (.invokestatic 48, 3) := by decide +kernel
theorem dX5_worker_54 : decode cX5_worker 54 = .ok (.new 83, 3) := by decide +kernel
theorem dX5_worker_57 : decode cX5_worker 57 = .ok (.dup, 1) := by decide +kernel
theorem dX5_worker_58 : decode cX5_worker 58 = .ok (.aload_n 0, 1) := by decide +kernel
theorem dX5_worker_59 : decode cX5_worker 59 = .ok (.getfield 31, 3) := by decide +kernel
theorem dX5_worker_62 : decode cX5_worker 62 = .ok (.aload 7, 2) := by decide +kernel
theorem dX5_worker_64 : decode cX5_worker 64 = .ok (.iload_n 2, 1) := by decide +kernel
theorem dX5_worker_65 : decode cX5_worker 65 = .ok (.iload_n 3, 1) := by decide +kernel
theorem dX5_worker_66 : decode cX5_worker 66 = .ok (.iload 4, 2) := by decide +kernel
theorem dX5_worker_68 : decode cX5_worker 68 = .ok (.iload 5, 2) := by decide +kernel
theorem dX5_worker_70 : decode cX5_worker 70 = .ok (.iload 6, 2) := by decide +kernel
theorem dX5_worker_72 : decode cX5_worker 72 = .ok (.invokespecial 85, 3) := by decide +kernel
theorem dX5_worker_75 : decode cX5_worker 75 = .ok (.astore 8, 2) := by decide +kernel
theorem dX5_worker_77 : decode cX5_worker 77 = .ok (.aload_n 0, 1) := by decide +kernel
theorem dX5_worker_78 : decode cX5_worker 78 = .ok (.aload 8, 2) := by decide +kernel
theorem dX5_worker_80 : decode cX5_worker 80 = .ok (.aload 7, 2) := by decide +kernel
theorem dX5_worker_82 : decode cX5_worker 82 = .ok (.invokevirtual 72, 3) := by decide +kernel
theorem dX5_worker_85 : decode cX5_worker 85 = .ok (.aload 7, 2) := by decide +kernel
theorem dX5_worker_87 : decode cX5_worker 87 = .ok (.getfield 45, 3) := by decide +kernel
theorem dX5_worker_90 : decode cX5_worker 90 = .ok (.iconst 1, 1) := by decide +kernel
theorem dX5_worker_91 : decode cX5_worker 91 = .ok (.if_icmp .ne 29, 3) := by decide +kernel
theorem dX5_worker_94 : decode cX5_worker 94 = .ok (.aload 8, 2) := by decide +kernel
theorem dX5_worker_96 : decode cX5_worker 96 = .ok (.aload_n 0, 1) := by decide +kernel
theorem dX5_worker_97 : decode cX5_worker 97 = .ok (.getfield 10, 3) := by decide +kernel
theorem dX5_worker_100 : decode cX5_worker 100 = .ok (.invokevirtual 88, 3) := by decide +kernel
theorem dX5_worker_103 : decode cX5_worker 103 = .ok (.ifCond .ne 17, 3) := by decide +kernel
theorem dX5_worker_106 : decode cX5_worker 106 = .ok (.aload 7, 2) := by decide +kernel
theorem dX5_worker_108 : decode cX5_worker 108 = .ok (.aload 8, 2) := by decide +kernel
theorem dX5_worker_110 : decode cX5_worker 110 = .ok (.aload_n 0, 1) := by decide +kernel
theorem dX5_worker_111 : decode cX5_worker 111 = .ok (.getfield 10, 3) := by decide +kernel
theorem dX5_worker_114 : decode cX5_worker 114 = .ok (.invokevirtual 89, 3) := by decide +kernel
theorem dX5_worker_117 : decode cX5_worker 117 = .ok (.pop, 1) := by decide +kernel
theorem dX5_worker_118 : decode cX5_worker 118 = .ok (.iconst (-1), 1) := by decide +kernel
theorem dX5_worker_119 : decode cX5_worker 119 = .ok (.ireturn, 1) := by decide +kernel
theorem dX5_worker_120 : decode cX5_worker 120 = .ok (.aload 8, 2) := by decide +kernel
theorem dX5_worker_122 : decode cX5_worker 122 = .ok (.getfield 93, 3) := by decide +kernel
theorem dX5_worker_125 : decode cX5_worker 125 = .ok (.ireturn, 1) := by decide +kernel
theorem dX5_failing_0 : decode cX5_failing 0 = .ok (.aload_n 0, 1) := by decide +kernel
theorem dX5_failing_1 : decode cX5_failing 1 = .ok (.iload_n 1, 1) := by decide +kernel
theorem dX5_failing_2 : decode cX5_failing 2 = .ok (.invokevirtual 94, 3) := by decide +kernel
theorem dX5_failing_5 : decode cX5_failing 5 = .ok (.astore_n 3, 1) := by decide +kernel
theorem dX5_failing_6 : decode cX5_failing 6 = .ok (.iload_n 2, 1) := by decide +kernel
theorem dX5_failing_7 : decode cX5_failing 7 = .ok (.iconst 0, 1) := by decide +kernel
theorem dX5_failing_8 : decode cX5_failing 8 = .ok (.bipush 50, 2) := by decide +kernel
theorem dX5_failing_10 : decode cX5_failing 10 = .ok (.invokestatic 65, 3) := by decide +kernel
theorem dX5_failing_13 : decode cX5_failing 13 = .ok (.aload_n 3, 1) := by decide +kernel
theorem dX5_failing_14 : decode cX5_failing 14 = .ok (.getfield 98, 3) := by decide +kernel
theorem dX5_failing_17 : decode cX5_failing 17 = .ok (.istore 4, 2) := by decide +kernel
theorem dX5_failing_19 : decode cX5_failing 19 = .ok (.aload_n 3, 1) := by decide +kernel
theorem dX5_failing_20 : decode cX5_failing 20 = .ok (.iload_n 2, 1) := by decide +kernel
theorem dX5_failing_21 : decode cX5_failing 21 = .ok (.putfield 98, 3) := by decide +kernel
theorem dX5_failing_24 : decode cX5_failing 24 = .ok (.iload 4, 2) := by decide +kernel
theorem dX5_failing_26 : decode cX5_failing 26 = .ok (.ireturn, 1) := by decide +kernel
theorem dX5_begin_0 : decode cX5_begin 0 = .ok (.aload_n 0, 1) := by decide +kernel
theorem dX5_begin_1 : decode cX5_begin 1 = .ok (.getfield 27, 3) := by decide +kernel
theorem dX5_begin_4 : decode cX5_begin 4 = .ok (.getfield 45, 3) := by decide +kernel
theorem dX5_begin_7 : decode cX5_begin 7 = .ok (.iconst 1, 1) := by decide +kernel
theorem dX5_begin_8 : decode cX5_begin 8 = .ok (.if_icmp .eq 7, 3) := by decide +kernel
theorem dX5_begin_11 : decode cX5_begin 11 = .ok (.iconst 1, 1) := by decide +kernel
theorem dX5_begin_12 : decode cX5_begin 12 = .ok (.goto 4, 3) := by decide +kernel
theorem dX5_begin_15 : decode cX5_begin 15 = .ok (.iconst 0, 1) := by decide +kernel
theorem dX5_begin_16 : decode cX5_begin 16 = .ok (.invokestatic 48, 3) := by decide +kernel
theorem dX5_begin_19 : decode cX5_begin 19 = .ok (.aload_n 0, 1) := by decide +kernel
theorem dX5_begin_20 : decode cX5_begin 20 = .ok (.getfield 27, 3) := by decide +kernel
theorem dX5_begin_23 : decode cX5_begin 23 = .ok (.aload_n 0, 1) := by decide +kernel
theorem dX5_begin_24 : decode cX5_begin 24 = .ok (.getfield 10, 3) := by decide +kernel
theorem dX5_begin_27 : decode cX5_begin 27 = .ok (.invokevirtual 76, 3) := by decide +kernel
theorem dX5_begin_30 : decode cX5_begin 30 = .ok (.ireturn, 1) := by decide +kernel
theorem dX5_ends_0 : decode cX5_ends 0 = .ok (.aload_n 0, 1) := by decide +kernel
theorem dX5_ends_1 : decode cX5_ends 1 = .ok (.iload_n 1, 1) := by decide +kernel
theorem dX5_ends_2 : decode cX5_ends 2 = .ok (.invokevirtual 94, 3) := by decide +kernel
theorem dX5_ends_5 : decode cX5_ends 5 = .ok (.astore_n 3, 1) := by decide +kernel
theorem dX5_ends_6 : decode cX5_ends 6 = .ok (.iload_n 2, 1) := by decide +kernel
theorem dX5_ends_7 : decode cX5_ends 7 = .ok (.iconst 0, 1) := by decide +kernel
theorem dX5_ends_8 : decode cX5_ends 8 = .ok (.bipush 9, 2) := by decide +kernel
theorem dX5_ends_10 : decode cX5_ends 10 = .ok (.invokestatic 65, 3) := by decide +kernel
theorem dX5_ends_13 : decode cX5_ends 13 = .ok (.aload_n 3, 1) := by decide +kernel
theorem dX5_ends_14 : decode cX5_ends 14 = .ok (.getfield 101, 3) := by decide +kernel
theorem dX5_ends_17 : decode cX5_ends 17 = .ok (.iconst 1, 1) := by decide +kernel
theorem dX5_ends_18 : decode cX5_ends 18 = .ok (.if_icmp .ne 7, 3) := by decide +kernel
theorem dX5_ends_21 : decode cX5_ends 21 = .ok (.iconst 1, 1) := by decide +kernel
theorem dX5_ends_22 : decode cX5_ends 22 = .ok (.goto 4, 3) := by decide +kernel
theorem dX5_ends_25 : decode cX5_ends 25 = .ok (.iconst 0, 1) := by decide +kernel
theorem dX5_ends_26 : decode cX5_ends 26 = .ok (.invokestatic 48, 3) := by decide +kernel
theorem dX5_ends_29 : decode cX5_ends 29 = .ok (.aload_n 3, 1) := by decide +kernel
theorem dX5_ends_30 : decode cX5_ends 30 = .ok (.iconst 0, 1) := by decide +kernel
theorem dX5_ends_31 : decode cX5_ends 31 = .ok (.putfield 101, 3) := by decide +kernel
theorem dX5_ends_34 : decode cX5_ends 34 = .ok (.aload_n 0, 1) := by decide +kernel
theorem dX5_ends_35 : decode cX5_ends 35 = .ok (.getfield 10, 3) := by decide +kernel
theorem dX5_ends_38 : decode cX5_ends 38 = .ok (.iconst 5, 1) := by decide +kernel
theorem dX5_ends_39 : decode cX5_ends 39 = .ok (.aload_n 3, 1) := by decide +kernel
theorem dX5_ends_40 : decode cX5_ends 40 = .ok (.getfield 93, 3) := by decide +kernel
theorem dX5_ends_43 : decode cX5_ends 43 = .ok (.iload_n 2, 1) := by decide +kernel
theorem dX5_ends_44 : decode cX5_ends 44 = .ok (.invokevirtual 102, 3) := by decide +kernel
theorem dX5_ends_47 : decode cX5_ends 47 = .ok (.aload_n 0, 1) := by decide +kernel
theorem dX5_ends_48 : decode cX5_ends 48 = .ok (.aload_n 3, 1) := by decide +kernel
theorem dX5_ends_49 : decode cX5_ends 49 = .ok (.iload_n 2, 1) := by decide +kernel
theorem dX5_ends_50 : decode cX5_ends 50 = .ok (.invokevirtual 105, 3) := by decide +kernel
theorem dX5_ends_53 : decode cX5_ends 53 = .ok (.return_, 1) := by decide +kernel
theorem dX5_kill_0 : decode cX5_kill 0 = .ok (.aload_n 0, 1) := by decide +kernel
theorem dX5_kill_1 : decode cX5_kill 1 = .ok (.iload_n 1, 1) := by decide +kernel
theorem dX5_kill_2 : decode cX5_kill 2 = .ok (.invokevirtual 109, 3) := by decide +kernel
theorem dX5_kill_5 : decode cX5_kill 5 = .ok (.astore_n 2, 1) := by decide +kernel
theorem dX5_kill_6 : decode cX5_kill 6 = .ok (.aload_n 2, 1) := by decide +kernel
theorem dX5_kill_7 : decode cX5_kill 7 = .ok (.getfield 113, 3) := by decide +kernel
theorem dX5_kill_10 : decode cX5_kill 10 = .ok (.iconst 1, 1) := by decide +kernel
theorem dX5_kill_11 : decode cX5_kill 11 = .ok (.if_icmp .ne 7, 3) := by decide +kernel
theorem dX5_kill_14 : decode cX5_kill 14 = .ok (.iconst 1, 1) := by decide +kernel
theorem dX5_kill_15 : decode cX5_kill 15 = .ok (.goto 4, 3) := by decide +kernel
theorem dX5_kill_18 : decode cX5_kill 18 = .ok (.iconst 0, 1) := by decide +kernel
theorem dX5_kill_19 : decode cX5_kill 19 = .ok (.invokestatic 48, 3) := by decide +kernel
theorem dX5_kill_22 : decode cX5_kill 22 = .ok (.aload_n 2, 1) := by decide +kernel
theorem dX5_kill_23 : decode cX5_kill 23 = .ok (.aload_n 0, 1) := by decide +kernel
theorem dX5_kill_24 : decode cX5_kill 24 = .ok (.getfield 10, 3) := by decide +kernel
theorem dX5_kill_27 : decode cX5_kill 27 = .ok (.invokevirtual 114, 3) := by decide +kernel
theorem dX5_kill_30 : decode cX5_kill 30 = .ok (.istore_n 3, 1) := by decide +kernel
theorem dX5_kill_31 : decode cX5_kill 31 = .ok (.aload_n 0, 1) := by decide +kernel
theorem dX5_kill_32 : decode cX5_kill 32 = .ok (.aload_n 2, 1) := by decide +kernel
theorem dX5_kill_33 : decode cX5_kill 33 = .ok (.bipush 9, 2) := by decide +kernel
theorem dX5_kill_35 : decode cX5_kill 35 = .ok (.invokevirtual 105, 3) := by decide +kernel
theorem dX5_kill_38 : decode cX5_kill 38 = .ok (.iload_n 3, 1) := by decide +kernel
theorem dX5_kill_39 : decode cX5_kill 39 = .ok (.ireturn, 1) := by decide +kernel
theorem dX5_stop_0 : decode cX5_stop 0 = .ok (.aload_n 0, 1) := by decide +kernel
theorem dX5_stop_1 : decode cX5_stop 1 = .ok (.iload_n 1, 1) := by decide +kernel
theorem dX5_stop_2 : decode cX5_stop 2 = .ok (.invokevirtual 109, 3) := by decide +kernel
theorem dX5_stop_5 : decode cX5_stop 5 = .ok (.astore_n 2, 1) := by decide +kernel
theorem dX5_stop_6 : decode cX5_stop 6 = .ok (.aload_n 2, 1) := by decide +kernel
theorem dX5_stop_7 : decode cX5_stop 7 = .ok (.invokestatic 118, 3) := by decide +kernel
theorem dX5_stop_10 : decode cX5_stop 10 = .ok (.astore_n 3, 1) := by decide +kernel
theorem dX5_stop_11 : decode cX5_stop 11 = .ok (.aload_n 2, 1) := by decide +kernel
theorem dX5_stop_12 : decode cX5_stop 12 = .ok (.getfield 113, 3) := by decide +kernel
theorem dX5_stop_15 : decode cX5_stop 15 = .ok (.iconst 1, 1) := by decide +kernel
theorem dX5_stop_16 : decode cX5_stop 16 = .ok (.if_icmp .ne 7, 3) := by decide +kernel
theorem dX5_stop_19 : decode cX5_stop 19 = .ok (.iconst 1, 1) := by decide +kernel
theorem dX5_stop_20 : decode cX5_stop 20 = .ok (.goto 4, 3) := by decide +kernel
theorem dX5_stop_23 : decode cX5_stop 23 = .ok (.iconst 0, 1) := by decide +kernel
theorem dX5_stop_24 : decode cX5_stop 24 = .ok (.invokestatic 48, 3) := by decide +kernel
theorem dX5_stop_27 : decode cX5_stop 27 = .ok (.aload_n 3, 1) := by decide +kernel
theorem dX5_stop_28 : decode cX5_stop 28 = .ok (.aload_n 2, 1) := by decide +kernel
theorem dX5_stop_29 : decode cX5_stop 29 = .ok (.aload_n 0, 1) := by decide +kernel
theorem dX5_stop_30 : decode cX5_stop 30 = .ok (.getfield 10, 3) := by decide +kernel
theorem dX5_stop_33 : decode cX5_stop 33 = .ok (.invokevirtual 122, 3) := by decide +kernel
theorem dX5_stop_36 : decode cX5_stop 36 = .ok (.return_, 1) := by decide +kernel
theorem dX5_again_0 : decode cX5_again 0 = .ok (.aload_n 0, 1) := by decide +kernel
theorem dX5_again_1 : decode cX5_again 1 = .ok (.iload_n 1, 1) := by decide +kernel
theorem dX5_again_2 : decode cX5_again 2 = .ok (.invokevirtual 109, 3) := by decide +kernel
theorem dX5_again_5 : decode cX5_again 5 = .ok (.astore_n 2, 1) := by decide +kernel
theorem dX5_again_6 : decode cX5_again 6 = .ok (.aload_n 2, 1) := by decide +kernel
theorem dX5_again_7 : decode cX5_again 7 = .ok (.invokestatic 118, 3) := by decide +kernel
theorem dX5_again_10 : decode cX5_again 10 = .ok (.astore_n 3, 1) := by decide +kernel
theorem dX5_again_11 : decode cX5_again 11 = .ok (.aload_n 2, 1) := by decide +kernel
theorem dX5_again_12 : decode cX5_again 12 = .ok (.getfield 113, 3) := by decide +kernel
theorem dX5_again_15 : decode cX5_again 15 = .ok (.iconst 1, 1) := by decide +kernel
theorem dX5_again_16 : decode cX5_again 16 = .ok (.if_icmp .eq 15, 3) := by decide +kernel
theorem dX5_again_19 : decode cX5_again 19 = .ok (.aload_n 3, 1) := by decide +kernel
theorem dX5_again_20 : decode cX5_again 20 = .ok (.getfield 45, 3) := by decide +kernel
theorem dX5_again_23 : decode cX5_again 23 = .ok (.iconst 1, 1) := by decide +kernel
theorem dX5_again_24 : decode cX5_again 24 = .ok (.if_icmp .ne 7, 3) := by decide +kernel
theorem dX5_again_27 : decode cX5_again 27 = .ok (.iconst 1, 1) := by decide +kernel
theorem dX5_again_28 : decode cX5_again 28 = .ok (.goto 4, 3) := by decide +kernel
theorem dX5_again_31 : decode cX5_again 31 = .ok (.iconst 0, 1) := by decide +kernel
theorem dX5_again_32 : decode cX5_again 32 = .ok (.invokestatic 48, 3) := by decide +kernel
theorem dX5_again_35 : decode cX5_again 35 = .ok (.aload_n 2, 1) := by decide +kernel
theorem dX5_again_36 : decode cX5_again 36 = .ok (.aload_n 0, 1) := by decide +kernel
theorem dX5_again_37 : decode cX5_again 37 = .ok (.getfield 10, 3) := by decide +kernel
theorem dX5_again_40 : decode cX5_again 40 = .ok (.invokevirtual 126, 3) := by decide +kernel
theorem dX5_again_43 : decode cX5_again 43 = .ok (.ireturn, 1) := by decide +kernel
theorem dX5_remove_0 : decode cX5_remove 0 = .ok (.aload_n 0, 1) := by decide +kernel
theorem dX5_remove_1 : decode cX5_remove 1 = .ok (.iload_n 1, 1) := by decide +kernel
theorem dX5_remove_2 : decode cX5_remove 2 = .ok (.invokevirtual 109, 3) := by decide +kernel
theorem dX5_remove_5 : decode cX5_remove 5 = .ok (.astore_n 2, 1) := by decide +kernel
theorem dX5_remove_6 : decode cX5_remove 6 = .ok (.aload_n 2, 1) := by decide +kernel
theorem dX5_remove_7 : decode cX5_remove 7 = .ok (.invokestatic 118, 3) := by decide +kernel
theorem dX5_remove_10 : decode cX5_remove 10 = .ok (.astore_n 3, 1) := by decide +kernel
theorem dX5_remove_11 : decode cX5_remove 11 = .ok (.aload_n 2, 1) := by decide +kernel
theorem dX5_remove_12 : decode cX5_remove 12 = .ok (.getfield 113, 3) := by decide +kernel
theorem dX5_remove_15 : decode cX5_remove 15 = .ok (.iconst 1, 1) := by decide +kernel
theorem dX5_remove_16 : decode cX5_remove 16 = .ok (.if_icmp .eq 7, 3) := by decide +kernel
theorem dX5_remove_19 : decode cX5_remove 19 = .ok (.iconst 1, 1) := by decide +kernel
theorem dX5_remove_20 : decode cX5_remove 20 = .ok (.goto 4, 3) := by decide +kernel
theorem dX5_remove_23 : decode cX5_remove 23 = .ok (.iconst 0, 1) := by decide +kernel
theorem dX5_remove_24 : decode cX5_remove 24 = .ok (.invokestatic 48, 3) := by decide +kernel
theorem dX5_remove_27 : decode cX5_remove 27 = .ok (.aload_n 3, 1) := by decide +kernel
theorem dX5_remove_28 : decode cX5_remove 28 = .ok (.aload_n 2, 1) := by decide +kernel
theorem dX5_remove_29 : decode cX5_remove 29 = .ok (.aload_n 0, 1) := by decide +kernel
theorem dX5_remove_30 : decode cX5_remove 30 = .ok (.getfield 10, 3) := by decide +kernel
theorem dX5_remove_33 : decode cX5_remove 33 = .ok (.invokevirtual 89, 3) := by decide +kernel
theorem dX5_remove_36 : decode cX5_remove 36 = .ok (.ireturn, 1) := by decide +kernel
theorem dX5_pass_0 : decode cX5_pass 0 = .ok (.iload_n 1, 1) := by decide +kernel
theorem dX5_pass_1 : decode cX5_pass 1 = .ok (.iconst 0, 1) := by decide +kernel
theorem dX5_pass_2 : decode cX5_pass 2 = .ok (.sipush 10000, 3) := by decide +kernel
theorem dX5_pass_5 : decode cX5_pass 5 = .ok (.invokestatic 65, 3) := by decide +kernel
theorem dX5_pass_8 : decode cX5_pass 8 = .ok (.aload_n 0, 1) := by decide +kernel
theorem dX5_pass_9 : decode cX5_pass 9 = .ok (.getfield 10, 3) := by decide +kernel
theorem dX5_pass_12 : decode cX5_pass 12 = .ok (.dup, 1) := by decide +kernel
theorem dX5_pass_13 : decode cX5_pass 13 = .ok (.getfield 127, 3) := by decide +kernel
theorem dX5_pass_16 : decode cX5_pass 16 = .ok (.iload_n 1, 1) := by decide +kernel
theorem dX5_pass_17 : decode cX5_pass 17 = .ok (.iadd, 1) := by decide +kernel
theorem dX5_pass_18 : decode cX5_pass 18 = .ok (.putfield 127, 3) := by decide +kernel
theorem dX5_pass_21 : decode cX5_pass 21 = .ok (.aload_n 0, 1) := by decide +kernel
theorem dX5_pass_22 : decode cX5_pass 22 = .ok (.getfield 10, 3) := by decide +kernel
theorem dX5_pass_25 : decode cX5_pass 25 = .ok (.getfield 127, 3) := by decide +kernel
theorem dX5_pass_28 : decode cX5_pass 28 = .ok (.ireturn, 1) := by decide +kernel
theorem dX5_state_0 : decode cX5_state 0 = .ok (.aload_n 0, 1) := by decide +kernel
theorem dX5_state_1 : decode cX5_state 1 = .ok (.iload_n 1, 1) := by decide +kernel
theorem dX5_state_2 : decode cX5_state 2 = .ok (.invokevirtual 130, 3) := by decide +kernel
theorem dX5_state_5 : decode cX5_state 5 = .ok (.getfield 113, 3) := by decide +kernel
theorem dX5_state_8 : decode cX5_state 8 = .ok (.ireturn, 1) := by decide +kernel
theorem dX5_about_0 : decode cX5_about 0 = .ok (.aload_n 0, 1) := by decide +kernel
theorem dX5_about_1 : decode cX5_about 1 = .ok (.iload_n 1, 1) := by decide +kernel
theorem dX5_about_2 : decode cX5_about 2 = .ok (.invokevirtual 109, 3) := by decide +kernel
theorem dX5_about_5 : decode cX5_about 5 = .ok (.astore_n 3, 1) := by decide +kernel
theorem dX5_about_6 : decode cX5_about 6 = .ok (.iload_n 2, 1) := by decide +kernel
theorem dX5_about_7 : decode cX5_about 7 = .ok (.tableswitch 186 0 7 #[45, 64, 84, 89, 94, 107, 133, 163], 45) := by decide +kernel
theorem dX5_about_52 : decode cX5_about 52 = .ok (.aload_n 3, 1) := by decide +kernel
theorem dX5_about_53 : decode cX5_about 53 = .ok (.getfield 133, 3) := by decide +kernel
theorem dX5_about_56 : decode cX5_about 56 = .ok (.ifnonnull 7, 3) := by decide +kernel
theorem dX5_about_59 : decode cX5_about 59 = .ok (.iconst (-1), 1) := by decide +kernel
theorem dX5_about_60 : decode cX5_about 60 = .ok (.goto 10, 3) := by decide +kernel
theorem dX5_about_63 : decode cX5_about 63 = .ok (.aload_n 3, 1) := by decide +kernel
theorem dX5_about_64 : decode cX5_about 64 = .ok (.getfield 133, 3) := by decide +kernel
theorem dX5_about_67 : decode cX5_about 67 = .ok (.getfield 80, 3) := by decide +kernel
theorem dX5_about_70 : decode cX5_about 70 = .ok (.ireturn, 1) := by decide +kernel
theorem dX5_about_71 : decode cX5_about 71 = .ok (.aload_n 3, 1) := by decide +kernel
theorem dX5_about_72 : decode cX5_about 72 = .ok (.getfield 133, 3) := by decide +kernel
theorem dX5_about_75 : decode cX5_about 75 = .ok (.ifnonnull 7, 3) := by decide +kernel
theorem dX5_about_78 : decode cX5_about 78 = .ok (.iconst 0, 1) := by decide +kernel
theorem dX5_about_79 : decode cX5_about 79 = .ok (.goto 11, 3) := by decide +kernel
theorem dX5_about_82 : decode cX5_about 82 = .ok (.aload_n 3, 1) := by decide +kernel
theorem dX5_about_83 : decode cX5_about 83 = .ok (.getfield 133, 3) := by decide +kernel
theorem dX5_about_86 : decode cX5_about 86 = .ok (.aload_n 3, 1) := by decide +kernel
theorem dX5_about_87 : decode cX5_about 87 = .ok (.invokevirtual 136, 3) := by decide +kernel
theorem dX5_about_90 : decode cX5_about 90 = .ok (.ireturn, 1) := by decide +kernel
theorem dX5_about_91 : decode cX5_about 91 = .ok (.aload_n 3, 1) := by decide +kernel
theorem dX5_about_92 : decode cX5_about 92 = .ok (.getfield 140, 3) := by decide +kernel
theorem dX5_about_95 : decode cX5_about 95 = .ok (.ireturn, 1) := by decide +kernel
theorem dX5_about_96 : decode cX5_about 96 = .ok (.aload_n 3, 1) := by decide +kernel
theorem dX5_about_97 : decode cX5_about 97 = .ok (.getfield 143, 3) := by decide +kernel
theorem dX5_about_100 : decode cX5_about 100 = .ok (.ireturn, 1) := by decide +kernel
theorem dX5_about_101 : decode cX5_about 101 = .ok (.aload_n 3, 1) := by decide +kernel
theorem dX5_about_102 : decode cX5_about 102 = .ok (.instanceof 22, 3) := by decide +kernel
theorem dX5_about_105 : decode cX5_about 105 = .ok (.ifCond .eq 7, 3) := by decide +kernel
theorem dX5_about_108 : decode cX5_about 108 = .ok (.iconst 1, 1) := by decide +kernel
theorem dX5_about_109 : decode cX5_about 109 = .ok (.goto 4, 3) := by decide +kernel
theorem dX5_about_112 : decode cX5_about 112 = .ok (.iconst 0, 1) := by decide +kernel
theorem dX5_about_113 : decode cX5_about 113 = .ok (.ireturn, 1) := by decide +kernel
theorem dX5_about_114 : decode cX5_about 114 = .ok (.aload_n 3, 1) := by decide +kernel
theorem dX5_about_115 : decode cX5_about 115 = .ok (.instanceof 22, 3) := by decide +kernel
theorem dX5_about_118 : decode cX5_about 118 = .ok (.ifCond .eq 20, 3) := by decide +kernel
theorem dX5_about_121 : decode cX5_about 121 = .ok (.aload_n 3, 1) := by decide +kernel
theorem dX5_about_122 : decode cX5_about 122 = .ok (.checkcast 22, 3) := by decide +kernel
theorem dX5_about_125 : decode cX5_about 125 = .ok (.astore 4, 2) := by decide +kernel
theorem dX5_about_127 : decode cX5_about 127 = .ok (.aload 4, 2) := by decide +kernel
theorem dX5_about_129 : decode cX5_about 129 = .ok (.getfield 146, 3) := by decide +kernel
theorem dX5_about_132 : decode cX5_about 132 = .ok (.invokevirtual 150, 3) := by decide +kernel
theorem dX5_about_135 : decode cX5_about 135 = .ok (.goto 4, 3) := by decide +kernel
theorem dX5_about_138 : decode cX5_about 138 = .ok (.iconst (-1), 1) := by decide +kernel
theorem dX5_about_139 : decode cX5_about 139 = .ok (.ireturn, 1) := by decide +kernel
theorem dX5_about_140 : decode cX5_about 140 = .ok (.aload_n 3, 1) := by decide +kernel
theorem dX5_about_141 : decode cX5_about 141 = .ok (.instanceof 22, 3) := by decide +kernel
theorem dX5_about_144 : decode cX5_about 144 = .ok (.ifCond .eq 24, 3) := by decide +kernel
theorem dX5_about_147 : decode cX5_about 147 = .ok (.aload_n 3, 1) := by decide +kernel
theorem dX5_about_148 : decode cX5_about 148 = .ok (.checkcast 22, 3) := by decide +kernel
theorem dX5_about_151 : decode cX5_about 151 = .ok (.astore 4, 2) := by decide +kernel
theorem dX5_about_153 : decode cX5_about 153 = .ok (.aload 4, 2) := by decide +kernel
theorem dX5_about_155 : decode cX5_about 155 = .ok (.aload_n 0, 1) := by decide +kernel
theorem dX5_about_156 : decode cX5_about 156 = .ok (.getfield 10, 3) := by decide +kernel
theorem dX5_about_159 : decode cX5_about 159 = .ok (.getfield 127, 3) := by decide +kernel
theorem dX5_about_162 : decode cX5_about 162 = .ok (.invokevirtual 156, 3) := by decide +kernel
theorem dX5_about_165 : decode cX5_about 165 = .ok (.goto 4, 3) := by decide +kernel
theorem dX5_about_168 : decode cX5_about 168 = .ok (.iconst (-1), 1) := by decide +kernel
theorem dX5_about_169 : decode cX5_about 169 = .ok (.ireturn, 1) := by decide +kernel
theorem dX5_about_170 : decode cX5_about 170 = .ok (.aload_n 3, 1) := by decide +kernel
theorem dX5_about_171 : decode cX5_about 171 = .ok (.instanceof 83, 3) := by decide +kernel
theorem dX5_about_174 : decode cX5_about 174 = .ok (.ifCond .eq 17, 3) := by decide +kernel
theorem dX5_about_177 : decode cX5_about 177 = .ok (.aload_n 3, 1) := by decide +kernel
theorem dX5_about_178 : decode cX5_about 178 = .ok (.checkcast 83, 3) := by decide +kernel
theorem dX5_about_181 : decode cX5_about 181 = .ok (.astore 4, 2) := by decide +kernel
theorem dX5_about_183 : decode cX5_about 183 = .ok (.aload 4, 2) := by decide +kernel
theorem dX5_about_185 : decode cX5_about 185 = .ok (.getfield 98, 3) := by decide +kernel
theorem dX5_about_188 : decode cX5_about 188 = .ok (.goto 4, 3) := by decide +kernel
theorem dX5_about_191 : decode cX5_about 191 = .ok (.iconst (-1), 1) := by decide +kernel
theorem dX5_about_192 : decode cX5_about 192 = .ok (.ireturn, 1) := by decide +kernel
theorem dX5_about_193 : decode cX5_about 193 = .ok (.new 160, 3) := by decide +kernel
theorem dX5_about_196 : decode cX5_about 196 = .ok (.dup, 1) := by decide +kernel
theorem dX5_about_197 : decode cX5_about 197 = .ok (.invokespecial 162, 3) := by decide +kernel
theorem dX5_about_200 : decode cX5_about 200 = .ok (.athrow, 1) := by decide +kernel
theorem dX5_child_0 : decode cX5_child 0 = .ok (.aload_n 0, 1) := by decide +kernel
theorem dX5_child_1 : decode cX5_child 1 = .ok (.iload_n 1, 1) := by decide +kernel
theorem dX5_child_2 : decode cX5_child 2 = .ok (.invokevirtual 61, 3) := by decide +kernel
theorem dX5_child_5 : decode cX5_child 5 = .ok (.astore_n 3, 1) := by decide +kernel
theorem dX5_child_6 : decode cX5_child 6 = .ok (.iload_n 2, 1) := by decide +kernel
theorem dX5_child_7 : decode cX5_child 7 = .ok (.ifCond .lt 31, 3) := by decide +kernel
theorem dX5_child_10 : decode cX5_child 10 = .ok (.iload_n 2, 1) := by decide +kernel
theorem dX5_child_11 : decode cX5_child 11 = .ok (.aload_n 3, 1) := by decide +kernel
theorem dX5_child_12 : decode cX5_child 12 = .ok (.getfield 146, 3) := by decide +kernel
theorem dX5_child_15 : decode cX5_child 15 = .ok (.invokevirtual 150, 3) := by decide +kernel
theorem dX5_child_18 : decode cX5_child 18 = .ok (.if_icmp .ge 20, 3) := by decide +kernel
theorem dX5_child_21 : decode cX5_child 21 = .ok (.aload_n 3, 1) := by decide +kernel
theorem dX5_child_22 : decode cX5_child 22 = .ok (.getfield 146, 3) := by decide +kernel
theorem dX5_child_25 : decode cX5_child 25 = .ok (.iload_n 2, 1) := by decide +kernel
theorem dX5_child_26 : decode cX5_child 26 = .ok (.invokevirtual 163, 3) := by decide +kernel
theorem dX5_child_29 : decode cX5_child 29 = .ok (.checkcast 16, 3) := by decide +kernel
theorem dX5_child_32 : decode cX5_child 32 = .ok (.getfield 167, 3) := by decide +kernel
theorem dX5_child_35 : decode cX5_child 35 = .ok (.goto 4, 3) := by decide +kernel
theorem dX5_child_38 : decode cX5_child 38 = .ok (.iconst (-1), 1) := by decide +kernel
theorem dX5_child_39 : decode cX5_child 39 = .ok (.ireturn, 1) := by decide +kernel
theorem dX5_event_0 : decode cX5_event 0 = .ok (.iload_n 2, 1) := by decide +kernel
theorem dX5_event_1 : decode cX5_event 1 = .ok (.iconst 0, 1) := by decide +kernel
theorem dX5_event_2 : decode cX5_event 2 = .ok (.iconst 3, 1) := by decide +kernel
theorem dX5_event_3 : decode cX5_event 3 = .ok (.invokestatic 65, 3) := by decide +kernel
theorem dX5_event_6 : decode cX5_event 6 = .ok (.aload_n 0, 1) := by decide +kernel
theorem dX5_event_7 : decode cX5_event 7 = .ok (.getfield 10, 3) := by decide +kernel
theorem dX5_event_10 : decode cX5_event 10 = .ok (.iload_n 1, 1) := by decide +kernel
theorem dX5_event_11 : decode cX5_event 11 = .ok (.iload_n 2, 1) := by decide +kernel
theorem dX5_event_12 : decode cX5_event 12 = .ok (.invokevirtual 168, 3) := by decide +kernel
theorem dX5_event_15 : decode cX5_event 15 = .ok (.ireturn, 1) := by decide +kernel
theorem dX5_total_0 : decode cX5_total 0 = .ok (.iload_n 1, 1) := by decide +kernel
theorem dX5_total_1 : decode cX5_total 1 = .ok (.tableswitch 86 0 6 #[43, 51, 56, 62, 68, 76, 81], 43) := by decide +kernel
theorem dX5_total_44 : decode cX5_total 44 = .ok (.aload_n 0, 1) := by decide +kernel
theorem dX5_total_45 : decode cX5_total 45 = .ok (.getfield 10, 3) := by decide +kernel
theorem dX5_total_48 : decode cX5_total 48 = .ok (.getfield 127, 3) := by decide +kernel
theorem dX5_total_51 : decode cX5_total 51 = .ok (.ireturn, 1) := by decide +kernel
theorem dX5_total_52 : decode cX5_total 52 = .ok (.aload_n 0, 1) := by decide +kernel
theorem dX5_total_53 : decode cX5_total 53 = .ok (.getfield 31, 3) := by decide +kernel
theorem dX5_total_56 : decode cX5_total 56 = .ok (.ireturn, 1) := by decide +kernel
theorem dX5_total_57 : decode cX5_total 57 = .ok (.aload_n 0, 1) := by decide +kernel
theorem dX5_total_58 : decode cX5_total 58 = .ok (.iconst 1, 1) := by decide +kernel
theorem dX5_total_59 : decode cX5_total 59 = .ok (.invokevirtual 172, 3) := by decide +kernel
theorem dX5_total_62 : decode cX5_total 62 = .ok (.ireturn, 1) := by decide +kernel
theorem dX5_total_63 : decode cX5_total 63 = .ok (.aload_n 0, 1) := by decide +kernel
theorem dX5_total_64 : decode cX5_total 64 = .ok (.iconst 2, 1) := by decide +kernel
theorem dX5_total_65 : decode cX5_total 65 = .ok (.invokevirtual 172, 3) := by decide +kernel
theorem dX5_total_68 : decode cX5_total 68 = .ok (.ireturn, 1) := by decide +kernel
theorem dX5_total_69 : decode cX5_total 69 = .ok (.aload_n 0, 1) := by decide +kernel
theorem dX5_total_70 : decode cX5_total 70 = .ok (.getfield 10, 3) := by decide +kernel
theorem dX5_total_73 : decode cX5_total 73 = .ok (.getfield 175, 3) := by decide +kernel
theorem dX5_total_76 : decode cX5_total 76 = .ok (.ireturn, 1) := by decide +kernel
theorem dX5_total_77 : decode cX5_total 77 = .ok (.aload_n 0, 1) := by decide +kernel
theorem dX5_total_78 : decode cX5_total 78 = .ok (.getfield 35, 3) := by decide +kernel
theorem dX5_total_81 : decode cX5_total 81 = .ok (.ireturn, 1) := by decide +kernel
theorem dX5_total_82 : decode cX5_total 82 = .ok (.aload_n 0, 1) := by decide +kernel
theorem dX5_total_83 : decode cX5_total 83 = .ok (.getfield 38, 3) := by decide +kernel
theorem dX5_total_86 : decode cX5_total 86 = .ok (.ireturn, 1) := by decide +kernel
theorem dX5_total_87 : decode cX5_total 87 = .ok (.new 160, 3) := by decide +kernel
theorem dX5_total_90 : decode cX5_total 90 = .ok (.dup, 1) := by decide +kernel
theorem dX5_total_91 : decode cX5_total 91 = .ok (.invokespecial 162, 3) := by decide +kernel
theorem dX5_total_94 : decode cX5_total 94 = .ok (.athrow, 1) := by decide +kernel
theorem dX5_wantWithin_0 : decode cX5_wantWithin 0 = .ok (.iload_n 0, 1) := by decide +kernel
theorem dX5_wantWithin_1 : decode cX5_wantWithin 1 = .ok (.iload_n 1, 1) := by decide +kernel
theorem dX5_wantWithin_2 : decode cX5_wantWithin 2 = .ok (.if_icmp .lt 8, 3) := by decide +kernel
theorem dX5_wantWithin_5 : decode cX5_wantWithin 5 = .ok (.iload_n 0, 1) := by decide +kernel
theorem dX5_wantWithin_6 : decode cX5_wantWithin 6 = .ok (.iload_n 2, 1) := by decide +kernel
end
section
theorem dX5_wantWithin_7 : decode cX5_wantWithin 7 = .ok (.if_icmp .le 11, 3) := by decide +kernel
theorem dX5_wantWithin_10 : decode cX5_wantWithin 10 = .ok (.new 160, 3) := by decide +kernel
theorem dX5_wantWithin_13 : decode cX5_wantWithin 13 = .ok (.dup, 1) := by decide +kernel
theorem dX5_wantWithin_14 : decode cX5_wantWithin 14 = .ok (.invokespecial 162, 3) := by decide +kernel
theorem dX5_wantWithin_17 : decode cX5_wantWithin 17 = .ok (.athrow, 1) := by decide +kernel
theorem dX5_wantWithin_18 : decode cX5_wantWithin 18 = .ok (.return_, 1) := by decide +kernel
theorem dX5_wantBounds_0 : decode cX5_wantBounds 0 = .ok (.iload_n 0, 1) := by decide +kernel
theorem dX5_wantBounds_1 : decode cX5_wantBounds 1 = .ok (.iconst 0, 1) := by decide +kernel
theorem dX5_wantBounds_2 : decode cX5_wantBounds 2 = .ok (.iconst 2, 1) := by decide +kernel
theorem dX5_wantBounds_3 : decode cX5_wantBounds 3 = .ok (.invokestatic 65, 3) := by decide +kernel
theorem dX5_wantBounds_6 : decode cX5_wantBounds 6 = .ok (.iload_n 1, 1) := by decide +kernel
theorem dX5_wantBounds_7 : decode cX5_wantBounds 7 = .ok (.iconst 0, 1) := by decide +kernel
theorem dX5_wantBounds_8 : decode cX5_wantBounds 8 = .ok (.bipush 50, 2) := by decide +kernel
theorem dX5_wantBounds_10 : decode cX5_wantBounds 10 = .ok (.invokestatic 65, 3) := by decide +kernel
theorem dX5_wantBounds_13 : decode cX5_wantBounds 13 = .ok (.iload_n 2, 1) := by decide +kernel
theorem dX5_wantBounds_14 : decode cX5_wantBounds 14 = .ok (.iconst 1, 1) := by decide +kernel
theorem dX5_wantBounds_15 : decode cX5_wantBounds 15 = .ok (.sipush 1000, 3) := by decide +kernel
theorem dX5_wantBounds_18 : decode cX5_wantBounds 18 = .ok (.invokestatic 65, 3) := by decide +kernel
theorem dX5_wantBounds_21 : decode cX5_wantBounds 21 = .ok (.return_, 1) := by decide +kernel
theorem dX5_wantState_0 : decode cX5_wantState 0 = .ok (.iload_n 0, 1) := by decide +kernel
theorem dX5_wantState_1 : decode cX5_wantState 1 = .ok (.ifCond .ne 11, 3) := by decide +kernel
theorem dX5_wantState_4 : decode cX5_wantState 4 = .ok (.new 177, 3) := by decide +kernel
theorem dX5_wantState_7 : decode cX5_wantState 7 = .ok (.dup, 1) := by decide +kernel
theorem dX5_wantState_8 : decode cX5_wantState 8 = .ok (.invokespecial 179, 3) := by decide +kernel
theorem dX5_wantState_11 : decode cX5_wantState 11 = .ok (.athrow, 1) := by decide +kernel
theorem dX5_wantState_12 : decode cX5_wantState 12 = .ok (.return_, 1) := by decide +kernel
theorem dX5_madeNode_0 : decode cX5_madeNode 0 = .ok (.iload_n 1, 1) := by decide +kernel
theorem dX5_madeNode_1 : decode cX5_madeNode 1 = .ok (.iconst 0, 1) := by decide +kernel
theorem dX5_madeNode_2 : decode cX5_madeNode 2 = .ok (.bipush 79, 2) := by decide +kernel
theorem dX5_madeNode_4 : decode cX5_madeNode 4 = .ok (.invokestatic 65, 3) := by decide +kernel
theorem dX5_madeNode_7 : decode cX5_madeNode 7 = .ok (.aload_n 0, 1) := by decide +kernel
theorem dX5_madeNode_8 : decode cX5_madeNode 8 = .ok (.getfield 18, 3) := by decide +kernel
theorem dX5_madeNode_11 : decode cX5_madeNode 11 = .ok (.iload_n 1, 1) := by decide +kernel
theorem dX5_madeNode_12 : decode cX5_madeNode 12 = .ok (.aaload, 1) := by decide +kernel
theorem dX5_madeNode_13 : decode cX5_madeNode 13 = .ok (.astore_n 2, 1) := by decide +kernel
theorem dX5_madeNode_14 : decode cX5_madeNode 14 = .ok (.aload_n 2, 1) := by decide +kernel
theorem dX5_madeNode_15 : decode cX5_madeNode 15 = .ok (.ifnonnull 11, 3) := by decide +kernel
theorem dX5_madeNode_18 : decode cX5_madeNode 18 = .ok (.new 160, 3) := by decide +kernel
theorem dX5_madeNode_21 : decode cX5_madeNode 21 = .ok (.dup, 1) := by decide +kernel
theorem dX5_madeNode_22 : decode cX5_madeNode 22 = .ok (.invokespecial 162, 3) := by decide +kernel
theorem dX5_madeNode_25 : decode cX5_madeNode 25 = .ok (.athrow, 1) := by decide +kernel
theorem dX5_madeNode_26 : decode cX5_madeNode 26 = .ok (.aload_n 2, 1) := by decide +kernel
theorem dX5_madeNode_27 : decode cX5_madeNode 27 = .ok (.areturn, 1) := by decide +kernel
theorem dX5_nodeAt_0 : decode cX5_nodeAt 0 = .ok (.aload_n 0, 1) := by decide +kernel
theorem dX5_nodeAt_1 : decode cX5_nodeAt 1 = .ok (.iload_n 1, 1) := by decide +kernel
theorem dX5_nodeAt_2 : decode cX5_nodeAt 2 = .ok (.invokevirtual 130, 3) := by decide +kernel
theorem dX5_nodeAt_5 : decode cX5_nodeAt 5 = .ok (.astore_n 2, 1) := by decide +kernel
theorem dX5_nodeAt_6 : decode cX5_nodeAt 6 = .ok (.aload_n 2, 1) := by decide +kernel
theorem dX5_nodeAt_7 : decode cX5_nodeAt 7 = .ok (.getfield 113, 3) := by decide +kernel
theorem dX5_nodeAt_10 : decode cX5_nodeAt 10 = .ok (.iconst 2, 1) := by decide +kernel
theorem dX5_nodeAt_11 : decode cX5_nodeAt 11 = .ok (.if_icmp .ne 11, 3) := by decide +kernel
theorem dX5_nodeAt_14 : decode cX5_nodeAt 14 = .ok (.new 160, 3) := by decide +kernel
theorem dX5_nodeAt_17 : decode cX5_nodeAt 17 = .ok (.dup, 1) := by decide +kernel
theorem dX5_nodeAt_18 : decode cX5_nodeAt 18 = .ok (.invokespecial 162, 3) := by decide +kernel
theorem dX5_nodeAt_21 : decode cX5_nodeAt 21 = .ok (.athrow, 1) := by decide +kernel
theorem dX5_nodeAt_22 : decode cX5_nodeAt 22 = .ok (.aload_n 2, 1) := by decide +kernel
theorem dX5_nodeAt_23 : decode cX5_nodeAt 23 = .ok (.areturn, 1) := by decide +kernel
theorem dX5_keeperAt_0 : decode cX5_keeperAt 0 = .ok (.aload_n 0, 1) := by decide +kernel
theorem dX5_keeperAt_1 : decode cX5_keeperAt 1 = .ok (.iload_n 1, 1) := by decide +kernel
theorem dX5_keeperAt_2 : decode cX5_keeperAt 2 = .ok (.invokevirtual 109, 3) := by decide +kernel
theorem dX5_keeperAt_5 : decode cX5_keeperAt 5 = .ok (.astore_n 3, 1) := by decide +kernel
theorem dX5_keeperAt_6 : decode cX5_keeperAt 6 = .ok (.aload_n 3, 1) := by decide +kernel
theorem dX5_keeperAt_7 : decode cX5_keeperAt 7 = .ok (.instanceof 22, 3) := by decide +kernel
theorem dX5_keeperAt_10 : decode cX5_keeperAt 10 = .ok (.ifCond .eq 10, 3) := by decide +kernel
theorem dX5_keeperAt_13 : decode cX5_keeperAt 13 = .ok (.aload_n 3, 1) := by decide +kernel
theorem dX5_keeperAt_14 : decode cX5_keeperAt 14 = .ok (.checkcast 22, 3) := by decide +kernel
theorem dX5_keeperAt_17 : decode cX5_keeperAt 17 = .ok (.astore_n 2, 1) := by decide +kernel
theorem dX5_keeperAt_18 : decode cX5_keeperAt 18 = .ok (.aload_n 2, 1) := by decide +kernel
theorem dX5_keeperAt_19 : decode cX5_keeperAt 19 = .ok (.areturn, 1) := by decide +kernel
theorem dX5_keeperAt_20 : decode cX5_keeperAt 20 = .ok (.new 160, 3) := by decide +kernel
theorem dX5_keeperAt_23 : decode cX5_keeperAt 23 = .ok (.dup, 1) := by decide +kernel
theorem dX5_keeperAt_24 : decode cX5_keeperAt 24 = .ok (.invokespecial 162, 3) := by decide +kernel
theorem dX5_keeperAt_27 : decode cX5_keeperAt 27 = .ok (.athrow, 1) := by decide +kernel
theorem dX5_workerAt_0 : decode cX5_workerAt 0 = .ok (.aload_n 0, 1) := by decide +kernel
theorem dX5_workerAt_1 : decode cX5_workerAt 1 = .ok (.iload_n 1, 1) := by decide +kernel
theorem dX5_workerAt_2 : decode cX5_workerAt 2 = .ok (.invokevirtual 109, 3) := by decide +kernel
theorem dX5_workerAt_5 : decode cX5_workerAt 5 = .ok (.astore_n 3, 1) := by decide +kernel
theorem dX5_workerAt_6 : decode cX5_workerAt 6 = .ok (.aload_n 3, 1) := by decide +kernel
theorem dX5_workerAt_7 : decode cX5_workerAt 7 = .ok (.instanceof 83, 3) := by decide +kernel
theorem dX5_workerAt_10 : decode cX5_workerAt 10 = .ok (.ifCond .eq 10, 3) := by decide +kernel
theorem dX5_workerAt_13 : decode cX5_workerAt 13 = .ok (.aload_n 3, 1) := by decide +kernel
theorem dX5_workerAt_14 : decode cX5_workerAt 14 = .ok (.checkcast 83, 3) := by decide +kernel
theorem dX5_workerAt_17 : decode cX5_workerAt 17 = .ok (.astore_n 2, 1) := by decide +kernel
theorem dX5_workerAt_18 : decode cX5_workerAt 18 = .ok (.aload_n 2, 1) := by decide +kernel
theorem dX5_workerAt_19 : decode cX5_workerAt 19 = .ok (.areturn, 1) := by decide +kernel
theorem dX5_workerAt_20 : decode cX5_workerAt 20 = .ok (.new 160, 3) := by decide +kernel
theorem dX5_workerAt_23 : decode cX5_workerAt 23 = .ok (.dup, 1) := by decide +kernel
theorem dX5_workerAt_24 : decode cX5_workerAt 24 = .ok (.invokespecial 162, 3) := by decide +kernel
theorem dX5_workerAt_27 : decode cX5_workerAt 27 = .ok (.athrow, 1) := by decide +kernel
theorem dX5_ownerOf_0 : decode cX5_ownerOf 0 = .ok (.aload_n 0, 1) := by decide +kernel
theorem dX5_ownerOf_1 : decode cX5_ownerOf 1 = .ok (.getfield 133, 3) := by decide +kernel
theorem dX5_ownerOf_4 : decode cX5_ownerOf 4 = .ok (.ifnonnull 11, 3) := by decide +kernel
theorem dX5_ownerOf_7 : decode cX5_ownerOf 7 = .ok (.new 160, 3) := by decide +kernel
theorem dX5_ownerOf_10 : decode cX5_ownerOf 10 = .ok (.dup, 1) := by decide +kernel
theorem dX5_ownerOf_11 : decode cX5_ownerOf 11 = .ok (.invokespecial 162, 3) := by decide +kernel
theorem dX5_ownerOf_14 : decode cX5_ownerOf 14 = .ok (.athrow, 1) := by decide +kernel
theorem dX5_ownerOf_15 : decode cX5_ownerOf 15 = .ok (.aload_n 0, 1) := by decide +kernel
theorem dX5_ownerOf_16 : decode cX5_ownerOf 16 = .ok (.getfield 133, 3) := by decide +kernel
theorem dX5_ownerOf_19 : decode cX5_ownerOf 19 = .ok (.areturn, 1) := by decide +kernel
theorem dX5_hasRoomBelow_0 : decode cX5_hasRoomBelow 0 = .ok (.aload_n 0, 1) := by decide +kernel
theorem dX5_hasRoomBelow_1 : decode cX5_hasRoomBelow 1 = .ok (.getfield 31, 3) := by decide +kernel
theorem dX5_hasRoomBelow_4 : decode cX5_hasRoomBelow 4 = .ok (.bipush 80, 2) := by decide +kernel
theorem dX5_hasRoomBelow_6 : decode cX5_hasRoomBelow 6 = .ok (.if_icmp .ge 16, 3) := by decide +kernel
theorem dX5_hasRoomBelow_9 : decode cX5_hasRoomBelow 9 = .ok (.aload_n 1, 1) := by decide +kernel
theorem dX5_hasRoomBelow_10 : decode cX5_hasRoomBelow 10 = .ok (.getfield 180, 3) := by decide +kernel
theorem dX5_hasRoomBelow_13 : decode cX5_hasRoomBelow 13 = .ok (.bipush 8, 2) := by decide +kernel
theorem dX5_hasRoomBelow_15 : decode cX5_hasRoomBelow 15 = .ok (.if_icmp .ge 7, 3) := by decide +kernel
theorem dX5_hasRoomBelow_18 : decode cX5_hasRoomBelow 18 = .ok (.iconst 1, 1) := by decide +kernel
theorem dX5_hasRoomBelow_19 : decode cX5_hasRoomBelow 19 = .ok (.goto 4, 3) := by decide +kernel
theorem dX5_hasRoomBelow_22 : decode cX5_hasRoomBelow 22 = .ok (.iconst 0, 1) := by decide +kernel
theorem dX5_hasRoomBelow_23 : decode cX5_hasRoomBelow 23 = .ok (.ireturn, 1) := by decide +kernel
theorem dX5_join_0 : decode cX5_join 0 = .ok (.aload_n 0, 1) := by decide +kernel
theorem dX5_join_1 : decode cX5_join 1 = .ok (.getfield 18, 3) := by decide +kernel
theorem dX5_join_4 : decode cX5_join 4 = .ok (.aload_n 1, 1) := by decide +kernel
theorem dX5_join_5 : decode cX5_join 5 = .ok (.getfield 167, 3) := by decide +kernel
theorem dX5_join_8 : decode cX5_join 8 = .ok (.aload_n 1, 1) := by decide +kernel
theorem dX5_join_9 : decode cX5_join 9 = .ok (.aastore, 1) := by decide +kernel
theorem dX5_join_10 : decode cX5_join 10 = .ok (.aload_n 2, 1) := by decide +kernel
theorem dX5_join_11 : decode cX5_join 11 = .ok (.getfield 146, 3) := by decide +kernel
theorem dX5_join_14 : decode cX5_join 14 = .ok (.aload_n 1, 1) := by decide +kernel
theorem dX5_join_15 : decode cX5_join 15 = .ok (.invokevirtual 181, 3) := by decide +kernel
theorem dX5_join_18 : decode cX5_join 18 = .ok (.pop, 1) := by decide +kernel
theorem dX5_join_19 : decode cX5_join 19 = .ok (.aload_n 0, 1) := by decide +kernel
theorem dX5_join_20 : decode cX5_join 20 = .ok (.dup, 1) := by decide +kernel
theorem dX5_join_21 : decode cX5_join 21 = .ok (.getfield 31, 3) := by decide +kernel
theorem dX5_join_24 : decode cX5_join 24 = .ok (.iconst 1, 1) := by decide +kernel
theorem dX5_join_25 : decode cX5_join 25 = .ok (.iadd, 1) := by decide +kernel
theorem dX5_join_26 : decode cX5_join 26 = .ok (.putfield 31, 3) := by decide +kernel
theorem dX5_join_29 : decode cX5_join 29 = .ok (.return_, 1) := by decide +kernel
theorem dX5_countIn_0 : decode cX5_countIn 0 = .ok (.iconst 0, 1) := by decide +kernel
theorem dX5_countIn_1 : decode cX5_countIn 1 = .ok (.istore_n 2, 1) := by decide +kernel
theorem dX5_countIn_2 : decode cX5_countIn 2 = .ok (.iconst 0, 1) := by decide +kernel
theorem dX5_countIn_3 : decode cX5_countIn 3 = .ok (.istore_n 3, 1) := by decide +kernel
theorem dX5_countIn_4 : decode cX5_countIn 4 = .ok (.iload_n 3, 1) := by decide +kernel
theorem dX5_countIn_5 : decode cX5_countIn 5 = .ok (.bipush 80, 2) := by decide +kernel
theorem dX5_countIn_7 : decode cX5_countIn 7 = .ok (.if_icmp .ge 34, 3) := by decide +kernel
theorem dX5_countIn_10 : decode cX5_countIn 10 = .ok (.aload_n 0, 1) := by decide +kernel
theorem dX5_countIn_11 : decode cX5_countIn 11 = .ok (.getfield 18, 3) := by decide +kernel
theorem dX5_countIn_14 : decode cX5_countIn 14 = .ok (.iload_n 3, 1) := by decide +kernel
theorem dX5_countIn_15 : decode cX5_countIn 15 = .ok (.aaload, 1) := by decide +kernel
theorem dX5_countIn_16 : decode cX5_countIn 16 = .ok (.astore 4, 2) := by decide +kernel
theorem dX5_countIn_18 : decode cX5_countIn 18 = .ok (.aload 4, 2) := by decide +kernel
theorem dX5_countIn_20 : decode cX5_countIn 20 = .ok (.ifnull 15, 3) := by decide +kernel
theorem dX5_countIn_23 : decode cX5_countIn 23 = .ok (.aload 4, 2) := by decide +kernel
theorem dX5_countIn_25 : decode cX5_countIn 25 = .ok (.getfield 113, 3) := by decide +kernel
theorem dX5_countIn_28 : decode cX5_countIn 28 = .ok (.iload_n 1, 1) := by decide +kernel
theorem dX5_countIn_29 : decode cX5_countIn 29 = .ok (.if_icmp .ne 6, 3) := by decide +kernel
theorem dX5_countIn_32 : decode cX5_countIn 32 = .ok (.iinc 2 1, 3) := by decide +kernel
theorem dX5_countIn_35 : decode cX5_countIn 35 = .ok (.iinc 3 1, 3) := by decide +kernel
theorem dX5_countIn_38 : decode cX5_countIn 38 = .ok (.goto (-34), 3) := by decide +kernel
theorem dX5_countIn_41 : decode cX5_countIn 41 = .ok (.iload_n 2, 1) := by decide +kernel
theorem dX5_countIn_42 : decode cX5_countIn 42 = .ok (.ireturn, 1) := by decide +kernel
theorem dX5_handleEnd_0 : decode cX5_handleEnd 0 = .ok (.aload_n 1, 1) := by decide +kernel
theorem dX5_handleEnd_1 : decode cX5_handleEnd 1 = .ok (.astore_n 3, 1) := by decide +kernel
theorem dX5_handleEnd_2 : decode cX5_handleEnd 2 = .ok (.iload_n 2, 1) := by decide +kernel
theorem dX5_handleEnd_3 : decode cX5_handleEnd 3 = .ok (.istore 4, 2) := by decide +kernel
theorem dX5_handleEnd_5 : decode cX5_handleEnd 5 = .ok (.iconst 0, 1) := by decide +kernel
theorem dX5_handleEnd_6 : decode cX5_handleEnd 6 = .ok (.istore 5, 2) := by decide +kernel
theorem dX5_handleEnd_8 : decode cX5_handleEnd 8 = .ok (.iload 5, 2) := by decide +kernel
theorem dX5_handleEnd_10 : decode cX5_handleEnd 10 = .ok (.bipush 8, 2) := by decide +kernel
theorem dX5_handleEnd_12 : decode cX5_handleEnd 12 = .ok (.if_icmp .gt 73, 3) := by decide +kernel
theorem dX5_handleEnd_15 : decode cX5_handleEnd 15 = .ok (.aload_n 3, 1) := by decide +kernel
theorem dX5_handleEnd_16 : decode cX5_handleEnd 16 = .ok (.getfield 133, 3) := by decide +kernel
theorem dX5_handleEnd_19 : decode cX5_handleEnd 19 = .ok (.astore 6, 2) := by decide +kernel
theorem dX5_handleEnd_21 : decode cX5_handleEnd 21 = .ok (.aload 6, 2) := by decide +kernel
theorem dX5_handleEnd_23 : decode cX5_handleEnd 23 = .ok (.ifnonnull 4, 3) := by decide +kernel
theorem dX5_handleEnd_26 : decode cX5_handleEnd 26 = .ok (.return_, 1) := by decide +kernel
theorem dX5_handleEnd_27 : decode cX5_handleEnd 27 = .ok (.aload_n 3, 1) := by decide +kernel
theorem dX5_handleEnd_28 : decode cX5_handleEnd 28 = .ok (.getfield 143, 3) := by decide +kernel
theorem dX5_handleEnd_31 : decode cX5_handleEnd 31 = .ok (.iconst 2, 1) := by decide +kernel
theorem dX5_handleEnd_32 : decode cX5_handleEnd 32 = .ok (.if_icmp .ne 15, 3) := by decide +kernel
theorem dX5_handleEnd_35 : decode cX5_handleEnd 35 = .ok (.aload 6, 2) := by decide +kernel
theorem dX5_handleEnd_37 : decode cX5_handleEnd 37 = .ok (.aload_n 3, 1) := by decide +kernel
theorem dX5_handleEnd_38 : decode cX5_handleEnd 38 = .ok (.aload_n 0, 1) := by decide +kernel
theorem dX5_handleEnd_39 : decode cX5_handleEnd 39 = .ok (.getfield 10, 3) := by decide +kernel
theorem dX5_handleEnd_42 : decode cX5_handleEnd 42 = .ok (.invokevirtual 89, 3) := by decide +kernel
theorem dX5_handleEnd_45 : decode cX5_handleEnd 45 = .ok (.pop, 1) := by decide +kernel
theorem dX5_handleEnd_46 : decode cX5_handleEnd 46 = .ok (.return_, 1) := by decide +kernel
theorem dX5_handleEnd_47 : decode cX5_handleEnd 47 = .ok (.aload_n 3, 1) := by decide +kernel
theorem dX5_handleEnd_48 : decode cX5_handleEnd 48 = .ok (.getfield 143, 3) := by decide +kernel
theorem dX5_handleEnd_51 : decode cX5_handleEnd 51 = .ok (.iconst 1, 1) := by decide +kernel
theorem dX5_handleEnd_52 : decode cX5_handleEnd 52 = .ok (.if_icmp .ne 10, 3) := by decide +kernel
theorem dX5_handleEnd_55 : decode cX5_handleEnd 55 = .ok (.iload 4, 2) := by decide +kernel
theorem dX5_handleEnd_57 : decode cX5_handleEnd 57 = .ok (.iconst 1, 1) := by decide +kernel
theorem dX5_handleEnd_58 : decode cX5_handleEnd 58 = .ok (.if_icmp .gt 4, 3) := by decide +kernel
theorem dX5_handleEnd_61 : decode cX5_handleEnd 61 = .ok (.return_, 1) := by decide +kernel
theorem dX5_handleEnd_62 : decode cX5_handleEnd 62 = .ok (.aload_n 0, 1) := by decide +kernel
theorem dX5_handleEnd_63 : decode cX5_handleEnd 63 = .ok (.aload 6, 2) := by decide +kernel
theorem dX5_handleEnd_65 : decode cX5_handleEnd 65 = .ok (.aload_n 3, 1) := by decide +kernel
theorem dX5_handleEnd_66 : decode cX5_handleEnd 66 = .ok (.invokevirtual 185, 3) := by decide +kernel
theorem dX5_handleEnd_69 : decode cX5_handleEnd 69 = .ok (.ifCond .eq 4, 3) := by decide +kernel
theorem dX5_handleEnd_72 : decode cX5_handleEnd 72 = .ok (.return_, 1) := by decide +kernel
theorem dX5_handleEnd_73 : decode cX5_handleEnd 73 = .ok (.aload 6, 2) := by decide +kernel
theorem dX5_handleEnd_75 : decode cX5_handleEnd 75 = .ok (.astore_n 3, 1) := by decide +kernel
theorem dX5_handleEnd_76 : decode cX5_handleEnd 76 = .ok (.iconst 1, 1) := by decide +kernel
theorem dX5_handleEnd_77 : decode cX5_handleEnd 77 = .ok (.istore 4, 2) := by decide +kernel
theorem dX5_handleEnd_79 : decode cX5_handleEnd 79 = .ok (.iinc 5 1, 3) := by decide +kernel
theorem dX5_handleEnd_82 : decode cX5_handleEnd 82 = .ok (.goto (-74), 3) := by decide +kernel
theorem dX5_handleEnd_85 : decode cX5_handleEnd 85 = .ok (.return_, 1) := by decide +kernel
theorem dX5_restartOrGiveUp_0 : decode cX5_restartOrGiveUp 0 = .ok (.aload_n 2, 1) := by decide +kernel
theorem dX5_restartOrGiveUp_1 : decode cX5_restartOrGiveUp 1 = .ok (.astore_n 3, 1) := by decide +kernel
theorem dX5_restartOrGiveUp_2 : decode cX5_restartOrGiveUp 2 = .ok (.iconst 0, 1) := by decide +kernel
theorem dX5_restartOrGiveUp_3 : decode cX5_restartOrGiveUp 3 = .ok (.istore 4, 2) := by decide +kernel
theorem dX5_restartOrGiveUp_5 : decode cX5_restartOrGiveUp 5 = .ok (.iload 4, 2) := by decide +kernel
theorem dX5_restartOrGiveUp_7 : decode cX5_restartOrGiveUp 7 = .ok (.ldc 189, 2) := by decide +kernel
theorem dX5_restartOrGiveUp_9 : decode cX5_restartOrGiveUp 9 = .ok (.if_icmp .ge 144, 3) := by decide +kernel
theorem dX5_restartOrGiveUp_12 : decode cX5_restartOrGiveUp 12 = .ok (.aload_n 0, 1) := by decide +kernel
theorem dX5_restartOrGiveUp_13 : decode cX5_restartOrGiveUp 13 = .ok (.dup, 1) := by decide +kernel
theorem dX5_restartOrGiveUp_14 : decode cX5_restartOrGiveUp 14 = .ok (.getfield 35, 3) := by decide +kernel
theorem dX5_restartOrGiveUp_17 : decode cX5_restartOrGiveUp 17 = .ok (.iconst 1, 1) := by decide +kernel
theorem dX5_restartOrGiveUp_18 : decode cX5_restartOrGiveUp 18 = .ok (.iadd, 1) := by decide +kernel
theorem dX5_restartOrGiveUp_19 : decode cX5_restartOrGiveUp 19 = .ok (.putfield 35, 3) := by decide +kernel
theorem dX5_restartOrGiveUp_22 : decode cX5_restartOrGiveUp 22 = .ok (.aload_n 1, 1) := by decide +kernel
theorem dX5_restartOrGiveUp_23 : decode cX5_restartOrGiveUp 23 = .ok (.getfield 190, 3) := by decide +kernel
theorem dX5_restartOrGiveUp_26 : decode cX5_restartOrGiveUp 26 = .ok (.aload_n 0, 1) := by decide +kernel
theorem dX5_restartOrGiveUp_27 : decode cX5_restartOrGiveUp 27 = .ok (.getfield 10, 3) := by decide +kernel
theorem dX5_restartOrGiveUp_30 : decode cX5_restartOrGiveUp 30 = .ok (.getfield 127, 3) := by decide +kernel
theorem dX5_restartOrGiveUp_33 : decode cX5_restartOrGiveUp 33 = .ok (.invokevirtual 194, 3) := by decide +kernel
theorem dX5_restartOrGiveUp_36 : decode cX5_restartOrGiveUp 36 = .ok (.aload_n 1, 1) := by decide +kernel
theorem dX5_restartOrGiveUp_37 : decode cX5_restartOrGiveUp 37 = .ok (.aload_n 0, 1) := by decide +kernel
theorem dX5_restartOrGiveUp_38 : decode cX5_restartOrGiveUp 38 = .ok (.getfield 10, 3) := by decide +kernel
theorem dX5_restartOrGiveUp_41 : decode cX5_restartOrGiveUp 41 = .ok (.getfield 127, 3) := by decide +kernel
theorem dX5_restartOrGiveUp_44 : decode cX5_restartOrGiveUp 44 = .ok (.invokevirtual 156, 3) := by decide +kernel
theorem dX5_restartOrGiveUp_47 : decode cX5_restartOrGiveUp 47 = .ok (.aload_n 1, 1) := by decide +kernel
theorem dX5_restartOrGiveUp_48 : decode cX5_restartOrGiveUp 48 = .ok (.getfield 55, 3) := by decide +kernel
theorem dX5_restartOrGiveUp_51 : decode cX5_restartOrGiveUp 51 = .ok (.if_icmp .le 23, 3) := by decide +kernel
theorem dX5_restartOrGiveUp_54 : decode cX5_restartOrGiveUp 54 = .ok (.aload_n 0, 1) := by decide +kernel
theorem dX5_restartOrGiveUp_55 : decode cX5_restartOrGiveUp 55 = .ok (.dup, 1) := by decide +kernel
theorem dX5_restartOrGiveUp_56 : decode cX5_restartOrGiveUp 56 = .ok (.getfield 38, 3) := by decide +kernel
theorem dX5_restartOrGiveUp_59 : decode cX5_restartOrGiveUp 59 = .ok (.iconst 1, 1) := by decide +kernel
theorem dX5_restartOrGiveUp_60 : decode cX5_restartOrGiveUp 60 = .ok (.iadd, 1) := by decide +kernel
theorem dX5_restartOrGiveUp_61 : decode cX5_restartOrGiveUp 61 = .ok (.putfield 38, 3) := by decide +kernel
theorem dX5_restartOrGiveUp_64 : decode cX5_restartOrGiveUp 64 = .ok (.aload_n 1, 1) := by decide +kernel
theorem dX5_restartOrGiveUp_65 : decode cX5_restartOrGiveUp 65 = .ok (.aload_n 0, 1) := by decide +kernel
theorem dX5_restartOrGiveUp_66 : decode cX5_restartOrGiveUp 66 = .ok (.getfield 10, 3) := by decide +kernel
theorem dX5_restartOrGiveUp_69 : decode cX5_restartOrGiveUp 69 = .ok (.invokevirtual 199, 3) := by decide +kernel
theorem dX5_restartOrGiveUp_72 : decode cX5_restartOrGiveUp 72 = .ok (.iconst 0, 1) := by decide +kernel
theorem dX5_restartOrGiveUp_73 : decode cX5_restartOrGiveUp 73 = .ok (.ireturn, 1) := by decide +kernel
theorem dX5_restartOrGiveUp_74 : decode cX5_restartOrGiveUp 74 = .ok (.aload_n 1, 1) := by decide +kernel
theorem dX5_restartOrGiveUp_75 : decode cX5_restartOrGiveUp 75 = .ok (.getfield 52, 3) := by decide +kernel
theorem dX5_restartOrGiveUp_78 : decode cX5_restartOrGiveUp 78 = .ok (.ifCond .ne 23, 3) := by decide +kernel
theorem dX5_restartOrGiveUp_81 : decode cX5_restartOrGiveUp 81 = .ok (.aload_n 3, 1) := by decide +kernel
theorem dX5_restartOrGiveUp_82 : decode cX5_restartOrGiveUp 82 = .ok (.aload_n 0, 1) := by decide +kernel
theorem dX5_restartOrGiveUp_83 : decode cX5_restartOrGiveUp 83 = .ok (.getfield 10, 3) := by decide +kernel
theorem dX5_restartOrGiveUp_86 : decode cX5_restartOrGiveUp 86 = .ok (.invokevirtual 126, 3) := by decide +kernel
theorem dX5_restartOrGiveUp_89 : decode cX5_restartOrGiveUp 89 = .ok (.ifCond .eq 7, 3) := by decide +kernel
theorem dX5_restartOrGiveUp_92 : decode cX5_restartOrGiveUp 92 = .ok (.aconst_null, 1) := by decide +kernel
theorem dX5_restartOrGiveUp_93 : decode cX5_restartOrGiveUp 93 = .ok (.goto 4, 3) := by decide +kernel
theorem dX5_restartOrGiveUp_96 : decode cX5_restartOrGiveUp 96 = .ok (.aload_n 3, 1) := by decide +kernel
theorem dX5_restartOrGiveUp_97 : decode cX5_restartOrGiveUp 97 = .ok (.astore_n 3, 1) := by decide +kernel
theorem dX5_restartOrGiveUp_98 : decode cX5_restartOrGiveUp 98 = .ok (.goto 43, 3) := by decide +kernel
theorem dX5_restartOrGiveUp_101 : decode cX5_restartOrGiveUp 101 = .ok (.aload_n 1, 1) := by decide +kernel
theorem dX5_restartOrGiveUp_102 : decode cX5_restartOrGiveUp 102 = .ok (.getfield 52, 3) := by decide +kernel
theorem dX5_restartOrGiveUp_105 : decode cX5_restartOrGiveUp 105 = .ok (.iconst 1, 1) := by decide +kernel
theorem dX5_restartOrGiveUp_106 : decode cX5_restartOrGiveUp 106 = .ok (.if_icmp .ne 7, 3) := by decide +kernel
theorem dX5_restartOrGiveUp_109 : decode cX5_restartOrGiveUp 109 = .ok (.iconst 0, 1) := by decide +kernel
theorem dX5_restartOrGiveUp_110 : decode cX5_restartOrGiveUp 110 = .ok (.goto 8, 3) := by decide +kernel
theorem dX5_restartOrGiveUp_113 : decode cX5_restartOrGiveUp 113 = .ok (.aload_n 1, 1) := by decide +kernel
theorem dX5_restartOrGiveUp_114 : decode cX5_restartOrGiveUp 114 = .ok (.aload_n 3, 1) := by decide +kernel
theorem dX5_restartOrGiveUp_115 : decode cX5_restartOrGiveUp 115 = .ok (.invokevirtual 136, 3) := by decide +kernel
theorem dX5_restartOrGiveUp_118 : decode cX5_restartOrGiveUp 118 = .ok (.istore 5, 2) := by decide +kernel
theorem dX5_restartOrGiveUp_120 : decode cX5_restartOrGiveUp 120 = .ok (.aload_n 1, 1) := by decide +kernel
theorem dX5_restartOrGiveUp_121 : decode cX5_restartOrGiveUp 121 = .ok (.iload 5, 2) := by decide +kernel
theorem dX5_restartOrGiveUp_123 : decode cX5_restartOrGiveUp 123 = .ok (.aload_n 0, 1) := by decide +kernel
theorem dX5_restartOrGiveUp_124 : decode cX5_restartOrGiveUp 124 = .ok (.getfield 10, 3) := by decide +kernel
theorem dX5_restartOrGiveUp_127 : decode cX5_restartOrGiveUp 127 = .ok (.invokevirtual 203, 3) := by decide +kernel
theorem dX5_restartOrGiveUp_130 : decode cX5_restartOrGiveUp 130 = .ok (.aload_n 1, 1) := by decide +kernel
theorem dX5_restartOrGiveUp_131 : decode cX5_restartOrGiveUp 131 = .ok (.iload 5, 2) := by decide +kernel
theorem dX5_restartOrGiveUp_133 : decode cX5_restartOrGiveUp 133 = .ok (.aload_n 0, 1) := by decide +kernel
theorem dX5_restartOrGiveUp_134 : decode cX5_restartOrGiveUp 134 = .ok (.getfield 10, 3) := by decide +kernel
theorem dX5_restartOrGiveUp_137 : decode cX5_restartOrGiveUp 137 = .ok (.invokevirtual 207, 3) := by decide +kernel
theorem dX5_restartOrGiveUp_140 : decode cX5_restartOrGiveUp 140 = .ok (.astore_n 3, 1) := by decide +kernel
theorem dX5_restartOrGiveUp_141 : decode cX5_restartOrGiveUp 141 = .ok (.aload_n 3, 1) := by decide +kernel
theorem dX5_restartOrGiveUp_142 : decode cX5_restartOrGiveUp 142 = .ok (.ifnonnull 5, 3) := by decide +kernel
theorem dX5_restartOrGiveUp_145 : decode cX5_restartOrGiveUp 145 = .ok (.iconst 1, 1) := by decide +kernel
theorem dX5_restartOrGiveUp_146 : decode cX5_restartOrGiveUp 146 = .ok (.ireturn, 1) := by decide +kernel
theorem dX5_restartOrGiveUp_147 : decode cX5_restartOrGiveUp 147 = .ok (.iinc 4 1, 3) := by decide +kernel
theorem dX5_restartOrGiveUp_150 : decode cX5_restartOrGiveUp 150 = .ok (.goto (-145), 3) := by decide +kernel
theorem dX5_restartOrGiveUp_153 : decode cX5_restartOrGiveUp 153 = .ok (.iconst 1, 1) := by decide +kernel
theorem dX5_restartOrGiveUp_154 : decode cX5_restartOrGiveUp 154 = .ok (.ireturn, 1) := by decide +kernel
theorem dX6_init_0 : decode cX6_init 0 = .ok (.aload_n 0, 1) := by decide +kernel
theorem dX6_init_1 : decode cX6_init 1 = .ok (.invokespecial 1, 3) := by decide +kernel
theorem dX6_init_4 : decode cX6_init 4 = .ok (.aload_n 0, 1) := by decide +kernel
theorem dX6_init_5 : decode cX6_init 5 = .ok (.bipush 80, 2) := by decide +kernel
theorem dX6_init_7 : decode cX6_init 7 = .ok (.newarray .boolean, 2) := by decide +kernel
theorem dX6_init_9 : decode cX6_init 9 = .ok (.putfield 7, 3) := by decide +kernel
theorem dX6_init_12 : decode cX6_init 12 = .ok (.aload_n 0, 1) := by decide +kernel
theorem dX6_init_13 : decode cX6_init 13 = .ok (.bipush 80, 2) := by decide +kernel
theorem dX6_init_15 : decode cX6_init 15 = .ok (.newarray .int, 2) := by decide +kernel
theorem dX6_init_17 : decode cX6_init 17 = .ok (.putfield 13, 3) := by decide +kernel
theorem dX6_init_20 : decode cX6_init 20 = .ok (.aload_n 0, 1) := by decide +kernel
theorem dX6_init_21 : decode cX6_init 21 = .ok (.bipush 80, 2) := by decide +kernel
theorem dX6_init_23 : decode cX6_init 23 = .ok (.newarray .int, 2) := by decide +kernel
theorem dX6_init_25 : decode cX6_init 25 = .ok (.putfield 17, 3) := by decide +kernel
theorem dX6_init_28 : decode cX6_init 28 = .ok (.aload_n 0, 1) := by decide +kernel
theorem dX6_init_29 : decode cX6_init 29 = .ok (.bipush 80, 2) := by decide +kernel
theorem dX6_init_31 : decode cX6_init 31 = .ok (.newarray .int, 2) := by decide +kernel
theorem dX6_init_33 : decode cX6_init 33 = .ok (.putfield 20, 3) := by decide +kernel
theorem dX6_init_36 : decode cX6_init 36 = .ok (.aload_n 0, 1) := by decide +kernel
theorem dX6_init_37 : decode cX6_init 37 = .ok (.bipush 80, 2) := by decide +kernel
theorem dX6_init_39 : decode cX6_init 39 = .ok (.newarray .int, 2) := by decide +kernel
theorem dX6_init_41 : decode cX6_init 41 = .ok (.putfield 23, 3) := by decide +kernel
theorem dX6_init_44 : decode cX6_init 44 = .ok (.aload_n 0, 1) := by decide +kernel
theorem dX6_init_45 : decode cX6_init 45 = .ok (.bipush 80, 2) := by decide +kernel
theorem dX6_init_47 : decode cX6_init 47 = .ok (.newarray .int, 2) := by decide +kernel
theorem dX6_init_49 : decode cX6_init 49 = .ok (.putfield 26, 3) := by decide +kernel
theorem dX6_init_52 : decode cX6_init 52 = .ok (.aload_n 0, 1) := by decide +kernel
theorem dX6_init_53 : decode cX6_init 53 = .ok (.bipush 80, 2) := by decide +kernel
theorem dX6_init_55 : decode cX6_init 55 = .ok (.newarray .int, 2) := by decide +kernel
theorem dX6_init_57 : decode cX6_init 57 = .ok (.putfield 29, 3) := by decide +kernel
theorem dX6_init_60 : decode cX6_init 60 = .ok (.aload_n 0, 1) := by decide +kernel
theorem dX6_init_61 : decode cX6_init 61 = .ok (.bipush 80, 2) := by decide +kernel
theorem dX6_init_63 : decode cX6_init 63 = .ok (.newarray .int, 2) := by decide +kernel
theorem dX6_init_65 : decode cX6_init 65 = .ok (.putfield 32, 3) := by decide +kernel
theorem dX6_init_68 : decode cX6_init 68 = .ok (.aload_n 0, 1) := by decide +kernel
theorem dX6_init_69 : decode cX6_init 69 = .ok (.bipush 80, 2) := by decide +kernel
theorem dX6_init_71 : decode cX6_init 71 = .ok (.newarray .int, 2) := by decide +kernel
theorem dX6_init_73 : decode cX6_init 73 = .ok (.putfield 35, 3) := by decide +kernel
theorem dX6_init_76 : decode cX6_init 76 = .ok (.aload_n 0, 1) := by decide +kernel
theorem dX6_init_77 : decode cX6_init 77 = .ok (.bipush 80, 2) := by decide +kernel
theorem dX6_init_79 : decode cX6_init 79 = .ok (.newarray .int, 2) := by decide +kernel
theorem dX6_init_81 : decode cX6_init 81 = .ok (.putfield 38, 3) := by decide +kernel
theorem dX6_init_84 : decode cX6_init 84 = .ok (.aload_n 0, 1) := by decide +kernel
theorem dX6_init_85 : decode cX6_init 85 = .ok (.bipush 80, 2) := by decide +kernel
theorem dX6_init_87 : decode cX6_init 87 = .ok (.newarray .int, 2) := by decide +kernel
theorem dX6_init_89 : decode cX6_init 89 = .ok (.putfield 41, 3) := by decide +kernel
theorem dX6_init_92 : decode cX6_init 92 = .ok (.aload_n 0, 1) := by decide +kernel
theorem dX6_init_93 : decode cX6_init 93 = .ok (.bipush 80, 2) := by decide +kernel
theorem dX6_init_95 : decode cX6_init 95 = .ok (.newarray .int, 2) := by decide +kernel
theorem dX6_init_97 : decode cX6_init 97 = .ok (.putfield 44, 3) := by decide +kernel
theorem dX6_init_100 : decode cX6_init 100 = .ok (.aload_n 0, 1) := by decide +kernel
theorem dX6_init_101 : decode cX6_init 101 = .ok (.sipush 6400, 3) := by decide +kernel
theorem dX6_init_104 : decode cX6_init 104 = .ok (.newarray .int, 2) := by decide +kernel
theorem dX6_init_106 : decode cX6_init 106 = .ok (.putfield 47, 3) := by decide +kernel
theorem dX6_init_109 : decode cX6_init 109 = .ok (.aload_n 0, 1) := by decide +kernel
theorem dX6_init_110 : decode cX6_init 110 = .ok (.bipush 80, 2) := by decide +kernel
theorem dX6_init_112 : decode cX6_init 112 = .ok (.newarray .int, 2) := by decide +kernel
theorem dX6_init_114 : decode cX6_init 114 = .ok (.putfield 50, 3) := by decide +kernel
theorem dX6_init_117 : decode cX6_init 117 = .ok (.aload_n 0, 1) := by decide +kernel
theorem dX6_init_118 : decode cX6_init 118 = .ok (.sipush 4160, 3) := by decide +kernel
theorem dX6_init_121 : decode cX6_init 121 = .ok (.newarray .int, 2) := by decide +kernel
theorem dX6_init_123 : decode cX6_init 123 = .ok (.putfield 53, 3) := by decide +kernel
theorem dX6_init_126 : decode cX6_init 126 = .ok (.aload_n 0, 1) := by decide +kernel
theorem dX6_init_127 : decode cX6_init 127 = .ok (.bipush 80, 2) := by decide +kernel
theorem dX6_init_129 : decode cX6_init 129 = .ok (.newarray .int, 2) := by decide +kernel
theorem dX6_init_131 : decode cX6_init 131 = .ok (.putfield 56, 3) := by decide +kernel
theorem dX6_init_134 : decode cX6_init 134 = .ok (.aload_n 0, 1) := by decide +kernel
theorem dX6_init_135 : decode cX6_init 135 = .ok (.sipush 2400, 3) := by decide +kernel
theorem dX6_init_138 : decode cX6_init 138 = .ok (.newarray .int, 2) := by decide +kernel
theorem dX6_init_140 : decode cX6_init 140 = .ok (.putfield 59, 3) := by decide +kernel
theorem dX6_init_143 : decode cX6_init 143 = .ok (.aload_n 0, 1) := by decide +kernel
theorem dX6_init_144 : decode cX6_init 144 = .ok (.bipush 10, 2) := by decide +kernel
theorem dX6_init_146 : decode cX6_init 146 = .ok (.newarray .int, 2) := by decide +kernel
theorem dX6_init_148 : decode cX6_init 148 = .ok (.putfield 62, 3) := by decide +kernel
theorem dX6_init_151 : decode cX6_init 151 = .ok (.aload_n 0, 1) := by decide +kernel
theorem dX6_init_152 : decode cX6_init 152 = .ok (.bipush 10, 2) := by decide +kernel
theorem dX6_init_154 : decode cX6_init 154 = .ok (.newarray .int, 2) := by decide +kernel
theorem dX6_init_156 : decode cX6_init 156 = .ok (.putfield 65, 3) := by decide +kernel
theorem dX6_init_159 : decode cX6_init 159 = .ok (.aload_n 0, 1) := by decide +kernel
theorem dX6_init_160 : decode cX6_init 160 = .ok (.getfield 7, 3) := by decide +kernel
theorem dX6_init_163 : decode cX6_init 163 = .ok (.iconst 0, 1) := by decide +kernel
theorem dX6_init_164 : decode cX6_init 164 = .ok (.iconst 1, 1) := by decide +kernel
theorem dX6_init_165 : decode cX6_init 165 = .ok (.bastore, 1) := by decide +kernel
theorem dX6_init_166 : decode cX6_init 166 = .ok (.aload_n 0, 1) := by decide +kernel
theorem dX6_init_167 : decode cX6_init 167 = .ok (.getfield 13, 3) := by decide +kernel
theorem dX6_init_170 : decode cX6_init 170 = .ok (.iconst 0, 1) := by decide +kernel
theorem dX6_init_171 : decode cX6_init 171 = .ok (.iconst (-1), 1) := by decide +kernel
theorem dX6_init_172 : decode cX6_init 172 = .ok (.iastore, 1) := by decide +kernel
theorem dX6_init_173 : decode cX6_init 173 = .ok (.aload_n 0, 1) := by decide +kernel
theorem dX6_init_174 : decode cX6_init 174 = .ok (.getfield 29, 3) := by decide +kernel
theorem dX6_init_177 : decode cX6_init 177 = .ok (.iconst 0, 1) := by decide +kernel
theorem dX6_init_178 : decode cX6_init 178 = .ok (.iconst 1, 1) := by decide +kernel
theorem dX6_init_179 : decode cX6_init 179 = .ok (.iastore, 1) := by decide +kernel
theorem dX6_init_180 : decode cX6_init 180 = .ok (.aload_n 0, 1) := by decide +kernel
theorem dX6_init_181 : decode cX6_init 181 = .ok (.getfield 32, 3) := by decide +kernel
theorem dX6_init_184 : decode cX6_init 184 = .ok (.iconst 0, 1) := by decide +kernel
theorem dX6_init_185 : decode cX6_init 185 = .ok (.iconst 5, 1) := by decide +kernel
theorem dX6_init_186 : decode cX6_init 186 = .ok (.iastore, 1) := by decide +kernel
theorem dX6_init_187 : decode cX6_init 187 = .ok (.aload_n 0, 1) := by decide +kernel
theorem dX6_init_188 : decode cX6_init 188 = .ok (.iconst 1, 1) := by decide +kernel
theorem dX6_init_189 : decode cX6_init 189 = .ok (.putfield 68, 3) := by decide +kernel
theorem dX6_init_192 : decode cX6_init 192 = .ok (.return_, 1) := by decide +kernel
theorem dX6_thrown_0 : decode cX6_thrown 0 = .ok (.aload_n 0, 1) := by decide +kernel
theorem dX6_thrown_1 : decode cX6_thrown 1 = .ok (.getfield 72, 3) := by decide +kernel
theorem dX6_thrown_4 : decode cX6_thrown 4 = .ok (.ireturn, 1) := by decide +kernel
theorem dX6_refuses_0 : decode cX6_refuses 0 = .ok (.aload_n 0, 1) := by decide +kernel
theorem dX6_refuses_1 : decode cX6_refuses 1 = .ok (.iload_n 1, 1) := by decide +kernel
theorem dX6_refuses_2 : decode cX6_refuses 2 = .ok (.putfield 72, 3) := by decide +kernel
theorem dX6_refuses_5 : decode cX6_refuses 5 = .ok (.iload_n 1, 1) := by decide +kernel
theorem dX6_refuses_6 : decode cX6_refuses 6 = .ok (.ifCond .le 7, 3) := by decide +kernel
theorem dX6_refuses_9 : decode cX6_refuses 9 = .ok (.iconst 1, 1) := by decide +kernel
theorem dX6_refuses_10 : decode cX6_refuses 10 = .ok (.goto 4, 3) := by decide +kernel
theorem dX6_refuses_13 : decode cX6_refuses 13 = .ok (.iconst 0, 1) := by decide +kernel
theorem dX6_refuses_14 : decode cX6_refuses 14 = .ok (.ireturn, 1) := by decide +kernel
theorem dX6_isNode_0 : decode cX6_isNode 0 = .ok (.iload_n 1, 1) := by decide +kernel
theorem dX6_isNode_1 : decode cX6_isNode 1 = .ok (.ifCond .lt 25, 3) := by decide +kernel
theorem dX6_isNode_4 : decode cX6_isNode 4 = .ok (.iload_n 1, 1) := by decide +kernel
theorem dX6_isNode_5 : decode cX6_isNode 5 = .ok (.aload_n 0, 1) := by decide +kernel
theorem dX6_isNode_6 : decode cX6_isNode 6 = .ok (.getfield 68, 3) := by decide +kernel
theorem dX6_isNode_9 : decode cX6_isNode 9 = .ok (.if_icmp .ge 17, 3) := by decide +kernel
theorem dX6_isNode_12 : decode cX6_isNode 12 = .ok (.aload_n 0, 1) := by decide +kernel
theorem dX6_isNode_13 : decode cX6_isNode 13 = .ok (.getfield 20, 3) := by decide +kernel
theorem dX6_isNode_16 : decode cX6_isNode 16 = .ok (.iload_n 1, 1) := by decide +kernel
theorem dX6_isNode_17 : decode cX6_isNode 17 = .ok (.iaload, 1) := by decide +kernel
theorem dX6_isNode_18 : decode cX6_isNode 18 = .ok (.iconst 2, 1) := by decide +kernel
theorem dX6_isNode_19 : decode cX6_isNode 19 = .ok (.if_icmp .eq 7, 3) := by decide +kernel
theorem dX6_isNode_22 : decode cX6_isNode 22 = .ok (.iconst 1, 1) := by decide +kernel
theorem dX6_isNode_23 : decode cX6_isNode 23 = .ok (.goto 4, 3) := by decide +kernel
theorem dX6_isNode_26 : decode cX6_isNode 26 = .ok (.iconst 0, 1) := by decide +kernel
theorem dX6_isNode_27 : decode cX6_isNode 27 = .ok (.ireturn, 1) := by decide +kernel
theorem dX6_isKeeper_0 : decode cX6_isKeeper 0 = .ok (.aload_n 0, 1) := by decide +kernel
theorem dX6_isKeeper_1 : decode cX6_isKeeper 1 = .ok (.iload_n 1, 1) := by decide +kernel
theorem dX6_isKeeper_2 : decode cX6_isKeeper 2 = .ok (.invokevirtual 75, 3) := by decide +kernel
theorem dX6_isKeeper_5 : decode cX6_isKeeper 5 = .ok (.ifCond .eq 16, 3) := by decide +kernel
theorem dX6_isKeeper_8 : decode cX6_isKeeper 8 = .ok (.aload_n 0, 1) := by decide +kernel
theorem dX6_isKeeper_9 : decode cX6_isKeeper 9 = .ok (.getfield 7, 3) := by decide +kernel
theorem dX6_isKeeper_12 : decode cX6_isKeeper 12 = .ok (.iload_n 1, 1) := by decide +kernel
theorem dX6_isKeeper_13 : decode cX6_isKeeper 13 = .ok (.baload, 1) := by decide +kernel
theorem dX6_isKeeper_14 : decode cX6_isKeeper 14 = .ok (.ifCond .eq 7, 3) := by decide +kernel
theorem dX6_isKeeper_17 : decode cX6_isKeeper 17 = .ok (.iconst 1, 1) := by decide +kernel
theorem dX6_isKeeper_18 : decode cX6_isKeeper 18 = .ok (.goto 4, 3) := by decide +kernel
theorem dX6_isKeeper_21 : decode cX6_isKeeper 21 = .ok (.iconst 0, 1) := by decide +kernel
theorem dX6_isKeeper_22 : decode cX6_isKeeper 22 = .ok (.ireturn, 1) := by decide +kernel
theorem dX6_isWorker_0 : decode cX6_isWorker 0 = .ok (.aload_n 0, 1) := by decide +kernel
theorem dX6_isWorker_1 : decode cX6_isWorker 1 = .ok (.iload_n 1, 1) := by decide +kernel
theorem dX6_isWorker_2 : decode cX6_isWorker 2 = .ok (.invokevirtual 75, 3) := by decide +kernel
theorem dX6_isWorker_5 : decode cX6_isWorker 5 = .ok (.ifCond .eq 16, 3) := by decide +kernel
theorem dX6_isWorker_8 : decode cX6_isWorker 8 = .ok (.aload_n 0, 1) := by decide +kernel
theorem dX6_isWorker_9 : decode cX6_isWorker 9 = .ok (.getfield 7, 3) := by decide +kernel
theorem dX6_isWorker_12 : decode cX6_isWorker 12 = .ok (.iload_n 1, 1) := by decide +kernel
theorem dX6_isWorker_13 : decode cX6_isWorker 13 = .ok (.baload, 1) := by decide +kernel
theorem dX6_isWorker_14 : decode cX6_isWorker 14 = .ok (.ifCond .ne 7, 3) := by decide +kernel
theorem dX6_isWorker_17 : decode cX6_isWorker 17 = .ok (.iconst 1, 1) := by decide +kernel
theorem dX6_isWorker_18 : decode cX6_isWorker 18 = .ok (.goto 4, 3) := by decide +kernel
theorem dX6_isWorker_21 : decode cX6_isWorker 21 = .ok (.iconst 0, 1) := by decide +kernel
theorem dX6_isWorker_22 : decode cX6_isWorker 22 = .ok (.ireturn, 1) := by decide +kernel
theorem dX6_in_0 : decode cX6_in 0 = .ok (.iload_n 0, 1) := by decide +kernel
theorem dX6_in_1 : decode cX6_in 1 = .ok (.iload_n 1, 1) := by decide +kernel
theorem dX6_in_2 : decode cX6_in 2 = .ok (.if_icmp .lt 12, 3) := by decide +kernel
theorem dX6_in_5 : decode cX6_in 5 = .ok (.iload_n 0, 1) := by decide +kernel
theorem dX6_in_6 : decode cX6_in 6 = .ok (.iload_n 2, 1) := by decide +kernel
theorem dX6_in_7 : decode cX6_in 7 = .ok (.if_icmp .gt 7, 3) := by decide +kernel
theorem dX6_in_10 : decode cX6_in 10 = .ok (.iconst 1, 1) := by decide +kernel
theorem dX6_in_11 : decode cX6_in 11 = .ok (.goto 4, 3) := by decide +kernel
theorem dX6_in_14 : decode cX6_in 14 = .ok (.iconst 0, 1) := by decide +kernel
theorem dX6_in_15 : decode cX6_in 15 = .ok (.ireturn, 1) := by decide +kernel
theorem dX6_note_0 : decode cX6_note 0 = .ok (.aload_n 0, 1) := by decide +kernel
theorem dX6_note_1 : decode cX6_note 1 = .ok (.getfield 79, 3) := by decide +kernel
theorem dX6_note_4 : decode cX6_note 4 = .ok (.sipush 600, 3) := by decide +kernel
theorem dX6_note_7 : decode cX6_note 7 = .ok (.if_icmp .ge 60, 3) := by decide +kernel
theorem dX6_note_10 : decode cX6_note 10 = .ok (.aload_n 0, 1) := by decide +kernel
theorem dX6_note_11 : decode cX6_note 11 = .ok (.getfield 59, 3) := by decide +kernel
theorem dX6_note_14 : decode cX6_note 14 = .ok (.iconst 4, 1) := by decide +kernel
theorem dX6_note_15 : decode cX6_note 15 = .ok (.aload_n 0, 1) := by decide +kernel
theorem dX6_note_16 : decode cX6_note 16 = .ok (.getfield 79, 3) := by decide +kernel
theorem dX6_note_19 : decode cX6_note 19 = .ok (.imul, 1) := by decide +kernel
theorem dX6_note_20 : decode cX6_note 20 = .ok (.iload_n 1, 1) := by decide +kernel
theorem dX6_note_21 : decode cX6_note 21 = .ok (.iastore, 1) := by decide +kernel
theorem dX6_note_22 : decode cX6_note 22 = .ok (.aload_n 0, 1) := by decide +kernel
theorem dX6_note_23 : decode cX6_note 23 = .ok (.getfield 59, 3) := by decide +kernel
theorem dX6_note_26 : decode cX6_note 26 = .ok (.iconst 4, 1) := by decide +kernel
theorem dX6_note_27 : decode cX6_note 27 = .ok (.aload_n 0, 1) := by decide +kernel
theorem dX6_note_28 : decode cX6_note 28 = .ok (.getfield 79, 3) := by decide +kernel
theorem dX6_note_31 : decode cX6_note 31 = .ok (.imul, 1) := by decide +kernel
theorem dX6_note_32 : decode cX6_note 32 = .ok (.iconst 1, 1) := by decide +kernel
theorem dX6_note_33 : decode cX6_note 33 = .ok (.iadd, 1) := by decide +kernel
theorem dX6_note_34 : decode cX6_note 34 = .ok (.iload_n 2, 1) := by decide +kernel
theorem dX6_note_35 : decode cX6_note 35 = .ok (.iastore, 1) := by decide +kernel
theorem dX6_note_36 : decode cX6_note 36 = .ok (.aload_n 0, 1) := by decide +kernel
theorem dX6_note_37 : decode cX6_note 37 = .ok (.getfield 59, 3) := by decide +kernel
theorem dX6_note_40 : decode cX6_note 40 = .ok (.iconst 4, 1) := by decide +kernel
theorem dX6_note_41 : decode cX6_note 41 = .ok (.aload_n 0, 1) := by decide +kernel
theorem dX6_note_42 : decode cX6_note 42 = .ok (.getfield 79, 3) := by decide +kernel
theorem dX6_note_45 : decode cX6_note 45 = .ok (.imul, 1) := by decide +kernel
theorem dX6_note_46 : decode cX6_note 46 = .ok (.iconst 2, 1) := by decide +kernel
theorem dX6_note_47 : decode cX6_note 47 = .ok (.iadd, 1) := by decide +kernel
theorem dX6_note_48 : decode cX6_note 48 = .ok (.aload_n 0, 1) := by decide +kernel
theorem dX6_note_49 : decode cX6_note 49 = .ok (.getfield 82, 3) := by decide +kernel
theorem dX6_note_52 : decode cX6_note 52 = .ok (.iastore, 1) := by decide +kernel
theorem dX6_note_53 : decode cX6_note 53 = .ok (.aload_n 0, 1) := by decide +kernel
theorem dX6_note_54 : decode cX6_note 54 = .ok (.getfield 59, 3) := by decide +kernel
theorem dX6_note_57 : decode cX6_note 57 = .ok (.iconst 4, 1) := by decide +kernel
theorem dX6_note_58 : decode cX6_note 58 = .ok (.aload_n 0, 1) := by decide +kernel
theorem dX6_note_59 : decode cX6_note 59 = .ok (.getfield 79, 3) := by decide +kernel
theorem dX6_note_62 : decode cX6_note 62 = .ok (.imul, 1) := by decide +kernel
theorem dX6_note_63 : decode cX6_note 63 = .ok (.iconst 3, 1) := by decide +kernel
theorem dX6_note_64 : decode cX6_note 64 = .ok (.iadd, 1) := by decide +kernel
theorem dX6_note_65 : decode cX6_note 65 = .ok (.iload_n 3, 1) := by decide +kernel
theorem dX6_note_66 : decode cX6_note 66 = .ok (.iastore, 1) := by decide +kernel
theorem dX6_note_67 : decode cX6_note 67 = .ok (.aload_n 0, 1) := by decide +kernel
theorem dX6_note_68 : decode cX6_note 68 = .ok (.dup, 1) := by decide +kernel
theorem dX6_note_69 : decode cX6_note 69 = .ok (.getfield 79, 3) := by decide +kernel
theorem dX6_note_72 : decode cX6_note 72 = .ok (.iconst 1, 1) := by decide +kernel
theorem dX6_note_73 : decode cX6_note 73 = .ok (.iadd, 1) := by decide +kernel
theorem dX6_note_74 : decode cX6_note 74 = .ok (.putfield 79, 3) := by decide +kernel
theorem dX6_note_77 : decode cX6_note 77 = .ok (.return_, 1) := by decide +kernel
theorem dX6_starts_0 : decode cX6_starts 0 = .ok (.iconst 0, 1) := by decide +kernel
theorem dX6_starts_1 : decode cX6_starts 1 = .ok (.istore_n 2, 1) := by decide +kernel
theorem dX6_starts_2 : decode cX6_starts 2 = .ok (.aload_n 0, 1) := by decide +kernel
theorem dX6_starts_3 : decode cX6_starts 3 = .ok (.getfield 62, 3) := by decide +kernel
theorem dX6_starts_6 : decode cX6_starts 6 = .ok (.iconst 0, 1) := by decide +kernel
theorem dX6_starts_7 : decode cX6_starts 7 = .ok (.iload_n 1, 1) := by decide +kernel
theorem dX6_starts_8 : decode cX6_starts 8 = .ok (.iastore, 1) := by decide +kernel
theorem dX6_starts_9 : decode cX6_starts 9 = .ok (.aload_n 0, 1) := by decide +kernel
theorem dX6_starts_10 : decode cX6_starts 10 = .ok (.getfield 65, 3) := by decide +kernel
theorem dX6_starts_13 : decode cX6_starts 13 = .ok (.iconst 0, 1) := by decide +kernel
theorem dX6_starts_14 : decode cX6_starts 14 = .ok (.iconst 0, 1) := by decide +kernel
theorem dX6_starts_15 : decode cX6_starts 15 = .ok (.iastore, 1) := by decide +kernel
theorem dX6_starts_16 : decode cX6_starts 16 = .ok (.iconst (-1), 1) := by decide +kernel
theorem dX6_starts_17 : decode cX6_starts 17 = .ok (.istore_n 3, 1) := by decide +kernel
theorem dX6_starts_18 : decode cX6_starts 18 = .ok (.iload_n 2, 1) := by decide +kernel
theorem dX6_starts_19 : decode cX6_starts 19 = .ok (.ifCond .lt 260, 3) := by decide +kernel
theorem dX6_starts_22 : decode cX6_starts 22 = .ok (.aload_n 0, 1) := by decide +kernel
theorem dX6_starts_23 : decode cX6_starts 23 = .ok (.getfield 62, 3) := by decide +kernel
theorem dX6_starts_26 : decode cX6_starts 26 = .ok (.iload_n 2, 1) := by decide +kernel
theorem dX6_starts_27 : decode cX6_starts 27 = .ok (.iaload, 1) := by decide +kernel
theorem dX6_starts_28 : decode cX6_starts 28 = .ok (.istore 4, 2) := by decide +kernel
theorem dX6_starts_30 : decode cX6_starts 30 = .ok (.iconst 1, 1) := by decide +kernel
theorem dX6_starts_31 : decode cX6_starts 31 = .ok (.istore 5, 2) := by decide +kernel
theorem dX6_starts_33 : decode cX6_starts 33 = .ok (.aload_n 0, 1) := by decide +kernel
theorem dX6_starts_34 : decode cX6_starts 34 = .ok (.getfield 7, 3) := by decide +kernel
theorem dX6_starts_37 : decode cX6_starts 37 = .ok (.iload 4, 2) := by decide +kernel
theorem dX6_starts_39 : decode cX6_starts 39 = .ok (.baload, 1) := by decide +kernel
theorem dX6_starts_40 : decode cX6_starts 40 = .ok (.ifCond .ne 57, 3) := by decide +kernel
theorem dX6_starts_43 : decode cX6_starts 43 = .ok (.aload_n 0, 1) := by decide +kernel
theorem dX6_starts_44 : decode cX6_starts 44 = .ok (.dup, 1) := by decide +kernel
theorem dX6_starts_45 : decode cX6_starts 45 = .ok (.getfield 82, 3) := by decide +kernel
theorem dX6_starts_48 : decode cX6_starts 48 = .ok (.aload_n 0, 1) := by decide +kernel
theorem dX6_starts_49 : decode cX6_starts 49 = .ok (.getfield 38, 3) := by decide +kernel
theorem dX6_starts_52 : decode cX6_starts 52 = .ok (.iload 4, 2) := by decide +kernel
theorem dX6_starts_54 : decode cX6_starts 54 = .ok (.iaload, 1) := by decide +kernel
theorem dX6_starts_55 : decode cX6_starts 55 = .ok (.iadd, 1) := by decide +kernel
theorem dX6_starts_56 : decode cX6_starts 56 = .ok (.putfield 82, 3) := by decide +kernel
theorem dX6_starts_59 : decode cX6_starts 59 = .ok (.aload_n 0, 1) := by decide +kernel
theorem dX6_starts_60 : decode cX6_starts 60 = .ok (.getfield 44, 3) := by decide +kernel
theorem dX6_starts_63 : decode cX6_starts 63 = .ok (.iload 4, 2) := by decide +kernel
theorem dX6_starts_65 : decode cX6_starts 65 = .ok (.iaload, 1) := by decide +kernel
theorem dX6_starts_66 : decode cX6_starts 66 = .ok (.ifCond .le 7, 3) := by decide +kernel
theorem dX6_starts_69 : decode cX6_starts 69 = .ok (.iconst 0, 1) := by decide +kernel
theorem dX6_starts_70 : decode cX6_starts 70 = .ok (.goto 4, 3) := by decide +kernel
theorem dX6_starts_73 : decode cX6_starts 73 = .ok (.iconst 1, 1) := by decide +kernel
theorem dX6_starts_74 : decode cX6_starts 74 = .ok (.istore_n 3, 1) := by decide +kernel
theorem dX6_starts_75 : decode cX6_starts 75 = .ok (.aload_n 0, 1) := by decide +kernel
theorem dX6_starts_76 : decode cX6_starts 76 = .ok (.getfield 44, 3) := by decide +kernel
theorem dX6_starts_79 : decode cX6_starts 79 = .ok (.iload 4, 2) := by decide +kernel
theorem dX6_starts_81 : decode cX6_starts 81 = .ok (.dup2, 1) := by decide +kernel
theorem dX6_starts_82 : decode cX6_starts 82 = .ok (.iaload, 1) := by decide +kernel
theorem dX6_starts_83 : decode cX6_starts 83 = .ok (.iload_n 3, 1) := by decide +kernel
theorem dX6_starts_84 : decode cX6_starts 84 = .ok (.ifCond .ne 7, 3) := by decide +kernel
theorem dX6_starts_87 : decode cX6_starts 87 = .ok (.iconst 1, 1) := by decide +kernel
theorem dX6_starts_88 : decode cX6_starts 88 = .ok (.goto 4, 3) := by decide +kernel
theorem dX6_starts_91 : decode cX6_starts 91 = .ok (.iconst 0, 1) := by decide +kernel
theorem dX6_starts_92 : decode cX6_starts 92 = .ok (.isub, 1) := by decide +kernel
theorem dX6_starts_93 : decode cX6_starts 93 = .ok (.iastore, 1) := by decide +kernel
theorem dX6_starts_94 : decode cX6_starts 94 = .ok (.goto 130, 3) := by decide +kernel
theorem dX6_starts_97 : decode cX6_starts 97 = .ok (.iload_n 3, 1) := by decide +kernel
theorem dX6_starts_98 : decode cX6_starts 98 = .ok (.ifCond .ne 16, 3) := by decide +kernel
theorem dX6_starts_101 : decode cX6_starts 101 = .ok (.aload_n 0, 1) := by decide +kernel
theorem dX6_starts_102 : decode cX6_starts 102 = .ok (.iload 4, 2) := by decide +kernel
theorem dX6_starts_104 : decode cX6_starts 104 = .ok (.iload_n 2, 1) := by decide +kernel
theorem dX6_starts_105 : decode cX6_starts 105 = .ok (.iconst 1, 1) := by decide +kernel
theorem dX6_starts_106 : decode cX6_starts 106 = .ok (.iadd, 1) := by decide +kernel
theorem dX6_starts_107 : decode cX6_starts 107 = .ok (.iconst 0, 1) := by decide +kernel
theorem dX6_starts_108 : decode cX6_starts 108 = .ok (.invokevirtual 85, 3) := by decide +kernel
theorem dX6_starts_111 : decode cX6_starts 111 = .ok (.goto 113, 3) := by decide +kernel
theorem dX6_starts_114 : decode cX6_starts 114 = .ok (.aload_n 0, 1) := by decide +kernel
theorem dX6_starts_115 : decode cX6_starts 115 = .ok (.getfield 56, 3) := by decide +kernel
theorem dX6_starts_118 : decode cX6_starts 118 = .ok (.iload 4, 2) := by decide +kernel
theorem dX6_starts_120 : decode cX6_starts 120 = .ok (.aload_n 0, 1) := by decide +kernel
theorem dX6_starts_121 : decode cX6_starts 121 = .ok (.getfield 65, 3) := by decide +kernel
theorem dX6_starts_124 : decode cX6_starts 124 = .ok (.iload_n 2, 1) := by decide +kernel
theorem dX6_starts_125 : decode cX6_starts 125 = .ok (.iaload, 1) := by decide +kernel
theorem dX6_starts_126 : decode cX6_starts 126 = .ok (.ifCond .ne 7, 3) := by decide +kernel
theorem dX6_starts_129 : decode cX6_starts 129 = .ok (.iconst 0, 1) := by decide +kernel
theorem dX6_starts_130 : decode cX6_starts 130 = .ok (.goto 10, 3) := by decide +kernel
theorem dX6_starts_133 : decode cX6_starts 133 = .ok (.aload_n 0, 1) := by decide +kernel
theorem dX6_starts_134 : decode cX6_starts 134 = .ok (.getfield 56, 3) := by decide +kernel
theorem dX6_starts_137 : decode cX6_starts 137 = .ok (.iload 4, 2) := by decide +kernel
theorem dX6_starts_139 : decode cX6_starts 139 = .ok (.iaload, 1) := by decide +kernel
theorem dX6_starts_140 : decode cX6_starts 140 = .ok (.iastore, 1) := by decide +kernel
theorem dX6_starts_141 : decode cX6_starts 141 = .ok (.aload_n 0, 1) := by decide +kernel
theorem dX6_starts_142 : decode cX6_starts 142 = .ok (.getfield 65, 3) := by decide +kernel
theorem dX6_starts_145 : decode cX6_starts 145 = .ok (.iload_n 2, 1) := by decide +kernel
theorem dX6_starts_146 : decode cX6_starts 146 = .ok (.iaload, 1) := by decide +kernel
theorem dX6_starts_147 : decode cX6_starts 147 = .ok (.aload_n 0, 1) := by decide +kernel
theorem dX6_starts_148 : decode cX6_starts 148 = .ok (.getfield 50, 3) := by decide +kernel
theorem dX6_starts_151 : decode cX6_starts 151 = .ok (.iload 4, 2) := by decide +kernel
theorem dX6_starts_153 : decode cX6_starts 153 = .ok (.iaload, 1) := by decide +kernel
theorem dX6_starts_154 : decode cX6_starts 154 = .ok (.if_icmp .ne 7, 3) := by decide +kernel
theorem dX6_starts_157 : decode cX6_starts 157 = .ok (.iconst 1, 1) := by decide +kernel
theorem dX6_starts_158 : decode cX6_starts 158 = .ok (.goto 4, 3) := by decide +kernel
theorem dX6_starts_161 : decode cX6_starts 161 = .ok (.iconst 0, 1) := by decide +kernel
theorem dX6_starts_162 : decode cX6_starts 162 = .ok (.istore 5, 2) := by decide +kernel
theorem dX6_starts_164 : decode cX6_starts 164 = .ok (.iload 5, 2) := by decide +kernel
theorem dX6_starts_166 : decode cX6_starts 166 = .ok (.ifCond .eq 7, 3) := by decide +kernel
theorem dX6_starts_169 : decode cX6_starts 169 = .ok (.iconst 1, 1) := by decide +kernel
theorem dX6_starts_170 : decode cX6_starts 170 = .ok (.goto 4, 3) := by decide +kernel
theorem dX6_starts_173 : decode cX6_starts 173 = .ok (.iconst (-1), 1) := by decide +kernel
theorem dX6_starts_174 : decode cX6_starts 174 = .ok (.istore_n 3, 1) := by decide +kernel
theorem dX6_starts_175 : decode cX6_starts 175 = .ok (.iload 5, 2) := by decide +kernel
theorem dX6_starts_177 : decode cX6_starts 177 = .ok (.ifCond .ne 47, 3) := by decide +kernel
theorem dX6_starts_180 : decode cX6_starts 180 = .ok (.aload_n 0, 1) := by decide +kernel
theorem dX6_starts_181 : decode cX6_starts 181 = .ok (.getfield 62, 3) := by decide +kernel
theorem dX6_starts_184 : decode cX6_starts 184 = .ok (.iload_n 2, 1) := by decide +kernel
theorem dX6_starts_185 : decode cX6_starts 185 = .ok (.iconst 1, 1) := by decide +kernel
theorem dX6_starts_186 : decode cX6_starts 186 = .ok (.iadd, 1) := by decide +kernel
theorem dX6_starts_187 : decode cX6_starts 187 = .ok (.aload_n 0, 1) := by decide +kernel
theorem dX6_starts_188 : decode cX6_starts 188 = .ok (.getfield 47, 3) := by decide +kernel
theorem dX6_starts_191 : decode cX6_starts 191 = .ok (.bipush 80, 2) := by decide +kernel
theorem dX6_starts_193 : decode cX6_starts 193 = .ok (.iload 4, 2) := by decide +kernel
theorem dX6_starts_195 : decode cX6_starts 195 = .ok (.imul, 1) := by decide +kernel
theorem dX6_starts_196 : decode cX6_starts 196 = .ok (.aload_n 0, 1) := by decide +kernel
theorem dX6_starts_197 : decode cX6_starts 197 = .ok (.getfield 65, 3) := by decide +kernel
theorem dX6_starts_200 : decode cX6_starts 200 = .ok (.iload_n 2, 1) := by decide +kernel
theorem dX6_starts_201 : decode cX6_starts 201 = .ok (.iaload, 1) := by decide +kernel
theorem dX6_starts_202 : decode cX6_starts 202 = .ok (.iadd, 1) := by decide +kernel
theorem dX6_starts_203 : decode cX6_starts 203 = .ok (.iaload, 1) := by decide +kernel
theorem dX6_starts_204 : decode cX6_starts 204 = .ok (.iastore, 1) := by decide +kernel
theorem dX6_starts_205 : decode cX6_starts 205 = .ok (.aload_n 0, 1) := by decide +kernel
theorem dX6_starts_206 : decode cX6_starts 206 = .ok (.getfield 65, 3) := by decide +kernel
theorem dX6_starts_209 : decode cX6_starts 209 = .ok (.iload_n 2, 1) := by decide +kernel
theorem dX6_starts_210 : decode cX6_starts 210 = .ok (.iconst 1, 1) := by decide +kernel
theorem dX6_starts_211 : decode cX6_starts 211 = .ok (.iadd, 1) := by decide +kernel
theorem dX6_starts_212 : decode cX6_starts 212 = .ok (.iconst 0, 1) := by decide +kernel
theorem dX6_starts_213 : decode cX6_starts 213 = .ok (.iastore, 1) := by decide +kernel
theorem dX6_starts_214 : decode cX6_starts 214 = .ok (.aload_n 0, 1) := by decide +kernel
theorem dX6_starts_215 : decode cX6_starts 215 = .ok (.getfield 65, 3) := by decide +kernel
theorem dX6_starts_218 : decode cX6_starts 218 = .ok (.iload_n 2, 1) := by decide +kernel
theorem dX6_starts_219 : decode cX6_starts 219 = .ok (.dup2, 1) := by decide +kernel
theorem dX6_starts_220 : decode cX6_starts 220 = .ok (.iaload, 1) := by decide +kernel
theorem dX6_starts_221 : decode cX6_starts 221 = .ok (.iconst 1, 1) := by decide +kernel
theorem dX6_starts_222 : decode cX6_starts 222 = .ok (.iadd, 1) := by decide +kernel
theorem dX6_starts_223 : decode cX6_starts 223 = .ok (.iastore, 1) := by decide +kernel
theorem dX6_starts_224 : decode cX6_starts 224 = .ok (.iload 5, 2) := by decide +kernel
theorem dX6_starts_226 : decode cX6_starts 226 = .ok (.ifCond .eq 37, 3) := by decide +kernel
theorem dX6_starts_229 : decode cX6_starts 229 = .ok (.aload_n 0, 1) := by decide +kernel
theorem dX6_starts_230 : decode cX6_starts 230 = .ok (.getfield 20, 3) := by decide +kernel
theorem dX6_starts_233 : decode cX6_starts 233 = .ok (.iload 4, 2) := by decide +kernel
theorem dX6_starts_235 : decode cX6_starts 235 = .ok (.iload_n 3, 1) := by decide +kernel
theorem dX6_starts_236 : decode cX6_starts 236 = .ok (.iconst 1, 1) := by decide +kernel
theorem dX6_starts_237 : decode cX6_starts 237 = .ok (.if_icmp .ne 7, 3) := by decide +kernel
theorem dX6_starts_240 : decode cX6_starts 240 = .ok (.iconst 1, 1) := by decide +kernel
theorem dX6_starts_241 : decode cX6_starts 241 = .ok (.goto 4, 3) := by decide +kernel
theorem dX6_starts_244 : decode cX6_starts 244 = .ok (.iconst 0, 1) := by decide +kernel
theorem dX6_starts_245 : decode cX6_starts 245 = .ok (.iastore, 1) := by decide +kernel
theorem dX6_starts_246 : decode cX6_starts 246 = .ok (.aload_n 0, 1) := by decide +kernel
theorem dX6_starts_247 : decode cX6_starts 247 = .ok (.iload_n 3, 1) := by decide +kernel
theorem dX6_starts_248 : decode cX6_starts 248 = .ok (.iconst 1, 1) := by decide +kernel
theorem dX6_starts_249 : decode cX6_starts 249 = .ok (.if_icmp .ne 7, 3) := by decide +kernel
theorem dX6_starts_252 : decode cX6_starts 252 = .ok (.iconst 1, 1) := by decide +kernel
theorem dX6_starts_253 : decode cX6_starts 253 = .ok (.goto 4, 3) := by decide +kernel
theorem dX6_starts_256 : decode cX6_starts 256 = .ok (.iconst 2, 1) := by decide +kernel
theorem dX6_starts_257 : decode cX6_starts 257 = .ok (.iload 4, 2) := by decide +kernel
theorem dX6_starts_259 : decode cX6_starts 259 = .ok (.iconst 0, 1) := by decide +kernel
theorem dX6_starts_260 : decode cX6_starts 260 = .ok (.invokevirtual 89, 3) := by decide +kernel
theorem dX6_starts_263 : decode cX6_starts 263 = .ok (.iload_n 2, 1) := by decide +kernel
theorem dX6_starts_264 : decode cX6_starts 264 = .ok (.iload 5, 2) := by decide +kernel
theorem dX6_starts_266 : decode cX6_starts 266 = .ok (.ifCond .eq 7, 3) := by decide +kernel
theorem dX6_starts_269 : decode cX6_starts 269 = .ok (.iconst (-1), 1) := by decide +kernel
theorem dX6_starts_270 : decode cX6_starts 270 = .ok (.goto 4, 3) := by decide +kernel
theorem dX6_starts_273 : decode cX6_starts 273 = .ok (.iconst 1, 1) := by decide +kernel
theorem dX6_starts_274 : decode cX6_starts 274 = .ok (.iadd, 1) := by decide +kernel
theorem dX6_starts_275 : decode cX6_starts 275 = .ok (.istore_n 2, 1) := by decide +kernel
theorem dX6_starts_276 : decode cX6_starts 276 = .ok (.goto (-258), 3) := by decide +kernel
theorem dX6_starts_279 : decode cX6_starts 279 = .ok (.iload_n 3, 1) := by decide +kernel
theorem dX6_starts_280 : decode cX6_starts 280 = .ok (.iconst 1, 1) := by decide +kernel
theorem dX6_starts_281 : decode cX6_starts 281 = .ok (.if_icmp .ne 7, 3) := by decide +kernel
theorem dX6_starts_284 : decode cX6_starts 284 = .ok (.iconst 1, 1) := by decide +kernel
theorem dX6_starts_285 : decode cX6_starts 285 = .ok (.goto 4, 3) := by decide +kernel
theorem dX6_starts_288 : decode cX6_starts 288 = .ok (.iconst 0, 1) := by decide +kernel
theorem dX6_starts_289 : decode cX6_starts 289 = .ok (.ireturn, 1) := by decide +kernel
theorem dX6_stopsBelow_0 : decode cX6_stopsBelow 0 = .ok (.aload_n 0, 1) := by decide +kernel
theorem dX6_stopsBelow_1 : decode cX6_stopsBelow 1 = .ok (.getfield 50, 3) := by decide +kernel
theorem dX6_stopsBelow_4 : decode cX6_stopsBelow 4 = .ok (.iload_n 1, 1) := by decide +kernel
theorem dX6_stopsBelow_5 : decode cX6_stopsBelow 5 = .ok (.iaload, 1) := by decide +kernel
theorem dX6_stopsBelow_6 : decode cX6_stopsBelow 6 = .ok (.iconst 1, 1) := by decide +kernel
theorem dX6_stopsBelow_7 : decode cX6_stopsBelow 7 = .ok (.isub, 1) := by decide +kernel
theorem dX6_stopsBelow_8 : decode cX6_stopsBelow 8 = .ok (.istore 4, 2) := by decide +kernel
theorem dX6_stopsBelow_10 : decode cX6_stopsBelow 10 = .ok (.iload 4, 2) := by decide +kernel
theorem dX6_stopsBelow_12 : decode cX6_stopsBelow 12 = .ok (.iload_n 3, 1) := by decide +kernel
theorem dX6_stopsBelow_13 : decode cX6_stopsBelow 13 = .ok (.if_icmp .lt 43, 3) := by decide +kernel
theorem dX6_stopsBelow_16 : decode cX6_stopsBelow 16 = .ok (.aload_n 0, 1) := by decide +kernel
theorem dX6_stopsBelow_17 : decode cX6_stopsBelow 17 = .ok (.getfield 47, 3) := by decide +kernel
theorem dX6_stopsBelow_20 : decode cX6_stopsBelow 20 = .ok (.bipush 80, 2) := by decide +kernel
theorem dX6_stopsBelow_22 : decode cX6_stopsBelow 22 = .ok (.iload_n 1, 1) := by decide +kernel
theorem dX6_stopsBelow_23 : decode cX6_stopsBelow 23 = .ok (.imul, 1) := by decide +kernel
theorem dX6_stopsBelow_24 : decode cX6_stopsBelow 24 = .ok (.iload 4, 2) := by decide +kernel
theorem dX6_stopsBelow_26 : decode cX6_stopsBelow 26 = .ok (.iadd, 1) := by decide +kernel
theorem dX6_stopsBelow_27 : decode cX6_stopsBelow 27 = .ok (.iaload, 1) := by decide +kernel
theorem dX6_stopsBelow_28 : decode cX6_stopsBelow 28 = .ok (.istore 5, 2) := by decide +kernel
theorem dX6_stopsBelow_30 : decode cX6_stopsBelow 30 = .ok (.aload_n 0, 1) := by decide +kernel
theorem dX6_stopsBelow_31 : decode cX6_stopsBelow 31 = .ok (.getfield 20, 3) := by decide +kernel
theorem dX6_stopsBelow_34 : decode cX6_stopsBelow 34 = .ok (.iload 5, 2) := by decide +kernel
theorem dX6_stopsBelow_36 : decode cX6_stopsBelow 36 = .ok (.iaload, 1) := by decide +kernel
theorem dX6_stopsBelow_37 : decode cX6_stopsBelow 37 = .ok (.iconst 1, 1) := by decide +kernel
theorem dX6_stopsBelow_38 : decode cX6_stopsBelow 38 = .ok (.if_icmp .ne 12, 3) := by decide +kernel
theorem dX6_stopsBelow_41 : decode cX6_stopsBelow 41 = .ok (.aload_n 0, 1) := by decide +kernel
theorem dX6_stopsBelow_42 : decode cX6_stopsBelow 42 = .ok (.iload 5, 2) := by decide +kernel
theorem dX6_stopsBelow_44 : decode cX6_stopsBelow 44 = .ok (.iload_n 2, 1) := by decide +kernel
theorem dX6_stopsBelow_45 : decode cX6_stopsBelow 45 = .ok (.iconst 0, 1) := by decide +kernel
theorem dX6_stopsBelow_46 : decode cX6_stopsBelow 46 = .ok (.invokevirtual 92, 3) := by decide +kernel
theorem dX6_stopsBelow_49 : decode cX6_stopsBelow 49 = .ok (.pop, 1) := by decide +kernel
theorem dX6_stopsBelow_50 : decode cX6_stopsBelow 50 = .ok (.iinc 4 (-1), 3) := by decide +kernel
theorem dX6_stopsBelow_53 : decode cX6_stopsBelow 53 = .ok (.goto (-43), 3) := by decide +kernel
theorem dX6_stopsBelow_56 : decode cX6_stopsBelow 56 = .ok (.return_, 1) := by decide +kernel
theorem dX6_ceases_0 : decode cX6_ceases 0 = .ok (.iload_n 2, 1) := by decide +kernel
theorem dX6_ceases_1 : decode cX6_ceases 1 = .ok (.istore 4, 2) := by decide +kernel
theorem dX6_ceases_3 : decode cX6_ceases 3 = .ok (.iconst 0, 1) := by decide +kernel
theorem dX6_ceases_4 : decode cX6_ceases 4 = .ok (.istore 5, 2) := by decide +kernel
theorem dX6_ceases_6 : decode cX6_ceases 6 = .ok (.aload_n 0, 1) := by decide +kernel
theorem dX6_ceases_7 : decode cX6_ceases 7 = .ok (.getfield 62, 3) := by decide +kernel
theorem dX6_ceases_10 : decode cX6_ceases 10 = .ok (.iload 4, 2) := by decide +kernel
theorem dX6_ceases_12 : decode cX6_ceases 12 = .ok (.iload_n 1, 1) := by decide +kernel
theorem dX6_ceases_13 : decode cX6_ceases 13 = .ok (.iastore, 1) := by decide +kernel
theorem dX6_ceases_14 : decode cX6_ceases 14 = .ok (.aload_n 0, 1) := by decide +kernel
theorem dX6_ceases_15 : decode cX6_ceases 15 = .ok (.getfield 65, 3) := by decide +kernel
theorem dX6_ceases_18 : decode cX6_ceases 18 = .ok (.iload 4, 2) := by decide +kernel
theorem dX6_ceases_20 : decode cX6_ceases 20 = .ok (.aload_n 0, 1) := by decide +kernel
theorem dX6_ceases_21 : decode cX6_ceases 21 = .ok (.getfield 50, 3) := by decide +kernel
theorem dX6_ceases_24 : decode cX6_ceases 24 = .ok (.iload_n 1, 1) := by decide +kernel
theorem dX6_ceases_25 : decode cX6_ceases 25 = .ok (.iaload, 1) := by decide +kernel
theorem dX6_ceases_26 : decode cX6_ceases 26 = .ok (.iconst 1, 1) := by decide +kernel
theorem dX6_ceases_27 : decode cX6_ceases 27 = .ok (.isub, 1) := by decide +kernel
theorem dX6_ceases_28 : decode cX6_ceases 28 = .ok (.iastore, 1) := by decide +kernel
theorem dX6_ceases_29 : decode cX6_ceases 29 = .ok (.iload 4, 2) := by decide +kernel
theorem dX6_ceases_31 : decode cX6_ceases 31 = .ok (.iload_n 2, 1) := by decide +kernel
theorem dX6_ceases_32 : decode cX6_ceases 32 = .ok (.if_icmp .lt 303, 3) := by decide +kernel
theorem dX6_ceases_35 : decode cX6_ceases 35 = .ok (.aload_n 0, 1) := by decide +kernel
theorem dX6_ceases_36 : decode cX6_ceases 36 = .ok (.getfield 62, 3) := by decide +kernel
theorem dX6_ceases_39 : decode cX6_ceases 39 = .ok (.iload 4, 2) := by decide +kernel
theorem dX6_ceases_41 : decode cX6_ceases 41 = .ok (.iaload, 1) := by decide +kernel
theorem dX6_ceases_42 : decode cX6_ceases 42 = .ok (.istore 6, 2) := by decide +kernel
theorem dX6_ceases_44 : decode cX6_ceases 44 = .ok (.aload_n 0, 1) := by decide +kernel
theorem dX6_ceases_45 : decode cX6_ceases 45 = .ok (.getfield 7, 3) := by decide +kernel
theorem dX6_ceases_48 : decode cX6_ceases 48 = .ok (.iload 6, 2) := by decide +kernel
theorem dX6_ceases_50 : decode cX6_ceases 50 = .ok (.baload, 1) := by decide +kernel
theorem dX6_ceases_51 : decode cX6_ceases 51 = .ok (.ifCond .eq 54, 3) := by decide +kernel
theorem dX6_ceases_54 : decode cX6_ceases 54 = .ok (.aload_n 0, 1) := by decide +kernel
theorem dX6_ceases_55 : decode cX6_ceases 55 = .ok (.getfield 65, 3) := by decide +kernel
theorem dX6_ceases_58 : decode cX6_ceases 58 = .ok (.iload 4, 2) := by decide +kernel
theorem dX6_ceases_60 : decode cX6_ceases 60 = .ok (.iaload, 1) := by decide +kernel
theorem dX6_ceases_61 : decode cX6_ceases 61 = .ok (.ifCond .lt 44, 3) := by decide +kernel
theorem dX6_ceases_64 : decode cX6_ceases 64 = .ok (.aload_n 0, 1) := by decide +kernel
theorem dX6_ceases_65 : decode cX6_ceases 65 = .ok (.getfield 20, 3) := by decide +kernel
theorem dX6_ceases_68 : decode cX6_ceases 68 = .ok (.aload_n 0, 1) := by decide +kernel
theorem dX6_ceases_69 : decode cX6_ceases 69 = .ok (.getfield 47, 3) := by decide +kernel
theorem dX6_ceases_72 : decode cX6_ceases 72 = .ok (.bipush 80, 2) := by decide +kernel
theorem dX6_ceases_74 : decode cX6_ceases 74 = .ok (.iload 6, 2) := by decide +kernel
theorem dX6_ceases_76 : decode cX6_ceases 76 = .ok (.imul, 1) := by decide +kernel
theorem dX6_ceases_77 : decode cX6_ceases 77 = .ok (.aload_n 0, 1) := by decide +kernel
theorem dX6_ceases_78 : decode cX6_ceases 78 = .ok (.getfield 65, 3) := by decide +kernel
theorem dX6_ceases_81 : decode cX6_ceases 81 = .ok (.iload 4, 2) := by decide +kernel
theorem dX6_ceases_83 : decode cX6_ceases 83 = .ok (.iaload, 1) := by decide +kernel
theorem dX6_ceases_84 : decode cX6_ceases 84 = .ok (.iadd, 1) := by decide +kernel
theorem dX6_ceases_85 : decode cX6_ceases 85 = .ok (.iaload, 1) := by decide +kernel
theorem dX6_ceases_86 : decode cX6_ceases 86 = .ok (.iaload, 1) := by decide +kernel
theorem dX6_ceases_87 : decode cX6_ceases 87 = .ok (.iconst 1, 1) := by decide +kernel
theorem dX6_ceases_88 : decode cX6_ceases 88 = .ok (.if_icmp .eq 17, 3) := by decide +kernel
theorem dX6_ceases_91 : decode cX6_ceases 91 = .ok (.aload_n 0, 1) := by decide +kernel
theorem dX6_ceases_92 : decode cX6_ceases 92 = .ok (.getfield 65, 3) := by decide +kernel
theorem dX6_ceases_95 : decode cX6_ceases 95 = .ok (.iload 4, 2) := by decide +kernel
theorem dX6_ceases_97 : decode cX6_ceases 97 = .ok (.dup2, 1) := by decide +kernel
theorem dX6_ceases_98 : decode cX6_ceases 98 = .ok (.iaload, 1) := by decide +kernel
theorem dX6_ceases_99 : decode cX6_ceases 99 = .ok (.iconst 1, 1) := by decide +kernel
theorem dX6_ceases_100 : decode cX6_ceases 100 = .ok (.isub, 1) := by decide +kernel
theorem dX6_ceases_101 : decode cX6_ceases 101 = .ok (.iastore, 1) := by decide +kernel
theorem dX6_ceases_102 : decode cX6_ceases 102 = .ok (.goto (-58), 3) := by decide +kernel
theorem dX6_ceases_105 : decode cX6_ceases 105 = .ok (.aload_n 0, 1) := by decide +kernel
theorem dX6_ceases_106 : decode cX6_ceases 106 = .ok (.getfield 7, 3) := by decide +kernel
theorem dX6_ceases_109 : decode cX6_ceases 109 = .ok (.iload 6, 2) := by decide +kernel
theorem dX6_ceases_111 : decode cX6_ceases 111 = .ok (.baload, 1) := by decide +kernel
theorem dX6_ceases_112 : decode cX6_ceases 112 = .ok (.ifCond .eq 75, 3) := by decide +kernel
theorem dX6_ceases_115 : decode cX6_ceases 115 = .ok (.aload_n 0, 1) := by decide +kernel
theorem dX6_ceases_116 : decode cX6_ceases 116 = .ok (.getfield 65, 3) := by decide +kernel
theorem dX6_ceases_119 : decode cX6_ceases 119 = .ok (.iload 4, 2) := by decide +kernel
theorem dX6_ceases_121 : decode cX6_ceases 121 = .ok (.iaload, 1) := by decide +kernel
theorem dX6_ceases_122 : decode cX6_ceases 122 = .ok (.ifCond .lt 65, 3) := by decide +kernel
theorem dX6_ceases_125 : decode cX6_ceases 125 = .ok (.aload_n 0, 1) := by decide +kernel
theorem dX6_ceases_126 : decode cX6_ceases 126 = .ok (.getfield 47, 3) := by decide +kernel
theorem dX6_ceases_129 : decode cX6_ceases 129 = .ok (.bipush 80, 2) := by decide +kernel
theorem dX6_ceases_131 : decode cX6_ceases 131 = .ok (.iload 6, 2) := by decide +kernel
theorem dX6_ceases_133 : decode cX6_ceases 133 = .ok (.imul, 1) := by decide +kernel
theorem dX6_ceases_134 : decode cX6_ceases 134 = .ok (.aload_n 0, 1) := by decide +kernel
theorem dX6_ceases_135 : decode cX6_ceases 135 = .ok (.getfield 65, 3) := by decide +kernel
theorem dX6_ceases_138 : decode cX6_ceases 138 = .ok (.iload 4, 2) := by decide +kernel
theorem dX6_ceases_140 : decode cX6_ceases 140 = .ok (.iaload, 1) := by decide +kernel
theorem dX6_ceases_141 : decode cX6_ceases 141 = .ok (.iadd, 1) := by decide +kernel
theorem dX6_ceases_142 : decode cX6_ceases 142 = .ok (.iaload, 1) := by decide +kernel
theorem dX6_ceases_143 : decode cX6_ceases 143 = .ok (.istore 7, 2) := by decide +kernel
theorem dX6_ceases_145 : decode cX6_ceases 145 = .ok (.aload_n 0, 1) := by decide +kernel
theorem dX6_ceases_146 : decode cX6_ceases 146 = .ok (.getfield 65, 3) := by decide +kernel
theorem dX6_ceases_149 : decode cX6_ceases 149 = .ok (.iload 4, 2) := by decide +kernel
theorem dX6_ceases_151 : decode cX6_ceases 151 = .ok (.dup2, 1) := by decide +kernel
theorem dX6_ceases_152 : decode cX6_ceases 152 = .ok (.iaload, 1) := by decide +kernel
theorem dX6_ceases_153 : decode cX6_ceases 153 = .ok (.iconst 1, 1) := by decide +kernel
theorem dX6_ceases_154 : decode cX6_ceases 154 = .ok (.isub, 1) := by decide +kernel
theorem dX6_ceases_155 : decode cX6_ceases 155 = .ok (.iastore, 1) := by decide +kernel
theorem dX6_ceases_156 : decode cX6_ceases 156 = .ok (.iinc 4 1, 3) := by decide +kernel
theorem dX6_ceases_159 : decode cX6_ceases 159 = .ok (.aload_n 0, 1) := by decide +kernel
theorem dX6_ceases_160 : decode cX6_ceases 160 = .ok (.getfield 62, 3) := by decide +kernel
theorem dX6_ceases_163 : decode cX6_ceases 163 = .ok (.iload 4, 2) := by decide +kernel
theorem dX6_ceases_165 : decode cX6_ceases 165 = .ok (.iload 7, 2) := by decide +kernel
theorem dX6_ceases_167 : decode cX6_ceases 167 = .ok (.iastore, 1) := by decide +kernel
theorem dX6_ceases_168 : decode cX6_ceases 168 = .ok (.aload_n 0, 1) := by decide +kernel
theorem dX6_ceases_169 : decode cX6_ceases 169 = .ok (.getfield 65, 3) := by decide +kernel
theorem dX6_ceases_172 : decode cX6_ceases 172 = .ok (.iload 4, 2) := by decide +kernel
theorem dX6_ceases_174 : decode cX6_ceases 174 = .ok (.aload_n 0, 1) := by decide +kernel
theorem dX6_ceases_175 : decode cX6_ceases 175 = .ok (.getfield 50, 3) := by decide +kernel
theorem dX6_ceases_178 : decode cX6_ceases 178 = .ok (.iload 7, 2) := by decide +kernel
theorem dX6_ceases_180 : decode cX6_ceases 180 = .ok (.iaload, 1) := by decide +kernel
theorem dX6_ceases_181 : decode cX6_ceases 181 = .ok (.iconst 1, 1) := by decide +kernel
theorem dX6_ceases_182 : decode cX6_ceases 182 = .ok (.isub, 1) := by decide +kernel
theorem dX6_ceases_183 : decode cX6_ceases 183 = .ok (.iastore, 1) := by decide +kernel
theorem dX6_ceases_184 : decode cX6_ceases 184 = .ok (.goto (-155), 3) := by decide +kernel
theorem dX6_ceases_187 : decode cX6_ceases 187 = .ok (.iload_n 3, 1) := by decide +kernel
theorem dX6_ceases_188 : decode cX6_ceases 188 = .ok (.istore 7, 2) := by decide +kernel
theorem dX6_ceases_190 : decode cX6_ceases 190 = .ok (.aload_n 0, 1) := by decide +kernel
theorem dX6_ceases_191 : decode cX6_ceases 191 = .ok (.getfield 7, 3) := by decide +kernel
theorem dX6_ceases_194 : decode cX6_ceases 194 = .ok (.iload 6, 2) := by decide +kernel
theorem dX6_ceases_196 : decode cX6_ceases 196 = .ok (.baload, 1) := by decide +kernel
theorem dX6_ceases_197 : decode cX6_ceases 197 = .ok (.ifCond .ne 104, 3) := by decide +kernel
theorem dX6_ceases_200 : decode cX6_ceases 200 = .ok (.iload_n 3, 1) := by decide +kernel
theorem dX6_ceases_201 : decode cX6_ceases 201 = .ok (.ifCond .ne 100, 3) := by decide +kernel
theorem dX6_ceases_204 : decode cX6_ceases 204 = .ok (.aload_n 0, 1) := by decide +kernel
theorem dX6_ceases_205 : decode cX6_ceases 205 = .ok (.getfield 35, 3) := by decide +kernel
theorem dX6_ceases_208 : decode cX6_ceases 208 = .ok (.iload 6, 2) := by decide +kernel
theorem dX6_ceases_210 : decode cX6_ceases 210 = .ok (.iaload, 1) := by decide +kernel
theorem dX6_ceases_211 : decode cX6_ceases 211 = .ok (.ifCond .eq 30, 3) := by decide +kernel
theorem dX6_ceases_214 : decode cX6_ceases 214 = .ok (.aload_n 0, 1) := by decide +kernel
theorem dX6_ceases_215 : decode cX6_ceases 215 = .ok (.getfield 35, 3) := by decide +kernel
theorem dX6_ceases_218 : decode cX6_ceases 218 = .ok (.iload 6, 2) := by decide +kernel
theorem dX6_ceases_220 : decode cX6_ceases 220 = .ok (.iaload, 1) := by decide +kernel
theorem dX6_ceases_221 : decode cX6_ceases 221 = .ok (.ifCond .le 24, 3) := by decide +kernel
theorem dX6_ceases_224 : decode cX6_ceases 224 = .ok (.aload_n 0, 1) := by decide +kernel
theorem dX6_ceases_225 : decode cX6_ceases 225 = .ok (.getfield 41, 3) := by decide +kernel
theorem dX6_ceases_228 : decode cX6_ceases 228 = .ok (.iload 6, 2) := by decide +kernel
theorem dX6_ceases_230 : decode cX6_ceases 230 = .ok (.iaload, 1) := by decide +kernel
theorem dX6_ceases_231 : decode cX6_ceases 231 = .ok (.aload_n 0, 1) := by decide +kernel
theorem dX6_ceases_232 : decode cX6_ceases 232 = .ok (.getfield 35, 3) := by decide +kernel
theorem dX6_ceases_235 : decode cX6_ceases 235 = .ok (.iload 6, 2) := by decide +kernel
theorem dX6_ceases_237 : decode cX6_ceases 237 = .ok (.iaload, 1) := by decide +kernel
theorem dX6_ceases_238 : decode cX6_ceases 238 = .ok (.if_icmp .le 7, 3) := by decide +kernel
theorem dX6_ceases_241 : decode cX6_ceases 241 = .ok (.iconst 1, 1) := by decide +kernel
theorem dX6_ceases_242 : decode cX6_ceases 242 = .ok (.goto 4, 3) := by decide +kernel
theorem dX6_ceases_245 : decode cX6_ceases 245 = .ok (.iconst 0, 1) := by decide +kernel
theorem dX6_ceases_246 : decode cX6_ceases 246 = .ok (.istore 7, 2) := by decide +kernel
theorem dX6_ceases_248 : decode cX6_ceases 248 = .ok (.aload_n 0, 1) := by decide +kernel
theorem dX6_ceases_249 : decode cX6_ceases 249 = .ok (.dup, 1) := by decide +kernel
theorem dX6_ceases_250 : decode cX6_ceases 250 = .ok (.getfield 82, 3) := by decide +kernel
theorem dX6_ceases_253 : decode cX6_ceases 253 = .ok (.aload_n 0, 1) := by decide +kernel
theorem dX6_ceases_254 : decode cX6_ceases 254 = .ok (.getfield 35, 3) := by decide +kernel
theorem dX6_ceases_257 : decode cX6_ceases 257 = .ok (.iload 6, 2) := by decide +kernel
theorem dX6_ceases_259 : decode cX6_ceases 259 = .ok (.iaload, 1) := by decide +kernel
theorem dX6_ceases_260 : decode cX6_ceases 260 = .ok (.ifCond .lt 20, 3) := by decide +kernel
theorem dX6_ceases_263 : decode cX6_ceases 263 = .ok (.aload_n 0, 1) := by decide +kernel
theorem dX6_ceases_264 : decode cX6_ceases 264 = .ok (.getfield 41, 3) := by decide +kernel
theorem dX6_ceases_267 : decode cX6_ceases 267 = .ok (.iload 6, 2) := by decide +kernel
theorem dX6_ceases_269 : decode cX6_ceases 269 = .ok (.iaload, 1) := by decide +kernel
theorem dX6_ceases_270 : decode cX6_ceases 270 = .ok (.aload_n 0, 1) := by decide +kernel
theorem dX6_ceases_271 : decode cX6_ceases 271 = .ok (.getfield 35, 3) := by decide +kernel
theorem dX6_ceases_274 : decode cX6_ceases 274 = .ok (.iload 6, 2) := by decide +kernel
theorem dX6_ceases_276 : decode cX6_ceases 276 = .ok (.iaload, 1) := by decide +kernel
theorem dX6_ceases_277 : decode cX6_ceases 277 = .ok (.if_icmp .ge 13, 3) := by decide +kernel
theorem dX6_ceases_280 : decode cX6_ceases 280 = .ok (.aload_n 0, 1) := by decide +kernel
theorem dX6_ceases_281 : decode cX6_ceases 281 = .ok (.getfield 41, 3) := by decide +kernel
theorem dX6_ceases_284 : decode cX6_ceases 284 = .ok (.iload 6, 2) := by decide +kernel
theorem dX6_ceases_286 : decode cX6_ceases 286 = .ok (.iaload, 1) := by decide +kernel
theorem dX6_ceases_287 : decode cX6_ceases 287 = .ok (.goto 10, 3) := by decide +kernel
theorem dX6_ceases_290 : decode cX6_ceases 290 = .ok (.aload_n 0, 1) := by decide +kernel
theorem dX6_ceases_291 : decode cX6_ceases 291 = .ok (.getfield 35, 3) := by decide +kernel
theorem dX6_ceases_294 : decode cX6_ceases 294 = .ok (.iload 6, 2) := by decide +kernel
theorem dX6_ceases_296 : decode cX6_ceases 296 = .ok (.iaload, 1) := by decide +kernel
theorem dX6_ceases_297 : decode cX6_ceases 297 = .ok (.iadd, 1) := by decide +kernel
theorem dX6_ceases_298 : decode cX6_ceases 298 = .ok (.putfield 82, 3) := by decide +kernel
theorem dX6_ceases_301 : decode cX6_ceases 301 = .ok (.aload_n 0, 1) := by decide +kernel
theorem dX6_ceases_302 : decode cX6_ceases 302 = .ok (.getfield 20, 3) := by decide +kernel
theorem dX6_ceases_305 : decode cX6_ceases 305 = .ok (.iload 6, 2) := by decide +kernel
theorem dX6_ceases_307 : decode cX6_ceases 307 = .ok (.iconst 0, 1) := by decide +kernel
theorem dX6_ceases_308 : decode cX6_ceases 308 = .ok (.iastore, 1) := by decide +kernel
theorem dX6_ceases_309 : decode cX6_ceases 309 = .ok (.aload_n 0, 1) := by decide +kernel
theorem dX6_ceases_310 : decode cX6_ceases 310 = .ok (.iload 7, 2) := by decide +kernel
theorem dX6_ceases_312 : decode cX6_ceases 312 = .ok (.ifCond .eq 7, 3) := by decide +kernel
theorem dX6_ceases_315 : decode cX6_ceases 315 = .ok (.iconst 4, 1) := by decide +kernel
theorem dX6_ceases_316 : decode cX6_ceases 316 = .ok (.goto 4, 3) := by decide +kernel
theorem dX6_ceases_319 : decode cX6_ceases 319 = .ok (.iconst 3, 1) := by decide +kernel
theorem dX6_ceases_320 : decode cX6_ceases 320 = .ok (.iload 6, 2) := by decide +kernel
theorem dX6_ceases_322 : decode cX6_ceases 322 = .ok (.iconst 0, 1) := by decide +kernel
theorem dX6_ceases_323 : decode cX6_ceases 323 = .ok (.invokevirtual 89, 3) := by decide +kernel
theorem dX6_ceases_326 : decode cX6_ceases 326 = .ok (.iinc 5 1, 3) := by decide +kernel
theorem dX6_ceases_329 : decode cX6_ceases 329 = .ok (.iinc 4 (-1), 3) := by decide +kernel
theorem dX6_ceases_332 : decode cX6_ceases 332 = .ok (.goto (-303), 3) := by decide +kernel
theorem dX6_ceases_335 : decode cX6_ceases 335 = .ok (.iload 5, 2) := by decide +kernel
theorem dX6_ceases_337 : decode cX6_ceases 337 = .ok (.ireturn, 1) := by decide +kernel
theorem dX6_place_0 : decode cX6_place 0 = .ok (.aload_n 0, 1) := by decide +kernel
theorem dX6_place_1 : decode cX6_place 1 = .ok (.getfield 13, 3) := by decide +kernel
theorem dX6_place_4 : decode cX6_place 4 = .ok (.iload_n 1, 1) := by decide +kernel
theorem dX6_place_5 : decode cX6_place 5 = .ok (.iaload, 1) := by decide +kernel
theorem dX6_place_6 : decode cX6_place 6 = .ok (.istore_n 2, 1) := by decide +kernel
theorem dX6_place_7 : decode cX6_place 7 = .ok (.iconst 0, 1) := by decide +kernel
theorem dX6_place_8 : decode cX6_place 8 = .ok (.istore_n 3, 1) := by decide +kernel
theorem dX6_place_9 : decode cX6_place 9 = .ok (.aload_n 0, 1) := by decide +kernel
theorem dX6_place_10 : decode cX6_place 10 = .ok (.getfield 47, 3) := by decide +kernel
theorem dX6_place_13 : decode cX6_place 13 = .ok (.bipush 80, 2) := by decide +kernel
theorem dX6_place_15 : decode cX6_place 15 = .ok (.iload_n 2, 1) := by decide +kernel
theorem dX6_place_16 : decode cX6_place 16 = .ok (.imul, 1) := by decide +kernel
theorem dX6_place_17 : decode cX6_place 17 = .ok (.iload_n 3, 1) := by decide +kernel
theorem dX6_place_18 : decode cX6_place 18 = .ok (.iadd, 1) := by decide +kernel
theorem dX6_place_19 : decode cX6_place 19 = .ok (.iaload, 1) := by decide +kernel
theorem dX6_place_20 : decode cX6_place 20 = .ok (.iload_n 1, 1) := by decide +kernel
theorem dX6_place_21 : decode cX6_place 21 = .ok (.if_icmp .eq 9, 3) := by decide +kernel
theorem dX6_place_24 : decode cX6_place 24 = .ok (.iinc 3 1, 3) := by decide +kernel
theorem dX6_place_27 : decode cX6_place 27 = .ok (.goto (-18), 3) := by decide +kernel
theorem dX6_place_30 : decode cX6_place 30 = .ok (.iload_n 3, 1) := by decide +kernel
theorem dX6_place_31 : decode cX6_place 31 = .ok (.ireturn, 1) := by decide +kernel
theorem dX6_goes_0 : decode cX6_goes 0 = .ok (.aload_n 0, 1) := by decide +kernel
theorem dX6_goes_1 : decode cX6_goes 1 = .ok (.getfield 13, 3) := by decide +kernel
theorem dX6_goes_4 : decode cX6_goes 4 = .ok (.iload_n 1, 1) := by decide +kernel
theorem dX6_goes_5 : decode cX6_goes 5 = .ok (.iaload, 1) := by decide +kernel
theorem dX6_goes_6 : decode cX6_goes 6 = .ok (.istore_n 2, 1) := by decide +kernel
theorem dX6_goes_7 : decode cX6_goes 7 = .ok (.aload_n 0, 1) := by decide +kernel
theorem dX6_goes_8 : decode cX6_goes 8 = .ok (.iload_n 1, 1) := by decide +kernel
theorem dX6_goes_9 : decode cX6_goes 9 = .ok (.invokevirtual 96, 3) := by decide +kernel
theorem dX6_goes_12 : decode cX6_goes 12 = .ok (.istore_n 3, 1) := by decide +kernel
theorem dX6_goes_13 : decode cX6_goes 13 = .ok (.iload_n 3, 1) := by decide +kernel
theorem dX6_goes_14 : decode cX6_goes 14 = .ok (.iconst 1, 1) := by decide +kernel
theorem dX6_goes_15 : decode cX6_goes 15 = .ok (.iadd, 1) := by decide +kernel
theorem dX6_goes_16 : decode cX6_goes 16 = .ok (.aload_n 0, 1) := by decide +kernel
theorem dX6_goes_17 : decode cX6_goes 17 = .ok (.getfield 50, 3) := by decide +kernel
theorem dX6_goes_20 : decode cX6_goes 20 = .ok (.iload_n 2, 1) := by decide +kernel
theorem dX6_goes_21 : decode cX6_goes 21 = .ok (.iaload, 1) := by decide +kernel
theorem dX6_goes_22 : decode cX6_goes 22 = .ok (.if_icmp .ge 33, 3) := by decide +kernel
theorem dX6_goes_25 : decode cX6_goes 25 = .ok (.aload_n 0, 1) := by decide +kernel
theorem dX6_goes_26 : decode cX6_goes 26 = .ok (.getfield 47, 3) := by decide +kernel
theorem dX6_goes_29 : decode cX6_goes 29 = .ok (.bipush 80, 2) := by decide +kernel
theorem dX6_goes_31 : decode cX6_goes 31 = .ok (.iload_n 2, 1) := by decide +kernel
theorem dX6_goes_32 : decode cX6_goes 32 = .ok (.imul, 1) := by decide +kernel
theorem dX6_goes_33 : decode cX6_goes 33 = .ok (.iload_n 3, 1) := by decide +kernel
theorem dX6_goes_34 : decode cX6_goes 34 = .ok (.iadd, 1) := by decide +kernel
theorem dX6_goes_35 : decode cX6_goes 35 = .ok (.aload_n 0, 1) := by decide +kernel
theorem dX6_goes_36 : decode cX6_goes 36 = .ok (.getfield 47, 3) := by decide +kernel
theorem dX6_goes_39 : decode cX6_goes 39 = .ok (.bipush 80, 2) := by decide +kernel
theorem dX6_goes_41 : decode cX6_goes 41 = .ok (.iload_n 2, 1) := by decide +kernel
theorem dX6_goes_42 : decode cX6_goes 42 = .ok (.imul, 1) := by decide +kernel
theorem dX6_goes_43 : decode cX6_goes 43 = .ok (.iload_n 3, 1) := by decide +kernel
theorem dX6_goes_44 : decode cX6_goes 44 = .ok (.iadd, 1) := by decide +kernel
theorem dX6_goes_45 : decode cX6_goes 45 = .ok (.iconst 1, 1) := by decide +kernel
theorem dX6_goes_46 : decode cX6_goes 46 = .ok (.iadd, 1) := by decide +kernel
theorem dX6_goes_47 : decode cX6_goes 47 = .ok (.iaload, 1) := by decide +kernel
theorem dX6_goes_48 : decode cX6_goes 48 = .ok (.iastore, 1) := by decide +kernel
theorem dX6_goes_49 : decode cX6_goes 49 = .ok (.iinc 3 1, 3) := by decide +kernel
theorem dX6_goes_52 : decode cX6_goes 52 = .ok (.goto (-39), 3) := by decide +kernel
theorem dX6_goes_55 : decode cX6_goes 55 = .ok (.aload_n 0, 1) := by decide +kernel
theorem dX6_goes_56 : decode cX6_goes 56 = .ok (.getfield 50, 3) := by decide +kernel
theorem dX6_goes_59 : decode cX6_goes 59 = .ok (.iload_n 2, 1) := by decide +kernel
theorem dX6_goes_60 : decode cX6_goes 60 = .ok (.dup2, 1) := by decide +kernel
theorem dX6_goes_61 : decode cX6_goes 61 = .ok (.iaload, 1) := by decide +kernel
theorem dX6_goes_62 : decode cX6_goes 62 = .ok (.iconst 1, 1) := by decide +kernel
theorem dX6_goes_63 : decode cX6_goes 63 = .ok (.isub, 1) := by decide +kernel
theorem dX6_goes_64 : decode cX6_goes 64 = .ok (.iastore, 1) := by decide +kernel
theorem dX6_goes_65 : decode cX6_goes 65 = .ok (.aload_n 0, 1) := by decide +kernel
theorem dX6_goes_66 : decode cX6_goes 66 = .ok (.bipush 7, 2) := by decide +kernel
theorem dX6_goes_68 : decode cX6_goes 68 = .ok (.iload_n 1, 1) := by decide +kernel
theorem dX6_goes_69 : decode cX6_goes 69 = .ok (.iconst 0, 1) := by decide +kernel
theorem dX6_goes_70 : decode cX6_goes 70 = .ok (.invokevirtual 89, 3) := by decide +kernel
theorem dX6_goes_73 : decode cX6_goes 73 = .ok (.aload_n 0, 1) := by decide +kernel
theorem dX6_goes_74 : decode cX6_goes 74 = .ok (.getfield 20, 3) := by decide +kernel
theorem dX6_goes_77 : decode cX6_goes 77 = .ok (.iload_n 1, 1) := by decide +kernel
theorem dX6_goes_78 : decode cX6_goes 78 = .ok (.iconst 2, 1) := by decide +kernel
theorem dX6_goes_79 : decode cX6_goes 79 = .ok (.iastore, 1) := by decide +kernel
theorem dX6_goes_80 : decode cX6_goes 80 = .ok (.iconst 1, 1) := by decide +kernel
theorem dX6_goes_81 : decode cX6_goes 81 = .ok (.istore_n 3, 1) := by decide +kernel
theorem dX6_goes_82 : decode cX6_goes 82 = .ok (.iload_n 1, 1) := by decide +kernel
theorem dX6_goes_83 : decode cX6_goes 83 = .ok (.iconst 1, 1) := by decide +kernel
theorem dX6_goes_84 : decode cX6_goes 84 = .ok (.iadd, 1) := by decide +kernel
theorem dX6_goes_85 : decode cX6_goes 85 = .ok (.istore 4, 2) := by decide +kernel
theorem dX6_goes_87 : decode cX6_goes 87 = .ok (.iload 4, 2) := by decide +kernel
theorem dX6_goes_89 : decode cX6_goes 89 = .ok (.aload_n 0, 1) := by decide +kernel
theorem dX6_goes_90 : decode cX6_goes 90 = .ok (.getfield 68, 3) := by decide +kernel
theorem dX6_goes_93 : decode cX6_goes 93 = .ok (.if_icmp .ge 47, 3) := by decide +kernel
theorem dX6_goes_96 : decode cX6_goes 96 = .ok (.aload_n 0, 1) := by decide +kernel
theorem dX6_goes_97 : decode cX6_goes 97 = .ok (.getfield 20, 3) := by decide +kernel
theorem dX6_goes_100 : decode cX6_goes 100 = .ok (.iload 4, 2) := by decide +kernel
theorem dX6_goes_102 : decode cX6_goes 102 = .ok (.iaload, 1) := by decide +kernel
theorem dX6_goes_103 : decode cX6_goes 103 = .ok (.iconst 2, 1) := by decide +kernel
theorem dX6_goes_104 : decode cX6_goes 104 = .ok (.if_icmp .eq 30, 3) := by decide +kernel
theorem dX6_goes_107 : decode cX6_goes 107 = .ok (.aload_n 0, 1) := by decide +kernel
theorem dX6_goes_108 : decode cX6_goes 108 = .ok (.getfield 20, 3) := by decide +kernel
theorem dX6_goes_111 : decode cX6_goes 111 = .ok (.aload_n 0, 1) := by decide +kernel
theorem dX6_goes_112 : decode cX6_goes 112 = .ok (.getfield 13, 3) := by decide +kernel
theorem dX6_goes_115 : decode cX6_goes 115 = .ok (.iload 4, 2) := by decide +kernel
theorem dX6_goes_117 : decode cX6_goes 117 = .ok (.iaload, 1) := by decide +kernel
theorem dX6_goes_118 : decode cX6_goes 118 = .ok (.iaload, 1) := by decide +kernel
theorem dX6_goes_119 : decode cX6_goes 119 = .ok (.iconst 2, 1) := by decide +kernel
theorem dX6_goes_120 : decode cX6_goes 120 = .ok (.if_icmp .ne 14, 3) := by decide +kernel
theorem dX6_goes_123 : decode cX6_goes 123 = .ok (.aload_n 0, 1) := by decide +kernel
theorem dX6_goes_124 : decode cX6_goes 124 = .ok (.getfield 20, 3) := by decide +kernel
theorem dX6_goes_127 : decode cX6_goes 127 = .ok (.iload 4, 2) := by decide +kernel
theorem dX6_goes_129 : decode cX6_goes 129 = .ok (.iconst 2, 1) := by decide +kernel
theorem dX6_goes_130 : decode cX6_goes 130 = .ok (.iastore, 1) := by decide +kernel
theorem dX6_goes_131 : decode cX6_goes 131 = .ok (.iinc 3 1, 3) := by decide +kernel
theorem dX6_goes_134 : decode cX6_goes 134 = .ok (.iinc 4 1, 3) := by decide +kernel
theorem dX6_goes_137 : decode cX6_goes 137 = .ok (.goto (-50), 3) := by decide +kernel
theorem dX6_goes_140 : decode cX6_goes 140 = .ok (.iload_n 3, 1) := by decide +kernel
theorem dX6_goes_141 : decode cX6_goes 141 = .ok (.ireturn, 1) := by decide +kernel
theorem dX6_counts_0 : decode cX6_counts 0 = .ok (.bipush 52, 2) := by decide +kernel
theorem dX6_counts_2 : decode cX6_counts 2 = .ok (.iload_n 1, 1) := by decide +kernel
theorem dX6_counts_3 : decode cX6_counts 3 = .ok (.imul, 1) := by decide +kernel
theorem dX6_counts_4 : decode cX6_counts 4 = .ok (.istore_n 2, 1) := by decide +kernel
theorem dX6_counts_5 : decode cX6_counts 5 = .ok (.iconst 0, 1) := by decide +kernel
theorem dX6_counts_6 : decode cX6_counts 6 = .ok (.istore_n 3, 1) := by decide +kernel
theorem dX6_counts_7 : decode cX6_counts 7 = .ok (.iconst 0, 1) := by decide +kernel
theorem dX6_counts_8 : decode cX6_counts 8 = .ok (.istore 4, 2) := by decide +kernel
theorem dX6_counts_10 : decode cX6_counts 10 = .ok (.iload 4, 2) := by decide +kernel
theorem dX6_counts_12 : decode cX6_counts 12 = .ok (.aload_n 0, 1) := by decide +kernel
theorem dX6_counts_13 : decode cX6_counts 13 = .ok (.getfield 56, 3) := by decide +kernel
theorem dX6_counts_16 : decode cX6_counts 16 = .ok (.iload_n 1, 1) := by decide +kernel
theorem dX6_counts_17 : decode cX6_counts 17 = .ok (.iaload, 1) := by decide +kernel
theorem dX6_counts_18 : decode cX6_counts 18 = .ok (.if_icmp .ge 52, 3) := by decide +kernel
theorem dX6_counts_21 : decode cX6_counts 21 = .ok (.aload_n 0, 1) := by decide +kernel
theorem dX6_counts_22 : decode cX6_counts 22 = .ok (.getfield 53, 3) := by decide +kernel
theorem dX6_counts_25 : decode cX6_counts 25 = .ok (.iload_n 2, 1) := by decide +kernel
theorem dX6_counts_26 : decode cX6_counts 26 = .ok (.iload 4, 2) := by decide +kernel
theorem dX6_counts_28 : decode cX6_counts 28 = .ok (.iadd, 1) := by decide +kernel
theorem dX6_counts_29 : decode cX6_counts 29 = .ok (.iaload, 1) := by decide +kernel
theorem dX6_counts_30 : decode cX6_counts 30 = .ok (.aload_n 0, 1) := by decide +kernel
theorem dX6_counts_31 : decode cX6_counts 31 = .ok (.getfield 82, 3) := by decide +kernel
theorem dX6_counts_34 : decode cX6_counts 34 = .ok (.aload_n 0, 1) := by decide +kernel
theorem dX6_counts_35 : decode cX6_counts 35 = .ok (.getfield 32, 3) := by decide +kernel
theorem dX6_counts_38 : decode cX6_counts 38 = .ok (.iload_n 1, 1) := by decide +kernel
theorem dX6_counts_39 : decode cX6_counts 39 = .ok (.iaload, 1) := by decide +kernel
theorem dX6_counts_40 : decode cX6_counts 40 = .ok (.isub, 1) := by decide +kernel
theorem dX6_counts_41 : decode cX6_counts 41 = .ok (.if_icmp .lt 23, 3) := by decide +kernel
theorem dX6_counts_44 : decode cX6_counts 44 = .ok (.aload_n 0, 1) := by decide +kernel
theorem dX6_counts_45 : decode cX6_counts 45 = .ok (.getfield 53, 3) := by decide +kernel
theorem dX6_counts_48 : decode cX6_counts 48 = .ok (.iload_n 2, 1) := by decide +kernel
theorem dX6_counts_49 : decode cX6_counts 49 = .ok (.iload_n 3, 1) := by decide +kernel
theorem dX6_counts_50 : decode cX6_counts 50 = .ok (.iadd, 1) := by decide +kernel
theorem dX6_counts_51 : decode cX6_counts 51 = .ok (.aload_n 0, 1) := by decide +kernel
theorem dX6_counts_52 : decode cX6_counts 52 = .ok (.getfield 53, 3) := by decide +kernel
theorem dX6_counts_55 : decode cX6_counts 55 = .ok (.iload_n 2, 1) := by decide +kernel
theorem dX6_counts_56 : decode cX6_counts 56 = .ok (.iload 4, 2) := by decide +kernel
theorem dX6_counts_58 : decode cX6_counts 58 = .ok (.iadd, 1) := by decide +kernel
theorem dX6_counts_59 : decode cX6_counts 59 = .ok (.iaload, 1) := by decide +kernel
theorem dX6_counts_60 : decode cX6_counts 60 = .ok (.iastore, 1) := by decide +kernel
theorem dX6_counts_61 : decode cX6_counts 61 = .ok (.iinc 3 1, 3) := by decide +kernel
theorem dX6_counts_64 : decode cX6_counts 64 = .ok (.iinc 4 1, 3) := by decide +kernel
theorem dX6_counts_67 : decode cX6_counts 67 = .ok (.goto (-57), 3) := by decide +kernel
theorem dX6_counts_70 : decode cX6_counts 70 = .ok (.aload_n 0, 1) := by decide +kernel
theorem dX6_counts_71 : decode cX6_counts 71 = .ok (.getfield 53, 3) := by decide +kernel
theorem dX6_counts_74 : decode cX6_counts 74 = .ok (.iload_n 2, 1) := by decide +kernel
theorem dX6_counts_75 : decode cX6_counts 75 = .ok (.iload_n 3, 1) := by decide +kernel
theorem dX6_counts_76 : decode cX6_counts 76 = .ok (.iadd, 1) := by decide +kernel
theorem dX6_counts_77 : decode cX6_counts 77 = .ok (.aload_n 0, 1) := by decide +kernel
theorem dX6_counts_78 : decode cX6_counts 78 = .ok (.getfield 82, 3) := by decide +kernel
theorem dX6_counts_81 : decode cX6_counts 81 = .ok (.iastore, 1) := by decide +kernel
theorem dX6_counts_82 : decode cX6_counts 82 = .ok (.aload_n 0, 1) := by decide +kernel
theorem dX6_counts_83 : decode cX6_counts 83 = .ok (.getfield 56, 3) := by decide +kernel
theorem dX6_counts_86 : decode cX6_counts 86 = .ok (.iload_n 1, 1) := by decide +kernel
theorem dX6_counts_87 : decode cX6_counts 87 = .ok (.iload_n 3, 1) := by decide +kernel
theorem dX6_counts_88 : decode cX6_counts 88 = .ok (.iconst 1, 1) := by decide +kernel
theorem dX6_counts_89 : decode cX6_counts 89 = .ok (.iadd, 1) := by decide +kernel
theorem dX6_counts_90 : decode cX6_counts 90 = .ok (.iastore, 1) := by decide +kernel
theorem dX6_counts_91 : decode cX6_counts 91 = .ok (.aload_n 0, 1) := by decide +kernel
theorem dX6_counts_92 : decode cX6_counts 92 = .ok (.dup, 1) := by decide +kernel
theorem dX6_counts_93 : decode cX6_counts 93 = .ok (.getfield 100, 3) := by decide +kernel
theorem dX6_counts_96 : decode cX6_counts 96 = .ok (.iconst 1, 1) := by decide +kernel
theorem dX6_counts_97 : decode cX6_counts 97 = .ok (.iadd, 1) := by decide +kernel
theorem dX6_counts_98 : decode cX6_counts 98 = .ok (.putfield 100, 3) := by decide +kernel
theorem dX6_counts_101 : decode cX6_counts 101 = .ok (.iload_n 3, 1) := by decide +kernel
theorem dX6_counts_102 : decode cX6_counts 102 = .ok (.iconst 1, 1) := by decide +kernel
theorem dX6_counts_103 : decode cX6_counts 103 = .ok (.iadd, 1) := by decide +kernel
theorem dX6_counts_104 : decode cX6_counts 104 = .ok (.aload_n 0, 1) := by decide +kernel
theorem dX6_counts_105 : decode cX6_counts 105 = .ok (.getfield 29, 3) := by decide +kernel
theorem dX6_counts_108 : decode cX6_counts 108 = .ok (.iload_n 1, 1) := by decide +kernel
theorem dX6_counts_109 : decode cX6_counts 109 = .ok (.iaload, 1) := by decide +kernel
theorem dX6_counts_110 : decode cX6_counts 110 = .ok (.if_icmp .le 7, 3) := by decide +kernel
theorem dX6_counts_113 : decode cX6_counts 113 = .ok (.iconst 1, 1) := by decide +kernel
theorem dX6_counts_114 : decode cX6_counts 114 = .ok (.goto 4, 3) := by decide +kernel
theorem dX6_counts_117 : decode cX6_counts 117 = .ok (.iconst 0, 1) := by decide +kernel
theorem dX6_counts_118 : decode cX6_counts 118 = .ok (.ireturn, 1) := by decide +kernel
theorem dX6_handles_0 : decode cX6_handles 0 = .ok (.iload_n 1, 1) := by decide +kernel
theorem dX6_handles_1 : decode cX6_handles 1 = .ok (.istore_n 3, 1) := by decide +kernel
theorem dX6_handles_2 : decode cX6_handles 2 = .ok (.iload_n 2, 1) := by decide +kernel
theorem dX6_handles_3 : decode cX6_handles 3 = .ok (.istore 4, 2) := by decide +kernel
theorem dX6_handles_5 : decode cX6_handles 5 = .ok (.iload_n 3, 1) := by decide +kernel
theorem dX6_handles_6 : decode cX6_handles 6 = .ok (.ifCond .le 118, 3) := by decide +kernel
theorem dX6_handles_9 : decode cX6_handles 9 = .ok (.aload_n 0, 1) := by decide +kernel
theorem dX6_handles_10 : decode cX6_handles 10 = .ok (.getfield 23, 3) := by decide +kernel
theorem dX6_handles_13 : decode cX6_handles 13 = .ok (.iload_n 3, 1) := by decide +kernel
theorem dX6_handles_14 : decode cX6_handles 14 = .ok (.iaload, 1) := by decide +kernel
theorem dX6_handles_15 : decode cX6_handles 15 = .ok (.iconst 2, 1) := by decide +kernel
theorem dX6_handles_16 : decode cX6_handles 16 = .ok (.if_icmp .ne 10, 3) := by decide +kernel
theorem dX6_handles_19 : decode cX6_handles 19 = .ok (.aload_n 0, 1) := by decide +kernel
theorem dX6_handles_20 : decode cX6_handles 20 = .ok (.iload_n 3, 1) := by decide +kernel
theorem dX6_handles_21 : decode cX6_handles 21 = .ok (.invokevirtual 103, 3) := by decide +kernel
theorem dX6_handles_24 : decode cX6_handles 24 = .ok (.pop, 1) := by decide +kernel
theorem dX6_handles_25 : decode cX6_handles 25 = .ok (.return_, 1) := by decide +kernel
theorem dX6_handles_26 : decode cX6_handles 26 = .ok (.aload_n 0, 1) := by decide +kernel
theorem dX6_handles_27 : decode cX6_handles 27 = .ok (.getfield 23, 3) := by decide +kernel
theorem dX6_handles_30 : decode cX6_handles 30 = .ok (.iload_n 3, 1) := by decide +kernel
end
section
theorem dX6_handles_31 : decode cX6_handles 31 = .ok (.iaload, 1) := by decide +kernel
theorem dX6_handles_32 : decode cX6_handles 32 = .ok (.iconst 1, 1) := by decide +kernel
theorem dX6_handles_33 : decode cX6_handles 33 = .ok (.if_icmp .ne 10, 3) := by decide +kernel
theorem dX6_handles_36 : decode cX6_handles 36 = .ok (.iload 4, 2) := by decide +kernel
theorem dX6_handles_38 : decode cX6_handles 38 = .ok (.iconst 2, 1) := by decide +kernel
theorem dX6_handles_39 : decode cX6_handles 39 = .ok (.if_icmp .ge 4, 3) := by decide +kernel
theorem dX6_handles_42 : decode cX6_handles 42 = .ok (.return_, 1) := by decide +kernel
theorem dX6_handles_43 : decode cX6_handles 43 = .ok (.aload_n 0, 1) := by decide +kernel
theorem dX6_handles_44 : decode cX6_handles 44 = .ok (.getfield 13, 3) := by decide +kernel
theorem dX6_handles_47 : decode cX6_handles 47 = .ok (.iload_n 3, 1) := by decide +kernel
theorem dX6_handles_48 : decode cX6_handles 48 = .ok (.iaload, 1) := by decide +kernel
theorem dX6_handles_49 : decode cX6_handles 49 = .ok (.istore 5, 2) := by decide +kernel
theorem dX6_handles_51 : decode cX6_handles 51 = .ok (.iload_n 3, 1) := by decide +kernel
theorem dX6_handles_52 : decode cX6_handles 52 = .ok (.ifCond .lt 23, 3) := by decide +kernel
theorem dX6_handles_55 : decode cX6_handles 55 = .ok (.aload_n 0, 1) := by decide +kernel
theorem dX6_handles_56 : decode cX6_handles 56 = .ok (.iload 5, 2) := by decide +kernel
theorem dX6_handles_58 : decode cX6_handles 58 = .ok (.invokevirtual 106, 3) := by decide +kernel
theorem dX6_handles_61 : decode cX6_handles 61 = .ok (.ifCond .ne 14, 3) := by decide +kernel
theorem dX6_handles_64 : decode cX6_handles 64 = .ok (.aload_n 0, 1) := by decide +kernel
theorem dX6_handles_65 : decode cX6_handles 65 = .ok (.iload 5, 2) := by decide +kernel
theorem dX6_handles_67 : decode cX6_handles 67 = .ok (.iload_n 3, 1) := by decide +kernel
theorem dX6_handles_68 : decode cX6_handles 68 = .ok (.invokevirtual 109, 3) := by decide +kernel
theorem dX6_handles_71 : decode cX6_handles 71 = .ok (.istore_n 3, 1) := by decide +kernel
theorem dX6_handles_72 : decode cX6_handles 72 = .ok (.goto (-21), 3) := by decide +kernel
theorem dX6_handles_75 : decode cX6_handles 75 = .ok (.iload_n 3, 1) := by decide +kernel
theorem dX6_handles_76 : decode cX6_handles 76 = .ok (.ifCond .ge 4, 3) := by decide +kernel
theorem dX6_handles_79 : decode cX6_handles 79 = .ok (.return_, 1) := by decide +kernel
theorem dX6_handles_80 : decode cX6_handles 80 = .ok (.aload_n 0, 1) := by decide +kernel
theorem dX6_handles_81 : decode cX6_handles 81 = .ok (.bipush 6, 2) := by decide +kernel
theorem dX6_handles_83 : decode cX6_handles 83 = .ok (.iload 5, 2) := by decide +kernel
theorem dX6_handles_85 : decode cX6_handles 85 = .ok (.iconst 0, 1) := by decide +kernel
theorem dX6_handles_86 : decode cX6_handles 86 = .ok (.invokevirtual 89, 3) := by decide +kernel
theorem dX6_handles_89 : decode cX6_handles 89 = .ok (.aload_n 0, 1) := by decide +kernel
theorem dX6_handles_90 : decode cX6_handles 90 = .ok (.dup, 1) := by decide +kernel
theorem dX6_handles_91 : decode cX6_handles 91 = .ok (.getfield 112, 3) := by decide +kernel
theorem dX6_handles_94 : decode cX6_handles 94 = .ok (.iconst 1, 1) := by decide +kernel
theorem dX6_handles_95 : decode cX6_handles 95 = .ok (.iadd, 1) := by decide +kernel
theorem dX6_handles_96 : decode cX6_handles 96 = .ok (.putfield 112, 3) := by decide +kernel
theorem dX6_handles_99 : decode cX6_handles 99 = .ok (.aload_n 0, 1) := by decide +kernel
theorem dX6_handles_100 : decode cX6_handles 100 = .ok (.iload 5, 2) := by decide +kernel
theorem dX6_handles_102 : decode cX6_handles 102 = .ok (.iconst 0, 1) := by decide +kernel
theorem dX6_handles_103 : decode cX6_handles 103 = .ok (.iconst 0, 1) := by decide +kernel
theorem dX6_handles_104 : decode cX6_handles 104 = .ok (.invokevirtual 85, 3) := by decide +kernel
theorem dX6_handles_107 : decode cX6_handles 107 = .ok (.aload_n 0, 1) := by decide +kernel
theorem dX6_handles_108 : decode cX6_handles 108 = .ok (.getfield 20, 3) := by decide +kernel
theorem dX6_handles_111 : decode cX6_handles 111 = .ok (.iload 5, 2) := by decide +kernel
theorem dX6_handles_113 : decode cX6_handles 113 = .ok (.iconst 0, 1) := by decide +kernel
theorem dX6_handles_114 : decode cX6_handles 114 = .ok (.iastore, 1) := by decide +kernel
theorem dX6_handles_115 : decode cX6_handles 115 = .ok (.iload 5, 2) := by decide +kernel
theorem dX6_handles_117 : decode cX6_handles 117 = .ok (.istore_n 3, 1) := by decide +kernel
theorem dX6_handles_118 : decode cX6_handles 118 = .ok (.iconst 1, 1) := by decide +kernel
theorem dX6_handles_119 : decode cX6_handles 119 = .ok (.istore 4, 2) := by decide +kernel
theorem dX6_handles_121 : decode cX6_handles 121 = .ok (.goto (-116), 3) := by decide +kernel
theorem dX6_handles_124 : decode cX6_handles 124 = .ok (.return_, 1) := by decide +kernel
theorem dX6_restarts_0 : decode cX6_restarts 0 = .ok (.aload_n 0, 1) := by decide +kernel
theorem dX6_restarts_1 : decode cX6_restarts 1 = .ok (.iload_n 2, 1) := by decide +kernel
theorem dX6_restarts_2 : decode cX6_restarts 2 = .ok (.invokevirtual 96, 3) := by decide +kernel
theorem dX6_restarts_5 : decode cX6_restarts 5 = .ok (.istore_n 3, 1) := by decide +kernel
theorem dX6_restarts_6 : decode cX6_restarts 6 = .ok (.iload_n 3, 1) := by decide +kernel
theorem dX6_restarts_7 : decode cX6_restarts 7 = .ok (.iconst 1, 1) := by decide +kernel
theorem dX6_restarts_8 : decode cX6_restarts 8 = .ok (.iadd, 1) := by decide +kernel
theorem dX6_restarts_9 : decode cX6_restarts 9 = .ok (.istore 4, 2) := by decide +kernel
theorem dX6_restarts_11 : decode cX6_restarts 11 = .ok (.aload_n 0, 1) := by decide +kernel
theorem dX6_restarts_12 : decode cX6_restarts 12 = .ok (.getfield 26, 3) := by decide +kernel
theorem dX6_restarts_15 : decode cX6_restarts 15 = .ok (.iload_n 1, 1) := by decide +kernel
theorem dX6_restarts_16 : decode cX6_restarts 16 = .ok (.iaload, 1) := by decide +kernel
theorem dX6_restarts_17 : decode cX6_restarts 17 = .ok (.ifCond .eq 101, 3) := by decide +kernel
theorem dX6_restarts_20 : decode cX6_restarts 20 = .ok (.aload_n 0, 1) := by decide +kernel
theorem dX6_restarts_21 : decode cX6_restarts 21 = .ok (.getfield 26, 3) := by decide +kernel
theorem dX6_restarts_24 : decode cX6_restarts 24 = .ok (.iload_n 1, 1) := by decide +kernel
theorem dX6_restarts_25 : decode cX6_restarts 25 = .ok (.iaload, 1) := by decide +kernel
theorem dX6_restarts_26 : decode cX6_restarts 26 = .ok (.iconst 2, 1) := by decide +kernel
theorem dX6_restarts_27 : decode cX6_restarts 27 = .ok (.if_icmp .ne 7, 3) := by decide +kernel
theorem dX6_restarts_30 : decode cX6_restarts 30 = .ok (.iload_n 3, 1) := by decide +kernel
theorem dX6_restarts_31 : decode cX6_restarts 31 = .ok (.goto 4, 3) := by decide +kernel
theorem dX6_restarts_34 : decode cX6_restarts 34 = .ok (.iconst 0, 1) := by decide +kernel
theorem dX6_restarts_35 : decode cX6_restarts 35 = .ok (.istore_n 3, 1) := by decide +kernel
theorem dX6_restarts_36 : decode cX6_restarts 36 = .ok (.aload_n 0, 1) := by decide +kernel
theorem dX6_restarts_37 : decode cX6_restarts 37 = .ok (.getfield 50, 3) := by decide +kernel
theorem dX6_restarts_40 : decode cX6_restarts 40 = .ok (.iload_n 1, 1) := by decide +kernel
theorem dX6_restarts_41 : decode cX6_restarts 41 = .ok (.iaload, 1) := by decide +kernel
theorem dX6_restarts_42 : decode cX6_restarts 42 = .ok (.iconst 1, 1) := by decide +kernel
theorem dX6_restarts_43 : decode cX6_restarts 43 = .ok (.isub, 1) := by decide +kernel
theorem dX6_restarts_44 : decode cX6_restarts 44 = .ok (.istore 5, 2) := by decide +kernel
theorem dX6_restarts_46 : decode cX6_restarts 46 = .ok (.iload 5, 2) := by decide +kernel
theorem dX6_restarts_48 : decode cX6_restarts 48 = .ok (.iload_n 3, 1) := by decide +kernel
theorem dX6_restarts_49 : decode cX6_restarts 49 = .ok (.if_icmp .lt 61, 3) := by decide +kernel
theorem dX6_restarts_52 : decode cX6_restarts 52 = .ok (.aload_n 0, 1) := by decide +kernel
theorem dX6_restarts_53 : decode cX6_restarts 53 = .ok (.getfield 47, 3) := by decide +kernel
theorem dX6_restarts_56 : decode cX6_restarts 56 = .ok (.bipush 80, 2) := by decide +kernel
theorem dX6_restarts_58 : decode cX6_restarts 58 = .ok (.iload_n 1, 1) := by decide +kernel
theorem dX6_restarts_59 : decode cX6_restarts 59 = .ok (.imul, 1) := by decide +kernel
theorem dX6_restarts_60 : decode cX6_restarts 60 = .ok (.iload 5, 2) := by decide +kernel
theorem dX6_restarts_62 : decode cX6_restarts 62 = .ok (.iadd, 1) := by decide +kernel
theorem dX6_restarts_63 : decode cX6_restarts 63 = .ok (.iaload, 1) := by decide +kernel
theorem dX6_restarts_64 : decode cX6_restarts 64 = .ok (.istore 6, 2) := by decide +kernel
theorem dX6_restarts_66 : decode cX6_restarts 66 = .ok (.aload_n 0, 1) := by decide +kernel
theorem dX6_restarts_67 : decode cX6_restarts 67 = .ok (.getfield 20, 3) := by decide +kernel
theorem dX6_restarts_70 : decode cX6_restarts 70 = .ok (.iload 6, 2) := by decide +kernel
theorem dX6_restarts_72 : decode cX6_restarts 72 = .ok (.iaload, 1) := by decide +kernel
theorem dX6_restarts_73 : decode cX6_restarts 73 = .ok (.iconst 1, 1) := by decide +kernel
theorem dX6_restarts_74 : decode cX6_restarts 74 = .ok (.if_icmp .ne 30, 3) := by decide +kernel
theorem dX6_restarts_77 : decode cX6_restarts 77 = .ok (.aload_n 0, 1) := by decide +kernel
theorem dX6_restarts_78 : decode cX6_restarts 78 = .ok (.iload 6, 2) := by decide +kernel
theorem dX6_restarts_80 : decode cX6_restarts 80 = .ok (.iconst 0, 1) := by decide +kernel
theorem dX6_restarts_81 : decode cX6_restarts 81 = .ok (.iconst 0, 1) := by decide +kernel
theorem dX6_restarts_82 : decode cX6_restarts 82 = .ok (.invokevirtual 92, 3) := by decide +kernel
theorem dX6_restarts_85 : decode cX6_restarts 85 = .ok (.pop, 1) := by decide +kernel
theorem dX6_restarts_86 : decode cX6_restarts 86 = .ok (.aload_n 0, 1) := by decide +kernel
theorem dX6_restarts_87 : decode cX6_restarts 87 = .ok (.getfield 23, 3) := by decide +kernel
theorem dX6_restarts_90 : decode cX6_restarts 90 = .ok (.iload 6, 2) := by decide +kernel
theorem dX6_restarts_92 : decode cX6_restarts 92 = .ok (.iaload, 1) := by decide +kernel
theorem dX6_restarts_93 : decode cX6_restarts 93 = .ok (.iconst 2, 1) := by decide +kernel
theorem dX6_restarts_94 : decode cX6_restarts 94 = .ok (.if_icmp .ne 10, 3) := by decide +kernel
theorem dX6_restarts_97 : decode cX6_restarts 97 = .ok (.aload_n 0, 1) := by decide +kernel
theorem dX6_restarts_98 : decode cX6_restarts 98 = .ok (.iload 6, 2) := by decide +kernel
theorem dX6_restarts_100 : decode cX6_restarts 100 = .ok (.invokevirtual 103, 3) := by decide +kernel
theorem dX6_restarts_103 : decode cX6_restarts 103 = .ok (.pop, 1) := by decide +kernel
theorem dX6_restarts_104 : decode cX6_restarts 104 = .ok (.iinc 5 (-1), 3) := by decide +kernel
theorem dX6_restarts_107 : decode cX6_restarts 107 = .ok (.goto (-61), 3) := by decide +kernel
theorem dX6_restarts_110 : decode cX6_restarts 110 = .ok (.aload_n 0, 1) := by decide +kernel
theorem dX6_restarts_111 : decode cX6_restarts 111 = .ok (.getfield 50, 3) := by decide +kernel
theorem dX6_restarts_114 : decode cX6_restarts 114 = .ok (.iload_n 1, 1) := by decide +kernel
theorem dX6_restarts_115 : decode cX6_restarts 115 = .ok (.iaload, 1) := by decide +kernel
theorem dX6_restarts_116 : decode cX6_restarts 116 = .ok (.istore 4, 2) := by decide +kernel
theorem dX6_restarts_118 : decode cX6_restarts 118 = .ok (.iload_n 3, 1) := by decide +kernel
theorem dX6_restarts_119 : decode cX6_restarts 119 = .ok (.istore 5, 2) := by decide +kernel
theorem dX6_restarts_121 : decode cX6_restarts 121 = .ok (.iload 5, 2) := by decide +kernel
theorem dX6_restarts_123 : decode cX6_restarts 123 = .ok (.iload 4, 2) := by decide +kernel
theorem dX6_restarts_125 : decode cX6_restarts 125 = .ok (.if_icmp .ge 35, 3) := by decide +kernel
theorem dX6_restarts_128 : decode cX6_restarts 128 = .ok (.aload_n 0, 1) := by decide +kernel
theorem dX6_restarts_129 : decode cX6_restarts 129 = .ok (.getfield 47, 3) := by decide +kernel
theorem dX6_restarts_132 : decode cX6_restarts 132 = .ok (.bipush 80, 2) := by decide +kernel
theorem dX6_restarts_134 : decode cX6_restarts 134 = .ok (.iload_n 1, 1) := by decide +kernel
theorem dX6_restarts_135 : decode cX6_restarts 135 = .ok (.imul, 1) := by decide +kernel
theorem dX6_restarts_136 : decode cX6_restarts 136 = .ok (.iload 5, 2) := by decide +kernel
theorem dX6_restarts_138 : decode cX6_restarts 138 = .ok (.iadd, 1) := by decide +kernel
theorem dX6_restarts_139 : decode cX6_restarts 139 = .ok (.iaload, 1) := by decide +kernel
theorem dX6_restarts_140 : decode cX6_restarts 140 = .ok (.istore 6, 2) := by decide +kernel
theorem dX6_restarts_142 : decode cX6_restarts 142 = .ok (.aload_n 0, 1) := by decide +kernel
theorem dX6_restarts_143 : decode cX6_restarts 143 = .ok (.iload 6, 2) := by decide +kernel
theorem dX6_restarts_145 : decode cX6_restarts 145 = .ok (.invokevirtual 115, 3) := by decide +kernel
theorem dX6_restarts_148 : decode cX6_restarts 148 = .ok (.ifCond .ne 6, 3) := by decide +kernel
theorem dX6_restarts_151 : decode cX6_restarts 151 = .ok (.iload 6, 2) := by decide +kernel
theorem dX6_restarts_153 : decode cX6_restarts 153 = .ok (.ireturn, 1) := by decide +kernel
theorem dX6_restarts_154 : decode cX6_restarts 154 = .ok (.iinc 5 1, 3) := by decide +kernel
theorem dX6_restarts_157 : decode cX6_restarts 157 = .ok (.goto (-36), 3) := by decide +kernel
theorem dX6_restarts_160 : decode cX6_restarts 160 = .ok (.iconst (-1), 1) := by decide +kernel
theorem dX6_restarts_161 : decode cX6_restarts 161 = .ok (.ireturn, 1) := by decide +kernel
theorem dX6_isKeeping_0 : decode cX6_isKeeping 0 = .ok (.iload_n 0, 1) := by decide +kernel
theorem dX6_isKeeping_1 : decode cX6_isKeeping 1 = .ok (.iconst 0, 1) := by decide +kernel
theorem dX6_isKeeping_2 : decode cX6_isKeeping 2 = .ok (.iconst 2, 1) := by decide +kernel
theorem dX6_isKeeping_3 : decode cX6_isKeeping 3 = .ok (.invokestatic 118, 3) := by decide +kernel
theorem dX6_isKeeping_6 : decode cX6_isKeeping 6 = .ok (.ifCond .eq 28, 3) := by decide +kernel
theorem dX6_isKeeping_9 : decode cX6_isKeeping 9 = .ok (.iload_n 1, 1) := by decide +kernel
theorem dX6_isKeeping_10 : decode cX6_isKeeping 10 = .ok (.iconst 0, 1) := by decide +kernel
theorem dX6_isKeeping_11 : decode cX6_isKeeping 11 = .ok (.bipush 50, 2) := by decide +kernel
theorem dX6_isKeeping_13 : decode cX6_isKeeping 13 = .ok (.invokestatic 118, 3) := by decide +kernel
theorem dX6_isKeeping_16 : decode cX6_isKeeping 16 = .ok (.ifCond .eq 18, 3) := by decide +kernel
theorem dX6_isKeeping_19 : decode cX6_isKeeping 19 = .ok (.iload_n 2, 1) := by decide +kernel
theorem dX6_isKeeping_20 : decode cX6_isKeeping 20 = .ok (.iconst 1, 1) := by decide +kernel
theorem dX6_isKeeping_21 : decode cX6_isKeeping 21 = .ok (.sipush 1000, 3) := by decide +kernel
theorem dX6_isKeeping_24 : decode cX6_isKeeping 24 = .ok (.invokestatic 118, 3) := by decide +kernel
theorem dX6_isKeeping_27 : decode cX6_isKeeping 27 = .ok (.ifCond .eq 7, 3) := by decide +kernel
theorem dX6_isKeeping_30 : decode cX6_isKeeping 30 = .ok (.iconst 1, 1) := by decide +kernel
theorem dX6_isKeeping_31 : decode cX6_isKeeping 31 = .ok (.goto 4, 3) := by decide +kernel
theorem dX6_isKeeping_34 : decode cX6_isKeeping 34 = .ok (.iconst 0, 1) := by decide +kernel
theorem dX6_isKeeping_35 : decode cX6_isKeeping 35 = .ok (.ireturn, 1) := by decide +kernel
theorem dX6_first_0 : decode cX6_first 0 = .ok (.aload_n 0, 1) := by decide +kernel
theorem dX6_first_1 : decode cX6_first 1 = .ok (.iload_n 1, 1) := by decide +kernel
theorem dX6_first_2 : decode cX6_first 2 = .ok (.iload_n 2, 1) := by decide +kernel
theorem dX6_first_3 : decode cX6_first 3 = .ok (.iload_n 3, 1) := by decide +kernel
theorem dX6_first_4 : decode cX6_first 4 = .ok (.invokestatic 122, 3) := by decide +kernel
theorem dX6_first_7 : decode cX6_first 7 = .ok (.ifCond .ne 7, 3) := by decide +kernel
theorem dX6_first_10 : decode cX6_first 10 = .ok (.iconst 1, 1) := by decide +kernel
theorem dX6_first_11 : decode cX6_first 11 = .ok (.goto 18, 3) := by decide +kernel
theorem dX6_first_14 : decode cX6_first 14 = .ok (.aload_n 0, 1) := by decide +kernel
theorem dX6_first_15 : decode cX6_first 15 = .ok (.getfield 20, 3) := by decide +kernel
theorem dX6_first_18 : decode cX6_first 18 = .ok (.iconst 0, 1) := by decide +kernel
theorem dX6_first_19 : decode cX6_first 19 = .ok (.iaload, 1) := by decide +kernel
theorem dX6_first_20 : decode cX6_first 20 = .ok (.iconst 1, 1) := by decide +kernel
theorem dX6_first_21 : decode cX6_first 21 = .ok (.if_icmp .ne 7, 3) := by decide +kernel
theorem dX6_first_24 : decode cX6_first 24 = .ok (.iconst 2, 1) := by decide +kernel
theorem dX6_first_25 : decode cX6_first 25 = .ok (.goto 4, 3) := by decide +kernel
theorem dX6_first_28 : decode cX6_first 28 = .ok (.iconst 0, 1) := by decide +kernel
theorem dX6_first_29 : decode cX6_first 29 = .ok (.invokevirtual 125, 3) := by decide +kernel
theorem dX6_first_32 : decode cX6_first 32 = .ok (.ifCond .eq 4, 3) := by decide +kernel
theorem dX6_first_35 : decode cX6_first 35 = .ok (.return_, 1) := by decide +kernel
theorem dX6_first_36 : decode cX6_first 36 = .ok (.aload_n 0, 1) := by decide +kernel
theorem dX6_first_37 : decode cX6_first 37 = .ok (.getfield 26, 3) := by decide +kernel
theorem dX6_first_40 : decode cX6_first 40 = .ok (.iconst 0, 1) := by decide +kernel
theorem dX6_first_41 : decode cX6_first 41 = .ok (.iload_n 1, 1) := by decide +kernel
theorem dX6_first_42 : decode cX6_first 42 = .ok (.iastore, 1) := by decide +kernel
theorem dX6_first_43 : decode cX6_first 43 = .ok (.aload_n 0, 1) := by decide +kernel
theorem dX6_first_44 : decode cX6_first 44 = .ok (.getfield 29, 3) := by decide +kernel
theorem dX6_first_47 : decode cX6_first 47 = .ok (.iconst 0, 1) := by decide +kernel
theorem dX6_first_48 : decode cX6_first 48 = .ok (.iload_n 2, 1) := by decide +kernel
theorem dX6_first_49 : decode cX6_first 49 = .ok (.iastore, 1) := by decide +kernel
theorem dX6_first_50 : decode cX6_first 50 = .ok (.aload_n 0, 1) := by decide +kernel
theorem dX6_first_51 : decode cX6_first 51 = .ok (.getfield 32, 3) := by decide +kernel
theorem dX6_first_54 : decode cX6_first 54 = .ok (.iconst 0, 1) := by decide +kernel
theorem dX6_first_55 : decode cX6_first 55 = .ok (.iload_n 3, 1) := by decide +kernel
theorem dX6_first_56 : decode cX6_first 56 = .ok (.iastore, 1) := by decide +kernel
theorem dX6_first_57 : decode cX6_first 57 = .ok (.return_, 1) := by decide +kernel
theorem dX6_child_0 : decode cX6_child 0 = .ok (.aload_n 0, 1) := by decide +kernel
theorem dX6_child_1 : decode cX6_child 1 = .ok (.getfield 68, 3) := by decide +kernel
theorem dX6_child_4 : decode cX6_child 4 = .ok (.istore 4, 2) := by decide +kernel
theorem dX6_child_6 : decode cX6_child 6 = .ok (.aload_n 0, 1) := by decide +kernel
theorem dX6_child_7 : decode cX6_child 7 = .ok (.dup, 1) := by decide +kernel
theorem dX6_child_8 : decode cX6_child 8 = .ok (.getfield 68, 3) := by decide +kernel
theorem dX6_child_11 : decode cX6_child 11 = .ok (.iconst 1, 1) := by decide +kernel
theorem dX6_child_12 : decode cX6_child 12 = .ok (.iadd, 1) := by decide +kernel
theorem dX6_child_13 : decode cX6_child 13 = .ok (.putfield 68, 3) := by decide +kernel
theorem dX6_child_16 : decode cX6_child 16 = .ok (.aload_n 0, 1) := by decide +kernel
theorem dX6_child_17 : decode cX6_child 17 = .ok (.getfield 7, 3) := by decide +kernel
theorem dX6_child_20 : decode cX6_child 20 = .ok (.iload 4, 2) := by decide +kernel
theorem dX6_child_22 : decode cX6_child 22 = .ok (.iload_n 3, 1) := by decide +kernel
theorem dX6_child_23 : decode cX6_child 23 = .ok (.bastore, 1) := by decide +kernel
theorem dX6_child_24 : decode cX6_child 24 = .ok (.aload_n 0, 1) := by decide +kernel
theorem dX6_child_25 : decode cX6_child 25 = .ok (.getfield 13, 3) := by decide +kernel
theorem dX6_child_28 : decode cX6_child 28 = .ok (.iload 4, 2) := by decide +kernel
theorem dX6_child_30 : decode cX6_child 30 = .ok (.iload_n 1, 1) := by decide +kernel
theorem dX6_child_31 : decode cX6_child 31 = .ok (.iastore, 1) := by decide +kernel
theorem dX6_child_32 : decode cX6_child 32 = .ok (.aload_n 0, 1) := by decide +kernel
theorem dX6_child_33 : decode cX6_child 33 = .ok (.getfield 17, 3) := by decide +kernel
theorem dX6_child_36 : decode cX6_child 36 = .ok (.iload 4, 2) := by decide +kernel
theorem dX6_child_38 : decode cX6_child 38 = .ok (.aload_n 0, 1) := by decide +kernel
theorem dX6_child_39 : decode cX6_child 39 = .ok (.getfield 17, 3) := by decide +kernel
theorem dX6_child_42 : decode cX6_child 42 = .ok (.iload_n 1, 1) := by decide +kernel
theorem dX6_child_43 : decode cX6_child 43 = .ok (.iaload, 1) := by decide +kernel
theorem dX6_child_44 : decode cX6_child 44 = .ok (.iconst 1, 1) := by decide +kernel
theorem dX6_child_45 : decode cX6_child 45 = .ok (.iadd, 1) := by decide +kernel
theorem dX6_child_46 : decode cX6_child 46 = .ok (.iastore, 1) := by decide +kernel
theorem dX6_child_47 : decode cX6_child 47 = .ok (.aload_n 0, 1) := by decide +kernel
theorem dX6_child_48 : decode cX6_child 48 = .ok (.getfield 23, 3) := by decide +kernel
theorem dX6_child_51 : decode cX6_child 51 = .ok (.iload 4, 2) := by decide +kernel
theorem dX6_child_53 : decode cX6_child 53 = .ok (.iload_n 2, 1) := by decide +kernel
theorem dX6_child_54 : decode cX6_child 54 = .ok (.iastore, 1) := by decide +kernel
theorem dX6_child_55 : decode cX6_child 55 = .ok (.aload_n 0, 1) := by decide +kernel
theorem dX6_child_56 : decode cX6_child 56 = .ok (.getfield 47, 3) := by decide +kernel
theorem dX6_child_59 : decode cX6_child 59 = .ok (.bipush 80, 2) := by decide +kernel
theorem dX6_child_61 : decode cX6_child 61 = .ok (.iload_n 1, 1) := by decide +kernel
theorem dX6_child_62 : decode cX6_child 62 = .ok (.imul, 1) := by decide +kernel
theorem dX6_child_63 : decode cX6_child 63 = .ok (.aload_n 0, 1) := by decide +kernel
theorem dX6_child_64 : decode cX6_child 64 = .ok (.getfield 50, 3) := by decide +kernel
theorem dX6_child_67 : decode cX6_child 67 = .ok (.iload_n 1, 1) := by decide +kernel
theorem dX6_child_68 : decode cX6_child 68 = .ok (.iaload, 1) := by decide +kernel
theorem dX6_child_69 : decode cX6_child 69 = .ok (.iadd, 1) := by decide +kernel
theorem dX6_child_70 : decode cX6_child 70 = .ok (.iload 4, 2) := by decide +kernel
theorem dX6_child_72 : decode cX6_child 72 = .ok (.iastore, 1) := by decide +kernel
theorem dX6_child_73 : decode cX6_child 73 = .ok (.aload_n 0, 1) := by decide +kernel
theorem dX6_child_74 : decode cX6_child 74 = .ok (.getfield 50, 3) := by decide +kernel
theorem dX6_child_77 : decode cX6_child 77 = .ok (.iload_n 1, 1) := by decide +kernel
theorem dX6_child_78 : decode cX6_child 78 = .ok (.dup2, 1) := by decide +kernel
theorem dX6_child_79 : decode cX6_child 79 = .ok (.iaload, 1) := by decide +kernel
theorem dX6_child_80 : decode cX6_child 80 = .ok (.iconst 1, 1) := by decide +kernel
theorem dX6_child_81 : decode cX6_child 81 = .ok (.iadd, 1) := by decide +kernel
theorem dX6_child_82 : decode cX6_child 82 = .ok (.iastore, 1) := by decide +kernel
theorem dX6_child_83 : decode cX6_child 83 = .ok (.iload 4, 2) := by decide +kernel
theorem dX6_child_85 : decode cX6_child 85 = .ok (.ireturn, 1) := by decide +kernel
theorem dX6_keeper_0 : decode cX6_keeper 0 = .ok (.aload_n 0, 1) := by decide +kernel
theorem dX6_keeper_1 : decode cX6_keeper 1 = .ok (.iload_n 1, 1) := by decide +kernel
theorem dX6_keeper_2 : decode cX6_keeper 2 = .ok (.invokevirtual 128, 3) := by decide +kernel
theorem dX6_keeper_5 : decode cX6_keeper 5 = .ok (.ifCond .eq 27, 3) := by decide +kernel
theorem dX6_keeper_8 : decode cX6_keeper 8 = .ok (.iload_n 2, 1) := by decide +kernel
theorem dX6_keeper_9 : decode cX6_keeper 9 = .ok (.iconst 0, 1) := by decide +kernel
theorem dX6_keeper_10 : decode cX6_keeper 10 = .ok (.iconst 2, 1) := by decide +kernel
theorem dX6_keeper_11 : decode cX6_keeper 11 = .ok (.invokestatic 118, 3) := by decide +kernel
theorem dX6_keeper_14 : decode cX6_keeper 14 = .ok (.ifCond .eq 18, 3) := by decide +kernel
theorem dX6_keeper_17 : decode cX6_keeper 17 = .ok (.iload_n 3, 1) := by decide +kernel
theorem dX6_keeper_18 : decode cX6_keeper 18 = .ok (.iload 4, 2) := by decide +kernel
theorem dX6_keeper_20 : decode cX6_keeper 20 = .ok (.iload 5, 2) := by decide +kernel
theorem dX6_keeper_22 : decode cX6_keeper 22 = .ok (.invokestatic 122, 3) := by decide +kernel
theorem dX6_keeper_25 : decode cX6_keeper 25 = .ok (.ifCond .eq 7, 3) := by decide +kernel
theorem dX6_keeper_28 : decode cX6_keeper 28 = .ok (.iconst 1, 1) := by decide +kernel
theorem dX6_keeper_29 : decode cX6_keeper 29 = .ok (.goto 4, 3) := by decide +kernel
theorem dX6_keeper_32 : decode cX6_keeper 32 = .ok (.iconst 0, 1) := by decide +kernel
theorem dX6_keeper_33 : decode cX6_keeper 33 = .ok (.istore 6, 2) := by decide +kernel
theorem dX6_keeper_35 : decode cX6_keeper 35 = .ok (.aload_n 0, 1) := by decide +kernel
theorem dX6_keeper_36 : decode cX6_keeper 36 = .ok (.iload 6, 2) := by decide +kernel
theorem dX6_keeper_38 : decode cX6_keeper 38 = .ok (.ifCond .ne 7, 3) := by decide +kernel
theorem dX6_keeper_41 : decode cX6_keeper 41 = .ok (.iconst 1, 1) := by decide +kernel
theorem dX6_keeper_42 : decode cX6_keeper 42 = .ok (.goto 28, 3) := by decide +kernel
theorem dX6_keeper_45 : decode cX6_keeper 45 = .ok (.aload_n 0, 1) := by decide +kernel
theorem dX6_keeper_46 : decode cX6_keeper 46 = .ok (.getfield 68, 3) := by decide +kernel
theorem dX6_keeper_49 : decode cX6_keeper 49 = .ok (.bipush 80, 2) := by decide +kernel
theorem dX6_keeper_51 : decode cX6_keeper 51 = .ok (.if_icmp .eq 14, 3) := by decide +kernel
theorem dX6_keeper_54 : decode cX6_keeper 54 = .ok (.aload_n 0, 1) := by decide +kernel
theorem dX6_keeper_55 : decode cX6_keeper 55 = .ok (.getfield 17, 3) := by decide +kernel
theorem dX6_keeper_58 : decode cX6_keeper 58 = .ok (.iload_n 1, 1) := by decide +kernel
theorem dX6_keeper_59 : decode cX6_keeper 59 = .ok (.iaload, 1) := by decide +kernel
theorem dX6_keeper_60 : decode cX6_keeper 60 = .ok (.bipush 8, 2) := by decide +kernel
theorem dX6_keeper_62 : decode cX6_keeper 62 = .ok (.if_icmp .ne 7, 3) := by decide +kernel
theorem dX6_keeper_65 : decode cX6_keeper 65 = .ok (.iconst 2, 1) := by decide +kernel
theorem dX6_keeper_66 : decode cX6_keeper 66 = .ok (.goto 4, 3) := by decide +kernel
theorem dX6_keeper_69 : decode cX6_keeper 69 = .ok (.iconst 0, 1) := by decide +kernel
theorem dX6_keeper_70 : decode cX6_keeper 70 = .ok (.invokevirtual 125, 3) := by decide +kernel
theorem dX6_keeper_73 : decode cX6_keeper 73 = .ok (.ifCond .eq 5, 3) := by decide +kernel
theorem dX6_keeper_76 : decode cX6_keeper 76 = .ok (.iconst 0, 1) := by decide +kernel
theorem dX6_keeper_77 : decode cX6_keeper 77 = .ok (.ireturn, 1) := by decide +kernel
theorem dX6_keeper_78 : decode cX6_keeper 78 = .ok (.aload_n 0, 1) := by decide +kernel
theorem dX6_keeper_79 : decode cX6_keeper 79 = .ok (.iload_n 1, 1) := by decide +kernel
theorem dX6_keeper_80 : decode cX6_keeper 80 = .ok (.iload_n 2, 1) := by decide +kernel
theorem dX6_keeper_81 : decode cX6_keeper 81 = .ok (.iconst 1, 1) := by decide +kernel
theorem dX6_keeper_82 : decode cX6_keeper 82 = .ok (.invokevirtual 131, 3) := by decide +kernel
theorem dX6_keeper_85 : decode cX6_keeper 85 = .ok (.istore 7, 2) := by decide +kernel
theorem dX6_keeper_87 : decode cX6_keeper 87 = .ok (.aload_n 0, 1) := by decide +kernel
theorem dX6_keeper_88 : decode cX6_keeper 88 = .ok (.getfield 26, 3) := by decide +kernel
theorem dX6_keeper_91 : decode cX6_keeper 91 = .ok (.iload 7, 2) := by decide +kernel
theorem dX6_keeper_93 : decode cX6_keeper 93 = .ok (.iload_n 3, 1) := by decide +kernel
theorem dX6_keeper_94 : decode cX6_keeper 94 = .ok (.iastore, 1) := by decide +kernel
theorem dX6_keeper_95 : decode cX6_keeper 95 = .ok (.aload_n 0, 1) := by decide +kernel
theorem dX6_keeper_96 : decode cX6_keeper 96 = .ok (.getfield 29, 3) := by decide +kernel
theorem dX6_keeper_99 : decode cX6_keeper 99 = .ok (.iload 7, 2) := by decide +kernel
theorem dX6_keeper_101 : decode cX6_keeper 101 = .ok (.iload 4, 2) := by decide +kernel
theorem dX6_keeper_103 : decode cX6_keeper 103 = .ok (.iastore, 1) := by decide +kernel
theorem dX6_keeper_104 : decode cX6_keeper 104 = .ok (.aload_n 0, 1) := by decide +kernel
theorem dX6_keeper_105 : decode cX6_keeper 105 = .ok (.getfield 32, 3) := by decide +kernel
theorem dX6_keeper_108 : decode cX6_keeper 108 = .ok (.iload 7, 2) := by decide +kernel
theorem dX6_keeper_110 : decode cX6_keeper 110 = .ok (.iload 5, 2) := by decide +kernel
theorem dX6_keeper_112 : decode cX6_keeper 112 = .ok (.iastore, 1) := by decide +kernel
theorem dX6_keeper_113 : decode cX6_keeper 113 = .ok (.aload_n 0, 1) := by decide +kernel
theorem dX6_keeper_114 : decode cX6_keeper 114 = .ok (.getfield 20, 3) := by decide +kernel
theorem dX6_keeper_117 : decode cX6_keeper 117 = .ok (.iload_n 1, 1) := by decide +kernel
theorem dX6_keeper_118 : decode cX6_keeper 118 = .ok (.iaload, 1) := by decide +kernel
theorem dX6_keeper_119 : decode cX6_keeper 119 = .ok (.iconst 1, 1) := by decide +kernel
theorem dX6_keeper_120 : decode cX6_keeper 120 = .ok (.if_icmp .ne 10, 3) := by decide +kernel
theorem dX6_keeper_123 : decode cX6_keeper 123 = .ok (.aload_n 0, 1) := by decide +kernel
theorem dX6_keeper_124 : decode cX6_keeper 124 = .ok (.iload 7, 2) := by decide +kernel
theorem dX6_keeper_126 : decode cX6_keeper 126 = .ok (.invokevirtual 115, 3) := by decide +kernel
theorem dX6_keeper_129 : decode cX6_keeper 129 = .ok (.pop, 1) := by decide +kernel
theorem dX6_keeper_130 : decode cX6_keeper 130 = .ok (.iload 7, 2) := by decide +kernel
theorem dX6_keeper_132 : decode cX6_keeper 132 = .ok (.ireturn, 1) := by decide +kernel
theorem dX6_worker_0 : decode cX6_worker 0 = .ok (.aload_n 0, 1) := by decide +kernel
theorem dX6_worker_1 : decode cX6_worker 1 = .ok (.iload_n 1, 1) := by decide +kernel
theorem dX6_worker_2 : decode cX6_worker 2 = .ok (.invokevirtual 128, 3) := by decide +kernel
theorem dX6_worker_5 : decode cX6_worker 5 = .ok (.ifCond .eq 60, 3) := by decide +kernel
theorem dX6_worker_8 : decode cX6_worker 8 = .ok (.iload_n 2, 1) := by decide +kernel
theorem dX6_worker_9 : decode cX6_worker 9 = .ok (.iconst 0, 1) := by decide +kernel
theorem dX6_worker_10 : decode cX6_worker 10 = .ok (.iconst 2, 1) := by decide +kernel
theorem dX6_worker_11 : decode cX6_worker 11 = .ok (.invokestatic 118, 3) := by decide +kernel
theorem dX6_worker_14 : decode cX6_worker 14 = .ok (.ifCond .eq 51, 3) := by decide +kernel
theorem dX6_worker_17 : decode cX6_worker 17 = .ok (.iload_n 3, 1) := by decide +kernel
theorem dX6_worker_18 : decode cX6_worker 18 = .ok (.iconst (-1), 1) := by decide +kernel
theorem dX6_worker_19 : decode cX6_worker 19 = .ok (.sipush 1000, 3) := by decide +kernel
theorem dX6_worker_22 : decode cX6_worker 22 = .ok (.invokestatic 118, 3) := by decide +kernel
theorem dX6_worker_25 : decode cX6_worker 25 = .ok (.ifCond .eq 40, 3) := by decide +kernel
theorem dX6_worker_28 : decode cX6_worker 28 = .ok (.iload 4, 2) := by decide +kernel
theorem dX6_worker_30 : decode cX6_worker 30 = .ok (.iconst 0, 1) := by decide +kernel
theorem dX6_worker_31 : decode cX6_worker 31 = .ok (.bipush 100, 2) := by decide +kernel
theorem dX6_worker_33 : decode cX6_worker 33 = .ok (.invokestatic 118, 3) := by decide +kernel
theorem dX6_worker_36 : decode cX6_worker 36 = .ok (.ifCond .eq 29, 3) := by decide +kernel
theorem dX6_worker_39 : decode cX6_worker 39 = .ok (.iload 5, 2) := by decide +kernel
theorem dX6_worker_41 : decode cX6_worker 41 = .ok (.iconst 0, 1) := by decide +kernel
theorem dX6_worker_42 : decode cX6_worker 42 = .ok (.bipush 100, 2) := by decide +kernel
theorem dX6_worker_44 : decode cX6_worker 44 = .ok (.invokestatic 118, 3) := by decide +kernel
theorem dX6_worker_47 : decode cX6_worker 47 = .ok (.ifCond .eq 18, 3) := by decide +kernel
theorem dX6_worker_50 : decode cX6_worker 50 = .ok (.iload 6, 2) := by decide +kernel
theorem dX6_worker_52 : decode cX6_worker 52 = .ok (.iconst 0, 1) := by decide +kernel
theorem dX6_worker_53 : decode cX6_worker 53 = .ok (.bipush 50, 2) := by decide +kernel
theorem dX6_worker_55 : decode cX6_worker 55 = .ok (.invokestatic 118, 3) := by decide +kernel
theorem dX6_worker_58 : decode cX6_worker 58 = .ok (.ifCond .eq 7, 3) := by decide +kernel
theorem dX6_worker_61 : decode cX6_worker 61 = .ok (.iconst 1, 1) := by decide +kernel
theorem dX6_worker_62 : decode cX6_worker 62 = .ok (.goto 4, 3) := by decide +kernel
theorem dX6_worker_65 : decode cX6_worker 65 = .ok (.iconst 0, 1) := by decide +kernel
theorem dX6_worker_66 : decode cX6_worker 66 = .ok (.istore 7, 2) := by decide +kernel
theorem dX6_worker_68 : decode cX6_worker 68 = .ok (.aload_n 0, 1) := by decide +kernel
theorem dX6_worker_69 : decode cX6_worker 69 = .ok (.iload 7, 2) := by decide +kernel
theorem dX6_worker_71 : decode cX6_worker 71 = .ok (.ifCond .ne 7, 3) := by decide +kernel
theorem dX6_worker_74 : decode cX6_worker 74 = .ok (.iconst 1, 1) := by decide +kernel
theorem dX6_worker_75 : decode cX6_worker 75 = .ok (.goto 28, 3) := by decide +kernel
theorem dX6_worker_78 : decode cX6_worker 78 = .ok (.aload_n 0, 1) := by decide +kernel
theorem dX6_worker_79 : decode cX6_worker 79 = .ok (.getfield 68, 3) := by decide +kernel
theorem dX6_worker_82 : decode cX6_worker 82 = .ok (.bipush 80, 2) := by decide +kernel
theorem dX6_worker_84 : decode cX6_worker 84 = .ok (.if_icmp .eq 14, 3) := by decide +kernel
theorem dX6_worker_87 : decode cX6_worker 87 = .ok (.aload_n 0, 1) := by decide +kernel
theorem dX6_worker_88 : decode cX6_worker 88 = .ok (.getfield 17, 3) := by decide +kernel
theorem dX6_worker_91 : decode cX6_worker 91 = .ok (.iload_n 1, 1) := by decide +kernel
theorem dX6_worker_92 : decode cX6_worker 92 = .ok (.iaload, 1) := by decide +kernel
theorem dX6_worker_93 : decode cX6_worker 93 = .ok (.bipush 8, 2) := by decide +kernel
theorem dX6_worker_95 : decode cX6_worker 95 = .ok (.if_icmp .ne 7, 3) := by decide +kernel
theorem dX6_worker_98 : decode cX6_worker 98 = .ok (.iconst 2, 1) := by decide +kernel
theorem dX6_worker_99 : decode cX6_worker 99 = .ok (.goto 4, 3) := by decide +kernel
theorem dX6_worker_102 : decode cX6_worker 102 = .ok (.iconst 0, 1) := by decide +kernel
theorem dX6_worker_103 : decode cX6_worker 103 = .ok (.invokevirtual 125, 3) := by decide +kernel
theorem dX6_worker_106 : decode cX6_worker 106 = .ok (.ifCond .eq 5, 3) := by decide +kernel
theorem dX6_worker_109 : decode cX6_worker 109 = .ok (.iconst 0, 1) := by decide +kernel
theorem dX6_worker_110 : decode cX6_worker 110 = .ok (.ireturn, 1) := by decide +kernel
theorem dX6_worker_111 : decode cX6_worker 111 = .ok (.aload_n 0, 1) := by decide +kernel
theorem dX6_worker_112 : decode cX6_worker 112 = .ok (.iload_n 1, 1) := by decide +kernel
theorem dX6_worker_113 : decode cX6_worker 113 = .ok (.iload_n 2, 1) := by decide +kernel
theorem dX6_worker_114 : decode cX6_worker 114 = .ok (.iconst 0, 1) := by decide +kernel
theorem dX6_worker_115 : decode cX6_worker 115 = .ok (.invokevirtual 131, 3) := by decide +kernel
theorem dX6_worker_118 : decode cX6_worker 118 = .ok (.istore 8, 2) := by decide +kernel
theorem dX6_worker_120 : decode cX6_worker 120 = .ok (.aload_n 0, 1) := by decide +kernel
theorem dX6_worker_121 : decode cX6_worker 121 = .ok (.getfield 35, 3) := by decide +kernel
theorem dX6_worker_124 : decode cX6_worker 124 = .ok (.iload 8, 2) := by decide +kernel
theorem dX6_worker_126 : decode cX6_worker 126 = .ok (.iload_n 3, 1) := by decide +kernel
theorem dX6_worker_127 : decode cX6_worker 127 = .ok (.iastore, 1) := by decide +kernel
theorem dX6_worker_128 : decode cX6_worker 128 = .ok (.aload_n 0, 1) := by decide +kernel
theorem dX6_worker_129 : decode cX6_worker 129 = .ok (.getfield 38, 3) := by decide +kernel
theorem dX6_worker_132 : decode cX6_worker 132 = .ok (.iload 8, 2) := by decide +kernel
theorem dX6_worker_134 : decode cX6_worker 134 = .ok (.iload 4, 2) := by decide +kernel
theorem dX6_worker_136 : decode cX6_worker 136 = .ok (.iastore, 1) := by decide +kernel
theorem dX6_worker_137 : decode cX6_worker 137 = .ok (.aload_n 0, 1) := by decide +kernel
theorem dX6_worker_138 : decode cX6_worker 138 = .ok (.getfield 41, 3) := by decide +kernel
theorem dX6_worker_141 : decode cX6_worker 141 = .ok (.iload 8, 2) := by decide +kernel
theorem dX6_worker_143 : decode cX6_worker 143 = .ok (.iload 5, 2) := by decide +kernel
theorem dX6_worker_145 : decode cX6_worker 145 = .ok (.iastore, 1) := by decide +kernel
theorem dX6_worker_146 : decode cX6_worker 146 = .ok (.aload_n 0, 1) := by decide +kernel
theorem dX6_worker_147 : decode cX6_worker 147 = .ok (.getfield 44, 3) := by decide +kernel
theorem dX6_worker_150 : decode cX6_worker 150 = .ok (.iload 8, 2) := by decide +kernel
theorem dX6_worker_152 : decode cX6_worker 152 = .ok (.iload 6, 2) := by decide +kernel
theorem dX6_worker_154 : decode cX6_worker 154 = .ok (.iastore, 1) := by decide +kernel
theorem dX6_worker_155 : decode cX6_worker 155 = .ok (.aload_n 0, 1) := by decide +kernel
theorem dX6_worker_156 : decode cX6_worker 156 = .ok (.getfield 20, 3) := by decide +kernel
theorem dX6_worker_159 : decode cX6_worker 159 = .ok (.iload_n 1, 1) := by decide +kernel
theorem dX6_worker_160 : decode cX6_worker 160 = .ok (.iaload, 1) := by decide +kernel
theorem dX6_worker_161 : decode cX6_worker 161 = .ok (.iconst 1, 1) := by decide +kernel
theorem dX6_worker_162 : decode cX6_worker 162 = .ok (.if_icmp .ne 21, 3) := by decide +kernel
theorem dX6_worker_165 : decode cX6_worker 165 = .ok (.aload_n 0, 1) := by decide +kernel
theorem dX6_worker_166 : decode cX6_worker 166 = .ok (.iload 8, 2) := by decide +kernel
theorem dX6_worker_168 : decode cX6_worker 168 = .ok (.invokevirtual 115, 3) := by decide +kernel
theorem dX6_worker_171 : decode cX6_worker 171 = .ok (.ifCond .ne 12, 3) := by decide +kernel
theorem dX6_worker_174 : decode cX6_worker 174 = .ok (.aload_n 0, 1) := by decide +kernel
theorem dX6_worker_175 : decode cX6_worker 175 = .ok (.iload 8, 2) := by decide +kernel
theorem dX6_worker_177 : decode cX6_worker 177 = .ok (.invokevirtual 103, 3) := by decide +kernel
theorem dX6_worker_180 : decode cX6_worker 180 = .ok (.pop, 1) := by decide +kernel
theorem dX6_worker_181 : decode cX6_worker 181 = .ok (.iconst (-1), 1) := by decide +kernel
theorem dX6_worker_182 : decode cX6_worker 182 = .ok (.ireturn, 1) := by decide +kernel
theorem dX6_worker_183 : decode cX6_worker 183 = .ok (.iload 8, 2) := by decide +kernel
theorem dX6_worker_185 : decode cX6_worker 185 = .ok (.ireturn, 1) := by decide +kernel
theorem dX6_failing_0 : decode cX6_failing 0 = .ok (.aload_n 0, 1) := by decide +kernel
theorem dX6_failing_1 : decode cX6_failing 1 = .ok (.aload_n 0, 1) := by decide +kernel
theorem dX6_failing_2 : decode cX6_failing 2 = .ok (.iload_n 1, 1) := by decide +kernel
theorem dX6_failing_3 : decode cX6_failing 3 = .ok (.invokevirtual 134, 3) := by decide +kernel
theorem dX6_failing_6 : decode cX6_failing 6 = .ok (.ifCond .eq 13, 3) := by decide +kernel
theorem dX6_failing_9 : decode cX6_failing 9 = .ok (.iload_n 2, 1) := by decide +kernel
theorem dX6_failing_10 : decode cX6_failing 10 = .ok (.iconst 0, 1) := by decide +kernel
theorem dX6_failing_11 : decode cX6_failing 11 = .ok (.bipush 50, 2) := by decide +kernel
theorem dX6_failing_13 : decode cX6_failing 13 = .ok (.invokestatic 118, 3) := by decide +kernel
theorem dX6_failing_16 : decode cX6_failing 16 = .ok (.ifCond .ne 7, 3) := by decide +kernel
theorem dX6_failing_19 : decode cX6_failing 19 = .ok (.iconst 1, 1) := by decide +kernel
theorem dX6_failing_20 : decode cX6_failing 20 = .ok (.goto 4, 3) := by decide +kernel
theorem dX6_failing_23 : decode cX6_failing 23 = .ok (.iconst 0, 1) := by decide +kernel
theorem dX6_failing_24 : decode cX6_failing 24 = .ok (.invokevirtual 125, 3) := by decide +kernel
theorem dX6_failing_27 : decode cX6_failing 27 = .ok (.ifCond .eq 5, 3) := by decide +kernel
theorem dX6_failing_30 : decode cX6_failing 30 = .ok (.iconst 0, 1) := by decide +kernel
theorem dX6_failing_31 : decode cX6_failing 31 = .ok (.ireturn, 1) := by decide +kernel
theorem dX6_failing_32 : decode cX6_failing 32 = .ok (.aload_n 0, 1) := by decide +kernel
theorem dX6_failing_33 : decode cX6_failing 33 = .ok (.getfield 44, 3) := by decide +kernel
theorem dX6_failing_36 : decode cX6_failing 36 = .ok (.iload_n 1, 1) := by decide +kernel
theorem dX6_failing_37 : decode cX6_failing 37 = .ok (.iaload, 1) := by decide +kernel
theorem dX6_failing_38 : decode cX6_failing 38 = .ok (.istore_n 3, 1) := by decide +kernel
theorem dX6_failing_39 : decode cX6_failing 39 = .ok (.aload_n 0, 1) := by decide +kernel
theorem dX6_failing_40 : decode cX6_failing 40 = .ok (.getfield 44, 3) := by decide +kernel
theorem dX6_failing_43 : decode cX6_failing 43 = .ok (.iload_n 1, 1) := by decide +kernel
theorem dX6_failing_44 : decode cX6_failing 44 = .ok (.iload_n 2, 1) := by decide +kernel
theorem dX6_failing_45 : decode cX6_failing 45 = .ok (.iastore, 1) := by decide +kernel
theorem dX6_failing_46 : decode cX6_failing 46 = .ok (.iload_n 3, 1) := by decide +kernel
theorem dX6_failing_47 : decode cX6_failing 47 = .ok (.ireturn, 1) := by decide +kernel
theorem dX6_begin_0 : decode cX6_begin 0 = .ok (.aload_n 0, 1) := by decide +kernel
theorem dX6_begin_1 : decode cX6_begin 1 = .ok (.aload_n 0, 1) := by decide +kernel
theorem dX6_begin_2 : decode cX6_begin 2 = .ok (.getfield 20, 3) := by decide +kernel
theorem dX6_begin_5 : decode cX6_begin 5 = .ok (.iconst 0, 1) := by decide +kernel
theorem dX6_begin_6 : decode cX6_begin 6 = .ok (.iaload, 1) := by decide +kernel
theorem dX6_begin_7 : decode cX6_begin 7 = .ok (.iconst 1, 1) := by decide +kernel
theorem dX6_begin_8 : decode cX6_begin 8 = .ok (.if_icmp .ne 7, 3) := by decide +kernel
theorem dX6_begin_11 : decode cX6_begin 11 = .ok (.iconst 1, 1) := by decide +kernel
theorem dX6_begin_12 : decode cX6_begin 12 = .ok (.goto 4, 3) := by decide +kernel
theorem dX6_begin_15 : decode cX6_begin 15 = .ok (.iconst 0, 1) := by decide +kernel
theorem dX6_begin_16 : decode cX6_begin 16 = .ok (.invokevirtual 125, 3) := by decide +kernel
theorem dX6_begin_19 : decode cX6_begin 19 = .ok (.ifCond .ne 15, 3) := by decide +kernel
theorem dX6_begin_22 : decode cX6_begin 22 = .ok (.aload_n 0, 1) := by decide +kernel
theorem dX6_begin_23 : decode cX6_begin 23 = .ok (.iconst 0, 1) := by decide +kernel
theorem dX6_begin_24 : decode cX6_begin 24 = .ok (.invokevirtual 115, 3) := by decide +kernel
theorem dX6_begin_27 : decode cX6_begin 27 = .ok (.ifCond .eq 7, 3) := by decide +kernel
theorem dX6_begin_30 : decode cX6_begin 30 = .ok (.iconst 1, 1) := by decide +kernel
theorem dX6_begin_31 : decode cX6_begin 31 = .ok (.goto 4, 3) := by decide +kernel
theorem dX6_begin_34 : decode cX6_begin 34 = .ok (.iconst 0, 1) := by decide +kernel
theorem dX6_begin_35 : decode cX6_begin 35 = .ok (.ireturn, 1) := by decide +kernel
theorem dX6_ends_0 : decode cX6_ends 0 = .ok (.aload_n 0, 1) := by decide +kernel
theorem dX6_ends_1 : decode cX6_ends 1 = .ok (.aload_n 0, 1) := by decide +kernel
theorem dX6_ends_2 : decode cX6_ends 2 = .ok (.iload_n 1, 1) := by decide +kernel
theorem dX6_ends_3 : decode cX6_ends 3 = .ok (.invokevirtual 134, 3) := by decide +kernel
theorem dX6_ends_6 : decode cX6_ends 6 = .ok (.ifCond .eq 13, 3) := by decide +kernel
theorem dX6_ends_9 : decode cX6_ends 9 = .ok (.iload_n 2, 1) := by decide +kernel
theorem dX6_ends_10 : decode cX6_ends 10 = .ok (.iconst 0, 1) := by decide +kernel
theorem dX6_ends_11 : decode cX6_ends 11 = .ok (.bipush 9, 2) := by decide +kernel
theorem dX6_ends_13 : decode cX6_ends 13 = .ok (.invokestatic 118, 3) := by decide +kernel
theorem dX6_ends_16 : decode cX6_ends 16 = .ok (.ifCond .ne 7, 3) := by decide +kernel
theorem dX6_ends_19 : decode cX6_ends 19 = .ok (.iconst 1, 1) := by decide +kernel
theorem dX6_ends_20 : decode cX6_ends 20 = .ok (.goto 18, 3) := by decide +kernel
theorem dX6_ends_23 : decode cX6_ends 23 = .ok (.aload_n 0, 1) := by decide +kernel
theorem dX6_ends_24 : decode cX6_ends 24 = .ok (.getfield 20, 3) := by decide +kernel
theorem dX6_ends_27 : decode cX6_ends 27 = .ok (.iload_n 1, 1) := by decide +kernel
theorem dX6_ends_28 : decode cX6_ends 28 = .ok (.iaload, 1) := by decide +kernel
theorem dX6_ends_29 : decode cX6_ends 29 = .ok (.iconst 1, 1) := by decide +kernel
theorem dX6_ends_30 : decode cX6_ends 30 = .ok (.if_icmp .eq 7, 3) := by decide +kernel
theorem dX6_ends_33 : decode cX6_ends 33 = .ok (.iconst 2, 1) := by decide +kernel
theorem dX6_ends_34 : decode cX6_ends 34 = .ok (.goto 4, 3) := by decide +kernel
theorem dX6_ends_37 : decode cX6_ends 37 = .ok (.iconst 0, 1) := by decide +kernel
theorem dX6_ends_38 : decode cX6_ends 38 = .ok (.invokevirtual 125, 3) := by decide +kernel
theorem dX6_ends_41 : decode cX6_ends 41 = .ok (.ifCond .eq 4, 3) := by decide +kernel
theorem dX6_ends_44 : decode cX6_ends 44 = .ok (.return_, 1) := by decide +kernel
theorem dX6_ends_45 : decode cX6_ends 45 = .ok (.aload_n 0, 1) := by decide +kernel
theorem dX6_ends_46 : decode cX6_ends 46 = .ok (.iconst 5, 1) := by decide +kernel
theorem dX6_ends_47 : decode cX6_ends 47 = .ok (.iload_n 1, 1) := by decide +kernel
theorem dX6_ends_48 : decode cX6_ends 48 = .ok (.iload_n 2, 1) := by decide +kernel
theorem dX6_ends_49 : decode cX6_ends 49 = .ok (.invokevirtual 89, 3) := by decide +kernel
theorem dX6_ends_52 : decode cX6_ends 52 = .ok (.aload_n 0, 1) := by decide +kernel
theorem dX6_ends_53 : decode cX6_ends 53 = .ok (.getfield 20, 3) := by decide +kernel
theorem dX6_ends_56 : decode cX6_ends 56 = .ok (.iload_n 1, 1) := by decide +kernel
theorem dX6_ends_57 : decode cX6_ends 57 = .ok (.iconst 0, 1) := by decide +kernel
theorem dX6_ends_58 : decode cX6_ends 58 = .ok (.iastore, 1) := by decide +kernel
theorem dX6_ends_59 : decode cX6_ends 59 = .ok (.aload_n 0, 1) := by decide +kernel
theorem dX6_ends_60 : decode cX6_ends 60 = .ok (.iload_n 1, 1) := by decide +kernel
theorem dX6_ends_61 : decode cX6_ends 61 = .ok (.iload_n 2, 1) := by decide +kernel
theorem dX6_ends_62 : decode cX6_ends 62 = .ok (.invokevirtual 137, 3) := by decide +kernel
theorem dX6_ends_65 : decode cX6_ends 65 = .ok (.return_, 1) := by decide +kernel
theorem dX6_kill_0 : decode cX6_kill 0 = .ok (.aload_n 0, 1) := by decide +kernel
theorem dX6_kill_1 : decode cX6_kill 1 = .ok (.aload_n 0, 1) := by decide +kernel
theorem dX6_kill_2 : decode cX6_kill 2 = .ok (.iload_n 1, 1) := by decide +kernel
theorem dX6_kill_3 : decode cX6_kill 3 = .ok (.invokevirtual 75, 3) := by decide +kernel
theorem dX6_kill_6 : decode cX6_kill 6 = .ok (.ifCond .ne 7, 3) := by decide +kernel
theorem dX6_kill_9 : decode cX6_kill 9 = .ok (.iconst 1, 1) := by decide +kernel
theorem dX6_kill_10 : decode cX6_kill 10 = .ok (.goto 18, 3) := by decide +kernel
theorem dX6_kill_13 : decode cX6_kill 13 = .ok (.aload_n 0, 1) := by decide +kernel
theorem dX6_kill_14 : decode cX6_kill 14 = .ok (.getfield 20, 3) := by decide +kernel
theorem dX6_kill_17 : decode cX6_kill 17 = .ok (.iload_n 1, 1) := by decide +kernel
theorem dX6_kill_18 : decode cX6_kill 18 = .ok (.iaload, 1) := by decide +kernel
theorem dX6_kill_19 : decode cX6_kill 19 = .ok (.iconst 1, 1) := by decide +kernel
theorem dX6_kill_20 : decode cX6_kill 20 = .ok (.if_icmp .eq 7, 3) := by decide +kernel
theorem dX6_kill_23 : decode cX6_kill 23 = .ok (.iconst 2, 1) := by decide +kernel
theorem dX6_kill_24 : decode cX6_kill 24 = .ok (.goto 4, 3) := by decide +kernel
theorem dX6_kill_27 : decode cX6_kill 27 = .ok (.iconst 0, 1) := by decide +kernel
theorem dX6_kill_28 : decode cX6_kill 28 = .ok (.invokevirtual 125, 3) := by decide +kernel
theorem dX6_kill_31 : decode cX6_kill 31 = .ok (.ifCond .eq 5, 3) := by decide +kernel
theorem dX6_kill_34 : decode cX6_kill 34 = .ok (.iconst 0, 1) := by decide +kernel
theorem dX6_kill_35 : decode cX6_kill 35 = .ok (.ireturn, 1) := by decide +kernel
theorem dX6_kill_36 : decode cX6_kill 36 = .ok (.aload_n 0, 1) := by decide +kernel
theorem dX6_kill_37 : decode cX6_kill 37 = .ok (.iload_n 1, 1) := by decide +kernel
theorem dX6_kill_38 : decode cX6_kill 38 = .ok (.iconst 0, 1) := by decide +kernel
theorem dX6_kill_39 : decode cX6_kill 39 = .ok (.iconst 1, 1) := by decide +kernel
theorem dX6_kill_40 : decode cX6_kill 40 = .ok (.invokevirtual 92, 3) := by decide +kernel
theorem dX6_kill_43 : decode cX6_kill 43 = .ok (.istore_n 2, 1) := by decide +kernel
theorem dX6_kill_44 : decode cX6_kill 44 = .ok (.aload_n 0, 1) := by decide +kernel
theorem dX6_kill_45 : decode cX6_kill 45 = .ok (.iload_n 1, 1) := by decide +kernel
theorem dX6_kill_46 : decode cX6_kill 46 = .ok (.bipush 9, 2) := by decide +kernel
theorem dX6_kill_48 : decode cX6_kill 48 = .ok (.invokevirtual 137, 3) := by decide +kernel
theorem dX6_kill_51 : decode cX6_kill 51 = .ok (.iload_n 2, 1) := by decide +kernel
theorem dX6_kill_52 : decode cX6_kill 52 = .ok (.ireturn, 1) := by decide +kernel
theorem dX6_stop_0 : decode cX6_stop 0 = .ok (.aload_n 0, 1) := by decide +kernel
theorem dX6_stop_1 : decode cX6_stop 1 = .ok (.aload_n 0, 1) := by decide +kernel
theorem dX6_stop_2 : decode cX6_stop 2 = .ok (.iload_n 1, 1) := by decide +kernel
theorem dX6_stop_3 : decode cX6_stop 3 = .ok (.invokevirtual 75, 3) := by decide +kernel
theorem dX6_stop_6 : decode cX6_stop 6 = .ok (.ifCond .eq 7, 3) := by decide +kernel
theorem dX6_stop_9 : decode cX6_stop 9 = .ok (.iload_n 1, 1) := by decide +kernel
theorem dX6_stop_10 : decode cX6_stop 10 = .ok (.ifCond .ne 7, 3) := by decide +kernel
theorem dX6_stop_13 : decode cX6_stop 13 = .ok (.iconst 1, 1) := by decide +kernel
theorem dX6_stop_14 : decode cX6_stop 14 = .ok (.goto 18, 3) := by decide +kernel
theorem dX6_stop_17 : decode cX6_stop 17 = .ok (.aload_n 0, 1) := by decide +kernel
theorem dX6_stop_18 : decode cX6_stop 18 = .ok (.getfield 20, 3) := by decide +kernel
theorem dX6_stop_21 : decode cX6_stop 21 = .ok (.iload_n 1, 1) := by decide +kernel
theorem dX6_stop_22 : decode cX6_stop 22 = .ok (.iaload, 1) := by decide +kernel
theorem dX6_stop_23 : decode cX6_stop 23 = .ok (.iconst 1, 1) := by decide +kernel
theorem dX6_stop_24 : decode cX6_stop 24 = .ok (.if_icmp .eq 7, 3) := by decide +kernel
theorem dX6_stop_27 : decode cX6_stop 27 = .ok (.iconst 2, 1) := by decide +kernel
theorem dX6_stop_28 : decode cX6_stop 28 = .ok (.goto 4, 3) := by decide +kernel
theorem dX6_stop_31 : decode cX6_stop 31 = .ok (.iconst 0, 1) := by decide +kernel
theorem dX6_stop_32 : decode cX6_stop 32 = .ok (.invokevirtual 125, 3) := by decide +kernel
theorem dX6_stop_35 : decode cX6_stop 35 = .ok (.ifCond .eq 4, 3) := by decide +kernel
theorem dX6_stop_38 : decode cX6_stop 38 = .ok (.return_, 1) := by decide +kernel
theorem dX6_stop_39 : decode cX6_stop 39 = .ok (.aload_n 0, 1) := by decide +kernel
theorem dX6_stop_40 : decode cX6_stop 40 = .ok (.iload_n 1, 1) := by decide +kernel
theorem dX6_stop_41 : decode cX6_stop 41 = .ok (.iconst 0, 1) := by decide +kernel
theorem dX6_stop_42 : decode cX6_stop 42 = .ok (.iconst 0, 1) := by decide +kernel
theorem dX6_stop_43 : decode cX6_stop 43 = .ok (.invokevirtual 92, 3) := by decide +kernel
theorem dX6_stop_46 : decode cX6_stop 46 = .ok (.pop, 1) := by decide +kernel
theorem dX6_stop_47 : decode cX6_stop 47 = .ok (.aload_n 0, 1) := by decide +kernel
theorem dX6_stop_48 : decode cX6_stop 48 = .ok (.getfield 23, 3) := by decide +kernel
theorem dX6_stop_51 : decode cX6_stop 51 = .ok (.iload_n 1, 1) := by decide +kernel
theorem dX6_stop_52 : decode cX6_stop 52 = .ok (.iaload, 1) := by decide +kernel
theorem dX6_stop_53 : decode cX6_stop 53 = .ok (.iconst 2, 1) := by decide +kernel
theorem dX6_stop_54 : decode cX6_stop 54 = .ok (.if_icmp .ne 9, 3) := by decide +kernel
theorem dX6_stop_57 : decode cX6_stop 57 = .ok (.aload_n 0, 1) := by decide +kernel
theorem dX6_stop_58 : decode cX6_stop 58 = .ok (.iload_n 1, 1) := by decide +kernel
theorem dX6_stop_59 : decode cX6_stop 59 = .ok (.invokevirtual 103, 3) := by decide +kernel
theorem dX6_stop_62 : decode cX6_stop 62 = .ok (.pop, 1) := by decide +kernel
theorem dX6_stop_63 : decode cX6_stop 63 = .ok (.return_, 1) := by decide +kernel
theorem dX6_again_0 : decode cX6_again 0 = .ok (.aload_n 0, 1) := by decide +kernel
theorem dX6_again_1 : decode cX6_again 1 = .ok (.aload_n 0, 1) := by decide +kernel
theorem dX6_again_2 : decode cX6_again 2 = .ok (.iload_n 1, 1) := by decide +kernel
theorem dX6_again_3 : decode cX6_again 3 = .ok (.invokevirtual 75, 3) := by decide +kernel
theorem dX6_again_6 : decode cX6_again 6 = .ok (.ifCond .eq 7, 3) := by decide +kernel
theorem dX6_again_9 : decode cX6_again 9 = .ok (.iload_n 1, 1) := by decide +kernel
theorem dX6_again_10 : decode cX6_again 10 = .ok (.ifCond .ne 7, 3) := by decide +kernel
theorem dX6_again_13 : decode cX6_again 13 = .ok (.iconst 1, 1) := by decide +kernel
theorem dX6_again_14 : decode cX6_again 14 = .ok (.goto 33, 3) := by decide +kernel
theorem dX6_again_17 : decode cX6_again 17 = .ok (.aload_n 0, 1) := by decide +kernel
theorem dX6_again_18 : decode cX6_again 18 = .ok (.getfield 20, 3) := by decide +kernel
theorem dX6_again_21 : decode cX6_again 21 = .ok (.iload_n 1, 1) := by decide +kernel
theorem dX6_again_22 : decode cX6_again 22 = .ok (.iaload, 1) := by decide +kernel
theorem dX6_again_23 : decode cX6_again 23 = .ok (.iconst 1, 1) := by decide +kernel
theorem dX6_again_24 : decode cX6_again 24 = .ok (.if_icmp .eq 18, 3) := by decide +kernel
theorem dX6_again_27 : decode cX6_again 27 = .ok (.aload_n 0, 1) := by decide +kernel
theorem dX6_again_28 : decode cX6_again 28 = .ok (.getfield 20, 3) := by decide +kernel
theorem dX6_again_31 : decode cX6_again 31 = .ok (.aload_n 0, 1) := by decide +kernel
theorem dX6_again_32 : decode cX6_again 32 = .ok (.getfield 13, 3) := by decide +kernel
theorem dX6_again_35 : decode cX6_again 35 = .ok (.iload_n 1, 1) := by decide +kernel
theorem dX6_again_36 : decode cX6_again 36 = .ok (.iaload, 1) := by decide +kernel
theorem dX6_again_37 : decode cX6_again 37 = .ok (.iaload, 1) := by decide +kernel
theorem dX6_again_38 : decode cX6_again 38 = .ok (.iconst 1, 1) := by decide +kernel
theorem dX6_again_39 : decode cX6_again 39 = .ok (.if_icmp .eq 7, 3) := by decide +kernel
theorem dX6_again_42 : decode cX6_again 42 = .ok (.iconst 2, 1) := by decide +kernel
theorem dX6_again_43 : decode cX6_again 43 = .ok (.goto 4, 3) := by decide +kernel
theorem dX6_again_46 : decode cX6_again 46 = .ok (.iconst 0, 1) := by decide +kernel
theorem dX6_again_47 : decode cX6_again 47 = .ok (.invokevirtual 125, 3) := by decide +kernel
theorem dX6_again_50 : decode cX6_again 50 = .ok (.ifCond .ne 15, 3) := by decide +kernel
theorem dX6_again_53 : decode cX6_again 53 = .ok (.aload_n 0, 1) := by decide +kernel
theorem dX6_again_54 : decode cX6_again 54 = .ok (.iload_n 1, 1) := by decide +kernel
theorem dX6_again_55 : decode cX6_again 55 = .ok (.invokevirtual 115, 3) := by decide +kernel
theorem dX6_again_58 : decode cX6_again 58 = .ok (.ifCond .eq 7, 3) := by decide +kernel
theorem dX6_again_61 : decode cX6_again 61 = .ok (.iconst 1, 1) := by decide +kernel
theorem dX6_again_62 : decode cX6_again 62 = .ok (.goto 4, 3) := by decide +kernel
theorem dX6_again_65 : decode cX6_again 65 = .ok (.iconst 0, 1) := by decide +kernel
theorem dX6_again_66 : decode cX6_again 66 = .ok (.ireturn, 1) := by decide +kernel
theorem dX6_remove_0 : decode cX6_remove 0 = .ok (.aload_n 0, 1) := by decide +kernel
theorem dX6_remove_1 : decode cX6_remove 1 = .ok (.aload_n 0, 1) := by decide +kernel
theorem dX6_remove_2 : decode cX6_remove 2 = .ok (.iload_n 1, 1) := by decide +kernel
theorem dX6_remove_3 : decode cX6_remove 3 = .ok (.invokevirtual 75, 3) := by decide +kernel
theorem dX6_remove_6 : decode cX6_remove 6 = .ok (.ifCond .eq 7, 3) := by decide +kernel
theorem dX6_remove_9 : decode cX6_remove 9 = .ok (.iload_n 1, 1) := by decide +kernel
theorem dX6_remove_10 : decode cX6_remove 10 = .ok (.ifCond .ne 7, 3) := by decide +kernel
theorem dX6_remove_13 : decode cX6_remove 13 = .ok (.iconst 1, 1) := by decide +kernel
theorem dX6_remove_14 : decode cX6_remove 14 = .ok (.goto 18, 3) := by decide +kernel
theorem dX6_remove_17 : decode cX6_remove 17 = .ok (.aload_n 0, 1) := by decide +kernel
theorem dX6_remove_18 : decode cX6_remove 18 = .ok (.getfield 20, 3) := by decide +kernel
theorem dX6_remove_21 : decode cX6_remove 21 = .ok (.iload_n 1, 1) := by decide +kernel
theorem dX6_remove_22 : decode cX6_remove 22 = .ok (.iaload, 1) := by decide +kernel
theorem dX6_remove_23 : decode cX6_remove 23 = .ok (.iconst 1, 1) := by decide +kernel
theorem dX6_remove_24 : decode cX6_remove 24 = .ok (.if_icmp .ne 7, 3) := by decide +kernel
theorem dX6_remove_27 : decode cX6_remove 27 = .ok (.iconst 2, 1) := by decide +kernel
theorem dX6_remove_28 : decode cX6_remove 28 = .ok (.goto 4, 3) := by decide +kernel
theorem dX6_remove_31 : decode cX6_remove 31 = .ok (.iconst 0, 1) := by decide +kernel
theorem dX6_remove_32 : decode cX6_remove 32 = .ok (.invokevirtual 125, 3) := by decide +kernel
theorem dX6_remove_35 : decode cX6_remove 35 = .ok (.ifCond .eq 7, 3) := by decide +kernel
theorem dX6_remove_38 : decode cX6_remove 38 = .ok (.iconst 0, 1) := by decide +kernel
theorem dX6_remove_39 : decode cX6_remove 39 = .ok (.goto 8, 3) := by decide +kernel
theorem dX6_remove_42 : decode cX6_remove 42 = .ok (.aload_n 0, 1) := by decide +kernel
theorem dX6_remove_43 : decode cX6_remove 43 = .ok (.iload_n 1, 1) := by decide +kernel
theorem dX6_remove_44 : decode cX6_remove 44 = .ok (.invokevirtual 103, 3) := by decide +kernel
theorem dX6_remove_47 : decode cX6_remove 47 = .ok (.ireturn, 1) := by decide +kernel
theorem dX6_pass_0 : decode cX6_pass 0 = .ok (.aload_n 0, 1) := by decide +kernel
theorem dX6_pass_1 : decode cX6_pass 1 = .ok (.iload_n 1, 1) := by decide +kernel
theorem dX6_pass_2 : decode cX6_pass 2 = .ok (.iconst 0, 1) := by decide +kernel
theorem dX6_pass_3 : decode cX6_pass 3 = .ok (.sipush 10000, 3) := by decide +kernel
theorem dX6_pass_6 : decode cX6_pass 6 = .ok (.invokestatic 118, 3) := by decide +kernel
theorem dX6_pass_9 : decode cX6_pass 9 = .ok (.ifCond .ne 7, 3) := by decide +kernel
theorem dX6_pass_12 : decode cX6_pass 12 = .ok (.iconst 1, 1) := by decide +kernel
theorem dX6_pass_13 : decode cX6_pass 13 = .ok (.goto 4, 3) := by decide +kernel
theorem dX6_pass_16 : decode cX6_pass 16 = .ok (.iconst 0, 1) := by decide +kernel
theorem dX6_pass_17 : decode cX6_pass 17 = .ok (.invokevirtual 125, 3) := by decide +kernel
theorem dX6_pass_20 : decode cX6_pass 20 = .ok (.ifCond .eq 5, 3) := by decide +kernel
theorem dX6_pass_23 : decode cX6_pass 23 = .ok (.iconst 0, 1) := by decide +kernel
theorem dX6_pass_24 : decode cX6_pass 24 = .ok (.ireturn, 1) := by decide +kernel
theorem dX6_pass_25 : decode cX6_pass 25 = .ok (.aload_n 0, 1) := by decide +kernel
theorem dX6_pass_26 : decode cX6_pass 26 = .ok (.dup, 1) := by decide +kernel
theorem dX6_pass_27 : decode cX6_pass 27 = .ok (.getfield 82, 3) := by decide +kernel
theorem dX6_pass_30 : decode cX6_pass 30 = .ok (.iload_n 1, 1) := by decide +kernel
theorem dX6_pass_31 : decode cX6_pass 31 = .ok (.iadd, 1) := by decide +kernel
theorem dX6_pass_32 : decode cX6_pass 32 = .ok (.putfield 82, 3) := by decide +kernel
theorem dX6_pass_35 : decode cX6_pass 35 = .ok (.aload_n 0, 1) := by decide +kernel
theorem dX6_pass_36 : decode cX6_pass 36 = .ok (.getfield 82, 3) := by decide +kernel
theorem dX6_pass_39 : decode cX6_pass 39 = .ok (.ireturn, 1) := by decide +kernel
theorem dX6_state_0 : decode cX6_state 0 = .ok (.aload_n 0, 1) := by decide +kernel
theorem dX6_state_1 : decode cX6_state 1 = .ok (.iload_n 1, 1) := by decide +kernel
theorem dX6_state_2 : decode cX6_state 2 = .ok (.ifCond .lt 11, 3) := by decide +kernel
theorem dX6_state_5 : decode cX6_state 5 = .ok (.iload_n 1, 1) := by decide +kernel
theorem dX6_state_6 : decode cX6_state 6 = .ok (.aload_n 0, 1) := by decide +kernel
theorem dX6_state_7 : decode cX6_state 7 = .ok (.getfield 68, 3) := by decide +kernel
theorem dX6_state_10 : decode cX6_state 10 = .ok (.if_icmp .lt 7, 3) := by decide +kernel
theorem dX6_state_13 : decode cX6_state 13 = .ok (.iconst 1, 1) := by decide +kernel
theorem dX6_state_14 : decode cX6_state 14 = .ok (.goto 4, 3) := by decide +kernel
theorem dX6_state_17 : decode cX6_state 17 = .ok (.iconst 0, 1) := by decide +kernel
theorem dX6_state_18 : decode cX6_state 18 = .ok (.invokevirtual 125, 3) := by decide +kernel
theorem dX6_state_21 : decode cX6_state 21 = .ok (.ifCond .eq 7, 3) := by decide +kernel
theorem dX6_state_24 : decode cX6_state 24 = .ok (.iconst 0, 1) := by decide +kernel
theorem dX6_state_25 : decode cX6_state 25 = .ok (.goto 9, 3) := by decide +kernel
theorem dX6_state_28 : decode cX6_state 28 = .ok (.aload_n 0, 1) := by decide +kernel
theorem dX6_state_29 : decode cX6_state 29 = .ok (.getfield 20, 3) := by decide +kernel
theorem dX6_state_32 : decode cX6_state 32 = .ok (.iload_n 1, 1) := by decide +kernel
theorem dX6_state_33 : decode cX6_state 33 = .ok (.iaload, 1) := by decide +kernel
theorem dX6_state_34 : decode cX6_state 34 = .ok (.ireturn, 1) := by decide +kernel
theorem dX6_about_0 : decode cX6_about 0 = .ok (.aload_n 0, 1) := by decide +kernel
theorem dX6_about_1 : decode cX6_about 1 = .ok (.aload_n 0, 1) := by decide +kernel
theorem dX6_about_2 : decode cX6_about 2 = .ok (.iload_n 1, 1) := by decide +kernel
theorem dX6_about_3 : decode cX6_about 3 = .ok (.invokevirtual 75, 3) := by decide +kernel
theorem dX6_about_6 : decode cX6_about 6 = .ok (.ifCond .eq 13, 3) := by decide +kernel
theorem dX6_about_9 : decode cX6_about 9 = .ok (.iload_n 2, 1) := by decide +kernel
theorem dX6_about_10 : decode cX6_about 10 = .ok (.iconst 0, 1) := by decide +kernel
theorem dX6_about_11 : decode cX6_about 11 = .ok (.bipush 7, 2) := by decide +kernel
theorem dX6_about_13 : decode cX6_about 13 = .ok (.invokestatic 118, 3) := by decide +kernel
theorem dX6_about_16 : decode cX6_about 16 = .ok (.ifCond .ne 7, 3) := by decide +kernel
theorem dX6_about_19 : decode cX6_about 19 = .ok (.iconst 1, 1) := by decide +kernel
theorem dX6_about_20 : decode cX6_about 20 = .ok (.goto 4, 3) := by decide +kernel
theorem dX6_about_23 : decode cX6_about 23 = .ok (.iconst 0, 1) := by decide +kernel
theorem dX6_about_24 : decode cX6_about 24 = .ok (.invokevirtual 125, 3) := by decide +kernel
theorem dX6_about_27 : decode cX6_about 27 = .ok (.ifCond .eq 5, 3) := by decide +kernel
theorem dX6_about_30 : decode cX6_about 30 = .ok (.iconst 0, 1) := by decide +kernel
theorem dX6_about_31 : decode cX6_about 31 = .ok (.ireturn, 1) := by decide +kernel
theorem dX6_about_32 : decode cX6_about 32 = .ok (.iconst 0, 1) := by decide +kernel
theorem dX6_about_33 : decode cX6_about 33 = .ok (.istore_n 3, 1) := by decide +kernel
theorem dX6_about_34 : decode cX6_about 34 = .ok (.iload_n 2, 1) := by decide +kernel
theorem dX6_about_35 : decode cX6_about 35 = .ok (.tableswitch 180 0 6 #[41, 48, 62, 69, 76, 91, 111], 41) := by decide +kernel
theorem dX6_about_76 : decode cX6_about 76 = .ok (.aload_n 0, 1) := by decide +kernel
theorem dX6_about_77 : decode cX6_about 77 = .ok (.getfield 13, 3) := by decide +kernel
theorem dX6_about_80 : decode cX6_about 80 = .ok (.iload_n 1, 1) := by decide +kernel
theorem dX6_about_81 : decode cX6_about 81 = .ok (.iaload, 1) := by decide +kernel
theorem dX6_about_82 : decode cX6_about 82 = .ok (.ireturn, 1) := by decide +kernel
theorem dX6_about_83 : decode cX6_about 83 = .ok (.iload_n 1, 1) := by decide +kernel
theorem dX6_about_84 : decode cX6_about 84 = .ok (.ifCond .ne 7, 3) := by decide +kernel
theorem dX6_about_87 : decode cX6_about 87 = .ok (.iconst 0, 1) := by decide +kernel
theorem dX6_about_88 : decode cX6_about 88 = .ok (.goto 8, 3) := by decide +kernel
theorem dX6_about_91 : decode cX6_about 91 = .ok (.aload_n 0, 1) := by decide +kernel
theorem dX6_about_92 : decode cX6_about 92 = .ok (.iload_n 1, 1) := by decide +kernel
theorem dX6_about_93 : decode cX6_about 93 = .ok (.invokevirtual 96, 3) := by decide +kernel
theorem dX6_about_96 : decode cX6_about 96 = .ok (.ireturn, 1) := by decide +kernel
theorem dX6_about_97 : decode cX6_about 97 = .ok (.aload_n 0, 1) := by decide +kernel
theorem dX6_about_98 : decode cX6_about 98 = .ok (.getfield 17, 3) := by decide +kernel
theorem dX6_about_101 : decode cX6_about 101 = .ok (.iload_n 1, 1) := by decide +kernel
theorem dX6_about_102 : decode cX6_about 102 = .ok (.iaload, 1) := by decide +kernel
theorem dX6_about_103 : decode cX6_about 103 = .ok (.ireturn, 1) := by decide +kernel
theorem dX6_about_104 : decode cX6_about 104 = .ok (.aload_n 0, 1) := by decide +kernel
theorem dX6_about_105 : decode cX6_about 105 = .ok (.getfield 23, 3) := by decide +kernel
theorem dX6_about_108 : decode cX6_about 108 = .ok (.iload_n 1, 1) := by decide +kernel
theorem dX6_about_109 : decode cX6_about 109 = .ok (.iaload, 1) := by decide +kernel
theorem dX6_about_110 : decode cX6_about 110 = .ok (.ireturn, 1) := by decide +kernel
theorem dX6_about_111 : decode cX6_about 111 = .ok (.aload_n 0, 1) := by decide +kernel
theorem dX6_about_112 : decode cX6_about 112 = .ok (.getfield 7, 3) := by decide +kernel
theorem dX6_about_115 : decode cX6_about 115 = .ok (.iload_n 1, 1) := by decide +kernel
theorem dX6_about_116 : decode cX6_about 116 = .ok (.baload, 1) := by decide +kernel
theorem dX6_about_117 : decode cX6_about 117 = .ok (.ifCond .eq 7, 3) := by decide +kernel
theorem dX6_about_120 : decode cX6_about 120 = .ok (.iconst 1, 1) := by decide +kernel
theorem dX6_about_121 : decode cX6_about 121 = .ok (.goto 4, 3) := by decide +kernel
theorem dX6_about_124 : decode cX6_about 124 = .ok (.iconst 0, 1) := by decide +kernel
theorem dX6_about_125 : decode cX6_about 125 = .ok (.ireturn, 1) := by decide +kernel
theorem dX6_about_126 : decode cX6_about 126 = .ok (.aload_n 0, 1) := by decide +kernel
theorem dX6_about_127 : decode cX6_about 127 = .ok (.getfield 7, 3) := by decide +kernel
theorem dX6_about_130 : decode cX6_about 130 = .ok (.iload_n 1, 1) := by decide +kernel
theorem dX6_about_131 : decode cX6_about 131 = .ok (.baload, 1) := by decide +kernel
theorem dX6_about_132 : decode cX6_about 132 = .ok (.ifCond .eq 12, 3) := by decide +kernel
theorem dX6_about_135 : decode cX6_about 135 = .ok (.aload_n 0, 1) := by decide +kernel
theorem dX6_about_136 : decode cX6_about 136 = .ok (.getfield 50, 3) := by decide +kernel
theorem dX6_about_139 : decode cX6_about 139 = .ok (.iload_n 1, 1) := by decide +kernel
theorem dX6_about_140 : decode cX6_about 140 = .ok (.iaload, 1) := by decide +kernel
theorem dX6_about_141 : decode cX6_about 141 = .ok (.goto 4, 3) := by decide +kernel
theorem dX6_about_144 : decode cX6_about 144 = .ok (.iconst (-1), 1) := by decide +kernel
theorem dX6_about_145 : decode cX6_about 145 = .ok (.ireturn, 1) := by decide +kernel
theorem dX6_about_146 : decode cX6_about 146 = .ok (.iconst 0, 1) := by decide +kernel
theorem dX6_about_147 : decode cX6_about 147 = .ok (.istore 4, 2) := by decide +kernel
theorem dX6_about_149 : decode cX6_about 149 = .ok (.iload 4, 2) := by decide +kernel
theorem dX6_about_151 : decode cX6_about 151 = .ok (.aload_n 0, 1) := by decide +kernel
theorem dX6_about_152 : decode cX6_about 152 = .ok (.getfield 56, 3) := by decide +kernel
theorem dX6_about_155 : decode cX6_about 155 = .ok (.iload_n 1, 1) := by decide +kernel
theorem dX6_about_156 : decode cX6_about 156 = .ok (.iaload, 1) := by decide +kernel
theorem dX6_about_157 : decode cX6_about 157 = .ok (.if_icmp .ge 43, 3) := by decide +kernel
theorem dX6_about_160 : decode cX6_about 160 = .ok (.iload_n 3, 1) := by decide +kernel
theorem dX6_about_161 : decode cX6_about 161 = .ok (.aload_n 0, 1) := by decide +kernel
theorem dX6_about_162 : decode cX6_about 162 = .ok (.getfield 53, 3) := by decide +kernel
theorem dX6_about_165 : decode cX6_about 165 = .ok (.bipush 52, 2) := by decide +kernel
theorem dX6_about_167 : decode cX6_about 167 = .ok (.iload_n 1, 1) := by decide +kernel
theorem dX6_about_168 : decode cX6_about 168 = .ok (.imul, 1) := by decide +kernel
theorem dX6_about_169 : decode cX6_about 169 = .ok (.iload 4, 2) := by decide +kernel
theorem dX6_about_171 : decode cX6_about 171 = .ok (.iadd, 1) := by decide +kernel
theorem dX6_about_172 : decode cX6_about 172 = .ok (.iaload, 1) := by decide +kernel
theorem dX6_about_173 : decode cX6_about 173 = .ok (.aload_n 0, 1) := by decide +kernel
theorem dX6_about_174 : decode cX6_about 174 = .ok (.getfield 82, 3) := by decide +kernel
theorem dX6_about_177 : decode cX6_about 177 = .ok (.aload_n 0, 1) := by decide +kernel
theorem dX6_about_178 : decode cX6_about 178 = .ok (.getfield 32, 3) := by decide +kernel
theorem dX6_about_181 : decode cX6_about 181 = .ok (.iload_n 1, 1) := by decide +kernel
theorem dX6_about_182 : decode cX6_about 182 = .ok (.iaload, 1) := by decide +kernel
theorem dX6_about_183 : decode cX6_about 183 = .ok (.isub, 1) := by decide +kernel
theorem dX6_about_184 : decode cX6_about 184 = .ok (.if_icmp .lt 7, 3) := by decide +kernel
theorem dX6_about_187 : decode cX6_about 187 = .ok (.iconst 1, 1) := by decide +kernel
theorem dX6_about_188 : decode cX6_about 188 = .ok (.goto 4, 3) := by decide +kernel
theorem dX6_about_191 : decode cX6_about 191 = .ok (.iconst 0, 1) := by decide +kernel
theorem dX6_about_192 : decode cX6_about 192 = .ok (.iadd, 1) := by decide +kernel
theorem dX6_about_193 : decode cX6_about 193 = .ok (.istore_n 3, 1) := by decide +kernel
theorem dX6_about_194 : decode cX6_about 194 = .ok (.iinc 4 1, 3) := by decide +kernel
theorem dX6_about_197 : decode cX6_about 197 = .ok (.goto (-48), 3) := by decide +kernel
theorem dX6_about_200 : decode cX6_about 200 = .ok (.aload_n 0, 1) := by decide +kernel
theorem dX6_about_201 : decode cX6_about 201 = .ok (.getfield 7, 3) := by decide +kernel
theorem dX6_about_204 : decode cX6_about 204 = .ok (.iload_n 1, 1) := by decide +kernel
theorem dX6_about_205 : decode cX6_about 205 = .ok (.baload, 1) := by decide +kernel
theorem dX6_about_206 : decode cX6_about 206 = .ok (.ifCond .eq 7, 3) := by decide +kernel
theorem dX6_about_209 : decode cX6_about 209 = .ok (.iload_n 3, 1) := by decide +kernel
theorem dX6_about_210 : decode cX6_about 210 = .ok (.goto 4, 3) := by decide +kernel
theorem dX6_about_213 : decode cX6_about 213 = .ok (.iconst (-1), 1) := by decide +kernel
theorem dX6_about_214 : decode cX6_about 214 = .ok (.ireturn, 1) := by decide +kernel
theorem dX6_about_215 : decode cX6_about 215 = .ok (.aload_n 0, 1) := by decide +kernel
theorem dX6_about_216 : decode cX6_about 216 = .ok (.getfield 7, 3) := by decide +kernel
theorem dX6_about_219 : decode cX6_about 219 = .ok (.iload_n 1, 1) := by decide +kernel
theorem dX6_about_220 : decode cX6_about 220 = .ok (.baload, 1) := by decide +kernel
theorem dX6_about_221 : decode cX6_about 221 = .ok (.ifCond .eq 7, 3) := by decide +kernel
theorem dX6_about_224 : decode cX6_about 224 = .ok (.iconst (-1), 1) := by decide +kernel
theorem dX6_about_225 : decode cX6_about 225 = .ok (.goto 9, 3) := by decide +kernel
theorem dX6_about_228 : decode cX6_about 228 = .ok (.aload_n 0, 1) := by decide +kernel
theorem dX6_about_229 : decode cX6_about 229 = .ok (.getfield 44, 3) := by decide +kernel
theorem dX6_about_232 : decode cX6_about 232 = .ok (.iload_n 1, 1) := by decide +kernel
theorem dX6_about_233 : decode cX6_about 233 = .ok (.iaload, 1) := by decide +kernel
theorem dX6_about_234 : decode cX6_about 234 = .ok (.ireturn, 1) := by decide +kernel
theorem dX6_child__0 : decode cX6_child_ 0 = .ok (.aload_n 0, 1) := by decide +kernel
theorem dX6_child__1 : decode cX6_child_ 1 = .ok (.aload_n 0, 1) := by decide +kernel
theorem dX6_child__2 : decode cX6_child_ 2 = .ok (.iload_n 1, 1) := by decide +kernel
theorem dX6_child__3 : decode cX6_child_ 3 = .ok (.invokevirtual 128, 3) := by decide +kernel
theorem dX6_child__6 : decode cX6_child_ 6 = .ok (.ifCond .ne 7, 3) := by decide +kernel
theorem dX6_child__9 : decode cX6_child_ 9 = .ok (.iconst 1, 1) := by decide +kernel
theorem dX6_child__10 : decode cX6_child_ 10 = .ok (.goto 4, 3) := by decide +kernel
theorem dX6_child__13 : decode cX6_child_ 13 = .ok (.iconst 0, 1) := by decide +kernel
theorem dX6_child__14 : decode cX6_child_ 14 = .ok (.invokevirtual 125, 3) := by decide +kernel
theorem dX6_child__17 : decode cX6_child_ 17 = .ok (.ifCond .eq 5, 3) := by decide +kernel
theorem dX6_child__20 : decode cX6_child_ 20 = .ok (.iconst 0, 1) := by decide +kernel
theorem dX6_child__21 : decode cX6_child_ 21 = .ok (.ireturn, 1) := by decide +kernel
theorem dX6_child__22 : decode cX6_child_ 22 = .ok (.iload_n 2, 1) := by decide +kernel
theorem dX6_child__23 : decode cX6_child_ 23 = .ok (.ifCond .lt 27, 3) := by decide +kernel
theorem dX6_child__26 : decode cX6_child_ 26 = .ok (.iload_n 2, 1) := by decide +kernel
theorem dX6_child__27 : decode cX6_child_ 27 = .ok (.aload_n 0, 1) := by decide +kernel
theorem dX6_child__28 : decode cX6_child_ 28 = .ok (.getfield 50, 3) := by decide +kernel
theorem dX6_child__31 : decode cX6_child_ 31 = .ok (.iload_n 1, 1) := by decide +kernel
theorem dX6_child__32 : decode cX6_child_ 32 = .ok (.iaload, 1) := by decide +kernel
theorem dX6_child__33 : decode cX6_child_ 33 = .ok (.if_icmp .ge 17, 3) := by decide +kernel
theorem dX6_child__36 : decode cX6_child_ 36 = .ok (.aload_n 0, 1) := by decide +kernel
theorem dX6_child__37 : decode cX6_child_ 37 = .ok (.getfield 47, 3) := by decide +kernel
theorem dX6_child__40 : decode cX6_child_ 40 = .ok (.bipush 80, 2) := by decide +kernel
theorem dX6_child__42 : decode cX6_child_ 42 = .ok (.iload_n 1, 1) := by decide +kernel
theorem dX6_child__43 : decode cX6_child_ 43 = .ok (.imul, 1) := by decide +kernel
theorem dX6_child__44 : decode cX6_child_ 44 = .ok (.iload_n 2, 1) := by decide +kernel
theorem dX6_child__45 : decode cX6_child_ 45 = .ok (.iadd, 1) := by decide +kernel
theorem dX6_child__46 : decode cX6_child_ 46 = .ok (.iaload, 1) := by decide +kernel
theorem dX6_child__47 : decode cX6_child_ 47 = .ok (.goto 4, 3) := by decide +kernel
theorem dX6_child__50 : decode cX6_child_ 50 = .ok (.iconst (-1), 1) := by decide +kernel
theorem dX6_child__51 : decode cX6_child_ 51 = .ok (.ireturn, 1) := by decide +kernel
theorem dX6_event_0 : decode cX6_event 0 = .ok (.aload_n 0, 1) := by decide +kernel
theorem dX6_event_1 : decode cX6_event 1 = .ok (.iload_n 2, 1) := by decide +kernel
theorem dX6_event_2 : decode cX6_event 2 = .ok (.iconst 0, 1) := by decide +kernel
theorem dX6_event_3 : decode cX6_event 3 = .ok (.iconst 3, 1) := by decide +kernel
theorem dX6_event_4 : decode cX6_event 4 = .ok (.invokestatic 118, 3) := by decide +kernel
theorem dX6_event_7 : decode cX6_event 7 = .ok (.ifCond .ne 7, 3) := by decide +kernel
theorem dX6_event_10 : decode cX6_event 10 = .ok (.iconst 1, 1) := by decide +kernel
theorem dX6_event_11 : decode cX6_event 11 = .ok (.goto 4, 3) := by decide +kernel
theorem dX6_event_14 : decode cX6_event 14 = .ok (.iconst 0, 1) := by decide +kernel
theorem dX6_event_15 : decode cX6_event 15 = .ok (.invokevirtual 125, 3) := by decide +kernel
theorem dX6_event_18 : decode cX6_event 18 = .ok (.ifCond .eq 5, 3) := by decide +kernel
theorem dX6_event_21 : decode cX6_event 21 = .ok (.iconst 0, 1) := by decide +kernel
theorem dX6_event_22 : decode cX6_event 22 = .ok (.ireturn, 1) := by decide +kernel
theorem dX6_event_23 : decode cX6_event 23 = .ok (.iload_n 1, 1) := by decide +kernel
theorem dX6_event_24 : decode cX6_event 24 = .ok (.ifCond .lt 31, 3) := by decide +kernel
theorem dX6_event_27 : decode cX6_event 27 = .ok (.iload_n 1, 1) := by decide +kernel
theorem dX6_event_28 : decode cX6_event 28 = .ok (.aload_n 0, 1) := by decide +kernel
theorem dX6_event_29 : decode cX6_event 29 = .ok (.getfield 79, 3) := by decide +kernel
theorem dX6_event_32 : decode cX6_event 32 = .ok (.if_icmp .ge 23, 3) := by decide +kernel
theorem dX6_event_35 : decode cX6_event 35 = .ok (.iload_n 1, 1) := by decide +kernel
theorem dX6_event_36 : decode cX6_event 36 = .ok (.sipush 600, 3) := by decide +kernel
theorem dX6_event_39 : decode cX6_event 39 = .ok (.if_icmp .ge 16, 3) := by decide +kernel
theorem dX6_event_42 : decode cX6_event 42 = .ok (.aload_n 0, 1) := by decide +kernel
theorem dX6_event_43 : decode cX6_event 43 = .ok (.getfield 59, 3) := by decide +kernel
theorem dX6_event_46 : decode cX6_event 46 = .ok (.iconst 4, 1) := by decide +kernel
theorem dX6_event_47 : decode cX6_event 47 = .ok (.iload_n 1, 1) := by decide +kernel
theorem dX6_event_48 : decode cX6_event 48 = .ok (.imul, 1) := by decide +kernel
theorem dX6_event_49 : decode cX6_event 49 = .ok (.iload_n 2, 1) := by decide +kernel
theorem dX6_event_50 : decode cX6_event 50 = .ok (.iadd, 1) := by decide +kernel
theorem dX6_event_51 : decode cX6_event 51 = .ok (.iaload, 1) := by decide +kernel
theorem dX6_event_52 : decode cX6_event 52 = .ok (.goto 4, 3) := by decide +kernel
theorem dX6_event_55 : decode cX6_event 55 = .ok (.iconst (-1), 1) := by decide +kernel
theorem dX6_event_56 : decode cX6_event 56 = .ok (.ireturn, 1) := by decide +kernel
theorem dX6_total_0 : decode cX6_total 0 = .ok (.aload_n 0, 1) := by decide +kernel
theorem dX6_total_1 : decode cX6_total 1 = .ok (.iload_n 1, 1) := by decide +kernel
theorem dX6_total_2 : decode cX6_total 2 = .ok (.iconst 0, 1) := by decide +kernel
theorem dX6_total_3 : decode cX6_total 3 = .ok (.bipush 6, 2) := by decide +kernel
theorem dX6_total_5 : decode cX6_total 5 = .ok (.invokestatic 118, 3) := by decide +kernel
theorem dX6_total_8 : decode cX6_total 8 = .ok (.ifCond .ne 7, 3) := by decide +kernel
theorem dX6_total_11 : decode cX6_total 11 = .ok (.iconst 1, 1) := by decide +kernel
theorem dX6_total_12 : decode cX6_total 12 = .ok (.goto 4, 3) := by decide +kernel
theorem dX6_total_15 : decode cX6_total 15 = .ok (.iconst 0, 1) := by decide +kernel
theorem dX6_total_16 : decode cX6_total 16 = .ok (.invokevirtual 125, 3) := by decide +kernel
theorem dX6_total_19 : decode cX6_total 19 = .ok (.ifCond .eq 5, 3) := by decide +kernel
theorem dX6_total_22 : decode cX6_total 22 = .ok (.iconst 0, 1) := by decide +kernel
theorem dX6_total_23 : decode cX6_total 23 = .ok (.ireturn, 1) := by decide +kernel
theorem dX6_total_24 : decode cX6_total 24 = .ok (.iconst 0, 1) := by decide +kernel
theorem dX6_total_25 : decode cX6_total 25 = .ok (.istore_n 2, 1) := by decide +kernel
theorem dX6_total_26 : decode cX6_total 26 = .ok (.iconst 0, 1) := by decide +kernel
theorem dX6_total_27 : decode cX6_total 27 = .ok (.istore_n 3, 1) := by decide +kernel
theorem dX6_total_28 : decode cX6_total 28 = .ok (.iconst 0, 1) := by decide +kernel
theorem dX6_total_29 : decode cX6_total 29 = .ok (.istore 4, 2) := by decide +kernel
theorem dX6_total_31 : decode cX6_total 31 = .ok (.iload 4, 2) := by decide +kernel
theorem dX6_total_33 : decode cX6_total 33 = .ok (.aload_n 0, 1) := by decide +kernel
theorem dX6_total_34 : decode cX6_total 34 = .ok (.getfield 68, 3) := by decide +kernel
theorem dX6_total_37 : decode cX6_total 37 = .ok (.if_icmp .ge 47, 3) := by decide +kernel
theorem dX6_total_40 : decode cX6_total 40 = .ok (.iload_n 2, 1) := by decide +kernel
theorem dX6_total_41 : decode cX6_total 41 = .ok (.aload_n 0, 1) := by decide +kernel
theorem dX6_total_42 : decode cX6_total 42 = .ok (.getfield 20, 3) := by decide +kernel
theorem dX6_total_45 : decode cX6_total 45 = .ok (.iload 4, 2) := by decide +kernel
theorem dX6_total_47 : decode cX6_total 47 = .ok (.iaload, 1) := by decide +kernel
theorem dX6_total_48 : decode cX6_total 48 = .ok (.iconst 1, 1) := by decide +kernel
theorem dX6_total_49 : decode cX6_total 49 = .ok (.if_icmp .ne 7, 3) := by decide +kernel
theorem dX6_total_52 : decode cX6_total 52 = .ok (.iconst 1, 1) := by decide +kernel
theorem dX6_total_53 : decode cX6_total 53 = .ok (.goto 4, 3) := by decide +kernel
theorem dX6_total_56 : decode cX6_total 56 = .ok (.iconst 0, 1) := by decide +kernel
theorem dX6_total_57 : decode cX6_total 57 = .ok (.iadd, 1) := by decide +kernel
theorem dX6_total_58 : decode cX6_total 58 = .ok (.istore_n 2, 1) := by decide +kernel
theorem dX6_total_59 : decode cX6_total 59 = .ok (.iload_n 3, 1) := by decide +kernel
theorem dX6_total_60 : decode cX6_total 60 = .ok (.aload_n 0, 1) := by decide +kernel
theorem dX6_total_61 : decode cX6_total 61 = .ok (.getfield 20, 3) := by decide +kernel
theorem dX6_total_64 : decode cX6_total 64 = .ok (.iload 4, 2) := by decide +kernel
theorem dX6_total_66 : decode cX6_total 66 = .ok (.iaload, 1) := by decide +kernel
theorem dX6_total_67 : decode cX6_total 67 = .ok (.iconst 2, 1) := by decide +kernel
theorem dX6_total_68 : decode cX6_total 68 = .ok (.if_icmp .ne 7, 3) := by decide +kernel
theorem dX6_total_71 : decode cX6_total 71 = .ok (.iconst 1, 1) := by decide +kernel
theorem dX6_total_72 : decode cX6_total 72 = .ok (.goto 4, 3) := by decide +kernel
theorem dX6_total_75 : decode cX6_total 75 = .ok (.iconst 0, 1) := by decide +kernel
theorem dX6_total_76 : decode cX6_total 76 = .ok (.iadd, 1) := by decide +kernel
theorem dX6_total_77 : decode cX6_total 77 = .ok (.istore_n 3, 1) := by decide +kernel
theorem dX6_total_78 : decode cX6_total 78 = .ok (.iinc 4 1, 3) := by decide +kernel
theorem dX6_total_81 : decode cX6_total 81 = .ok (.goto (-50), 3) := by decide +kernel
theorem dX6_total_84 : decode cX6_total 84 = .ok (.iload_n 1, 1) := by decide +kernel
theorem dX6_total_85 : decode cX6_total 85 = .ok (.tableswitch 63 0 5 #[39, 44, 49, 51, 53, 58], 39) := by decide +kernel
theorem dX6_total_124 : decode cX6_total 124 = .ok (.aload_n 0, 1) := by decide +kernel
theorem dX6_total_125 : decode cX6_total 125 = .ok (.getfield 82, 3) := by decide +kernel
theorem dX6_total_128 : decode cX6_total 128 = .ok (.ireturn, 1) := by decide +kernel
theorem dX6_total_129 : decode cX6_total 129 = .ok (.aload_n 0, 1) := by decide +kernel
theorem dX6_total_130 : decode cX6_total 130 = .ok (.getfield 68, 3) := by decide +kernel
theorem dX6_total_133 : decode cX6_total 133 = .ok (.ireturn, 1) := by decide +kernel
theorem dX6_total_134 : decode cX6_total 134 = .ok (.iload_n 2, 1) := by decide +kernel
theorem dX6_total_135 : decode cX6_total 135 = .ok (.ireturn, 1) := by decide +kernel
theorem dX6_total_136 : decode cX6_total 136 = .ok (.iload_n 3, 1) := by decide +kernel
theorem dX6_total_137 : decode cX6_total 137 = .ok (.ireturn, 1) := by decide +kernel
theorem dX6_total_138 : decode cX6_total 138 = .ok (.aload_n 0, 1) := by decide +kernel
theorem dX6_total_139 : decode cX6_total 139 = .ok (.getfield 79, 3) := by decide +kernel
theorem dX6_total_142 : decode cX6_total 142 = .ok (.ireturn, 1) := by decide +kernel
theorem dX6_total_143 : decode cX6_total 143 = .ok (.aload_n 0, 1) := by decide +kernel
theorem dX6_total_144 : decode cX6_total 144 = .ok (.getfield 100, 3) := by decide +kernel
theorem dX6_total_147 : decode cX6_total 147 = .ok (.ireturn, 1) := by decide +kernel
theorem dX6_total_148 : decode cX6_total 148 = .ok (.aload_n 0, 1) := by decide +kernel
theorem dX6_total_149 : decode cX6_total 149 = .ok (.getfield 112, 3) := by decide +kernel
theorem dX6_total_152 : decode cX6_total 152 = .ok (.ireturn, 1) := by decide +kernel
theorem dJ9_max_7cf53_0 : decode cJ9_max_7cf53 0 = .ok (.iload_n 0, 1) := by decide +kernel
theorem dJ9_max_7cf53_1 : decode cJ9_max_7cf53 1 = .ok (.iload_n 1, 1) := by decide +kernel
theorem dJ9_max_7cf53_2 : decode cJ9_max_7cf53 2 = .ok (.if_icmp .lt 7, 3) := by decide +kernel
theorem dJ9_max_7cf53_5 : decode cJ9_max_7cf53 5 = .ok (.iload_n 0, 1) := by decide +kernel
theorem dJ9_max_7cf53_6 : decode cJ9_max_7cf53 6 = .ok (.goto 4, 3) := by decide +kernel
theorem dJ9_max_7cf53_9 : decode cJ9_max_7cf53 9 = .ok (.iload_n 1, 1) := by decide +kernel
theorem dJ9_max_7cf53_10 : decode cJ9_max_7cf53 10 = .ok (.ireturn, 1) := by decide +kernel
theorem dJ9_min_7cf53_0 : decode cJ9_min_7cf53 0 = .ok (.iload_n 0, 1) := by decide +kernel
theorem dJ9_min_7cf53_1 : decode cJ9_min_7cf53 1 = .ok (.iload_n 1, 1) := by decide +kernel
theorem dJ9_min_7cf53_2 : decode cJ9_min_7cf53 2 = .ok (.if_icmp .gt 7, 3) := by decide +kernel
theorem dJ9_min_7cf53_5 : decode cJ9_min_7cf53 5 = .ok (.iload_n 0, 1) := by decide +kernel
theorem dJ9_min_7cf53_6 : decode cJ9_min_7cf53 6 = .ok (.goto 4, 3) := by decide +kernel
theorem dJ9_min_7cf53_9 : decode cJ9_min_7cf53 9 = .ok (.iload_n 1, 1) := by decide +kernel
theorem dJ9_min_7cf53_10 : decode cJ9_min_7cf53 10 = .ok (.ireturn, 1) := by decide +kernel
theorem dJxa1e45_init_da8c8_0 : decode cJxa1e45_init_da8c8 0 = .ok (.aload_n 0, 1) := by decide +kernel
theorem dJxa1e45_init_da8c8_1 : decode cJxa1e45_init_da8c8 1 = .ok (.invokespecial 1, 3) := by decide +kernel
theorem dJxa1e45_init_da8c8_4 : decode cJxa1e45_init_da8c8 4 = .ok (.return_, 1) := by decide +kernel
theorem dJxc12de_init_da8c8_0 : decode cJxc12de_init_da8c8 0 = .ok (.aload_n 0, 1) := by decide +kernel
theorem dJxc12de_init_da8c8_1 : decode cJxc12de_init_da8c8 1 = .ok (.invokespecial 1, 3) := by decide +kernel
theorem dJxc12de_init_da8c8_4 : decode cJxc12de_init_da8c8 4 = .ok (.aload_n 0, 1) := by decide +kernel
theorem dJxc12de_init_da8c8_5 : decode cJxc12de_init_da8c8 5 = .ok (.iconst 0, 1) := by decide +kernel
theorem dJxc12de_init_da8c8_6 : decode cJxc12de_init_da8c8 6 = .ok (.putfield 7, 3) := by decide +kernel
theorem dJxc12de_init_da8c8_9 : decode cJxc12de_init_da8c8 9 = .ok (.return_, 1) := by decide +kernel
theorem dJx4a65c_init_da8c8_0 : decode cJx4a65c_init_da8c8 0 = .ok (.aload_n 0, 1) := by decide +kernel
theorem dJx4a65c_init_da8c8_1 : decode cJx4a65c_init_da8c8 1 = .ok (.invokespecial 1, 3) := by decide +kernel
theorem dJx4a65c_init_da8c8_4 : decode cJx4a65c_init_da8c8 4 = .ok (.aload_n 0, 1) := by decide +kernel
theorem dJx4a65c_init_da8c8_5 : decode cJx4a65c_init_da8c8 5 = .ok (.getstatic 39, 3) := by decide +kernel
theorem dJx4a65c_init_da8c8_8 : decode cJx4a65c_init_da8c8 8 = .ok (.putfield 9, 3) := by decide +kernel
theorem dJx4a65c_init_da8c8_11 : decode cJx4a65c_init_da8c8 11 = .ok (.return_, 1) := by decide +kernel
theorem dJx4a65c_grow_92f84_0 : decode cJx4a65c_grow_92f84 0 = .ok (.aload_n 0, 1) := by decide +kernel
theorem dJx4a65c_grow_92f84_1 : decode cJx4a65c_grow_92f84 1 = .ok (.getfield 9, 3) := by decide +kernel
theorem dJx4a65c_grow_92f84_4 : decode cJx4a65c_grow_92f84 4 = .ok (.arraylength, 1) := by decide +kernel
theorem dJx4a65c_grow_92f84_5 : decode cJx4a65c_grow_92f84 5 = .ok (.istore_n 2, 1) := by decide +kernel
theorem dJx4a65c_grow_92f84_6 : decode cJx4a65c_grow_92f84 6 = .ok (.iload_n 2, 1) := by decide +kernel
theorem dJx4a65c_grow_92f84_7 : decode cJx4a65c_grow_92f84 7 = .ok (.ifCond .gt 13, 3) := by decide +kernel
theorem dJx4a65c_grow_92f84_10 : decode cJx4a65c_grow_92f84 10 = .ok (.aload_n 0, 1) := by decide +kernel
theorem dJx4a65c_grow_92f84_11 : decode cJx4a65c_grow_92f84 11 = .ok (.getfield 9, 3) := by decide +kernel
theorem dJx4a65c_grow_92f84_14 : decode cJx4a65c_grow_92f84 14 = .ok (.getstatic 39, 3) := by decide +kernel
theorem dJx4a65c_grow_92f84_17 : decode cJx4a65c_grow_92f84 17 = .ok (.if_acmp .eq 28, 3) := by decide +kernel
theorem dJx4a65c_grow_92f84_20 : decode cJx4a65c_grow_92f84 20 = .ok (.iload_n 2, 1) := by decide +kernel
theorem dJx4a65c_grow_92f84_21 : decode cJx4a65c_grow_92f84 21 = .ok (.iload_n 1, 1) := by decide +kernel
theorem dJx4a65c_grow_92f84_22 : decode cJx4a65c_grow_92f84 22 = .ok (.iload_n 2, 1) := by decide +kernel
theorem dJx4a65c_grow_92f84_23 : decode cJx4a65c_grow_92f84 23 = .ok (.isub, 1) := by decide +kernel
theorem dJx4a65c_grow_92f84_24 : decode cJx4a65c_grow_92f84 24 = .ok (.iload_n 2, 1) := by decide +kernel
theorem dJx4a65c_grow_92f84_25 : decode cJx4a65c_grow_92f84 25 = .ok (.iconst 1, 1) := by decide +kernel
theorem dJx4a65c_grow_92f84_26 : decode cJx4a65c_grow_92f84 26 = .ok (.ishr, 1) := by decide +kernel
theorem dJx4a65c_grow_92f84_27 : decode cJx4a65c_grow_92f84 27 = .ok (.invokestatic 73, 3) := by decide +kernel
theorem dJx4a65c_grow_92f84_30 : decode cJx4a65c_grow_92f84 30 = .ok (.istore_n 3, 1) := by decide +kernel
theorem dJx4a65c_grow_92f84_31 : decode cJx4a65c_grow_92f84 31 = .ok (.aload_n 0, 1) := by decide +kernel
theorem dJx4a65c_grow_92f84_32 : decode cJx4a65c_grow_92f84 32 = .ok (.aload_n 0, 1) := by decide +kernel
theorem dJx4a65c_grow_92f84_33 : decode cJx4a65c_grow_92f84 33 = .ok (.getfield 9, 3) := by decide +kernel
theorem dJx4a65c_grow_92f84_36 : decode cJx4a65c_grow_92f84 36 = .ok (.iload_n 3, 1) := by decide +kernel
theorem dJx4a65c_grow_92f84_37 : decode cJx4a65c_grow_92f84 37 = .ok (.invokestatic 66, 3) := by decide +kernel
theorem dJx4a65c_grow_92f84_40 : decode cJx4a65c_grow_92f84 40 = .ok (.dup_x1, 1) := by decide +kernel
theorem dJx4a65c_grow_92f84_41 : decode cJx4a65c_grow_92f84 41 = .ok (.putfield 9, 3) := by decide +kernel
theorem dJx4a65c_grow_92f84_44 : decode cJx4a65c_grow_92f84 44 = .ok (.areturn, 1) := by decide +kernel
theorem dJx4a65c_grow_92f84_45 : decode cJx4a65c_grow_92f84 45 = .ok (.aload_n 0, 1) := by decide +kernel
theorem dJx4a65c_grow_92f84_46 : decode cJx4a65c_grow_92f84 46 = .ok (.bipush 10, 2) := by decide +kernel
theorem dJx4a65c_grow_92f84_48 : decode cJx4a65c_grow_92f84 48 = .ok (.iload_n 1, 1) := by decide +kernel
theorem dJx4a65c_grow_92f84_49 : decode cJx4a65c_grow_92f84 49 = .ok (.invokestatic 79, 3) := by decide +kernel
theorem dJx4a65c_grow_92f84_52 : decode cJx4a65c_grow_92f84 52 = .ok (.anewarray 7, 3) := by decide +kernel
theorem dJx4a65c_grow_92f84_55 : decode cJx4a65c_grow_92f84 55 = .ok (.dup_x1, 1) := by decide +kernel
theorem dJx4a65c_grow_92f84_56 : decode cJx4a65c_grow_92f84 56 = .ok (.putfield 9, 3) := by decide +kernel
theorem dJx4a65c_grow_92f84_59 : decode cJx4a65c_grow_92f84 59 = .ok (.areturn, 1) := by decide +kernel
theorem dJx4a65c_grow_d5877_0 : decode cJx4a65c_grow_d5877 0 = .ok (.aload_n 0, 1) := by decide +kernel
theorem dJx4a65c_grow_d5877_1 : decode cJx4a65c_grow_d5877 1 = .ok (.aload_n 0, 1) := by decide +kernel
theorem dJx4a65c_grow_d5877_2 : decode cJx4a65c_grow_d5877 2 = .ok (.getfield 48, 3) := by decide +kernel
theorem dJx4a65c_grow_d5877_5 : decode cJx4a65c_grow_d5877 5 = .ok (.iconst 1, 1) := by decide +kernel
theorem dJx4a65c_grow_d5877_6 : decode cJx4a65c_grow_d5877 6 = .ok (.iadd, 1) := by decide +kernel
theorem dJx4a65c_grow_d5877_7 : decode cJx4a65c_grow_d5877 7 = .ok (.invokevirtual 69, 3) := by decide +kernel
theorem dJx4a65c_grow_d5877_10 : decode cJx4a65c_grow_d5877 10 = .ok (.areturn, 1) := by decide +kernel
theorem dJx4a65c_size_8abf5_0 : decode cJx4a65c_size_8abf5 0 = .ok (.aload_n 0, 1) := by decide +kernel
theorem dJx4a65c_size_8abf5_1 : decode cJx4a65c_size_8abf5 1 = .ok (.getfield 48, 3) := by decide +kernel
theorem dJx4a65c_size_8abf5_4 : decode cJx4a65c_size_8abf5 4 = .ok (.ireturn, 1) := by decide +kernel
theorem dJx4a65c_elementData_915e3_0 : decode cJx4a65c_elementData_915e3 0 = .ok (.aload_n 0, 1) := by decide +kernel
theorem dJx4a65c_elementData_915e3_1 : decode cJx4a65c_elementData_915e3 1 = .ok (.getfield 9, 3) := by decide +kernel
theorem dJx4a65c_elementData_915e3_4 : decode cJx4a65c_elementData_915e3 4 = .ok (.iload_n 1, 1) := by decide +kernel
theorem dJx4a65c_elementData_915e3_5 : decode cJx4a65c_elementData_915e3 5 = .ok (.aaload, 1) := by decide +kernel
theorem dJx4a65c_elementData_915e3_6 : decode cJx4a65c_elementData_915e3 6 = .ok (.areturn, 1) := by decide +kernel
theorem dJx4a65c_get_915e3_0 : decode cJx4a65c_get_915e3 0 = .ok (.iload_n 1, 1) := by decide +kernel
theorem dJx4a65c_get_915e3_1 : decode cJx4a65c_get_915e3 1 = .ok (.aload_n 0, 1) := by decide +kernel
theorem dJx4a65c_get_915e3_2 : decode cJx4a65c_get_915e3 2 = .ok (.getfield 48, 3) := by decide +kernel
theorem dJx4a65c_get_915e3_5 : decode cJx4a65c_get_915e3 5 = .ok (.invokestatic 118, 3) := by decide +kernel
theorem dJx4a65c_get_915e3_8 : decode cJx4a65c_get_915e3 8 = .ok (.pop, 1) := by decide +kernel
theorem dJx4a65c_get_915e3_9 : decode cJx4a65c_get_915e3 9 = .ok (.aload_n 0, 1) := by decide +kernel
theorem dJx4a65c_get_915e3_10 : decode cJx4a65c_get_915e3 10 = .ok (.iload_n 1, 1) := by decide +kernel
theorem dJx4a65c_get_915e3_11 : decode cJx4a65c_get_915e3 11 = .ok (.invokevirtual 123, 3) := by decide +kernel
theorem dJx4a65c_get_915e3_14 : decode cJx4a65c_get_915e3 14 = .ok (.areturn, 1) := by decide +kernel
theorem dJx4a65c_add_72be8_0 : decode cJx4a65c_add_72be8 0 = .ok (.iload_n 3, 1) := by decide +kernel
theorem dJx4a65c_add_72be8_1 : decode cJx4a65c_add_72be8 1 = .ok (.aload_n 2, 1) := by decide +kernel
theorem dJx4a65c_add_72be8_2 : decode cJx4a65c_add_72be8 2 = .ok (.arraylength, 1) := by decide +kernel
theorem dJx4a65c_add_72be8_3 : decode cJx4a65c_add_72be8 3 = .ok (.if_icmp .ne 8, 3) := by decide +kernel
theorem dJx4a65c_add_72be8_6 : decode cJx4a65c_add_72be8 6 = .ok (.aload_n 0, 1) := by decide +kernel
theorem dJx4a65c_add_72be8_7 : decode cJx4a65c_add_72be8 7 = .ok (.invokevirtual 129, 3) := by decide +kernel
theorem dJx4a65c_add_72be8_10 : decode cJx4a65c_add_72be8 10 = .ok (.astore_n 2, 1) := by decide +kernel
theorem dJx4a65c_add_72be8_11 : decode cJx4a65c_add_72be8 11 = .ok (.aload_n 2, 1) := by decide +kernel
theorem dJx4a65c_add_72be8_12 : decode cJx4a65c_add_72be8 12 = .ok (.iload_n 3, 1) := by decide +kernel
theorem dJx4a65c_add_72be8_13 : decode cJx4a65c_add_72be8 13 = .ok (.aload_n 1, 1) := by decide +kernel
theorem dJx4a65c_add_72be8_14 : decode cJx4a65c_add_72be8 14 = .ok (.aastore, 1) := by decide +kernel
theorem dJx4a65c_add_72be8_15 : decode cJx4a65c_add_72be8 15 = .ok (.aload_n 0, 1) := by decide +kernel
theorem dJx4a65c_add_72be8_16 : decode cJx4a65c_add_72be8 16 = .ok (.iload_n 3, 1) := by decide +kernel
theorem dJx4a65c_add_72be8_17 : decode cJx4a65c_add_72be8 17 = .ok (.iconst 1, 1) := by decide +kernel
theorem dJx4a65c_add_72be8_18 : decode cJx4a65c_add_72be8 18 = .ok (.iadd, 1) := by decide +kernel
theorem dJx4a65c_add_72be8_19 : decode cJx4a65c_add_72be8 19 = .ok (.putfield 48, 3) := by decide +kernel
theorem dJx4a65c_add_72be8_22 : decode cJx4a65c_add_72be8 22 = .ok (.return_, 1) := by decide +kernel
theorem dJx4a65c_add_9ea2d_0 : decode cJx4a65c_add_9ea2d 0 = .ok (.aload_n 0, 1) := by decide +kernel
theorem dJx4a65c_add_9ea2d_1 : decode cJx4a65c_add_9ea2d 1 = .ok (.dup, 1) := by decide +kernel
theorem dJx4a65c_add_9ea2d_2 : decode cJx4a65c_add_9ea2d 2 = .ok (.getfield 63, 3) := by decide +kernel
theorem dJx4a65c_add_9ea2d_5 : decode cJx4a65c_add_9ea2d 5 = .ok (.iconst 1, 1) := by decide +kernel
theorem dJx4a65c_add_9ea2d_6 : decode cJx4a65c_add_9ea2d 6 = .ok (.iadd, 1) := by decide +kernel
theorem dJx4a65c_add_9ea2d_7 : decode cJx4a65c_add_9ea2d 7 = .ok (.putfield 63, 3) := by decide +kernel
theorem dJx4a65c_add_9ea2d_10 : decode cJx4a65c_add_9ea2d 10 = .ok (.aload_n 0, 1) := by decide +kernel
theorem dJx4a65c_add_9ea2d_11 : decode cJx4a65c_add_9ea2d 11 = .ok (.aload_n 1, 1) := by decide +kernel
theorem dJx4a65c_add_9ea2d_12 : decode cJx4a65c_add_9ea2d 12 = .ok (.aload_n 0, 1) := by decide +kernel
theorem dJx4a65c_add_9ea2d_13 : decode cJx4a65c_add_9ea2d 13 = .ok (.getfield 9, 3) := by decide +kernel
theorem dJx4a65c_add_9ea2d_16 : decode cJx4a65c_add_9ea2d 16 = .ok (.aload_n 0, 1) := by decide +kernel
theorem dJx4a65c_add_9ea2d_17 : decode cJx4a65c_add_9ea2d 17 = .ok (.getfield 48, 3) := by decide +kernel
theorem dJx4a65c_add_9ea2d_20 : decode cJx4a65c_add_9ea2d 20 = .ok (.invokevirtual 131, 3) := by decide +kernel
theorem dJx4a65c_add_9ea2d_23 : decode cJx4a65c_add_9ea2d 23 = .ok (.iconst 1, 1) := by decide +kernel
theorem dJx4a65c_add_9ea2d_24 : decode cJx4a65c_add_9ea2d 24 = .ok (.ireturn, 1) := by decide +kernel
theorem dJx4a65c_remove_915e3_0 : decode cJx4a65c_remove_915e3 0 = .ok (.iload_n 1, 1) := by decide +kernel
theorem dJx4a65c_remove_915e3_1 : decode cJx4a65c_remove_915e3 1 = .ok (.aload_n 0, 1) := by decide +kernel
theorem dJx4a65c_remove_915e3_2 : decode cJx4a65c_remove_915e3 2 = .ok (.getfield 48, 3) := by decide +kernel
theorem dJx4a65c_remove_915e3_5 : decode cJx4a65c_remove_915e3 5 = .ok (.invokestatic 118, 3) := by decide +kernel
theorem dJx4a65c_remove_915e3_8 : decode cJx4a65c_remove_915e3 8 = .ok (.pop, 1) := by decide +kernel
theorem dJx4a65c_remove_915e3_9 : decode cJx4a65c_remove_915e3 9 = .ok (.aload_n 0, 1) := by decide +kernel
theorem dJx4a65c_remove_915e3_10 : decode cJx4a65c_remove_915e3 10 = .ok (.getfield 9, 3) := by decide +kernel
theorem dJx4a65c_remove_915e3_13 : decode cJx4a65c_remove_915e3 13 = .ok (.astore_n 2, 1) := by decide +kernel
theorem dJx4a65c_remove_915e3_14 : decode cJx4a65c_remove_915e3 14 = .ok (.aload_n 2, 1) := by decide +kernel
theorem dJx4a65c_remove_915e3_15 : decode cJx4a65c_remove_915e3 15 = .ok (.iload_n 1, 1) := by decide +kernel
theorem dJx4a65c_remove_915e3_16 : decode cJx4a65c_remove_915e3 16 = .ok (.aaload, 1) := by decide +kernel
theorem dJx4a65c_remove_915e3_17 : decode cJx4a65c_remove_915e3 17 = .ok (.astore_n 3, 1) := by decide +kernel
theorem dJx4a65c_remove_915e3_18 : decode cJx4a65c_remove_915e3 18 = .ok (.aload_n 0, 1) := by decide +kernel
theorem dJx4a65c_remove_915e3_19 : decode cJx4a65c_remove_915e3 19 = .ok (.aload_n 2, 1) := by decide +kernel
theorem dJx4a65c_remove_915e3_20 : decode cJx4a65c_remove_915e3 20 = .ok (.iload_n 1, 1) := by decide +kernel
theorem dJx4a65c_remove_915e3_21 : decode cJx4a65c_remove_915e3 21 = .ok (.invokevirtual 144, 3) := by decide +kernel
theorem dJx4a65c_remove_915e3_24 : decode cJx4a65c_remove_915e3 24 = .ok (.aload_n 3, 1) := by decide +kernel
theorem dJx4a65c_remove_915e3_25 : decode cJx4a65c_remove_915e3 25 = .ok (.areturn, 1) := by decide +kernel
theorem dJx4a65c_fastRemove_b59b0_0 : decode cJx4a65c_fastRemove_b59b0 0 = .ok (.aload_n 0, 1) := by decide +kernel
theorem dJx4a65c_fastRemove_b59b0_1 : decode cJx4a65c_fastRemove_b59b0 1 = .ok (.dup, 1) := by decide +kernel
theorem dJx4a65c_fastRemove_b59b0_2 : decode cJx4a65c_fastRemove_b59b0 2 = .ok (.getfield 63, 3) := by decide +kernel
theorem dJx4a65c_fastRemove_b59b0_5 : decode cJx4a65c_fastRemove_b59b0 5 = .ok (.iconst 1, 1) := by decide +kernel
theorem dJx4a65c_fastRemove_b59b0_6 : decode cJx4a65c_fastRemove_b59b0 6 = .ok (.iadd, 1) := by decide +kernel
theorem dJx4a65c_fastRemove_b59b0_7 : decode cJx4a65c_fastRemove_b59b0 7 = .ok (.putfield 63, 3) := by decide +kernel
theorem dJx4a65c_fastRemove_b59b0_10 : decode cJx4a65c_fastRemove_b59b0 10 = .ok (.aload_n 0, 1) := by decide +kernel
theorem dJx4a65c_fastRemove_b59b0_11 : decode cJx4a65c_fastRemove_b59b0 11 = .ok (.getfield 48, 3) := by decide +kernel
theorem dJx4a65c_fastRemove_b59b0_14 : decode cJx4a65c_fastRemove_b59b0 14 = .ok (.iconst 1, 1) := by decide +kernel
theorem dJx4a65c_fastRemove_b59b0_15 : decode cJx4a65c_fastRemove_b59b0 15 = .ok (.isub, 1) := by decide +kernel
theorem dJx4a65c_fastRemove_b59b0_16 : decode cJx4a65c_fastRemove_b59b0 16 = .ok (.dup, 1) := by decide +kernel
theorem dJx4a65c_fastRemove_b59b0_17 : decode cJx4a65c_fastRemove_b59b0 17 = .ok (.istore_n 3, 1) := by decide +kernel
theorem dJx4a65c_fastRemove_b59b0_18 : decode cJx4a65c_fastRemove_b59b0 18 = .ok (.iload_n 2, 1) := by decide +kernel
theorem dJx4a65c_fastRemove_b59b0_19 : decode cJx4a65c_fastRemove_b59b0 19 = .ok (.if_icmp .le 15, 3) := by decide +kernel
theorem dJx4a65c_fastRemove_b59b0_22 : decode cJx4a65c_fastRemove_b59b0 22 = .ok (.aload_n 1, 1) := by decide +kernel
theorem dJx4a65c_fastRemove_b59b0_23 : decode cJx4a65c_fastRemove_b59b0 23 = .ok (.iload_n 2, 1) := by decide +kernel
end
section
theorem dJx4a65c_fastRemove_b59b0_24 : decode cJx4a65c_fastRemove_b59b0 24 = .ok (.iconst 1, 1) := by decide +kernel
theorem dJx4a65c_fastRemove_b59b0_25 : decode cJx4a65c_fastRemove_b59b0 25 = .ok (.iadd, 1) := by decide +kernel
theorem dJx4a65c_fastRemove_b59b0_26 : decode cJx4a65c_fastRemove_b59b0 26 = .ok (.aload_n 1, 1) := by decide +kernel
theorem dJx4a65c_fastRemove_b59b0_27 : decode cJx4a65c_fastRemove_b59b0 27 = .ok (.iload_n 2, 1) := by decide +kernel
theorem dJx4a65c_fastRemove_b59b0_28 : decode cJx4a65c_fastRemove_b59b0 28 = .ok (.iload_n 3, 1) := by decide +kernel
theorem dJx4a65c_fastRemove_b59b0_29 : decode cJx4a65c_fastRemove_b59b0 29 = .ok (.iload_n 2, 1) := by decide +kernel
theorem dJx4a65c_fastRemove_b59b0_30 : decode cJx4a65c_fastRemove_b59b0 30 = .ok (.isub, 1) := by decide +kernel
theorem dJx4a65c_fastRemove_b59b0_31 : decode cJx4a65c_fastRemove_b59b0 31 = .ok (.invokestatic 112, 3) := by decide +kernel
theorem dJx4a65c_fastRemove_b59b0_34 : decode cJx4a65c_fastRemove_b59b0 34 = .ok (.aload_n 1, 1) := by decide +kernel
theorem dJx4a65c_fastRemove_b59b0_35 : decode cJx4a65c_fastRemove_b59b0 35 = .ok (.aload_n 0, 1) := by decide +kernel
theorem dJx4a65c_fastRemove_b59b0_36 : decode cJx4a65c_fastRemove_b59b0 36 = .ok (.iload_n 3, 1) := by decide +kernel
theorem dJx4a65c_fastRemove_b59b0_37 : decode cJx4a65c_fastRemove_b59b0 37 = .ok (.dup_x1, 1) := by decide +kernel
theorem dJx4a65c_fastRemove_b59b0_38 : decode cJx4a65c_fastRemove_b59b0 38 = .ok (.putfield 48, 3) := by decide +kernel
theorem dJx4a65c_fastRemove_b59b0_41 : decode cJx4a65c_fastRemove_b59b0 41 = .ok (.aconst_null, 1) := by decide +kernel
theorem dJx4a65c_fastRemove_b59b0_42 : decode cJx4a65c_fastRemove_b59b0 42 = .ok (.aastore, 1) := by decide +kernel
theorem dJx4a65c_fastRemove_b59b0_43 : decode cJx4a65c_fastRemove_b59b0 43 = .ok (.return_, 1) := by decide +kernel
theorem dJ7_copyOf_1904c_0 : decode cJ7_copyOf_1904c 0 = .ok (.aload_n 0, 1) := by decide +kernel
theorem dJ7_copyOf_1904c_1 : decode cJ7_copyOf_1904c 1 = .ok (.iload_n 1, 1) := by decide +kernel
theorem dJ7_copyOf_1904c_2 : decode cJ7_copyOf_1904c 2 = .ok (.aload_n 0, 1) := by decide +kernel
theorem dJ7_copyOf_1904c_3 : decode cJ7_copyOf_1904c 3 = .ok (.invokevirtual 86, 3) := by decide +kernel
theorem dJ7_copyOf_1904c_6 : decode cJ7_copyOf_1904c 6 = .ok (.invokestatic 300, 3) := by decide +kernel
theorem dJ7_copyOf_1904c_9 : decode cJ7_copyOf_1904c 9 = .ok (.areturn, 1) := by decide +kernel
theorem dJ7_copyOf_6403c_0 : decode cJ7_copyOf_6403c 0 = .ok (.aload_n 2, 1) := by decide +kernel
theorem dJ7_copyOf_6403c_1 : decode cJ7_copyOf_6403c 1 = .ok (.ldc 110, 2) := by decide +kernel
theorem dJ7_copyOf_6403c_3 : decode cJ7_copyOf_6403c 3 = .ok (.if_acmp .ne 10, 3) := by decide +kernel
theorem dJ7_copyOf_6403c_6 : decode cJ7_copyOf_6403c 6 = .ok (.iload_n 1, 1) := by decide +kernel
theorem dJ7_copyOf_6403c_7 : decode cJ7_copyOf_6403c 7 = .ok (.anewarray 2, 3) := by decide +kernel
theorem dJ7_copyOf_6403c_10 : decode cJ7_copyOf_6403c 10 = .ok (.goto 14, 3) := by decide +kernel
theorem dJ7_copyOf_6403c_13 : decode cJ7_copyOf_6403c 13 = .ok (.aload_n 2, 1) := by decide +kernel
theorem dJ7_copyOf_6403c_14 : decode cJ7_copyOf_6403c 14 = .ok (.invokevirtual 90, 3) := by decide +kernel
theorem dJ7_copyOf_6403c_17 : decode cJ7_copyOf_6403c 17 = .ok (.iload_n 1, 1) := by decide +kernel
theorem dJ7_copyOf_6403c_18 : decode cJ7_copyOf_6403c 18 = .ok (.invokestatic 95, 3) := by decide +kernel
theorem dJ7_copyOf_6403c_21 : decode cJ7_copyOf_6403c 21 = .ok (.checkcast 110, 3) := by decide +kernel
theorem dJ7_copyOf_6403c_24 : decode cJ7_copyOf_6403c 24 = .ok (.astore_n 3, 1) := by decide +kernel
theorem dJ7_copyOf_6403c_25 : decode cJ7_copyOf_6403c 25 = .ok (.aload_n 0, 1) := by decide +kernel
theorem dJ7_copyOf_6403c_26 : decode cJ7_copyOf_6403c 26 = .ok (.iconst 0, 1) := by decide +kernel
theorem dJ7_copyOf_6403c_27 : decode cJ7_copyOf_6403c 27 = .ok (.aload_n 3, 1) := by decide +kernel
theorem dJ7_copyOf_6403c_28 : decode cJ7_copyOf_6403c 28 = .ok (.iconst 0, 1) := by decide +kernel
theorem dJ7_copyOf_6403c_29 : decode cJ7_copyOf_6403c 29 = .ok (.aload_n 0, 1) := by decide +kernel
theorem dJ7_copyOf_6403c_30 : decode cJ7_copyOf_6403c 30 = .ok (.arraylength, 1) := by decide +kernel
theorem dJ7_copyOf_6403c_31 : decode cJ7_copyOf_6403c 31 = .ok (.iload_n 1, 1) := by decide +kernel
theorem dJ7_copyOf_6403c_32 : decode cJ7_copyOf_6403c 32 = .ok (.invokestatic 304, 3) := by decide +kernel
theorem dJ7_copyOf_6403c_35 : decode cJ7_copyOf_6403c 35 = .ok (.invokestatic 150, 3) := by decide +kernel
theorem dJ7_copyOf_6403c_38 : decode cJ7_copyOf_6403c 38 = .ok (.aload_n 3, 1) := by decide +kernel
theorem dJ7_copyOf_6403c_39 : decode cJ7_copyOf_6403c 39 = .ok (.areturn, 1) := by decide +kernel
theorem dJ15_checkIndex_7cf53_0 : decode cJ15_checkIndex_7cf53 0 = .ok (.iload_n 0, 1) := by decide +kernel
theorem dJ15_checkIndex_7cf53_1 : decode cJ15_checkIndex_7cf53 1 = .ok (.iload_n 1, 1) := by decide +kernel
theorem dJ15_checkIndex_7cf53_2 : decode cJ15_checkIndex_7cf53 2 = .ok (.aconst_null, 1) := by decide +kernel
theorem dJ15_checkIndex_7cf53_3 : decode cJ15_checkIndex_7cf53 3 = .ok (.invokestatic 105, 3) := by decide +kernel
theorem dJ15_checkIndex_7cf53_6 : decode cJ15_checkIndex_7cf53 6 = .ok (.ireturn, 1) := by decide +kernel
theorem dJ8_newLength_cabcc_0 : decode cJ8_newLength_cabcc 0 = .ok (.iload_n 0, 1) := by decide +kernel
theorem dJ8_newLength_cabcc_1 : decode cJ8_newLength_cabcc 1 = .ok (.iload_n 1, 1) := by decide +kernel
theorem dJ8_newLength_cabcc_2 : decode cJ8_newLength_cabcc 2 = .ok (.iload_n 2, 1) := by decide +kernel
theorem dJ8_newLength_cabcc_3 : decode cJ8_newLength_cabcc 3 = .ok (.invokestatic 194, 3) := by decide +kernel
theorem dJ8_newLength_cabcc_6 : decode cJ8_newLength_cabcc 6 = .ok (.iadd, 1) := by decide +kernel
theorem dJ8_newLength_cabcc_7 : decode cJ8_newLength_cabcc 7 = .ok (.istore_n 3, 1) := by decide +kernel
theorem dJ8_newLength_cabcc_8 : decode cJ8_newLength_cabcc 8 = .ok (.iconst 0, 1) := by decide +kernel
theorem dJ8_newLength_cabcc_9 : decode cJ8_newLength_cabcc 9 = .ok (.iload_n 3, 1) := by decide +kernel
theorem dJ8_newLength_cabcc_10 : decode cJ8_newLength_cabcc 10 = .ok (.if_icmp .ge 11, 3) := by decide +kernel
theorem dJ8_newLength_cabcc_13 : decode cJ8_newLength_cabcc 13 = .ok (.iload_n 3, 1) := by decide +kernel
theorem dJ8_newLength_cabcc_14 : decode cJ8_newLength_cabcc 14 = .ok (.ldc 200, 2) := by decide +kernel
theorem dJ8_newLength_cabcc_16 : decode cJ8_newLength_cabcc 16 = .ok (.if_icmp .gt 5, 3) := by decide +kernel
theorem dJ8_newLength_cabcc_19 : decode cJ8_newLength_cabcc 19 = .ok (.iload_n 3, 1) := by decide +kernel
theorem dJ8_newLength_cabcc_20 : decode cJ8_newLength_cabcc 20 = .ok (.ireturn, 1) := by decide +kernel
theorem dJ8_newLength_cabcc_21 : decode cJ8_newLength_cabcc 21 = .ok (.iload_n 0, 1) := by decide +kernel
theorem dJ8_newLength_cabcc_22 : decode cJ8_newLength_cabcc 22 = .ok (.iload_n 1, 1) := by decide +kernel
theorem dJ8_newLength_cabcc_23 : decode cJ8_newLength_cabcc 23 = .ok (.invokestatic 201, 3) := by decide +kernel
theorem dJ8_newLength_cabcc_26 : decode cJ8_newLength_cabcc 26 = .ok (.ireturn, 1) := by decide +kernel
theorem dJ8_hugeLength_7cf53_0 : decode cJ8_hugeLength_7cf53 0 = .ok (.iload_n 0, 1) := by decide +kernel
theorem dJ8_hugeLength_7cf53_1 : decode cJ8_hugeLength_7cf53 1 = .ok (.iload_n 1, 1) := by decide +kernel
theorem dJ8_hugeLength_7cf53_2 : decode cJ8_hugeLength_7cf53 2 = .ok (.iadd, 1) := by decide +kernel
theorem dJ8_hugeLength_7cf53_3 : decode cJ8_hugeLength_7cf53 3 = .ok (.istore_n 2, 1) := by decide +kernel
theorem dJ8_hugeLength_7cf53_4 : decode cJ8_hugeLength_7cf53 4 = .ok (.iload_n 2, 1) := by decide +kernel
theorem dJ8_hugeLength_7cf53_5 : decode cJ8_hugeLength_7cf53 5 = .ok (.ifCond .ge 44, 3) := by decide +kernel
theorem dJ8_hugeLength_7cf53_8 : decode cJ8_hugeLength_7cf53 8 = .ok (.new 204, 3) := by decide +kernel
theorem dJ8_hugeLength_7cf53_11 : decode cJ8_hugeLength_7cf53 11 = .ok (.dup, 1) := by decide +kernel
theorem dJ8_hugeLength_7cf53_12 : decode cJ8_hugeLength_7cf53 12 = .ok (.new 89, 3) := by decide +kernel
theorem dJ8_hugeLength_7cf53_15 : decode cJ8_hugeLength_7cf53 15 = .ok (.dup, 1) := by decide +kernel
theorem dJ8_hugeLength_7cf53_16 : decode cJ8_hugeLength_7cf53 16 = .ok (.invokespecial 91, 3) := by decide +kernel
theorem dJ8_hugeLength_7cf53_19 : decode cJ8_hugeLength_7cf53 19 = .ok (.ldc 206, 2) := by decide +kernel
theorem dJ8_hugeLength_7cf53_21 : decode cJ8_hugeLength_7cf53 21 = .ok (.invokevirtual 94, 3) := by decide +kernel
theorem dJ8_hugeLength_7cf53_24 : decode cJ8_hugeLength_7cf53 24 = .ok (.iload_n 0, 1) := by decide +kernel
theorem dJ8_hugeLength_7cf53_25 : decode cJ8_hugeLength_7cf53 25 = .ok (.invokevirtual 98, 3) := by decide +kernel
theorem dJ8_hugeLength_7cf53_28 : decode cJ8_hugeLength_7cf53 28 = .ok (.ldc 208, 2) := by decide +kernel
theorem dJ8_hugeLength_7cf53_30 : decode cJ8_hugeLength_7cf53 30 = .ok (.invokevirtual 94, 3) := by decide +kernel
theorem dJ8_hugeLength_7cf53_33 : decode cJ8_hugeLength_7cf53 33 = .ok (.iload_n 1, 1) := by decide +kernel
theorem dJ8_hugeLength_7cf53_34 : decode cJ8_hugeLength_7cf53 34 = .ok (.invokevirtual 98, 3) := by decide +kernel
theorem dJ8_hugeLength_7cf53_37 : decode cJ8_hugeLength_7cf53 37 = .ok (.ldc 210, 2) := by decide +kernel
theorem dJ8_hugeLength_7cf53_39 : decode cJ8_hugeLength_7cf53 39 = .ok (.invokevirtual 94, 3) := by decide +kernel
theorem dJ8_hugeLength_7cf53_42 : decode cJ8_hugeLength_7cf53 42 = .ok (.invokevirtual 101, 3) := by decide +kernel
theorem dJ8_hugeLength_7cf53_45 : decode cJ8_hugeLength_7cf53 45 = .ok (.invokespecial 212, 3) := by decide +kernel
theorem dJ8_hugeLength_7cf53_48 : decode cJ8_hugeLength_7cf53 48 = .ok (.athrow, 1) := by decide +kernel
theorem dJ8_hugeLength_7cf53_49 : decode cJ8_hugeLength_7cf53 49 = .ok (.iload_n 2, 1) := by decide +kernel
theorem dJ8_hugeLength_7cf53_50 : decode cJ8_hugeLength_7cf53 50 = .ok (.ldc 200, 2) := by decide +kernel
theorem dJ8_hugeLength_7cf53_52 : decode cJ8_hugeLength_7cf53 52 = .ok (.if_icmp .gt 6, 3) := by decide +kernel
theorem dJ8_hugeLength_7cf53_55 : decode cJ8_hugeLength_7cf53 55 = .ok (.ldc 200, 2) := by decide +kernel
theorem dJ8_hugeLength_7cf53_57 : decode cJ8_hugeLength_7cf53 57 = .ok (.ireturn, 1) := by decide +kernel
theorem dJ8_hugeLength_7cf53_58 : decode cJ8_hugeLength_7cf53 58 = .ok (.iload_n 2, 1) := by decide +kernel
theorem dJ8_hugeLength_7cf53_59 : decode cJ8_hugeLength_7cf53 59 = .ok (.ireturn, 1) := by decide +kernel
theorem dJ3_checkIndex_8e157_0 : decode cJ3_checkIndex_8e157 0 = .ok (.iload_n 0, 1) := by decide +kernel
theorem dJ3_checkIndex_8e157_1 : decode cJ3_checkIndex_8e157 1 = .ok (.ifCond .lt 8, 3) := by decide +kernel
theorem dJ3_checkIndex_8e157_4 : decode cJ3_checkIndex_8e157 4 = .ok (.iload_n 0, 1) := by decide +kernel
theorem dJ3_checkIndex_8e157_5 : decode cJ3_checkIndex_8e157 5 = .ok (.iload_n 1, 1) := by decide +kernel
theorem dJ3_checkIndex_8e157_6 : decode cJ3_checkIndex_8e157 6 = .ok (.if_icmp .lt 10, 3) := by decide +kernel
theorem dJ3_checkIndex_8e157_9 : decode cJ3_checkIndex_8e157 9 = .ok (.aload_n 2, 1) := by decide +kernel
theorem dJ3_checkIndex_8e157_10 : decode cJ3_checkIndex_8e157 10 = .ok (.iload_n 0, 1) := by decide +kernel
theorem dJ3_checkIndex_8e157_11 : decode cJ3_checkIndex_8e157 11 = .ok (.iload_n 1, 1) := by decide +kernel
theorem dJ3_checkIndex_8e157_12 : decode cJ3_checkIndex_8e157 12 = .ok (.invokestatic 95, 3) := by decide +kernel
theorem dJ3_checkIndex_8e157_15 : decode cJ3_checkIndex_8e157 15 = .ok (.athrow, 1) := by decide +kernel
theorem dJ3_checkIndex_8e157_16 : decode cJ3_checkIndex_8e157 16 = .ok (.iload_n 0, 1) := by decide +kernel
theorem dJ3_checkIndex_8e157_17 : decode cJ3_checkIndex_8e157 17 = .ok (.ireturn, 1) := by decide +kernel
theorem dL_first_0 : decode cL_first 0 = .ok (.aload_n 0, 1) := by decide +kernel
theorem dL_first_1 : decode cL_first 1 = .ok (.iload_n 1, 1) := by decide +kernel
theorem dL_first_2 : decode cL_first 2 = .ok (.iload_n 2, 1) := by decide +kernel
theorem dL_first_3 : decode cL_first 3 = .ok (.iload_n 3, 1) := by decide +kernel
theorem dL_first_4 : decode cL_first 4 = .ok (.invokevirtual 7, 3) := by decide +kernel
theorem dL_first_7 : decode cL_first 7 = .ok (.goto 11, 3) := by decide +kernel
theorem dL_first_10 : decode cL_first 10 = .ok (.astore 4, 2) := by decide +kernel
theorem dL_first_12 : decode cL_first 12 = .ok (.iconst 1, 1) := by decide +kernel
theorem dL_first_13 : decode cL_first 13 = .ok (.ireturn, 1) := by decide +kernel
theorem dL_first_14 : decode cL_first 14 = .ok (.astore 4, 2) := by decide +kernel
theorem dL_first_16 : decode cL_first 16 = .ok (.iconst 2, 1) := by decide +kernel
theorem dL_first_17 : decode cL_first 17 = .ok (.ireturn, 1) := by decide +kernel
theorem dL_first_18 : decode cL_first 18 = .ok (.iconst 0, 1) := by decide +kernel
theorem dL_first_19 : decode cL_first 19 = .ok (.ireturn, 1) := by decide +kernel
theorem dL_keeper_0 : decode cL_keeper 0 = .ok (.aload 6, 2) := by decide +kernel
theorem dL_keeper_2 : decode cL_keeper 2 = .ok (.iconst 0, 1) := by decide +kernel
theorem dL_keeper_3 : decode cL_keeper 3 = .ok (.aload_n 0, 1) := by decide +kernel
theorem dL_keeper_4 : decode cL_keeper 4 = .ok (.iload_n 1, 1) := by decide +kernel
theorem dL_keeper_5 : decode cL_keeper 5 = .ok (.iload_n 2, 1) := by decide +kernel
theorem dL_keeper_6 : decode cL_keeper 6 = .ok (.iload_n 3, 1) := by decide +kernel
theorem dL_keeper_7 : decode cL_keeper 7 = .ok (.iload 4, 2) := by decide +kernel
theorem dL_keeper_9 : decode cL_keeper 9 = .ok (.iload 5, 2) := by decide +kernel
theorem dL_keeper_11 : decode cL_keeper 11 = .ok (.invokevirtual 17, 3) := by decide +kernel
theorem dL_keeper_14 : decode cL_keeper 14 = .ok (.i2l, 1) := by decide +kernel
theorem dL_keeper_15 : decode cL_keeper 15 = .ok (.lastore, 1) := by decide +kernel
theorem dL_keeper_16 : decode cL_keeper 16 = .ok (.goto 11, 3) := by decide +kernel
theorem dL_keeper_19 : decode cL_keeper 19 = .ok (.astore 7, 2) := by decide +kernel
theorem dL_keeper_21 : decode cL_keeper 21 = .ok (.iconst 1, 1) := by decide +kernel
theorem dL_keeper_22 : decode cL_keeper 22 = .ok (.ireturn, 1) := by decide +kernel
theorem dL_keeper_23 : decode cL_keeper 23 = .ok (.astore 7, 2) := by decide +kernel
theorem dL_keeper_25 : decode cL_keeper 25 = .ok (.iconst 2, 1) := by decide +kernel
theorem dL_keeper_26 : decode cL_keeper 26 = .ok (.ireturn, 1) := by decide +kernel
theorem dL_keeper_27 : decode cL_keeper 27 = .ok (.iconst 0, 1) := by decide +kernel
theorem dL_keeper_28 : decode cL_keeper 28 = .ok (.ireturn, 1) := by decide +kernel
theorem dL_worker_0 : decode cL_worker 0 = .ok (.aload 7, 2) := by decide +kernel
theorem dL_worker_2 : decode cL_worker 2 = .ok (.iconst 0, 1) := by decide +kernel
theorem dL_worker_3 : decode cL_worker 3 = .ok (.aload_n 0, 1) := by decide +kernel
theorem dL_worker_4 : decode cL_worker 4 = .ok (.iload_n 1, 1) := by decide +kernel
theorem dL_worker_5 : decode cL_worker 5 = .ok (.iload_n 2, 1) := by decide +kernel
theorem dL_worker_6 : decode cL_worker 6 = .ok (.iload_n 3, 1) := by decide +kernel
theorem dL_worker_7 : decode cL_worker 7 = .ok (.iload 4, 2) := by decide +kernel
theorem dL_worker_9 : decode cL_worker 9 = .ok (.iload 5, 2) := by decide +kernel
theorem dL_worker_11 : decode cL_worker 11 = .ok (.iload 6, 2) := by decide +kernel
theorem dL_worker_13 : decode cL_worker 13 = .ok (.invokevirtual 21, 3) := by decide +kernel
theorem dL_worker_16 : decode cL_worker 16 = .ok (.i2l, 1) := by decide +kernel
theorem dL_worker_17 : decode cL_worker 17 = .ok (.lastore, 1) := by decide +kernel
theorem dL_worker_18 : decode cL_worker 18 = .ok (.goto 11, 3) := by decide +kernel
theorem dL_worker_21 : decode cL_worker 21 = .ok (.astore 8, 2) := by decide +kernel
theorem dL_worker_23 : decode cL_worker 23 = .ok (.iconst 1, 1) := by decide +kernel
theorem dL_worker_24 : decode cL_worker 24 = .ok (.ireturn, 1) := by decide +kernel
theorem dL_worker_25 : decode cL_worker 25 = .ok (.astore 8, 2) := by decide +kernel
theorem dL_worker_27 : decode cL_worker 27 = .ok (.iconst 2, 1) := by decide +kernel
theorem dL_worker_28 : decode cL_worker 28 = .ok (.ireturn, 1) := by decide +kernel
theorem dL_worker_29 : decode cL_worker 29 = .ok (.iconst 0, 1) := by decide +kernel
theorem dL_worker_30 : decode cL_worker 30 = .ok (.ireturn, 1) := by decide +kernel
theorem dL_failing_0 : decode cL_failing 0 = .ok (.aload_n 3, 1) := by decide +kernel
theorem dL_failing_1 : decode cL_failing 1 = .ok (.iconst 0, 1) := by decide +kernel
theorem dL_failing_2 : decode cL_failing 2 = .ok (.aload_n 0, 1) := by decide +kernel
theorem dL_failing_3 : decode cL_failing 3 = .ok (.iload_n 1, 1) := by decide +kernel
theorem dL_failing_4 : decode cL_failing 4 = .ok (.iload_n 2, 1) := by decide +kernel
theorem dL_failing_5 : decode cL_failing 5 = .ok (.invokevirtual 25, 3) := by decide +kernel
theorem dL_failing_8 : decode cL_failing 8 = .ok (.i2l, 1) := by decide +kernel
theorem dL_failing_9 : decode cL_failing 9 = .ok (.lastore, 1) := by decide +kernel
theorem dL_failing_10 : decode cL_failing 10 = .ok (.goto 7, 3) := by decide +kernel
theorem dL_failing_13 : decode cL_failing 13 = .ok (.astore 4, 2) := by decide +kernel
theorem dL_failing_15 : decode cL_failing 15 = .ok (.iconst 1, 1) := by decide +kernel
theorem dL_failing_16 : decode cL_failing 16 = .ok (.ireturn, 1) := by decide +kernel
theorem dL_failing_17 : decode cL_failing 17 = .ok (.iconst 0, 1) := by decide +kernel
theorem dL_failing_18 : decode cL_failing 18 = .ok (.ireturn, 1) := by decide +kernel
theorem dL_begin_0 : decode cL_begin 0 = .ok (.aload_n 1, 1) := by decide +kernel
theorem dL_begin_1 : decode cL_begin 1 = .ok (.iconst 0, 1) := by decide +kernel
theorem dL_begin_2 : decode cL_begin 2 = .ok (.aload_n 0, 1) := by decide +kernel
theorem dL_begin_3 : decode cL_begin 3 = .ok (.invokevirtual 29, 3) := by decide +kernel
theorem dL_begin_6 : decode cL_begin 6 = .ok (.ifCond .eq 7, 3) := by decide +kernel
theorem dL_begin_9 : decode cL_begin 9 = .ok (.lconst 1, 1) := by decide +kernel
theorem dL_begin_10 : decode cL_begin 10 = .ok (.goto 4, 3) := by decide +kernel
theorem dL_begin_13 : decode cL_begin 13 = .ok (.lconst 0, 1) := by decide +kernel
theorem dL_begin_14 : decode cL_begin 14 = .ok (.lastore, 1) := by decide +kernel
theorem dL_begin_15 : decode cL_begin 15 = .ok (.goto 6, 3) := by decide +kernel
theorem dL_begin_18 : decode cL_begin 18 = .ok (.astore_n 2, 1) := by decide +kernel
theorem dL_begin_19 : decode cL_begin 19 = .ok (.iconst 1, 1) := by decide +kernel
theorem dL_begin_20 : decode cL_begin 20 = .ok (.ireturn, 1) := by decide +kernel
theorem dL_begin_21 : decode cL_begin 21 = .ok (.iconst 0, 1) := by decide +kernel
theorem dL_begin_22 : decode cL_begin 22 = .ok (.ireturn, 1) := by decide +kernel
theorem dL_ends_0 : decode cL_ends 0 = .ok (.aload_n 0, 1) := by decide +kernel
theorem dL_ends_1 : decode cL_ends 1 = .ok (.iload_n 1, 1) := by decide +kernel
theorem dL_ends_2 : decode cL_ends 2 = .ok (.iload_n 2, 1) := by decide +kernel
theorem dL_ends_3 : decode cL_ends 3 = .ok (.invokevirtual 33, 3) := by decide +kernel
theorem dL_ends_6 : decode cL_ends 6 = .ok (.goto 9, 3) := by decide +kernel
theorem dL_ends_9 : decode cL_ends 9 = .ok (.astore_n 3, 1) := by decide +kernel
theorem dL_ends_10 : decode cL_ends 10 = .ok (.iconst 1, 1) := by decide +kernel
theorem dL_ends_11 : decode cL_ends 11 = .ok (.ireturn, 1) := by decide +kernel
theorem dL_ends_12 : decode cL_ends 12 = .ok (.astore_n 3, 1) := by decide +kernel
theorem dL_ends_13 : decode cL_ends 13 = .ok (.iconst 2, 1) := by decide +kernel
theorem dL_ends_14 : decode cL_ends 14 = .ok (.ireturn, 1) := by decide +kernel
theorem dL_ends_15 : decode cL_ends 15 = .ok (.iconst 0, 1) := by decide +kernel
theorem dL_ends_16 : decode cL_ends 16 = .ok (.ireturn, 1) := by decide +kernel
theorem dL_kill_0 : decode cL_kill 0 = .ok (.aload_n 2, 1) := by decide +kernel
theorem dL_kill_1 : decode cL_kill 1 = .ok (.iconst 0, 1) := by decide +kernel
theorem dL_kill_2 : decode cL_kill 2 = .ok (.aload_n 0, 1) := by decide +kernel
theorem dL_kill_3 : decode cL_kill 3 = .ok (.iload_n 1, 1) := by decide +kernel
theorem dL_kill_4 : decode cL_kill 4 = .ok (.invokevirtual 37, 3) := by decide +kernel
theorem dL_kill_7 : decode cL_kill 7 = .ok (.i2l, 1) := by decide +kernel
theorem dL_kill_8 : decode cL_kill 8 = .ok (.lastore, 1) := by decide +kernel
theorem dL_kill_9 : decode cL_kill 9 = .ok (.goto 9, 3) := by decide +kernel
theorem dL_kill_12 : decode cL_kill 12 = .ok (.astore_n 3, 1) := by decide +kernel
theorem dL_kill_13 : decode cL_kill 13 = .ok (.iconst 1, 1) := by decide +kernel
theorem dL_kill_14 : decode cL_kill 14 = .ok (.ireturn, 1) := by decide +kernel
theorem dL_kill_15 : decode cL_kill 15 = .ok (.astore_n 3, 1) := by decide +kernel
theorem dL_kill_16 : decode cL_kill 16 = .ok (.iconst 2, 1) := by decide +kernel
theorem dL_kill_17 : decode cL_kill 17 = .ok (.ireturn, 1) := by decide +kernel
theorem dL_kill_18 : decode cL_kill 18 = .ok (.iconst 0, 1) := by decide +kernel
theorem dL_kill_19 : decode cL_kill 19 = .ok (.ireturn, 1) := by decide +kernel
theorem dL_stop_0 : decode cL_stop 0 = .ok (.aload_n 0, 1) := by decide +kernel
theorem dL_stop_1 : decode cL_stop 1 = .ok (.iload_n 1, 1) := by decide +kernel
theorem dL_stop_2 : decode cL_stop 2 = .ok (.invokevirtual 41, 3) := by decide +kernel
theorem dL_stop_5 : decode cL_stop 5 = .ok (.goto 9, 3) := by decide +kernel
theorem dL_stop_8 : decode cL_stop 8 = .ok (.astore_n 2, 1) := by decide +kernel
theorem dL_stop_9 : decode cL_stop 9 = .ok (.iconst 1, 1) := by decide +kernel
theorem dL_stop_10 : decode cL_stop 10 = .ok (.ireturn, 1) := by decide +kernel
theorem dL_stop_11 : decode cL_stop 11 = .ok (.astore_n 2, 1) := by decide +kernel
theorem dL_stop_12 : decode cL_stop 12 = .ok (.iconst 2, 1) := by decide +kernel
theorem dL_stop_13 : decode cL_stop 13 = .ok (.ireturn, 1) := by decide +kernel
theorem dL_stop_14 : decode cL_stop 14 = .ok (.iconst 0, 1) := by decide +kernel
theorem dL_stop_15 : decode cL_stop 15 = .ok (.ireturn, 1) := by decide +kernel
theorem dL_again_0 : decode cL_again 0 = .ok (.aload_n 2, 1) := by decide +kernel
theorem dL_again_1 : decode cL_again 1 = .ok (.iconst 0, 1) := by decide +kernel
theorem dL_again_2 : decode cL_again 2 = .ok (.aload_n 0, 1) := by decide +kernel
theorem dL_again_3 : decode cL_again 3 = .ok (.iload_n 1, 1) := by decide +kernel
theorem dL_again_4 : decode cL_again 4 = .ok (.invokevirtual 45, 3) := by decide +kernel
theorem dL_again_7 : decode cL_again 7 = .ok (.ifCond .eq 7, 3) := by decide +kernel
theorem dL_again_10 : decode cL_again 10 = .ok (.lconst 1, 1) := by decide +kernel
theorem dL_again_11 : decode cL_again 11 = .ok (.goto 4, 3) := by decide +kernel
theorem dL_again_14 : decode cL_again 14 = .ok (.lconst 0, 1) := by decide +kernel
theorem dL_again_15 : decode cL_again 15 = .ok (.lastore, 1) := by decide +kernel
theorem dL_again_16 : decode cL_again 16 = .ok (.goto 9, 3) := by decide +kernel
theorem dL_again_19 : decode cL_again 19 = .ok (.astore_n 3, 1) := by decide +kernel
theorem dL_again_20 : decode cL_again 20 = .ok (.iconst 1, 1) := by decide +kernel
theorem dL_again_21 : decode cL_again 21 = .ok (.ireturn, 1) := by decide +kernel
theorem dL_again_22 : decode cL_again 22 = .ok (.astore_n 3, 1) := by decide +kernel
theorem dL_again_23 : decode cL_again 23 = .ok (.iconst 2, 1) := by decide +kernel
theorem dL_again_24 : decode cL_again 24 = .ok (.ireturn, 1) := by decide +kernel
theorem dL_again_25 : decode cL_again 25 = .ok (.iconst 0, 1) := by decide +kernel
theorem dL_again_26 : decode cL_again 26 = .ok (.ireturn, 1) := by decide +kernel
theorem dL_remove_0 : decode cL_remove 0 = .ok (.aload_n 2, 1) := by decide +kernel
theorem dL_remove_1 : decode cL_remove 1 = .ok (.iconst 0, 1) := by decide +kernel
theorem dL_remove_2 : decode cL_remove 2 = .ok (.aload_n 0, 1) := by decide +kernel
theorem dL_remove_3 : decode cL_remove 3 = .ok (.iload_n 1, 1) := by decide +kernel
theorem dL_remove_4 : decode cL_remove 4 = .ok (.invokevirtual 49, 3) := by decide +kernel
theorem dL_remove_7 : decode cL_remove 7 = .ok (.i2l, 1) := by decide +kernel
theorem dL_remove_8 : decode cL_remove 8 = .ok (.lastore, 1) := by decide +kernel
theorem dL_remove_9 : decode cL_remove 9 = .ok (.goto 9, 3) := by decide +kernel
theorem dL_remove_12 : decode cL_remove 12 = .ok (.astore_n 3, 1) := by decide +kernel
theorem dL_remove_13 : decode cL_remove 13 = .ok (.iconst 1, 1) := by decide +kernel
theorem dL_remove_14 : decode cL_remove 14 = .ok (.ireturn, 1) := by decide +kernel
theorem dL_remove_15 : decode cL_remove 15 = .ok (.astore_n 3, 1) := by decide +kernel
theorem dL_remove_16 : decode cL_remove 16 = .ok (.iconst 2, 1) := by decide +kernel
theorem dL_remove_17 : decode cL_remove 17 = .ok (.ireturn, 1) := by decide +kernel
theorem dL_remove_18 : decode cL_remove 18 = .ok (.iconst 0, 1) := by decide +kernel
theorem dL_remove_19 : decode cL_remove 19 = .ok (.ireturn, 1) := by decide +kernel
theorem dL_pass_0 : decode cL_pass 0 = .ok (.aload_n 2, 1) := by decide +kernel
theorem dL_pass_1 : decode cL_pass 1 = .ok (.iconst 0, 1) := by decide +kernel
theorem dL_pass_2 : decode cL_pass 2 = .ok (.aload_n 0, 1) := by decide +kernel
theorem dL_pass_3 : decode cL_pass 3 = .ok (.iload_n 1, 1) := by decide +kernel
theorem dL_pass_4 : decode cL_pass 4 = .ok (.invokevirtual 52, 3) := by decide +kernel
theorem dL_pass_7 : decode cL_pass 7 = .ok (.i2l, 1) := by decide +kernel
theorem dL_pass_8 : decode cL_pass 8 = .ok (.lastore, 1) := by decide +kernel
theorem dL_pass_9 : decode cL_pass 9 = .ok (.goto 6, 3) := by decide +kernel
theorem dL_pass_12 : decode cL_pass 12 = .ok (.astore_n 3, 1) := by decide +kernel
theorem dL_pass_13 : decode cL_pass 13 = .ok (.iconst 1, 1) := by decide +kernel
theorem dL_pass_14 : decode cL_pass 14 = .ok (.ireturn, 1) := by decide +kernel
theorem dL_pass_15 : decode cL_pass 15 = .ok (.iconst 0, 1) := by decide +kernel
theorem dL_pass_16 : decode cL_pass 16 = .ok (.ireturn, 1) := by decide +kernel
theorem dL_state_0 : decode cL_state 0 = .ok (.aload_n 2, 1) := by decide +kernel
theorem dL_state_1 : decode cL_state 1 = .ok (.iconst 0, 1) := by decide +kernel
theorem dL_state_2 : decode cL_state 2 = .ok (.aload_n 0, 1) := by decide +kernel
theorem dL_state_3 : decode cL_state 3 = .ok (.iload_n 1, 1) := by decide +kernel
theorem dL_state_4 : decode cL_state 4 = .ok (.invokevirtual 55, 3) := by decide +kernel
theorem dL_state_7 : decode cL_state 7 = .ok (.i2l, 1) := by decide +kernel
theorem dL_state_8 : decode cL_state 8 = .ok (.lastore, 1) := by decide +kernel
theorem dL_state_9 : decode cL_state 9 = .ok (.goto 6, 3) := by decide +kernel
theorem dL_state_12 : decode cL_state 12 = .ok (.astore_n 3, 1) := by decide +kernel
theorem dL_state_13 : decode cL_state 13 = .ok (.iconst 1, 1) := by decide +kernel
theorem dL_state_14 : decode cL_state 14 = .ok (.ireturn, 1) := by decide +kernel
theorem dL_state_15 : decode cL_state 15 = .ok (.iconst 0, 1) := by decide +kernel
theorem dL_state_16 : decode cL_state 16 = .ok (.ireturn, 1) := by decide +kernel
theorem dL_about_0 : decode cL_about 0 = .ok (.aload_n 3, 1) := by decide +kernel
theorem dL_about_1 : decode cL_about 1 = .ok (.iconst 0, 1) := by decide +kernel
theorem dL_about_2 : decode cL_about 2 = .ok (.aload_n 0, 1) := by decide +kernel
theorem dL_about_3 : decode cL_about 3 = .ok (.iload_n 1, 1) := by decide +kernel
theorem dL_about_4 : decode cL_about 4 = .ok (.iload_n 2, 1) := by decide +kernel
theorem dL_about_5 : decode cL_about 5 = .ok (.invokevirtual 58, 3) := by decide +kernel
theorem dL_about_8 : decode cL_about 8 = .ok (.i2l, 1) := by decide +kernel
theorem dL_about_9 : decode cL_about 9 = .ok (.lastore, 1) := by decide +kernel
theorem dL_about_10 : decode cL_about 10 = .ok (.goto 7, 3) := by decide +kernel
theorem dL_about_13 : decode cL_about 13 = .ok (.astore 4, 2) := by decide +kernel
theorem dL_about_15 : decode cL_about 15 = .ok (.iconst 1, 1) := by decide +kernel
theorem dL_about_16 : decode cL_about 16 = .ok (.ireturn, 1) := by decide +kernel
theorem dL_about_17 : decode cL_about 17 = .ok (.iconst 0, 1) := by decide +kernel
theorem dL_about_18 : decode cL_about 18 = .ok (.ireturn, 1) := by decide +kernel
theorem dL_child_0 : decode cL_child 0 = .ok (.aload_n 3, 1) := by decide +kernel
theorem dL_child_1 : decode cL_child 1 = .ok (.iconst 0, 1) := by decide +kernel
theorem dL_child_2 : decode cL_child 2 = .ok (.aload_n 0, 1) := by decide +kernel
theorem dL_child_3 : decode cL_child 3 = .ok (.iload_n 1, 1) := by decide +kernel
theorem dL_child_4 : decode cL_child 4 = .ok (.iload_n 2, 1) := by decide +kernel
theorem dL_child_5 : decode cL_child 5 = .ok (.invokevirtual 61, 3) := by decide +kernel
theorem dL_child_8 : decode cL_child 8 = .ok (.i2l, 1) := by decide +kernel
theorem dL_child_9 : decode cL_child 9 = .ok (.lastore, 1) := by decide +kernel
theorem dL_child_10 : decode cL_child 10 = .ok (.goto 7, 3) := by decide +kernel
theorem dL_child_13 : decode cL_child 13 = .ok (.astore 4, 2) := by decide +kernel
theorem dL_child_15 : decode cL_child 15 = .ok (.iconst 1, 1) := by decide +kernel
theorem dL_child_16 : decode cL_child 16 = .ok (.ireturn, 1) := by decide +kernel
theorem dL_child_17 : decode cL_child 17 = .ok (.iconst 0, 1) := by decide +kernel
theorem dL_child_18 : decode cL_child 18 = .ok (.ireturn, 1) := by decide +kernel
theorem dL_event_0 : decode cL_event 0 = .ok (.aload_n 3, 1) := by decide +kernel
theorem dL_event_1 : decode cL_event 1 = .ok (.iconst 0, 1) := by decide +kernel
theorem dL_event_2 : decode cL_event 2 = .ok (.aload_n 0, 1) := by decide +kernel
theorem dL_event_3 : decode cL_event 3 = .ok (.iload_n 1, 1) := by decide +kernel
theorem dL_event_4 : decode cL_event 4 = .ok (.iload_n 2, 1) := by decide +kernel
theorem dL_event_5 : decode cL_event 5 = .ok (.invokevirtual 64, 3) := by decide +kernel
theorem dL_event_8 : decode cL_event 8 = .ok (.i2l, 1) := by decide +kernel
theorem dL_event_9 : decode cL_event 9 = .ok (.lastore, 1) := by decide +kernel
theorem dL_event_10 : decode cL_event 10 = .ok (.goto 7, 3) := by decide +kernel
theorem dL_event_13 : decode cL_event 13 = .ok (.astore 4, 2) := by decide +kernel
theorem dL_event_15 : decode cL_event 15 = .ok (.iconst 1, 1) := by decide +kernel
theorem dL_event_16 : decode cL_event 16 = .ok (.ireturn, 1) := by decide +kernel
theorem dL_event_17 : decode cL_event 17 = .ok (.iconst 0, 1) := by decide +kernel
theorem dL_event_18 : decode cL_event 18 = .ok (.ireturn, 1) := by decide +kernel
theorem dL_total_0 : decode cL_total 0 = .ok (.aload_n 2, 1) := by decide +kernel
theorem dL_total_1 : decode cL_total 1 = .ok (.iconst 0, 1) := by decide +kernel
theorem dL_total_2 : decode cL_total 2 = .ok (.aload_n 0, 1) := by decide +kernel
theorem dL_total_3 : decode cL_total 3 = .ok (.iload_n 1, 1) := by decide +kernel
theorem dL_total_4 : decode cL_total 4 = .ok (.invokevirtual 67, 3) := by decide +kernel
theorem dL_total_7 : decode cL_total 7 = .ok (.i2l, 1) := by decide +kernel
theorem dL_total_8 : decode cL_total 8 = .ok (.lastore, 1) := by decide +kernel
theorem dL_total_9 : decode cL_total 9 = .ok (.goto 6, 3) := by decide +kernel
theorem dL_total_12 : decode cL_total 12 = .ok (.astore_n 3, 1) := by decide +kernel
theorem dL_total_13 : decode cL_total 13 = .ok (.iconst 1, 1) := by decide +kernel
theorem dL_total_14 : decode cL_total 14 = .ok (.ireturn, 1) := by decide +kernel
theorem dL_total_15 : decode cL_total 15 = .ok (.iconst 0, 1) := by decide +kernel
theorem dL_total_16 : decode cL_total 16 = .ok (.ireturn, 1) := by decide +kernel
theorem dL_law_0 : decode cL_law 0 = .ok (.new 8, 3) := by decide +kernel
theorem dL_law_3 : decode cL_law 3 = .ok (.dup, 1) := by decide +kernel
theorem dL_law_4 : decode cL_law 4 = .ok (.invokespecial 70, 3) := by decide +kernel
theorem dL_law_7 : decode cL_law 7 = .ok (.astore_n 1, 1) := by decide +kernel
theorem dL_law_8 : decode cL_law 8 = .ok (.new 71, 3) := by decide +kernel
theorem dL_law_11 : decode cL_law 11 = .ok (.dup, 1) := by decide +kernel
theorem dL_law_12 : decode cL_law 12 = .ok (.invokespecial 73, 3) := by decide +kernel
theorem dL_law_15 : decode cL_law 15 = .ok (.astore_n 2, 1) := by decide +kernel
theorem dL_law_16 : decode cL_law 16 = .ok (.iconst 1, 1) := by decide +kernel
theorem dL_law_17 : decode cL_law 17 = .ok (.newarray .long, 2) := by decide +kernel
theorem dL_law_19 : decode cL_law 19 = .ok (.astore_n 3, 1) := by decide +kernel
theorem dL_law_20 : decode cL_law 20 = .ok (.iconst 0, 1) := by decide +kernel
theorem dL_law_21 : decode cL_law 21 = .ok (.istore 4, 2) := by decide +kernel
theorem dL_law_23 : decode cL_law 23 = .ok (.iload 4, 2) := by decide +kernel
theorem dL_law_25 : decode cL_law 25 = .ok (.aload_n 0, 1) := by decide +kernel
theorem dL_law_26 : decode cL_law 26 = .ok (.arraylength, 1) := by decide +kernel
theorem dL_law_27 : decode cL_law 27 = .ok (.bipush 7, 2) := by decide +kernel
theorem dL_law_29 : decode cL_law 29 = .ok (.isub, 1) := by decide +kernel
theorem dL_law_30 : decode cL_law 30 = .ok (.if_icmp .gt 728, 3) := by decide +kernel
theorem dL_law_33 : decode cL_law 33 = .ok (.aload_n 0, 1) := by decide +kernel
theorem dL_law_34 : decode cL_law 34 = .ok (.iload 4, 2) := by decide +kernel
theorem dL_law_36 : decode cL_law 36 = .ok (.iaload, 1) := by decide +kernel
theorem dL_law_37 : decode cL_law 37 = .ok (.bipush 15, 2) := by decide +kernel
theorem dL_law_39 : decode cL_law 39 = .ok (.iand, 1) := by decide +kernel
theorem dL_law_40 : decode cL_law 40 = .ok (.tableswitch 712 0 15 #[80, 140, 216, 306, 346, 362, 399, 427, 452, 480, 508, 536, 564, 604, 644, 684], 80) := by decide +kernel
theorem dL_law_120 : decode cL_law 120 = .ok (.aload_n 1, 1) := by decide +kernel
theorem dL_law_121 : decode cL_law 121 = .ok (.aload_n 0, 1) := by decide +kernel
theorem dL_law_122 : decode cL_law 122 = .ok (.iload 4, 2) := by decide +kernel
theorem dL_law_124 : decode cL_law 124 = .ok (.iconst 1, 1) := by decide +kernel
theorem dL_law_125 : decode cL_law 125 = .ok (.iadd, 1) := by decide +kernel
theorem dL_law_126 : decode cL_law 126 = .ok (.iaload, 1) := by decide +kernel
theorem dL_law_127 : decode cL_law 127 = .ok (.aload_n 0, 1) := by decide +kernel
theorem dL_law_128 : decode cL_law 128 = .ok (.iload 4, 2) := by decide +kernel
theorem dL_law_130 : decode cL_law 130 = .ok (.iconst 2, 1) := by decide +kernel
theorem dL_law_131 : decode cL_law 131 = .ok (.iadd, 1) := by decide +kernel
theorem dL_law_132 : decode cL_law 132 = .ok (.iaload, 1) := by decide +kernel
theorem dL_law_133 : decode cL_law 133 = .ok (.aload_n 0, 1) := by decide +kernel
theorem dL_law_134 : decode cL_law 134 = .ok (.iload 4, 2) := by decide +kernel
theorem dL_law_136 : decode cL_law 136 = .ok (.iconst 3, 1) := by decide +kernel
theorem dL_law_137 : decode cL_law 137 = .ok (.iadd, 1) := by decide +kernel
theorem dL_law_138 : decode cL_law 138 = .ok (.iaload, 1) := by decide +kernel
theorem dL_law_139 : decode cL_law 139 = .ok (.invokestatic 74, 3) := by decide +kernel
theorem dL_law_142 : decode cL_law 142 = .ok (.istore 5, 2) := by decide +kernel
theorem dL_law_144 : decode cL_law 144 = .ok (.aload_n 2, 1) := by decide +kernel
theorem dL_law_145 : decode cL_law 145 = .ok (.aload_n 0, 1) := by decide +kernel
theorem dL_law_146 : decode cL_law 146 = .ok (.iload 4, 2) := by decide +kernel
theorem dL_law_148 : decode cL_law 148 = .ok (.iconst 1, 1) := by decide +kernel
theorem dL_law_149 : decode cL_law 149 = .ok (.iadd, 1) := by decide +kernel
theorem dL_law_150 : decode cL_law 150 = .ok (.iaload, 1) := by decide +kernel
theorem dL_law_151 : decode cL_law 151 = .ok (.aload_n 0, 1) := by decide +kernel
theorem dL_law_152 : decode cL_law 152 = .ok (.iload 4, 2) := by decide +kernel
theorem dL_law_154 : decode cL_law 154 = .ok (.iconst 2, 1) := by decide +kernel
theorem dL_law_155 : decode cL_law 155 = .ok (.iadd, 1) := by decide +kernel
theorem dL_law_156 : decode cL_law 156 = .ok (.iaload, 1) := by decide +kernel
theorem dL_law_157 : decode cL_law 157 = .ok (.aload_n 0, 1) := by decide +kernel
theorem dL_law_158 : decode cL_law 158 = .ok (.iload 4, 2) := by decide +kernel
theorem dL_law_160 : decode cL_law 160 = .ok (.iconst 3, 1) := by decide +kernel
theorem dL_law_161 : decode cL_law 161 = .ok (.iadd, 1) := by decide +kernel
theorem dL_law_162 : decode cL_law 162 = .ok (.iaload, 1) := by decide +kernel
theorem dL_law_163 : decode cL_law 163 = .ok (.invokevirtual 79, 3) := by decide +kernel
theorem dL_law_166 : decode cL_law 166 = .ok (.aload_n 2, 1) := by decide +kernel
theorem dL_law_167 : decode cL_law 167 = .ok (.invokevirtual 80, 3) := by decide +kernel
theorem dL_law_170 : decode cL_law 170 = .ok (.iload 5, 2) := by decide +kernel
theorem dL_law_172 : decode cL_law 172 = .ok (.if_icmp .eq 5, 3) := by decide +kernel
theorem dL_law_175 : decode cL_law 175 = .ok (.iconst 0, 1) := by decide +kernel
theorem dL_law_176 : decode cL_law 176 = .ok (.ireturn, 1) := by decide +kernel
theorem dL_law_177 : decode cL_law 177 = .ok (.goto 575, 3) := by decide +kernel
theorem dL_law_180 : decode cL_law 180 = .ok (.aload_n 1, 1) := by decide +kernel
theorem dL_law_181 : decode cL_law 181 = .ok (.aload_n 0, 1) := by decide +kernel
theorem dL_law_182 : decode cL_law 182 = .ok (.iload 4, 2) := by decide +kernel
theorem dL_law_184 : decode cL_law 184 = .ok (.iconst 1, 1) := by decide +kernel
theorem dL_law_185 : decode cL_law 185 = .ok (.iadd, 1) := by decide +kernel
theorem dL_law_186 : decode cL_law 186 = .ok (.iaload, 1) := by decide +kernel
theorem dL_law_187 : decode cL_law 187 = .ok (.aload_n 0, 1) := by decide +kernel
theorem dL_law_188 : decode cL_law 188 = .ok (.iload 4, 2) := by decide +kernel
theorem dL_law_190 : decode cL_law 190 = .ok (.iconst 2, 1) := by decide +kernel
theorem dL_law_191 : decode cL_law 191 = .ok (.iadd, 1) := by decide +kernel
theorem dL_law_192 : decode cL_law 192 = .ok (.iaload, 1) := by decide +kernel
theorem dL_law_193 : decode cL_law 193 = .ok (.aload_n 0, 1) := by decide +kernel
theorem dL_law_194 : decode cL_law 194 = .ok (.iload 4, 2) := by decide +kernel
theorem dL_law_196 : decode cL_law 196 = .ok (.iconst 3, 1) := by decide +kernel
theorem dL_law_197 : decode cL_law 197 = .ok (.iadd, 1) := by decide +kernel
theorem dL_law_198 : decode cL_law 198 = .ok (.iaload, 1) := by decide +kernel
theorem dL_law_199 : decode cL_law 199 = .ok (.aload_n 0, 1) := by decide +kernel
theorem dL_law_200 : decode cL_law 200 = .ok (.iload 4, 2) := by decide +kernel
theorem dL_law_202 : decode cL_law 202 = .ok (.iconst 4, 1) := by decide +kernel
theorem dL_law_203 : decode cL_law 203 = .ok (.iadd, 1) := by decide +kernel
theorem dL_law_204 : decode cL_law 204 = .ok (.iaload, 1) := by decide +kernel
theorem dL_law_205 : decode cL_law 205 = .ok (.aload_n 0, 1) := by decide +kernel
theorem dL_law_206 : decode cL_law 206 = .ok (.iload 4, 2) := by decide +kernel
theorem dL_law_208 : decode cL_law 208 = .ok (.iconst 5, 1) := by decide +kernel
theorem dL_law_209 : decode cL_law 209 = .ok (.iadd, 1) := by decide +kernel
theorem dL_law_210 : decode cL_law 210 = .ok (.iaload, 1) := by decide +kernel
theorem dL_law_211 : decode cL_law 211 = .ok (.aload_n 3, 1) := by decide +kernel
theorem dL_law_212 : decode cL_law 212 = .ok (.invokestatic 84, 3) := by decide +kernel
theorem dL_law_215 : decode cL_law 215 = .ok (.istore 5, 2) := by decide +kernel
theorem dL_law_217 : decode cL_law 217 = .ok (.aload_n 2, 1) := by decide +kernel
theorem dL_law_218 : decode cL_law 218 = .ok (.aload_n 0, 1) := by decide +kernel
theorem dL_law_219 : decode cL_law 219 = .ok (.iload 4, 2) := by decide +kernel
theorem dL_law_221 : decode cL_law 221 = .ok (.iconst 1, 1) := by decide +kernel
theorem dL_law_222 : decode cL_law 222 = .ok (.iadd, 1) := by decide +kernel
theorem dL_law_223 : decode cL_law 223 = .ok (.iaload, 1) := by decide +kernel
theorem dL_law_224 : decode cL_law 224 = .ok (.aload_n 0, 1) := by decide +kernel
theorem dL_law_225 : decode cL_law 225 = .ok (.iload 4, 2) := by decide +kernel
theorem dL_law_227 : decode cL_law 227 = .ok (.iconst 2, 1) := by decide +kernel
theorem dL_law_228 : decode cL_law 228 = .ok (.iadd, 1) := by decide +kernel
theorem dL_law_229 : decode cL_law 229 = .ok (.iaload, 1) := by decide +kernel
theorem dL_law_230 : decode cL_law 230 = .ok (.aload_n 0, 1) := by decide +kernel
theorem dL_law_231 : decode cL_law 231 = .ok (.iload 4, 2) := by decide +kernel
theorem dL_law_233 : decode cL_law 233 = .ok (.iconst 3, 1) := by decide +kernel
theorem dL_law_234 : decode cL_law 234 = .ok (.iadd, 1) := by decide +kernel
theorem dL_law_235 : decode cL_law 235 = .ok (.iaload, 1) := by decide +kernel
theorem dL_law_236 : decode cL_law 236 = .ok (.aload_n 0, 1) := by decide +kernel
theorem dL_law_237 : decode cL_law 237 = .ok (.iload 4, 2) := by decide +kernel
theorem dL_law_239 : decode cL_law 239 = .ok (.iconst 4, 1) := by decide +kernel
theorem dL_law_240 : decode cL_law 240 = .ok (.iadd, 1) := by decide +kernel
theorem dL_law_241 : decode cL_law 241 = .ok (.iaload, 1) := by decide +kernel
theorem dL_law_242 : decode cL_law 242 = .ok (.aload_n 0, 1) := by decide +kernel
theorem dL_law_243 : decode cL_law 243 = .ok (.iload 4, 2) := by decide +kernel
theorem dL_law_245 : decode cL_law 245 = .ok (.iconst 5, 1) := by decide +kernel
theorem dL_law_246 : decode cL_law 246 = .ok (.iadd, 1) := by decide +kernel
theorem dL_law_247 : decode cL_law 247 = .ok (.iaload, 1) := by decide +kernel
theorem dL_law_248 : decode cL_law 248 = .ok (.invokevirtual 87, 3) := by decide +kernel
theorem dL_law_251 : decode cL_law 251 = .ok (.istore 6, 2) := by decide +kernel
theorem dL_law_253 : decode cL_law 253 = .ok (.goto 499, 3) := by decide +kernel
theorem dL_law_256 : decode cL_law 256 = .ok (.aload_n 1, 1) := by decide +kernel
theorem dL_law_257 : decode cL_law 257 = .ok (.aload_n 0, 1) := by decide +kernel
theorem dL_law_258 : decode cL_law 258 = .ok (.iload 4, 2) := by decide +kernel
theorem dL_law_260 : decode cL_law 260 = .ok (.iconst 1, 1) := by decide +kernel
theorem dL_law_261 : decode cL_law 261 = .ok (.iadd, 1) := by decide +kernel
theorem dL_law_262 : decode cL_law 262 = .ok (.iaload, 1) := by decide +kernel
theorem dL_law_263 : decode cL_law 263 = .ok (.aload_n 0, 1) := by decide +kernel
theorem dL_law_264 : decode cL_law 264 = .ok (.iload 4, 2) := by decide +kernel
theorem dL_law_266 : decode cL_law 266 = .ok (.iconst 2, 1) := by decide +kernel
theorem dL_law_267 : decode cL_law 267 = .ok (.iadd, 1) := by decide +kernel
theorem dL_law_268 : decode cL_law 268 = .ok (.iaload, 1) := by decide +kernel
theorem dL_law_269 : decode cL_law 269 = .ok (.aload_n 0, 1) := by decide +kernel
theorem dL_law_270 : decode cL_law 270 = .ok (.iload 4, 2) := by decide +kernel
theorem dL_law_272 : decode cL_law 272 = .ok (.iconst 3, 1) := by decide +kernel
theorem dL_law_273 : decode cL_law 273 = .ok (.iadd, 1) := by decide +kernel
theorem dL_law_274 : decode cL_law 274 = .ok (.iaload, 1) := by decide +kernel
theorem dL_law_275 : decode cL_law 275 = .ok (.aload_n 0, 1) := by decide +kernel
theorem dL_law_276 : decode cL_law 276 = .ok (.iload 4, 2) := by decide +kernel
theorem dL_law_278 : decode cL_law 278 = .ok (.iconst 4, 1) := by decide +kernel
theorem dL_law_279 : decode cL_law 279 = .ok (.iadd, 1) := by decide +kernel
theorem dL_law_280 : decode cL_law 280 = .ok (.iaload, 1) := by decide +kernel
theorem dL_law_281 : decode cL_law 281 = .ok (.aload_n 0, 1) := by decide +kernel
theorem dL_law_282 : decode cL_law 282 = .ok (.iload 4, 2) := by decide +kernel
theorem dL_law_284 : decode cL_law 284 = .ok (.iconst 5, 1) := by decide +kernel
theorem dL_law_285 : decode cL_law 285 = .ok (.iadd, 1) := by decide +kernel
theorem dL_law_286 : decode cL_law 286 = .ok (.iaload, 1) := by decide +kernel
theorem dL_law_287 : decode cL_law 287 = .ok (.aload_n 0, 1) := by decide +kernel
theorem dL_law_288 : decode cL_law 288 = .ok (.iload 4, 2) := by decide +kernel
theorem dL_law_290 : decode cL_law 290 = .ok (.bipush 6, 2) := by decide +kernel
theorem dL_law_292 : decode cL_law 292 = .ok (.iadd, 1) := by decide +kernel
theorem dL_law_293 : decode cL_law 293 = .ok (.iaload, 1) := by decide +kernel
theorem dL_law_294 : decode cL_law 294 = .ok (.aload_n 3, 1) := by decide +kernel
theorem dL_law_295 : decode cL_law 295 = .ok (.invokestatic 88, 3) := by decide +kernel
theorem dL_law_298 : decode cL_law 298 = .ok (.istore 5, 2) := by decide +kernel
theorem dL_law_300 : decode cL_law 300 = .ok (.aload_n 2, 1) := by decide +kernel
theorem dL_law_301 : decode cL_law 301 = .ok (.aload_n 0, 1) := by decide +kernel
theorem dL_law_302 : decode cL_law 302 = .ok (.iload 4, 2) := by decide +kernel
theorem dL_law_304 : decode cL_law 304 = .ok (.iconst 1, 1) := by decide +kernel
theorem dL_law_305 : decode cL_law 305 = .ok (.iadd, 1) := by decide +kernel
theorem dL_law_306 : decode cL_law 306 = .ok (.iaload, 1) := by decide +kernel
theorem dL_law_307 : decode cL_law 307 = .ok (.aload_n 0, 1) := by decide +kernel
theorem dL_law_308 : decode cL_law 308 = .ok (.iload 4, 2) := by decide +kernel
theorem dL_law_310 : decode cL_law 310 = .ok (.iconst 2, 1) := by decide +kernel
theorem dL_law_311 : decode cL_law 311 = .ok (.iadd, 1) := by decide +kernel
theorem dL_law_312 : decode cL_law 312 = .ok (.iaload, 1) := by decide +kernel
theorem dL_law_313 : decode cL_law 313 = .ok (.aload_n 0, 1) := by decide +kernel
theorem dL_law_314 : decode cL_law 314 = .ok (.iload 4, 2) := by decide +kernel
theorem dL_law_316 : decode cL_law 316 = .ok (.iconst 3, 1) := by decide +kernel
theorem dL_law_317 : decode cL_law 317 = .ok (.iadd, 1) := by decide +kernel
theorem dL_law_318 : decode cL_law 318 = .ok (.iaload, 1) := by decide +kernel
theorem dL_law_319 : decode cL_law 319 = .ok (.aload_n 0, 1) := by decide +kernel
theorem dL_law_320 : decode cL_law 320 = .ok (.iload 4, 2) := by decide +kernel
theorem dL_law_322 : decode cL_law 322 = .ok (.iconst 4, 1) := by decide +kernel
theorem dL_law_323 : decode cL_law 323 = .ok (.iadd, 1) := by decide +kernel
theorem dL_law_324 : decode cL_law 324 = .ok (.iaload, 1) := by decide +kernel
theorem dL_law_325 : decode cL_law 325 = .ok (.aload_n 0, 1) := by decide +kernel
theorem dL_law_326 : decode cL_law 326 = .ok (.iload 4, 2) := by decide +kernel
theorem dL_law_328 : decode cL_law 328 = .ok (.iconst 5, 1) := by decide +kernel
theorem dL_law_329 : decode cL_law 329 = .ok (.iadd, 1) := by decide +kernel
theorem dL_law_330 : decode cL_law 330 = .ok (.iaload, 1) := by decide +kernel
theorem dL_law_331 : decode cL_law 331 = .ok (.aload_n 0, 1) := by decide +kernel
theorem dL_law_332 : decode cL_law 332 = .ok (.iload 4, 2) := by decide +kernel
theorem dL_law_334 : decode cL_law 334 = .ok (.bipush 6, 2) := by decide +kernel
theorem dL_law_336 : decode cL_law 336 = .ok (.iadd, 1) := by decide +kernel
theorem dL_law_337 : decode cL_law 337 = .ok (.iaload, 1) := by decide +kernel
theorem dL_law_338 : decode cL_law 338 = .ok (.invokevirtual 91, 3) := by decide +kernel
theorem dL_law_341 : decode cL_law 341 = .ok (.istore 6, 2) := by decide +kernel
theorem dL_law_343 : decode cL_law 343 = .ok (.goto 409, 3) := by decide +kernel
theorem dL_law_346 : decode cL_law 346 = .ok (.aload_n 1, 1) := by decide +kernel
theorem dL_law_347 : decode cL_law 347 = .ok (.aload_n 0, 1) := by decide +kernel
theorem dL_law_348 : decode cL_law 348 = .ok (.iload 4, 2) := by decide +kernel
theorem dL_law_350 : decode cL_law 350 = .ok (.iconst 1, 1) := by decide +kernel
theorem dL_law_351 : decode cL_law 351 = .ok (.iadd, 1) := by decide +kernel
theorem dL_law_352 : decode cL_law 352 = .ok (.iaload, 1) := by decide +kernel
theorem dL_law_353 : decode cL_law 353 = .ok (.aload_n 0, 1) := by decide +kernel
theorem dL_law_354 : decode cL_law 354 = .ok (.iload 4, 2) := by decide +kernel
theorem dL_law_356 : decode cL_law 356 = .ok (.iconst 2, 1) := by decide +kernel
theorem dL_law_357 : decode cL_law 357 = .ok (.iadd, 1) := by decide +kernel
theorem dL_law_358 : decode cL_law 358 = .ok (.iaload, 1) := by decide +kernel
theorem dL_law_359 : decode cL_law 359 = .ok (.aload_n 3, 1) := by decide +kernel
theorem dL_law_360 : decode cL_law 360 = .ok (.invokestatic 92, 3) := by decide +kernel
theorem dL_law_363 : decode cL_law 363 = .ok (.istore 5, 2) := by decide +kernel
theorem dL_law_365 : decode cL_law 365 = .ok (.aload_n 2, 1) := by decide +kernel
theorem dL_law_366 : decode cL_law 366 = .ok (.aload_n 0, 1) := by decide +kernel
theorem dL_law_367 : decode cL_law 367 = .ok (.iload 4, 2) := by decide +kernel
theorem dL_law_369 : decode cL_law 369 = .ok (.iconst 1, 1) := by decide +kernel
theorem dL_law_370 : decode cL_law 370 = .ok (.iadd, 1) := by decide +kernel
theorem dL_law_371 : decode cL_law 371 = .ok (.iaload, 1) := by decide +kernel
theorem dL_law_372 : decode cL_law 372 = .ok (.aload_n 0, 1) := by decide +kernel
theorem dL_law_373 : decode cL_law 373 = .ok (.iload 4, 2) := by decide +kernel
theorem dL_law_375 : decode cL_law 375 = .ok (.iconst 2, 1) := by decide +kernel
theorem dL_law_376 : decode cL_law 376 = .ok (.iadd, 1) := by decide +kernel
theorem dL_law_377 : decode cL_law 377 = .ok (.iaload, 1) := by decide +kernel
theorem dL_law_378 : decode cL_law 378 = .ok (.invokevirtual 95, 3) := by decide +kernel
theorem dL_law_381 : decode cL_law 381 = .ok (.istore 6, 2) := by decide +kernel
theorem dL_law_383 : decode cL_law 383 = .ok (.goto 369, 3) := by decide +kernel
theorem dL_law_386 : decode cL_law 386 = .ok (.aload_n 1, 1) := by decide +kernel
theorem dL_law_387 : decode cL_law 387 = .ok (.aload_n 3, 1) := by decide +kernel
theorem dL_law_388 : decode cL_law 388 = .ok (.invokestatic 96, 3) := by decide +kernel
theorem dL_law_391 : decode cL_law 391 = .ok (.istore 5, 2) := by decide +kernel
theorem dL_law_393 : decode cL_law 393 = .ok (.aload_n 2, 1) := by decide +kernel
theorem dL_law_394 : decode cL_law 394 = .ok (.invokevirtual 99, 3) := by decide +kernel
theorem dL_law_397 : decode cL_law 397 = .ok (.istore 6, 2) := by decide +kernel
theorem dL_law_399 : decode cL_law 399 = .ok (.goto 353, 3) := by decide +kernel
theorem dL_law_402 : decode cL_law 402 = .ok (.aload_n 1, 1) := by decide +kernel
theorem dL_law_403 : decode cL_law 403 = .ok (.aload_n 0, 1) := by decide +kernel
theorem dL_law_404 : decode cL_law 404 = .ok (.iload 4, 2) := by decide +kernel
theorem dL_law_406 : decode cL_law 406 = .ok (.iconst 1, 1) := by decide +kernel
theorem dL_law_407 : decode cL_law 407 = .ok (.iadd, 1) := by decide +kernel
theorem dL_law_408 : decode cL_law 408 = .ok (.iaload, 1) := by decide +kernel
theorem dL_law_409 : decode cL_law 409 = .ok (.aload_n 0, 1) := by decide +kernel
theorem dL_law_410 : decode cL_law 410 = .ok (.iload 4, 2) := by decide +kernel
theorem dL_law_412 : decode cL_law 412 = .ok (.iconst 2, 1) := by decide +kernel
theorem dL_law_413 : decode cL_law 413 = .ok (.iadd, 1) := by decide +kernel
theorem dL_law_414 : decode cL_law 414 = .ok (.iaload, 1) := by decide +kernel
theorem dL_law_415 : decode cL_law 415 = .ok (.invokestatic 100, 3) := by decide +kernel
theorem dL_law_418 : decode cL_law 418 = .ok (.istore 5, 2) := by decide +kernel
theorem dL_law_420 : decode cL_law 420 = .ok (.aload_n 2, 1) := by decide +kernel
theorem dL_law_421 : decode cL_law 421 = .ok (.aload_n 0, 1) := by decide +kernel
theorem dL_law_422 : decode cL_law 422 = .ok (.iload 4, 2) := by decide +kernel
theorem dL_law_424 : decode cL_law 424 = .ok (.iconst 1, 1) := by decide +kernel
theorem dL_law_425 : decode cL_law 425 = .ok (.iadd, 1) := by decide +kernel
theorem dL_law_426 : decode cL_law 426 = .ok (.iaload, 1) := by decide +kernel
theorem dL_law_427 : decode cL_law 427 = .ok (.aload_n 0, 1) := by decide +kernel
theorem dL_law_428 : decode cL_law 428 = .ok (.iload 4, 2) := by decide +kernel
theorem dL_law_430 : decode cL_law 430 = .ok (.iconst 2, 1) := by decide +kernel
theorem dL_law_431 : decode cL_law 431 = .ok (.iadd, 1) := by decide +kernel
theorem dL_law_432 : decode cL_law 432 = .ok (.iaload, 1) := by decide +kernel
theorem dL_law_433 : decode cL_law 433 = .ok (.invokevirtual 103, 3) := by decide +kernel
theorem dL_law_436 : decode cL_law 436 = .ok (.goto 316, 3) := by decide +kernel
theorem dL_law_439 : decode cL_law 439 = .ok (.aload_n 1, 1) := by decide +kernel
theorem dL_law_440 : decode cL_law 440 = .ok (.aload_n 0, 1) := by decide +kernel
theorem dL_law_441 : decode cL_law 441 = .ok (.iload 4, 2) := by decide +kernel
theorem dL_law_443 : decode cL_law 443 = .ok (.iconst 1, 1) := by decide +kernel
theorem dL_law_444 : decode cL_law 444 = .ok (.iadd, 1) := by decide +kernel
theorem dL_law_445 : decode cL_law 445 = .ok (.iaload, 1) := by decide +kernel
theorem dL_law_446 : decode cL_law 446 = .ok (.aload_n 3, 1) := by decide +kernel
theorem dL_law_447 : decode cL_law 447 = .ok (.invokestatic 104, 3) := by decide +kernel
theorem dL_law_450 : decode cL_law 450 = .ok (.istore 5, 2) := by decide +kernel
theorem dL_law_452 : decode cL_law 452 = .ok (.aload_n 2, 1) := by decide +kernel
theorem dL_law_453 : decode cL_law 453 = .ok (.aload_n 0, 1) := by decide +kernel
theorem dL_law_454 : decode cL_law 454 = .ok (.iload 4, 2) := by decide +kernel
theorem dL_law_456 : decode cL_law 456 = .ok (.iconst 1, 1) := by decide +kernel
theorem dL_law_457 : decode cL_law 457 = .ok (.iadd, 1) := by decide +kernel
theorem dL_law_458 : decode cL_law 458 = .ok (.iaload, 1) := by decide +kernel
theorem dL_law_459 : decode cL_law 459 = .ok (.invokevirtual 107, 3) := by decide +kernel
theorem dL_law_462 : decode cL_law 462 = .ok (.istore 6, 2) := by decide +kernel
theorem dL_law_464 : decode cL_law 464 = .ok (.goto 288, 3) := by decide +kernel
theorem dL_law_467 : decode cL_law 467 = .ok (.aload_n 1, 1) := by decide +kernel
theorem dL_law_468 : decode cL_law 468 = .ok (.aload_n 0, 1) := by decide +kernel
theorem dL_law_469 : decode cL_law 469 = .ok (.iload 4, 2) := by decide +kernel
theorem dL_law_471 : decode cL_law 471 = .ok (.iconst 1, 1) := by decide +kernel
theorem dL_law_472 : decode cL_law 472 = .ok (.iadd, 1) := by decide +kernel
theorem dL_law_473 : decode cL_law 473 = .ok (.iaload, 1) := by decide +kernel
theorem dL_law_474 : decode cL_law 474 = .ok (.invokestatic 108, 3) := by decide +kernel
theorem dL_law_477 : decode cL_law 477 = .ok (.istore 5, 2) := by decide +kernel
theorem dL_law_479 : decode cL_law 479 = .ok (.aload_n 2, 1) := by decide +kernel
theorem dL_law_480 : decode cL_law 480 = .ok (.aload_n 0, 1) := by decide +kernel
theorem dL_law_481 : decode cL_law 481 = .ok (.iload 4, 2) := by decide +kernel
theorem dL_law_483 : decode cL_law 483 = .ok (.iconst 1, 1) := by decide +kernel
theorem dL_law_484 : decode cL_law 484 = .ok (.iadd, 1) := by decide +kernel
theorem dL_law_485 : decode cL_law 485 = .ok (.iaload, 1) := by decide +kernel
theorem dL_law_486 : decode cL_law 486 = .ok (.invokevirtual 111, 3) := by decide +kernel
theorem dL_law_489 : decode cL_law 489 = .ok (.goto 263, 3) := by decide +kernel
theorem dL_law_492 : decode cL_law 492 = .ok (.aload_n 1, 1) := by decide +kernel
theorem dL_law_493 : decode cL_law 493 = .ok (.aload_n 0, 1) := by decide +kernel
theorem dL_law_494 : decode cL_law 494 = .ok (.iload 4, 2) := by decide +kernel
theorem dL_law_496 : decode cL_law 496 = .ok (.iconst 1, 1) := by decide +kernel
theorem dL_law_497 : decode cL_law 497 = .ok (.iadd, 1) := by decide +kernel
theorem dL_law_498 : decode cL_law 498 = .ok (.iaload, 1) := by decide +kernel
theorem dL_law_499 : decode cL_law 499 = .ok (.aload_n 3, 1) := by decide +kernel
theorem dL_law_500 : decode cL_law 500 = .ok (.invokestatic 112, 3) := by decide +kernel
theorem dL_law_503 : decode cL_law 503 = .ok (.istore 5, 2) := by decide +kernel
theorem dL_law_505 : decode cL_law 505 = .ok (.aload_n 2, 1) := by decide +kernel
theorem dL_law_506 : decode cL_law 506 = .ok (.aload_n 0, 1) := by decide +kernel
theorem dL_law_507 : decode cL_law 507 = .ok (.iload 4, 2) := by decide +kernel
theorem dL_law_509 : decode cL_law 509 = .ok (.iconst 1, 1) := by decide +kernel
theorem dL_law_510 : decode cL_law 510 = .ok (.iadd, 1) := by decide +kernel
theorem dL_law_511 : decode cL_law 511 = .ok (.iaload, 1) := by decide +kernel
theorem dL_law_512 : decode cL_law 512 = .ok (.invokevirtual 114, 3) := by decide +kernel
theorem dL_law_515 : decode cL_law 515 = .ok (.istore 6, 2) := by decide +kernel
theorem dL_law_517 : decode cL_law 517 = .ok (.goto 235, 3) := by decide +kernel
theorem dL_law_520 : decode cL_law 520 = .ok (.aload_n 1, 1) := by decide +kernel
theorem dL_law_521 : decode cL_law 521 = .ok (.aload_n 0, 1) := by decide +kernel
theorem dL_law_522 : decode cL_law 522 = .ok (.iload 4, 2) := by decide +kernel
theorem dL_law_524 : decode cL_law 524 = .ok (.iconst 1, 1) := by decide +kernel
theorem dL_law_525 : decode cL_law 525 = .ok (.iadd, 1) := by decide +kernel
theorem dL_law_526 : decode cL_law 526 = .ok (.iaload, 1) := by decide +kernel
theorem dL_law_527 : decode cL_law 527 = .ok (.aload_n 3, 1) := by decide +kernel
theorem dL_law_528 : decode cL_law 528 = .ok (.invokestatic 115, 3) := by decide +kernel
theorem dL_law_531 : decode cL_law 531 = .ok (.istore 5, 2) := by decide +kernel
theorem dL_law_533 : decode cL_law 533 = .ok (.aload_n 2, 1) := by decide +kernel
theorem dL_law_534 : decode cL_law 534 = .ok (.aload_n 0, 1) := by decide +kernel
theorem dL_law_535 : decode cL_law 535 = .ok (.iload 4, 2) := by decide +kernel
theorem dL_law_537 : decode cL_law 537 = .ok (.iconst 1, 1) := by decide +kernel
theorem dL_law_538 : decode cL_law 538 = .ok (.iadd, 1) := by decide +kernel
theorem dL_law_539 : decode cL_law 539 = .ok (.iaload, 1) := by decide +kernel
theorem dL_law_540 : decode cL_law 540 = .ok (.invokevirtual 117, 3) := by decide +kernel
theorem dL_law_543 : decode cL_law 543 = .ok (.istore 6, 2) := by decide +kernel
theorem dL_law_545 : decode cL_law 545 = .ok (.goto 207, 3) := by decide +kernel
theorem dL_law_548 : decode cL_law 548 = .ok (.aload_n 1, 1) := by decide +kernel
theorem dL_law_549 : decode cL_law 549 = .ok (.aload_n 0, 1) := by decide +kernel
theorem dL_law_550 : decode cL_law 550 = .ok (.iload 4, 2) := by decide +kernel
theorem dL_law_552 : decode cL_law 552 = .ok (.iconst 1, 1) := by decide +kernel
theorem dL_law_553 : decode cL_law 553 = .ok (.iadd, 1) := by decide +kernel
theorem dL_law_554 : decode cL_law 554 = .ok (.iaload, 1) := by decide +kernel
theorem dL_law_555 : decode cL_law 555 = .ok (.aload_n 3, 1) := by decide +kernel
theorem dL_law_556 : decode cL_law 556 = .ok (.invokestatic 118, 3) := by decide +kernel
theorem dL_law_559 : decode cL_law 559 = .ok (.istore 5, 2) := by decide +kernel
theorem dL_law_561 : decode cL_law 561 = .ok (.aload_n 2, 1) := by decide +kernel
theorem dL_law_562 : decode cL_law 562 = .ok (.aload_n 0, 1) := by decide +kernel
theorem dL_law_563 : decode cL_law 563 = .ok (.iload 4, 2) := by decide +kernel
theorem dL_law_565 : decode cL_law 565 = .ok (.iconst 1, 1) := by decide +kernel
theorem dL_law_566 : decode cL_law 566 = .ok (.iadd, 1) := by decide +kernel
theorem dL_law_567 : decode cL_law 567 = .ok (.iaload, 1) := by decide +kernel
theorem dL_law_568 : decode cL_law 568 = .ok (.invokevirtual 120, 3) := by decide +kernel
theorem dL_law_571 : decode cL_law 571 = .ok (.istore 6, 2) := by decide +kernel
theorem dL_law_573 : decode cL_law 573 = .ok (.goto 179, 3) := by decide +kernel
theorem dL_law_576 : decode cL_law 576 = .ok (.aload_n 1, 1) := by decide +kernel
theorem dL_law_577 : decode cL_law 577 = .ok (.aload_n 0, 1) := by decide +kernel
theorem dL_law_578 : decode cL_law 578 = .ok (.iload 4, 2) := by decide +kernel
theorem dL_law_580 : decode cL_law 580 = .ok (.iconst 1, 1) := by decide +kernel
theorem dL_law_581 : decode cL_law 581 = .ok (.iadd, 1) := by decide +kernel
theorem dL_law_582 : decode cL_law 582 = .ok (.iaload, 1) := by decide +kernel
theorem dL_law_583 : decode cL_law 583 = .ok (.aload_n 3, 1) := by decide +kernel
theorem dL_law_584 : decode cL_law 584 = .ok (.invokestatic 121, 3) := by decide +kernel
theorem dL_law_587 : decode cL_law 587 = .ok (.istore 5, 2) := by decide +kernel
theorem dL_law_589 : decode cL_law 589 = .ok (.aload_n 2, 1) := by decide +kernel
theorem dL_law_590 : decode cL_law 590 = .ok (.aload_n 0, 1) := by decide +kernel
theorem dL_law_591 : decode cL_law 591 = .ok (.iload 4, 2) := by decide +kernel
theorem dL_law_593 : decode cL_law 593 = .ok (.iconst 1, 1) := by decide +kernel
theorem dL_law_594 : decode cL_law 594 = .ok (.iadd, 1) := by decide +kernel
theorem dL_law_595 : decode cL_law 595 = .ok (.iaload, 1) := by decide +kernel
theorem dL_law_596 : decode cL_law 596 = .ok (.invokevirtual 123, 3) := by decide +kernel
theorem dL_law_599 : decode cL_law 599 = .ok (.istore 6, 2) := by decide +kernel
theorem dL_law_601 : decode cL_law 601 = .ok (.goto 151, 3) := by decide +kernel
theorem dL_law_604 : decode cL_law 604 = .ok (.aload_n 1, 1) := by decide +kernel
theorem dL_law_605 : decode cL_law 605 = .ok (.aload_n 0, 1) := by decide +kernel
theorem dL_law_606 : decode cL_law 606 = .ok (.iload 4, 2) := by decide +kernel
theorem dL_law_608 : decode cL_law 608 = .ok (.iconst 1, 1) := by decide +kernel
theorem dL_law_609 : decode cL_law 609 = .ok (.iadd, 1) := by decide +kernel
theorem dL_law_610 : decode cL_law 610 = .ok (.iaload, 1) := by decide +kernel
theorem dL_law_611 : decode cL_law 611 = .ok (.aload_n 0, 1) := by decide +kernel
theorem dL_law_612 : decode cL_law 612 = .ok (.iload 4, 2) := by decide +kernel
theorem dL_law_614 : decode cL_law 614 = .ok (.iconst 2, 1) := by decide +kernel
theorem dL_law_615 : decode cL_law 615 = .ok (.iadd, 1) := by decide +kernel
theorem dL_law_616 : decode cL_law 616 = .ok (.iaload, 1) := by decide +kernel
theorem dL_law_617 : decode cL_law 617 = .ok (.aload_n 3, 1) := by decide +kernel
theorem dL_law_618 : decode cL_law 618 = .ok (.invokestatic 124, 3) := by decide +kernel
theorem dL_law_621 : decode cL_law 621 = .ok (.istore 5, 2) := by decide +kernel
theorem dL_law_623 : decode cL_law 623 = .ok (.aload_n 2, 1) := by decide +kernel
theorem dL_law_624 : decode cL_law 624 = .ok (.aload_n 0, 1) := by decide +kernel
theorem dL_law_625 : decode cL_law 625 = .ok (.iload 4, 2) := by decide +kernel
theorem dL_law_627 : decode cL_law 627 = .ok (.iconst 1, 1) := by decide +kernel
theorem dL_law_628 : decode cL_law 628 = .ok (.iadd, 1) := by decide +kernel
theorem dL_law_629 : decode cL_law 629 = .ok (.iaload, 1) := by decide +kernel
theorem dL_law_630 : decode cL_law 630 = .ok (.aload_n 0, 1) := by decide +kernel
theorem dL_law_631 : decode cL_law 631 = .ok (.iload 4, 2) := by decide +kernel
theorem dL_law_633 : decode cL_law 633 = .ok (.iconst 2, 1) := by decide +kernel
theorem dL_law_634 : decode cL_law 634 = .ok (.iadd, 1) := by decide +kernel
theorem dL_law_635 : decode cL_law 635 = .ok (.iaload, 1) := by decide +kernel
theorem dL_law_636 : decode cL_law 636 = .ok (.invokevirtual 126, 3) := by decide +kernel
theorem dL_law_639 : decode cL_law 639 = .ok (.istore 6, 2) := by decide +kernel
theorem dL_law_641 : decode cL_law 641 = .ok (.goto 111, 3) := by decide +kernel
theorem dL_law_644 : decode cL_law 644 = .ok (.aload_n 1, 1) := by decide +kernel
theorem dL_law_645 : decode cL_law 645 = .ok (.aload_n 0, 1) := by decide +kernel
theorem dL_law_646 : decode cL_law 646 = .ok (.iload 4, 2) := by decide +kernel
theorem dL_law_648 : decode cL_law 648 = .ok (.iconst 1, 1) := by decide +kernel
theorem dL_law_649 : decode cL_law 649 = .ok (.iadd, 1) := by decide +kernel
theorem dL_law_650 : decode cL_law 650 = .ok (.iaload, 1) := by decide +kernel
theorem dL_law_651 : decode cL_law 651 = .ok (.aload_n 0, 1) := by decide +kernel
theorem dL_law_652 : decode cL_law 652 = .ok (.iload 4, 2) := by decide +kernel
theorem dL_law_654 : decode cL_law 654 = .ok (.iconst 2, 1) := by decide +kernel
theorem dL_law_655 : decode cL_law 655 = .ok (.iadd, 1) := by decide +kernel
theorem dL_law_656 : decode cL_law 656 = .ok (.iaload, 1) := by decide +kernel
theorem dL_law_657 : decode cL_law 657 = .ok (.aload_n 3, 1) := by decide +kernel
theorem dL_law_658 : decode cL_law 658 = .ok (.invokestatic 127, 3) := by decide +kernel
theorem dL_law_661 : decode cL_law 661 = .ok (.istore 5, 2) := by decide +kernel
theorem dL_law_663 : decode cL_law 663 = .ok (.aload_n 2, 1) := by decide +kernel
theorem dL_law_664 : decode cL_law 664 = .ok (.aload_n 0, 1) := by decide +kernel
theorem dL_law_665 : decode cL_law 665 = .ok (.iload 4, 2) := by decide +kernel
theorem dL_law_667 : decode cL_law 667 = .ok (.iconst 1, 1) := by decide +kernel
theorem dL_law_668 : decode cL_law 668 = .ok (.iadd, 1) := by decide +kernel
theorem dL_law_669 : decode cL_law 669 = .ok (.iaload, 1) := by decide +kernel
theorem dL_law_670 : decode cL_law 670 = .ok (.aload_n 0, 1) := by decide +kernel
theorem dL_law_671 : decode cL_law 671 = .ok (.iload 4, 2) := by decide +kernel
theorem dL_law_673 : decode cL_law 673 = .ok (.iconst 2, 1) := by decide +kernel
theorem dL_law_674 : decode cL_law 674 = .ok (.iadd, 1) := by decide +kernel
theorem dL_law_675 : decode cL_law 675 = .ok (.iaload, 1) := by decide +kernel
theorem dL_law_676 : decode cL_law 676 = .ok (.invokevirtual 129, 3) := by decide +kernel
theorem dL_law_679 : decode cL_law 679 = .ok (.istore 6, 2) := by decide +kernel
theorem dL_law_681 : decode cL_law 681 = .ok (.goto 71, 3) := by decide +kernel
theorem dL_law_684 : decode cL_law 684 = .ok (.aload_n 1, 1) := by decide +kernel
theorem dL_law_685 : decode cL_law 685 = .ok (.aload_n 0, 1) := by decide +kernel
theorem dL_law_686 : decode cL_law 686 = .ok (.iload 4, 2) := by decide +kernel
theorem dL_law_688 : decode cL_law 688 = .ok (.iconst 1, 1) := by decide +kernel
theorem dL_law_689 : decode cL_law 689 = .ok (.iadd, 1) := by decide +kernel
theorem dL_law_690 : decode cL_law 690 = .ok (.iaload, 1) := by decide +kernel
theorem dL_law_691 : decode cL_law 691 = .ok (.aload_n 0, 1) := by decide +kernel
theorem dL_law_692 : decode cL_law 692 = .ok (.iload 4, 2) := by decide +kernel
theorem dL_law_694 : decode cL_law 694 = .ok (.iconst 2, 1) := by decide +kernel
theorem dL_law_695 : decode cL_law 695 = .ok (.iadd, 1) := by decide +kernel
theorem dL_law_696 : decode cL_law 696 = .ok (.iaload, 1) := by decide +kernel
theorem dL_law_697 : decode cL_law 697 = .ok (.aload_n 3, 1) := by decide +kernel
theorem dL_law_698 : decode cL_law 698 = .ok (.invokestatic 130, 3) := by decide +kernel
theorem dL_law_701 : decode cL_law 701 = .ok (.istore 5, 2) := by decide +kernel
theorem dL_law_703 : decode cL_law 703 = .ok (.aload_n 2, 1) := by decide +kernel
theorem dL_law_704 : decode cL_law 704 = .ok (.aload_n 0, 1) := by decide +kernel
theorem dL_law_705 : decode cL_law 705 = .ok (.iload 4, 2) := by decide +kernel
theorem dL_law_707 : decode cL_law 707 = .ok (.iconst 1, 1) := by decide +kernel
theorem dL_law_708 : decode cL_law 708 = .ok (.iadd, 1) := by decide +kernel
theorem dL_law_709 : decode cL_law 709 = .ok (.iaload, 1) := by decide +kernel
theorem dL_law_710 : decode cL_law 710 = .ok (.aload_n 0, 1) := by decide +kernel
theorem dL_law_711 : decode cL_law 711 = .ok (.iload 4, 2) := by decide +kernel
theorem dL_law_713 : decode cL_law 713 = .ok (.iconst 2, 1) := by decide +kernel
theorem dL_law_714 : decode cL_law 714 = .ok (.iadd, 1) := by decide +kernel
theorem dL_law_715 : decode cL_law 715 = .ok (.iaload, 1) := by decide +kernel
theorem dL_law_716 : decode cL_law 716 = .ok (.invokevirtual 132, 3) := by decide +kernel
theorem dL_law_719 : decode cL_law 719 = .ok (.istore 6, 2) := by decide +kernel
theorem dL_law_721 : decode cL_law 721 = .ok (.goto 31, 3) := by decide +kernel
theorem dL_law_724 : decode cL_law 724 = .ok (.aload_n 1, 1) := by decide +kernel
theorem dL_law_725 : decode cL_law 725 = .ok (.aload_n 0, 1) := by decide +kernel
theorem dL_law_726 : decode cL_law 726 = .ok (.iload 4, 2) := by decide +kernel
theorem dL_law_728 : decode cL_law 728 = .ok (.iconst 1, 1) := by decide +kernel
theorem dL_law_729 : decode cL_law 729 = .ok (.iadd, 1) := by decide +kernel
theorem dL_law_730 : decode cL_law 730 = .ok (.iaload, 1) := by decide +kernel
theorem dL_law_731 : decode cL_law 731 = .ok (.aload_n 3, 1) := by decide +kernel
theorem dL_law_732 : decode cL_law 732 = .ok (.invokestatic 133, 3) := by decide +kernel
theorem dL_law_735 : decode cL_law 735 = .ok (.istore 5, 2) := by decide +kernel
theorem dL_law_737 : decode cL_law 737 = .ok (.aload_n 2, 1) := by decide +kernel
theorem dL_law_738 : decode cL_law 738 = .ok (.aload_n 0, 1) := by decide +kernel
theorem dL_law_739 : decode cL_law 739 = .ok (.iload 4, 2) := by decide +kernel
theorem dL_law_741 : decode cL_law 741 = .ok (.iconst 1, 1) := by decide +kernel
theorem dL_law_742 : decode cL_law 742 = .ok (.iadd, 1) := by decide +kernel
theorem dL_law_743 : decode cL_law 743 = .ok (.iaload, 1) := by decide +kernel
theorem dL_law_744 : decode cL_law 744 = .ok (.invokevirtual 135, 3) := by decide +kernel
theorem dL_law_747 : decode cL_law 747 = .ok (.istore 6, 2) := by decide +kernel
theorem dL_law_749 : decode cL_law 749 = .ok (.goto 3, 3) := by decide +kernel
theorem dL_law_752 : decode cL_law 752 = .ok (.iinc 4 7, 3) := by decide +kernel
theorem dL_law_755 : decode cL_law 755 = .ok (.goto (-732), 3) := by decide +kernel
theorem dL_law_758 : decode cL_law 758 = .ok (.iconst 1, 1) := by decide +kernel
theorem dL_law_759 : decode cL_law 759 = .ok (.ireturn, 1) := by decide +kernel
end
section
/-- the tables' good words: every method's own words -/
def hp_ws : List Cond := lw_tbl.filter goodWord
theorem hp_ws_good : GoodIn hp_ws hp_ws := fun w h => ⟨h, good_of_word (List.mem_filter.mp h).2⟩
theorem hp_ws_hts {args : Array Value} {s : State} (h : ∀ w ∈ lw_tbl, w.before args s = true) : ∀ w ∈ hp_ws, w.before args s = true := fun w hw => h w (List.mem_filter.mp hw).1
theorem hp_in0 {w : Cond} (i : Nat) (h : (k2_sels lw_privs)[i]? = some w) (g : goodWord w = true) : w ∈ hp_ws := List.mem_filter.mpr ⟨List.mem_append_left _ (List.mem_of_getElem? h), g⟩
theorem hp_in1 {w : Cond} (i : Nat) (h : tables_1_1[i]? = some w) (g : goodWord w = true) : w ∈ hp_ws := List.mem_filter.mpr ⟨List.mem_append_right _ (List.mem_append_left _ (List.mem_of_getElem? h)), g⟩
theorem hp_in2 {w : Cond} (i : Nat) (h : tables_1_2[i]? = some w) (g : goodWord w = true) : w ∈ hp_ws := List.mem_filter.mpr ⟨List.mem_append_right _ (List.mem_append_right _ (List.mem_append_left _ (List.mem_of_getElem? h))), g⟩
theorem hp_in3 {w : Cond} (i : Nat) (h : tables_1_3[i]? = some w) (g : goodWord w = true) : w ∈ hp_ws := List.mem_filter.mpr ⟨List.mem_append_right _ (List.mem_append_right _ (List.mem_append_right _ (List.mem_append_left _ (List.mem_of_getElem? h)))), g⟩
theorem hp_in4 {w : Cond} (i : Nat) (h : tables_1_4[i]? = some w) (g : goodWord w = true) : w ∈ hp_ws := List.mem_filter.mpr ⟨List.mem_append_right _ (List.mem_append_right _ (List.mem_append_right _ (List.mem_append_right _ ((List.mem_of_getElem? h))))), g⟩
/-- the number of field k of class c (one number for a field that two classes inherit) -/
def hp_fd (c k : Nat) : Nat := if c = 4 then (if k < 5 then 64 + k else 128 + k) else 32 * c + k
theorem hp_fd_inj {c j k : Nat} (hj : j < 32) (hk : k < 32) (e : hp_fd c j = hp_fd c k) : j = k := by
  unfold hp_fd at e
  (repeat' split at e) <;> omega
theorem hp_fd_mod {c j : Nat} (hj : j < 32) : hp_fd c j % 32 = j := by
  unfold hp_fd
  (repeat' split) <;> omega
/-- the type of field k of class c -/
def hp_ty (c k : Nat) : FieldType := match c with
  | 0 => tyJx4a65c k
  | 1 => tyX0 k
  | 2 => tyX1 k
  | 3 => tyX3 k
  | 4 => tyX4 k
  | 5 => tyX5 k
  | _ => tyX6 k
/-- what a field of a new object holds, by its number -/
def hp_dv (c f : Nat) : Value := if f = hp_fd c (f % 32) then defaultValue (hp_ty c (f % 32)) else .null
abbrev hp_tys (cA : Nat → ClassId) : List (ClassId × FieldType) := [(cA 0, .int), (cA 1, .boolean), (cA 2, .long), (cA 3, .object "java/lang/Object"), (cA 4, .object "KeeperTree$Node"), (cA 5, .array .int)]
/-- words of the tables that are not good ones, but stay -/
def hp_ow : List Cond := [(Jvm.Cond.methodLinkNest "KeeperTree" (9 : Nat) ({ cls := "KeeperTree$Journal", name := "<init>", desc := "()V" } : Jvm.MethodName) "KeeperTree"),
  (Jvm.Cond.arrayOver (Jvm.ClassFile.FieldType.array Jvm.ClassFile.FieldType.int)),
  (Jvm.Cond.arrayOver (Jvm.ClassFile.FieldType.object "KeeperTree$Node")),
  (Jvm.Cond.methodLinkNest "KeeperTree$Keeper" (22 : Nat) ({ cls := "KeeperTree$RestartTimes", name := "<init>", desc := "()V" } : Jvm.MethodName) "KeeperTree"),
  (Jvm.Cond.castable "java/lang/IllegalArgumentException" "java/lang/IllegalArgumentException"),
  (Jvm.Cond.declares ({ cls := "java/lang/RuntimeException", name := "<init>", desc := "()V" } : Jvm.MethodName)),
  (Jvm.Cond.declares ({ cls := "java/lang/RuntimeException", name := "<init>", desc := "(Ljava/lang/String;)V" } : Jvm.MethodName)),
  (Jvm.Cond.declares ({ cls := "java/lang/Exception", name := "<init>", desc := "()V" } : Jvm.MethodName)),
  (Jvm.Cond.declares ({ cls := "java/lang/Exception", name := "<init>", desc := "(Ljava/lang/String;)V" } : Jvm.MethodName)),
  (Jvm.Cond.declares ({ cls := "java/lang/Throwable", name := "<init>", desc := "()V" } : Jvm.MethodName)),
  (Jvm.Cond.declares ({ cls := "java/lang/Throwable", name := "<init>", desc := "(Ljava/lang/String;)V" } : Jvm.MethodName)),
  (Jvm.Cond.castable "java/lang/IllegalStateException" "java/lang/IllegalStateException"),
  (Jvm.Cond.arrayOver (Jvm.ClassFile.FieldType.object "java/lang/Object")),
  (Jvm.Cond.declares ({ cls := "KeeperTree$Node", name := "rise", desc := "(LKeeperTree$Journal;)Z" } : Jvm.MethodName)),
  (Jvm.Cond.declares ({ cls := "KeeperTree$Node", name := "settle", desc := "(ZLKeeperTree$Journal;)Z" } : Jvm.MethodName)),
  (Jvm.Cond.declares ({ cls := "KeeperTree$Node", name := "fall", desc := "(LKeeperTree$Journal;)V" } : Jvm.MethodName)),
  (Jvm.Cond.declares ({ cls := "KeeperTree$Node", name := "vanish", desc := "()I" } : Jvm.MethodName)),
  (Jvm.Cond.declares ({ cls := "KeeperTree$Node", name := "perish", desc := "(LKeeperTree$Journal;)I" } : Jvm.MethodName)),
  (Jvm.Cond.castable "KeeperTree$Keeper" "KeeperTree$Keeper"),
  (Jvm.Cond.castable "KeeperTree$Keeper" "KeeperTree$Node"),
  (Jvm.Cond.castable "KeeperTree$Worker" "KeeperTree$Node"),
  (Jvm.Cond.castable "KeeperTree$Worker" "KeeperTree$Worker"),
  (Jvm.Cond.declares ({ cls := "java/lang/Object", name := "getClass", desc := "()Ljava/lang/Class;" } : Jvm.MethodName)),
  (Jvm.Cond.castable "KeeperTree" "java/lang/Object"),
  (Jvm.Cond.castable "KeeperTree$Journal" "java/lang/Object"),
  (Jvm.Cond.castable "KeeperTree$Keeper" "java/lang/Object"),
  (Jvm.Cond.castable "KeeperTree$RestartTimes" "java/lang/Object"),
  (Jvm.Cond.castable "KeeperTreeModel" "java/lang/Object"),
  (Jvm.Cond.castable "KeeperTree$Worker" "java/lang/Object")]
theorem hp_ow_in : ∀ w ∈ hp_ow, w ∈ lw_tbl := by decide +kernel
def hp_nc : List (String × String) := [("KeeperTree$Keeper", "KeeperTree$Worker"), ("KeeperTree$Worker", "KeeperTree$Keeper"), ("java/lang/IllegalStateException", "java/lang/IllegalArgumentException")]
/-- entry idx of own's pool names field k of class ci -/
def hp_FL (own : String) (idx ci k : Nat) : Prop := ∃ (ref C : String) (T : u_T) (N : Nat), vwCl[ci]? = some (C, T, N) ∧ k < N ∧ N ≤ 32 ∧ ci < 10 ∧ Cond.fieldLink own idx ref (T k).2.1 (T k).2.2.1 ∈ hp_ws ∧ ((T k).1 = ref ∨ Cond.sameField ref (T k).1 (T k).2.1 (T k).2.2.1 ∈ hp_ws) ∧ (∀ w ∈ u_ws C T N, w ∈ hp_ws) ∧
  (∀ j, j < N → parseFieldDescriptor (T j).2.2.1 = some (hp_ty ci j)) ∧ (∀ a, a < N → ∀ b, b < N → a ≠ b → (T a).2.1 ≠ (T b).2.1)
theorem iw_Jx4a65c : ∀ w ∈ u_ws RJx4a65c TJx4a65c 3, w ∈ hp_ws := by decide +kernel
theorem iw_X0 : ∀ w ∈ u_ws RX0 TX0 3, w ∈ hp_ws := by decide +kernel
theorem iw_X1 : ∀ w ∈ u_ws RX1 TX1 10, w ∈ hp_ws := by decide +kernel
theorem iw_X3 : ∀ w ∈ u_ws RX3 TX3 2, w ∈ hp_ws := by decide +kernel
theorem iw_X4 : ∀ w ∈ u_ws RX4 TX4 9, w ∈ hp_ws := by decide +kernel
theorem iw_X5 : ∀ w ∈ u_ws RX5 TX5 6, w ∈ hp_ws := by decide +kernel
theorem iw_X6 : ∀ w ∈ u_ws RX6 TX6 25, w ∈ hp_ws := by decide +kernel
theorem fl_X0_13_1 : hp_FL RX0 13 1 0 := ⟨"KeeperTree$Journal", RX0, TX0, 3, rfl, by decide, by decide, by decide, (hp_in1 38 (by decide +kernel) rfl), Or.inl rfl, iw_X0, tyX0_ok, nmX0⟩
theorem fl_X0_16_1 : hp_FL RX0 16 1 1 := ⟨"KeeperTree$Journal", RX0, TX0, 3, rfl, by decide, by decide, by decide, (hp_in1 39 (by decide +kernel) rfl), Or.inl rfl, iw_X0, tyX0_ok, nmX0⟩
theorem fl_X4_24_1 : hp_FL RX4 24 1 1 := ⟨"KeeperTree$Journal", RX0, TX0, 3, rfl, by decide, by decide, by decide, (hp_in1 40 (by decide +kernel) rfl), Or.inl rfl, iw_X0, tyX0_ok, nmX0⟩
theorem fl_X5_127_1 : hp_FL RX5 127 1 1 := ⟨"KeeperTree$Journal", RX0, TX0, 3, rfl, by decide, by decide, by decide, (hp_in1 41 (by decide +kernel) rfl), Or.inl rfl, iw_X0, tyX0_ok, nmX0⟩
theorem fl_X0_20_1 : hp_FL RX0 20 1 2 := ⟨"KeeperTree$Journal", RX0, TX0, 3, rfl, by decide, by decide, by decide, (hp_in1 42 (by decide +kernel) rfl), Or.inl rfl, iw_X0, tyX0_ok, nmX0⟩
theorem fl_X5_175_1 : hp_FL RX5 175 1 2 := ⟨"KeeperTree$Journal", RX0, TX0, 3, rfl, by decide, by decide, by decide, (hp_in1 43 (by decide +kernel) rfl), Or.inl rfl, iw_X0, tyX0_ok, nmX0⟩
theorem fl_Jx4a65c_9_0 : hp_FL RJx4a65c 9 0 1 := ⟨"java/util/ArrayList", RJx4a65c, TJx4a65c, 3, rfl, by decide, by decide, by decide, (hp_in1 77 (by decide +kernel) rfl), Or.inl rfl, iw_Jx4a65c, tyJx4a65c_ok, nmJx4a65c⟩
theorem fl_Jx4a65c_48_0 : hp_FL RJx4a65c 48 0 2 := ⟨"java/util/ArrayList", RJx4a65c, TJx4a65c, 3, rfl, by decide, by decide, by decide, (hp_in1 78 (by decide +kernel) rfl), Or.inl rfl, iw_Jx4a65c, tyJx4a65c_ok, nmJx4a65c⟩
theorem fl_Jxc12de_7_0 : hp_FL RJxc12de 7 0 0 := ⟨"java/util/AbstractList", RJx4a65c, TJx4a65c, 3, rfl, by decide, by decide, by decide, (hp_in1 79 (by decide +kernel) rfl), Or.inl rfl, iw_Jx4a65c, tyJx4a65c_ok, nmJx4a65c⟩
theorem fl_Jx4a65c_63_0 : hp_FL RJx4a65c 63 0 0 := ⟨"java/util/ArrayList", RJx4a65c, TJx4a65c, 3, rfl, by decide, by decide, by decide, (hp_in1 80 (by decide +kernel) rfl), Or.inr (hp_in1 81 (by decide +kernel) rfl), iw_Jx4a65c, tyJx4a65c_ok, nmJx4a65c⟩
theorem fl_X3_9_3 : hp_FL RX3 9 3 0 := ⟨"KeeperTree$RestartTimes", RX3, TX3, 2, rfl, by decide, by decide, by decide, (hp_in1 95 (by decide +kernel) rfl), Or.inl rfl, iw_X3, tyX3_ok, nmX3⟩
theorem fl_X3_15_3 : hp_FL RX3 15 3 1 := ⟨"KeeperTree$RestartTimes", RX3, TX3, 2, rfl, by decide, by decide, by decide, (hp_in1 96 (by decide +kernel) rfl), Or.inl rfl, iw_X3, tyX3_ok, nmX3⟩
theorem fl_X1_14_2 : hp_FL RX1 14 2 5 := ⟨"KeeperTree$Keeper", RX1, TX1, 10, rfl, by decide, by decide, by decide, (hp_in1 102 (by decide +kernel) rfl), Or.inl rfl, iw_X1, tyX1_ok, nmX1⟩
theorem fl_X5_146_2 : hp_FL RX5 146 2 5 := ⟨"KeeperTree$Keeper", RX1, TX1, 10, rfl, by decide, by decide, by decide, (hp_in1 103 (by decide +kernel) rfl), Or.inl rfl, iw_X1, tyX1_ok, nmX1⟩
theorem fl_X1_23_2 : hp_FL RX1 23 2 6 := ⟨"KeeperTree$Keeper", RX1, TX1, 10, rfl, by decide, by decide, by decide, (hp_in1 104 (by decide +kernel) rfl), Or.inl rfl, iw_X1, tyX1_ok, nmX1⟩
theorem fl_X5_190_2 : hp_FL RX5 190 2 6 := ⟨"KeeperTree$Keeper", RX1, TX1, 10, rfl, by decide, by decide, by decide, (hp_in1 105 (by decide +kernel) rfl), Or.inl rfl, iw_X1, tyX1_ok, nmX1⟩
theorem fl_X1_27_2 : hp_FL RX1 27 2 7 := ⟨"KeeperTree$Keeper", RX1, TX1, 10, rfl, by decide, by decide, by decide, (hp_in1 106 (by decide +kernel) rfl), Or.inl rfl, iw_X1, tyX1_ok, nmX1⟩
theorem fl_X5_52_2 : hp_FL RX5 52 2 7 := ⟨"KeeperTree$Keeper", RX1, TX1, 10, rfl, by decide, by decide, by decide, (hp_in1 107 (by decide +kernel) rfl), Or.inl rfl, iw_X1, tyX1_ok, nmX1⟩
theorem fl_X1_31_2 : hp_FL RX1 31 2 8 := ⟨"KeeperTree$Keeper", RX1, TX1, 10, rfl, by decide, by decide, by decide, (hp_in1 108 (by decide +kernel) rfl), Or.inl rfl, iw_X1, tyX1_ok, nmX1⟩
theorem fl_X5_55_2 : hp_FL RX5 55 2 8 := ⟨"KeeperTree$Keeper", RX1, TX1, 10, rfl, by decide, by decide, by decide, (hp_in1 109 (by decide +kernel) rfl), Or.inl rfl, iw_X1, tyX1_ok, nmX1⟩
theorem fl_X1_34_2 : hp_FL RX1 34 2 9 := ⟨"KeeperTree$Keeper", RX1, TX1, 10, rfl, by decide, by decide, by decide, (hp_in1 110 (by decide +kernel) rfl), Or.inl rfl, iw_X1, tyX1_ok, nmX1⟩
theorem fl_X5_58_2 : hp_FL RX5 58 2 9 := ⟨"KeeperTree$Keeper", RX1, TX1, 10, rfl, by decide, by decide, by decide, (hp_in1 111 (by decide +kernel) rfl), Or.inl rfl, iw_X1, tyX1_ok, nmX1⟩
theorem fl_X2_15_2 : hp_FL RX2 15 2 0 := ⟨"KeeperTree$Node", RX1, TX1, 10, rfl, by decide, by decide, by decide, (hp_in1 112 (by decide +kernel) rfl), Or.inl rfl, iw_X1, tyX1_ok, nmX1⟩
theorem fl_X2_15_4 : hp_FL RX2 15 4 0 := ⟨"KeeperTree$Node", RX4, TX4, 9, rfl, by decide, by decide, by decide, (hp_in1 112 (by decide +kernel) rfl), Or.inl rfl, iw_X4, tyX4_ok, nmX4⟩
theorem fl_X1_55_2 : hp_FL RX1 55 2 0 := ⟨"KeeperTree$Keeper", RX1, TX1, 10, rfl, by decide, by decide, by decide, (hp_in1 113 (by decide +kernel) rfl), Or.inr (hp_in1 114 (by decide +kernel) rfl), iw_X1, tyX1_ok, nmX1⟩
theorem fl_X4_36_4 : hp_FL RX4 36 4 0 := ⟨"KeeperTree$Worker", RX4, TX4, 9, rfl, by decide, by decide, by decide, (hp_in1 115 (by decide +kernel) rfl), Or.inr (hp_in1 116 (by decide +kernel) rfl), iw_X4, tyX4_ok, nmX4⟩
theorem fl_X5_80_2 : hp_FL RX5 80 2 0 := ⟨"KeeperTree$Keeper", RX1, TX1, 10, rfl, by decide, by decide, by decide, (hp_in1 117 (by decide +kernel) rfl), Or.inr (hp_in1 114 (by decide +kernel) rfl), iw_X1, tyX1_ok, nmX1⟩
theorem fl_X5_93_4 : hp_FL RX5 93 4 0 := ⟨"KeeperTree$Worker", RX4, TX4, 9, rfl, by decide, by decide, by decide, (hp_in1 118 (by decide +kernel) rfl), Or.inr (hp_in1 116 (by decide +kernel) rfl), iw_X4, tyX4_ok, nmX4⟩
theorem fl_X1_101_2 : hp_FL RX1 101 2 0 := ⟨"KeeperTree$Node", RX1, TX1, 10, rfl, by decide, by decide, by decide, (hp_in1 119 (by decide +kernel) rfl), Or.inl rfl, iw_X1, tyX1_ok, nmX1⟩
theorem fl_X1_101_4 : hp_FL RX1 101 4 0 := ⟨"KeeperTree$Node", RX4, TX4, 9, rfl, by decide, by decide, by decide, (hp_in1 119 (by decide +kernel) rfl), Or.inl rfl, iw_X4, tyX4_ok, nmX4⟩
theorem fl_X5_167_2 : hp_FL RX5 167 2 0 := ⟨"KeeperTree$Node", RX1, TX1, 10, rfl, by decide, by decide, by decide, (hp_in1 120 (by decide +kernel) rfl), Or.inl rfl, iw_X1, tyX1_ok, nmX1⟩
theorem fl_X5_167_4 : hp_FL RX5 167 4 0 := ⟨"KeeperTree$Node", RX4, TX4, 9, rfl, by decide, by decide, by decide, (hp_in1 120 (by decide +kernel) rfl), Or.inl rfl, iw_X4, tyX4_ok, nmX4⟩
theorem fl_X2_18_2 : hp_FL RX2 18 2 1 := ⟨"KeeperTree$Node", RX1, TX1, 10, rfl, by decide, by decide, by decide, (hp_in1 121 (by decide +kernel) rfl), Or.inl rfl, iw_X1, tyX1_ok, nmX1⟩
theorem fl_X2_18_4 : hp_FL RX2 18 4 1 := ⟨"KeeperTree$Node", RX4, TX4, 9, rfl, by decide, by decide, by decide, (hp_in1 121 (by decide +kernel) rfl), Or.inl rfl, iw_X4, tyX4_ok, nmX4⟩
theorem fl_X5_133_2 : hp_FL RX5 133 2 1 := ⟨"KeeperTree$Node", RX1, TX1, 10, rfl, by decide, by decide, by decide, (hp_in1 122 (by decide +kernel) rfl), Or.inl rfl, iw_X1, tyX1_ok, nmX1⟩
theorem fl_X5_133_4 : hp_FL RX5 133 4 1 := ⟨"KeeperTree$Node", RX4, TX4, 9, rfl, by decide, by decide, by decide, (hp_in1 122 (by decide +kernel) rfl), Or.inl rfl, iw_X4, tyX4_ok, nmX4⟩
theorem fl_X2_22_2 : hp_FL RX2 22 2 2 := ⟨"KeeperTree$Keeper", RX1, TX1, 10, rfl, by decide, by decide, by decide, (hp_in1 123 (by decide +kernel) rfl), Or.inr (hp_in1 124 (by decide +kernel) rfl), iw_X1, tyX1_ok, nmX1⟩
theorem fl_X2_27_2 : hp_FL RX2 27 2 2 := ⟨"KeeperTree$Node", RX1, TX1, 10, rfl, by decide, by decide, by decide, (hp_in1 125 (by decide +kernel) rfl), Or.inl rfl, iw_X1, tyX1_ok, nmX1⟩
theorem fl_X2_27_4 : hp_FL RX2 27 4 2 := ⟨"KeeperTree$Node", RX4, TX4, 9, rfl, by decide, by decide, by decide, (hp_in1 125 (by decide +kernel) rfl), Or.inl rfl, iw_X4, tyX4_ok, nmX4⟩
theorem fl_X5_140_2 : hp_FL RX5 140 2 2 := ⟨"KeeperTree$Node", RX1, TX1, 10, rfl, by decide, by decide, by decide, (hp_in1 126 (by decide +kernel) rfl), Or.inl rfl, iw_X1, tyX1_ok, nmX1⟩
theorem fl_X5_140_4 : hp_FL RX5 140 4 2 := ⟨"KeeperTree$Node", RX4, TX4, 9, rfl, by decide, by decide, by decide, (hp_in1 126 (by decide +kernel) rfl), Or.inl rfl, iw_X4, tyX4_ok, nmX4⟩
theorem fl_X5_180_2 : hp_FL RX5 180 2 2 := ⟨"KeeperTree$Keeper", RX1, TX1, 10, rfl, by decide, by decide, by decide, (hp_in1 127 (by decide +kernel) rfl), Or.inr (hp_in1 124 (by decide +kernel) rfl), iw_X1, tyX1_ok, nmX1⟩
theorem fl_X2_28_2 : hp_FL RX2 28 2 3 := ⟨"KeeperTree$Node", RX1, TX1, 10, rfl, by decide, by decide, by decide, (hp_in1 128 (by decide +kernel) rfl), Or.inl rfl, iw_X1, tyX1_ok, nmX1⟩
theorem fl_X2_28_4 : hp_FL RX2 28 4 3 := ⟨"KeeperTree$Node", RX4, TX4, 9, rfl, by decide, by decide, by decide, (hp_in1 128 (by decide +kernel) rfl), Or.inl rfl, iw_X4, tyX4_ok, nmX4⟩
theorem fl_X1_87_2 : hp_FL RX1 87 2 3 := ⟨"KeeperTree$Node", RX1, TX1, 10, rfl, by decide, by decide, by decide, (hp_in1 129 (by decide +kernel) rfl), Or.inl rfl, iw_X1, tyX1_ok, nmX1⟩
theorem fl_X1_87_4 : hp_FL RX1 87 4 3 := ⟨"KeeperTree$Node", RX4, TX4, 9, rfl, by decide, by decide, by decide, (hp_in1 129 (by decide +kernel) rfl), Or.inl rfl, iw_X4, tyX4_ok, nmX4⟩
theorem fl_X5_143_2 : hp_FL RX5 143 2 3 := ⟨"KeeperTree$Node", RX1, TX1, 10, rfl, by decide, by decide, by decide, (hp_in1 130 (by decide +kernel) rfl), Or.inl rfl, iw_X1, tyX1_ok, nmX1⟩
theorem fl_X5_143_4 : hp_FL RX5 143 4 3 := ⟨"KeeperTree$Node", RX4, TX4, 9, rfl, by decide, by decide, by decide, (hp_in1 130 (by decide +kernel) rfl), Or.inl rfl, iw_X4, tyX4_ok, nmX4⟩
theorem fl_X2_9_2 : hp_FL RX2 9 2 4 := ⟨"KeeperTree$Node", RX1, TX1, 10, rfl, by decide, by decide, by decide, (hp_in1 131 (by decide +kernel) rfl), Or.inl rfl, iw_X1, tyX1_ok, nmX1⟩
theorem fl_X2_9_4 : hp_FL RX2 9 4 4 := ⟨"KeeperTree$Node", RX4, TX4, 9, rfl, by decide, by decide, by decide, (hp_in1 131 (by decide +kernel) rfl), Or.inl rfl, iw_X4, tyX4_ok, nmX4⟩
theorem fl_X5_45_2 : hp_FL RX5 45 2 4 := ⟨"KeeperTree$Keeper", RX1, TX1, 10, rfl, by decide, by decide, by decide, (hp_in1 132 (by decide +kernel) rfl), Or.inr (hp_in1 133 (by decide +kernel) rfl), iw_X1, tyX1_ok, nmX1⟩
theorem fl_X1_52_2 : hp_FL RX1 52 2 4 := ⟨"KeeperTree$Keeper", RX1, TX1, 10, rfl, by decide, by decide, by decide, (hp_in1 134 (by decide +kernel) rfl), Or.inr (hp_in1 133 (by decide +kernel) rfl), iw_X1, tyX1_ok, nmX1⟩
theorem fl_X4_33_4 : hp_FL RX4 33 4 4 := ⟨"KeeperTree$Worker", RX4, TX4, 9, rfl, by decide, by decide, by decide, (hp_in1 135 (by decide +kernel) rfl), Or.inr (hp_in1 136 (by decide +kernel) rfl), iw_X4, tyX4_ok, nmX4⟩
theorem fl_X1_72_2 : hp_FL RX1 72 2 4 := ⟨"KeeperTree$Node", RX1, TX1, 10, rfl, by decide, by decide, by decide, (hp_in1 137 (by decide +kernel) rfl), Or.inl rfl, iw_X1, tyX1_ok, nmX1⟩
theorem fl_X1_72_4 : hp_FL RX1 72 4 4 := ⟨"KeeperTree$Node", RX4, TX4, 9, rfl, by decide, by decide, by decide, (hp_in1 137 (by decide +kernel) rfl), Or.inl rfl, iw_X4, tyX4_ok, nmX4⟩
theorem fl_X5_101_4 : hp_FL RX5 101 4 4 := ⟨"KeeperTree$Worker", RX4, TX4, 9, rfl, by decide, by decide, by decide, (hp_in1 138 (by decide +kernel) rfl), Or.inr (hp_in1 136 (by decide +kernel) rfl), iw_X4, tyX4_ok, nmX4⟩
theorem fl_X5_113_2 : hp_FL RX5 113 2 4 := ⟨"KeeperTree$Node", RX1, TX1, 10, rfl, by decide, by decide, by decide, (hp_in1 139 (by decide +kernel) rfl), Or.inl rfl, iw_X1, tyX1_ok, nmX1⟩
theorem fl_X5_113_4 : hp_FL RX5 113 4 4 := ⟨"KeeperTree$Node", RX4, TX4, 9, rfl, by decide, by decide, by decide, (hp_in1 139 (by decide +kernel) rfl), Or.inl rfl, iw_X4, tyX4_ok, nmX4⟩
theorem fl_X5_10_5 : hp_FL RX5 10 5 0 := ⟨"KeeperTree", RX5, TX5, 6, rfl, by decide, by decide, by decide, (hp_in1 161 (by decide +kernel) rfl), Or.inl rfl, iw_X5, tyX5_ok, nmX5⟩
theorem fl_X5_18_5 : hp_FL RX5 18 5 1 := ⟨"KeeperTree", RX5, TX5, 6, rfl, by decide, by decide, by decide, (hp_in1 162 (by decide +kernel) rfl), Or.inl rfl, iw_X5, tyX5_ok, nmX5⟩
theorem fl_X5_27_5 : hp_FL RX5 27 5 2 := ⟨"KeeperTree", RX5, TX5, 6, rfl, by decide, by decide, by decide, (hp_in1 163 (by decide +kernel) rfl), Or.inl rfl, iw_X5, tyX5_ok, nmX5⟩
theorem fl_X5_31_5 : hp_FL RX5 31 5 3 := ⟨"KeeperTree", RX5, TX5, 6, rfl, by decide, by decide, by decide, (hp_in1 164 (by decide +kernel) rfl), Or.inl rfl, iw_X5, tyX5_ok, nmX5⟩
theorem fl_X5_35_5 : hp_FL RX5 35 5 4 := ⟨"KeeperTree", RX5, TX5, 6, rfl, by decide, by decide, by decide, (hp_in1 165 (by decide +kernel) rfl), Or.inl rfl, iw_X5, tyX5_ok, nmX5⟩
theorem fl_X5_38_5 : hp_FL RX5 38 5 5 := ⟨"KeeperTree", RX5, TX5, 6, rfl, by decide, by decide, by decide, (hp_in1 166 (by decide +kernel) rfl), Or.inl rfl, iw_X5, tyX5_ok, nmX5⟩
theorem fl_X4_9_4 : hp_FL RX4 9 4 5 := ⟨"KeeperTree$Worker", RX4, TX4, 9, rfl, by decide, by decide, by decide, (hp_in2 198 (by decide +kernel) rfl), Or.inl rfl, iw_X4, tyX4_ok, nmX4⟩
theorem fl_X4_15_4 : hp_FL RX4 15 4 6 := ⟨"KeeperTree$Worker", RX4, TX4, 9, rfl, by decide, by decide, by decide, (hp_in2 199 (by decide +kernel) rfl), Or.inl rfl, iw_X4, tyX4_ok, nmX4⟩
theorem fl_X4_18_4 : hp_FL RX4 18 4 7 := ⟨"KeeperTree$Worker", RX4, TX4, 9, rfl, by decide, by decide, by decide, (hp_in2 200 (by decide +kernel) rfl), Or.inl rfl, iw_X4, tyX4_ok, nmX4⟩
theorem fl_X4_21_4 : hp_FL RX4 21 4 8 := ⟨"KeeperTree$Worker", RX4, TX4, 9, rfl, by decide, by decide, by decide, (hp_in2 201 (by decide +kernel) rfl), Or.inl rfl, iw_X4, tyX4_ok, nmX4⟩
theorem fl_X5_98_4 : hp_FL RX5 98 4 8 := ⟨"KeeperTree$Worker", RX4, TX4, 9, rfl, by decide, by decide, by decide, (hp_in2 202 (by decide +kernel) rfl), Or.inl rfl, iw_X4, tyX4_ok, nmX4⟩
theorem fl_X6_72_6 : hp_FL RX6 72 6 0 := ⟨"KeeperTreeModel", RX6, TX6, 25, rfl, by decide, by decide, by decide, (hp_in3 173 (by decide +kernel) rfl), Or.inl rfl, iw_X6, tyX6_ok, nmX6⟩
theorem fl_X6_68_6 : hp_FL RX6 68 6 1 := ⟨"KeeperTreeModel", RX6, TX6, 25, rfl, by decide, by decide, by decide, (hp_in3 174 (by decide +kernel) rfl), Or.inl rfl, iw_X6, tyX6_ok, nmX6⟩
theorem fl_X6_7_6 : hp_FL RX6 7 6 2 := ⟨"KeeperTreeModel", RX6, TX6, 25, rfl, by decide, by decide, by decide, (hp_in3 175 (by decide +kernel) rfl), Or.inl rfl, iw_X6, tyX6_ok, nmX6⟩
theorem fl_X6_13_6 : hp_FL RX6 13 6 3 := ⟨"KeeperTreeModel", RX6, TX6, 25, rfl, by decide, by decide, by decide, (hp_in3 176 (by decide +kernel) rfl), Or.inl rfl, iw_X6, tyX6_ok, nmX6⟩
theorem fl_X6_17_6 : hp_FL RX6 17 6 4 := ⟨"KeeperTreeModel", RX6, TX6, 25, rfl, by decide, by decide, by decide, (hp_in3 177 (by decide +kernel) rfl), Or.inl rfl, iw_X6, tyX6_ok, nmX6⟩
theorem fl_X6_20_6 : hp_FL RX6 20 6 5 := ⟨"KeeperTreeModel", RX6, TX6, 25, rfl, by decide, by decide, by decide, (hp_in3 178 (by decide +kernel) rfl), Or.inl rfl, iw_X6, tyX6_ok, nmX6⟩
theorem fl_X6_23_6 : hp_FL RX6 23 6 6 := ⟨"KeeperTreeModel", RX6, TX6, 25, rfl, by decide, by decide, by decide, (hp_in3 179 (by decide +kernel) rfl), Or.inl rfl, iw_X6, tyX6_ok, nmX6⟩
theorem fl_X6_26_6 : hp_FL RX6 26 6 7 := ⟨"KeeperTreeModel", RX6, TX6, 25, rfl, by decide, by decide, by decide, (hp_in3 180 (by decide +kernel) rfl), Or.inl rfl, iw_X6, tyX6_ok, nmX6⟩
theorem fl_X6_29_6 : hp_FL RX6 29 6 8 := ⟨"KeeperTreeModel", RX6, TX6, 25, rfl, by decide, by decide, by decide, (hp_in3 181 (by decide +kernel) rfl), Or.inl rfl, iw_X6, tyX6_ok, nmX6⟩
theorem fl_X6_32_6 : hp_FL RX6 32 6 9 := ⟨"KeeperTreeModel", RX6, TX6, 25, rfl, by decide, by decide, by decide, (hp_in3 182 (by decide +kernel) rfl), Or.inl rfl, iw_X6, tyX6_ok, nmX6⟩
theorem fl_X6_35_6 : hp_FL RX6 35 6 10 := ⟨"KeeperTreeModel", RX6, TX6, 25, rfl, by decide, by decide, by decide, (hp_in3 183 (by decide +kernel) rfl), Or.inl rfl, iw_X6, tyX6_ok, nmX6⟩
theorem fl_X6_38_6 : hp_FL RX6 38 6 11 := ⟨"KeeperTreeModel", RX6, TX6, 25, rfl, by decide, by decide, by decide, (hp_in3 184 (by decide +kernel) rfl), Or.inl rfl, iw_X6, tyX6_ok, nmX6⟩
theorem fl_X6_41_6 : hp_FL RX6 41 6 12 := ⟨"KeeperTreeModel", RX6, TX6, 25, rfl, by decide, by decide, by decide, (hp_in3 185 (by decide +kernel) rfl), Or.inl rfl, iw_X6, tyX6_ok, nmX6⟩
theorem fl_X6_44_6 : hp_FL RX6 44 6 13 := ⟨"KeeperTreeModel", RX6, TX6, 25, rfl, by decide, by decide, by decide, (hp_in3 186 (by decide +kernel) rfl), Or.inl rfl, iw_X6, tyX6_ok, nmX6⟩
theorem fl_X6_47_6 : hp_FL RX6 47 6 14 := ⟨"KeeperTreeModel", RX6, TX6, 25, rfl, by decide, by decide, by decide, (hp_in3 187 (by decide +kernel) rfl), Or.inl rfl, iw_X6, tyX6_ok, nmX6⟩
theorem fl_X6_50_6 : hp_FL RX6 50 6 15 := ⟨"KeeperTreeModel", RX6, TX6, 25, rfl, by decide, by decide, by decide, (hp_in3 188 (by decide +kernel) rfl), Or.inl rfl, iw_X6, tyX6_ok, nmX6⟩
theorem fl_X6_53_6 : hp_FL RX6 53 6 16 := ⟨"KeeperTreeModel", RX6, TX6, 25, rfl, by decide, by decide, by decide, (hp_in3 189 (by decide +kernel) rfl), Or.inl rfl, iw_X6, tyX6_ok, nmX6⟩
theorem fl_X6_56_6 : hp_FL RX6 56 6 17 := ⟨"KeeperTreeModel", RX6, TX6, 25, rfl, by decide, by decide, by decide, (hp_in3 190 (by decide +kernel) rfl), Or.inl rfl, iw_X6, tyX6_ok, nmX6⟩
theorem fl_X6_82_6 : hp_FL RX6 82 6 18 := ⟨"KeeperTreeModel", RX6, TX6, 25, rfl, by decide, by decide, by decide, (hp_in3 191 (by decide +kernel) rfl), Or.inl rfl, iw_X6, tyX6_ok, nmX6⟩
theorem fl_X6_79_6 : hp_FL RX6 79 6 19 := ⟨"KeeperTreeModel", RX6, TX6, 25, rfl, by decide, by decide, by decide, (hp_in3 192 (by decide +kernel) rfl), Or.inl rfl, iw_X6, tyX6_ok, nmX6⟩
theorem fl_X6_59_6 : hp_FL RX6 59 6 20 := ⟨"KeeperTreeModel", RX6, TX6, 25, rfl, by decide, by decide, by decide, (hp_in3 193 (by decide +kernel) rfl), Or.inl rfl, iw_X6, tyX6_ok, nmX6⟩
theorem fl_X6_100_6 : hp_FL RX6 100 6 21 := ⟨"KeeperTreeModel", RX6, TX6, 25, rfl, by decide, by decide, by decide, (hp_in3 194 (by decide +kernel) rfl), Or.inl rfl, iw_X6, tyX6_ok, nmX6⟩
theorem fl_X6_112_6 : hp_FL RX6 112 6 22 := ⟨"KeeperTreeModel", RX6, TX6, 25, rfl, by decide, by decide, by decide, (hp_in3 195 (by decide +kernel) rfl), Or.inl rfl, iw_X6, tyX6_ok, nmX6⟩
theorem fl_X6_62_6 : hp_FL RX6 62 6 23 := ⟨"KeeperTreeModel", RX6, TX6, 25, rfl, by decide, by decide, by decide, (hp_in3 196 (by decide +kernel) rfl), Or.inl rfl, iw_X6, tyX6_ok, nmX6⟩
theorem fl_X6_65_6 : hp_FL RX6 65 6 24 := ⟨"KeeperTreeModel", RX6, TX6, 25, rfl, by decide, by decide, by decide, (hp_in3 197 (by decide +kernel) rfl), Or.inl rfl, iw_X6, tyX6_ok, nmX6⟩
/-- entry idx of own's pool names class ci, of N slots -/
def hp_NL (own : String) (idx ci N : Nat) : Prop := ∃ (C : String) (T : u_T), vwCl[ci]? = some (C, T, N) ∧ N ≤ 32 ∧ ci < 10 ∧ Cond.classLink own idx C ∈ hp_ws ∧ Cond.instantiable C N ∈ hp_ws ∧ Cond.initialized C ∈ hp_ws ∧ (∀ w ∈ u_ws C T N, w ∈ hp_ws) ∧ (∀ j, j < N → parseFieldDescriptor (T j).2.2.1 = some (hp_ty ci j))
theorem nl_L_8 : hp_NL RL 8 5 6 := ⟨RX5, TX5, rfl, by decide, by decide, (hp_in1 22 (by decide +kernel) rfl), (hp_in1 23 (by decide +kernel) rfl), (hp_in1 1 (by decide +kernel) rfl), iw_X5, tyX5_ok⟩
theorem nl_X5_7 : hp_NL RX5 7 1 3 := ⟨RX0, TX0, rfl, by decide, by decide, (hp_in1 30 (by decide +kernel) rfl), (hp_in1 31 (by decide +kernel) rfl), (hp_in1 2 (by decide +kernel) rfl), iw_X0, tyX0_ok⟩
theorem nl_X5_22 : hp_NL RX5 22 2 10 := ⟨RX1, TX1, rfl, by decide, by decide, (hp_in1 54 (by decide +kernel) rfl), (hp_in1 55 (by decide +kernel) rfl), (hp_in1 4 (by decide +kernel) rfl), iw_X1, tyX1_ok⟩
theorem nl_X1_9 : hp_NL RX1 9 0 3 := ⟨RJx4a65c, TJx4a65c, rfl, by decide, by decide, (hp_in1 63 (by decide +kernel) rfl), (hp_in1 64 (by decide +kernel) rfl), (hp_in1 7 (by decide +kernel) rfl), iw_Jx4a65c, tyJx4a65c_ok⟩
theorem nl_X1_20 : hp_NL RX1 20 3 2 := ⟨RX3, TX3, rfl, by decide, by decide, (hp_in1 89 (by decide +kernel) rfl), (hp_in1 90 (by decide +kernel) rfl), (hp_in1 8 (by decide +kernel) rfl), iw_X3, tyX3_ok⟩
theorem nl_X5_83 : hp_NL RX5 83 4 9 := ⟨RX4, TX4, rfl, by decide, by decide, (hp_in2 192 (by decide +kernel) rfl), (hp_in2 193 (by decide +kernel) rfl), (hp_in1 21 (by decide +kernel) rfl), iw_X4, tyX4_ok⟩
theorem nl_L_71 : hp_NL RL 71 6 25 := ⟨RX6, TX6, rfl, by decide, by decide, (hp_in3 167 (by decide +kernel) rfl), (hp_in3 168 (by decide +kernel) rfl), (hp_in1 9 (by decide +kernel) rfl), iw_X6, tyX6_ok⟩
end
section
/-! ===== THE PURE HEAP: every cell made since the law's entry, by its address; fields by their own numbers, arrays by places ===== -/
/-- next address, slots made, kind of a cell, length of an array, field of an object (by the field's number), element of an array -/
abbrev hpT : Type := Nat × Nat × (Nat → Nat) × (Nat → Nat) × (Nat → Nat → Value) × (Nat → Nat → Value)
abbrev hp_nx (h : hpT) : Nat := h.1
abbrev hp_sl (h : hpT) : Nat := h.2.1
abbrev hp_kd (h : hpT) : Nat → Nat := h.2.2.1
abbrev hp_ln (h : hpT) : Nat → Nat := h.2.2.2.1
abbrev hp_fl (h : hpT) : Nat → Nat → Value := h.2.2.2.2.1
abbrev hp_ar (h : hpT) : Nat → Nat → Value := h.2.2.2.2.2
/-- the world: classes and slots, array classes, the first new address, ArrayList's empty array, the mirror of Object[], the heap at the law's entry -/
abbrev hpG : Type := va_G × (Nat → ClassId) × Nat × Nat × Nat × Heap
abbrev hp_D (G : hpG) : va_G := G.1
abbrev hp_cA (G : hpG) : Nat → ClassId := G.2.1
abbrev hp_n0 (G : hpG) : Nat := G.2.2.1
abbrev hp_dE (G : hpG) : Nat := G.2.2.2.1
abbrev hp_mi (G : hpG) : Nat := G.2.2.2.2.1
abbrev hp_H0 (G : hpG) : Heap := G.2.2.2.2.2
/-- a frame of the machine -/
abbrev hpM := Program × Launch × Env × Room × State × MethodId × Array Value × List Frame × Method × Code
abbrev hp_R4 (M : hpM) : Room := M.2.2.2.1
abbrev hp_st (M : hpM) : State := M.2.2.2.2.1
abbrev hp_mi4 (M : hpM) : MethodId := M.2.2.2.2.2.1
abbrev hp_av (M : hpM) : Array Value := M.2.2.2.2.2.2.1
abbrev hp_bl (M : hpM) : List Frame := M.2.2.2.2.2.2.2.1
abbrev hp_mt (M : hpM) : Method := M.2.2.2.2.2.2.2.2.1
abbrev hp_cd (M : hpM) : Code := M.2.2.2.2.2.2.2.2.2
abbrev hp_LC : Nat := 600000
abbrev hp_LS : Nat := 7290000
/-! sums of slots -/
def hp_sm (f : Nat → Nat) : Nat → Nat → Nat
  | _, 0 => 0
  | a, n + 1 => f a + hp_sm f (a + 1) n
theorem hp_sm_app (f : Nat → Nat) : ∀ (n a m : Nat), hp_sm f a (n + m) = hp_sm f a n + hp_sm f (a + n) m
  | 0, a, m => by simp [hp_sm]
  | n + 1, a, m => by
    rw [show n + 1 + m = (n + m) + 1 by omega]
    show f a + hp_sm f (a + 1) (n + m) = f a + hp_sm f (a + 1) n + hp_sm f (a + (n + 1)) m
    rw [hp_sm_app f n (a + 1) m, show a + 1 + n = a + (n + 1) by omega]
    omega
theorem hp_sm_congr {f g : Nat → Nat} : ∀ (n a : Nat), (∀ i, a ≤ i → i < a + n → f i = g i) → hp_sm f a n = hp_sm g a n
  | 0, _, _ => rfl
  | n + 1, a, h => by
    show f a + hp_sm f (a + 1) n = g a + hp_sm g (a + 1) n
    rw [h a (Nat.le_refl a) (by omega), hp_sm_congr n (a + 1) (fun i h1 h2 => h i (by omega) (by omega))]
def hp_sz (H : Heap) (q : Nat) : Nat := match H[q]? with
  | some c => c.slots.size
  | none => 0
theorem hp_sm_drop (H : Heap) : ∀ (n k : Nat), H.size - k = n → ((H.toList.drop k).map (·.slots.size)).sum = hp_sm (hp_sz H) k n
  | 0, k, h => by
    rw [List.drop_eq_nil_of_le (by rw [Array.length_toList]; omega)]
    rfl
  | n + 1, k, h => by
    have hk : k < H.toList.length := by rw [Array.length_toList]; omega
    rw [List.drop_eq_getElem_cons hk, List.map_cons, List.sum_cons, hp_sm_drop H n (k + 1) (by omega)]
    show _ = hp_sz H k + hp_sm (hp_sz H) (k + 1) n
    have e : hp_sz H k = H.toList[k].slots.size := by
      have hk2 : k < H.size := by omega
      unfold hp_sz
      rw [Array.getElem?_eq_getElem hk2]
      simp
    rw [e]
/-- a cell of the heap is what the pure heap says -/
def hp_at (G : hpG) (h : hpT) (a : Nat) (H : Heap) : Prop :=
  (∃ (k : Nat) (r : vw_C), hp_kd h a = k ∧ k < 10 ∧ vwCl[k]? = some r ∧ t_OB a ((hp_D G).1 k) r.2.2 ((hp_D G).2 k) H (fun j => hp_fl h (hp_fd k j) a)) ∨
  (∃ t : Nat, hp_kd h a = 10 + t ∧ t < 6 ∧ H[a]? = some (arrV (hp_cA G t) (hp_ln h a) (hp_ar h a))) ∨
  (20 ≤ hp_kd h a ∧ ∃ cell : Cell, H[a]? = some cell ∧ cell.vm = .none)
theorem hp_at.lt {G : hpG} {h : hpT} {a : Nat} {H : Heap} (x : hp_at G h a H) : a < H.size := by
  rcases x with ⟨k, r, -, -, -, cell, h1, -⟩ | ⟨t, -, -, h1⟩ | ⟨-, cell, h1, -⟩ <;> exact (Array.getElem?_eq_some_iff.mp h1).1
theorem hp_at.kept {G : hpG} {h : hpT} {a : Nat} {H H1 : Heap} (x : hp_at G h a H) (e : H1[a]? = H[a]?) : hp_at G h a H1 := by
  rcases x with ⟨k, r, h1, h2, h3, h4⟩ | ⟨t, h1, h2, h3⟩ | ⟨h1, cell, h2, h3⟩
  · exact Or.inl ⟨k, r, h1, h2, h3, h4.kept e⟩
  · exact Or.inr (Or.inl ⟨t, h1, h2, by rw [e]; exact h3⟩)
  · exact Or.inr (Or.inr ⟨h1, cell, by rw [e]; exact h2, h3⟩)
/-- the same cell under another pure heap that says the same of it -/
theorem hp_at.to {G : hpG} {h h' : hpT} {a : Nat} {H : Heap} (x : hp_at G h a H) (e1 : hp_kd h' a = hp_kd h a) (e2 : hp_ln h' a = hp_ln h a) (e3 : ∀ f, hp_fl h' f a = hp_fl h f a) (e4 : hp_ar h' a = hp_ar h a) : hp_at G h' a H := by
  rcases x with ⟨k, r, h1, h2, h3, h4⟩ | ⟨t, h1, h2, h3⟩ | ⟨h1, cell, h2, h3⟩
  · exact Or.inl ⟨k, r, e1.trans h1, h2, h3, h4.to (fun j _ => (e3 _).symm)⟩
  · exact Or.inr (Or.inl ⟨t, e1.trans h1, h2, by rw [e2, e4]; exact h3⟩)
  · exact Or.inr (Or.inr ⟨by rw [e1]; exact h1, cell, h2, h3⟩)
/-- the heap H is the entry's, and the pure heap's cells behind it -/
def hp_R (G : hpG) (h : hpT) (H : Heap) : Prop :=
  hp_n0 G ≤ hp_nx h ∧ H.size = hp_nx h ∧ (∀ q : Nat, q < hp_n0 G → H[q]? = (hp_H0 G)[q]?) ∧ (∀ a : Nat, hp_n0 G ≤ a → a < hp_nx h → hp_at G h a H) ∧ hp_sm (hp_sz H) (hp_n0 G) (hp_nx h - hp_n0 G) = hp_sl h ∧ hp_nx h ≤ hp_n0 G + hp_LC ∧ hp_sl h ≤ hp_LS
/-- an object of class ci is at a -/
abbrev hp_is (G : hpG) (h : hpT) (a k : Nat) : Prop := hp_n0 G ≤ a ∧ a < hp_nx h ∧ hp_kd h a = k
theorem hp_R.obj {G : hpG} {h : hpT} {H : Heap} {a k : Nat} (x : hp_R G h H) (hi : hp_is G h a k) (hk : k < 10) : ∃ r : vw_C, vwCl[k]? = some r ∧ t_OB a ((hp_D G).1 k) r.2.2 ((hp_D G).2 k) H (fun j => hp_fl h (hp_fd k j) a) := by
  obtain ⟨i1, i2, i3⟩ := hi
  rcases x.2.2.2.1 a i1 i2 with ⟨k', r, h1, h2, h3, h4⟩ | ⟨t, h1, h2, h3⟩ | ⟨h1, cell, h2, h3⟩
  · rw [i3] at h1
    subst h1
    exact ⟨r, h3, h4⟩
  · omega
  · omega
theorem hp_R.arr {G : hpG} {h : hpT} {H : Heap} {a t : Nat} (x : hp_R G h H) (hi : hp_is G h a (10 + t)) (ht : t < 6) : H[a]? = some (arrV (hp_cA G t) (hp_ln h a) (hp_ar h a)) := by
  obtain ⟨i1, i2, i3⟩ := hi
  rcases x.2.2.2.1 a i1 i2 with ⟨k', r, h1, h2, h3, h4⟩ | ⟨t', h1, h2, h3⟩ | ⟨h1, cell, h2, h3⟩
  · omega
  · have e : t' = t := by omega
    subst e
    exact h3
  · omega
/-- one cell is changed, its size stays -/
theorem hp_R.upd {G : hpG} {h h' : hpT} {H H1 : Heap} {a : Nat} (x : hp_R G h H) (ha : hp_n0 G ≤ a) (e0 : hp_nx h' = hp_nx h) (e1 : hp_sl h' = hp_sl h) (z : H1.size = H.size) (o : ∀ q : Nat, q ≠ a → H1[q]? = H[q]?) (zs : hp_sz H1 a = hp_sz H a)
    (hk : ∀ b, b ≠ a → hp_kd h' b = hp_kd h b) (hl : ∀ b, b ≠ a → hp_ln h' b = hp_ln h b) (hf : ∀ f b, b ≠ a → hp_fl h' f b = hp_fl h f b) (hr : ∀ b, b ≠ a → hp_ar h' b = hp_ar h b) (hn : hp_at G h' a H1) : hp_R G h' H1 := by
  obtain ⟨x1, x2, x3, x4, x5, x6, x7⟩ := x
  refine ⟨by rw [e0]; exact x1, by rw [z, e0]; exact x2, fun q hq => ?_, fun b h1 h2 => ?_, ?_, by rw [e0]; exact x6, by rw [e1]; exact x7⟩
  · rw [o q (by omega)]
    exact x3 q hq
  · by_cases e : b = a
    · rw [e]; exact hn
    · exact ((x4 b h1 (by rw [← e0]; exact h2)).kept (o b e)).to (hk b e) (hl b e) (fun f => hf f b e) (hr b e)
  · rw [e0, e1, ← x5]
    refine hp_sm_congr _ _ (fun i _ _ => ?_)
    by_cases e : i = a
    · rw [e]; exact zs
    · unfold hp_sz
      rw [o i e]
/-- a cell is made -/
theorem hp_R.new {G : hpG} {h h' : hpT} {H H1 : Heap} {n : Nat} (x : hp_R G h H) (b1 : hp_nx h + 1 ≤ hp_n0 G + hp_LC) (b2 : hp_sl h + n ≤ hp_LS) (e0 : hp_nx h' = hp_nx h + 1) (e1 : hp_sl h' = hp_sl h + n) (z : H1.size = H.size + 1) (o : ∀ q : Nat, q < H.size → H1[q]? = H[q]?) (zs : hp_sz H1 H.size = n)
    (hk : ∀ b, b < hp_nx h → hp_kd h' b = hp_kd h b) (hl : ∀ b, b < hp_nx h → hp_ln h' b = hp_ln h b) (hf : ∀ f b, b < hp_nx h → hp_fl h' f b = hp_fl h f b) (hr : ∀ b, b < hp_nx h → hp_ar h' b = hp_ar h b) (hn : hp_at G h' (hp_nx h) H1) : hp_R G h' H1 := by
  obtain ⟨x1, x2, x3, x4, x5, x6, x7⟩ := x
  refine ⟨by omega, by rw [z, e0, x2], fun q hq => ?_, fun b h1 h2 => ?_, ?_, by omega, by omega⟩
  · rw [o q (by omega)]
    exact x3 q hq
  · by_cases e : b = hp_nx h
    · rw [e]; exact hn
    · have hb : b < hp_nx h := by omega
      exact ((x4 b h1 hb).kept (o b (by omega))).to (hk b hb) (hl b hb) (fun f => hf f b hb) (hr b hb)
  · rw [e0, e1, show hp_nx h + 1 - hp_n0 G = (hp_nx h - hp_n0 G) + 1 by omega, hp_sm_app, show hp_n0 G + (hp_nx h - hp_n0 G) = H.size by omega]
    show _ + (hp_sz H1 H.size + 0) = _
    rw [zs, Nat.add_zero, ← x5]
    congr 1
    refine hp_sm_congr _ _ (fun i _ h2 => ?_)
    unfold hp_sz
    rw [o i (by omega)]
/-! ===== what stays true of the tables ===== -/
/-- words of the tables that are not 'good' ones, but stay true as the machine warms -/
def hp_Ow (U : State) : Prop := ∀ w ∈ hp_ow, va_Nw w U
/-- what is known of a state's tables, and of the entry's heap -/
def hp_E (G : hpG) (U : State) : Prop :=
  va_K (hp_D G) vwCl (hp_tys (hp_cA G)) U ∧ hp_Ow U ∧
  vx_Zq Bundle.tN "UNASSIGNED_STACK" Bundle.steD (fun q => hp_n0 G ≤ q) U (hp_H0 G) ∧ vx_Zq Bundle.tN "SUPPRESSED_SENTINEL" Bundle.listD (fun q => hp_n0 G ≤ q) U (hp_H0 G) ∧
  va_Z "java/util/ArrayList" "DEFAULTCAPACITY_EMPTY_ELEMENTDATA" "[Ljava/lang/Object;" (.ref (hp_dE G)) (fun q => hp_n0 G ≤ q) U (hp_H0 G) ∧
  (∃ cell : Cell, (hp_H0 G)[hp_dE G]? = some cell ∧ cell.cls = hp_cA G 3 ∧ cell.slots.size = 0 ∧ ∀ q, cell.vm ≠ .statics q) ∧ hp_dE G < hp_n0 G ∧
  va_Mi "[Ljava/lang/Object;" (hp_mi G) U ∧ (∀ q ∈ hp_nc, va_Nc q.1 q.2 U)
def hp_owk : Cond → Bool
  | .methodLinkNest .. => true
  | .declares _ => true
  | .castable _ _ => true
  | .arrayOver _ => true
  | _ => false
theorem hp_ow_k : hp_ow.all hp_owk = true := by decide +kernel
theorem hp_Nw_moved {u U : State} (hW : u.WarmedH U.vm) : ∀ w : Cond, hp_owk w = true → va_Nw w u → va_Nw w U
  | .methodLinkNest .., _, hz => va_Nw.warmM hW hz
  | .declares _, _, hz => va_Nw.warmD hW hz
  | .castable a b, _, hz => va_tabs (A' := #[]) rfl (rfl : (u.setVm U.vm).vm = U.vm) (show (Cond.castable a b).before #[] (u.setVm U.vm) = true by rw [Cond.castable_setVm hW.alike]; exact hz)
  | .arrayOver C, _, hz => by
    have e : (Cond.arrayOver C).before #[] (u.setVm U.vm) = true := by rw [Cond.arrayOver_setVmC hW.alike]; exact hz
    exact e
theorem hp_Ow_moved {u U : State} (hW : u.WarmedH U.vm) (h : hp_Ow u) : hp_Ow U := fun w hw => hp_Nw_moved hW w (List.all_eq_true.mp hp_ow_k w hw) (h w hw)
end
section
/-! ===== THE JUDGEMENT: the machine at pc, over the pure heap h, with locals lo and operand stack st, comes to Q ===== -/
/-- the locals: what lo says is held; only values of one slot -/
def hp_L (ls : Array Slot) (lo : Nat → Option Value) (n : Nat) : Prop := ls.size = n ∧ lv_wf ls ∧ ∀ (i : Nat) (v : Value), lo i = some v → ls[i]? = some (.val v) ∧ v.category = 1
abbrev hp_W (M : hpM) (H : Heap) (locs : List Loc) (cells slots : Nat) (Q : State → Prop) (g : JFrame) : Prop := W M.1 M.2.1 M.2.2.1 (hp_R4 M) (hp_st M) (hp_mi4 M) (hp_av M) (hp_bl M) (hp_mt M) (hp_cd M) H locs cells slots Q g
def hp_V (M : hpM) (G : hpG) (nL : Nat) (Q : State → Prop) (h : hpT) (pc : Nat) (lo : Nat → Option Value) (st : List Value) : Prop :=
  ∀ (H : Heap) (locs : List Loc) (cells slots : Nat) (ls : Array Slot), hp_R G h H → (∀ q ∈ locs, hp_n0 G ≤ q.base) → hp_L ls lo nL → hp_W M H locs cells slots Q (F0 (hp_mi4 M) pc ls st)
/-- what holds of a frame: the machine, the method y's code, its words, its room at depth d, the pure heap h0 at its entry -/
def hp_F (M : hpM) (G : hpG) (y : MethodName) (cc : ByteArray) (nL d : Nat) (h0 : hpT) : Prop :=
  M.1.tables.exec = Jvm.exec ∧ (hp_cd M).code = cc ∧ (hp_cd M).maxLocals = nL ∧ (hp_st M).vm.findClass y.cls = some (hp_mi4 M).cls ∧ (∀ w ∈ hp_ws, w.before (hp_av M) (hp_st M) = true) ∧ (hp_mt M).locks = false ∧ (hp_mt M).name = y.name ∧
  hp_E G (hp_st M) ∧ hp_R G h0 (hp_st M).heap ∧ d ≤ (hp_R4 M).frames ∧ 41 * d ≤ (hp_R4 M).locals ∧ hp_n0 G + hp_LC ≤ (hp_R4 M).cells + hp_nx h0 ∧ hp_LS ≤ (hp_R4 M).slots + hp_sl h0 ∧ M.2.1.stackTraces = false
section HPR
variable {M : hpM} {G : hpG} {y : MethodName} {cc : ByteArray} {nL d : Nat} {h0 h : hpT} {Q : State → Prop} {pc : Nat} {lo : Nat → Option Value} {st : List Value}
theorem hp_F.ex (C : hp_F M G y cc nL d h0) : M.1.tables.exec = Jvm.exec := C.1
theorem hp_F.bc (C : hp_F M G y cc nL d h0) : (hp_cd M).code = cc := C.2.1
theorem hp_F.ml (C : hp_F M G y cc nL d h0) : (hp_cd M).maxLocals = nL := C.2.2.1
theorem hp_F.own (C : hp_F M G y cc nL d h0) : (hp_st M).vm.findClass y.cls = some (hp_mi4 M).cls := C.2.2.2.1
theorem hp_F.ws (C : hp_F M G y cc nL d h0) : ∀ w ∈ hp_ws, w.before (hp_av M) (hp_st M) = true := C.2.2.2.2.1
theorem hp_F.lk (C : hp_F M G y cc nL d h0) : (hp_mt M).locks = false := C.2.2.2.2.2.1
theorem hp_F.nm (C : hp_F M G y cc nL d h0) : (hp_mt M).name = y.name := C.2.2.2.2.2.2.1
theorem hp_F.en (C : hp_F M G y cc nL d h0) : hp_E G (hp_st M) := C.2.2.2.2.2.2.2.1
theorem hp_F.he (C : hp_F M G y cc nL d h0) : hp_R G h0 (hp_st M).heap := C.2.2.2.2.2.2.2.2.1
theorem hp_F.rf (C : hp_F M G y cc nL d h0) : d ≤ (hp_R4 M).frames := C.2.2.2.2.2.2.2.2.2.1
theorem hp_F.rl (C : hp_F M G y cc nL d h0) : 41 * d ≤ (hp_R4 M).locals := C.2.2.2.2.2.2.2.2.2.2.1
theorem hp_F.rc (C : hp_F M G y cc nL d h0) : hp_n0 G + hp_LC ≤ (hp_R4 M).cells + hp_nx h0 := C.2.2.2.2.2.2.2.2.2.2.2.1
theorem hp_F.rs (C : hp_F M G y cc nL d h0) : hp_LS ≤ (hp_R4 M).slots + hp_sl h0 := C.2.2.2.2.2.2.2.2.2.2.2.2.1
theorem hp_F.tr (C : hp_F M G y cc nL d h0) : M.2.1.stackTraces = false := C.2.2.2.2.2.2.2.2.2.2.2.2.2
theorem hp_L.at {ls : Array Slot} {n i : Nat} {v : Value} (x : hp_L ls lo n) (e : lo i = some v) : ls[i]? = some (.val v) := (x.2.2 i v e).1
theorem hp_L.store {ls : Array Slot} {n i : Nat} {v : Value} (x : hp_L ls lo n) (hi : i < n) (hc : v.category = 1) : ∃ ls', storeLocals ls i v = some ls' ∧ hp_L ls' (va_up lo i (some v)) n := by
  obtain ⟨ls', e', h'⟩ := lv_store1 (l := []) ⟨x.1, x.2.1, fun q hq => by cases hq⟩ hi hc
  refine ⟨ls', e', h'.1, h'.2.1, fun j w hw => ?_⟩
  by_cases ej : j = i
  · subst ej
    rw [va_up_self] at hw
    cases hw
    exact ⟨h'.2.2 (j, v) List.mem_cons_self, hc⟩
  · rw [va_up_ne _ _ ej] at hw
    obtain ⟨w1, w2⟩ := x.2.2 j w hw
    obtain ⟨ls2, e2, h2⟩ := lv_store1 (l := [(j, w)]) ⟨x.1, x.2.1, fun q hq => by rw [List.mem_singleton.mp hq]; exact w1⟩ hi hc
    rw [e'] at e2
    cases e2
    refine ⟨h2.2.2 (j, w) (List.mem_cons_of_mem _ (List.mem_filter.mpr ⟨List.mem_cons_self, ?_⟩)), w2⟩
    simp [ej, w2]
theorem hp_iconst (C : hp_F M G y cc nL d h0) {n : Int} {v : Int32} (dd : decode cc pc = .ok (.iconst n, 1)) (hv : Int32.ofInt n = v) (k : hp_V M G nL Q h (pc + 1) lo (.int v :: st)) : hp_V M G nL Q h pc lo (st) := fun H locs cells slots ls hR hl hL => lv_iconst C.ex C.bc dd hv (k H locs cells slots ls hR hl hL)
theorem hp_bipush (C : hp_F M G y cc nL d h0) {n : Int} {v : Int32} (dd : decode cc pc = .ok (.bipush n, 2)) (hv : (Int8.ofInt n).toInt32 = v) (k : hp_V M G nL Q h (pc + 2) lo (.int v :: st)) : hp_V M G nL Q h pc lo (st) := fun H locs cells slots ls hR hl hL => lv_bipush C.ex C.bc dd hv (k H locs cells slots ls hR hl hL)
theorem hp_sipush (C : hp_F M G y cc nL d h0) {n : Int} {v : Int32} (dd : decode cc pc = .ok (.sipush n, 3)) (hv : (Int16.ofInt n).toInt32 = v) (k : hp_V M G nL Q h (pc + 3) lo (.int v :: st)) : hp_V M G nL Q h pc lo (st) := fun H locs cells slots ls hR hl hL => lv_sipush C.ex C.bc dd hv (k H locs cells slots ls hR hl hL)
theorem hp_lconst0 (C : hp_F M G y cc nL d h0) (dd : decode cc pc = .ok (.lconst 0, 1)) (k : hp_V M G nL Q h (pc + 1) lo (.long 0 :: st)) : hp_V M G nL Q h pc lo (st) := fun H locs cells slots ls hR hl hL => lv_lconst C.ex C.bc dd rfl (k H locs cells slots ls hR hl hL)
theorem hp_lconst1 (C : hp_F M G y cc nL d h0) (dd : decode cc pc = .ok (.lconst 1, 1)) (k : hp_V M G nL Q h (pc + 1) lo (.long 1 :: st)) : hp_V M G nL Q h pc lo (st) := fun H locs cells slots ls hR hl hL => lv_lconst C.ex C.bc dd rfl (k H locs cells slots ls hR hl hL)
theorem hp_null (C : hp_F M G y cc nL d h0) (dd : decode cc pc = .ok (.aconst_null, 1)) (k : hp_V M G nL Q h (pc + 1) lo (.null :: st)) : hp_V M G nL Q h pc lo (st) := fun H locs cells slots ls hR hl hL => lv_null C.ex C.bc dd (k H locs cells slots ls hR hl hL)
theorem hp_iadd (C : hp_F M G y cc nL d h0) {x z : Int32} (dd : decode cc pc = .ok (.iadd, 1)) (k : hp_V M G nL Q h (pc + 1) lo (.int (x + z) :: st)) : hp_V M G nL Q h pc lo (.int z :: .int x :: st) := fun H locs cells slots ls hR hl hL => lv_iadd C.ex C.bc dd (k H locs cells slots ls hR hl hL)
theorem hp_isub (C : hp_F M G y cc nL d h0) {x z : Int32} (dd : decode cc pc = .ok (.isub, 1)) (k : hp_V M G nL Q h (pc + 1) lo (.int (x - z) :: st)) : hp_V M G nL Q h pc lo (.int z :: .int x :: st) := fun H locs cells slots ls hR hl hL => lv_isub C.ex C.bc dd (k H locs cells slots ls hR hl hL)
theorem hp_imul (C : hp_F M G y cc nL d h0) {x z : Int32} (dd : decode cc pc = .ok (.imul, 1)) (k : hp_V M G nL Q h (pc + 1) lo (.int (x * z) :: st)) : hp_V M G nL Q h pc lo (.int z :: .int x :: st) := fun H locs cells slots ls hR hl hL => lv_imul C.ex C.bc dd (k H locs cells slots ls hR hl hL)
theorem hp_iand (C : hp_F M G y cc nL d h0) {x z : Int32} (dd : decode cc pc = .ok (.iand, 1)) (k : hp_V M G nL Q h (pc + 1) lo (.int (x &&& z) :: st)) : hp_V M G nL Q h pc lo (.int z :: .int x :: st) := fun H locs cells slots ls hR hl hL => lv_iand C.ex C.bc dd (k H locs cells slots ls hR hl hL)
theorem hp_ishr (C : hp_F M G y cc nL d h0) {x z : Int32} (dd : decode cc pc = .ok (.ishr, 1)) (k : hp_V M G nL Q h (pc + 1) lo (.int (x >>> (z &&& 31)) :: st)) : hp_V M G nL Q h pc lo (.int z :: .int x :: st) := fun H locs cells slots ls hR hl hL => lv_ishr C.ex C.bc dd (k H locs cells slots ls hR hl hL)
theorem hp_idiv (C : hp_F M G y cc nL d h0) {x z : Int32} (dd : decode cc pc = .ok (.idiv, 1)) (hz : ¬ z = 0) (k : hp_V M G nL Q h (pc + 1) lo (.int (x / z) :: st)) : hp_V M G nL Q h pc lo (.int z :: .int x :: st) := fun H locs cells slots ls hR hl hL => lv_idiv C.ex C.bc dd hz (k H locs cells slots ls hR hl hL)
theorem hp_i2l (C : hp_F M G y cc nL d h0) {x : Int32} (dd : decode cc pc = .ok (.i2l, 1)) (k : hp_V M G nL Q h (pc + 1) lo (.long x.toInt64 :: st)) : hp_V M G nL Q h pc lo (.int x :: st) := fun H locs cells slots ls hR hl hL => lv_i2l C.ex C.bc dd rfl (k H locs cells slots ls hR hl hL)
theorem hp_dup (C : hp_F M G y cc nL d h0) {v : Value} (dd : decode cc pc = .ok (.dup, 1)) (hv : v.category = 1) (k : hp_V M G nL Q h (pc + 1) lo (v :: v :: st)) : hp_V M G nL Q h pc lo (v :: st) := fun H locs cells slots ls hR hl hL => lv_dup C.ex C.bc dd hv (k H locs cells slots ls hR hl hL)
theorem hp_pop (C : hp_F M G y cc nL d h0) {v : Value} (dd : decode cc pc = .ok (.pop, 1)) (hv : v.category = 1) (k : hp_V M G nL Q h (pc + 1) lo (st)) : hp_V M G nL Q h pc lo (v :: st) := fun H locs cells slots ls hR hl hL => lv_pop C.ex C.bc dd hv (k H locs cells slots ls hR hl hL)
theorem hp_dup_x1 (C : hp_F M G y cc nL d h0) {v w : Value} (dd : decode cc pc = .ok (.dup_x1, 1)) (hv : v.category = 1) (hw : w.category = 1) (k : hp_V M G nL Q h (pc + 1) lo (v :: w :: v :: st)) : hp_V M G nL Q h pc lo (v :: w :: st) := fun H locs cells slots ls hR hl hL => lv_dup_x1 C.ex C.bc dd hv hw (k H locs cells slots ls hR hl hL)
theorem hp_dup2 (C : hp_F M G y cc nL d h0) {v w : Value} (dd : decode cc pc = .ok (.dup2, 1)) (hv : v.category = 1) (hw : w.category = 1) (k : hp_V M G nL Q h (pc + 1) lo (v :: w :: v :: w :: st)) : hp_V M G nL Q h pc lo (v :: w :: st) := fun H locs cells slots ls hR hl hL => lv_dup2_11 C.ex C.bc dd hv hw (k H locs cells slots ls hR hl hL)
theorem hp_lcmp (C : hp_F M G y cc nL d h0) {x z : Int64} (dd : decode cc pc = .ok (.lcmp, 1)) (k : hp_V M G nL Q h (pc + 1) lo (.int (lg_cmp x z) :: st)) : hp_V M G nL Q h pc lo (.long z :: .long x :: st) := fun H locs cells slots ls hR hl hL => W.lcmp C.ex C.bc dd (k H locs cells slots ls hR hl hL)
theorem hp_iload (C : hp_F M G y cc nL d h0) {i : Nat} {x : Int32} (dd : decode cc pc = .ok (.iload i, 2)) (e : lo i = some (.int x)) (k : hp_V M G nL Q h (pc + 2) lo (.int x :: st)) : hp_V M G nL Q h pc lo (st) := fun H locs cells slots ls hR hl hL => lv_iload C.ex C.bc dd (hL.at e) (k H locs cells slots ls hR hl hL)
theorem hp_iload_n (C : hp_F M G y cc nL d h0) {n : Fin 4} {x : Int32} (dd : decode cc pc = .ok (.iload_n n, 1)) (e : lo (n : Nat) = some (.int x)) (k : hp_V M G nL Q h (pc + 1) lo (.int x :: st)) : hp_V M G nL Q h pc lo (st) := fun H locs cells slots ls hR hl hL => lv_iload_n C.ex C.bc dd rfl (hL.at e) (k H locs cells slots ls hR hl hL)
theorem hp_aload (C : hp_F M G y cc nL d h0) {i : Nat} {r : Option Nat} (dd : decode cc pc = .ok (.aload i, 2)) (e : lo i = some (va_rf r)) (k : hp_V M G nL Q h (pc + 2) lo (va_rf r :: st)) : hp_V M G nL Q h pc lo st := by
  intro H locs cells slots ls hR hl hL
  cases r with
  | none => exact lv_aloadN C.ex C.bc dd (hL.at e) (k H locs cells slots ls hR hl hL)
  | some x => exact lv_aload C.ex C.bc dd (hL.at e) (k H locs cells slots ls hR hl hL)
theorem hp_aloadR (C : hp_F M G y cc nL d h0) {i : Nat} {x : Nat} (dd : decode cc pc = .ok (.aload i, 2)) (e : lo i = some (.ref x)) (k : hp_V M G nL Q h (pc + 2) lo (.ref x :: st)) : hp_V M G nL Q h pc lo st := hp_aload (r := some x) C dd e k
theorem hp_aload_n (C : hp_F M G y cc nL d h0) {n : Fin 4} {r : Option Nat} (dd : decode cc pc = .ok (.aload_n n, 1)) (e : lo (n : Nat) = some (va_rf r)) (k : hp_V M G nL Q h (pc + 1) lo (va_rf r :: st)) : hp_V M G nL Q h pc lo st := by
  intro H locs cells slots ls hR hl hL
  cases r with
  | none => exact lv_aload_nN C.ex C.bc dd rfl (hL.at e) (k H locs cells slots ls hR hl hL)
  | some x => exact lv_aload_n C.ex C.bc dd rfl (hL.at e) (k H locs cells slots ls hR hl hL)
theorem hp_aload_nR (C : hp_F M G y cc nL d h0) {n : Fin 4} {x : Nat} (dd : decode cc pc = .ok (.aload_n n, 1)) (e : lo (n : Nat) = some (.ref x)) (k : hp_V M G nL Q h (pc + 1) lo (.ref x :: st)) : hp_V M G nL Q h pc lo st := hp_aload_n (r := some x) C dd e k
theorem hp_istore (C : hp_F M G y cc nL d h0) {i : Nat} {x : Int32} (dd : decode cc pc = .ok (.istore i, 2)) (hn : i < nL) (k : hp_V M G nL Q h (pc + 2) (va_up lo i (some (.int x))) st) : hp_V M G nL Q h pc lo (.int x :: st) := by
  intro H locs cells slots ls hR hl hL
  have hb := C.bc
  have hx := C.ex
  obtain ⟨ls', e', h'⟩ := hL.store (v := .int x) hn rfl
  intro T hT X
  obtain ⟨t, a, b⟩ := k H locs cells slots ls' hR hl h' T hT X
  refine ⟨t, ?_, b⟩
  jvm_step X.here [X.here.top, ↓top_set X.here.top, hx, hb, dd, e']
  exact a
theorem hp_istore_n (C : hp_F M G y cc nL d h0) {n : Fin 4} {x : Int32} (dd : decode cc pc = .ok (.istore_n n, 1)) (hn : (n : Nat) < nL) (k : hp_V M G nL Q h (pc + 1) (va_up lo (n : Nat) (some (.int x))) st) : hp_V M G nL Q h pc lo (.int x :: st) := by
  intro H locs cells slots ls hR hl hL
  have hb := C.bc
  have hx := C.ex
  obtain ⟨ls', e', h'⟩ := hL.store (v := .int x) hn rfl
  intro T hT X
  obtain ⟨t, a, b⟩ := k H locs cells slots ls' hR hl h' T hT X
  refine ⟨t, ?_, b⟩
  jvm_step X.here [X.here.top, ↓top_set X.here.top, hx, hb, dd, e']
  exact a
theorem hp_astore (C : hp_F M G y cc nL d h0) {i : Nat} {r : Option Nat} (dd : decode cc pc = .ok (.astore i, 2)) (hn : i < nL) (k : hp_V M G nL Q h (pc + 2) (va_up lo i (some (va_rf r))) st) : hp_V M G nL Q h pc lo (va_rf r :: st) := by
  intro H locs cells slots ls hR hl hL
  have hb := C.bc
  have hx := C.ex
  cases r with
  | none =>
    obtain ⟨ls', e', h'⟩ := hL.store (v := .null) hn rfl
    intro T hT X
    obtain ⟨t, a, b⟩ := k H locs cells slots ls' hR hl h' T hT X
    refine ⟨t, ?_, b⟩
    jvm_step X.here [X.here.top, ↓top_set X.here.top, hx, hb, dd, e', va_rf, Value.isRef]
    exact a
  | some z =>
    obtain ⟨ls', e', h'⟩ := hL.store (v := .ref z) hn rfl
    intro T hT X
    obtain ⟨t, a, b⟩ := k H locs cells slots ls' hR hl h' T hT X
    refine ⟨t, ?_, b⟩
    jvm_step X.here [X.here.top, ↓top_set X.here.top, hx, hb, dd, e', va_rf, Value.isRef]
    exact a
theorem hp_astore_n (C : hp_F M G y cc nL d h0) {n : Fin 4} {r : Option Nat} (dd : decode cc pc = .ok (.astore_n n, 1)) (hn : (n : Nat) < nL) (k : hp_V M G nL Q h (pc + 1) (va_up lo (n : Nat) (some (va_rf r))) st) : hp_V M G nL Q h pc lo (va_rf r :: st) := by
  intro H locs cells slots ls hR hl hL
  have hb := C.bc
  have hx := C.ex
  cases r with
  | none =>
    obtain ⟨ls', e', h'⟩ := hL.store (v := .null) hn rfl
    intro T hT X
    obtain ⟨t, a, b⟩ := k H locs cells slots ls' hR hl h' T hT X
    refine ⟨t, ?_, b⟩
    jvm_step X.here [X.here.top, ↓top_set X.here.top, hx, hb, dd, e', va_rf, Value.isRef]
    exact a
  | some z =>
    obtain ⟨ls', e', h'⟩ := hL.store (v := .ref z) hn rfl
    intro T hT X
    obtain ⟨t, a, b⟩ := k H locs cells slots ls' hR hl h' T hT X
    refine ⟨t, ?_, b⟩
    jvm_step X.here [X.here.top, ↓top_set X.here.top, hx, hb, dd, e', va_rf, Value.isRef]
    exact a
theorem hp_iinc (C : hp_F M G y cc nL d h0) {i : Nat} {n : Int} {x v : Int32} (dd : decode cc pc = .ok (.iinc i n, 3)) (e : lo i = some (.int x)) (hn : i < nL) (hv : x + Int32.ofInt n = v) (k : hp_V M G nL Q h (pc + 3) (va_up lo i (some (.int v))) st) : hp_V M G nL Q h pc lo st := by
  intro H locs cells slots ls hR hl hL
  subst hv
  have hb := C.bc
  have hx := C.ex
  have hg := hL.at e
  obtain ⟨ls', e', h'⟩ := hL.store (v := .int (x + Int32.ofInt n)) hn rfl
  intro T hT X
  obtain ⟨t, a, b⟩ := k H locs cells slots ls' hR hl h' T hT X
  refine ⟨t, ?_, b⟩
  jvm_step X.here [X.here.top, ↓top_set X.here.top, hx, hb, dd, hg, e']
  exact a
theorem hp_if_eq (C : hp_F M G y cc nL d h0) {x : Int32} {off : Int} {tgt : Nat} (dd : decode cc pc = .ok (.ifCond .eq off, 3)) (ht : (pc : Int) + off = (tgt : Int)) (kt : x = 0 → hp_V M G nL Q h tgt lo st) (kf : ¬ (x = 0) → hp_V M G nL Q h (pc + 3) lo st) : hp_V M G nL Q h pc lo (.int x :: st) := fun H locs cells slots ls hR hl hL => lv_if_eq C.ex C.bc dd ht (fun z9 => kt z9 H locs cells slots ls hR hl hL) (fun z9 => kf z9 H locs cells slots ls hR hl hL)
theorem hp_icmp_eq (C : hp_F M G y cc nL d h0) {x z : Int32} {off : Int} {tgt : Nat} (dd : decode cc pc = .ok (.if_icmp .eq off, 3)) (ht : (pc : Int) + off = (tgt : Int)) (kt : x = z → hp_V M G nL Q h tgt lo st) (kf : ¬ (x = z) → hp_V M G nL Q h (pc + 3) lo st) : hp_V M G nL Q h pc lo (.int z :: .int x :: st) := fun H locs cells slots ls hR hl hL => lv_icmp_eq C.ex C.bc dd ht (fun z9 => kt z9 H locs cells slots ls hR hl hL) (fun z9 => kf z9 H locs cells slots ls hR hl hL)
theorem hp_if_ne (C : hp_F M G y cc nL d h0) {x : Int32} {off : Int} {tgt : Nat} (dd : decode cc pc = .ok (.ifCond .ne off, 3)) (ht : (pc : Int) + off = (tgt : Int)) (kt : ¬ x = 0 → hp_V M G nL Q h tgt lo st) (kf : x = 0 → hp_V M G nL Q h (pc + 3) lo st) : hp_V M G nL Q h pc lo (.int x :: st) := fun H locs cells slots ls hR hl hL => lv_if_ne C.ex C.bc dd ht (fun z9 => kt z9 H locs cells slots ls hR hl hL) (fun z9 => kf z9 H locs cells slots ls hR hl hL)
theorem hp_icmp_ne (C : hp_F M G y cc nL d h0) {x z : Int32} {off : Int} {tgt : Nat} (dd : decode cc pc = .ok (.if_icmp .ne off, 3)) (ht : (pc : Int) + off = (tgt : Int)) (kt : ¬ x = z → hp_V M G nL Q h tgt lo st) (kf : x = z → hp_V M G nL Q h (pc + 3) lo st) : hp_V M G nL Q h pc lo (.int z :: .int x :: st) := fun H locs cells slots ls hR hl hL => lv_icmp_ne C.ex C.bc dd ht (fun z9 => kt z9 H locs cells slots ls hR hl hL) (fun z9 => kf z9 H locs cells slots ls hR hl hL)
theorem hp_if_lt (C : hp_F M G y cc nL d h0) {x : Int32} {off : Int} {tgt : Nat} (dd : decode cc pc = .ok (.ifCond .lt off, 3)) (ht : (pc : Int) + off = (tgt : Int)) (kt : x < 0 → hp_V M G nL Q h tgt lo st) (kf : ¬ (x < 0) → hp_V M G nL Q h (pc + 3) lo st) : hp_V M G nL Q h pc lo (.int x :: st) := fun H locs cells slots ls hR hl hL => lv_if_lt C.ex C.bc dd ht (fun z9 => kt z9 H locs cells slots ls hR hl hL) (fun z9 => kf z9 H locs cells slots ls hR hl hL)
theorem hp_icmp_lt (C : hp_F M G y cc nL d h0) {x z : Int32} {off : Int} {tgt : Nat} (dd : decode cc pc = .ok (.if_icmp .lt off, 3)) (ht : (pc : Int) + off = (tgt : Int)) (kt : x < z → hp_V M G nL Q h tgt lo st) (kf : ¬ (x < z) → hp_V M G nL Q h (pc + 3) lo st) : hp_V M G nL Q h pc lo (.int z :: .int x :: st) := fun H locs cells slots ls hR hl hL => lv_icmp_lt C.ex C.bc dd ht (fun z9 => kt z9 H locs cells slots ls hR hl hL) (fun z9 => kf z9 H locs cells slots ls hR hl hL)
theorem hp_if_ge (C : hp_F M G y cc nL d h0) {x : Int32} {off : Int} {tgt : Nat} (dd : decode cc pc = .ok (.ifCond .ge off, 3)) (ht : (pc : Int) + off = (tgt : Int)) (kt : 0 ≤ x → hp_V M G nL Q h tgt lo st) (kf : ¬ (0 ≤ x) → hp_V M G nL Q h (pc + 3) lo st) : hp_V M G nL Q h pc lo (.int x :: st) := fun H locs cells slots ls hR hl hL => lv_if_ge C.ex C.bc dd ht (fun z9 => kt z9 H locs cells slots ls hR hl hL) (fun z9 => kf z9 H locs cells slots ls hR hl hL)
theorem hp_icmp_ge (C : hp_F M G y cc nL d h0) {x z : Int32} {off : Int} {tgt : Nat} (dd : decode cc pc = .ok (.if_icmp .ge off, 3)) (ht : (pc : Int) + off = (tgt : Int)) (kt : z ≤ x → hp_V M G nL Q h tgt lo st) (kf : ¬ (z ≤ x) → hp_V M G nL Q h (pc + 3) lo st) : hp_V M G nL Q h pc lo (.int z :: .int x :: st) := fun H locs cells slots ls hR hl hL => lv_icmp_ge C.ex C.bc dd ht (fun z9 => kt z9 H locs cells slots ls hR hl hL) (fun z9 => kf z9 H locs cells slots ls hR hl hL)
theorem hp_if_gt (C : hp_F M G y cc nL d h0) {x : Int32} {off : Int} {tgt : Nat} (dd : decode cc pc = .ok (.ifCond .gt off, 3)) (ht : (pc : Int) + off = (tgt : Int)) (kt : 0 < x → hp_V M G nL Q h tgt lo st) (kf : ¬ (0 < x) → hp_V M G nL Q h (pc + 3) lo st) : hp_V M G nL Q h pc lo (.int x :: st) := fun H locs cells slots ls hR hl hL => lv_if_gt C.ex C.bc dd ht (fun z9 => kt z9 H locs cells slots ls hR hl hL) (fun z9 => kf z9 H locs cells slots ls hR hl hL)
theorem hp_icmp_gt (C : hp_F M G y cc nL d h0) {x z : Int32} {off : Int} {tgt : Nat} (dd : decode cc pc = .ok (.if_icmp .gt off, 3)) (ht : (pc : Int) + off = (tgt : Int)) (kt : z < x → hp_V M G nL Q h tgt lo st) (kf : ¬ (z < x) → hp_V M G nL Q h (pc + 3) lo st) : hp_V M G nL Q h pc lo (.int z :: .int x :: st) := fun H locs cells slots ls hR hl hL => lv_icmp_gt C.ex C.bc dd ht (fun z9 => kt z9 H locs cells slots ls hR hl hL) (fun z9 => kf z9 H locs cells slots ls hR hl hL)
theorem hp_if_le (C : hp_F M G y cc nL d h0) {x : Int32} {off : Int} {tgt : Nat} (dd : decode cc pc = .ok (.ifCond .le off, 3)) (ht : (pc : Int) + off = (tgt : Int)) (kt : x ≤ 0 → hp_V M G nL Q h tgt lo st) (kf : ¬ (x ≤ 0) → hp_V M G nL Q h (pc + 3) lo st) : hp_V M G nL Q h pc lo (.int x :: st) := fun H locs cells slots ls hR hl hL => lv_if_le C.ex C.bc dd ht (fun z9 => kt z9 H locs cells slots ls hR hl hL) (fun z9 => kf z9 H locs cells slots ls hR hl hL)
theorem hp_icmp_le (C : hp_F M G y cc nL d h0) {x z : Int32} {off : Int} {tgt : Nat} (dd : decode cc pc = .ok (.if_icmp .le off, 3)) (ht : (pc : Int) + off = (tgt : Int)) (kt : x ≤ z → hp_V M G nL Q h tgt lo st) (kf : ¬ (x ≤ z) → hp_V M G nL Q h (pc + 3) lo st) : hp_V M G nL Q h pc lo (.int z :: .int x :: st) := fun H locs cells slots ls hR hl hL => lv_icmp_le C.ex C.bc dd ht (fun z9 => kt z9 H locs cells slots ls hR hl hL) (fun z9 => kf z9 H locs cells slots ls hR hl hL)
theorem hp_goto (C : hp_F M G y cc nL d h0) {off : Int} {tgt : Nat} (dd : decode cc pc = .ok (.goto off, 3)) (ht : (pc : Int) + off = (tgt : Int)) (k : hp_V M G nL Q h tgt lo st) : hp_V M G nL Q h pc lo st := fun H locs cells slots ls hR hl hL => lv_goto C.ex C.bc dd ht (k H locs cells slots ls hR hl hL)
theorem hp_acmp_eq (C : hp_F M G y cc nL d h0) {r q : Option Nat} {off : Int} {tgt : Nat} (dd : decode cc pc = .ok (.if_acmp .eq off, 3)) (ht : (pc : Int) + off = (tgt : Int)) (kt : r = q → hp_V M G nL Q h tgt lo st) (kf : ¬ r = q → hp_V M G nL Q h (pc + 3) lo st) : hp_V M G nL Q h pc lo (va_rf q :: va_rf r :: st) := fun H locs cells slots ls hR hl hL => lv_acmp_eq C.ex C.bc dd ht (fun z9 => kt z9 H locs cells slots ls hR hl hL) (fun z9 => kf z9 H locs cells slots ls hR hl hL)
theorem hp_acmp_ne (C : hp_F M G y cc nL d h0) {r q : Option Nat} {off : Int} {tgt : Nat} (dd : decode cc pc = .ok (.if_acmp .ne off, 3)) (ht : (pc : Int) + off = (tgt : Int)) (kt : ¬ r = q → hp_V M G nL Q h tgt lo st) (kf : r = q → hp_V M G nL Q h (pc + 3) lo st) : hp_V M G nL Q h pc lo (va_rf q :: va_rf r :: st) := fun H locs cells slots ls hR hl hL => lv_acmp_ne C.ex C.bc dd ht (fun z9 => kt z9 H locs cells slots ls hR hl hL) (fun z9 => kf z9 H locs cells slots ls hR hl hL)
theorem hp_ifnull (C : hp_F M G y cc nL d h0) {r : Option Nat} {off : Int} {tgt : Nat} (dd : decode cc pc = .ok (.ifnull off, 3)) (ht : (pc : Int) + off = (tgt : Int)) (kt : r = none → hp_V M G nL Q h tgt lo st) (kf : ∀ x, r = some x → hp_V M G nL Q h (pc + 3) lo st) : hp_V M G nL Q h pc lo (va_rf r :: st) := by
  intro H locs cells slots ls hR hl hL
  cases r with
  | none => exact lv_ifnullN C.ex C.bc dd ht (kt rfl H locs cells slots ls hR hl hL)
  | some x => exact lv_ifnull C.ex C.bc dd (kf x rfl H locs cells slots ls hR hl hL)
theorem hp_ifnonnull (C : hp_F M G y cc nL d h0) {r : Option Nat} {off : Int} {tgt : Nat} (dd : decode cc pc = .ok (.ifnonnull off, 3)) (ht : (pc : Int) + off = (tgt : Int)) (kt : ∀ x, r = some x → hp_V M G nL Q h tgt lo st) (kf : r = none → hp_V M G nL Q h (pc + 3) lo st) : hp_V M G nL Q h pc lo (va_rf r :: st) := by
  intro H locs cells slots ls hR hl hL
  cases r with
  | none => exact lv_ifnonnullN C.ex C.bc dd (kf rfl H locs cells slots ls hR hl hL)
  | some x => exact lv_ifnonnull C.ex C.bc dd ht (kt x rfl H locs cells slots ls hR hl hL)
theorem hp_tableOut (C : hp_F M G y cc nL d h0) {dflt low hi : Int} {offs : Array Int} {len : Nat} {x : Int32} {tgt : Nat} (dd : decode cc pc = .ok (.tableswitch dflt low hi offs, len)) (hx : x.toInt < low ∨ hi < x.toInt) (ht : (pc : Int) + dflt = (tgt : Int)) (k : hp_V M G nL Q h tgt lo st) : hp_V M G nL Q h pc lo (.int x :: st) := fun H locs cells slots ls hR hl hL => lv_tableOut C.ex C.bc dd hx ht (k H locs cells slots ls hR hl hL)
theorem hp_tableIn (C : hp_F M G y cc nL d h0) {dflt low hi : Int} {offs : Array Int} {len : Nat} {x : Int32} {off : Int} {tgt : Nat} (dd : decode cc pc = .ok (.tableswitch dflt low hi offs, len)) (h1 : ¬ x.toInt < low) (h2 : ¬ hi < x.toInt) (ho : offs[(x.toInt - low).toNat]? = some off) (ht : (pc : Int) + off = (tgt : Int)) (k : hp_V M G nL Q h tgt lo st) : hp_V M G nL Q h pc lo (.int x :: st) := fun H locs cells slots ls hR hl hL => lv_tableIn C.ex C.bc dd h1 h2 ho ht (k H locs cells slots ls hR hl hL)
theorem hp_ldc (C : hp_F M G y cc nL d h0) {index : Nat} {v : Int32} (hc : Cond.constant y.cls index v ∈ hp_ws) (dd : decode cc pc = .ok (.ldc index, 2)) (k : hp_V M G nL Q h (pc + 2) lo (.int v :: st)) : hp_V M G nL Q h pc lo st := fun H locs cells slots ls hR hl hL => lv_ldc C.ex C.bc C.own (C.ws _ hc) dd (k H locs cells slots ls hR hl hL)
end HPR
end
section
/-! ===== rows that touch the heap ===== -/
def hp_put (h : hpT) (f a : Nat) (v : Value) : hpT := (h.1, h.2.1, h.2.2.1, h.2.2.2.1, va_up (hp_fl h) f (va_up (hp_fl h f) a v), h.2.2.2.2.2)
def hp_set (h : hpT) (a i : Nat) (v : Value) : hpT := (h.1, h.2.1, h.2.2.1, h.2.2.2.1, h.2.2.2.2.1, va_up (hp_ar h) a (va_up (hp_ar h a) i v))
def hp_mk (h : hpT) (c n : Nat) : hpT := (h.1 + 1, h.2.1 + n, va_up (hp_kd h) h.1 c, h.2.2.2.1, (fun f => va_up (hp_fl h f) h.1 (hp_dv c f)), h.2.2.2.2.2)
def hp_mkA (h : hpT) (t n : Nat) (v : Value) : hpT := (h.1 + 1, h.2.1 + n, va_up (hp_kd h) h.1 (10 + t), va_up (hp_ln h) h.1 n, h.2.2.2.2.1, va_up (hp_ar h) h.1 (fun _ => v))
theorem hp_put_fl (h : hpT) (f a g b : Nat) (v : Value) : hp_fl (hp_put h f a v) g b = if g = f then (if b = a then v else hp_fl h f b) else hp_fl h g b := by
  show va_up (hp_fl h) f (va_up (hp_fl h f) a v) g b = _
  by_cases e : g = f
  · subst e
    rw [va_up_self, if_pos rfl]
    by_cases e2 : b = a
    · subst e2
      rw [va_up_self, if_pos rfl]
    · rw [va_up_ne _ _ e2, if_neg e2]
  · rw [va_up_ne _ _ e, if_neg e]
theorem hp_set_ar (h : hpT) (a i b j : Nat) (v : Value) : hp_ar (hp_set h a i v) b j = if b = a then (if j = i then v else hp_ar h a j) else hp_ar h b j := by
  show va_up (hp_ar h) a (va_up (hp_ar h a) i v) b j = _
  by_cases e : b = a
  · subst e
    rw [va_up_self, if_pos rfl]
    by_cases e2 : j = i
    · subst e2
      rw [va_up_self, if_pos rfl]
    · rw [va_up_ne _ _ e2, if_neg e2]
  · rw [va_up_ne _ _ e, if_neg e]
section HPH
variable {M : hpM} {G : hpG} {y : MethodName} {cc : ByteArray} {nL d : Nat} {h0 h : hpT} {Q : State → Prop} {pc : Nat} {lo : Nat → Option Value} {st : List Value}
/-- the counters are known by the heap itself -/
theorem hp_stand (C : hp_F M G y cc nL d h0) {H : Heap} {locs : List Loc} {cells slots : Nat} {T : State} (hR : hp_R G h H) (hT : T.heap = H) (X : Stand M.1 M.2.1 M.2.2.1 (hp_R4 M) (hp_st M) (hp_mi4 M) (hp_av M) (hp_bl M) (hp_mt M) (hp_cd M) T locs cells slots) :
    hp_nx h0 ≤ hp_nx h ∧ hp_sl h0 ≤ hp_sl h ∧ Stand M.1 M.2.1 M.2.2.1 (hp_R4 M) (hp_st M) (hp_mi4 M) (hp_av M) (hp_bl M) (hp_mt M) (hp_cd M) T locs (hp_nx h - hp_nx h0) (hp_sl h - hp_sl h0) := by
  obtain ⟨e1, e2, e3, e4, e5, e6⟩ := X.same
  have z0 : (hp_st M).heap.size = hp_nx h0 := C.he.2.1
  have z1 : T.heap.size = hp_nx h := by rw [hT]; exact hR.2.1
  have hle : (hp_st M).heap.size ≤ T.heap.size := e2
  have hn0 := C.he.1
  have hn1 := hR.1
  have a9 : hp_sl h = hp_sl h0 + hp_sm (hp_sz T.heap) (hp_st M).heap.size (hp_nx h - hp_nx h0) := by
    have a1 : hp_sm (hp_sz T.heap) (hp_n0 G) (hp_nx h - hp_n0 G) = hp_sl h := by rw [hT]; exact hR.2.2.2.2.1
    have a2 : hp_sm (hp_sz (hp_st M).heap) (hp_n0 G) (hp_nx h0 - hp_n0 G) = hp_sl h0 := C.he.2.2.2.2.1
    have a3 : hp_sm (hp_sz T.heap) (hp_n0 G) (hp_nx h0 - hp_n0 G) = hp_sl h0 := by
      rw [← a2]
      refine hp_sm_congr _ _ (fun i h1 h2 => ?_)
      have hlt : i < (hp_st M).heap.size := by omega
      obtain ⟨c', q1, -, q3, -⟩ := e6 i _ (Array.getElem?_eq_getElem hlt)
      have q1' : T.heap[i]? = some c' := q1
      unfold hp_sz
      rw [q1', Array.getElem?_eq_getElem hlt]
      exact q3
    have a4 := hp_sm_app (hp_sz T.heap) (hp_nx h0 - hp_n0 G) (hp_n0 G) (hp_nx h - hp_nx h0)
    rw [show hp_nx h0 - hp_n0 G + (hp_nx h - hp_nx h0) = hp_nx h - hp_n0 G by omega, show hp_n0 G + (hp_nx h0 - hp_n0 G) = (hp_st M).heap.size by omega, a1, a3] at a4
    exact a4
  refine ⟨by omega, by omega, { X with same := ⟨e1, e2, ?_, e4, ?_, e6⟩ }⟩
  · show T.heap.size ≤ _
    omega
  · show ((T.heap.toList.drop (hp_st M).heap.size).map (·.slots.size)).sum ≤ _
    rw [hp_sm_drop T.heap (hp_nx h - hp_nx h0) _ (by omega)]
    omega
theorem hp_tight (C : hp_F M G y cc nL d h0) {H : Heap} {locs : List Loc} {cells slots : Nat} {g : JFrame} (hR : hp_R G h H) (k : hp_nx h0 ≤ hp_nx h → hp_sl h0 ≤ hp_sl h → hp_W M H locs (hp_nx h - hp_nx h0) (hp_sl h - hp_sl h0) Q g) : hp_W M H locs cells slots Q g := by
  intro T hT X
  obtain ⟨a, b, Y⟩ := hp_stand C hR hT X
  exact k a b T hT Y
abbrev hp_WX (M : hpM) (H : Heap) (locs : List Loc) (cells slots : Nat) (Q : State → Prop) (g : JFrame) (q : Addr) : Prop := vx_W M.1 M.2.1 M.2.2.1 (hp_R4 M) (hp_st M) (hp_mi4 M) (hp_av M) (hp_bl M) (hp_mt M) (hp_cd M) H locs cells slots Q g q
theorem hp_tightX (C : hp_F M G y cc nL d h0) {H : Heap} {locs : List Loc} {cells slots : Nat} {g : JFrame} {q : Addr} (hR : hp_R G h H) (k : hp_nx h0 ≤ hp_nx h → hp_sl h0 ≤ hp_sl h → hp_WX M H locs (hp_nx h - hp_nx h0) (hp_sl h - hp_sl h0) Q g q) : hp_WX M H locs cells slots Q g q := by
  intro T hT X
  obtain ⟨a, b, Y⟩ := hp_stand C hR hT X
  exact k a b T hT Y
theorem hp_get (C : hp_F M G y cc nL d h0) {a idx ci k : Nat} {v : Value} (fl : hp_FL y.cls idx ci k) (dd : decode cc pc = .ok (.getfield idx, 3)) (hi : hp_is G h a ci) (ev : hp_fl h (hp_fd ci k) a = v) (kk : hp_V M G nL Q h (pc + 3) lo (v :: st)) : hp_V M G nL Q h pc lo (.ref a :: st) := by
  obtain ⟨ref, C', T, N, hc, hk, hN, h10, hw, hs, hin, hty, hnm⟩ := fl
  intro H locs cells slots ls hR hl hL
  obtain ⟨r, hr, cell, q1, q2, q3, q4⟩ := hR.obj hi h10
  have e : r = (C', T, N) := Option.some.inj (hr.symm.trans hc)
  subst e
  obtain ⟨hS, hfc, kC, hkC, hkind⟩ := C.en.1.1 ci _ hc
  obtain ⟨cf, kf, fi, f, hfi, hsl⟩ := hS k hk
  have hsame : (hp_st M).fieldFound? ref (T k).2.1 (T k).2.2.1 = some (cf, kf, fi, f) := by
    rcases hs with e | hw2
    · rw [← e]; exact hfi
    · exact u_same (C.ws _ hw2) _ hfi
  refine W.getf C.ex C.bc C.own (C.ws _ hw) hsame (u_facts hfc hkC (u_lays C.ws hin hk) hfi).1 q1 (by rw [q3]; exact fun h => by cases h) (v := v) ?_ rfl rfl dd (kk H locs cells slots ls hR hl hL)
  rw [hsl, q4 k hk]
  exact congrArg some ev
/-- the object's cell behind a write of field k -/
theorem hp_wrote {H H1 : Heap} {a ci k slot : Nat} {v : Value} {C' : String} {T : u_T} {N : Nat} {cell : Cell} (hR : hp_R G h H) (hi : hp_is G h a ci) (h10 : ci < 10) (hc : vwCl[ci]? = some (C', T, N)) (hk : k < N) (hN : N ≤ 32) (q1 : H[a]? = some cell) (q2 : cell.cls = (hp_D G).1 ci) (q3 : cell.vm = .none) (q4 : ∀ j, j < N → cell.slots[(hp_D G).2 ci j]? = some (hp_fl h (hp_fd ci j) a))
    (hap : ∀ x z, x < N → z < N → x ≠ z → (hp_D G).2 ci x ≠ (hp_D G).2 ci z) (hsl : slot = (hp_D G).2 ci k) (e1 : H1[a]? = some (cell.setSlot slot v)) (e2 : H1.size = H.size) (e3 : ∀ q, q ≠ a → H1[q]? = H[q]?) : hp_R G (hp_put h (hp_fd ci k) a v) H1 := by
  subst hsl
  refine hR.upd (a := a) hi.1 rfl rfl e2 e3 ?_ (fun _ _ => rfl) (fun _ _ => rfl) (fun f b hb => ?_) (fun _ _ => rfl) ?_
  · unfold hp_sz
    rw [e1, q1]
    exact k2_slotsz _ _ _
  · rw [hp_put_fl, if_neg hb]
    split
    · rename_i e; rw [e]
    · rfl
  · refine Or.inl ⟨ci, _, hi.2.2, h10, hc, _, e1, q2, q3, fun j hj => ?_⟩
    have hj' : j < N := hj
    rw [t_set q4 hap hk v j hj]
    show some (updV (fun k => hp_fl h (hp_fd ci k) a) k v j) = some (hp_fl (hp_put h (hp_fd ci k) a v) (hp_fd ci j) a)
    rw [hp_put_fl]
    unfold updV
    by_cases e : j = k
    · subst e
      rw [if_pos rfl, if_pos rfl, if_pos rfl]
    · rw [if_neg e, if_neg (fun z => e (hp_fd_inj (by omega) (by omega) z))]
theorem hp_putf (C : hp_F M G y cc nL d h0) {a idx ci k : Nat} {v : Value} (fl : hp_FL y.cls idx ci k) (hf : (vwCl[ci]?).map (fun r => (r.2.1 k).2.2.2) = some false) (hn : narrow (hp_ty ci k) v = v) (hfit : fits (hp_ty ci k) v = true) (dd : decode cc pc = .ok (.putfield idx, 3)) (hi : hp_is G h a ci)
    (kk : hp_V M G nL Q (hp_put h (hp_fd ci k) a v) (pc + 3) lo st) : hp_V M G nL Q h pc lo (v :: .ref a :: st) := by
  obtain ⟨ref, C', T, N, hc, hk, hN, h10, hw, hs, hin, hty, hnm⟩ := fl
  intro H locs cells slots ls hR hl hL
  obtain ⟨r, hr, cell, q1, q2, q3, q4⟩ := hR.obj hi h10
  have e : r = (C', T, N) := Option.some.inj (hr.symm.trans hc)
  subst e
  have hfin : (T k).2.2.2 = false := by
    rw [hc] at hf
    exact Option.some.inj hf
  have hap := va_apart (own := y.cls) C.ws hin (hp_ty ci) hty hnm C.en.1 hc
  obtain ⟨hS, hfc, kC, hkC, hkind⟩ := C.en.1.1 ci _ hc
  obtain ⟨cf, kf, fi, f, hfi, hsl⟩ := hS k hk
  have hsame : (hp_st M).fieldFound? ref (T k).2.1 (T k).2.2.1 = some (cf, kf, fi, f) := by
    rcases hs with e | hw2
    · rw [← e]; exact hfi
    · exact u_same (C.ws _ hw2) _ hfi
  have hlay := C.ws _ (hin _ (u_in_lay hk))
  unfold u_lay at hlay
  rw [if_neg (by rw [hfin]; decide)] at hlay
  have hst := (u_facts hfc hkC (u_lays C.ws hin hk) hfi).1
  have h6 := u_store hfc hkC hkind hlay hfi (hty k hk) hn hfit
  refine W.putK C.ex C.bc (f := f) ⟨C.own, C.ws _ hw, ⟨_, _, _, hsame⟩, hst⟩ (by rw [q2]; exact h6) q1 q3 (by rw [hsl]; exact k2_hasslot (q4 k hk)) rfl rfl dd fun H' e1 e2 e3 => ?_
  exact kk H' _ _ _ ls (hp_wrote hR hi h10 hc hk hN q1 q2 q3 q4 hap hsl e1 e2 e3) (t_lc hl hi.1) hL
/-- a final field, in a constructor of the class that declares it -/
theorem hp_putF (C : hp_F M G y cc nL d h0) {a idx ci k : Nat} {v : Value} (fl : hp_FL y.cls idx ci k) (hf : (vwCl[ci]?).map (fun r => ((r.2.1 k).2.2.2, (r.2.1 k).1)) = some (true, y.cls)) (hy : y.name = "<init>") (hn : narrow (hp_ty ci k) v = v) (hfit : fits (hp_ty ci k) v = true) (dd : decode cc pc = .ok (.putfield idx, 3)) (hi : hp_is G h a ci)
    (kk : hp_V M G nL Q (hp_put h (hp_fd ci k) a v) (pc + 3) lo st) : hp_V M G nL Q h pc lo (v :: .ref a :: st) := by
  obtain ⟨ref, C', T, N, hc, hk, hN, h10, hw, hs, hin, hty, hnm⟩ := fl
  intro H locs cells slots ls hR hl hL
  obtain ⟨r, hr, cell, q1, q2, q3, q4⟩ := hR.obj hi h10
  have e : r = (C', T, N) := Option.some.inj (hr.symm.trans hc)
  subst e
  obtain ⟨hfin, hdecl⟩ : (T k).2.2.2 = true ∧ (T k).1 = y.cls := by
    rw [hc] at hf
    have hf2 := Option.some.inj hf
    exact ⟨congrArg Prod.fst hf2, congrArg Prod.snd hf2⟩
  have hap := va_apart (own := y.cls) C.ws hin (hp_ty ci) hty hnm C.en.1 hc
  obtain ⟨hS, hfc, kC, hkC, hkind⟩ := C.en.1.1 ci _ hc
  obtain ⟨cf, kf, fi, f, hfi, hsl⟩ := hS k hk
  have hsame : (hp_st M).fieldFound? ref (T k).2.1 (T k).2.2.1 = some (cf, kf, fi, f) := by
    rcases hs with e | hw2
    · rw [← e]; exact hfi
    · exact u_same (C.ws _ hw2) _ hfi
  have hlay := C.ws _ (hin _ (u_in_lay hk))
  unfold u_lay at hlay
  rw [if_pos hfin] at hlay
  have hst := (u_facts hfc hkC (u_lays C.ws hin hk) hfi).1
  have hcf : (hp_mi4 M).cls = cf := by
    obtain ⟨_, _, c', _, _, _, -, -, hf', -, -, -, hown2, -⟩ := Cond.laysFinal_spec hlay
    have e1 : c' = cf := by have := hfi.symm.trans hf'; simp at this; exact this.1.symm
    rw [hdecl] at hown2
    rw [← e1]; exact Option.some.inj (C.own.symm.trans hown2)
  have h6 := u_fits hfc hkC hkind (Or.inr hlay) hfi (hty k hk) hn hfit
  refine W.putFinK C.ex C.bc C.own (C.ws _ hw) hsame hst hcf (C.nm.trans hy) (by rw [q2]; exact h6) q1 q3 (by rw [hsl]; exact k2_hasslot (q4 k hk)) rfl rfl dd fun H' e1 e2 e3 => ?_
  exact kk H' _ _ _ ls (hp_wrote hR hi h10 hc hk hN q1 q2 q3 q4 hap hsl e1 e2 e3) (t_lc hl hi.1) hL
theorem hp_new (C : hp_F M G y cc nL d h0) {idx ci N : Nat} (nl : hp_NL y.cls idx ci N) (dd : decode cc pc = .ok (.new idx, 3)) (hcl : hp_nx h + 1 ≤ hp_n0 G + hp_LC) (hsl : hp_sl h + N ≤ hp_LS) (kk : hp_V M G nL Q (hp_mk h ci N) (pc + 3) lo (.ref (hp_nx h) :: st)) : hp_V M G nL Q h pc lo st := by
  obtain ⟨C', T, hc, hN, h10, w1, w2, w3, hin, hty⟩ := nl
  intro H locs cells slots ls hR hl hL
  refine hp_tight C hR (fun hle hls => ?_)
  have rc := C.rc
  have rs := C.rs
  have hKn := C.en.1.1 ci _ hc
  obtain ⟨cI, kI, i1, i2, -, -, -, i6⟩ := Cond.instantiable_spec (C.ws _ w2)
  refine W.newcK C.ex C.bc C.own (C.ws _ w1) (C.ws _ w2) (C.ws _ w3) rfl dd (by omega) (by omega) hKn.2.1 rfl fun H1 kC hkC e1 z1 o1 => ?_
  have hkk : kI = kC := by
    have e : cI = (hp_D G).1 ci := Option.some.inj (i1.symm.trans hKn.2.1)
    subst e
    exact Option.some.inj (i2.symm.trans hkC)
  subst hkk
  have hsz := hR.2.1
  refine kk H1 locs _ _ ls (hR.new (n := N) hcl hsl rfl rfl z1 o1 ?_ (fun b hb => ?_) (fun b hb => rfl) (fun f b hb => ?_) (fun b hb => rfl) ?_) hl hL |> (fun z => by rw [hsz]; exact z)
  · unfold hp_sz
    rw [e1]
    show (kI.instanceTypes.map defaultValue).size = N
    rw [Array.size_map]
    exact i6
  · exact va_up_ne _ _ (Nat.ne_of_lt hb)
  · exact va_up_ne _ _ (Nat.ne_of_lt hb)
  · rw [hsz] at e1
    refine Or.inl ⟨ci, _, va_up_self _ _ _, h10, hc, (u_born (hp_ty ci) C.ws hin hKn hkC e1 hty).to (fun j hj => ?_)⟩
    show _ = va_up (hp_fl h (hp_fd ci j)) (hp_nx h) (hp_dv ci (hp_fd ci j)) (hp_nx h)
    rw [va_up_self]
    unfold hp_dv
    rw [hp_fd_mod (by omega), if_pos rfl]
end HPH
section HPA
variable {M : hpM} {G : hpG} {y : MethodName} {cc : ByteArray} {nL d : Nat} {h0 h : hpT} {Q : State → Prop} {pc : Nat} {lo : Nat → Option Value} {st : List Value}
theorem hp_E.arr {U : State} (E : hp_E G U) {t : Nat} {ty : FieldType} (ht : (hp_tys (hp_cA G))[t]? = some (hp_cA G t, ty)) : ArrOfT U (hp_cA G t) ty ∧ va_RA U (hp_cA G t) ty := E.1.2 t _ ht
/-- arraylength of an array of ours -/
theorem hp_alen (C : hp_F M G y cc nL d h0) {a : Nat} (t : Nat) {ty : FieldType} (ht : (hp_tys (hp_cA G))[t]? = some (hp_cA G t, ty)) (h6 : t < 6) (dd : decode cc pc = .ok (.arraylength, 1)) (hi : hp_is G h a (10 + t)) (kk : hp_V M G nL Q h (pc + 1) lo (.int (nI (hp_ln h a)) :: st)) : hp_V M G nL Q h pc lo (.ref a :: st) := by
  intro H locs cells slots ls hR hl hL
  refine W.alen C.ex C.bc (hR.arr hi h6) ((C.en.arr ht).1 _ _) (n := nI (hp_ln h a)) ?_ rfl rfl dd (kk H locs cells slots ls hR hl hL)
  rw [arrV_size]
  rfl
theorem hp_iald (C : hp_F M G y cc nL d h0) {a : Nat} {i : Int32} {v : Value} (dd : decode cc pc = .ok (.iaload, 1)) (hi : hp_is G h a 10) (hin : vp_in i (hp_ln h a)) (ev : hp_ar h a i.toNatClampNeg = v) (kk : hp_V M G nL Q h (pc + 1) lo (v :: st)) : hp_V M G nL Q h pc lo (.int i :: .ref a :: st) := by
  intro H locs cells slots ls hR hl hL
  have hlt : i.toNatClampNeg < hp_ln h a := Nat.not_le.mp fun q => hin (Or.inr q)
  exact W.iald (v := v) C.ex C.bc (hR.arr (t := 0) hi (by omega)) ((C.en.arr (t := 0) rfl).1 _ _) (fun q => by cases q) (by rw [arrV_size]; exact hin) (by rw [arrV_read _ _ hlt, ev]) rfl rfl dd (kk H locs cells slots ls hR hl hL)
theorem hp_zald (C : hp_F M G y cc nL d h0) {a : Nat} {i : Int32} {v : Value} (dd : decode cc pc = .ok (.baload, 1)) (hi : hp_is G h a 11) (hin : vp_in i (hp_ln h a)) (ev : hp_ar h a i.toNatClampNeg = v) (kk : hp_V M G nL Q h (pc + 1) lo (v :: st)) : hp_V M G nL Q h pc lo (.int i :: .ref a :: st) := by
  intro H locs cells slots ls hR hl hL
  have hlt : i.toNatClampNeg < hp_ln h a := Nat.not_le.mp fun q => hin (Or.inr q)
  exact W.zald (v := v) C.ex C.bc (hR.arr (t := 1) hi (by omega)) ((C.en.arr (t := 1) rfl).1 _ _) (fun q => by cases q) (by rw [arrV_size]; exact hin) (by rw [arrV_read _ _ hlt, ev]) rfl rfl dd (kk H locs cells slots ls hR hl hL)
theorem hp_lald (C : hp_F M G y cc nL d h0) {a : Nat} {i : Int32} {v : Value} (dd : decode cc pc = .ok (.laload, 1)) (hi : hp_is G h a 12) (hin : vp_in i (hp_ln h a)) (ev : hp_ar h a i.toNatClampNeg = v) (kk : hp_V M G nL Q h (pc + 1) lo (v :: st)) : hp_V M G nL Q h pc lo (.int i :: .ref a :: st) := by
  intro H locs cells slots ls hR hl hL
  have hlt : i.toNatClampNeg < hp_ln h a := Nat.not_le.mp fun q => hin (Or.inr q)
  exact W.lald (v := v) C.ex C.bc (hR.arr (t := 2) hi (by omega)) ((C.en.arr (t := 2) rfl).1 _ _) (fun q => by cases q) (by rw [arrV_size]; exact hin) (by rw [arrV_read _ _ hlt, ev]) rfl rfl dd (kk H locs cells slots ls hR hl hL)
/-- aaload: an array of references (t: 3 Object, 4 the nodes', 5 int[]) -/
theorem hp_aald (C : hp_F M G y cc nL d h0) {a : Nat} (t : Nat) {ty : FieldType} (ht : (hp_tys (hp_cA G))[t]? = some (hp_cA G t, ty)) (hr : ty.isReference = true) (h6 : t < 6) {i : Int32} {v : Value} (dd : decode cc pc = .ok (.aaload, 1)) (hi : hp_is G h a (10 + t)) (hin : vp_in i (hp_ln h a)) (ev : hp_ar h a i.toNatClampNeg = v) (kk : hp_V M G nL Q h (pc + 1) lo (v :: st)) : hp_V M G nL Q h pc lo (.int i :: .ref a :: st) := by
  intro H locs cells slots ls hR hl hL
  have hlt : i.toNatClampNeg < hp_ln h a := Nat.not_le.mp fun q => hin (Or.inr q)
  exact W.aald (v := v) (ty := ty) C.ex C.bc (hR.arr hi h6) ((C.en.arr ht).1 _ _) hr (fun q => by cases q) (by rw [arrV_size]; exact hin) (by rw [arrV_read _ _ hlt, ev]) rfl rfl dd (kk H locs cells slots ls hR hl hL)
/-- an element is written -/
theorem hp_wroteA {H H1 : Heap} {a t i : Nat} {v : Value} (hR : hp_R G h H) (hi : hp_is G h a (10 + t)) (h6 : t < 6) (e1 : H1[a]? = some ((arrV (hp_cA G t) (hp_ln h a) (hp_ar h a)).setSlot i v)) (e2 : H1.size = H.size) (e3 : ∀ q, q ≠ a → H1[q]? = H[q]?) : hp_R G (hp_set h a i v) H1 := by
  have q1 := hR.arr hi h6
  refine hR.upd (a := a) hi.1 rfl rfl e2 e3 ?_ (fun _ _ => rfl) (fun _ _ => rfl) (fun _ _ _ => rfl) (fun b hb => va_up_ne _ _ hb) ?_
  · unfold hp_sz
    rw [e1, q1]
    exact k2_slotsz _ _ _
  · refine Or.inr (Or.inl ⟨t, hi.2.2, h6, ?_⟩)
    rw [e1, arrV_store]
    show some _ = some (arrV (hp_cA G t) (hp_ln h a) (va_up (hp_ar h) a (va_up (hp_ar h a) i v) a))
    rw [va_up_self]
    rfl
theorem hp_iast (C : hp_F M G y cc nL d h0) {a : Nat} {i x : Int32} (dd : decode cc pc = .ok (.iastore, 1)) (hi : hp_is G h a 10) (hin : vp_in i (hp_ln h a)) (kk : hp_V M G nL Q (hp_set h a i.toNatClampNeg (.int x)) (pc + 1) lo st) : hp_V M G nL Q h pc lo (.int x :: .int i :: .ref a :: st) := by
  intro H locs cells slots ls hR hl hL
  refine W.iast C.ex C.bc (hR.arr (t := 0) hi (by omega)) ((C.en.arr (t := 0) rfl).1 _ _) (fun q => by cases q) (by rw [arrV_size]; exact hin) rfl rfl dd fun H1 e1 e2 e3 => ?_
  exact kk H1 _ _ _ ls (hp_wroteA (t := 0) hR hi (by omega) e1 e2 e3) (t_lc hl hi.1) hL
theorem hp_zast (C : hp_F M G y cc nL d h0) {a : Nat} {i x : Int32} (dd : decode cc pc = .ok (.bastore, 1)) (hn : narrow .boolean (.int x) = .int x) (hi : hp_is G h a 11) (hin : vp_in i (hp_ln h a)) (kk : hp_V M G nL Q (hp_set h a i.toNatClampNeg (.int x)) (pc + 1) lo st) : hp_V M G nL Q h pc lo (.int x :: .int i :: .ref a :: st) := by
  intro H locs cells slots ls hR hl hL
  refine W.zast C.ex C.bc (hR.arr (t := 1) hi (by omega)) ((C.en.arr (t := 1) rfl).1 _ _) (fun q => by cases q) (by rw [arrV_size]; exact hin) rfl rfl dd fun H1 e1 e2 e3 => ?_
  rw [hn] at e1
  exact kk H1 _ _ _ ls (hp_wroteA (t := 1) hR hi (by omega) e1 e2 e3) (t_lc hl hi.1) hL
theorem hp_last (C : hp_F M G y cc nL d h0) {a : Nat} {i : Int32} {x : Int64} (dd : decode cc pc = .ok (.lastore, 1)) (hi : hp_is G h a 12) (hin : vp_in i (hp_ln h a)) (kk : hp_V M G nL Q (hp_set h a i.toNatClampNeg (.long x)) (pc + 1) lo st) : hp_V M G nL Q h pc lo (.long x :: .int i :: .ref a :: st) := by
  intro H locs cells slots ls hR hl hL
  refine W.last C.ex C.bc (hR.arr (t := 2) hi (by omega)) ((C.en.arr (t := 2) rfl).1 _ _) (fun q => by cases q) (by rw [arrV_size]; exact hin) rfl rfl dd fun H1 e1 e2 e3 => ?_
  exact kk H1 _ _ _ ls (hp_wroteA (t := 2) hR hi (by omega) e1 e2 e3) (t_lc hl hi.1) hL
/-- newarray: t 0 int, 1 boolean, 2 long -/
theorem hp_newa (C : hp_F M G y cc nL d h0) (t : Nat) {atype : ArrayType} {ty : FieldType} {n : Int32} {N : Nat} (hty : newarray.typeOf atype = ty) (ht : (hp_tys (hp_cA G))[t]? = some (hp_cA G t, ty)) (hp : ∀ U, va_RA U (hp_cA G t) ty → U.vm.findClass ("[" ++ ty.toString) = some (hp_cA G t)) (h6 : t < 6) (hw : Cond.arrayClass ty ∈ hp_ws) (dd : decode cc pc = .ok (.newarray atype, 2))
    (hn : ¬ n < 0) (hN : n.toNatClampNeg = N) (hb : N * componentBytes ty ≤ 536870912) (hcl : hp_nx h + 1 ≤ hp_n0 G + hp_LC) (hsl : hp_sl h + N ≤ hp_LS) (kk : hp_V M G nL Q (hp_mkA h t N (defaultValue ty)) (pc + 2) lo (.ref (hp_nx h) :: st)) : hp_V M G nL Q h pc lo (.int n :: st) := by
  subst hty
  intro H locs cells slots ls hR hl hL
  refine hp_tight C hR (fun hle hls => ?_)
  have rc := C.rc
  have rs := C.rs
  have hsz := hR.2.1
  refine va_newaK C.ex C.bc (C.ws _ hw) rfl dd rfl hn hN hb (by omega) (by omega) hsz fun H1 cA e1 z1 o1 hA hF => ?_
  have ec : cA = hp_cA G t := Option.some.inj (hF.symm.trans (hp _ (C.en.arr ht).2))
  subst ec
  refine kk H1 locs _ _ ls (hR.new (n := N) hcl hsl rfl rfl (by rw [z1, hsz]) (fun q hq => o1 q (by rw [← hsz]; exact hq)) ?_ (fun b hb => ?_) (fun b hb => ?_) (fun f b hb => rfl) (fun b hb => ?_) ?_) hl hL
  · unfold hp_sz
    rw [hsz, e1]
    exact arrV_size _ _ _
  · exact va_up_ne _ _ (Nat.ne_of_lt hb)
  · exact va_up_ne _ _ (Nat.ne_of_lt hb)
  · exact va_up_ne _ _ (Nat.ne_of_lt hb)
  · refine Or.inr (Or.inl ⟨t, va_up_self _ _ _, h6, ?_⟩)
    show H1[hp_nx h]? = some (arrV (hp_cA G t) (va_up (hp_ln h) (hp_nx h) N (hp_nx h)) (va_up (hp_ar h) (hp_nx h) (fun _ => _) (hp_nx h)))
    rw [va_up_self, va_up_self]
    exact e1
end HPA
end
section
/-! ===== contracts, their ends, calls ===== -/
def hp_rm (G : hpG) (d : Nat) (h : hpT) : Room := { frames := d, cells := hp_n0 G + hp_LC - hp_nx h, slots := hp_LS - hp_sl h, locals := 41 * d }
def hp_Qc (G : hpG) (P : Option Value → hpT → Prop) : Array Value → State → Outcome → State → Prop := fun _ _ o t => ∃ (v : Option Value) (h' : hpT), o = .returned v ∧ P v h' ∧ hp_R G h' t.heap ∧ hp_E G t
def hp_Xc (G : hpG) (X : String → hpT → Prop) : String → State → State → Prop := fun E _ t => ∃ h' : hpT, X E h' ∧ hp_R G h' t.heap
/-- THE CONTRACT of method y (its code's word wd) at depth d: with arguments av over the pure heap h it returns with P, or throws with X -/
def hp_C (l : Launch) (G : hpG) (y : MethodName) (wd : Cond) (d : Nat) (av : List Value) (h : hpT) (P : Option Value → hpT → Prop) (X : String → hpT → Prop) : Prop :=
  l.stackTraces = false → vx_Met l y (wd :: hp_ws) (hp_rm G d h) (va_Pc av (fun U => hp_R G h U.heap ∧ hp_E G U)) (hp_Qc G P) (hp_Xc G X) (hp_rm G d h).cells (hp_rm G d h).slots (fun q => hp_n0 G ≤ q)
def hp_Q (M : hpM) (G : hpG) (h0 : hpT) (P : Option Value → hpT → Prop) (X : String → hpT → Prop) : State → Prop := vx_MQ (hp_bl M) (hp_Qc G P) (hp_Xc G X) (hp_av M) (hp_st M) (hp_n0 G + hp_LC - hp_nx h0) (hp_LS - hp_sl h0) (fun q => hp_n0 G ≤ q)
theorem hp_E.moved {G : hpG} {u U : State} (hW : u.WarmedH U.vm) (h : hp_E G u) : hp_E G U := by
  obtain ⟨h1, h2, h3, h4, h5, h6, h7, h8, h9⟩ := h
  exact ⟨va_K.moved hW.alike h1, hp_Ow_moved hW h2, vx_Zq.moved hW.alike h3, vx_Zq.moved hW.alike h4, va_Z.moved hW.alike h5, h6, h7, va_Mi.moved hW.alike h8, fun q hq => va_Nc.moved hW.alike (h9 q hq)⟩
theorem hp_sl1 : ∀ (av : List Value), (∀ v ∈ av, v.category = 1) → lg_sl av = av.map Slot.val
  | [], _ => rfl
  | v :: r, h => by
    have h1 : ¬ v.category = 2 := by rw [h v List.mem_cons_self]; decide
    have ih := hp_sl1 r (fun w hw => h w (List.mem_cons_of_mem _ hw))
    unfold lg_sl at ih ⊢
    rw [List.flatMap_cons, ih, if_neg h1]
    rfl
theorem hp_L_entry {av : List Value} {n : Nat} (h : ∀ v ∈ av, v.category = 1) (hn : av.length ≤ n) : hp_L ((lg_sl av ++ List.replicate (n - (lg_sl av).length) Slot.unset).toArray) (fun i => av[i]?) n := by
  have e := hp_sl1 av h
  have el : (lg_sl av).length = av.length := by rw [e, List.length_map]
  obtain ⟨z1, z2, -⟩ := lv_entry av (n := n) (by rw [el]; exact hn)
  refine ⟨z1, z2, fun i v hv => ⟨?_, h v (List.mem_of_getElem? hv)⟩⟩
  have hi : i < av.length := (List.getElem?_eq_some_iff.mp hv).1
  have e2 : ((lg_sl av ++ List.replicate (n - (lg_sl av).length) Slot.unset).toArray)[i]? = (lg_sl av ++ List.replicate (n - (lg_sl av).length) Slot.unset)[i]? := by simp
  have hv' : av[i]? = some v := hv
  rw [e2, List.getElem?_append_left (by rw [el]; exact hi), e, List.getElem?_map, hv']
  rfl
/-- a contract out of a walk of its body -/
theorem hp_ofV {l : Launch} {G : hpG} {y : MethodName} {cc : ByteArray} {maxL d : Nat} {ret : Option FieldType} {av : List Value} {h : hpT} {P : Option Value → hpT → Prop} {X : String → hpT → Prop} (hy : plainName y.cls = true) (hav : ∀ v ∈ av, v.category = 1) (hn : av.length ≤ maxL)
    (body : ∀ M : hpM, hp_F M G y cc maxL d h → (hp_mt M).sig.returnType = ret → (∀ x ∈ (hp_cd M).exceptionTable.toList, False) → M.2.1 = l → hp_V M G maxL (hp_Q M G h P X) h 0 (fun i => av[i]?) []) : hp_C l G y (.code y cc maxL ret) d av h P X := by
  intro hl
  refine vx_ofW (cc := cc) (maxL := maxL) (ret := ret) hy rfl ?_
  intro p e s m args below meth c s₁ B hml ht hP
  obtain ⟨rfl, hR, hE⟩ := hP
  have hts : ∀ w ∈ hp_ws, w.before av.toArray s = true := fun w hw => atoms_spec (ws := .code y cc maxL ret :: hp_ws) B.pre w (List.mem_cons_of_mem _ hw)
  have C : hp_F (p, l, e, hp_rm G d h, s, m, av.toArray, below, meth, c) G y cc maxL d h :=
    ⟨B.exec, B.bytes, hml, findClass_of_methodNamed B.named, hts, B.notSynchronized, (name_of_methodNamed B.named B.method).1, hE, hR, Nat.le_refl _, Nat.le_refl _, by show _ ≤ hp_n0 G + hp_LC - hp_nx h + hp_nx h; omega, by show _ ≤ hp_LS - hp_sl h + hp_sl h; omega, hl⟩
  rw [lg_entry_eq]
  exact body _ C B.returns ht rfl s.heap [] 0 0 _ hR (fun q hq => by cases hq) (hp_L_entry hav hn)
/-- .. of a method with a table of handlers -/
theorem hp_ofVH {l : Launch} {G : hpG} {y : MethodName} {cc : ByteArray} {maxL d : Nat} {ret : Option FieldType} {hh : List (Nat × Nat × Nat × Nat)} {av : List Value} {h : hpT} {P : Option Value → hpT → Prop} {X : String → hpT → Prop} (hy : plainName y.cls = true) (hav : ∀ v ∈ av, v.category = 1) (hn : av.length ≤ maxL)
    (body : ∀ M : hpM, hp_F M G y cc maxL d h → (hp_mt M).sig.returnType = ret → (hp_cd M).exceptionTable.toList = tableOf hh → M.2.1 = l → hp_V M G maxL (hp_Q M G h P X) h 0 (fun i => av[i]?) []) : hp_C l G y (.codeWith y cc maxL ret hh) d av h P X := by
  intro hl
  refine vx_ofWH (cc := cc) (maxL := maxL) (ret := ret) (hh := hh) hy rfl ?_
  intro p e s m args below meth c s₁ B hml hP
  obtain ⟨rfl, hR, hE⟩ := hP
  have hts : ∀ w ∈ hp_ws, w.before av.toArray s = true := fun w hw => atoms_spec (ws := .codeWith y cc maxL ret hh :: hp_ws) B.pre w (List.mem_cons_of_mem _ hw)
  have hcw : (Cond.codeWith y cc maxL ret hh).before av.toArray s = true := atoms_spec (ws := .codeWith y cc maxL ret hh :: hp_ws) B.pre _ List.mem_cons_self
  have C : hp_F (p, l, e, hp_rm G d h, s, m, av.toArray, below, meth, c) G y cc maxL d h :=
    ⟨B.exec, B.bytes, hml, findClass_of_methodNamed B.named, hts, B.notSynchronized, (name_of_methodNamed B.named B.method).1, hE, hR, Nat.le_refl _, Nat.le_refl _, by show _ ≤ hp_n0 G + hp_LC - hp_nx h + hp_nx h; omega, by show _ ≤ hp_LS - hp_sl h + hp_sl h; omega, hl⟩
  rw [lg_entry_eq]
  exact body _ C B.returns (vx_table (x := y) B hcw) rfl s.heap [] 0 0 _ hR (fun q hq => by cases hq) (hp_L_entry hav hn)
section HPE
variable {M : hpM} {G : hpG} {y : MethodName} {cc : ByteArray} {nL d : Nat} {h0 h : hpT} {Q : State → Prop} {pc : Nat} {lo : Nat → Option Value} {st : List Value} {P : Option Value → hpT → Prop} {X : String → hpT → Prop}
theorem hp_iret (C : hp_F M G y cc nL d h0) {ty : FieldType} {v : Int32} (hr : (hp_mt M).sig.returnType = some ty) (hn : narrow ty (.int v) = .int v) (dd : decode cc pc = .ok (.ireturn, 1)) (hP : P (some (.int v)) h) : hp_V M G nL (hp_Q M G h0 P X) h pc lo [.int v] := by
  intro H locs cells slots ls hR hl hL
  refine hp_tight C hR (fun hle hls => ?_)
  have b1 := hR.2.2.2.2.2.1
  have b2 := hR.2.2.2.2.2.2
  refine W.widen (k := hp_n0 G + hp_LC - hp_nx h0) (n := hp_LS - hp_sl h0) (by omega) (by omega) ?_
  refine vx_ret ?_
  exact W.zret C.ex C.bc hr hn (fun t ht hW => ⟨_, h, rfl, hP, by rw [ht]; exact hR, C.en.moved hW⟩) hl dd C.lk
theorem hp_aret (C : hp_F M G y cc nL d h0) {rt : FieldType} {r : Option Nat} (hr : (hp_mt M).sig.returnType = some rt) (hrt : (∃ n, rt = .object n) ∨ ∃ t, rt = .array t) (dd : decode cc pc = .ok (.areturn, 1)) (hP : P (some (va_rf r)) h) : hp_V M G nL (hp_Q M G h0 P X) h pc lo [va_rf r] := by
  intro H locs cells slots ls hR hl hL
  refine hp_tight C hR (fun hle hls => ?_)
  have b1 := hR.2.2.2.2.2.1
  have b2 := hR.2.2.2.2.2.2
  refine W.widen (k := hp_n0 G + hp_LC - hp_nx h0) (n := hp_LS - hp_sl h0) (by omega) (by omega) ?_
  refine vx_ret ?_
  exact W.aret C.ex C.bc hr hrt (by cases r with | none => exact Or.inl rfl | some z => exact Or.inr ⟨z, rfl⟩) (fun t ht hW => ⟨_, h, rfl, hP, by rw [ht]; exact hR, C.en.moved hW⟩) hl dd C.lk
theorem hp_vret (C : hp_F M G y cc nL d h0) (hr : (hp_mt M).sig.returnType = none) (dd : decode cc pc = .ok (.return_, 1)) (hP : P none h) : hp_V M G nL (hp_Q M G h0 P X) h pc lo [] := by
  intro H locs cells slots ls hR hl hL
  refine hp_tight C hR (fun hle hls => ?_)
  have b1 := hR.2.2.2.2.2.1
  have b2 := hR.2.2.2.2.2.2
  refine W.widen (k := hp_n0 G + hp_LC - hp_nx h0) (n := hp_LS - hp_sl h0) (by omega) (by omega) ?_
  refine vx_ret ?_
  exact W.vret C.ex C.bc hr (fun t ht hW => ⟨_, h, rfl, hP, by rw [ht]; exact hR, C.en.moved hW⟩) hl dd C.lk
/-- an exception of class E over this frame -/
def hp_VX (M : hpM) (G : hpG) (nL : Nat) (Q : State → Prop) (h : hpT) (pc : Nat) (lo : Nat → Option Value) (st : List Value) (E : String) : Prop :=
  ∀ (H : Heap) (locs : List Loc) (cells slots : Nat) (ls : Array Slot) (q : Addr) (ce : Cell), hp_R G h H → (∀ q ∈ locs, hp_n0 G ≤ q.base) → hp_L ls lo nL → H[q]? = some ce → ce.vm = .none → (hp_st M).vm.findClass E = some ce.cls → hp_WX M H locs cells slots Q (F0 (hp_mi4 M) pc ls st) q
/-- it leaves the method -/
theorem hp_out (C : hp_F M G y cc nL d h0) {E : String} (hx : ∀ x ∈ (hp_cd M).exceptionTable.toList, False) (hX : X E h) : hp_VX M G nL (hp_Q M G h0 P X) h pc lo st E := by
  intro H locs cells slots ls q ce hR hl hL hce hcv hcl
  refine hp_tightX C hR (fun hle hls => ?_)
  have b1 := hR.2.2.2.2.2.1
  have b2 := hR.2.2.2.2.2.2
  exact vx_out (fun x hx' => (hx x hx').elim) C.lk hce hcv hcl (fun t ht _ => ⟨h, hX, by rw [ht]; exact hR⟩) hl (by omega) (by omega)
/-- behind a call -/
theorem hp_run (C : hp_F M G y cc nL d h0) {H : Heap} {locs : List Loc} {cells slots mc ms : Nat} {ls : Array Slot} {st0 : List Value} {a : Array Value} {P' : Option Value → hpT → Prop} {X' : String → hpT → Prop}
    (run : vx_Run M.1 M.2.1 M.2.2.1 (hp_R4 M) (hp_st M) (hp_mi4 M) (hp_av M) (hp_bl M) (hp_mt M) (hp_cd M) H locs cells slots mc ms (F0 (hp_mi4 M) pc ls st0) st (hp_Qc G P' a) (hp_Xc G X') (fun q => hp_n0 G ≤ q)) (hl : ∀ q ∈ locs, hp_n0 G ≤ q.base) (hL : hp_L ls lo nL)
    (kk : ∀ v h', P' v h' → hp_V M G nL Q h' (pc + 3) lo (v.toList ++ st)) (kx : ∀ E h', X' E h' → hp_VX M G nL Q h' pc lo st E) : hp_W M H locs cells slots Q (F0 (hp_mi4 M) pc ls st0) := by
  intro T hT Y
  rcases run T hT Y with ⟨v, st₀, t, T', L, e0, Y', hL', e1, e2, ⟨v', h', ev, hP, hR', -⟩, go⟩ | ⟨q, st₀, t, T', L, E, ce, e0, Y', hL', e1, e2, ⟨h', hX, hR'⟩, hce, hcv, hcl, go⟩
  · cases ev
    obtain ⟨t2, a1, b1⟩ := kk v h' hP T'.heap (locs ++ L) _ _ ls (by rw [e1]; exact hR') (t_lL hl hL') hL T' rfl Y'
    exact ⟨t2, go t2 a1, b1⟩
  · obtain ⟨t2, a1, b1⟩ := kx E h' hX T'.heap (locs ++ L) _ _ ls q ce (by rw [e1]; exact hR') (t_lL hl hL') hL (by rw [e1]; exact hce) hcv hcl T' rfl Y'
    exact ⟨t2, go.trans a1, b1⟩
end HPE
end
section
/-! ===== calls, throws ===== -/
section HPT
variable {p : Program} {l : Launch} {e : Env} {R : Room} {s : State} {m : MethodId} {args : Array Value} {below : List Frame} {meth : Method} {c : Code} {H : Heap} {locs : List Loc} {cells slots : Nat} {Q : State → Prop}
variable {mc ms : Nat} {free : Addr → Prop} {A0 A1 : Nat → Prop} {H0 : Heap} {a : Array Value} {ls : Array Slot} {st0 rest : List Value}
variable {Qc : Array Value → State → Outcome → State → Prop} {XC : String → State → State → Prop}
theorem hp_throw0 {cc : ByteArray} {pc : Nat} (hexec : p.tables.exec = Jvm.exec) (hb : c.code = cc) (hl : l.stackTraces = false) {own cls : String} {names : List String} {ik ic mc ms : Nat} {A : Nat → Prop}
    (hown : s.vm.findClass own = some m.cls) (hcls : Bundle.fit cls = true) (hnames : ∀ n ∈ names, Bundle.fit n = true)
    (hk : (Cond.classLink own ik cls).before args s = true) (hini : (Cond.initialized cls).before args s = true) (hat : ∀ w ∈ vx_at0 own ic cls names, w.before args s = true)
    (hgood : ∀ w ∈ Cond.classLink own ik cls :: Cond.initialized cls :: vx_at0 own ic cls names, vx_ot w = true)
    (hU : vx_Zq Bundle.tN "UNASSIGNED_STACK" Bundle.steD A s s.heap) (hN : vx_Zq Bundle.tN "SUPPRESSED_SENTINEL" Bundle.listD A s s.heap) (hS : va_S A s.heap H locs) (hsize : ls.size = c.maxLocals)
    (d0 : decode cc pc = .ok (.new ik, 3)) (d3 : decode cc (pc + 3) = .ok (.dup, 1)) (d4 : decode cc (pc + 4) = .ok (.invokespecial ic, 3)) (d7 : decode cc (pc + 7) = .ok (.athrow, 1))
    (hout : ∀ x ∈ c.exceptionTable.toList, covers x (pc + 7) = false)
    (hRframes : names.length + 3 < R.frames) (hRlocals : (rest.map fun v => v.category).sum + (13 * (names.length + 1) + 42) ≤ R.locals) (hRcells : cells + 1 ≤ R.cells) (hRslots : slots + 6 ≤ R.slots) (hlocks : meth.locks = false)
    (hx : ∀ t : State, s.vm.Alike t.vm → t.heap.size = H.size + 1 → (∀ q : Nat, q < H.size → t.heap[q]? = H[q]?) → (∃ ce : Cell, t.heap[H.size]? = some ce ∧ ce.vm = .none ∧ ce.slots.size = 6) → XC cls s t)
    (hf : ∀ z ∈ locs, free z.base) (hc : cells + 1 ≤ mc) (hs : slots + 6 ≤ ms) :
    W p l e R s m args below meth c H locs cells slots (vx_MQ below Qc XC args s mc ms free) (F0 m pc ls rest) := by
  intro T hT X
  have htr : e.platform.stackTraces = false := (show e.platform.stackTraces = l.stackTraces by rw [X.admits.platform]).trans hl
  have Y := vx_rebase X (R' := { frames := R.frames, locals := R.locals, cells := 1, slots := 6 }) (Nat.le_refl _) (Nat.le_refl _) hRcells hRslots
  obtain ⟨s', hA⟩ : ∃ z, z = (T.setVm s.vm).setFrames (.invoking m args :: below) := ⟨_, rfl⟩
  rw [← hA] at Y
  have hvm : s'.vm = s.vm := by rw [hA]; rfl
  have hhp : s'.heap = H := by rw [hA]; exact hT
  have hW0 : s.WarmedH s'.vm := by rw [hvm]; exact State.WarmedH.refl s
  have hat' : ∀ w ∈ vx_at0 own ic cls names, w.before args s' = true := fun w hw => vx_ot_at hW0 hvm.symm (hgood w (List.mem_cons_of_mem _ (List.mem_cons_of_mem _ hw))) (hat w hw)
  have hk' : (Cond.classLink own ik cls).before args s' = true := vx_ot_at hW0 hvm.symm (hgood _ List.mem_cons_self) hk
  have hini' : (Cond.initialized cls).before args s' = true := vx_ot_at hW0 hvm.symm (hgood _ (List.mem_cons_of_mem _ List.mem_cons_self)) hini
  have hU' : vx_Zq Bundle.tN "UNASSIGNED_STACK" Bundle.steD A s' s'.heap := by rw [hhp]; exact vx_Zq.moved hW0.alike (hU.kept hS.2.1)
  have hN' : vx_Zq Bundle.tN "SUPPRESSED_SENTINEL" Bundle.listD A s' s'.heap := by rw [hhp]; exact vx_Zq.moved hW0.alike (hN.kept hS.2.1)
  have h : ∀ w ∈ Bundle.ownAtoms0 own ic cls names, w.before args s' = true := vx_own hat' (vx_isRefq hU'.1) (vx_isRefq hN'.1) hU'.2.word hN'.2.word
  have hown' : s'.vm.findClass own = some m.cls := by rw [hvm]; exact hown
  have hins : (Cond.instantiable cls 6).before args s' = true := h _ (by simp [Bundle.ownAtoms0])
  obtain ⟨vm₁, cX, kX, hfX, hkX, -, -, X₁, st1⟩ := Y.newCold hexec (own := own) (C := cls) (index := ik) (n := 6) hown' hk' hins hini'
    (g := F0 m pc ls rest) rfl (by rw [hb]; exact d0) (Nat.le_refl _) (Nat.le_refl _)
  generalize hT1 : (T.setVm vm₁).pushCell { cls := cX, slots := kX.instanceTypes.map defaultValue, vm := .none } = T1 at X₁ st1
  have hcat : (Value.ref T.heap.size).category = 1 := rfl
  have hcellA : T1.heap[T.heap.size]? = some (freshCell cX kX) := by rw [← hT1]; exact State.heap_pushCell_size _ _
  have d3' : decode c.code (pc + 3) = .ok (.dup, 1) := by rw [hb]; exact d3
  obtain ⟨U, hsteps, hrun, hend, hW, hsame, ce, hce, hO⟩ := X₁.ctorThrow0 hexec htr (own := own) (cls := cls) (names := names) (ic := ic) hown' hcls hnames h (fun x hx => nomatch hx) hfX hkX hcellA (by rw [hhp, hT]; exact Nat.le_refl _)
    (g := { method := m, pc := pc + 4, locals := ls, stack := .ref T.heap.size :: .ref T.heap.size :: rest, locked := none }) rfl hsize rfl rfl (rest := rest) rfl
    (by rw [hb]; exact d4) (by rw [hb]; exact d7) hout hRframes (by simp only [List.map_cons, List.sum_cons, hcat]; omega) hlocks
  obtain ⟨f1, f2⟩ := vx_frame hsame
  rw [hhp] at f1 f2
  have hWs : s.WarmedH U.vm := State.WarmedH.trans hW0 hW
  have hcl : s.vm.findClass cls = some ce.cls := by
    have h9 := hO.cls
    rw [hvm] at h9
    exact h9
  have hz9 : U.heap.size = H.size + 1 := by
    have g1 : U.heap.size ≤ s'.heap.size + (0 + 1) := hsame.2.2.1
    have g2 : T.heap.size < U.heap.size := (Array.getElem?_eq_some_iff.mp hce).1
    rw [hhp] at g1
    rw [hT] at g2
    omega
  have hall : s.sameButNew ({ U with vm := s.vm } : State) locs mc ms := by
    subst hA
    obtain ⟨e1, e2⟩ := hsame
    rw [State.setFrames_setFrames] at e1
    have h2 : (T.setVm s.vm).sameButNew ({ U with vm := s.vm } : State) [] (0 + 1) (0 + 6) := ⟨e1, e2⟩
    have h3 := X.same.trans h2
    rw [List.append_nil] at h3
    exact h3.mono hc hs
  refine ⟨U, ?_, .threw T.heap.size, hrun, hend, Or.inr ⟨T.heap.size, rfl, cls, ce, locs, hx U hWs.alike hz9 (fun q hq => f2 q hq (fun z hz => nomatch hz)) ⟨ce, by rw [← hT]; exact hce, hO.vm, hO.size⟩, hce, hO.vm, hcl, hWs, hall, hf⟩⟩
  refine st1 _ ?_
  show Steps p.tables e below (T1.setTop { method := m, pc := pc + 3, locals := ls, stack := .ref T.heap.size :: rest, locked := none }) _
  jvm_step X₁.here [X₁.here.top, hexec, d3', Value.category]
  exact hsteps
end HPT
/-- the pure heap with an exception's cell more -/
def hp_mkX (h : hpT) : hpT := (h.1 + 1, h.2.1 + 6, va_up (hp_kd h) h.1 20, h.2.2.2.1, h.2.2.2.2.1, h.2.2.2.2.2)
/-- own's pool: ik names the exception's class, ic its constructor -/
def hp_TL (own : String) (ik ic : Nat) (cls : String) : Prop := Bundle.fit cls = true ∧ Cond.classLink own ik cls ∈ hp_ws ∧ Cond.initialized cls ∈ hp_ws ∧
  (∀ w ∈ vx_at0 own ic cls ["java/lang/RuntimeException", "java/lang/Exception"], (w ∈ hp_ws ∧ goodWord w = true) ∨ (w ∈ hp_ow ∧ w.onTables = true)) ∧ (∀ w ∈ Cond.classLink own ik cls :: Cond.initialized cls :: vx_at0 own ic cls ["java/lang/RuntimeException", "java/lang/Exception"], vx_ot w = true)
section HPI
variable {M : hpM} {G : hpG} {y : MethodName} {cc : ByteArray} {nL d : Nat} {h0 h : hpT} {Q : State → Prop} {pc : Nat} {lo : Nat → Option Value} {st : List Value} {P : Option Value → hpT → Prop} {X : String → hpT → Prop}
theorem hp_R.old {H : Heap} {locs : List Loc} (hR : hp_R G h H) (hR0 : hp_R G h0 (hp_st M).heap) (hl : ∀ q ∈ locs, hp_n0 G ≤ q.base) (hle : hp_nx h0 ≤ hp_nx h) : va_S (fun q => hp_n0 G ≤ q) (hp_st M).heap H locs :=
  ⟨by rw [hR0.2.1, hR.2.1]; exact hle, fun q _ hq => by rw [hR.2.2.1 q (by omega), hR0.2.2.1 q (by omega)], hl⟩
theorem hp_athrow (C : hp_F M G y cc nL d h0) {ik ic : Nat} {cls : String} (tl : hp_TL y.cls ik ic cls) (hd : 6 ≤ d) (d0 : decode cc pc = .ok (.new ik, 3)) (d3 : decode cc (pc + 3) = .ok (.dup, 1)) (d4 : decode cc (pc + 4) = .ok (.invokespecial ic, 3)) (d7 : decode cc (pc + 7) = .ok (.athrow, 1))
    (hx : ∀ x ∈ (hp_cd M).exceptionTable.toList, False) (hst : (st.map fun v => v.category).sum ≤ 100) (hcl : hp_nx h + 1 ≤ hp_n0 G + hp_LC) (hsl : hp_sl h + 6 ≤ hp_LS) (hX : X cls (hp_mkX h)) : hp_V M G nL (hp_Q M G h0 P X) h pc lo st := by
  obtain ⟨hfit, w1, w2, w3, w4⟩ := tl
  intro H locs cells slots ls hR hl hL
  refine hp_tight C hR (fun hle hls => ?_)
  have rc := C.rc
  have rs := C.rs
  have rf := C.rf
  have rl := C.rl
  have hold := hR.old (M := M) (h0 := h0) C.he hl hle
  have hz0 : ∀ q : Nat, q < (hp_H0 G).size → ¬ (fun q => hp_n0 G ≤ q) q → (hp_st M).heap[q]? = (hp_H0 G)[q]? := fun q _ hq => C.he.2.2.1 q (by have : ¬ hp_n0 G ≤ q := hq; omega)
  refine hp_throw0 (names := ["java/lang/RuntimeException", "java/lang/Exception"]) C.ex C.bc C.tr C.own hfit (by decide +kernel) (C.ws _ w1) (C.ws _ w2) ?_ w4 (C.en.2.2.1.kept hz0) (C.en.2.2.2.1.kept hz0) hold (hL.1.trans C.ml.symm) d0 d3 d4 d7 (fun x hx' => (hx x hx').elim) (by show 2 + 3 < _; omega) (by show _ + (13 * (2 + 1) + 42) ≤ _; omega) (by omega) (by omega) C.lk ?_ hl (by omega) (by omega)
  · intro w hw
    rcases w3 w hw with ⟨a1, -⟩ | ⟨a1, a2⟩
    · exact C.ws w a1
    · exact va_Nw.use a2 (C.en.2.1 w a1)
  · intro t _ z1 o1 hce
    obtain ⟨ce, c1, c2, c3⟩ := hce
    have hsz := hR.2.1
    refine ⟨hp_mkX h, hX, hR.new (n := 6) hcl hsl rfl rfl z1 o1 ?_ (fun b hb => va_up_ne _ _ (Nat.ne_of_lt hb)) (fun b hb => rfl) (fun f b hb => rfl) (fun b hb => rfl) ?_⟩
    · unfold hp_sz
      rw [c1]
      exact c3
    · rw [hsz] at c1
      exact Or.inr (Or.inr ⟨by show 20 ≤ va_up (hp_kd h) (hp_nx h) 20 (hp_nx h); rw [va_up_self]; exact Nat.le_refl _, ce, c1, c2⟩)
theorem hp_gin {wd : Cond} (hw : wd ∈ hp_ws) : GoodIn hp_ws (wd :: hp_ws) := fun w h => (List.mem_cons.mp h).elim (fun e => by rw [e]; exact hp_ws_good wd hw) (fun h => hp_ws_good w h)
theorem hp_blind {av : List Value} : FrameBlind (va_Pc av (fun U => hp_R G h U.heap ∧ hp_E G U)) := fun a U g mk q => ⟨q.1, q.2.1, hp_E.moved (u := U) (U := U.calling g mk a) (State.WarmedH.refl U) q.2.2⟩
/-- own's pool: idx names method y, whose code's word is wd -/
def hp_ML (own : String) (idx : Nat) (y : MethodName) (cc : ByteArray) (maxL : Nat) (ret : Option FieldType) (n : Nat) : Prop := Cond.code y cc maxL ret ∈ hp_ws ∧ Cond.initialized y.cls ∈ hp_ws ∧ Cond.methodLink own idx y ∈ hp_ws ∧ (y.cls ≠ "java/lang/invoke/MethodHandle" ∧ y.cls ≠ "java/lang/invoke/VarHandle" ∧ (parseMethodDescriptor y.desc).map (fun d => d.parameters.length) = some n) ∧ maxL ≤ 22
theorem hp_cb (C : hp_F M G y cc nL d h0) {idx n maxL d' : Nat} {y' : MethodName} {cc' : ByteArray} {ret : Option FieldType} (ml : hp_ML y.cls idx y' cc' maxL ret n) (hd : d' + 1 ≤ d) : CallB (hp_R4 M) (hp_st M) (hp_av M) y.cls idx y' cc' maxL ret (.code y' cc' maxL ret :: hp_ws) (hp_rm G d' h) (hp_rm G d' h).cells (hp_rm G d' h).slots n := by
  obtain ⟨w1, w2, w3, hn, hm⟩ := ml
  have rf := C.rf
  have rl := C.rl
  exact callB_of n C.ws (hp_gin w1) rfl rfl rfl (C.ws _ w2) (C.ws _ w3) hn ⟨by show d' + 1 ≤ _; omega, by show 8 + (maxL + 11) + 41 * d' ≤ _; omega⟩
theorem hp_room (C : hp_F M G y cc nL d h0) {H : Heap} (hR : hp_R G h H) (hle : hp_nx h0 ≤ hp_nx h) (hls : hp_sl h0 ≤ hp_sl h) (d' : Nat) : hp_nx h - hp_nx h0 + (hp_rm G d' h).cells ≤ (hp_R4 M).cells ∧ hp_sl h - hp_sl h0 + (hp_rm G d' h).slots ≤ (hp_R4 M).slots := by
  have rc := C.rc
  have rs := C.rs
  have b1 := hR.2.2.2.2.2.1
  have b2 := hR.2.2.2.2.2.2
  constructor
  · show hp_nx h - hp_nx h0 + (hp_n0 G + hp_LC - hp_nx h) ≤ _
    omega
  · show hp_sl h - hp_sl h0 + (hp_LS - hp_sl h) ≤ _
    omega
theorem hp_recv (C : hp_F M G y cc nL d h0) {H : Heap} {b ci : Nat} {cn : String} (hR : hp_R G h H) (hi : hp_is G h b ci) (h10 : ci < 10) (hci : (vwCl[ci]?).map (fun r => r.1) = some cn) : ∃ cellB : Cell, H[b]? = some cellB ∧ cellB.vm.isStatics = false ∧ (hp_st M).vm.findClass cn = some cellB.cls := by
  obtain ⟨r, hr, cell, q1, q2, q3, -⟩ := hR.obj hi h10
  rw [hr] at hci
  have e : r.1 = cn := Option.some.inj hci
  exact ⟨cell, q1, by rw [q3]; rfl, by rw [q2, ← e]; exact (C.en.1.1 ci r hr).2.1⟩
theorem hp_pre (C : hp_F M G y cc nL d h0) {H : Heap} {av : List Value} (hR : hp_R G h H) : ∀ U : State, U.heap = H → (hp_st M).WarmedH U.vm → va_Pc av (fun U => hp_R G h U.heap ∧ hp_E G U) av.toArray U := fun U hU hW => ⟨rfl, by rw [hU]; exact hR, C.en.moved hW⟩
/-- invokevirtual of a method of the receiver's own class -/
theorem hp_callV (C : hp_F M G y cc nL d h0) {idx n maxL d' ci b : Nat} {y' : MethodName} {cc' : ByteArray} {ret : Option FieldType} {As stk : List Value} {P' : Option Value → hpT → Prop} {X' : String → hpT → Prop} (ml : hp_ML y.cls idx y' cc' maxL ret n) (w1 : Cond.instanceMethod y' ∈ hp_ws) (w2 : Cond.selects y'.cls y' y' ∈ hp_ws) (hci : (vwCl[ci]?).map (fun r => r.1) = some y'.cls) (h10 : ci < 10)
    (con : hp_C M.2.1 G y' (.code y' cc' maxL ret) d' (.ref b :: As) h P' X') (hd : d' + 1 ≤ d) (dd : decode cc pc = .ok (.invokevirtual idx, 3)) (hi : hp_is G h b ci) (hn : As.length = n) (hst : stk = As.reverse ++ .ref b :: st) (hw : (st.map fun v => v.category).sum ≤ 8)
    (kk : ∀ v h', P' v h' → hp_V M G nL Q h' (pc + 3) lo (v.toList ++ st)) (kx : ∀ E h', X' E h' → hp_VX M G nL Q h' pc lo st E) : hp_V M G nL Q h pc lo stk := by
  intro H locs cells slots ls hR hl hL
  refine hp_tight C hR (fun hle hls => ?_)
  exact hp_run C (vx_runV (Ts := hp_ws) (C := y'.cls) (g := F0 (hp_mi4 M) pc ls stk) ⟨C.ex, C.bc, C.ml, C.own, C.ws⟩ (con C.tr) ⟨hp_cb (h := h) C ml hd, C.ws _ w1, C.ws _ w2⟩ ⟨hp_blind, hp_recv C hR hi h10 hci, hp_pre C hR⟩ rfl hn hL.1 hst (lv_room hw) dd (hp_room C hR hle hls d')) hl hL kk kx
/-- invokestatic -/
theorem hp_callS (C : hp_F M G y cc nL d h0) {idx n maxL d' : Nat} {y' : MethodName} {cc' : ByteArray} {ret : Option FieldType} {As stk : List Value} {P' : Option Value → hpT → Prop} {X' : String → hpT → Prop} (ml : hp_ML y.cls idx y' cc' maxL ret n) (w1 : Cond.static y' ∈ hp_ws)
    (con : hp_C M.2.1 G y' (.code y' cc' maxL ret) d' As h P' X') (hd : d' + 1 ≤ d) (dd : decode cc pc = .ok (.invokestatic idx, 3)) (hn : As.length = n) (hst : stk = As.reverse ++ st) (hw : (st.map fun v => v.category).sum ≤ 8)
    (kk : ∀ v h', P' v h' → hp_V M G nL Q h' (pc + 3) lo (v.toList ++ st)) (kx : ∀ E h', X' E h' → hp_VX M G nL Q h' pc lo st E) : hp_V M G nL Q h pc lo stk := by
  intro H locs cells slots ls hR hl hL
  refine hp_tight C hR (fun hle hls => ?_)
  exact hp_run C (vx_runS (Ts := hp_ws) (g := F0 (hp_mi4 M) pc ls stk) ⟨C.ex, C.bc, C.ml, C.own, C.ws⟩ (con C.tr) ⟨hp_cb (h := h) C ml hd, C.ws _ w1⟩ ⟨hp_blind, hp_pre C hR⟩ rfl hn hL.1 hst (lv_room hw) dd (hp_room C hR hle hls d')) hl hL kk kx
/-- a contract that never throws, as the kit's own -/
theorem hp_C.met {l : Launch} {wd : Cond} {av : List Value} {P' : Option Value → hpT → Prop} {d' : Nat} (con : hp_C l G y wd d' av h P' (fun _ _ => False)) (hl : l.stackTraces = false) : Met l y (wd :: hp_ws) (hp_rm G d' h) (va_Pc av (fun U => hp_R G h U.heap ∧ hp_E G U)) (hp_Qc G P') (hp_rm G d' h).cells (hp_rm G d' h).slots (fun q => hp_n0 G ≤ q) := by
  intro p e ha hc hk s m args below hf happ hP hK
  obtain ⟨n, o, h1, h2, h3, hq⟩ := con hl p e ha hc hk s m args below hf happ hP hK
  refine ⟨n, o, h1, h2, h3, ?_⟩
  rcases hq with hq | ⟨q, -, E, ce, L, ⟨h', hf', -⟩, -⟩
  · exact hq
  · exact hf'.elim
theorem hp_ofRun {H : Heap} {locs : List Loc} {cells slots mc ms : Nat} {g : JFrame} {Qa : State → Outcome → State → Prop} {free : Addr → Prop} {XC : String → State → State → Prop}
    (run : va_Run M.1 M.2.1 M.2.2.1 (hp_R4 M) (hp_st M) (hp_mi4 M) (hp_av M) (hp_bl M) (hp_mt M) (hp_cd M) H locs cells slots mc ms g st Qa free) : vx_Run M.1 M.2.1 M.2.2.1 (hp_R4 M) (hp_st M) (hp_mi4 M) (hp_av M) (hp_bl M) (hp_mt M) (hp_cd M) H locs cells slots mc ms g st Qa XC free := fun T hT Y => Or.inl (run T hT Y)
/-- invokespecial of a constructor -/
theorem hp_callI (C : hp_F M G y cc nL d h0) {idx n maxL d' b : Nat} {y' : MethodName} {cc' : ByteArray} {As stk : List Value} {P' : Option Value → hpT → Prop} (ml : hp_ML y.cls idx y' cc' maxL none n) (w1 : Cond.instanceMethod y' ∈ hp_ws) (hy' : y'.name = "<init>")
    (con : hp_C M.2.1 G y' (.code y' cc' maxL none) d' (.ref b :: As) h P' (fun _ _ => False)) (hd : d' + 1 ≤ d) (dd : decode cc pc = .ok (.invokespecial idx, 3)) (hn : As.length = n) (hst : stk = As.reverse ++ .ref b :: st) (hw : (st.map fun v => v.category).sum ≤ 8)
    (kk : ∀ v h', P' v h' → hp_V M G nL Q h' (pc + 3) lo (v.toList ++ st)) : hp_V M G nL Q h pc lo stk := by
  intro H locs cells slots ls hR hl hL
  refine hp_tight C hR (fun hle hls => ?_)
  exact hp_run C (X' := fun _ _ => False) (hp_ofRun (va_runI (Ts := hp_ws) (g := F0 (hp_mi4 M) pc ls stk) ⟨C.ex, C.bc, C.ml, C.own, C.ws⟩ (con.met C.tr) ⟨hp_cb (h := h) C ml hd, hy', C.ws _ w1⟩ ⟨hp_blind, hp_pre C hR⟩ rfl hn hL.1 hst (lv_room hw) dd (hp_room C hR hle hls d'))) hl hL kk (fun _ _ hf => hf.elim)
/-- .. of a nest mate's private constructor -/
theorem hp_callIN (C : hp_F M G y cc nL d h0) {idx n maxL d' b : Nat} {y' : MethodName} {host : String} {cc' : ByteArray} {As stk : List Value} {P' : Option Value → hpT → Prop} (w0 : Cond.code y' cc' maxL none ∈ hp_ws) (w2 : Cond.initialized y'.cls ∈ hp_ws) (w3 : Cond.methodLinkNest y.cls idx y' host ∈ hp_ow) (hnm : y'.cls ≠ "java/lang/invoke/MethodHandle" ∧ y'.cls ≠ "java/lang/invoke/VarHandle" ∧ (parseMethodDescriptor y'.desc).map (fun d => d.parameters.length) = some n) (hm : maxL ≤ 22) (w1 : Cond.instanceMethod y' ∈ hp_ws) (hy' : y'.name = "<init>")
    (con : hp_C M.2.1 G y' (.code y' cc' maxL none) d' (.ref b :: As) h P' (fun _ _ => False)) (hd : d' + 1 ≤ d) (dd : decode cc pc = .ok (.invokespecial idx, 3)) (hn : As.length = n) (hst : stk = As.reverse ++ .ref b :: st) (hw : (st.map fun v => v.category).sum ≤ 8)
    (kk : ∀ v h', P' v h' → hp_V M G nL Q h' (pc + 3) lo (v.toList ++ st)) : hp_V M G nL Q h pc lo stk := by
  intro H locs cells slots ls hR hl hL
  refine hp_tight C hR (fun hle hls => ?_)
  have rf := C.rf
  have rl := C.rl
  exact hp_run C (X' := fun _ _ => False) (hp_ofRun (va_runIN (Ts := hp_ws) (host := host) (g := F0 (hp_mi4 M) pc ls stk) ⟨C.ex, C.bc, C.ml, C.own, C.ws⟩ (con.met C.tr) ⟨va_cnB n C.ws (hp_gin w0) rfl rfl rfl (C.en.2.1 _ w3) (C.ws _ w2) hnm ⟨by show d' + 1 ≤ _; omega, by show 8 + (maxL + 11) + 41 * d' ≤ _; omega⟩, hy', C.ws _ w1⟩ ⟨hp_blind, hp_pre C hR⟩ rfl hn hL.1 hst (lv_room hw) dd (hp_room C hR hle hls d'))) hl hL kk (fun _ _ hf => hf.elim)
/-- invokevirtual of a method that another class declares (owner; abstract), on a receiver of class cn -/
theorem hp_callA (C : hp_F M G y cc nL d h0) {idx n maxL d' ci b : Nat} {x' y' : MethodName} {cn : String} {cc' : ByteArray} {ret : Option FieldType} {As stk : List Value} {P' : Option Value → hpT → Prop} (w0 : Cond.code y' cc' maxL ret ∈ hp_ws) (w1 : Cond.methodLink y.cls idx x' ∈ hp_ws) (w2 : Cond.sameMethod x'.cls x'.cls x'.name x'.desc ∈ hp_ws) (w3 : Cond.selects cn x' y' ∈ hp_ws) (w4 : Cond.instanceMethod y' ∈ hp_ws) (w5 : Cond.initialized y'.cls ∈ hp_ws) (w6 : Cond.declares x' ∈ hp_ow)
    (hnm : x'.cls ≠ "java/lang/invoke/MethodHandle" ∧ x'.cls ≠ "java/lang/invoke/VarHandle" ∧ (parseMethodDescriptor x'.desc).map (fun d => d.parameters.length) = some n) (hm : maxL ≤ 22) (hci : (vwCl[ci]?).map (fun r => r.1) = some cn) (h10 : ci < 10)
    (con : hp_C M.2.1 G y' (.code y' cc' maxL ret) d' (.ref b :: As) h P' (fun _ _ => False)) (hd : d' + 1 ≤ d) (dd : decode cc pc = .ok (.invokevirtual idx, 3)) (hi : hp_is G h b ci) (hn : As.length = n) (hst : stk = As.reverse ++ .ref b :: st) (hw : (st.map fun v => v.category).sum ≤ 8)
    (kk : ∀ v h', P' v h' → hp_V M G nL Q h' (pc + 3) lo (v.toList ++ st)) : hp_V M G nL Q h pc lo stk := by
  intro H locs cells slots ls hR hl hL
  refine hp_tight C hR (fun hle hls => ?_)
  have rf := C.rf
  have rl := C.rl
  have hG : GoodIn hp_ws (va_wsU y.cls idx cn x'.cls x' y' (.code y' cc' maxL ret :: hp_ws)) := by
    intro w hw
    unfold va_wsU at hw
    rcases List.mem_append.mp hw with hw | hw
    · simp only [List.mem_cons, List.not_mem_nil, or_false] at hw
      rcases hw with rfl | rfl | rfl | rfl | rfl
      · exact hp_ws_good _ w1
      · exact hp_ws_good _ w2
      · exact hp_ws_good _ w3
      · exact hp_ws_good _ w4
      · exact hp_ws_good _ w5
    · exact hp_gin w0 w hw
  exact hp_run C (X' := fun _ _ => False) (hp_ofRun (va_runU (Ts := hp_ws) (C := cn) (owner := x'.cls) (x := x') (g := F0 (hp_mi4 M) pc ls stk) ⟨C.ex, C.bc, C.ml, C.own, C.ws⟩ (con.met C.tr) (va_cwA n C.ws hG rfl rfl rfl (C.en.2.1 _ w6) hnm ⟨by show d' + 1 ≤ _; omega, by show 8 + (maxL + 11) + 41 * d' ≤ _; omega⟩) ⟨hp_blind, hp_recv C hR hi h10 hci, hp_pre C hR⟩ rfl hn hL.1 hst (lv_room hw) dd (hp_room C hR hle hls d'))) hl hL kk (fun _ _ hf => hf.elim)
/-- Object's constructor -/
theorem hp_obj (C : hp_F M G y cc nL d h0) {idx a : Nat} (w1 : Cond.methodLink y.cls idx objectInit ∈ hp_ws) (w2 : Cond.instanceMethod objectInit ∈ hp_ws) (w3 : Cond.code objectInit ⟨#[0xb1]⟩ 1 none ∈ hp_ws) (hd : 1 ≤ d) (dd : decode cc pc = .ok (.invokespecial idx, 3)) (hw : (st.map fun v => v.category).sum ≤ 8) (kk : hp_V M G nL Q h (pc + 3) lo st) : hp_V M G nL Q h pc lo (.ref a :: st) := by
  intro H locs cells slots ls hR hl hL
  have rf := C.rf
  have rl := C.rl
  refine W.objInit C.ex C.bc C.own (C.ws _ w1) (C.ws _ w2) (C.ws _ w3) rfl (hL.1.trans C.ml.symm) rfl dd (by omega) (by show 2 * 0 + _ + 12 ≤ _; omega) ?_
  exact kk H locs cells slots ls hR hl hL
end HPI
end
section
theorem ml_L_70 : hp_ML RL 70 yX5_init cX5_init 1 none 0 := ⟨(hp_in1 26 (by decide +kernel) rfl), (hp_in1 1 (by decide +kernel) rfl), (hp_in1 24 (by decide +kernel) rfl), ⟨by decide, by decide, by decide +kernel⟩, by decide⟩
theorem im_X5_init : Cond.instanceMethod yX5_init ∈ hp_ws := (hp_in1 25 (by decide +kernel) rfl)
theorem ml_X5_24 : hp_ML RX5 24 yX1_init cX1_init 7 none 6 := ⟨(hp_in1 58 (by decide +kernel) rfl), (hp_in1 4 (by decide +kernel) rfl), (hp_in1 56 (by decide +kernel) rfl), ⟨by decide, by decide, by decide +kernel⟩, by decide⟩
theorem im_X1_init : Cond.instanceMethod yX1_init ∈ hp_ws := (hp_in1 57 (by decide +kernel) rfl)
theorem ml_X1_3 : hp_ML RX1 3 yX2_init cX2_init 4 none 3 := ⟨(hp_in1 61 (by decide +kernel) rfl), (hp_in1 3 (by decide +kernel) rfl), (hp_in1 59 (by decide +kernel) rfl), ⟨by decide, by decide, by decide +kernel⟩, by decide⟩
theorem im_X2_init : Cond.instanceMethod yX2_init ∈ hp_ws := (hp_in1 60 (by decide +kernel) rfl)
theorem ml_X1_11 : hp_ML RX1 11 yJx4a65c_init_da8c8 cJx4a65c_init_da8c8 1 none 0 := ⟨(hp_in1 67 (by decide +kernel) rfl), (hp_in1 7 (by decide +kernel) rfl), (hp_in1 65 (by decide +kernel) rfl), ⟨by decide, by decide, by decide +kernel⟩, by decide⟩
theorem im_Jx4a65c_init_da8c8 : Cond.instanceMethod yJx4a65c_init_da8c8 ∈ hp_ws := (hp_in1 66 (by decide +kernel) rfl)
theorem ml_Jx4a65c_1 : hp_ML RJx4a65c 1 yJxc12de_init_da8c8 cJxc12de_init_da8c8 1 none 0 := ⟨(hp_in1 70 (by decide +kernel) rfl), (hp_in1 6 (by decide +kernel) rfl), (hp_in1 68 (by decide +kernel) rfl), ⟨by decide, by decide, by decide +kernel⟩, by decide⟩
theorem im_Jxc12de_init_da8c8 : Cond.instanceMethod yJxc12de_init_da8c8 ∈ hp_ws := (hp_in1 69 (by decide +kernel) rfl)
theorem ml_Jxc12de_1 : hp_ML RJxc12de 1 yJxa1e45_init_da8c8 cJxa1e45_init_da8c8 1 none 0 := ⟨(hp_in1 73 (by decide +kernel) rfl), (hp_in1 5 (by decide +kernel) rfl), (hp_in1 71 (by decide +kernel) rfl), ⟨by decide, by decide, by decide +kernel⟩, by decide⟩
theorem im_Jxa1e45_init_da8c8 : Cond.instanceMethod yJxa1e45_init_da8c8 ∈ hp_ws := (hp_in1 72 (by decide +kernel) rfl)
theorem ml_L_7 : hp_ML RL 7 yX5_first cX5_first 4 none 3 := ⟨(hp_in1 188 (by decide +kernel) rfl), (hp_in1 1 (by decide +kernel) rfl), (hp_in1 185 (by decide +kernel) rfl), ⟨by decide, by decide, by decide +kernel⟩, by decide⟩
theorem im_X5_first : Cond.instanceMethod yX5_first ∈ hp_ws := (hp_in1 186 (by decide +kernel) rfl)
theorem se_X5_first : Cond.selects yX5_first.cls yX5_first yX5_first ∈ hp_ws := (hp_in1 187 (by decide +kernel) rfl)
theorem ml_X5_41 : hp_ML RX5 41 yX5_wantBounds cX5_wantBounds 3 none 3 := ⟨(hp_in1 191 (by decide +kernel) rfl), (hp_in1 1 (by decide +kernel) rfl), (hp_in1 189 (by decide +kernel) rfl), ⟨by decide, by decide, by decide +kernel⟩, by decide⟩
theorem sm_X5_wantBounds : Cond.static yX5_wantBounds ∈ hp_ws := (hp_in1 190 (by decide +kernel) rfl)
theorem ml_X5_65 : hp_ML RX5 65 yX5_wantWithin cX5_wantWithin 3 none 3 := ⟨(hp_in1 194 (by decide +kernel) rfl), (hp_in1 1 (by decide +kernel) rfl), (hp_in1 192 (by decide +kernel) rfl), ⟨by decide, by decide, by decide +kernel⟩, by decide⟩
theorem sm_X5_wantWithin : Cond.static yX5_wantWithin ∈ hp_ws := (hp_in1 193 (by decide +kernel) rfl)
theorem ml_X5_48 : hp_ML RX5 48 yX5_wantState cX5_wantState 1 none 1 := ⟨(hp_in2 19 (by decide +kernel) rfl), (hp_in1 1 (by decide +kernel) rfl), (hp_in2 17 (by decide +kernel) rfl), ⟨by decide, by decide, by decide +kernel⟩, by decide⟩
theorem sm_X5_wantState : Cond.static yX5_wantState ∈ hp_ws := (hp_in2 18 (by decide +kernel) rfl)
theorem ml_L_17 : hp_ML RL 17 yX5_keeper cX5_keeper 8 (some .int) 5 := ⟨(hp_in2 41 (by decide +kernel) rfl), (hp_in1 1 (by decide +kernel) rfl), (hp_in2 38 (by decide +kernel) rfl), ⟨by decide, by decide, by decide +kernel⟩, by decide⟩
theorem im_X5_keeper : Cond.instanceMethod yX5_keeper ∈ hp_ws := (hp_in2 39 (by decide +kernel) rfl)
theorem se_X5_keeper : Cond.selects yX5_keeper.cls yX5_keeper yX5_keeper ∈ hp_ws := (hp_in2 40 (by decide +kernel) rfl)
theorem ml_X5_61 : hp_ML RX5 61 yX5_keeperAt cX5_keeperAt 4 (some (.object "KeeperTree$Keeper")) 1 := ⟨(hp_in2 45 (by decide +kernel) rfl), (hp_in1 1 (by decide +kernel) rfl), (hp_in2 42 (by decide +kernel) rfl), ⟨by decide, by decide, by decide +kernel⟩, by decide⟩
theorem im_X5_keeperAt : Cond.instanceMethod yX5_keeperAt ∈ hp_ws := (hp_in2 44 (by decide +kernel) rfl)
theorem se_X5_keeperAt : Cond.selects yX5_keeperAt.cls yX5_keeperAt yX5_keeperAt ∈ hp_ws := (hp_in0 1 (by decide +kernel) rfl)
theorem ml_X5_109 : hp_ML RX5 109 yX5_nodeAt cX5_nodeAt 3 (some (.object "KeeperTree$Node")) 1 := ⟨(hp_in2 49 (by decide +kernel) rfl), (hp_in1 1 (by decide +kernel) rfl), (hp_in2 46 (by decide +kernel) rfl), ⟨by decide, by decide, by decide +kernel⟩, by decide⟩
theorem im_X5_nodeAt : Cond.instanceMethod yX5_nodeAt ∈ hp_ws := (hp_in2 48 (by decide +kernel) rfl)
theorem se_X5_nodeAt : Cond.selects yX5_nodeAt.cls yX5_nodeAt yX5_nodeAt ∈ hp_ws := (hp_in0 2 (by decide +kernel) rfl)
theorem ml_X5_130 : hp_ML RX5 130 yX5_madeNode cX5_madeNode 3 (some (.object "KeeperTree$Node")) 1 := ⟨(hp_in2 53 (by decide +kernel) rfl), (hp_in1 1 (by decide +kernel) rfl), (hp_in2 50 (by decide +kernel) rfl), ⟨by decide, by decide, by decide +kernel⟩, by decide⟩
theorem im_X5_madeNode : Cond.instanceMethod yX5_madeNode ∈ hp_ws := (hp_in2 52 (by decide +kernel) rfl)
theorem se_X5_madeNode : Cond.selects yX5_madeNode.cls yX5_madeNode yX5_madeNode ∈ hp_ws := (hp_in0 3 (by decide +kernel) rfl)
theorem ml_X5_68 : hp_ML RX5 68 yX5_hasRoomBelow cX5_hasRoomBelow 2 (some .boolean) 1 := ⟨(hp_in2 57 (by decide +kernel) rfl), (hp_in1 1 (by decide +kernel) rfl), (hp_in2 54 (by decide +kernel) rfl), ⟨by decide, by decide, by decide +kernel⟩, by decide⟩
theorem im_X5_hasRoomBelow : Cond.instanceMethod yX5_hasRoomBelow ∈ hp_ws := (hp_in2 56 (by decide +kernel) rfl)
theorem se_X5_hasRoomBelow : Cond.selects yX5_hasRoomBelow.cls yX5_hasRoomBelow yX5_hasRoomBelow ∈ hp_ws := (hp_in0 4 (by decide +kernel) rfl)
theorem ml_X5_72 : hp_ML RX5 72 yX5_join cX5_join 3 none 2 := ⟨(hp_in2 61 (by decide +kernel) rfl), (hp_in1 1 (by decide +kernel) rfl), (hp_in2 58 (by decide +kernel) rfl), ⟨by decide, by decide, by decide +kernel⟩, by decide⟩
theorem im_X5_join : Cond.instanceMethod yX5_join ∈ hp_ws := (hp_in2 60 (by decide +kernel) rfl)
theorem se_X5_join : Cond.selects yX5_join.cls yX5_join yX5_join ∈ hp_ws := (hp_in0 5 (by decide +kernel) rfl)
theorem ml_X5_181 : hp_ML RX5 181 yJx4a65c_add_9ea2d cJx4a65c_add_9ea2d 2 (some .boolean) 1 := ⟨(hp_in2 65 (by decide +kernel) rfl), (hp_in1 7 (by decide +kernel) rfl), (hp_in2 62 (by decide +kernel) rfl), ⟨by decide, by decide, by decide +kernel⟩, by decide⟩
theorem im_Jx4a65c_add_9ea2d : Cond.instanceMethod yJx4a65c_add_9ea2d ∈ hp_ws := (hp_in2 63 (by decide +kernel) rfl)
theorem se_Jx4a65c_add_9ea2d : Cond.selects yJx4a65c_add_9ea2d.cls yJx4a65c_add_9ea2d yJx4a65c_add_9ea2d ∈ hp_ws := (hp_in2 64 (by decide +kernel) rfl)
theorem ml_Jx4a65c_131 : hp_ML RJx4a65c 131 yJx4a65c_add_72be8 cJx4a65c_add_72be8 4 none 3 := ⟨(hp_in2 69 (by decide +kernel) rfl), (hp_in1 7 (by decide +kernel) rfl), (hp_in2 66 (by decide +kernel) rfl), ⟨by decide, by decide, by decide +kernel⟩, by decide⟩
theorem im_Jx4a65c_add_72be8 : Cond.instanceMethod yJx4a65c_add_72be8 ∈ hp_ws := (hp_in2 68 (by decide +kernel) rfl)
theorem se_Jx4a65c_add_72be8 : Cond.selects yJx4a65c_add_72be8.cls yJx4a65c_add_72be8 yJx4a65c_add_72be8 ∈ hp_ws := (hp_in0 6 (by decide +kernel) rfl)
theorem ml_Jx4a65c_129 : hp_ML RJx4a65c 129 yJx4a65c_grow_d5877 cJx4a65c_grow_d5877 1 (some (.array (.object "java/lang/Object"))) 0 := ⟨(hp_in2 73 (by decide +kernel) rfl), (hp_in1 7 (by decide +kernel) rfl), (hp_in2 70 (by decide +kernel) rfl), ⟨by decide, by decide, by decide +kernel⟩, by decide⟩
theorem im_Jx4a65c_grow_d5877 : Cond.instanceMethod yJx4a65c_grow_d5877 ∈ hp_ws := (hp_in2 72 (by decide +kernel) rfl)
theorem se_Jx4a65c_grow_d5877 : Cond.selects yJx4a65c_grow_d5877.cls yJx4a65c_grow_d5877 yJx4a65c_grow_d5877 ∈ hp_ws := (hp_in0 7 (by decide +kernel) rfl)
theorem ml_Jx4a65c_69 : hp_ML RJx4a65c 69 yJx4a65c_grow_92f84 cJx4a65c_grow_92f84 4 (some (.array (.object "java/lang/Object"))) 1 := ⟨(hp_in2 77 (by decide +kernel) rfl), (hp_in1 7 (by decide +kernel) rfl), (hp_in2 74 (by decide +kernel) rfl), ⟨by decide, by decide, by decide +kernel⟩, by decide⟩
theorem im_Jx4a65c_grow_92f84 : Cond.instanceMethod yJx4a65c_grow_92f84 ∈ hp_ws := (hp_in2 76 (by decide +kernel) rfl)
theorem se_Jx4a65c_grow_92f84 : Cond.selects yJx4a65c_grow_92f84.cls yJx4a65c_grow_92f84 yJx4a65c_grow_92f84 ∈ hp_ws := (hp_in0 8 (by decide +kernel) rfl)
theorem ml_Jx4a65c_73 : hp_ML RJx4a65c 73 yJ8_newLength_cabcc cJ8_newLength_cabcc 4 (some .int) 3 := ⟨(hp_in2 80 (by decide +kernel) rfl), (hp_in1 15 (by decide +kernel) rfl), (hp_in2 78 (by decide +kernel) rfl), ⟨by decide, by decide, by decide +kernel⟩, by decide⟩
theorem sm_J8_newLength_cabcc : Cond.static yJ8_newLength_cabcc ∈ hp_ws := (hp_in2 79 (by decide +kernel) rfl)
theorem ml_J8_194 : hp_ML RJ8 194 yJ9_max_7cf53 cJ9_max_7cf53 2 (some .int) 2 := ⟨(hp_in2 83 (by decide +kernel) rfl), (hp_in1 16 (by decide +kernel) rfl), (hp_in2 81 (by decide +kernel) rfl), ⟨by decide, by decide, by decide +kernel⟩, by decide⟩
theorem sm_J9_max_7cf53 : Cond.static yJ9_max_7cf53 ∈ hp_ws := (hp_in2 82 (by decide +kernel) rfl)
theorem ml_J8_201 : hp_ML RJ8 201 yJ8_hugeLength_7cf53 cJ8_hugeLength_7cf53 3 (some .int) 2 := ⟨(hp_in2 87 (by decide +kernel) rfl), (hp_in1 15 (by decide +kernel) rfl), (hp_in2 85 (by decide +kernel) rfl), ⟨by decide, by decide, by decide +kernel⟩, by decide⟩
theorem sm_J8_hugeLength_7cf53 : Cond.static yJ8_hugeLength_7cf53 ∈ hp_ws := (hp_in2 86 (by decide +kernel) rfl)
theorem ml_Jx4a65c_66 : hp_ML RJx4a65c 66 yJ7_copyOf_1904c cJ7_copyOf_1904c 2 (some (.array (.object "java/lang/Object"))) 2 := ⟨(hp_in2 90 (by decide +kernel) rfl), (hp_in1 17 (by decide +kernel) rfl), (hp_in2 88 (by decide +kernel) rfl), ⟨by decide, by decide, by decide +kernel⟩, by decide⟩
theorem sm_J7_copyOf_1904c : Cond.static yJ7_copyOf_1904c ∈ hp_ws := (hp_in2 89 (by decide +kernel) rfl)
theorem ml_J7_300 : hp_ML RJ7 300 yJ7_copyOf_6403c cJ7_copyOf_6403c 4 (some (.array (.object "java/lang/Object"))) 3 := ⟨(hp_in2 106 (by decide +kernel) rfl), (hp_in1 17 (by decide +kernel) rfl), (hp_in2 104 (by decide +kernel) rfl), ⟨by decide, by decide, by decide +kernel⟩, by decide⟩
theorem sm_J7_copyOf_6403c : Cond.static yJ7_copyOf_6403c ∈ hp_ws := (hp_in2 105 (by decide +kernel) rfl)
theorem ml_J7_304 : hp_ML RJ7 304 yJ9_min_7cf53 cJ9_min_7cf53 2 (some .int) 2 := ⟨(hp_in2 112 (by decide +kernel) rfl), (hp_in1 16 (by decide +kernel) rfl), (hp_in2 110 (by decide +kernel) rfl), ⟨by decide, by decide, by decide +kernel⟩, by decide⟩
theorem sm_J9_min_7cf53 : Cond.static yJ9_min_7cf53 ∈ hp_ws := (hp_in2 111 (by decide +kernel) rfl)
theorem ml_Jx4a65c_79 : hp_ML RJx4a65c 79 yJ9_max_7cf53 cJ9_max_7cf53 2 (some .int) 2 := ⟨(hp_in2 83 (by decide +kernel) rfl), (hp_in1 16 (by decide +kernel) rfl), (hp_in2 116 (by decide +kernel) rfl), ⟨by decide, by decide, by decide +kernel⟩, by decide⟩
theorem ml_X5_76 : hp_ML RX5 76 yX1_rise cX1_rise 3 (some .boolean) 1 := ⟨(hp_in2 121 (by decide +kernel) rfl), (hp_in1 4 (by decide +kernel) rfl), (hp_in2 118 (by decide +kernel) rfl), ⟨by decide, by decide, by decide +kernel⟩, by decide⟩
theorem im_X1_rise : Cond.instanceMethod yX1_rise ∈ hp_ws := (hp_in2 119 (by decide +kernel) rfl)
theorem se_X1_rise : Cond.selects yX1_rise.cls yX1_rise yX1_rise ∈ hp_ws := (hp_in2 120 (by decide +kernel) rfl)
theorem ml_X1_37 : hp_ML RX1 37 yX3_clear cX3_clear 1 none 0 := ⟨(hp_in2 125 (by decide +kernel) rfl), (hp_in1 8 (by decide +kernel) rfl), (hp_in2 122 (by decide +kernel) rfl), ⟨by decide, by decide, by decide +kernel⟩, by decide⟩
theorem im_X3_clear : Cond.instanceMethod yX3_clear ∈ hp_ws := (hp_in2 123 (by decide +kernel) rfl)
theorem se_X3_clear : Cond.selects yX3_clear.cls yX3_clear yX3_clear ∈ hp_ws := (hp_in2 124 (by decide +kernel) rfl)
theorem ml_X1_40 : hp_ML RX1 40 yX1_riseFrom cX1_riseFrom 5 (some (.object "KeeperTree$Node")) 2 := ⟨(hp_in2 129 (by decide +kernel) rfl), (hp_in1 4 (by decide +kernel) rfl), (hp_in2 126 (by decide +kernel) rfl), ⟨by decide, by decide, by decide +kernel⟩, by decide⟩
theorem im_X1_riseFrom : Cond.instanceMethod yX1_riseFrom ∈ hp_ws := (hp_in2 127 (by decide +kernel) rfl)
theorem se_X1_riseFrom : Cond.selects yX1_riseFrom.cls yX1_riseFrom yX1_riseFrom ∈ hp_ws := (hp_in2 128 (by decide +kernel) rfl)
theorem ml_X1_106 : hp_ML RX1 106 yJ9_max_7cf53 cJ9_max_7cf53 2 (some .int) 2 := ⟨(hp_in2 83 (by decide +kernel) rfl), (hp_in1 16 (by decide +kernel) rfl), (hp_in2 130 (by decide +kernel) rfl), ⟨by decide, by decide, by decide +kernel⟩, by decide⟩
theorem ml_X1_64 : hp_ML RX1 64 yJx4a65c_size_8abf5 cJx4a65c_size_8abf5 1 (some .int) 0 := ⟨(hp_in2 134 (by decide +kernel) rfl), (hp_in1 7 (by decide +kernel) rfl), (hp_in2 131 (by decide +kernel) rfl), ⟨by decide, by decide, by decide +kernel⟩, by decide⟩
theorem im_Jx4a65c_size_8abf5 : Cond.instanceMethod yJx4a65c_size_8abf5 ∈ hp_ws := (hp_in2 132 (by decide +kernel) rfl)
theorem se_Jx4a65c_size_8abf5 : Cond.selects yJx4a65c_size_8abf5.cls yJx4a65c_size_8abf5 yJx4a65c_size_8abf5 ∈ hp_ws := (hp_in2 133 (by decide +kernel) rfl)
theorem ml_X1_68 : hp_ML RX1 68 yJx4a65c_get_915e3 cJx4a65c_get_915e3 2 (some (.object "java/lang/Object")) 1 := ⟨(hp_in2 138 (by decide +kernel) rfl), (hp_in1 7 (by decide +kernel) rfl), (hp_in2 135 (by decide +kernel) rfl), ⟨by decide, by decide, by decide +kernel⟩, by decide⟩
theorem im_Jx4a65c_get_915e3 : Cond.instanceMethod yJx4a65c_get_915e3 ∈ hp_ws := (hp_in2 136 (by decide +kernel) rfl)
theorem se_Jx4a65c_get_915e3 : Cond.selects yJx4a65c_get_915e3.cls yJx4a65c_get_915e3 yJx4a65c_get_915e3 ∈ hp_ws := (hp_in2 137 (by decide +kernel) rfl)
theorem ml_Jx4a65c_118 : hp_ML RJx4a65c 118 yJ15_checkIndex_7cf53 cJ15_checkIndex_7cf53 2 (some .int) 2 := ⟨(hp_in2 141 (by decide +kernel) rfl), (hp_in1 19 (by decide +kernel) rfl), (hp_in2 139 (by decide +kernel) rfl), ⟨by decide, by decide, by decide +kernel⟩, by decide⟩
theorem sm_J15_checkIndex_7cf53 : Cond.static yJ15_checkIndex_7cf53 ∈ hp_ws := (hp_in2 140 (by decide +kernel) rfl)
theorem ml_J15_105 : hp_ML RJ15 105 yJ3_checkIndex_8e157 cJ3_checkIndex_8e157 3 (some .int) 3 := ⟨(hp_in2 144 (by decide +kernel) rfl), (hp_in1 20 (by decide +kernel) rfl), (hp_in2 142 (by decide +kernel) rfl), ⟨by decide, by decide, by decide +kernel⟩, by decide⟩
theorem sm_J3_checkIndex_8e157 : Cond.static yJ3_checkIndex_8e157 ∈ hp_ws := (hp_in2 143 (by decide +kernel) rfl)
theorem ml_Jx4a65c_123 : hp_ML RJx4a65c 123 yJx4a65c_elementData_915e3 cJx4a65c_elementData_915e3 2 (some (.object "java/lang/Object")) 1 := ⟨(hp_in2 148 (by decide +kernel) rfl), (hp_in1 7 (by decide +kernel) rfl), (hp_in2 145 (by decide +kernel) rfl), ⟨by decide, by decide, by decide +kernel⟩, by decide⟩
theorem im_Jx4a65c_elementData_915e3 : Cond.instanceMethod yJx4a65c_elementData_915e3 ∈ hp_ws := (hp_in2 146 (by decide +kernel) rfl)
theorem se_Jx4a65c_elementData_915e3 : Cond.selects yJx4a65c_elementData_915e3.cls yJx4a65c_elementData_915e3 yJx4a65c_elementData_915e3 ∈ hp_ws := (hp_in2 147 (by decide +kernel) rfl)
theorem ml_X2_31 : hp_ML RX2 31 yX0_tell cX0_tell 4 none 3 := ⟨(hp_in2 166 (by decide +kernel) rfl), (hp_in1 2 (by decide +kernel) rfl), (hp_in2 163 (by decide +kernel) rfl), ⟨by decide, by decide, by decide +kernel⟩, by decide⟩
theorem im_X0_tell : Cond.instanceMethod yX0_tell ∈ hp_ws := (hp_in2 164 (by decide +kernel) rfl)
theorem se_X0_tell : Cond.selects yX0_tell.cls yX0_tell yX0_tell ∈ hp_ws := (hp_in2 165 (by decide +kernel) rfl)
theorem ml_X1_44 : hp_ML RX1 44 yX1_fallAll cX1_fallAll 4 none 1 := ⟨(hp_in2 170 (by decide +kernel) rfl), (hp_in1 4 (by decide +kernel) rfl), (hp_in2 167 (by decide +kernel) rfl), ⟨by decide, by decide, by decide +kernel⟩, by decide⟩
theorem im_X1_fallAll : Cond.instanceMethod yX1_fallAll ∈ hp_ws := (hp_in2 169 (by decide +kernel) rfl)
theorem se_X1_fallAll : Cond.selects yX1_fallAll.cls yX1_fallAll yX1_fallAll ∈ hp_ws := (hp_in0 9 (by decide +kernel) rfl)
theorem ml_X1_58 : hp_ML RX1 58 yX0_tell cX0_tell 4 none 3 := ⟨(hp_in2 166 (by decide +kernel) rfl), (hp_in1 2 (by decide +kernel) rfl), (hp_in2 177 (by decide +kernel) rfl), ⟨by decide, by decide, by decide +kernel⟩, by decide⟩
theorem ml_X4_39 : hp_ML RX4 39 yX0_tell cX0_tell 4 none 3 := ⟨(hp_in2 166 (by decide +kernel) rfl), (hp_in1 2 (by decide +kernel) rfl), (hp_in2 181 (by decide +kernel) rfl), ⟨by decide, by decide, by decide +kernel⟩, by decide⟩
theorem ml_L_21 : hp_ML RL 21 yX5_worker cX5_worker 9 (some .int) 6 := ⟨(hp_in2 191 (by decide +kernel) rfl), (hp_in1 1 (by decide +kernel) rfl), (hp_in2 188 (by decide +kernel) rfl), ⟨by decide, by decide, by decide +kernel⟩, by decide⟩
theorem im_X5_worker : Cond.instanceMethod yX5_worker ∈ hp_ws := (hp_in2 189 (by decide +kernel) rfl)
theorem se_X5_worker : Cond.selects yX5_worker.cls yX5_worker yX5_worker ∈ hp_ws := (hp_in2 190 (by decide +kernel) rfl)
theorem ml_X5_85 : hp_ML RX5 85 yX4_init cX4_init 8 none 7 := ⟨(hp_in2 196 (by decide +kernel) rfl), (hp_in1 21 (by decide +kernel) rfl), (hp_in2 194 (by decide +kernel) rfl), ⟨by decide, by decide, by decide +kernel⟩, by decide⟩
theorem im_X4_init : Cond.instanceMethod yX4_init ∈ hp_ws := (hp_in2 195 (by decide +kernel) rfl)
theorem ml_X4_3 : hp_ML RX4 3 yX2_init cX2_init 4 none 3 := ⟨(hp_in1 61 (by decide +kernel) rfl), (hp_in1 3 (by decide +kernel) rfl), (hp_in2 197 (by decide +kernel) rfl), ⟨by decide, by decide, by decide +kernel⟩, by decide⟩
theorem ml_X5_88 : hp_ML RX5 88 yX4_rise cX4_rise 3 (some .boolean) 1 := ⟨(hp_in2 156 (by decide +kernel) rfl), (hp_in1 21 (by decide +kernel) rfl), (hp_in2 217 (by decide +kernel) rfl), ⟨by decide, by decide, by decide +kernel⟩, by decide⟩
theorem im_X4_rise : Cond.instanceMethod yX4_rise ∈ hp_ws := (hp_in2 155 (by decide +kernel) rfl)
theorem se_X4_rise : Cond.selects yX4_rise.cls yX4_rise yX4_rise ∈ hp_ws := (hp_in4 142 (by decide +kernel) rfl)
theorem ml_X5_89 : hp_ML RX5 89 yX1_dismiss cX1_dismiss 4 (some .int) 2 := ⟨(hp_in2 221 (by decide +kernel) rfl), (hp_in1 4 (by decide +kernel) rfl), (hp_in2 218 (by decide +kernel) rfl), ⟨by decide, by decide, by decide +kernel⟩, by decide⟩
theorem im_X1_dismiss : Cond.instanceMethod yX1_dismiss ∈ hp_ws := (hp_in2 219 (by decide +kernel) rfl)
theorem se_X1_dismiss : Cond.selects yX1_dismiss.cls yX1_dismiss yX1_dismiss ∈ hp_ws := (hp_in2 220 (by decide +kernel) rfl)
theorem ml_X1_94 : hp_ML RX1 94 yX1_placeOf cX1_placeOf 3 (some .int) 1 := ⟨(hp_in2 225 (by decide +kernel) rfl), (hp_in1 4 (by decide +kernel) rfl), (hp_in2 222 (by decide +kernel) rfl), ⟨by decide, by decide, by decide +kernel⟩, by decide⟩
theorem im_X1_placeOf : Cond.instanceMethod yX1_placeOf ∈ hp_ws := (hp_in2 223 (by decide +kernel) rfl)
theorem se_X1_placeOf : Cond.selects yX1_placeOf.cls yX1_placeOf yX1_placeOf ∈ hp_ws := (hp_in2 224 (by decide +kernel) rfl)
theorem ml_X1_98 : hp_ML RX1 98 yJx4a65c_remove_915e3 cJx4a65c_remove_915e3 4 (some (.object "java/lang/Object")) 1 := ⟨(hp_in2 229 (by decide +kernel) rfl), (hp_in1 7 (by decide +kernel) rfl), (hp_in2 226 (by decide +kernel) rfl), ⟨by decide, by decide, by decide +kernel⟩, by decide⟩
theorem im_Jx4a65c_remove_915e3 : Cond.instanceMethod yJx4a65c_remove_915e3 ∈ hp_ws := (hp_in2 227 (by decide +kernel) rfl)
theorem se_Jx4a65c_remove_915e3 : Cond.selects yJx4a65c_remove_915e3.cls yJx4a65c_remove_915e3 yJx4a65c_remove_915e3 ∈ hp_ws := (hp_in2 228 (by decide +kernel) rfl)
theorem ml_Jx4a65c_144 : hp_ML RJx4a65c 144 yJx4a65c_fastRemove_b59b0 cJx4a65c_fastRemove_b59b0 4 none 2 := ⟨(hp_in2 233 (by decide +kernel) rfl), (hp_in1 7 (by decide +kernel) rfl), (hp_in2 230 (by decide +kernel) rfl), ⟨by decide, by decide, by decide +kernel⟩, by decide⟩
theorem im_Jx4a65c_fastRemove_b59b0 : Cond.instanceMethod yJx4a65c_fastRemove_b59b0 ∈ hp_ws := (hp_in2 232 (by decide +kernel) rfl)
theorem se_Jx4a65c_fastRemove_b59b0 : Cond.selects yJx4a65c_fastRemove_b59b0.cls yJx4a65c_fastRemove_b59b0 yJx4a65c_fastRemove_b59b0 ∈ hp_ws := (hp_in0 10 (by decide +kernel) rfl)
theorem ml_L_25 : hp_ML RL 25 yX5_failing cX5_failing 5 (some .int) 2 := ⟨(hp_in3 10 (by decide +kernel) rfl), (hp_in1 1 (by decide +kernel) rfl), (hp_in3 7 (by decide +kernel) rfl), ⟨by decide, by decide, by decide +kernel⟩, by decide⟩
theorem im_X5_failing : Cond.instanceMethod yX5_failing ∈ hp_ws := (hp_in3 8 (by decide +kernel) rfl)
theorem se_X5_failing : Cond.selects yX5_failing.cls yX5_failing yX5_failing ∈ hp_ws := (hp_in3 9 (by decide +kernel) rfl)
theorem ml_X5_94 : hp_ML RX5 94 yX5_workerAt cX5_workerAt 4 (some (.object "KeeperTree$Worker")) 1 := ⟨(hp_in3 14 (by decide +kernel) rfl), (hp_in1 1 (by decide +kernel) rfl), (hp_in3 11 (by decide +kernel) rfl), ⟨by decide, by decide, by decide +kernel⟩, by decide⟩
theorem im_X5_workerAt : Cond.instanceMethod yX5_workerAt ∈ hp_ws := (hp_in3 13 (by decide +kernel) rfl)
theorem se_X5_workerAt : Cond.selects yX5_workerAt.cls yX5_workerAt yX5_workerAt ∈ hp_ws := (hp_in0 11 (by decide +kernel) rfl)
theorem ml_L_29 : hp_ML RL 29 yX5_begin cX5_begin 1 (some .boolean) 0 := ⟨(hp_in3 21 (by decide +kernel) rfl), (hp_in1 1 (by decide +kernel) rfl), (hp_in3 18 (by decide +kernel) rfl), ⟨by decide, by decide, by decide +kernel⟩, by decide⟩
theorem im_X5_begin : Cond.instanceMethod yX5_begin ∈ hp_ws := (hp_in3 19 (by decide +kernel) rfl)
theorem se_X5_begin : Cond.selects yX5_begin.cls yX5_begin yX5_begin ∈ hp_ws := (hp_in3 20 (by decide +kernel) rfl)
theorem ml_L_33 : hp_ML RL 33 yX5_ends cX5_ends 4 none 2 := ⟨(hp_in3 28 (by decide +kernel) rfl), (hp_in1 1 (by decide +kernel) rfl), (hp_in3 25 (by decide +kernel) rfl), ⟨by decide, by decide, by decide +kernel⟩, by decide⟩
theorem im_X5_ends : Cond.instanceMethod yX5_ends ∈ hp_ws := (hp_in3 26 (by decide +kernel) rfl)
theorem se_X5_ends : Cond.selects yX5_ends.cls yX5_ends yX5_ends ∈ hp_ws := (hp_in3 27 (by decide +kernel) rfl)
theorem ml_X5_102 : hp_ML RX5 102 yX0_tell cX0_tell 4 none 3 := ⟨(hp_in2 166 (by decide +kernel) rfl), (hp_in1 2 (by decide +kernel) rfl), (hp_in3 29 (by decide +kernel) rfl), ⟨by decide, by decide, by decide +kernel⟩, by decide⟩
theorem ml_X5_105 : hp_ML RX5 105 yX5_handleEnd cX5_handleEnd 7 none 2 := ⟨(hp_in3 33 (by decide +kernel) rfl), (hp_in1 1 (by decide +kernel) rfl), (hp_in3 30 (by decide +kernel) rfl), ⟨by decide, by decide, by decide +kernel⟩, by decide⟩
theorem im_X5_handleEnd : Cond.instanceMethod yX5_handleEnd ∈ hp_ws := (hp_in3 32 (by decide +kernel) rfl)
theorem se_X5_handleEnd : Cond.selects yX5_handleEnd.cls yX5_handleEnd yX5_handleEnd ∈ hp_ws := (hp_in0 12 (by decide +kernel) rfl)
theorem ml_X5_185 : hp_ML RX5 185 yX5_restartOrGiveUp cX5_restartOrGiveUp 6 (some .boolean) 2 := ⟨(hp_in3 37 (by decide +kernel) rfl), (hp_in1 1 (by decide +kernel) rfl), (hp_in3 34 (by decide +kernel) rfl), ⟨by decide, by decide, by decide +kernel⟩, by decide⟩
theorem im_X5_restartOrGiveUp : Cond.instanceMethod yX5_restartOrGiveUp ∈ hp_ws := (hp_in3 36 (by decide +kernel) rfl)
theorem se_X5_restartOrGiveUp : Cond.selects yX5_restartOrGiveUp.cls yX5_restartOrGiveUp yX5_restartOrGiveUp ∈ hp_ws := (hp_in0 13 (by decide +kernel) rfl)
theorem ml_X5_194 : hp_ML RX5 194 yX3_add cX3_add 2 none 1 := ⟨(hp_in3 42 (by decide +kernel) rfl), (hp_in1 8 (by decide +kernel) rfl), (hp_in3 39 (by decide +kernel) rfl), ⟨by decide, by decide, by decide +kernel⟩, by decide⟩
theorem im_X3_add : Cond.instanceMethod yX3_add ∈ hp_ws := (hp_in3 40 (by decide +kernel) rfl)
theorem se_X3_add : Cond.selects yX3_add.cls yX3_add yX3_add ∈ hp_ws := (hp_in3 41 (by decide +kernel) rfl)
theorem ml_X3_19 : hp_ML RX3 19 yX3_makeRoom cX3_makeRoom 4 none 1 := ⟨(hp_in3 46 (by decide +kernel) rfl), (hp_in1 8 (by decide +kernel) rfl), (hp_in3 43 (by decide +kernel) rfl), ⟨by decide, by decide, by decide +kernel⟩, by decide⟩
theorem im_X3_makeRoom : Cond.instanceMethod yX3_makeRoom ∈ hp_ws := (hp_in3 45 (by decide +kernel) rfl)
theorem se_X3_makeRoom : Cond.selects yX3_makeRoom.cls yX3_makeRoom yX3_makeRoom ∈ hp_ws := (hp_in0 14 (by decide +kernel) rfl)
theorem ml_X3_23 : hp_ML RX3 23 yX3_notBefore cX3_notBefore 4 (some .int) 1 := ⟨(hp_in3 50 (by decide +kernel) rfl), (hp_in1 8 (by decide +kernel) rfl), (hp_in3 47 (by decide +kernel) rfl), ⟨by decide, by decide, by decide +kernel⟩, by decide⟩
theorem im_X3_notBefore : Cond.instanceMethod yX3_notBefore ∈ hp_ws := (hp_in3 48 (by decide +kernel) rfl)
theorem se_X3_notBefore : Cond.selects yX3_notBefore.cls yX3_notBefore yX3_notBefore ∈ hp_ws := (hp_in3 49 (by decide +kernel) rfl)
theorem ml_X5_156 : hp_ML RX5 156 yX1_recentRestarts cX1_recentRestarts 2 (some .int) 1 := ⟨(hp_in3 55 (by decide +kernel) rfl), (hp_in1 4 (by decide +kernel) rfl), (hp_in3 52 (by decide +kernel) rfl), ⟨by decide, by decide, by decide +kernel⟩, by decide⟩
theorem im_X1_recentRestarts : Cond.instanceMethod yX1_recentRestarts ∈ hp_ws := (hp_in3 53 (by decide +kernel) rfl)
theorem se_X1_recentRestarts : Cond.selects yX1_recentRestarts.cls yX1_recentRestarts yX1_recentRestarts ∈ hp_ws := (hp_in3 54 (by decide +kernel) rfl)
theorem ml_X1_80 : hp_ML RX1 80 yX3_notBefore cX3_notBefore 4 (some .int) 1 := ⟨(hp_in3 50 (by decide +kernel) rfl), (hp_in1 8 (by decide +kernel) rfl), (hp_in3 56 (by decide +kernel) rfl), ⟨by decide, by decide, by decide +kernel⟩, by decide⟩
theorem ml_X5_199 : hp_ML RX5 199 yX1_giveUp cX1_giveUp 2 none 1 := ⟨(hp_in3 60 (by decide +kernel) rfl), (hp_in1 4 (by decide +kernel) rfl), (hp_in3 57 (by decide +kernel) rfl), ⟨by decide, by decide, by decide +kernel⟩, by decide⟩
theorem im_X1_giveUp : Cond.instanceMethod yX1_giveUp ∈ hp_ws := (hp_in3 58 (by decide +kernel) rfl)
theorem se_X1_giveUp : Cond.selects yX1_giveUp.cls yX1_giveUp yX1_giveUp ∈ hp_ws := (hp_in3 59 (by decide +kernel) rfl)
theorem ml_X5_136 : hp_ML RX5 136 yX1_placeOf cX1_placeOf 3 (some .int) 1 := ⟨(hp_in2 225 (by decide +kernel) rfl), (hp_in1 4 (by decide +kernel) rfl), (hp_in3 62 (by decide +kernel) rfl), ⟨by decide, by decide, by decide +kernel⟩, by decide⟩
theorem ml_X5_203 : hp_ML RX5 203 yX1_releaseFrom cX1_releaseFrom 5 none 2 := ⟨(hp_in3 66 (by decide +kernel) rfl), (hp_in1 4 (by decide +kernel) rfl), (hp_in3 63 (by decide +kernel) rfl), ⟨by decide, by decide, by decide +kernel⟩, by decide⟩
theorem im_X1_releaseFrom : Cond.instanceMethod yX1_releaseFrom ∈ hp_ws := (hp_in3 64 (by decide +kernel) rfl)
theorem se_X1_releaseFrom : Cond.selects yX1_releaseFrom.cls yX1_releaseFrom yX1_releaseFrom ∈ hp_ws := (hp_in3 65 (by decide +kernel) rfl)
theorem ml_X1_102 : hp_ML RX1 102 yX1_release cX1_release 3 none 2 := ⟨(hp_in3 70 (by decide +kernel) rfl), (hp_in1 4 (by decide +kernel) rfl), (hp_in3 67 (by decide +kernel) rfl), ⟨by decide, by decide, by decide +kernel⟩, by decide⟩
theorem im_X1_release : Cond.instanceMethod yX1_release ∈ hp_ws := (hp_in3 68 (by decide +kernel) rfl)
theorem se_X1_release : Cond.selects yX1_release.cls yX1_release yX1_release ∈ hp_ws := (hp_in3 69 (by decide +kernel) rfl)
theorem ml_X1_90 : hp_ML RX1 90 yX1_dismiss cX1_dismiss 4 (some .int) 2 := ⟨(hp_in2 221 (by decide +kernel) rfl), (hp_in1 4 (by decide +kernel) rfl), (hp_in3 71 (by decide +kernel) rfl), ⟨by decide, by decide, by decide +kernel⟩, by decide⟩
theorem ml_X5_207 : hp_ML RX5 207 yX1_riseFrom cX1_riseFrom 5 (some (.object "KeeperTree$Node")) 2 := ⟨(hp_in2 129 (by decide +kernel) rfl), (hp_in1 4 (by decide +kernel) rfl), (hp_in3 72 (by decide +kernel) rfl), ⟨by decide, by decide, by decide +kernel⟩, by decide⟩
theorem ml_L_37 : hp_ML RL 37 yX5_kill cX5_kill 4 (some .int) 1 := ⟨(hp_in3 79 (by decide +kernel) rfl), (hp_in1 1 (by decide +kernel) rfl), (hp_in3 76 (by decide +kernel) rfl), ⟨by decide, by decide, by decide +kernel⟩, by decide⟩
theorem im_X5_kill : Cond.instanceMethod yX5_kill ∈ hp_ws := (hp_in3 77 (by decide +kernel) rfl)
theorem se_X5_kill : Cond.selects yX5_kill.cls yX5_kill yX5_kill ∈ hp_ws := (hp_in3 78 (by decide +kernel) rfl)
theorem ml_L_41 : hp_ML RL 41 yX5_stop cX5_stop 4 none 1 := ⟨(hp_in3 96 (by decide +kernel) rfl), (hp_in1 1 (by decide +kernel) rfl), (hp_in3 93 (by decide +kernel) rfl), ⟨by decide, by decide, by decide +kernel⟩, by decide⟩
theorem im_X5_stop : Cond.instanceMethod yX5_stop ∈ hp_ws := (hp_in3 94 (by decide +kernel) rfl)
theorem se_X5_stop : Cond.selects yX5_stop.cls yX5_stop yX5_stop ∈ hp_ws := (hp_in3 95 (by decide +kernel) rfl)
theorem ml_X5_118 : hp_ML RX5 118 yX5_ownerOf cX5_ownerOf 1 (some (.object "KeeperTree$Keeper")) 1 := ⟨(hp_in3 99 (by decide +kernel) rfl), (hp_in1 1 (by decide +kernel) rfl), (hp_in3 97 (by decide +kernel) rfl), ⟨by decide, by decide, by decide +kernel⟩, by decide⟩
theorem sm_X5_ownerOf : Cond.static yX5_ownerOf ∈ hp_ws := (hp_in3 98 (by decide +kernel) rfl)
theorem ml_X5_122 : hp_ML RX5 122 yX1_release cX1_release 3 none 2 := ⟨(hp_in3 70 (by decide +kernel) rfl), (hp_in1 4 (by decide +kernel) rfl), (hp_in3 100 (by decide +kernel) rfl), ⟨by decide, by decide, by decide +kernel⟩, by decide⟩
theorem ml_L_45 : hp_ML RL 45 yX5_again cX5_again 4 (some .boolean) 1 := ⟨(hp_in3 107 (by decide +kernel) rfl), (hp_in1 1 (by decide +kernel) rfl), (hp_in3 104 (by decide +kernel) rfl), ⟨by decide, by decide, by decide +kernel⟩, by decide⟩
theorem im_X5_again : Cond.instanceMethod yX5_again ∈ hp_ws := (hp_in3 105 (by decide +kernel) rfl)
theorem se_X5_again : Cond.selects yX5_again.cls yX5_again yX5_again ∈ hp_ws := (hp_in3 106 (by decide +kernel) rfl)
theorem ml_L_49 : hp_ML RL 49 yX5_remove cX5_remove 4 (some .int) 1 := ⟨(hp_in3 114 (by decide +kernel) rfl), (hp_in1 1 (by decide +kernel) rfl), (hp_in3 111 (by decide +kernel) rfl), ⟨by decide, by decide, by decide +kernel⟩, by decide⟩
theorem im_X5_remove : Cond.instanceMethod yX5_remove ∈ hp_ws := (hp_in3 112 (by decide +kernel) rfl)
theorem se_X5_remove : Cond.selects yX5_remove.cls yX5_remove yX5_remove ∈ hp_ws := (hp_in3 113 (by decide +kernel) rfl)
theorem ml_L_52 : hp_ML RL 52 yX5_pass cX5_pass 2 (some .int) 1 := ⟨(hp_in3 121 (by decide +kernel) rfl), (hp_in1 1 (by decide +kernel) rfl), (hp_in3 118 (by decide +kernel) rfl), ⟨by decide, by decide, by decide +kernel⟩, by decide⟩
theorem im_X5_pass : Cond.instanceMethod yX5_pass ∈ hp_ws := (hp_in3 119 (by decide +kernel) rfl)
theorem se_X5_pass : Cond.selects yX5_pass.cls yX5_pass yX5_pass ∈ hp_ws := (hp_in3 120 (by decide +kernel) rfl)
theorem ml_L_55 : hp_ML RL 55 yX5_state cX5_state 2 (some .int) 1 := ⟨(hp_in3 128 (by decide +kernel) rfl), (hp_in1 1 (by decide +kernel) rfl), (hp_in3 125 (by decide +kernel) rfl), ⟨by decide, by decide, by decide +kernel⟩, by decide⟩
theorem im_X5_state : Cond.instanceMethod yX5_state ∈ hp_ws := (hp_in3 126 (by decide +kernel) rfl)
theorem se_X5_state : Cond.selects yX5_state.cls yX5_state yX5_state ∈ hp_ws := (hp_in3 127 (by decide +kernel) rfl)
theorem ml_L_58 : hp_ML RL 58 yX5_about cX5_about 5 (some .int) 2 := ⟨(hp_in3 135 (by decide +kernel) rfl), (hp_in1 1 (by decide +kernel) rfl), (hp_in3 132 (by decide +kernel) rfl), ⟨by decide, by decide, by decide +kernel⟩, by decide⟩
theorem im_X5_about : Cond.instanceMethod yX5_about ∈ hp_ws := (hp_in3 133 (by decide +kernel) rfl)
theorem se_X5_about : Cond.selects yX5_about.cls yX5_about yX5_about ∈ hp_ws := (hp_in3 134 (by decide +kernel) rfl)
theorem ml_X5_150 : hp_ML RX5 150 yJx4a65c_size_8abf5 cJx4a65c_size_8abf5 1 (some .int) 0 := ⟨(hp_in2 134 (by decide +kernel) rfl), (hp_in1 7 (by decide +kernel) rfl), (hp_in3 136 (by decide +kernel) rfl), ⟨by decide, by decide, by decide +kernel⟩, by decide⟩
theorem ml_L_61 : hp_ML RL 61 yX5_child cX5_child 4 (some .int) 2 := ⟨(hp_in3 143 (by decide +kernel) rfl), (hp_in1 1 (by decide +kernel) rfl), (hp_in3 140 (by decide +kernel) rfl), ⟨by decide, by decide, by decide +kernel⟩, by decide⟩
theorem im_X5_child : Cond.instanceMethod yX5_child ∈ hp_ws := (hp_in3 141 (by decide +kernel) rfl)
theorem se_X5_child : Cond.selects yX5_child.cls yX5_child yX5_child ∈ hp_ws := (hp_in3 142 (by decide +kernel) rfl)
theorem ml_X5_163 : hp_ML RX5 163 yJx4a65c_get_915e3 cJx4a65c_get_915e3 2 (some (.object "java/lang/Object")) 1 := ⟨(hp_in2 138 (by decide +kernel) rfl), (hp_in1 7 (by decide +kernel) rfl), (hp_in3 144 (by decide +kernel) rfl), ⟨by decide, by decide, by decide +kernel⟩, by decide⟩
theorem ml_L_64 : hp_ML RL 64 yX5_event cX5_event 3 (some .int) 2 := ⟨(hp_in3 151 (by decide +kernel) rfl), (hp_in1 1 (by decide +kernel) rfl), (hp_in3 148 (by decide +kernel) rfl), ⟨by decide, by decide, by decide +kernel⟩, by decide⟩
theorem im_X5_event : Cond.instanceMethod yX5_event ∈ hp_ws := (hp_in3 149 (by decide +kernel) rfl)
theorem se_X5_event : Cond.selects yX5_event.cls yX5_event yX5_event ∈ hp_ws := (hp_in3 150 (by decide +kernel) rfl)
theorem ml_X5_168 : hp_ML RX5 168 yX0_told cX0_told 4 (some .int) 2 := ⟨(hp_in3 155 (by decide +kernel) rfl), (hp_in1 2 (by decide +kernel) rfl), (hp_in3 152 (by decide +kernel) rfl), ⟨by decide, by decide, by decide +kernel⟩, by decide⟩
theorem im_X0_told : Cond.instanceMethod yX0_told ∈ hp_ws := (hp_in3 153 (by decide +kernel) rfl)
theorem se_X0_told : Cond.selects yX0_told.cls yX0_told yX0_told ∈ hp_ws := (hp_in3 154 (by decide +kernel) rfl)
theorem ml_L_67 : hp_ML RL 67 yX5_total cX5_total 2 (some .int) 1 := ⟨(hp_in3 162 (by decide +kernel) rfl), (hp_in1 1 (by decide +kernel) rfl), (hp_in3 159 (by decide +kernel) rfl), ⟨by decide, by decide, by decide +kernel⟩, by decide⟩
theorem im_X5_total : Cond.instanceMethod yX5_total ∈ hp_ws := (hp_in3 160 (by decide +kernel) rfl)
theorem se_X5_total : Cond.selects yX5_total.cls yX5_total yX5_total ∈ hp_ws := (hp_in3 161 (by decide +kernel) rfl)
theorem ml_X5_172 : hp_ML RX5 172 yX5_countIn cX5_countIn 5 (some .int) 1 := ⟨(hp_in3 166 (by decide +kernel) rfl), (hp_in1 1 (by decide +kernel) rfl), (hp_in3 163 (by decide +kernel) rfl), ⟨by decide, by decide, by decide +kernel⟩, by decide⟩
theorem im_X5_countIn : Cond.instanceMethod yX5_countIn ∈ hp_ws := (hp_in3 165 (by decide +kernel) rfl)
theorem se_X5_countIn : Cond.selects yX5_countIn.cls yX5_countIn yX5_countIn ∈ hp_ws := (hp_in0 15 (by decide +kernel) rfl)
theorem ml_L_73 : hp_ML RL 73 yX6_init cX6_init 1 none 0 := ⟨(hp_in3 171 (by decide +kernel) rfl), (hp_in1 9 (by decide +kernel) rfl), (hp_in3 169 (by decide +kernel) rfl), ⟨by decide, by decide, by decide +kernel⟩, by decide⟩
theorem im_X6_init : Cond.instanceMethod yX6_init ∈ hp_ws := (hp_in3 170 (by decide +kernel) rfl)
theorem ml_L_80 : hp_ML RL 80 yX6_thrown cX6_thrown 1 (some .int) 0 := ⟨(hp_in4 13 (by decide +kernel) rfl), (hp_in1 9 (by decide +kernel) rfl), (hp_in4 10 (by decide +kernel) rfl), ⟨by decide, by decide, by decide +kernel⟩, by decide⟩
theorem im_X6_thrown : Cond.instanceMethod yX6_thrown ∈ hp_ws := (hp_in4 11 (by decide +kernel) rfl)
theorem se_X6_thrown : Cond.selects yX6_thrown.cls yX6_thrown yX6_thrown ∈ hp_ws := (hp_in4 12 (by decide +kernel) rfl)
theorem ml_L_79 : hp_ML RL 79 yX6_first cX6_first 4 none 3 := ⟨(hp_in4 17 (by decide +kernel) rfl), (hp_in1 9 (by decide +kernel) rfl), (hp_in4 14 (by decide +kernel) rfl), ⟨by decide, by decide, by decide +kernel⟩, by decide⟩
theorem im_X6_first : Cond.instanceMethod yX6_first ∈ hp_ws := (hp_in4 15 (by decide +kernel) rfl)
theorem se_X6_first : Cond.selects yX6_first.cls yX6_first yX6_first ∈ hp_ws := (hp_in4 16 (by decide +kernel) rfl)
theorem ml_X6_122 : hp_ML RX6 122 yX6_isKeeping cX6_isKeeping 3 (some .boolean) 3 := ⟨(hp_in4 20 (by decide +kernel) rfl), (hp_in1 9 (by decide +kernel) rfl), (hp_in4 18 (by decide +kernel) rfl), ⟨by decide, by decide, by decide +kernel⟩, by decide⟩
theorem sm_X6_isKeeping : Cond.static yX6_isKeeping ∈ hp_ws := (hp_in4 19 (by decide +kernel) rfl)
theorem ml_X6_118 : hp_ML RX6 118 yX6_in cX6_in 3 (some .boolean) 3 := ⟨(hp_in4 23 (by decide +kernel) rfl), (hp_in1 9 (by decide +kernel) rfl), (hp_in4 21 (by decide +kernel) rfl), ⟨by decide, by decide, by decide +kernel⟩, by decide⟩
theorem sm_X6_in : Cond.static yX6_in ∈ hp_ws := (hp_in4 22 (by decide +kernel) rfl)
theorem ml_X6_125 : hp_ML RX6 125 yX6_refuses cX6_refuses 2 (some .boolean) 1 := ⟨(hp_in4 27 (by decide +kernel) rfl), (hp_in1 9 (by decide +kernel) rfl), (hp_in4 24 (by decide +kernel) rfl), ⟨by decide, by decide, by decide +kernel⟩, by decide⟩
theorem im_X6_refuses : Cond.instanceMethod yX6_refuses ∈ hp_ws := (hp_in4 26 (by decide +kernel) rfl)
theorem se_X6_refuses : Cond.selects yX6_refuses.cls yX6_refuses yX6_refuses ∈ hp_ws := (hp_in0 16 (by decide +kernel) rfl)
theorem ml_L_87 : hp_ML RL 87 yX6_keeper cX6_keeper 8 (some .int) 5 := ⟨(hp_in4 31 (by decide +kernel) rfl), (hp_in1 9 (by decide +kernel) rfl), (hp_in4 28 (by decide +kernel) rfl), ⟨by decide, by decide, by decide +kernel⟩, by decide⟩
theorem im_X6_keeper : Cond.instanceMethod yX6_keeper ∈ hp_ws := (hp_in4 29 (by decide +kernel) rfl)
theorem se_X6_keeper : Cond.selects yX6_keeper.cls yX6_keeper yX6_keeper ∈ hp_ws := (hp_in4 30 (by decide +kernel) rfl)
theorem ml_X6_128 : hp_ML RX6 128 yX6_isKeeper cX6_isKeeper 2 (some .boolean) 1 := ⟨(hp_in4 35 (by decide +kernel) rfl), (hp_in1 9 (by decide +kernel) rfl), (hp_in4 32 (by decide +kernel) rfl), ⟨by decide, by decide, by decide +kernel⟩, by decide⟩
theorem im_X6_isKeeper : Cond.instanceMethod yX6_isKeeper ∈ hp_ws := (hp_in4 34 (by decide +kernel) rfl)
theorem se_X6_isKeeper : Cond.selects yX6_isKeeper.cls yX6_isKeeper yX6_isKeeper ∈ hp_ws := (hp_in0 17 (by decide +kernel) rfl)
theorem ml_X6_75 : hp_ML RX6 75 yX6_isNode cX6_isNode 2 (some .boolean) 1 := ⟨(hp_in4 39 (by decide +kernel) rfl), (hp_in1 9 (by decide +kernel) rfl), (hp_in4 36 (by decide +kernel) rfl), ⟨by decide, by decide, by decide +kernel⟩, by decide⟩
theorem im_X6_isNode : Cond.instanceMethod yX6_isNode ∈ hp_ws := (hp_in4 38 (by decide +kernel) rfl)
theorem se_X6_isNode : Cond.selects yX6_isNode.cls yX6_isNode yX6_isNode ∈ hp_ws := (hp_in0 18 (by decide +kernel) rfl)
theorem ml_X6_131 : hp_ML RX6 131 yX6_child cX6_child 5 (some .int) 3 := ⟨(hp_in4 43 (by decide +kernel) rfl), (hp_in1 9 (by decide +kernel) rfl), (hp_in4 40 (by decide +kernel) rfl), ⟨by decide, by decide, by decide +kernel⟩, by decide⟩
theorem im_X6_child : Cond.instanceMethod yX6_child ∈ hp_ws := (hp_in4 42 (by decide +kernel) rfl)
theorem se_X6_child : Cond.selects yX6_child.cls yX6_child yX6_child ∈ hp_ws := (hp_in0 19 (by decide +kernel) rfl)
theorem ml_X6_115 : hp_ML RX6 115 yX6_starts cX6_starts 6 (some .boolean) 1 := ⟨(hp_in4 47 (by decide +kernel) rfl), (hp_in1 9 (by decide +kernel) rfl), (hp_in4 44 (by decide +kernel) rfl), ⟨by decide, by decide, by decide +kernel⟩, by decide⟩
theorem im_X6_starts : Cond.instanceMethod yX6_starts ∈ hp_ws := (hp_in4 46 (by decide +kernel) rfl)
theorem se_X6_starts : Cond.selects yX6_starts.cls yX6_starts yX6_starts ∈ hp_ws := (hp_in0 20 (by decide +kernel) rfl)
theorem ml_X6_85 : hp_ML RX6 85 yX6_stopsBelow cX6_stopsBelow 6 none 3 := ⟨(hp_in4 51 (by decide +kernel) rfl), (hp_in1 9 (by decide +kernel) rfl), (hp_in4 48 (by decide +kernel) rfl), ⟨by decide, by decide, by decide +kernel⟩, by decide⟩
theorem im_X6_stopsBelow : Cond.instanceMethod yX6_stopsBelow ∈ hp_ws := (hp_in4 50 (by decide +kernel) rfl)
theorem se_X6_stopsBelow : Cond.selects yX6_stopsBelow.cls yX6_stopsBelow yX6_stopsBelow ∈ hp_ws := (hp_in0 21 (by decide +kernel) rfl)
theorem ml_X6_92 : hp_ML RX6 92 yX6_ceases cX6_ceases 8 (some .int) 3 := ⟨(hp_in4 55 (by decide +kernel) rfl), (hp_in1 9 (by decide +kernel) rfl), (hp_in4 52 (by decide +kernel) rfl), ⟨by decide, by decide, by decide +kernel⟩, by decide⟩
theorem im_X6_ceases : Cond.instanceMethod yX6_ceases ∈ hp_ws := (hp_in4 54 (by decide +kernel) rfl)
theorem se_X6_ceases : Cond.selects yX6_ceases.cls yX6_ceases yX6_ceases ∈ hp_ws := (hp_in0 22 (by decide +kernel) rfl)
theorem ml_X6_89 : hp_ML RX6 89 yX6_note cX6_note 4 none 3 := ⟨(hp_in4 59 (by decide +kernel) rfl), (hp_in1 9 (by decide +kernel) rfl), (hp_in4 56 (by decide +kernel) rfl), ⟨by decide, by decide, by decide +kernel⟩, by decide⟩
theorem im_X6_note : Cond.instanceMethod yX6_note ∈ hp_ws := (hp_in4 58 (by decide +kernel) rfl)
theorem se_X6_note : Cond.selects yX6_note.cls yX6_note yX6_note ∈ hp_ws := (hp_in0 23 (by decide +kernel) rfl)
theorem ml_L_91 : hp_ML RL 91 yX6_worker cX6_worker 9 (some .int) 6 := ⟨(hp_in4 63 (by decide +kernel) rfl), (hp_in1 9 (by decide +kernel) rfl), (hp_in4 60 (by decide +kernel) rfl), ⟨by decide, by decide, by decide +kernel⟩, by decide⟩
theorem im_X6_worker : Cond.instanceMethod yX6_worker ∈ hp_ws := (hp_in4 61 (by decide +kernel) rfl)
theorem se_X6_worker : Cond.selects yX6_worker.cls yX6_worker yX6_worker ∈ hp_ws := (hp_in4 62 (by decide +kernel) rfl)
theorem ml_X6_103 : hp_ML RX6 103 yX6_goes cX6_goes 5 (some .int) 1 := ⟨(hp_in4 67 (by decide +kernel) rfl), (hp_in1 9 (by decide +kernel) rfl), (hp_in4 64 (by decide +kernel) rfl), ⟨by decide, by decide, by decide +kernel⟩, by decide⟩
theorem im_X6_goes : Cond.instanceMethod yX6_goes ∈ hp_ws := (hp_in4 66 (by decide +kernel) rfl)
theorem se_X6_goes : Cond.selects yX6_goes.cls yX6_goes yX6_goes ∈ hp_ws := (hp_in0 24 (by decide +kernel) rfl)
theorem ml_X6_96 : hp_ML RX6 96 yX6_place cX6_place 4 (some .int) 1 := ⟨(hp_in4 71 (by decide +kernel) rfl), (hp_in1 9 (by decide +kernel) rfl), (hp_in4 68 (by decide +kernel) rfl), ⟨by decide, by decide, by decide +kernel⟩, by decide⟩
theorem im_X6_place : Cond.instanceMethod yX6_place ∈ hp_ws := (hp_in4 70 (by decide +kernel) rfl)
theorem se_X6_place : Cond.selects yX6_place.cls yX6_place yX6_place ∈ hp_ws := (hp_in0 25 (by decide +kernel) rfl)
theorem ml_L_95 : hp_ML RL 95 yX6_failing cX6_failing 4 (some .int) 2 := ⟨(hp_in4 75 (by decide +kernel) rfl), (hp_in1 9 (by decide +kernel) rfl), (hp_in4 72 (by decide +kernel) rfl), ⟨by decide, by decide, by decide +kernel⟩, by decide⟩
theorem im_X6_failing : Cond.instanceMethod yX6_failing ∈ hp_ws := (hp_in4 73 (by decide +kernel) rfl)
theorem se_X6_failing : Cond.selects yX6_failing.cls yX6_failing yX6_failing ∈ hp_ws := (hp_in4 74 (by decide +kernel) rfl)
theorem ml_X6_134 : hp_ML RX6 134 yX6_isWorker cX6_isWorker 2 (some .boolean) 1 := ⟨(hp_in4 79 (by decide +kernel) rfl), (hp_in1 9 (by decide +kernel) rfl), (hp_in4 76 (by decide +kernel) rfl), ⟨by decide, by decide, by decide +kernel⟩, by decide⟩
theorem im_X6_isWorker : Cond.instanceMethod yX6_isWorker ∈ hp_ws := (hp_in4 78 (by decide +kernel) rfl)
theorem se_X6_isWorker : Cond.selects yX6_isWorker.cls yX6_isWorker yX6_isWorker ∈ hp_ws := (hp_in0 26 (by decide +kernel) rfl)
theorem ml_L_99 : hp_ML RL 99 yX6_begin cX6_begin 1 (some .boolean) 0 := ⟨(hp_in4 83 (by decide +kernel) rfl), (hp_in1 9 (by decide +kernel) rfl), (hp_in4 80 (by decide +kernel) rfl), ⟨by decide, by decide, by decide +kernel⟩, by decide⟩
theorem im_X6_begin : Cond.instanceMethod yX6_begin ∈ hp_ws := (hp_in4 81 (by decide +kernel) rfl)
theorem se_X6_begin : Cond.selects yX6_begin.cls yX6_begin yX6_begin ∈ hp_ws := (hp_in4 82 (by decide +kernel) rfl)
theorem ml_L_103 : hp_ML RL 103 yX6_ends cX6_ends 3 none 2 := ⟨(hp_in4 87 (by decide +kernel) rfl), (hp_in1 9 (by decide +kernel) rfl), (hp_in4 84 (by decide +kernel) rfl), ⟨by decide, by decide, by decide +kernel⟩, by decide⟩
theorem im_X6_ends : Cond.instanceMethod yX6_ends ∈ hp_ws := (hp_in4 85 (by decide +kernel) rfl)
theorem se_X6_ends : Cond.selects yX6_ends.cls yX6_ends yX6_ends ∈ hp_ws := (hp_in4 86 (by decide +kernel) rfl)
theorem ml_X6_137 : hp_ML RX6 137 yX6_handles cX6_handles 6 none 2 := ⟨(hp_in4 91 (by decide +kernel) rfl), (hp_in1 9 (by decide +kernel) rfl), (hp_in4 88 (by decide +kernel) rfl), ⟨by decide, by decide, by decide +kernel⟩, by decide⟩
theorem im_X6_handles : Cond.instanceMethod yX6_handles ∈ hp_ws := (hp_in4 90 (by decide +kernel) rfl)
theorem se_X6_handles : Cond.selects yX6_handles.cls yX6_handles yX6_handles ∈ hp_ws := (hp_in0 27 (by decide +kernel) rfl)
theorem ml_X6_106 : hp_ML RX6 106 yX6_counts cX6_counts 5 (some .boolean) 1 := ⟨(hp_in4 95 (by decide +kernel) rfl), (hp_in1 9 (by decide +kernel) rfl), (hp_in4 92 (by decide +kernel) rfl), ⟨by decide, by decide, by decide +kernel⟩, by decide⟩
theorem im_X6_counts : Cond.instanceMethod yX6_counts ∈ hp_ws := (hp_in4 94 (by decide +kernel) rfl)
theorem se_X6_counts : Cond.selects yX6_counts.cls yX6_counts yX6_counts ∈ hp_ws := (hp_in0 28 (by decide +kernel) rfl)
theorem ml_X6_109 : hp_ML RX6 109 yX6_restarts cX6_restarts 7 (some .int) 2 := ⟨(hp_in4 99 (by decide +kernel) rfl), (hp_in1 9 (by decide +kernel) rfl), (hp_in4 96 (by decide +kernel) rfl), ⟨by decide, by decide, by decide +kernel⟩, by decide⟩
theorem im_X6_restarts : Cond.instanceMethod yX6_restarts ∈ hp_ws := (hp_in4 98 (by decide +kernel) rfl)
theorem se_X6_restarts : Cond.selects yX6_restarts.cls yX6_restarts yX6_restarts ∈ hp_ws := (hp_in0 29 (by decide +kernel) rfl)
theorem ml_L_107 : hp_ML RL 107 yX6_kill cX6_kill 3 (some .int) 1 := ⟨(hp_in4 103 (by decide +kernel) rfl), (hp_in1 9 (by decide +kernel) rfl), (hp_in4 100 (by decide +kernel) rfl), ⟨by decide, by decide, by decide +kernel⟩, by decide⟩
theorem im_X6_kill : Cond.instanceMethod yX6_kill ∈ hp_ws := (hp_in4 101 (by decide +kernel) rfl)
theorem se_X6_kill : Cond.selects yX6_kill.cls yX6_kill yX6_kill ∈ hp_ws := (hp_in4 102 (by decide +kernel) rfl)
theorem ml_L_111 : hp_ML RL 111 yX6_stop cX6_stop 2 none 1 := ⟨(hp_in4 107 (by decide +kernel) rfl), (hp_in1 9 (by decide +kernel) rfl), (hp_in4 104 (by decide +kernel) rfl), ⟨by decide, by decide, by decide +kernel⟩, by decide⟩
theorem im_X6_stop : Cond.instanceMethod yX6_stop ∈ hp_ws := (hp_in4 105 (by decide +kernel) rfl)
theorem se_X6_stop : Cond.selects yX6_stop.cls yX6_stop yX6_stop ∈ hp_ws := (hp_in4 106 (by decide +kernel) rfl)
theorem ml_L_114 : hp_ML RL 114 yX6_again cX6_again 2 (some .boolean) 1 := ⟨(hp_in4 111 (by decide +kernel) rfl), (hp_in1 9 (by decide +kernel) rfl), (hp_in4 108 (by decide +kernel) rfl), ⟨by decide, by decide, by decide +kernel⟩, by decide⟩
theorem im_X6_again : Cond.instanceMethod yX6_again ∈ hp_ws := (hp_in4 109 (by decide +kernel) rfl)
theorem se_X6_again : Cond.selects yX6_again.cls yX6_again yX6_again ∈ hp_ws := (hp_in4 110 (by decide +kernel) rfl)
theorem ml_L_117 : hp_ML RL 117 yX6_remove cX6_remove 2 (some .int) 1 := ⟨(hp_in4 115 (by decide +kernel) rfl), (hp_in1 9 (by decide +kernel) rfl), (hp_in4 112 (by decide +kernel) rfl), ⟨by decide, by decide, by decide +kernel⟩, by decide⟩
theorem im_X6_remove : Cond.instanceMethod yX6_remove ∈ hp_ws := (hp_in4 113 (by decide +kernel) rfl)
theorem se_X6_remove : Cond.selects yX6_remove.cls yX6_remove yX6_remove ∈ hp_ws := (hp_in4 114 (by decide +kernel) rfl)
theorem ml_L_120 : hp_ML RL 120 yX6_pass cX6_pass 2 (some .int) 1 := ⟨(hp_in4 119 (by decide +kernel) rfl), (hp_in1 9 (by decide +kernel) rfl), (hp_in4 116 (by decide +kernel) rfl), ⟨by decide, by decide, by decide +kernel⟩, by decide⟩
theorem im_X6_pass : Cond.instanceMethod yX6_pass ∈ hp_ws := (hp_in4 117 (by decide +kernel) rfl)
theorem se_X6_pass : Cond.selects yX6_pass.cls yX6_pass yX6_pass ∈ hp_ws := (hp_in4 118 (by decide +kernel) rfl)
theorem ml_L_123 : hp_ML RL 123 yX6_state cX6_state 2 (some .int) 1 := ⟨(hp_in4 123 (by decide +kernel) rfl), (hp_in1 9 (by decide +kernel) rfl), (hp_in4 120 (by decide +kernel) rfl), ⟨by decide, by decide, by decide +kernel⟩, by decide⟩
theorem im_X6_state : Cond.instanceMethod yX6_state ∈ hp_ws := (hp_in4 121 (by decide +kernel) rfl)
theorem se_X6_state : Cond.selects yX6_state.cls yX6_state yX6_state ∈ hp_ws := (hp_in4 122 (by decide +kernel) rfl)
theorem ml_L_126 : hp_ML RL 126 yX6_about cX6_about 5 (some .int) 2 := ⟨(hp_in4 127 (by decide +kernel) rfl), (hp_in1 9 (by decide +kernel) rfl), (hp_in4 124 (by decide +kernel) rfl), ⟨by decide, by decide, by decide +kernel⟩, by decide⟩
theorem im_X6_about : Cond.instanceMethod yX6_about ∈ hp_ws := (hp_in4 125 (by decide +kernel) rfl)
theorem se_X6_about : Cond.selects yX6_about.cls yX6_about yX6_about ∈ hp_ws := (hp_in4 126 (by decide +kernel) rfl)
theorem ml_L_129 : hp_ML RL 129 yX6_child_ cX6_child_ 3 (some .int) 2 := ⟨(hp_in4 131 (by decide +kernel) rfl), (hp_in1 9 (by decide +kernel) rfl), (hp_in4 128 (by decide +kernel) rfl), ⟨by decide, by decide, by decide +kernel⟩, by decide⟩
theorem im_X6_child_ : Cond.instanceMethod yX6_child_ ∈ hp_ws := (hp_in4 129 (by decide +kernel) rfl)
theorem se_X6_child_ : Cond.selects yX6_child_.cls yX6_child_ yX6_child_ ∈ hp_ws := (hp_in4 130 (by decide +kernel) rfl)
theorem ml_L_132 : hp_ML RL 132 yX6_event cX6_event 3 (some .int) 2 := ⟨(hp_in4 135 (by decide +kernel) rfl), (hp_in1 9 (by decide +kernel) rfl), (hp_in4 132 (by decide +kernel) rfl), ⟨by decide, by decide, by decide +kernel⟩, by decide⟩
theorem im_X6_event : Cond.instanceMethod yX6_event ∈ hp_ws := (hp_in4 133 (by decide +kernel) rfl)
theorem se_X6_event : Cond.selects yX6_event.cls yX6_event yX6_event ∈ hp_ws := (hp_in4 134 (by decide +kernel) rfl)
theorem ml_L_135 : hp_ML RL 135 yX6_total cX6_total 5 (some .int) 1 := ⟨(hp_in4 139 (by decide +kernel) rfl), (hp_in1 9 (by decide +kernel) rfl), (hp_in4 136 (by decide +kernel) rfl), ⟨by decide, by decide, by decide +kernel⟩, by decide⟩
theorem im_X6_total : Cond.instanceMethod yX6_total ∈ hp_ws := (hp_in4 137 (by decide +kernel) rfl)
theorem se_X6_total : Cond.selects yX6_total.cls yX6_total yX6_total ∈ hp_ws := (hp_in4 138 (by decide +kernel) rfl)
end
section
/-! ===== more rows: static fields, casts, arrays of references, the script, calls of methods with handlers ===== -/
section HP2
variable {M : hpM} {G : hpG} {y : MethodName} {cc : ByteArray} {nL d : Nat} {h0 h : hpT} {Q : State → Prop} {pc : Nat} {lo : Nat → Option Value} {st : List Value}
theorem hp_kept (C : hp_F M G y cc nL d h0) : ∀ q : Nat, q < (hp_H0 G).size → ¬ (fun q => hp_n0 G ≤ q) q → (hp_st M).heap[q]? = (hp_H0 G)[q]? := fun q _ hq => C.he.2.2.1 q (by have : ¬ hp_n0 G ≤ q := hq; omega)
/-- ArrayList's empty array -/
theorem hp_gets (C : hp_F M G y cc nL d h0) {idx : Nat} (w1 : Cond.fieldLink y.cls idx "java/util/ArrayList" "DEFAULTCAPACITY_EMPTY_ELEMENTDATA" "[Ljava/lang/Object;" ∈ hp_ws) (dd : decode cc pc = .ok (.getstatic idx, 3)) (kk : hp_V M G nL Q h (pc + 3) lo (.ref (hp_dE G) :: st)) : hp_V M G nL Q h pc lo st := by
  intro H locs cells slots ls hR hl hL
  refine hp_tight C hR (fun hle hls => ?_)
  exact va_gets (A := fun q => hp_n0 G ≤ q) C.ex C.bc (C.en.2.2.2.2.1.kept (hp_kept C)) (hR.old (M := M) (h0 := h0) C.he hl hle) C.own (C.ws _ w1) (fun _ z => z) dd (kk H locs _ _ ls hR hl hL)
theorem hp_instY (C : hp_F M G y cc nL d h0) {idx a : Nat} (ci : Nat) {cn nm : String} (w1 : Cond.classLink y.cls idx nm ∈ hp_ws) (w2 : Cond.castable cn nm ∈ hp_ow) (hci : (vwCl[ci]?).map (fun r => r.1) = some cn) (h10 : ci < 10) (dd : decode cc pc = .ok (.instanceof idx, 3)) (hi : hp_is G h a ci) (kk : hp_V M G nL Q h (pc + 3) lo (.int 1 :: st)) : hp_V M G nL Q h pc lo (.ref a :: st) :=
  fun H locs cells slots ls hR hl hL => va_instY C.ex C.bc C.own (C.ws _ w1) (C.en.2.1 _ w2) (hp_recv C hR hi h10 hci) dd (kk H locs cells slots ls hR hl hL)
theorem hp_instNo (C : hp_F M G y cc nL d h0) {idx a : Nat} (ci : Nat) {cn nm : String} (w1 : Cond.classLink y.cls idx nm ∈ hp_ws) (w2 : (cn, nm) ∈ hp_nc) (hci : (vwCl[ci]?).map (fun r => r.1) = some cn) (h10 : ci < 10) (dd : decode cc pc = .ok (.instanceof idx, 3)) (hi : hp_is G h a ci) (kk : hp_V M G nL Q h (pc + 3) lo (.int 0 :: st)) : hp_V M G nL Q h pc lo (.ref a :: st) :=
  fun H locs cells slots ls hR hl hL => va_instNo C.ex C.bc C.own (C.ws _ w1) (C.en.2.2.2.2.2.2.2.2 _ w2) (hp_recv C hR hi h10 hci) dd (kk H locs cells slots ls hR hl hL)
theorem hp_instNull (C : hp_F M G y cc nL d h0) {idx : Nat} (dd : decode cc pc = .ok (.instanceof idx, 3)) (kk : hp_V M G nL Q h (pc + 3) lo (.int 0 :: st)) : hp_V M G nL Q h pc lo (.null :: st) :=
  fun H locs cells slots ls hR hl hL => lv_instN C.ex C.bc dd (kk H locs cells slots ls hR hl hL)
theorem hp_castY (C : hp_F M G y cc nL d h0) {idx a : Nat} (ci : Nat) {cn nm : String} (w1 : Cond.classLink y.cls idx nm ∈ hp_ws) (w2 : Cond.castable cn nm ∈ hp_ow) (hci : (vwCl[ci]?).map (fun r => r.1) = some cn) (h10 : ci < 10) (dd : decode cc pc = .ok (.checkcast idx, 3)) (hi : hp_is G h a ci) (kk : hp_V M G nL Q h (pc + 3) lo (.ref a :: st)) : hp_V M G nL Q h pc lo (.ref a :: st) :=
  fun H locs cells slots ls hR hl hL => va_castY C.ex C.bc C.own (C.ws _ w1) (C.en.2.1 _ w2) (hp_recv C hR hi h10 hci) dd (kk H locs cells slots ls hR hl hL)
/-- anewarray -/
theorem hp_anew (C : hp_F M G y cc nL d h0) (t : Nat) {cn : String} {idx : Nat} {n : Int32} {N : Nat} (ht : (hp_tys (hp_cA G))[t]? = some (hp_cA G t, .object cn)) (h6 : t < 6) (w1 : Cond.classLink y.cls idx cn ∈ hp_ws) (w2 : Cond.arrayOver (.object cn) ∈ hp_ow) (dd : decode cc pc = .ok (.anewarray idx, 3)) (hn : ¬ n < 0) (hN : n.toNatClampNeg = N) (hb : N * 4 ≤ 536870912)
    (hcl : hp_nx h + 1 ≤ hp_n0 G + hp_LC) (hsl : hp_sl h + N ≤ hp_LS) (kk : hp_V M G nL Q (hp_mkA h t N .null) (pc + 3) lo (.ref (hp_nx h) :: st)) : hp_V M G nL Q h pc lo (.int n :: st) := by
  subst hN
  intro H locs cells slots ls hR hl hL
  refine hp_tight C hR (fun hle hls => ?_)
  have rc := C.rc
  have rs := C.rs
  have hsz := hR.2.1
  have hov : (Cond.arrayOver (.object cn)).before (hp_av M) (hp_st M) = true := C.en.2.1 _ w2
  refine W.anew C.ex C.bc C.own (C.ws _ w1) hov rfl dd rfl hn hb (by omega) (by omega) fun cA kA comp f1 f2 f3 f4 => ?_
  generalize hH1 : H.push ({ cls := cA, slots := Array.replicate n.toNatClampNeg .null, vm := .none } : Cell) = H1
  have z1 : H1.size = H.size + 1 := by rw [← hH1, Array.size_push]
  have e1 : H1[H.size]? = some (arrV cA n.toNatClampNeg (fun _ => .null)) := by rw [← hH1, Array.getElem?_push_size, ← arrV_new]
  have o1 : ∀ q : Nat, q < H.size → H1[q]? = H[q]? := fun q hq => by rw [← hH1, Array.getElem?_push, if_neg (Nat.ne_of_lt hq)]
  obtain ⟨-, -, -, -, -, g4⟩ := (C.en.arr ht).2
  have ec : cA = hp_cA G t := Option.some.inj (f1.symm.trans g4)
  subst ec
  rw [hsz] at e1
  refine kk H1 locs _ _ ls (hR.new (n := n.toNatClampNeg) hcl hsl rfl rfl z1 o1 ?_ (fun b hb => ?_) (fun b hb => ?_) (fun f b hb => rfl) (fun b hb => ?_) ?_) hl hL |> (fun z => by rw [hsz]; exact z)
  · unfold hp_sz
    rw [hsz, e1]
    exact arrV_size _ _ _
  · exact va_up_ne _ _ (Nat.ne_of_lt hb)
  · exact va_up_ne _ _ (Nat.ne_of_lt hb)
  · exact va_up_ne _ _ (Nat.ne_of_lt hb)
  · refine Or.inr (Or.inl ⟨t, va_up_self _ _ _, h6, ?_⟩)
    show H1[hp_nx h]? = some (arrV (hp_cA G t) (va_up (hp_ln h) (hp_nx h) _ (hp_nx h)) (va_up (hp_ar h) (hp_nx h) (fun _ => _) (hp_nx h)))
    rw [va_up_self, va_up_self]
    exact e1
/-- aastore of an object of ours -/
theorem hp_aast (C : hp_F M G y cc nL d h0) {a v : Nat} (t ci : Nat) {cn E : String} {i : Int32} (ht : (hp_tys (hp_cA G))[t]? = some (hp_cA G t, .object E)) (h6 : t < 6) (w2 : Cond.castable cn E ∈ hp_ow) (hci : (vwCl[ci]?).map (fun r => r.1) = some cn) (h10 : ci < 10) (dd : decode cc pc = .ok (.aastore, 1)) (hi : hp_is G h a (10 + t)) (hv : hp_is G h v ci) (hin : vp_in i (hp_ln h a))
    (kk : hp_V M G nL Q (hp_set h a i.toNatClampNeg (.ref v)) (pc + 1) lo st) : hp_V M G nL Q h pc lo (.ref v :: .int i :: .ref a :: st) := by
  intro H locs cells slots ls hR hl hL
  have hlt : i.toNatClampNeg < hp_ln h a := Nat.not_le.mp fun q => hin (Or.inr q)
  have hn0 : ¬ i < 0 := fun q => hin (Or.inl q)
  obtain ⟨cellV, g1, g3, g2⟩ := hp_recv C hR hv h10 hci
  obtain ⟨kA, comp, k1, k2, k3, -⟩ := (C.en.arr ht).2
  obtain ⟨kE, hkE, -⟩ := Vm.findClass_spec k3
  obtain ⟨c0, t1, f1, f2, f3⟩ := Cond.castable_spec (va_Nw.use (A := hp_av M) rfl (C.en.2.1 _ w2))
  cases g2.symm.trans f1
  cases k3.symm.trans f2
  obtain ⟨kC, hkC, -⟩ := Vm.findClass_spec g2
  refine W.aast C.ex C.bc (hR.arr hi h6) (fun q hq => by cases hq) (fun hq => by cases hq) k1 k2 rfl hkE ⟨hn0, by show _ < (arrV _ _ _).slots.size; rw [arrV_size]; exact hlt⟩ g1 (fun q hq => by rw [hq] at g3; cases g3) hkC f3 rfl rfl dd fun H1 e1 e2 e3 => ?_
  exact kk H1 _ _ _ ls (hp_wroteA hR hi h6 e1 e2 e3) (t_lc hl hi.1) hL
/-- the law's script -/
theorem hp_sld (C : hp_F M G y cc nL d h0) {b L : Nat} {xs : Nat → Int32} (hX : va_X b L xs (hp_st M) (hp_H0 G)) (hb : b < hp_n0 G) {i : Int32} {v : Int32} (hin : vp_in i L) (ev : xs i.toNatClampNeg = v) (dd : decode cc pc = .ok (.iaload, 1)) (kk : hp_V M G nL Q h (pc + 1) lo (.int v :: st)) : hp_V M G nL Q h pc lo (.int i :: .ref b :: st) := by
  subst ev
  intro H locs cells slots ls hR hl hL
  obtain ⟨scr, q1, q2, q3, q4, q5⟩ := hX
  have hlt : i.toNatClampNeg < L := Nat.not_le.mp fun q => hin (Or.inr q)
  exact W.iald (v := .int (xs i.toNatClampNeg)) C.ex C.bc (by rw [hR.2.2.1 b hb]; exact q1) q2 q3 (by rw [q4]; exact hin) (q5 _ hlt) rfl rfl dd (kk H locs cells slots ls hR hl hL)
theorem hp_slen (C : hp_F M G y cc nL d h0) {b L : Nat} {xs : Nat → Int32} (hX : va_X b L xs (hp_st M) (hp_H0 G)) (hb : b < hp_n0 G) (dd : decode cc pc = .ok (.arraylength, 1)) (kk : hp_V M G nL Q h (pc + 1) lo (.int (Int32.ofNat L) :: st)) : hp_V M G nL Q h pc lo (.ref b :: st) := by
  intro H locs cells slots ls hR hl hL
  obtain ⟨scr, q1, q2, q3, q4, q5⟩ := hX
  exact W.alen (n := Int32.ofNat L) C.ex C.bc (by rw [hR.2.2.1 b hb]; exact q1) q2 (by rw [q4] <;> rfl) rfl rfl dd (kk H locs cells slots ls hR hl hL)
/-- own's pool: idx names the static method y, whose code has the table hh of handlers -/
def hp_MLX (own : String) (idx : Nat) (y : MethodName) (cc : ByteArray) (maxL : Nat) (ret : Option FieldType) (hh : List (Nat × Nat × Nat × Nat)) (n : Nat) : Prop := Cond.codeWith y cc maxL ret hh ∈ hp_ws ∧ Cond.initialized y.cls ∈ hp_ws ∧ Cond.methodLink own idx y ∈ hp_ws ∧ Cond.static y ∈ hp_ws ∧ (y.cls ≠ "java/lang/invoke/MethodHandle" ∧ y.cls ≠ "java/lang/invoke/VarHandle" ∧ (parseMethodDescriptor y.desc).map (fun d => d.parameters.length) = some n) ∧ maxL ≤ 22
/-- invokestatic of a method with handlers -/
theorem hp_callSX (C : hp_F M G y cc nL d h0) {idx n maxL d' : Nat} {y' : MethodName} {cc' : ByteArray} {ret : Option FieldType} {hh : List (Nat × Nat × Nat × Nat)} {As stk : List Value} {P' : Option Value → hpT → Prop} {X' : String → hpT → Prop} (ml : hp_MLX y.cls idx y' cc' maxL ret hh n)
    (con : hp_C M.2.1 G y' (.codeWith y' cc' maxL ret hh) d' As h P' X') (hd : d' + 1 ≤ d) (dd : decode cc pc = .ok (.invokestatic idx, 3)) (hn : As.length = n) (hst : stk = As.reverse ++ st) (hw : (st.map fun v => v.category).sum ≤ 8)
    (kk : ∀ v h', P' v h' → hp_V M G nL Q h' (pc + 3) lo (v.toList ++ st)) (kx : ∀ E h', X' E h' → hp_VX M G nL Q h' pc lo st E) : hp_V M G nL Q h pc lo stk := by
  obtain ⟨w0, w1, w2, w3, hnm, hm⟩ := ml
  intro H locs cells slots ls hR hl hL
  refine hp_tight C hR (fun hle hls => ?_)
  have rf := C.rf
  have rl := C.rl
  have hG : GoodIn hp_ws (va_wsS y.cls idx y' (.codeWith y' cc' maxL ret hh :: hp_ws)) := by
    intro w hw
    unfold va_wsS at hw
    rcases List.mem_append.mp hw with hw | hw
    · simp only [List.mem_cons, List.not_mem_nil, or_false] at hw
      rcases hw with rfl | rfl | rfl
      · exact hp_ws_good _ w2
      · exact hp_ws_good _ w3
      · exact hp_ws_good _ w1
    · exact hp_gin w0 w hw
  exact hp_run C (vx_runSX (Ts := hp_ws) (hh := hh) (g := F0 (hp_mi4 M) pc ls stk) ⟨C.ex, C.bc, C.ml, C.own, C.ws⟩ (con C.tr) (vx_cwSW n C.ws hG rfl rfl rfl hnm ⟨by show d' + 1 ≤ _; omega, by show 8 + (maxL + 11) + 41 * d' ≤ _; omega⟩) ⟨hp_blind, hp_pre C hR⟩ rfl hn hL.1 hst (lv_room hw) dd (hp_room C hR hle hls d')) hl hL kk kx
/-- own's pool: idx names x', which owner declares; a receiver of class cn takes y' -/
def hp_UL (own : String) (idx : Nat) (x' : MethodName) (owner cn : String) (y' : MethodName) (cc' : ByteArray) (maxL : Nat) (ret : Option FieldType) (n : Nat) : Prop := Cond.code y' cc' maxL ret ∈ hp_ws ∧ Cond.methodLink own idx x' ∈ hp_ws ∧ Cond.sameMethod x'.cls owner x'.name x'.desc ∈ hp_ws ∧ Cond.selects cn x' y' ∈ hp_ws ∧ Cond.instanceMethod y' ∈ hp_ws ∧ Cond.initialized y'.cls ∈ hp_ws ∧ Cond.declares ⟨owner, x'.name, x'.desc⟩ ∈ hp_ow ∧
  (owner ≠ "java/lang/invoke/MethodHandle" ∧ owner ≠ "java/lang/invoke/VarHandle" ∧ (parseMethodDescriptor x'.desc).map (fun d => d.parameters.length) = some n) ∧ maxL ≤ 22
theorem hp_callU (C : hp_F M G y cc nL d h0) {idx n maxL d' b : Nat} (ci : Nat) {x' y' : MethodName} {owner cn : String} {cc' : ByteArray} {ret : Option FieldType} {As stk : List Value} {P' : Option Value → hpT → Prop} (ul : hp_UL y.cls idx x' owner cn y' cc' maxL ret n) (hci : (vwCl[ci]?).map (fun r => r.1) = some cn) (h10 : ci < 10)
    (con : hp_C M.2.1 G y' (.code y' cc' maxL ret) d' (.ref b :: As) h P' (fun _ _ => False)) (hd : d' + 1 ≤ d) (dd : decode cc pc = .ok (.invokevirtual idx, 3)) (hi : hp_is G h b ci) (hn : As.length = n) (hst : stk = As.reverse ++ .ref b :: st) (hw : (st.map fun v => v.category).sum ≤ 8)
    (kk : ∀ v h', P' v h' → hp_V M G nL Q h' (pc + 3) lo (v.toList ++ st)) : hp_V M G nL Q h pc lo stk := by
  obtain ⟨w0, w1, w2, w3, w4, w5, w6, hnm, hm⟩ := ul
  intro H locs cells slots ls hR hl hL
  refine hp_tight C hR (fun hle hls => ?_)
  have rf := C.rf
  have rl := C.rl
  have hG : GoodIn hp_ws (va_wsU y.cls idx cn owner x' y' (.code y' cc' maxL ret :: hp_ws)) := by
    intro w hw
    unfold va_wsU at hw
    rcases List.mem_append.mp hw with hw | hw
    · simp only [List.mem_cons, List.not_mem_nil, or_false] at hw
      rcases hw with rfl | rfl | rfl | rfl | rfl
      · exact hp_ws_good _ w1
      · exact hp_ws_good _ w2
      · exact hp_ws_good _ w3
      · exact hp_ws_good _ w4
      · exact hp_ws_good _ w5
    · exact hp_gin w0 w hw
  exact hp_run C (X' := fun _ _ => False) (hp_ofRun (va_runU (Ts := hp_ws) (C := cn) (owner := owner) (x := x') (g := F0 (hp_mi4 M) pc ls stk) ⟨C.ex, C.bc, C.ml, C.own, C.ws⟩ (con.met C.tr) (va_cwA n C.ws hG rfl rfl rfl (C.en.2.1 _ w6) hnm ⟨by show d' + 1 ≤ _; omega, by show 8 + (maxL + 11) + 41 * d' ≤ _; omega⟩) ⟨hp_blind, hp_recv C hR hi h10 hci, hp_pre C hR⟩ rfl hn hL.1 hst (lv_room hw) dd (hp_room C hR hle hls d'))) hl hL kk (fun _ _ hf => hf.elim)
/-- Math.max -/
def hp_MX (own : String) (idx : Nat) : Prop := Cond.methodLink own idx Lib.Math.max.name ∈ hp_ws ∧ Cond.static Lib.Math.max.name ∈ hp_ws ∧ Cond.initialized "java/lang/Math" ∈ hp_ws ∧ Cond.code Lib.Math.max.name Lib.Math.max.code 2 (some .int) ∈ hp_ws
theorem hp_mmax (C : hp_F M G y cc nL d h0) {idx : Nat} {a b v : Int32} (mx : hp_MX y.cls idx) (hd : 1 ≤ d) (hw : (st.map fun v => v.category).sum ≤ 8) (dd : decode cc pc = .ok (.invokestatic idx, 3)) (ev : (if a < b then b else a) = v) (kk : hp_V M G nL Q h (pc + 3) lo (.int v :: st)) : hp_V M G nL Q h pc lo (.int b :: .int a :: st) := by
  subst ev
  obtain ⟨w1, w2, w3, w4⟩ := mx
  intro H locs cells slots ls hR hl hL
  refine hp_tight C hR (fun hle hls => ?_)
  have rf := C.rf
  have rl := C.rl
  have rc := C.rc
  have rs := C.rs
  have b1 := hR.2.2.2.2.2.1
  have b2 := hR.2.2.2.2.2.2
  exact va_mmax C.ex C.bc (C.ml.trans hL.1.symm) C.own (C.ws _ w1) (C.ws _ w2) (C.ws _ w3) (C.ws _ w4) (by omega) (by omega) (by omega) (by omega) dd (kk H locs _ _ ls hR hl hL)
end HP2
end
section
theorem mx_L_74 : hp_MLX RL 74 yL_first cL_first 5 (some .int) [(0, 7, 10, 13), (0, 7, 14, 15)] 4 := ⟨(hp_in1 182 (by decide +kernel) rfl), (hp_in1 0 (by decide +kernel) rfl), (hp_in1 180 (by decide +kernel) rfl), (hp_in1 181 (by decide +kernel) rfl), ⟨by decide, by decide, by decide +kernel⟩, by decide⟩
theorem mx_L_84 : hp_MLX RL 84 yL_keeper cL_keeper 8 (some .int) [(0, 16, 19, 13), (0, 16, 23, 15)] 7 := ⟨(hp_in2 37 (by decide +kernel) rfl), (hp_in1 0 (by decide +kernel) rfl), (hp_in2 35 (by decide +kernel) rfl), (hp_in2 36 (by decide +kernel) rfl), ⟨by decide, by decide, by decide +kernel⟩, by decide⟩
theorem mx_L_88 : hp_MLX RL 88 yL_worker cL_worker 9 (some .int) [(0, 18, 21, 13), (0, 18, 25, 15)] 8 := ⟨(hp_in2 187 (by decide +kernel) rfl), (hp_in1 0 (by decide +kernel) rfl), (hp_in2 185 (by decide +kernel) rfl), (hp_in2 186 (by decide +kernel) rfl), ⟨by decide, by decide, by decide +kernel⟩, by decide⟩
theorem mx_L_92 : hp_MLX RL 92 yL_failing cL_failing 5 (some .int) [(0, 10, 13, 13)] 4 := ⟨(hp_in3 6 (by decide +kernel) rfl), (hp_in1 0 (by decide +kernel) rfl), (hp_in3 4 (by decide +kernel) rfl), (hp_in3 5 (by decide +kernel) rfl), ⟨by decide, by decide, by decide +kernel⟩, by decide⟩
theorem mx_L_96 : hp_MLX RL 96 yL_begin cL_begin 3 (some .int) [(0, 15, 18, 15)] 2 := ⟨(hp_in3 17 (by decide +kernel) rfl), (hp_in1 0 (by decide +kernel) rfl), (hp_in3 15 (by decide +kernel) rfl), (hp_in3 16 (by decide +kernel) rfl), ⟨by decide, by decide, by decide +kernel⟩, by decide⟩
theorem mx_L_100 : hp_MLX RL 100 yL_ends cL_ends 4 (some .int) [(0, 6, 9, 13), (0, 6, 12, 15)] 3 := ⟨(hp_in3 24 (by decide +kernel) rfl), (hp_in1 0 (by decide +kernel) rfl), (hp_in3 22 (by decide +kernel) rfl), (hp_in3 23 (by decide +kernel) rfl), ⟨by decide, by decide, by decide +kernel⟩, by decide⟩
theorem mx_L_104 : hp_MLX RL 104 yL_kill cL_kill 4 (some .int) [(0, 9, 12, 13), (0, 9, 15, 15)] 3 := ⟨(hp_in3 75 (by decide +kernel) rfl), (hp_in1 0 (by decide +kernel) rfl), (hp_in3 73 (by decide +kernel) rfl), (hp_in3 74 (by decide +kernel) rfl), ⟨by decide, by decide, by decide +kernel⟩, by decide⟩
theorem mx_L_108 : hp_MLX RL 108 yL_stop cL_stop 3 (some .int) [(0, 5, 8, 13), (0, 5, 11, 15)] 2 := ⟨(hp_in3 92 (by decide +kernel) rfl), (hp_in1 0 (by decide +kernel) rfl), (hp_in3 90 (by decide +kernel) rfl), (hp_in3 91 (by decide +kernel) rfl), ⟨by decide, by decide, by decide +kernel⟩, by decide⟩
theorem mx_L_112 : hp_MLX RL 112 yL_again cL_again 4 (some .int) [(0, 16, 19, 13), (0, 16, 22, 15)] 3 := ⟨(hp_in3 103 (by decide +kernel) rfl), (hp_in1 0 (by decide +kernel) rfl), (hp_in3 101 (by decide +kernel) rfl), (hp_in3 102 (by decide +kernel) rfl), ⟨by decide, by decide, by decide +kernel⟩, by decide⟩
theorem mx_L_115 : hp_MLX RL 115 yL_remove cL_remove 4 (some .int) [(0, 9, 12, 13), (0, 9, 15, 15)] 3 := ⟨(hp_in3 110 (by decide +kernel) rfl), (hp_in1 0 (by decide +kernel) rfl), (hp_in3 108 (by decide +kernel) rfl), (hp_in3 109 (by decide +kernel) rfl), ⟨by decide, by decide, by decide +kernel⟩, by decide⟩
theorem mx_L_118 : hp_MLX RL 118 yL_pass cL_pass 4 (some .int) [(0, 9, 12, 13)] 3 := ⟨(hp_in3 117 (by decide +kernel) rfl), (hp_in1 0 (by decide +kernel) rfl), (hp_in3 115 (by decide +kernel) rfl), (hp_in3 116 (by decide +kernel) rfl), ⟨by decide, by decide, by decide +kernel⟩, by decide⟩
theorem mx_L_121 : hp_MLX RL 121 yL_state cL_state 4 (some .int) [(0, 9, 12, 13)] 3 := ⟨(hp_in3 124 (by decide +kernel) rfl), (hp_in1 0 (by decide +kernel) rfl), (hp_in3 122 (by decide +kernel) rfl), (hp_in3 123 (by decide +kernel) rfl), ⟨by decide, by decide, by decide +kernel⟩, by decide⟩
theorem mx_L_124 : hp_MLX RL 124 yL_about cL_about 5 (some .int) [(0, 10, 13, 13)] 4 := ⟨(hp_in3 131 (by decide +kernel) rfl), (hp_in1 0 (by decide +kernel) rfl), (hp_in3 129 (by decide +kernel) rfl), (hp_in3 130 (by decide +kernel) rfl), ⟨by decide, by decide, by decide +kernel⟩, by decide⟩
theorem mx_L_127 : hp_MLX RL 127 yL_child cL_child 5 (some .int) [(0, 10, 13, 13)] 4 := ⟨(hp_in3 139 (by decide +kernel) rfl), (hp_in1 0 (by decide +kernel) rfl), (hp_in3 137 (by decide +kernel) rfl), (hp_in3 138 (by decide +kernel) rfl), ⟨by decide, by decide, by decide +kernel⟩, by decide⟩
theorem mx_L_130 : hp_MLX RL 130 yL_event cL_event 5 (some .int) [(0, 10, 13, 13)] 4 := ⟨(hp_in3 147 (by decide +kernel) rfl), (hp_in1 0 (by decide +kernel) rfl), (hp_in3 145 (by decide +kernel) rfl), (hp_in3 146 (by decide +kernel) rfl), ⟨by decide, by decide, by decide +kernel⟩, by decide⟩
theorem mx_L_133 : hp_MLX RL 133 yL_total cL_total 4 (some .int) [(0, 9, 12, 13)] 3 := ⟨(hp_in3 158 (by decide +kernel) rfl), (hp_in1 0 (by decide +kernel) rfl), (hp_in3 156 (by decide +kernel) rfl), (hp_in3 157 (by decide +kernel) rfl), ⟨by decide, by decide, by decide +kernel⟩, by decide⟩
theorem cl_L_8 : Cond.classLink RL 8 "KeeperTree" ∈ hp_ws := (hp_in1 22 (by decide +kernel) rfl)
theorem cl_X5_7 : Cond.classLink RX5 7 "KeeperTree$Journal" ∈ hp_ws := (hp_in1 30 (by decide +kernel) rfl)
theorem cl_X0_11 : Cond.classLink RX0 11 "[[I" ∈ hp_ws := (hp_in1 36 (by decide +kernel) rfl)
theorem cl_X5_16 : Cond.classLink RX5 16 "KeeperTree$Node" ∈ hp_ws := (hp_in1 52 (by decide +kernel) rfl)
theorem cl_X5_22 : Cond.classLink RX5 22 "KeeperTree$Keeper" ∈ hp_ws := (hp_in1 54 (by decide +kernel) rfl)
theorem cl_X1_9 : Cond.classLink RX1 9 "java/util/ArrayList" ∈ hp_ws := (hp_in1 63 (by decide +kernel) rfl)
theorem gs_Jx4a65c_39 : Cond.fieldLink RJx4a65c 39 "java/util/ArrayList" "DEFAULTCAPACITY_EMPTY_ELEMENTDATA" "[Ljava/lang/Object;" ∈ hp_ws := (hp_in1 75 (by decide +kernel) rfl)
theorem cl_X1_20 : Cond.classLink RX1 20 "KeeperTree$RestartTimes" ∈ hp_ws := (hp_in1 89 (by decide +kernel) rfl)
theorem cl_L_13 : Cond.classLink RL 13 "java/lang/IllegalArgumentException" ∈ hp_ws := (hp_in1 183 (by decide +kernel) rfl)
theorem cl_L_15 : Cond.classLink RL 15 "java/lang/IllegalStateException" ∈ hp_ws := (hp_in1 184 (by decide +kernel) rfl)
theorem cl_X5_160 : Cond.classLink RX5 160 "java/lang/IllegalArgumentException" ∈ hp_ws := (hp_in1 195 (by decide +kernel) rfl)
theorem cl_X5_177 : Cond.classLink RX5 177 "java/lang/IllegalStateException" ∈ hp_ws := (hp_in2 20 (by decide +kernel) rfl)
theorem cl_J7_110 : Cond.classLink RJ7 110 "[Ljava/lang/Object;" ∈ hp_ws := (hp_in2 107 (by decide +kernel) rfl)
theorem cl_J7_2 : Cond.classLink RJ7 2 "java/lang/Object" ∈ hp_ws := (hp_in2 109 (by decide +kernel) rfl)
theorem cl_Jx4a65c_7 : Cond.classLink RJx4a65c 7 "java/lang/Object" ∈ hp_ws := (hp_in2 117 (by decide +kernel) rfl)
theorem cl_X1_4 : Cond.classLink RX1 4 "KeeperTree$Node" ∈ hp_ws := (hp_in2 149 (by decide +kernel) rfl)
theorem cl_X5_83 : Cond.classLink RX5 83 "KeeperTree$Worker" ∈ hp_ws := (hp_in2 192 (by decide +kernel) rfl)
theorem cl_L_71 : Cond.classLink RL 71 "KeeperTreeModel" ∈ hp_ws := (hp_in3 167 (by decide +kernel) rfl)
theorem ob_X5_1 : Cond.methodLink RX5 1 objectInit ∈ hp_ws := (hp_in1 27 (by decide +kernel) rfl)
theorem nk_X5_9 : Cond.methodLinkNest RX5 9 yX0_init "KeeperTree" ∈ hp_ow := by decide +kernel
theorem cw_X0_init : Cond.code yX0_init cX0_init 1 none ∈ hp_ws := (hp_in1 34 (by decide +kernel) rfl)
theorem in_X0_init : Cond.initialized yX0_init.cls ∈ hp_ws := (hp_in1 2 (by decide +kernel) rfl)
theorem im_X0_init : Cond.instanceMethod yX0_init ∈ hp_ws := (hp_in1 33 (by decide +kernel) rfl)
theorem ob_X0_3 : Cond.methodLink RX0 3 objectInit ∈ hp_ws := (hp_in1 35 (by decide +kernel) rfl)
theorem ac_int : Cond.arrayClass .int ∈ hp_ws := (hp_in1 51 (by decide +kernel) rfl)
theorem ob_X2_3 : Cond.methodLink RX2 3 objectInit ∈ hp_ws := (hp_in1 62 (by decide +kernel) rfl)
theorem ob_Jxa1e45_1 : Cond.methodLink RJxa1e45 1 objectInit ∈ hp_ws := (hp_in1 74 (by decide +kernel) rfl)
theorem nk_X1_22 : Cond.methodLinkNest RX1 22 yX3_init "KeeperTree" ∈ hp_ow := by decide +kernel
theorem cw_X3_init : Cond.code yX3_init cX3_init 1 none ∈ hp_ws := (hp_in1 93 (by decide +kernel) rfl)
theorem in_X3_init : Cond.initialized yX3_init.cls ∈ hp_ws := (hp_in1 8 (by decide +kernel) rfl)
theorem im_X3_init : Cond.instanceMethod yX3_init ∈ hp_ws := (hp_in1 92 (by decide +kernel) rfl)
theorem ob_X3_3 : Cond.methodLink RX3 3 objectInit ∈ hp_ws := (hp_in1 94 (by decide +kernel) rfl)
theorem ob_X6_1 : Cond.methodLink RX6 1 objectInit ∈ hp_ws := (hp_in3 172 (by decide +kernel) rfl)
theorem ac_boolean : Cond.arrayClass .boolean ∈ hp_ws := (hp_in4 9 (by decide +kernel) rfl)
theorem ac_long : Cond.arrayClass .long ∈ hp_ws := (hp_in4 140 (by decide +kernel) rfl)
theorem mx_J8_194 : hp_MX RJ8 194 := ⟨(hp_in2 81 (by decide +kernel) rfl), (hp_in2 82 (by decide +kernel) rfl), (hp_in1 16 (by decide +kernel) rfl), (hp_in2 83 (by decide +kernel) rfl)⟩
theorem mx_Jx4a65c_79 : hp_MX RJx4a65c 79 := ⟨(hp_in2 116 (by decide +kernel) rfl), (hp_in2 82 (by decide +kernel) rfl), (hp_in1 16 (by decide +kernel) rfl), (hp_in2 83 (by decide +kernel) rfl)⟩
theorem mx_X1_106 : hp_MX RX1 106 := ⟨(hp_in2 130 (by decide +kernel) rfl), (hp_in2 82 (by decide +kernel) rfl), (hp_in1 16 (by decide +kernel) rfl), (hp_in2 83 (by decide +kernel) rfl)⟩
theorem ul_X1_112_X1 : hp_UL RX1 112 ⟨"KeeperTree$Node", "rise", "(LKeeperTree$Journal;)Z"⟩ "KeeperTree$Node" "KeeperTree$Keeper" yX1_rise cX1_rise 3 (some .boolean) 1 := ⟨(hp_in2 121 (by decide +kernel) rfl), (hp_in2 150 (by decide +kernel) rfl), (hp_in2 152 (by decide +kernel) rfl), (hp_in2 153 (by decide +kernel) rfl), (hp_in2 119 (by decide +kernel) rfl), (hp_in1 4 (by decide +kernel) rfl), by decide +kernel, ⟨by decide, by decide, by decide +kernel⟩, by decide⟩
theorem ul_X1_112_X4 : hp_UL RX1 112 ⟨"KeeperTree$Node", "rise", "(LKeeperTree$Journal;)Z"⟩ "KeeperTree$Node" "KeeperTree$Worker" yX4_rise cX4_rise 3 (some .boolean) 1 := ⟨(hp_in2 156 (by decide +kernel) rfl), (hp_in2 150 (by decide +kernel) rfl), (hp_in2 152 (by decide +kernel) rfl), (hp_in2 154 (by decide +kernel) rfl), (hp_in2 155 (by decide +kernel) rfl), (hp_in1 21 (by decide +kernel) rfl), by decide +kernel, ⟨by decide, by decide, by decide +kernel⟩, by decide⟩
theorem ul_X4_29_X4 : hp_UL RX4 29 ⟨"KeeperTree$Worker", "settle", "(ZLKeeperTree$Journal;)Z"⟩ "KeeperTree$Node" "KeeperTree$Worker" yX2_settle cX2_settle 3 (some .boolean) 2 := ⟨(hp_in2 162 (by decide +kernel) rfl), (hp_in2 157 (by decide +kernel) rfl), (hp_in2 158 (by decide +kernel) rfl), (hp_in2 160 (by decide +kernel) rfl), (hp_in2 161 (by decide +kernel) rfl), (hp_in1 3 (by decide +kernel) rfl), by decide +kernel, ⟨by decide, by decide, by decide +kernel⟩, by decide⟩
theorem ul_X1_84_X1 : hp_UL RX1 84 ⟨"KeeperTree$Node", "fall", "(LKeeperTree$Journal;)V"⟩ "KeeperTree$Node" "KeeperTree$Keeper" yX1_fall cX1_fall 2 none 1 := ⟨(hp_in2 176 (by decide +kernel) rfl), (hp_in2 171 (by decide +kernel) rfl), (hp_in2 173 (by decide +kernel) rfl), (hp_in2 174 (by decide +kernel) rfl), (hp_in2 175 (by decide +kernel) rfl), (hp_in1 4 (by decide +kernel) rfl), by decide +kernel, ⟨by decide, by decide, by decide +kernel⟩, by decide⟩
theorem ul_X1_84_X4 : hp_UL RX1 84 ⟨"KeeperTree$Node", "fall", "(LKeeperTree$Journal;)V"⟩ "KeeperTree$Node" "KeeperTree$Worker" yX4_fall cX4_fall 3 none 1 := ⟨(hp_in2 180 (by decide +kernel) rfl), (hp_in2 171 (by decide +kernel) rfl), (hp_in2 173 (by decide +kernel) rfl), (hp_in2 178 (by decide +kernel) rfl), (hp_in2 179 (by decide +kernel) rfl), (hp_in1 21 (by decide +kernel) rfl), by decide +kernel, ⟨by decide, by decide, by decide +kernel⟩, by decide⟩
theorem ul_X1_48_X1 : hp_UL RX1 48 ⟨"KeeperTree$Keeper", "settle", "(ZLKeeperTree$Journal;)Z"⟩ "KeeperTree$Node" "KeeperTree$Keeper" yX2_settle cX2_settle 3 (some .boolean) 2 := ⟨(hp_in2 162 (by decide +kernel) rfl), (hp_in2 182 (by decide +kernel) rfl), (hp_in2 183 (by decide +kernel) rfl), (hp_in2 184 (by decide +kernel) rfl), (hp_in2 161 (by decide +kernel) rfl), (hp_in1 3 (by decide +kernel) rfl), by decide +kernel, ⟨by decide, by decide, by decide +kernel⟩, by decide⟩
theorem ul_X1_77_X1 : hp_UL RX1 77 ⟨"KeeperTree$Node", "vanish", "()I"⟩ "KeeperTree$Node" "KeeperTree$Keeper" yX1_vanish cX1_vanish 3 (some .int) 0 := ⟨(hp_in3 0 (by decide +kernel) rfl), (hp_in2 235 (by decide +kernel) rfl), (hp_in2 237 (by decide +kernel) rfl), (hp_in2 238 (by decide +kernel) rfl), (hp_in2 239 (by decide +kernel) rfl), (hp_in1 4 (by decide +kernel) rfl), by decide +kernel, ⟨by decide, by decide, by decide +kernel⟩, by decide⟩
theorem ul_X1_77_X4 : hp_UL RX1 77 ⟨"KeeperTree$Node", "vanish", "()I"⟩ "KeeperTree$Node" "KeeperTree$Worker" yX4_vanish cX4_vanish 1 (some .int) 0 := ⟨(hp_in3 2 (by decide +kernel) rfl), (hp_in2 235 (by decide +kernel) rfl), (hp_in2 237 (by decide +kernel) rfl), (hp_in3 3 (by decide +kernel) rfl), (hp_in3 1 (by decide +kernel) rfl), (hp_in1 21 (by decide +kernel) rfl), by decide +kernel, ⟨by decide, by decide, by decide +kernel⟩, by decide⟩
theorem ul_X5_126_X1 : hp_UL RX5 126 ⟨"KeeperTree$Node", "rise", "(LKeeperTree$Journal;)Z"⟩ "KeeperTree$Node" "KeeperTree$Keeper" yX1_rise cX1_rise 3 (some .boolean) 1 := ⟨(hp_in2 121 (by decide +kernel) rfl), (hp_in3 61 (by decide +kernel) rfl), (hp_in2 152 (by decide +kernel) rfl), (hp_in2 153 (by decide +kernel) rfl), (hp_in2 119 (by decide +kernel) rfl), (hp_in1 4 (by decide +kernel) rfl), by decide +kernel, ⟨by decide, by decide, by decide +kernel⟩, by decide⟩
theorem ul_X5_126_X4 : hp_UL RX5 126 ⟨"KeeperTree$Node", "rise", "(LKeeperTree$Journal;)Z"⟩ "KeeperTree$Node" "KeeperTree$Worker" yX4_rise cX4_rise 3 (some .boolean) 1 := ⟨(hp_in2 156 (by decide +kernel) rfl), (hp_in3 61 (by decide +kernel) rfl), (hp_in2 152 (by decide +kernel) rfl), (hp_in2 154 (by decide +kernel) rfl), (hp_in2 155 (by decide +kernel) rfl), (hp_in1 21 (by decide +kernel) rfl), by decide +kernel, ⟨by decide, by decide, by decide +kernel⟩, by decide⟩
theorem ul_X5_114_X1 : hp_UL RX5 114 ⟨"KeeperTree$Node", "perish", "(LKeeperTree$Journal;)I"⟩ "KeeperTree$Node" "KeeperTree$Keeper" yX1_perish cX1_perish 5 (some .int) 1 := ⟨(hp_in3 85 (by decide +kernel) rfl), (hp_in3 80 (by decide +kernel) rfl), (hp_in3 82 (by decide +kernel) rfl), (hp_in3 83 (by decide +kernel) rfl), (hp_in3 84 (by decide +kernel) rfl), (hp_in1 4 (by decide +kernel) rfl), by decide +kernel, ⟨by decide, by decide, by decide +kernel⟩, by decide⟩
theorem ul_X5_114_X4 : hp_UL RX5 114 ⟨"KeeperTree$Node", "perish", "(LKeeperTree$Journal;)I"⟩ "KeeperTree$Node" "KeeperTree$Worker" yX4_perish cX4_perish 2 (some .int) 1 := ⟨(hp_in3 88 (by decide +kernel) rfl), (hp_in3 80 (by decide +kernel) rfl), (hp_in3 82 (by decide +kernel) rfl), (hp_in3 89 (by decide +kernel) rfl), (hp_in3 87 (by decide +kernel) rfl), (hp_in1 21 (by decide +kernel) rfl), by decide +kernel, ⟨by decide, by decide, by decide +kernel⟩, by decide⟩
theorem ul_X1_73_X1 : hp_UL RX1 73 ⟨"KeeperTree$Node", "perish", "(LKeeperTree$Journal;)I"⟩ "KeeperTree$Node" "KeeperTree$Keeper" yX1_perish cX1_perish 5 (some .int) 1 := ⟨(hp_in3 85 (by decide +kernel) rfl), (hp_in3 86 (by decide +kernel) rfl), (hp_in3 82 (by decide +kernel) rfl), (hp_in3 83 (by decide +kernel) rfl), (hp_in3 84 (by decide +kernel) rfl), (hp_in1 4 (by decide +kernel) rfl), by decide +kernel, ⟨by decide, by decide, by decide +kernel⟩, by decide⟩
theorem ul_X1_73_X4 : hp_UL RX1 73 ⟨"KeeperTree$Node", "perish", "(LKeeperTree$Journal;)I"⟩ "KeeperTree$Node" "KeeperTree$Worker" yX4_perish cX4_perish 2 (some .int) 1 := ⟨(hp_in3 88 (by decide +kernel) rfl), (hp_in3 86 (by decide +kernel) rfl), (hp_in3 82 (by decide +kernel) rfl), (hp_in3 89 (by decide +kernel) rfl), (hp_in3 87 (by decide +kernel) rfl), (hp_in1 21 (by decide +kernel) rfl), by decide +kernel, ⟨by decide, by decide, by decide +kernel⟩, by decide⟩
theorem ob_i : Cond.instanceMethod objectInit ∈ hp_ws := (hp_in1 28 (by decide +kernel) rfl)
theorem ob_c : Cond.code objectInit ⟨#[0xb1]⟩ 1 none ∈ hp_ws := (hp_in1 29 (by decide +kernel) rfl)
theorem tx_A : ∀ w ∈ (vx_at0 RX5 162 "java/lang/IllegalArgumentException" ["java/lang/RuntimeException", "java/lang/Exception"]).filter goodWord, w ∈ lw_tbl := by decide +kernel
theorem ty_A : ∀ w ∈ (vx_at0 RX5 162 "java/lang/IllegalArgumentException" ["java/lang/RuntimeException", "java/lang/Exception"]).filter (fun w => !goodWord w), w ∈ hp_ow ∧ w.onTables = true := by decide +kernel
theorem tz_A : ∀ w ∈ Cond.classLink RX5 160 "java/lang/IllegalArgumentException" :: Cond.initialized "java/lang/IllegalArgumentException" :: vx_at0 RX5 162 "java/lang/IllegalArgumentException" ["java/lang/RuntimeException", "java/lang/Exception"], vx_ot w = true := by decide +kernel
theorem tl_A : hp_TL RX5 160 162 "java/lang/IllegalArgumentException" := ⟨by decide +kernel, cl_X5_160, (hp_in1 13 (by decide +kernel) rfl), fun w hw => by
  by_cases g : goodWord w = true
  · exact Or.inl ⟨List.mem_filter.mpr ⟨tx_A w (List.mem_filter.mpr ⟨hw, g⟩), g⟩, g⟩
  · exact Or.inr (ty_A w (List.mem_filter.mpr ⟨hw, by cases e : goodWord w <;> simp_all⟩)), tz_A⟩
theorem tx_S : ∀ w ∈ (vx_at0 RX5 179 "java/lang/IllegalStateException" ["java/lang/RuntimeException", "java/lang/Exception"]).filter goodWord, w ∈ lw_tbl := by decide +kernel
theorem ty_S : ∀ w ∈ (vx_at0 RX5 179 "java/lang/IllegalStateException" ["java/lang/RuntimeException", "java/lang/Exception"]).filter (fun w => !goodWord w), w ∈ hp_ow ∧ w.onTables = true := by decide +kernel
theorem tz_S : ∀ w ∈ Cond.classLink RX5 177 "java/lang/IllegalStateException" :: Cond.initialized "java/lang/IllegalStateException" :: vx_at0 RX5 179 "java/lang/IllegalStateException" ["java/lang/RuntimeException", "java/lang/Exception"], vx_ot w = true := by decide +kernel
theorem tl_S : hp_TL RX5 177 179 "java/lang/IllegalStateException" := ⟨by decide +kernel, cl_X5_177, (hp_in1 14 (by decide +kernel) rfl), fun w hw => by
  by_cases g : goodWord w = true
  · exact Or.inl ⟨List.mem_filter.mpr ⟨tx_S w (List.mem_filter.mpr ⟨hw, g⟩), g⟩, g⟩
  · exact Or.inr (ty_S w (List.mem_filter.mpr ⟨hw, by cases e : goodWord w <;> simp_all⟩)), tz_S⟩
end
section
/-- n rows of k numbers each -/
def hp_mkM (h : hpT) (n k : Nat) : hpT := (h.1 + 1 + n, h.2.1 + (n + n * k), (fun b => if b < h.1 then hp_kd h b else if b = h.1 then 15 else if b < h.1 + 1 + n then 10 else hp_kd h b), (fun b => if b < h.1 then hp_ln h b else if b = h.1 then n else if b < h.1 + 1 + n then k else hp_ln h b), h.2.2.2.2.1,
  (fun b i => if b < h.1 then hp_ar h b i else if b = h.1 then .ref (h.1 + 1 + i) else if b < h.1 + 1 + n then .int 0 else hp_ar h b i))
end
section
/-! ===== THE REFERENCE's STATE: an object of 25 fields and the 19 arrays behind it ===== -/
/-- the whole numbers by the field's place, the arrays' contents by the field's place -/
abbrev moS : Type := (Nat → Int32) × (Nat → Nat → Int32)
/-- which array (0 .. 18, in the order of their making) field k holds -/
def mo_j (k : Nat) : Nat := if k ≤ 17 then k - 2 else if k = 20 then 16 else k - 6
def mo_k (j : Nat) : Nat := if j ≤ 15 then j + 2 else if j = 16 then 20 else j + 6
def mo_isA (k : Nat) : Bool := (2 ≤ k && k ≤ 17) || k == 20 || k == 23 || k == 24
def mo_len (k : Nat) : Nat := if k = 14 then 6400 else if k = 16 then 4160 else if k = 20 then 2400 else if k = 23 then 10 else if k = 24 then 10 else 80
theorem mo_kj {k : Nat} (h : mo_isA k = true) : mo_k (mo_j k) = k ∧ mo_j k < 19 := by
  unfold mo_isA at h
  simp only [Bool.or_eq_true, Bool.and_eq_true, decide_eq_true_eq, beq_iff_eq] at h
  unfold mo_k mo_j
  (repeat' split) <;> omega
theorem mo_jk {j : Nat} (h : j < 19) : mo_j (mo_k j) = j ∧ mo_isA (mo_k j) = true := by
  unfold mo_isA mo_k mo_j
  simp only [Bool.or_eq_true, Bool.and_eq_true, decide_eq_true_eq, beq_iff_eq]
  (repeat' split) <;> omega
/-- the heap h, with the reference at m in state s -/
def mo_w (h : hpT) (m : Nat) (s : moS) : hpT := (h.1, h.2.1, h.2.2.1, h.2.2.2.1,
  (fun f b => if b = m ∧ 192 ≤ f ∧ f < 217 then (if mo_isA (f - 192) = true then .ref (m + 1 + mo_j (f - 192)) else .int (s.1 (f - 192))) else hp_fl h f b),
  (fun b i => if m < b ∧ b < m + 20 then .int (s.2 (mo_k (b - (m + 1))) i) else hp_ar h b i))
/-- the reference lies there -/
def mo_sh (G : hpG) (h : hpT) (m : Nat) : Prop := hp_n0 G ≤ m ∧ m + 19 < hp_nx h ∧ hp_kd h m = 6 ∧ (∀ k, mo_isA k = true → hp_kd h (m + 1 + mo_j k) = (if k = 2 then 11 else 10) ∧ hp_ln h (m + 1 + mo_j k) = mo_len k)
abbrev mo_arr (m k : Nat) : Nat := m + 1 + mo_j k
/-- array k, place i := x -/
def mo_up (s : moS) (k i : Nat) (x : Int32) : moS := (s.1, va_up s.2 k (va_up (s.2 k) i x))
/-- number k := x -/
def mo_pt (s : moS) (k : Nat) (x : Int32) : moS := (va_up s.1 k x, s.2)
section MO
variable {G : hpG} {h : hpT} {m : Nat} {s : moS}
theorem mo_w_fl (f b : Nat) : hp_fl (mo_w h m s) f b = (if b = m ∧ 192 ≤ f ∧ f < 217 then (if mo_isA (f - 192) = true then .ref (m + 1 + mo_j (f - 192)) else .int (s.1 (f - 192))) else hp_fl h f b) := rfl
theorem mo_w_ar (b i : Nat) : hp_ar (mo_w h m s) b i = (if m < b ∧ b < m + 20 then .int (s.2 (mo_k (b - (m + 1))) i) else hp_ar h b i) := rfl
theorem mo_fd (k : Nat) : hp_fd 6 k = 192 + k := by unfold hp_fd; rw [if_neg (by decide)]
theorem mo_fl_A {k : Nat} (hk : mo_isA k = true) (h25 : k < 25) : hp_fl (mo_w h m s) (hp_fd 6 k) m = .ref (mo_arr m k) := by
  rw [mo_fd, mo_w_fl, if_pos ⟨rfl, by omega, by omega⟩, Nat.add_sub_cancel_left, if_pos hk]
theorem mo_fl_S {k : Nat} (hk : mo_isA k = false) (h25 : k < 25) : hp_fl (mo_w h m s) (hp_fd 6 k) m = .int (s.1 k) := by
  rw [mo_fd, mo_w_fl, if_pos ⟨rfl, by omega, by omega⟩, Nat.add_sub_cancel_left, if_neg (by rw [hk]; decide)]
/-- two pure heaps are one -/
theorem hp_ext {h h' : hpT} (e1 : hp_nx h = hp_nx h') (e2 : hp_sl h = hp_sl h') (e3 : hp_kd h = hp_kd h') (e4 : hp_ln h = hp_ln h') (e5 : ∀ f b, hp_fl h f b = hp_fl h' f b) (e6 : ∀ b i, hp_ar h b i = hp_ar h' b i) : h = h' := by
  obtain ⟨a1, a2, a3, a4, a5, a6⟩ := h
  obtain ⟨b1, b2, b3, b4, b5, b6⟩ := h'
  have e5' : a5 = b5 := funext fun f => funext fun b => e5 f b
  have e6' : a6 = b6 := funext fun f => funext fun b => e6 f b
  have e1 : a1 = b1 := e1
  have e2 : a2 = b2 := e2
  have e3 : a3 = b3 := e3
  have e4 : a4 = b4 := e4
  subst e1 e2 e3 e4 e5' e6'
  rfl
theorem mo_put {k : Nat} (hk : mo_isA k = false) (h25 : k < 25) (x : Int32) : hp_put (mo_w h m s) (hp_fd 6 k) m (.int x) = mo_w h m (mo_pt s k x) := by
  refine hp_ext rfl rfl rfl rfl (fun f b => ?_) (fun _ _ => rfl)
  rw [hp_put_fl, mo_fd, mo_w_fl, mo_w_fl, mo_w_fl]
  have es : ∀ q, (mo_pt s k x).1 q = va_up s.1 k x q := fun _ => rfl
  rw [es]
  by_cases ef : f = 192 + k
  · rw [if_pos ef]
    by_cases eb : b = m
    · rw [if_pos eb, if_pos ⟨eb, by omega, by omega⟩, show f - 192 = k by omega, if_neg (by rw [hk]; decide), va_up_self]
    · rw [if_neg eb, if_neg (fun z => eb z.1), if_neg (fun z => eb z.1), ef]
  · rw [if_neg ef]
    by_cases c : b = m ∧ 192 ≤ f ∧ f < 217
    · rw [if_pos c, if_pos c, va_up_ne _ _ (show f - 192 ≠ k by omega)]
    · rw [if_neg c, if_neg c]
theorem mo_ar {k : Nat} (hk : mo_isA k = true) (i : Nat) : hp_ar (mo_w h m s) (mo_arr m k) i = .int (s.2 k i) := by
  obtain ⟨e1, e2⟩ := mo_kj hk
  rw [mo_w_ar, if_pos (show m < m + 1 + mo_j k ∧ m + 1 + mo_j k < m + 20 from ⟨by omega, by omega⟩), Nat.add_sub_cancel_left, e1]
theorem mo_set {k : Nat} (hk : mo_isA k = true) (i : Nat) (x : Int32) : hp_set (mo_w h m s) (mo_arr m k) i (.int x) = mo_w h m (mo_up s k i x) := by
  obtain ⟨e1, e2⟩ := mo_kj hk
  refine hp_ext rfl rfl rfl rfl (fun _ _ => rfl) (fun b j => ?_)
  rw [hp_set_ar, mo_ar hk, mo_w_ar, mo_w_ar]
  have es : ∀ q z, (mo_up s k i x).2 q z = va_up s.2 k (va_up (s.2 k) i x) q z := fun _ _ => rfl
  rw [es]
  by_cases eb : b = mo_arr m k
  · have hb : b - (m + 1) = mo_j k := by rw [eb]; exact Nat.add_sub_cancel_left ..
    rw [if_pos eb, if_pos (show m < b ∧ b < m + 20 by rw [eb]; exact ⟨show m < m + 1 + mo_j k by omega, show m + 1 + mo_j k < m + 20 by omega⟩), hb, e1, va_up_self]
    by_cases ej : j = i
    · rw [if_pos ej, ej, va_up_self]
    · rw [if_neg ej, va_up_ne _ _ ej]
  · rw [if_neg eb]
    by_cases c : m < b ∧ b < m + 20
    · rw [if_pos c, if_pos c, va_up_ne]
      intro z
      have := (mo_jk (j := b - (m + 1)) (by omega)).1
      rw [z] at this
      exact eb (by show b = m + 1 + mo_j k; omega)
    · rw [if_neg c, if_neg c]
theorem mo_sh.w (x : mo_sh G h m) (s : moS) : mo_sh G (mo_w h m s) m := x
theorem mo_sh.o (x : mo_sh G h m) : hp_is G (mo_w h m s) m 6 := ⟨x.1, by have := x.2.1; show m < hp_nx h; omega, x.2.2.1⟩
theorem mo_sh.a (x : mo_sh G h m) {k : Nat} (hk : mo_isA k = true) (h2 : k ≠ 2) : hp_is G (mo_w h m s) (mo_arr m k) 10 := by
  obtain ⟨e1, e2⟩ := mo_kj hk
  refine ⟨by have := x.1; show hp_n0 G ≤ m + 1 + mo_j k; omega, by have := x.2.1; show m + 1 + mo_j k < hp_nx h; omega, ?_⟩
  have := (x.2.2.2 k hk).1
  rw [if_neg h2] at this
  exact this
theorem mo_sh.z (x : mo_sh G h m) : hp_is G (mo_w h m s) (mo_arr m 2) 11 := by
  refine ⟨by have := x.1; show hp_n0 G ≤ m + 1 + mo_j 2; omega, by have := x.2.1; show m + 1 + mo_j 2 < hp_nx h; have : mo_j 2 = 0 := rfl; omega, ?_⟩
  exact (x.2.2.2 2 rfl).1
theorem mo_sh.n (x : mo_sh G h m) {k : Nat} (hk : mo_isA k = true) : hp_ln (mo_w h m s) (mo_arr m k) = mo_len k := (x.2.2.2 k hk).2
variable {M : hpM} {y : MethodName} {cc : ByteArray} {nL d : Nat} {h0 : hpT} {Q : State → Prop} {pc : Nat} {lo : Nat → Option Value} {st : List Value}
theorem mo_getA (C : hp_F M G y cc nL d h0) (x : mo_sh G h m) {idx k : Nat} (fl : hp_FL y.cls idx 6 k) (hk : mo_isA k = true) (h25 : k < 25) (dd : decode cc pc = .ok (.getfield idx, 3)) (kk : hp_V M G nL Q (mo_w h m s) (pc + 3) lo (.ref (mo_arr m k) :: st)) : hp_V M G nL Q (mo_w h m s) pc lo (.ref m :: st) := hp_get C fl dd x.o (mo_fl_A hk h25) kk
theorem mo_getS (C : hp_F M G y cc nL d h0) (x : mo_sh G h m) {idx k : Nat} (fl : hp_FL y.cls idx 6 k) (hk : mo_isA k = false) (h25 : k < 25) {v : Int32} (ev : s.1 k = v) (dd : decode cc pc = .ok (.getfield idx, 3)) (kk : hp_V M G nL Q (mo_w h m s) (pc + 3) lo (.int v :: st)) : hp_V M G nL Q (mo_w h m s) pc lo (.ref m :: st) := hp_get C fl dd x.o ((mo_fl_S hk h25).trans (by rw [ev])) kk
theorem mo_putS (C : hp_F M G y cc nL d h0) (x : mo_sh G h m) {idx k : Nat} {v : Int32} (fl : hp_FL y.cls idx 6 k) (hk : mo_isA k = false) (h25 : k < 25) (hf : (vwCl[6]?).map (fun r => (r.2.1 k).2.2.2) = some false) (hn : narrow (hp_ty 6 k) (.int v) = .int v) (hfit : fits (hp_ty 6 k) (.int v) = true) (dd : decode cc pc = .ok (.putfield idx, 3)) (kk : hp_V M G nL Q (mo_w h m (mo_pt s k v)) (pc + 3) lo st) : hp_V M G nL Q (mo_w h m s) pc lo (.int v :: .ref m :: st) := hp_putf C fl hf hn hfit dd x.o (by rw [mo_put hk h25]; exact kk)
theorem mo_ald (C : hp_F M G y cc nL d h0) (x : mo_sh G h m) {k : Nat} {i : Int32} {f : Nat → Int32} (hk : mo_isA k = true) (h2 : k ≠ 2) (ef : s.2 k = f) (dd : decode cc pc = .ok (.iaload, 1)) (hin : vp_in i (mo_len k)) (kk : hp_V M G nL Q (mo_w h m s) (pc + 1) lo (.int (f i.toNatClampNeg) :: st)) : hp_V M G nL Q (mo_w h m s) pc lo (.int i :: .ref (mo_arr m k) :: st) := hp_iald C dd (x.a hk h2) (by rw [x.n hk]; exact hin) ((mo_ar hk _).trans (by rw [ef])) kk
theorem mo_zld (C : hp_F M G y cc nL d h0) (x : mo_sh G h m) {i : Int32} {f : Nat → Int32} (ef : s.2 2 = f) (dd : decode cc pc = .ok (.baload, 1)) (hin : vp_in i 80) (kk : hp_V M G nL Q (mo_w h m s) (pc + 1) lo (.int (f i.toNatClampNeg) :: st)) : hp_V M G nL Q (mo_w h m s) pc lo (.int i :: .ref (mo_arr m 2) :: st) := hp_zald C dd x.z (by rw [x.n (k := 2) rfl]; exact hin) ((mo_ar rfl _).trans (by rw [ef])) kk
theorem mo_ast (C : hp_F M G y cc nL d h0) (x : mo_sh G h m) {k : Nat} {i v : Int32} (hk : mo_isA k = true) (h2 : k ≠ 2) (dd : decode cc pc = .ok (.iastore, 1)) (hin : vp_in i (mo_len k)) (kk : hp_V M G nL Q (mo_w h m (mo_up s k i.toNatClampNeg v)) (pc + 1) lo st) : hp_V M G nL Q (mo_w h m s) pc lo (.int v :: .int i :: .ref (mo_arr m k) :: st) := hp_iast C dd (x.a hk h2) (by rw [x.n hk]; exact hin) (by rw [mo_set hk]; exact kk)
theorem mo_zst (C : hp_F M G y cc nL d h0) (x : mo_sh G h m) {i v : Int32} (hn : narrow .boolean (.int v) = .int v) (dd : decode cc pc = .ok (.bastore, 1)) (hin : vp_in i 80) (kk : hp_V M G nL Q (mo_w h m (mo_up s 2 i.toNatClampNeg v)) (pc + 1) lo st) : hp_V M G nL Q (mo_w h m s) pc lo (.int v :: .int i :: .ref (mo_arr m 2) :: st) := hp_zast C dd hn x.z (by rw [x.n (k := 2) rfl]; exact hin) (by rw [mo_set (k := 2) rfl]; exact kk)
end MO
end
section
set_option maxRecDepth 20000 in
set_option maxHeartbeats 4000000 in
theorem mo_thrown {l : Launch} {G : hpG} {h : hpT} {m d : Nat} {s : moS} (sh : mo_sh G h m)  : hp_C l G yX6_thrown (.code yX6_thrown cX6_thrown 1 (some .int)) d [.ref m] (mo_w h m s) (fun v h' => v = some (.int (s.1 0)) ∧ h' = mo_w h m (s)) (fun _ _ => False) := by
  refine hp_ofV (by decide) (by simp [Value.category]) (Nat.le_of_ble_eq_true rfl) (fun M C hr hx el => ?_)
  refine hp_aload_nR C dX6_thrown_0 rfl ?_
  refine mo_getS C sh fl_X6_72_6 rfl (by decide) (v := s.1 0) rfl dX6_thrown_1 ?_
  refine hp_iret C hr rfl dX6_thrown_4 ?_
  exact ⟨rfl, rfl⟩
def mo_ref (c : Int32) : Int32 := if c ≤ 0 then 0 else 1
set_option maxRecDepth 20000 in
set_option maxHeartbeats 4000000 in
theorem mo_refuses {l : Launch} {G : hpG} {h : hpT} {m d : Nat} {s : moS} (sh : mo_sh G h m) {c : Int32} : hp_C l G yX6_refuses (.code yX6_refuses cX6_refuses 2 (some .boolean)) d [.ref m, .int c] (mo_w h m s) (fun v h' => v = some (.int (mo_ref c)) ∧ h' = mo_w h m (mo_pt s 0 c)) (fun _ _ => False) := by
  refine hp_ofV (by decide) (by simp [Value.category]) (Nat.le_of_ble_eq_true rfl) (fun M C hr hx el => ?_)
  refine hp_aload_nR C dX6_refuses_0 rfl ?_
  refine hp_iload_n C dX6_refuses_1 rfl ?_
  refine mo_putS C sh fl_X6_72_6 rfl (by decide) rfl rfl rfl dX6_refuses_2 ?_
  refine hp_iload_n C dX6_refuses_5 rfl ?_
  refine hp_if_le (tgt := 13) C dX6_refuses_6 (by decide) (fun c_6 => ?_) (fun c_6 => ?_)
  · refine hp_iconst (v := 0) C dX6_refuses_13 (by decide) ?_
    refine hp_iret C hr (by decide) dX6_refuses_14 ?_
    exact ⟨by simp only [mo_ref, c_6, if_true, if_false], rfl⟩
  · refine hp_iconst (v := 1) C dX6_refuses_9 (by decide) ?_
    refine hp_goto (tgt := 14) C dX6_refuses_10 (by decide) ?_
    refine hp_iret C hr (by decide) dX6_refuses_14 ?_
    exact ⟨by simp only [mo_ref, c_6, if_true, if_false], rfl⟩
/-- in range: the number of nodes made -/
def mo_ok (s : moS) : Prop := ∃ k : Nat, s.1 1 = nI k ∧ 1 ≤ k ∧ k ≤ 80
theorem mo_ok.inn {s : moS} (x : mo_ok s) {n : Int32} (h1 : ¬ n < 0) (h2 : ¬ s.1 1 ≤ n) : vp_in n 80 := by
  obtain ⟨k, e, -, hk⟩ := x
  rw [e] at h2
  rw [vp_in_iff]
  have := nI_toInt (n := k) (by omega)
  rw [Int32.le_iff_toInt_le, this] at h2
  rw [Int32.lt_iff_toInt_lt, Int32.toInt_zero] at h1
  omega
def mo_isN (s : moS) (n : Int32) : Int32 := if n < 0 then 0 else if s.1 1 ≤ n then 0 else if s.2 5 n.toNatClampNeg = 2 then 0 else 1
set_option maxRecDepth 20000 in
set_option maxHeartbeats 4000000 in
theorem mo_isNode {l : Launch} {G : hpG} {h : hpT} {m d : Nat} {s : moS} (sh : mo_sh G h m) {n : Int32} (ok : mo_ok s) : hp_C l G yX6_isNode (.code yX6_isNode cX6_isNode 2 (some .boolean)) d [.ref m, .int n] (mo_w h m s) (fun v h' => v = some (.int (mo_isN s n)) ∧ h' = mo_w h m (s)) (fun _ _ => False) := by
  refine hp_ofV (by decide) (by simp [Value.category]) (Nat.le_of_ble_eq_true rfl) (fun M C hr hx el => ?_)
  refine hp_iload_n C dX6_isNode_0 rfl ?_
  refine hp_if_lt (tgt := 26) C dX6_isNode_1 (by decide) (fun c_1 => ?_) (fun c_1 => ?_)
  · refine hp_iconst (v := 0) C dX6_isNode_26 (by decide) ?_
    refine hp_iret C hr (by decide) dX6_isNode_27 ?_
    exact ⟨by simp only [mo_isN, *, if_true, if_false], rfl⟩
  · refine hp_iload_n C dX6_isNode_4 rfl ?_
    refine hp_aload_nR C dX6_isNode_5 rfl ?_
    refine mo_getS C sh fl_X6_68_6 rfl (by decide) (v := s.1 1) rfl dX6_isNode_6 ?_
    refine hp_icmp_ge (tgt := 26) C dX6_isNode_9 (by decide) (fun c_9 => ?_) (fun c_9 => ?_)
    · refine hp_iconst (v := 0) C dX6_isNode_26 (by decide) ?_
      refine hp_iret C hr (by decide) dX6_isNode_27 ?_
      exact ⟨by simp only [mo_isN, *, if_true, if_false], rfl⟩
    · refine hp_aload_nR C dX6_isNode_12 rfl ?_
      refine mo_getA C sh fl_X6_20_6 rfl (by decide) dX6_isNode_13 ?_
      refine hp_iload_n C dX6_isNode_16 rfl ?_
      refine mo_ald C sh (f := s.2 5) rfl (by decide) rfl dX6_isNode_17 (by exact ok.inn c_1 c_9) ?_
      refine hp_iconst (v := 2) C dX6_isNode_18 (by decide) ?_
      refine hp_icmp_eq (tgt := 26) C dX6_isNode_19 (by decide) (fun c_19 => ?_) (fun c_19 => ?_)
      · refine hp_iconst (v := 0) C dX6_isNode_26 (by decide) ?_
        refine hp_iret C hr (by decide) dX6_isNode_27 ?_
        exact ⟨by simp only [mo_isN, *, if_true, if_false], rfl⟩
      · refine hp_iconst (v := 1) C dX6_isNode_22 (by decide) ?_
        refine hp_goto (tgt := 27) C dX6_isNode_23 (by decide) ?_
        refine hp_iret C hr (by decide) dX6_isNode_27 ?_
        exact ⟨by simp only [mo_isN, *, if_true, if_false], rfl⟩
def mo_inn (x lo hi : Int32) : Int32 := if x < lo then 0 else if hi < x then 0 else 1
set_option maxRecDepth 20000 in
set_option maxHeartbeats 4000000 in
theorem mo_in {l : Launch} {G : hpG} {h : hpT} {d : Nat} {x lw hg : Int32} : hp_C l G yX6_in (.code yX6_in cX6_in 3 (some .boolean)) d [.int x, .int lw, .int hg] (h) (fun v h' => v = some (.int (mo_inn x lw hg)) ∧ h' = h) (fun _ _ => False) := by
  refine hp_ofV (by decide) (by simp [Value.category]) (Nat.le_of_ble_eq_true rfl) (fun M C hr hx el => ?_)
  refine hp_iload_n C dX6_in_0 rfl ?_
  refine hp_iload_n C dX6_in_1 rfl ?_
  refine hp_icmp_lt (tgt := 14) C dX6_in_2 (by decide) (fun c_2 => ?_) (fun c_2 => ?_)
  · refine hp_iconst (v := 0) C dX6_in_14 (by decide) ?_
    refine hp_iret C hr (by decide) dX6_in_15 ?_
    exact ⟨by simp only [mo_inn, *, if_true, if_false], rfl⟩
  · refine hp_iload_n C dX6_in_5 rfl ?_
    refine hp_iload_n C dX6_in_6 rfl ?_
    refine hp_icmp_gt (tgt := 14) C dX6_in_7 (by decide) (fun c_7 => ?_) (fun c_7 => ?_)
    · refine hp_iconst (v := 0) C dX6_in_14 (by decide) ?_
      refine hp_iret C hr (by decide) dX6_in_15 ?_
      exact ⟨by simp only [mo_inn, *, if_true, if_false], rfl⟩
    · refine hp_iconst (v := 1) C dX6_in_10 (by decide) ?_
      refine hp_goto (tgt := 15) C dX6_in_11 (by decide) ?_
      refine hp_iret C hr (by decide) dX6_in_15 ?_
      exact ⟨by simp only [mo_inn, *, if_true, if_false], rfl⟩
theorem mo_isN_1 {s : moS} {n : Int32} (h : ¬ mo_isN s n = 0) : ¬ n < 0 ∧ ¬ s.1 1 ≤ n ∧ ¬ s.2 5 n.toNatClampNeg = 2 := by
  unfold mo_isN at h
  by_cases a : n < 0
  · exact absurd (by rw [if_pos a]) h
  · by_cases b : s.1 1 ≤ n
    · exact absurd (by rw [if_neg a, if_pos b]) h
    · by_cases c : s.2 5 n.toNatClampNeg = 2
      · exact absurd (by rw [if_neg a, if_neg b, if_pos c]) h
      · exact ⟨a, b, c⟩
def mo_isK (s : moS) (n : Int32) : Int32 := if mo_isN s n = 0 then 0 else if s.2 2 n.toNatClampNeg = 0 then 0 else 1
def mo_isW (s : moS) (n : Int32) : Int32 := if mo_isN s n = 0 then 0 else if s.2 2 n.toNatClampNeg = 0 then 1 else 0
set_option maxRecDepth 20000 in
set_option maxHeartbeats 4000000 in
theorem mo_isKeeper {l : Launch} {G : hpG} {h : hpT} {m d : Nat} {s : moS} (sh : mo_sh G h m) {n : Int32} (ok : mo_ok s) (hd : 1 ≤ d) : hp_C l G yX6_isKeeper (.code yX6_isKeeper cX6_isKeeper 2 (some .boolean)) d [.ref m, .int n] (mo_w h m s) (fun v h' => v = some (.int (mo_isK s n)) ∧ h' = mo_w h m (s)) (fun _ _ => False) := by
  refine hp_ofV (by decide) (by simp [Value.category]) (Nat.le_of_ble_eq_true rfl) (fun M C hr hx el => ?_)
  refine hp_aload_nR C dX6_isKeeper_0 rfl ?_
  refine hp_iload_n C dX6_isKeeper_1 rfl ?_
  refine hp_callV (ci := 6) C ml_X6_75 im_X6_isNode se_X6_isNode rfl (by decide) (mo_isNode (d := d - 1) sh (by exact ok)) (by omega) dX6_isKeeper_2 sh.o rfl rfl (by simp [Value.category]) (fun v_1 h_1 hp => ?_) (fun _ _ hf => hf.elim)
  obtain ⟨rfl, rfl⟩ := hp
  refine hp_if_eq (tgt := 21) C dX6_isKeeper_5 (by decide) (fun c_5 => ?_) (fun c_5 => ?_)
  · refine hp_iconst (v := 0) C dX6_isKeeper_21 (by decide) ?_
    refine hp_iret C hr (by decide) dX6_isKeeper_22 ?_
    exact ⟨by simp only [mo_isK, *, if_true, if_false], rfl⟩
  · refine hp_aload_nR C dX6_isKeeper_8 rfl ?_
    refine mo_getA C sh fl_X6_7_6 rfl (by decide) dX6_isKeeper_9 ?_
    refine hp_iload_n C dX6_isKeeper_12 rfl ?_
    refine mo_zld C sh (f := s.2 2) rfl dX6_isKeeper_13 (by exact ok.inn (mo_isN_1 c_5).1 (mo_isN_1 c_5).2.1) ?_
    refine hp_if_eq (tgt := 21) C dX6_isKeeper_14 (by decide) (fun c_14 => ?_) (fun c_14 => ?_)
    · refine hp_iconst (v := 0) C dX6_isKeeper_21 (by decide) ?_
      refine hp_iret C hr (by decide) dX6_isKeeper_22 ?_
      exact ⟨by simp only [mo_isK, *, if_true, if_false], rfl⟩
    · refine hp_iconst (v := 1) C dX6_isKeeper_17 (by decide) ?_
      refine hp_goto (tgt := 22) C dX6_isKeeper_18 (by decide) ?_
      refine hp_iret C hr (by decide) dX6_isKeeper_22 ?_
      exact ⟨by simp only [mo_isK, *, if_true, if_false], rfl⟩
set_option maxRecDepth 20000 in
set_option maxHeartbeats 4000000 in
theorem mo_isWorker {l : Launch} {G : hpG} {h : hpT} {m d : Nat} {s : moS} (sh : mo_sh G h m) {n : Int32} (ok : mo_ok s) (hd : 1 ≤ d) : hp_C l G yX6_isWorker (.code yX6_isWorker cX6_isWorker 2 (some .boolean)) d [.ref m, .int n] (mo_w h m s) (fun v h' => v = some (.int (mo_isW s n)) ∧ h' = mo_w h m (s)) (fun _ _ => False) := by
  refine hp_ofV (by decide) (by simp [Value.category]) (Nat.le_of_ble_eq_true rfl) (fun M C hr hx el => ?_)
  refine hp_aload_nR C dX6_isWorker_0 rfl ?_
  refine hp_iload_n C dX6_isWorker_1 rfl ?_
  refine hp_callV (ci := 6) C ml_X6_75 im_X6_isNode se_X6_isNode rfl (by decide) (mo_isNode (d := d - 1) sh (by exact ok)) (by omega) dX6_isWorker_2 sh.o rfl rfl (by simp [Value.category]) (fun v_1 h_1 hp => ?_) (fun _ _ hf => hf.elim)
  obtain ⟨rfl, rfl⟩ := hp
  refine hp_if_eq (tgt := 21) C dX6_isWorker_5 (by decide) (fun c_5 => ?_) (fun c_5 => ?_)
  · refine hp_iconst (v := 0) C dX6_isWorker_21 (by decide) ?_
    refine hp_iret C hr (by decide) dX6_isWorker_22 ?_
    exact ⟨by simp only [mo_isW, *, if_true, if_false], rfl⟩
  · refine hp_aload_nR C dX6_isWorker_8 rfl ?_
    refine mo_getA C sh fl_X6_7_6 rfl (by decide) dX6_isWorker_9 ?_
    refine hp_iload_n C dX6_isWorker_12 rfl ?_
    refine mo_zld C sh (f := s.2 2) rfl dX6_isWorker_13 (by exact ok.inn (mo_isN_1 c_5).1 (mo_isN_1 c_5).2.1) ?_
    refine hp_if_ne (tgt := 21) C dX6_isWorker_14 (by decide) (fun c_14 => ?_) (fun c_14 => ?_)
    · refine hp_iconst (v := 0) C dX6_isWorker_21 (by decide) ?_
      refine hp_iret C hr (by decide) dX6_isWorker_22 ?_
      exact ⟨by simp only [mo_isW, *, if_true, if_false], rfl⟩
    · refine hp_iconst (v := 1) C dX6_isWorker_17 (by decide) ?_
      refine hp_goto (tgt := 22) C dX6_isWorker_18 (by decide) ?_
      refine hp_iret C hr (by decide) dX6_isWorker_22 ?_
      exact ⟨by simp only [mo_isW, *, if_true, if_false], rfl⟩
end
section
/-- events told: the count is no negative number -/
def mo_evk (s : moS) : Prop := 0 ≤ (s.1 19).toInt
theorem mo_ev_in {e : Int32} (h0 : 0 ≤ e.toInt) (h1 : ¬ 600 ≤ e) {j : Int32} (hj : 0 ≤ j.toInt ∧ j.toInt < 4) : vp_in (4 * e + j) 2400 ∧ (4 * e + j).toNatClampNeg = 4 * e.toNatClampNeg + j.toNatClampNeg := by
  have h2 : e.toInt < 600 := by
    have := mt Int32.le_iff_toInt_le.mpr h1
    have e6 : (600 : Int32).toInt = 600 := by decide
    omega
  have e4 : (4 : Int32).toInt = 4 := by decide
  have m1 : (4 * e).toInt = 4 * e.toInt := by
    rw [Int32.toInt_mul, e4]
    exact Int.bmod_eq_of_le (by omega) (by omega)
  have m2 : (4 * e + j).toInt = 4 * e.toInt + j.toInt := by
    rw [Int32.toInt_add, m1]
    exact Int.bmod_eq_of_le (by omega) (by omega)
  refine ⟨vp_in_iff.mpr (by omega), ?_⟩
  have f : ∀ x : Int32, x.toNatClampNeg = x.toInt.toNat := fun _ => rfl
  rw [f, f, f, m2]
  omega
theorem mo_ev_in0 {e : Int32} (h0 : 0 ≤ e.toInt) (h1 : ¬ 600 ≤ e) : vp_in (4 * e) 2400 := by
  have := (mo_ev_in h0 h1 (j := 0) (by decide)).1
  rwa [Int32.add_zero] at this
def mo_note (s : moS) (a b c : Int32) : moS := if 600 ≤ s.1 19 then mo_pt s 19 (s.1 19 + 1) else
  mo_pt (mo_up (mo_up (mo_up (mo_up s 20 (4 * s.1 19).toNatClampNeg a) 20 (4 * s.1 19 + 1).toNatClampNeg b) 20 (4 * s.1 19 + 2).toNatClampNeg (s.1 18)) 20 (4 * s.1 19 + 3).toNatClampNeg c) 19 (s.1 19 + 1)
set_option maxRecDepth 20000 in
set_option maxHeartbeats 4000000 in
theorem mo_noteC {l : Launch} {G : hpG} {h : hpT} {m d : Nat} {s : moS} (sh : mo_sh G h m) {a b c : Int32} (ev : mo_evk s) : hp_C l G yX6_note (.code yX6_note cX6_note 4 none) d [.ref m, .int a, .int b, .int c] (mo_w h m s) (fun v h' => v = none ∧ h' = mo_w h m (mo_note s a b c)) (fun _ _ => False) := by
  refine hp_ofV (by decide) (by simp [Value.category]) (Nat.le_of_ble_eq_true rfl) (fun M C hr hx el => ?_)
  refine hp_aload_nR C dX6_note_0 rfl ?_
  refine mo_getS C sh fl_X6_79_6 rfl (by decide) (v := s.1 19) rfl dX6_note_1 ?_
  refine hp_sipush (v := 600) C dX6_note_4 (by decide) ?_
  refine hp_icmp_ge (tgt := 67) C dX6_note_7 (by decide) (fun c_7 => ?_) (fun c_7 => ?_)
  · refine hp_aload_nR C dX6_note_67 rfl ?_
    refine hp_dup C dX6_note_68 rfl ?_
    refine mo_getS C sh fl_X6_79_6 rfl (by decide) (v := s.1 19) rfl dX6_note_69 ?_
    refine hp_iconst (v := 1) C dX6_note_72 (by decide) ?_
    refine hp_iadd C dX6_note_73 ?_
    refine mo_putS C sh fl_X6_79_6 rfl (by decide) rfl rfl rfl dX6_note_74 ?_
    refine hp_vret C hr dX6_note_77 ?_
    exact ⟨rfl, by unfold mo_note; first | rw [if_pos c_7] | rw [if_neg c_7]⟩
  · refine hp_aload_nR C dX6_note_10 rfl ?_
    refine mo_getA C sh fl_X6_59_6 rfl (by decide) dX6_note_11 ?_
    refine hp_iconst (v := 4) C dX6_note_14 (by decide) ?_
    refine hp_aload_nR C dX6_note_15 rfl ?_
    refine mo_getS C sh fl_X6_79_6 rfl (by decide) (v := s.1 19) rfl dX6_note_16 ?_
    refine hp_imul C dX6_note_19 ?_
    refine hp_iload_n C dX6_note_20 rfl ?_
    refine mo_ast C sh rfl (by decide) dX6_note_21 (by exact mo_ev_in0 ev c_7) ?_
    refine hp_aload_nR C dX6_note_22 rfl ?_
    refine mo_getA C sh fl_X6_59_6 rfl (by decide) dX6_note_23 ?_
    refine hp_iconst (v := 4) C dX6_note_26 (by decide) ?_
    refine hp_aload_nR C dX6_note_27 rfl ?_
    refine mo_getS C sh fl_X6_79_6 rfl (by decide) (v := s.1 19) rfl dX6_note_28 ?_
    refine hp_imul C dX6_note_31 ?_
    refine hp_iconst (v := 1) C dX6_note_32 (by decide) ?_
    refine hp_iadd C dX6_note_33 ?_
    refine hp_iload_n C dX6_note_34 rfl ?_
    refine mo_ast C sh rfl (by decide) dX6_note_35 (by exact (mo_ev_in ev c_7 (by decide)).1) ?_
    refine hp_aload_nR C dX6_note_36 rfl ?_
    refine mo_getA C sh fl_X6_59_6 rfl (by decide) dX6_note_37 ?_
    refine hp_iconst (v := 4) C dX6_note_40 (by decide) ?_
    refine hp_aload_nR C dX6_note_41 rfl ?_
    refine mo_getS C sh fl_X6_79_6 rfl (by decide) (v := s.1 19) rfl dX6_note_42 ?_
    refine hp_imul C dX6_note_45 ?_
    refine hp_iconst (v := 2) C dX6_note_46 (by decide) ?_
    refine hp_iadd C dX6_note_47 ?_
    refine hp_aload_nR C dX6_note_48 rfl ?_
    refine mo_getS C sh fl_X6_82_6 rfl (by decide) (v := s.1 18) rfl dX6_note_49 ?_
    refine mo_ast C sh rfl (by decide) dX6_note_52 (by exact (mo_ev_in ev c_7 (by decide)).1) ?_
    refine hp_aload_nR C dX6_note_53 rfl ?_
    refine mo_getA C sh fl_X6_59_6 rfl (by decide) dX6_note_54 ?_
    refine hp_iconst (v := 4) C dX6_note_57 (by decide) ?_
    refine hp_aload_nR C dX6_note_58 rfl ?_
    refine mo_getS C sh fl_X6_79_6 rfl (by decide) (v := s.1 19) rfl dX6_note_59 ?_
    refine hp_imul C dX6_note_62 ?_
    refine hp_iconst (v := 3) C dX6_note_63 (by decide) ?_
    refine hp_iadd C dX6_note_64 ?_
    refine hp_iload_n C dX6_note_65 rfl ?_
    refine mo_ast C sh rfl (by decide) dX6_note_66 (by exact (mo_ev_in ev c_7 (by decide)).1) ?_
    refine hp_aload_nR C dX6_note_67 rfl ?_
    refine hp_dup C dX6_note_68 rfl ?_
    refine mo_getS C sh fl_X6_79_6 rfl (by decide) (v := s.1 19) rfl dX6_note_69 ?_
    refine hp_iconst (v := 1) C dX6_note_72 (by decide) ?_
    refine hp_iadd C dX6_note_73 ?_
    refine mo_putS C sh fl_X6_79_6 rfl (by decide) rfl rfl rfl dX6_note_74 ?_
    refine hp_vret C hr dX6_note_77 ?_
    exact ⟨rfl, by unfold mo_note; first | rw [if_pos c_7] | rw [if_neg c_7]⟩
def mo_isKp (a r t : Int32) : Int32 := if mo_inn a 0 2 = 0 then 0 else if mo_inn r 0 50 = 0 then 0 else if mo_inn t 1 1000 = 0 then 0 else 1
set_option maxRecDepth 20000 in
set_option maxHeartbeats 4000000 in
theorem mo_isKeeping {l : Launch} {G : hpG} {h : hpT} {d : Nat} (hd : 1 ≤ d) {a r t : Int32} : hp_C l G yX6_isKeeping (.code yX6_isKeeping cX6_isKeeping 3 (some .boolean)) d [.int a, .int r, .int t] (h) (fun v h' => v = some (.int (mo_isKp a r t)) ∧ h' = h) (fun _ _ => False) := by
  refine hp_ofV (by decide) (by simp [Value.category]) (Nat.le_of_ble_eq_true rfl) (fun M C hr hx el => ?_)
  refine hp_iload_n C dX6_isKeeping_0 rfl ?_
  refine hp_iconst (v := 0) C dX6_isKeeping_1 (by decide) ?_
  refine hp_iconst (v := 2) C dX6_isKeeping_2 (by decide) ?_
  refine hp_callS C ml_X6_118 sm_X6_in (mo_in (d := d - 1)) (by omega) dX6_isKeeping_3 rfl rfl (by simp [Value.category]) (fun v_1 h_1 hp => ?_) (fun _ _ hf => hf.elim)
  obtain ⟨rfl, rfl⟩ := hp
  refine hp_if_eq (tgt := 34) C dX6_isKeeping_6 (by decide) (fun c_6 => ?_) (fun c_6 => ?_)
  · refine hp_iconst (v := 0) C dX6_isKeeping_34 (by decide) ?_
    refine hp_iret C hr (by decide) dX6_isKeeping_35 ?_
    exact ⟨by simp only [mo_isKp, *, if_true, if_false], rfl⟩
  · refine hp_iload_n C dX6_isKeeping_9 rfl ?_
    refine hp_iconst (v := 0) C dX6_isKeeping_10 (by decide) ?_
    refine hp_bipush (v := 50) C dX6_isKeeping_11 (by decide) ?_
    refine hp_callS C ml_X6_118 sm_X6_in (mo_in (d := d - 1)) (by omega) dX6_isKeeping_13 rfl rfl (by simp [Value.category]) (fun v_1 h_1 hp => ?_) (fun _ _ hf => hf.elim)
    obtain ⟨rfl, rfl⟩ := hp
    refine hp_if_eq (tgt := 34) C dX6_isKeeping_16 (by decide) (fun c_16 => ?_) (fun c_16 => ?_)
    · refine hp_iconst (v := 0) C dX6_isKeeping_34 (by decide) ?_
      refine hp_iret C hr (by decide) dX6_isKeeping_35 ?_
      exact ⟨by simp only [mo_isKp, *, if_true, if_false], rfl⟩
    · refine hp_iload_n C dX6_isKeeping_19 rfl ?_
      refine hp_iconst (v := 1) C dX6_isKeeping_20 (by decide) ?_
      refine hp_sipush (v := 1000) C dX6_isKeeping_21 (by decide) ?_
      refine hp_callS C ml_X6_118 sm_X6_in (mo_in (d := d - 1)) (by omega) dX6_isKeeping_24 rfl rfl (by simp [Value.category]) (fun v_1 h_1 hp => ?_) (fun _ _ hf => hf.elim)
      obtain ⟨rfl, rfl⟩ := hp
      refine hp_if_eq (tgt := 34) C dX6_isKeeping_27 (by decide) (fun c_27 => ?_) (fun c_27 => ?_)
      · refine hp_iconst (v := 0) C dX6_isKeeping_34 (by decide) ?_
        refine hp_iret C hr (by decide) dX6_isKeeping_35 ?_
        exact ⟨by simp only [mo_isKp, *, if_true, if_false], rfl⟩
      · refine hp_iconst (v := 1) C dX6_isKeeping_30 (by decide) ?_
        refine hp_goto (tgt := 35) C dX6_isKeeping_31 (by decide) ?_
        refine hp_iret C hr (by decide) dX6_isKeeping_35 ?_
        exact ⟨by simp only [mo_isKp, *, if_true, if_false], rfl⟩
def mo_firC (s : moS) (a r t : Int32) : Int32 := if mo_isKp a r t = 0 then 1 else if s.2 5 (Int32.toNatClampNeg 0) = 1 then 2 else 0
def mo_fir (s : moS) (a r t : Int32) : moS := if mo_firC s a r t = 0 then mo_up (mo_up (mo_up (mo_pt s 0 0) 7 (Int32.toNatClampNeg 0) a) 8 (Int32.toNatClampNeg 0) r) 9 (Int32.toNatClampNeg 0) t else mo_pt s 0 (mo_firC s a r t)
set_option maxRecDepth 20000 in
set_option maxHeartbeats 4000000 in
theorem mo_first {l : Launch} {G : hpG} {h : hpT} {m d : Nat} {s : moS} (sh : mo_sh G h m) {a r t : Int32} (hd : 2 ≤ d) : hp_C l G yX6_first (.code yX6_first cX6_first 4 none) d [.ref m, .int a, .int r, .int t] (mo_w h m s) (fun v h' => v = none ∧ h' = mo_w h m (mo_fir s a r t)) (fun _ _ => False) := by
  refine hp_ofV (by decide) (by simp [Value.category]) (Nat.le_of_ble_eq_true rfl) (fun M C hr hx el => ?_)
  refine hp_aload_nR C dX6_first_0 rfl ?_
  refine hp_iload_n C dX6_first_1 rfl ?_
  refine hp_iload_n C dX6_first_2 rfl ?_
  refine hp_iload_n C dX6_first_3 rfl ?_
  refine hp_callS C ml_X6_122 sm_X6_isKeeping (mo_isKeeping (d := d - 1) (by omega)) (by omega) dX6_first_4 rfl rfl (by simp [Value.category]) (fun v_1 h_1 hp => ?_) (fun _ _ hf => hf.elim)
  obtain ⟨rfl, rfl⟩ := hp
  refine hp_if_ne (tgt := 14) C dX6_first_7 (by decide) (fun c_7 => ?_) (fun c_7 => ?_)
  · refine hp_aload_nR C dX6_first_14 rfl ?_
    refine mo_getA C sh fl_X6_20_6 rfl (by decide) dX6_first_15 ?_
    refine hp_iconst (v := 0) C dX6_first_18 (by decide) ?_
    refine mo_ald C sh (f := s.2 5) rfl (by decide) rfl dX6_first_19 (by unfold vp_in; decide) ?_
    refine hp_iconst (v := 1) C dX6_first_20 (by decide) ?_
    refine hp_icmp_ne (tgt := 28) C dX6_first_21 (by decide) (fun c_21 => ?_) (fun c_21 => ?_)
    · refine hp_iconst (v := 0) C dX6_first_28 (by decide) ?_
      refine hp_callV (ci := 6) C ml_X6_125 im_X6_refuses se_X6_refuses rfl (by decide) (mo_refuses (d := d - 1) sh) (by omega) dX6_first_29 sh.o rfl rfl (by simp [Value.category]) (fun v_1 h_1 hp => ?_) (fun _ _ hf => hf.elim)
      obtain ⟨rfl, rfl⟩ := hp
      refine hp_if_eq (tgt := 36) C dX6_first_32 (by decide) (fun _ => ?_) (fun z_9 => absurd z_9 (by decide))
      refine hp_aload_nR C dX6_first_36 rfl ?_
      refine mo_getA C sh fl_X6_26_6 rfl (by decide) dX6_first_37 ?_
      refine hp_iconst (v := 0) C dX6_first_40 (by decide) ?_
      refine hp_iload_n C dX6_first_41 rfl ?_
      refine mo_ast C sh rfl (by decide) dX6_first_42 (by unfold vp_in; decide) ?_
      refine hp_aload_nR C dX6_first_43 rfl ?_
      refine mo_getA C sh fl_X6_29_6 rfl (by decide) dX6_first_44 ?_
      refine hp_iconst (v := 0) C dX6_first_47 (by decide) ?_
      refine hp_iload_n C dX6_first_48 rfl ?_
      refine mo_ast C sh rfl (by decide) dX6_first_49 (by unfold vp_in; decide) ?_
      refine hp_aload_nR C dX6_first_50 rfl ?_
      refine mo_getA C sh fl_X6_32_6 rfl (by decide) dX6_first_51 ?_
      refine hp_iconst (v := 0) C dX6_first_54 (by decide) ?_
      refine hp_iload_n C dX6_first_55 rfl ?_
      refine mo_ast C sh rfl (by decide) dX6_first_56 (by unfold vp_in; decide) ?_
      refine hp_vret C hr dX6_first_57 ?_
      exact ⟨rfl, by simp only [mo_fir, mo_firC, *, if_true, if_false] <;> rfl⟩
    · refine hp_iconst (v := 2) C dX6_first_24 (by decide) ?_
      refine hp_goto (tgt := 29) C dX6_first_25 (by decide) ?_
      refine hp_callV (ci := 6) C ml_X6_125 im_X6_refuses se_X6_refuses rfl (by decide) (mo_refuses (d := d - 1) sh) (by omega) dX6_first_29 sh.o rfl rfl (by simp [Value.category]) (fun v_1 h_1 hp => ?_) (fun _ _ hf => hf.elim)
      obtain ⟨rfl, rfl⟩ := hp
      refine hp_if_eq (tgt := 36) C dX6_first_32 (by decide) (fun z_9 => absurd z_9 (by decide)) (fun _ => ?_)
      refine hp_vret C hr dX6_first_35 ?_
      exact ⟨rfl, by simp only [mo_fir, mo_firC, *, if_true, if_false] <;> rfl⟩
  · refine hp_iconst (v := 1) C dX6_first_10 (by decide) ?_
    refine hp_goto (tgt := 29) C dX6_first_11 (by decide) ?_
    refine hp_callV (ci := 6) C ml_X6_125 im_X6_refuses se_X6_refuses rfl (by decide) (mo_refuses (d := d - 1) sh) (by omega) dX6_first_29 sh.o rfl rfl (by simp [Value.category]) (fun v_1 h_1 hp => ?_) (fun _ _ hf => hf.elim)
    obtain ⟨rfl, rfl⟩ := hp
    refine hp_if_eq (tgt := 36) C dX6_first_32 (by decide) (fun z_9 => absurd z_9 (by decide)) (fun _ => ?_)
    refine hp_vret C hr dX6_first_35 ?_
    exact ⟨rfl, by simp only [mo_fir, mo_firC, *, if_true, if_false] <;> rfl⟩
def mo_faiC (s : moS) (n f : Int32) : Int32 := if mo_isW s n = 0 then 1 else if mo_inn f 0 50 = 0 then 1 else 0
theorem mo_isW_1 {s : moS} {n : Int32} (h : ¬ mo_isW s n = 0) : ¬ mo_isN s n = 0 := fun e => h (by unfold mo_isW; rw [if_pos e])
theorem mo_isK_1 {s : moS} {n : Int32} (h : ¬ mo_isK s n = 0) : ¬ mo_isN s n = 0 := fun e => h (by unfold mo_isK; rw [if_pos e])
theorem mo_okN {s : moS} (ok : mo_ok s) {n : Int32} (h : ¬ mo_isN s n = 0) : vp_in n 80 := ok.inn (mo_isN_1 h).1 (mo_isN_1 h).2.1
def mo_fai (s : moS) (n f : Int32) : moS := if mo_faiC s n f = 0 then mo_up (mo_pt s 0 0) 13 n.toNatClampNeg f else mo_pt s 0 (mo_faiC s n f)
def mo_faiR (s : moS) (n f : Int32) : Int32 := if mo_faiC s n f = 0 then s.2 13 n.toNatClampNeg else 0
set_option maxRecDepth 20000 in
set_option maxHeartbeats 4000000 in
theorem mo_failing {l : Launch} {G : hpG} {h : hpT} {m d : Nat} {s : moS} (sh : mo_sh G h m) {n f : Int32} (ok : mo_ok s) (hd : 3 ≤ d) : hp_C l G yX6_failing (.code yX6_failing cX6_failing 4 (some .int)) d [.ref m, .int n, .int f] (mo_w h m s) (fun v h' => v = some (.int (mo_faiR s n f)) ∧ h' = mo_w h m (mo_fai s n f)) (fun _ _ => False) := by
  refine hp_ofV (by decide) (by simp [Value.category]) (Nat.le_of_ble_eq_true rfl) (fun M C hr hx el => ?_)
  refine hp_aload_nR C dX6_failing_0 rfl ?_
  refine hp_aload_nR C dX6_failing_1 rfl ?_
  refine hp_iload_n C dX6_failing_2 rfl ?_
  refine hp_callV (ci := 6) C ml_X6_134 im_X6_isWorker se_X6_isWorker rfl (by decide) (mo_isWorker (d := d - 1) sh (by exact ok) (by omega)) (by omega) dX6_failing_3 sh.o rfl rfl (by simp [Value.category]) (fun v_1 h_1 hp => ?_) (fun _ _ hf => hf.elim)
  obtain ⟨rfl, rfl⟩ := hp
  refine hp_if_eq (tgt := 19) C dX6_failing_6 (by decide) (fun c_6 => ?_) (fun c_6 => ?_)
  · refine hp_iconst (v := 1) C dX6_failing_19 (by decide) ?_
    refine hp_goto (tgt := 24) C dX6_failing_20 (by decide) ?_
    refine hp_callV (ci := 6) C ml_X6_125 im_X6_refuses se_X6_refuses rfl (by decide) (mo_refuses (d := d - 1) sh) (by omega) dX6_failing_24 sh.o rfl rfl (by simp [Value.category]) (fun v_1 h_1 hp => ?_) (fun _ _ hf => hf.elim)
    obtain ⟨rfl, rfl⟩ := hp
    refine hp_if_eq (tgt := 32) C dX6_failing_27 (by decide) (fun z_9 => absurd z_9 (by decide)) (fun _ => ?_)
    refine hp_iconst (v := 0) C dX6_failing_30 (by decide) ?_
    refine hp_iret C hr rfl dX6_failing_31 ?_
    exact ⟨by simp only [mo_faiR, mo_faiC, *, if_true, if_false] <;> rfl, by simp only [mo_fai, mo_faiC, *, if_true, if_false] <;> rfl⟩
  · refine hp_iload_n C dX6_failing_9 rfl ?_
    refine hp_iconst (v := 0) C dX6_failing_10 (by decide) ?_
    refine hp_bipush (v := 50) C dX6_failing_11 (by decide) ?_
    refine hp_callS C ml_X6_118 sm_X6_in (mo_in (d := d - 1)) (by omega) dX6_failing_13 rfl rfl (by simp [Value.category]) (fun v_1 h_1 hp => ?_) (fun _ _ hf => hf.elim)
    obtain ⟨rfl, rfl⟩ := hp
    refine hp_if_ne (tgt := 23) C dX6_failing_16 (by decide) (fun c_16 => ?_) (fun c_16 => ?_)
    · refine hp_iconst (v := 0) C dX6_failing_23 (by decide) ?_
      refine hp_callV (ci := 6) C ml_X6_125 im_X6_refuses se_X6_refuses rfl (by decide) (mo_refuses (d := d - 1) sh) (by omega) dX6_failing_24 sh.o rfl rfl (by simp [Value.category]) (fun v_1 h_1 hp => ?_) (fun _ _ hf => hf.elim)
      obtain ⟨rfl, rfl⟩ := hp
      refine hp_if_eq (tgt := 32) C dX6_failing_27 (by decide) (fun _ => ?_) (fun z_9 => absurd z_9 (by decide))
      refine hp_aload_nR C dX6_failing_32 rfl ?_
      refine mo_getA C sh fl_X6_44_6 rfl (by decide) dX6_failing_33 ?_
      refine hp_iload_n C dX6_failing_36 rfl ?_
      refine mo_ald C sh (f := s.2 13) rfl (by decide) rfl dX6_failing_37 (by exact mo_okN ok (mo_isW_1 c_6)) ?_
      refine hp_istore_n C dX6_failing_38 (by decide) ?_
      refine hp_aload_nR C dX6_failing_39 rfl ?_
      refine mo_getA C sh fl_X6_44_6 rfl (by decide) dX6_failing_40 ?_
      refine hp_iload_n C dX6_failing_43 rfl ?_
      refine hp_iload_n C dX6_failing_44 rfl ?_
      refine mo_ast C sh rfl (by decide) dX6_failing_45 (by exact mo_okN ok (mo_isW_1 c_6)) ?_
      refine hp_iload_n C dX6_failing_46 rfl ?_
      refine hp_iret C hr rfl dX6_failing_47 ?_
      exact ⟨by simp only [mo_faiR, mo_faiC, *, if_true, if_false] <;> rfl, by simp only [mo_fai, mo_faiC, *, if_true, if_false] <;> rfl⟩
    · refine hp_iconst (v := 1) C dX6_failing_19 (by decide) ?_
      refine hp_goto (tgt := 24) C dX6_failing_20 (by decide) ?_
      refine hp_callV (ci := 6) C ml_X6_125 im_X6_refuses se_X6_refuses rfl (by decide) (mo_refuses (d := d - 1) sh) (by omega) dX6_failing_24 sh.o rfl rfl (by simp [Value.category]) (fun v_1 h_1 hp => ?_) (fun _ _ hf => hf.elim)
      obtain ⟨rfl, rfl⟩ := hp
      refine hp_if_eq (tgt := 32) C dX6_failing_27 (by decide) (fun z_9 => absurd z_9 (by decide)) (fun _ => ?_)
      refine hp_iconst (v := 0) C dX6_failing_30 (by decide) ?_
      refine hp_iret C hr rfl dX6_failing_31 ?_
      exact ⟨by simp only [mo_faiR, mo_faiC, *, if_true, if_false] <;> rfl, by simp only [mo_fai, mo_faiC, *, if_true, if_false] <;> rfl⟩
def mo_pasC (n : Int32) : Int32 := if mo_inn n 0 10000 = 0 then 1 else 0
def mo_pas (s : moS) (n : Int32) : moS := if mo_pasC n = 0 then mo_pt (mo_pt s 0 0) 18 (s.1 18 + n) else mo_pt s 0 (mo_pasC n)
def mo_pasR (s : moS) (n : Int32) : Int32 := if mo_pasC n = 0 then s.1 18 + n else 0
set_option maxRecDepth 20000 in
set_option maxHeartbeats 4000000 in
theorem mo_pass {l : Launch} {G : hpG} {h : hpT} {m d : Nat} {s : moS} (sh : mo_sh G h m) {n : Int32} (hd : 2 ≤ d) : hp_C l G yX6_pass (.code yX6_pass cX6_pass 2 (some .int)) d [.ref m, .int n] (mo_w h m s) (fun v h' => v = some (.int (mo_pasR s n)) ∧ h' = mo_w h m (mo_pas s n)) (fun _ _ => False) := by
  refine hp_ofV (by decide) (by simp [Value.category]) (Nat.le_of_ble_eq_true rfl) (fun M C hr hx el => ?_)
  refine hp_aload_nR C dX6_pass_0 rfl ?_
  refine hp_iload_n C dX6_pass_1 rfl ?_
  refine hp_iconst (v := 0) C dX6_pass_2 (by decide) ?_
  refine hp_sipush (v := 10000) C dX6_pass_3 (by decide) ?_
  refine hp_callS C ml_X6_118 sm_X6_in (mo_in (d := d - 1)) (by omega) dX6_pass_6 rfl rfl (by simp [Value.category]) (fun v_1 h_1 hp => ?_) (fun _ _ hf => hf.elim)
  obtain ⟨rfl, rfl⟩ := hp
  refine hp_if_ne (tgt := 16) C dX6_pass_9 (by decide) (fun c_9 => ?_) (fun c_9 => ?_)
  · refine hp_iconst (v := 0) C dX6_pass_16 (by decide) ?_
    refine hp_callV (ci := 6) C ml_X6_125 im_X6_refuses se_X6_refuses rfl (by decide) (mo_refuses (d := d - 1) sh) (by omega) dX6_pass_17 sh.o rfl rfl (by simp [Value.category]) (fun v_1 h_1 hp => ?_) (fun _ _ hf => hf.elim)
    obtain ⟨rfl, rfl⟩ := hp
    refine hp_if_eq (tgt := 25) C dX6_pass_20 (by decide) (fun _ => ?_) (fun z_9 => absurd z_9 (by decide))
    refine hp_aload_nR C dX6_pass_25 rfl ?_
    refine hp_dup C dX6_pass_26 rfl ?_
    refine mo_getS C sh fl_X6_82_6 rfl (by decide) (v := s.1 18) rfl dX6_pass_27 ?_
    refine hp_iload_n C dX6_pass_30 rfl ?_
    refine hp_iadd C dX6_pass_31 ?_
    refine mo_putS C sh fl_X6_82_6 rfl (by decide) rfl rfl rfl dX6_pass_32 ?_
    refine hp_aload_nR C dX6_pass_35 rfl ?_
    refine mo_getS C sh fl_X6_82_6 rfl (by decide) rfl dX6_pass_36 ?_
    refine hp_iret C hr rfl dX6_pass_39 ?_
    exact ⟨by simp only [mo_pasR, mo_pasC, *, if_true, if_false] <;> rfl, by simp only [mo_pas, mo_pasC, *, if_true, if_false] <;> rfl⟩
  · refine hp_iconst (v := 1) C dX6_pass_12 (by decide) ?_
    refine hp_goto (tgt := 17) C dX6_pass_13 (by decide) ?_
    refine hp_callV (ci := 6) C ml_X6_125 im_X6_refuses se_X6_refuses rfl (by decide) (mo_refuses (d := d - 1) sh) (by omega) dX6_pass_17 sh.o rfl rfl (by simp [Value.category]) (fun v_1 h_1 hp => ?_) (fun _ _ hf => hf.elim)
    obtain ⟨rfl, rfl⟩ := hp
    refine hp_if_eq (tgt := 25) C dX6_pass_20 (by decide) (fun z_9 => absurd z_9 (by decide)) (fun _ => ?_)
    refine hp_iconst (v := 0) C dX6_pass_23 (by decide) ?_
    refine hp_iret C hr rfl dX6_pass_24 ?_
    exact ⟨by simp only [mo_pasR, mo_pasC, *, if_true, if_false] <;> rfl, by simp only [mo_pas, mo_pasC, *, if_true, if_false] <;> rfl⟩
def mo_staC (s : moS) (n : Int32) : Int32 := if n < 0 then 1 else if n < s.1 1 then 0 else 1
def mo_staR (s : moS) (n : Int32) : Int32 := if mo_staC s n = 0 then s.2 5 n.toNatClampNeg else 0
set_option maxRecDepth 20000 in
set_option maxHeartbeats 4000000 in
theorem mo_state {l : Launch} {G : hpG} {h : hpT} {m d : Nat} {s : moS} (sh : mo_sh G h m) {n : Int32} (ok : mo_ok s) (hd : 1 ≤ d) : hp_C l G yX6_state (.code yX6_state cX6_state 2 (some .int)) d [.ref m, .int n] (mo_w h m s) (fun v h' => v = some (.int (mo_staR s n)) ∧ h' = mo_w h m (mo_pt s 0 (mo_staC s n))) (fun _ _ => False) := by
  refine hp_ofV (by decide) (by simp [Value.category]) (Nat.le_of_ble_eq_true rfl) (fun M C hr hx el => ?_)
  refine hp_aload_nR C dX6_state_0 rfl ?_
  refine hp_iload_n C dX6_state_1 rfl ?_
  refine hp_if_lt (tgt := 13) C dX6_state_2 (by decide) (fun c_2 => ?_) (fun c_2 => ?_)
  · refine hp_iconst (v := 1) C dX6_state_13 (by decide) ?_
    refine hp_goto (tgt := 18) C dX6_state_14 (by decide) ?_
    refine hp_callV (ci := 6) C ml_X6_125 im_X6_refuses se_X6_refuses rfl (by decide) (mo_refuses (d := d - 1) sh) (by omega) dX6_state_18 sh.o rfl rfl (by simp [Value.category]) (fun v_1 h_1 hp => ?_) (fun _ _ hf => hf.elim)
    obtain ⟨rfl, rfl⟩ := hp
    refine hp_if_eq (tgt := 28) C dX6_state_21 (by decide) (fun z_9 => absurd z_9 (by decide)) (fun _ => ?_)
    refine hp_iconst (v := 0) C dX6_state_24 (by decide) ?_
    refine hp_goto (tgt := 34) C dX6_state_25 (by decide) ?_
    refine hp_iret C hr rfl dX6_state_34 ?_
    exact ⟨by simp only [mo_staR, mo_staC, *, if_true, if_false] <;> rfl, by simp only [mo_staC, *, if_true, if_false] <;> rfl⟩
  · refine hp_iload_n C dX6_state_5 rfl ?_
    refine hp_aload_nR C dX6_state_6 rfl ?_
    refine mo_getS C sh fl_X6_68_6 rfl (by decide) (v := s.1 1) rfl dX6_state_7 ?_
    refine hp_icmp_lt (tgt := 17) C dX6_state_10 (by decide) (fun c_10 => ?_) (fun c_10 => ?_)
    · refine hp_iconst (v := 0) C dX6_state_17 (by decide) ?_
      refine hp_callV (ci := 6) C ml_X6_125 im_X6_refuses se_X6_refuses rfl (by decide) (mo_refuses (d := d - 1) sh) (by omega) dX6_state_18 sh.o rfl rfl (by simp [Value.category]) (fun v_1 h_1 hp => ?_) (fun _ _ hf => hf.elim)
      obtain ⟨rfl, rfl⟩ := hp
      refine hp_if_eq (tgt := 28) C dX6_state_21 (by decide) (fun _ => ?_) (fun z_9 => absurd z_9 (by decide))
      refine hp_aload_nR C dX6_state_28 rfl ?_
      refine mo_getA C sh fl_X6_20_6 rfl (by decide) dX6_state_29 ?_
      refine hp_iload_n C dX6_state_32 rfl ?_
      refine mo_ald C sh (f := s.2 5) rfl (by decide) rfl dX6_state_33 (by exact ok.inn c_2 (k2_nle c_10)) ?_
      refine hp_iret C hr rfl dX6_state_34 ?_
      exact ⟨by simp only [mo_staR, mo_staC, *, if_true, if_false] <;> rfl, by simp only [mo_staC, *, if_true, if_false] <;> rfl⟩
    · refine hp_iconst (v := 1) C dX6_state_13 (by decide) ?_
      refine hp_goto (tgt := 18) C dX6_state_14 (by decide) ?_
      refine hp_callV (ci := 6) C ml_X6_125 im_X6_refuses se_X6_refuses rfl (by decide) (mo_refuses (d := d - 1) sh) (by omega) dX6_state_18 sh.o rfl rfl (by simp [Value.category]) (fun v_1 h_1 hp => ?_) (fun _ _ hf => hf.elim)
      obtain ⟨rfl, rfl⟩ := hp
      refine hp_if_eq (tgt := 28) C dX6_state_21 (by decide) (fun z_9 => absurd z_9 (by decide)) (fun _ => ?_)
      refine hp_iconst (v := 0) C dX6_state_24 (by decide) ?_
      refine hp_goto (tgt := 34) C dX6_state_25 (by decide) ?_
      refine hp_iret C hr rfl dX6_state_34 ?_
      exact ⟨by simp only [mo_staR, mo_staC, *, if_true, if_false] <;> rfl, by simp only [mo_staC, *, if_true, if_false] <;> rfl⟩
def mo_evtC (w : Int32) : Int32 := if mo_inn w 0 3 = 0 then 1 else 0
def mo_evtR (s : moS) (i w : Int32) : Int32 := if mo_evtC w = 0 then (if i < 0 then -1 else if s.1 19 ≤ i then -1 else if 600 ≤ i then -1 else s.2 20 (4 * i + w).toNatClampNeg) else 0
theorem mo_inn_1 {x a b : Int32} (h : ¬ mo_inn x a b = 0) : a ≤ x ∧ x ≤ b := by
  unfold mo_inn at h
  by_cases c : x < a
  · exact absurd (by rw [if_pos c]) h
  · by_cases e : b < x
    · exact absurd (by rw [if_neg c, if_pos e]) h
    · exact ⟨k2_le c, k2_le e⟩
theorem mo_evt_in {i w : Int32} (h0 : ¬ i < 0) (h1 : ¬ 600 ≤ i) (hw : ¬ mo_inn w 0 3 = 0) : vp_in (4 * i + w) 2400 := by
  obtain ⟨a, b⟩ := mo_inn_1 hw
  rw [Int32.le_iff_toInt_le] at a b
  rw [Int32.lt_iff_toInt_lt, Int32.toInt_zero] at h0
  have e3 : (3 : Int32).toInt = 3 := by decide
  rw [Int32.toInt_zero] at a
  exact (mo_ev_in (by omega) h1 ⟨by omega, by omega⟩).1
set_option maxRecDepth 20000 in
set_option maxHeartbeats 4000000 in
theorem mo_event {l : Launch} {G : hpG} {h : hpT} {m d : Nat} {s : moS} (sh : mo_sh G h m) {i k : Int32} (hd : 2 ≤ d) : hp_C l G yX6_event (.code yX6_event cX6_event 3 (some .int)) d [.ref m, .int i, .int k] (mo_w h m s) (fun v h' => v = some (.int (mo_evtR s i k)) ∧ h' = mo_w h m (mo_pt s 0 (mo_evtC k))) (fun _ _ => False) := by
  refine hp_ofV (by decide) (by simp [Value.category]) (Nat.le_of_ble_eq_true rfl) (fun M C hr hx el => ?_)
  refine hp_aload_nR C dX6_event_0 rfl ?_
  refine hp_iload_n C dX6_event_1 rfl ?_
  refine hp_iconst (v := 0) C dX6_event_2 (by decide) ?_
  refine hp_iconst (v := 3) C dX6_event_3 (by decide) ?_
  refine hp_callS C ml_X6_118 sm_X6_in (mo_in (d := d - 1)) (by omega) dX6_event_4 rfl rfl (by simp [Value.category]) (fun v_1 h_1 hp => ?_) (fun _ _ hf => hf.elim)
  obtain ⟨rfl, rfl⟩ := hp
  refine hp_if_ne (tgt := 14) C dX6_event_7 (by decide) (fun c_7 => ?_) (fun c_7 => ?_)
  · refine hp_iconst (v := 0) C dX6_event_14 (by decide) ?_
    refine hp_callV (ci := 6) C ml_X6_125 im_X6_refuses se_X6_refuses rfl (by decide) (mo_refuses (d := d - 1) sh) (by omega) dX6_event_15 sh.o rfl rfl (by simp [Value.category]) (fun v_1 h_1 hp => ?_) (fun _ _ hf => hf.elim)
    obtain ⟨rfl, rfl⟩ := hp
    refine hp_if_eq (tgt := 23) C dX6_event_18 (by decide) (fun _ => ?_) (fun z_9 => absurd z_9 (by decide))
    refine hp_iload_n C dX6_event_23 rfl ?_
    refine hp_if_lt (tgt := 55) C dX6_event_24 (by decide) (fun c_24 => ?_) (fun c_24 => ?_)
    · refine hp_iconst (v := (-1)) C dX6_event_55 (by decide) ?_
      refine hp_iret C hr rfl dX6_event_56 ?_
      exact ⟨by simp only [mo_evtR, mo_evtC, *, if_true, if_false] <;> rfl, by simp only [mo_evtC, *, if_true, if_false] <;> rfl⟩
    · refine hp_iload_n C dX6_event_27 rfl ?_
      refine hp_aload_nR C dX6_event_28 rfl ?_
      refine mo_getS C sh fl_X6_79_6 rfl (by decide) (v := s.1 19) rfl dX6_event_29 ?_
      refine hp_icmp_ge (tgt := 55) C dX6_event_32 (by decide) (fun c_32 => ?_) (fun c_32 => ?_)
      · refine hp_iconst (v := (-1)) C dX6_event_55 (by decide) ?_
        refine hp_iret C hr rfl dX6_event_56 ?_
        exact ⟨by simp only [mo_evtR, mo_evtC, *, if_true, if_false] <;> rfl, by simp only [mo_evtC, *, if_true, if_false] <;> rfl⟩
      · refine hp_iload_n C dX6_event_35 rfl ?_
        refine hp_sipush (v := 600) C dX6_event_36 (by decide) ?_
        refine hp_icmp_ge (tgt := 55) C dX6_event_39 (by decide) (fun c_39 => ?_) (fun c_39 => ?_)
        · refine hp_iconst (v := (-1)) C dX6_event_55 (by decide) ?_
          refine hp_iret C hr rfl dX6_event_56 ?_
          exact ⟨by simp only [mo_evtR, mo_evtC, *, if_true, if_false] <;> rfl, by simp only [mo_evtC, *, if_true, if_false] <;> rfl⟩
        · refine hp_aload_nR C dX6_event_42 rfl ?_
          refine mo_getA C sh fl_X6_59_6 rfl (by decide) dX6_event_43 ?_
          refine hp_iconst (v := 4) C dX6_event_46 (by decide) ?_
          refine hp_iload_n C dX6_event_47 rfl ?_
          refine hp_imul C dX6_event_48 ?_
          refine hp_iload_n C dX6_event_49 rfl ?_
          refine hp_iadd C dX6_event_50 ?_
          refine mo_ald C sh (f := s.2 20) rfl (by decide) rfl dX6_event_51 (by exact mo_evt_in c_24 c_39 c_7) ?_
          refine hp_goto (tgt := 56) C dX6_event_52 (by decide) ?_
          refine hp_iret C hr rfl dX6_event_56 ?_
          exact ⟨by simp only [mo_evtR, mo_evtC, *, if_true, if_false] <;> rfl, by simp only [mo_evtC, *, if_true, if_false] <;> rfl⟩
  · refine hp_iconst (v := 1) C dX6_event_10 (by decide) ?_
    refine hp_goto (tgt := 15) C dX6_event_11 (by decide) ?_
    refine hp_callV (ci := 6) C ml_X6_125 im_X6_refuses se_X6_refuses rfl (by decide) (mo_refuses (d := d - 1) sh) (by omega) dX6_event_15 sh.o rfl rfl (by simp [Value.category]) (fun v_1 h_1 hp => ?_) (fun _ _ hf => hf.elim)
    obtain ⟨rfl, rfl⟩ := hp
    refine hp_if_eq (tgt := 23) C dX6_event_18 (by decide) (fun z_9 => absurd z_9 (by decide)) (fun _ => ?_)
    refine hp_iconst (v := 0) C dX6_event_21 (by decide) ?_
    refine hp_iret C hr rfl dX6_event_22 ?_
    exact ⟨by simp only [mo_evtR, mo_evtC, *, if_true, if_false] <;> rfl, by simp only [mo_evtC, *, if_true, if_false] <;> rfl⟩
end
section
/-! ===== what stays as cells are made ===== -/
section HPN
variable {G : hpG} {h : hpT} {a k n t : Nat}
theorem hp_is.mk (x : hp_is G h a k) (c n : Nat) : hp_is G (hp_mk h c n) a k := ⟨x.1, Nat.lt_succ_of_lt x.2.1, (va_up_ne _ _ (Nat.ne_of_lt x.2.1)).trans x.2.2⟩
theorem hp_is.mkA (x : hp_is G h a k) (t n : Nat) (v : Value) : hp_is G (hp_mkA h t n v) a k := ⟨x.1, Nat.lt_succ_of_lt x.2.1, (va_up_ne _ _ (Nat.ne_of_lt x.2.1)).trans x.2.2⟩
theorem hp_is.mkX (x : hp_is G h a k) : hp_is G (hp_mkX h) a k := ⟨x.1, Nat.lt_succ_of_lt x.2.1, (va_up_ne _ _ (Nat.ne_of_lt x.2.1)).trans x.2.2⟩
theorem hp_isN (x : hp_n0 G ≤ hp_nx h) (c n : Nat) : hp_is G (hp_mk h c n) (hp_nx h) c := ⟨x, Nat.lt_succ_self _, va_up_self _ _ _⟩
theorem hp_isA (x : hp_n0 G ≤ hp_nx h) (t n : Nat) (v : Value) : hp_is G (hp_mkA h t n v) (hp_nx h) (10 + t) := ⟨x, Nat.lt_succ_self _, va_up_self _ _ _⟩
theorem hp_is.mkM (x : hp_is G h a k) (n m : Nat) : hp_is G (hp_mkM h n m) a k := ⟨x.1, by have := x.2.1; show a < h.1 + 1 + n; have : a < h.1 := x.2.1; omega, by show (if a < h.1 then hp_kd h a else _) = k; rw [if_pos (show a < h.1 from x.2.1)]; exact x.2.2⟩
end HPN
/-! ===== THE CLASS WITH ITS FIRST KEEPER ALONE: twelve cells from k on ===== -/
/-- whole numbers by the field's number, rows of numbers by the place of the cell -/
abbrev ktS : Type := (Nat → Int32) × (Nat → Nat → Int32)
/-- where the object lies that has field f -/
def kt_off (f : Nat) : Nat := if f < 32 then 9 else if f < 64 then 1 else if f < 96 then 8 else if f < 128 then 10 else 0
/-- is f a field of one of them -/
def kt_fi (f : Nat) : Bool := decide (f < 3) || (decide (32 ≤ f) && decide (f < 35)) || (decide (64 ≤ f) && decide (f < 74)) || (decide (96 ≤ f) && decide (f < 98)) || (decide (160 ≤ f) && decide (f < 166))
def kt_fv (G : hpG) (k : Nat) (s : ktS) (f : Nat) : Value := if f = 1 then .ref (hp_dE G) else if f = 32 then .ref (k + 2) else if f = 65 then .null else if f = 69 then .ref (k + 9) else if f = 70 then .ref (k + 10) else if f = 96 then .ref (k + 11) else if f = 160 then .ref (k + 1) else if f = 161 then .ref (k + 7) else if f = 162 then .ref (k + 8) else .int (s.1 f)
/-- the places of arrays -/
def kt_ai (o : Nat) : Bool := (decide (2 ≤ o) && decide (o < 8)) || decide (o = 11)
def kt_av (k : Nat) (s : ktS) (o i : Nat) : Value := if o = 2 then .ref (k + 3 + i) else if o = 7 then (if i = 0 then .ref (k + 8) else .null) else .int (s.2 o i)
def kt_kd (o : Nat) : Nat := if o = 0 then 5 else if o = 1 then 1 else if o = 2 then 15 else if o < 7 then 10 else if o = 7 then 14 else if o = 8 then 2 else if o = 9 then 0 else if o = 10 then 3 else 10
def kt_ln (o : Nat) : Nat := if o = 2 then 4 else if o = 7 then 80 else if o = 11 then 8 else 600
def kt_w (G : hpG) (h : hpT) (k : Nat) (s : ktS) : hpT := (h.1, h.2.1, h.2.2.1, h.2.2.2.1,
  (fun f b => if kt_fi f = true ∧ b = k + kt_off f then kt_fv G k s f else hp_fl h f b),
  (fun b i => if (k ≤ b ∧ b < k + 12) ∧ kt_ai (b - k) = true then kt_av k s (b - k) i else hp_ar h b i))
def kt_sh (G : hpG) (h : hpT) (k : Nat) : Prop := hp_n0 G ≤ k ∧ k + 12 ≤ hp_nx h ∧ (∀ o, o < 12 → hp_kd h (k + o) = kt_kd o) ∧ (∀ o, o < 12 → kt_ai o = true → hp_ln h (k + o) = kt_ln o)
def kt_put (s : ktS) (f : Nat) (x : Int32) : ktS := (va_up s.1 f x, s.2)
def kt_set (s : ktS) (o i : Nat) (x : Int32) : ktS := (s.1, va_up s.2 o (va_up (s.2 o) i x))
section KT
variable {G : hpG} {h : hpT} {k : Nat} {s : ktS}
theorem kt_w_fl (f b : Nat) : hp_fl (kt_w G h k s) f b = if kt_fi f = true ∧ b = k + kt_off f then kt_fv G k s f else hp_fl h f b := rfl
theorem kt_w_ar (b i : Nat) : hp_ar (kt_w G h k s) b i = if (k ≤ b ∧ b < k + 12) ∧ kt_ai (b - k) = true then kt_av k s (b - k) i else hp_ar h b i := rfl
theorem kt_fl {f o : Nat} (h1 : kt_fi f = true) (h2 : kt_off f = o) : hp_fl (kt_w G h k s) f (k + o) = kt_fv G k s f := by
  rw [kt_w_fl, if_pos ⟨h1, by rw [h2]⟩]
theorem kt_ar {o i : Nat} (h1 : kt_ai o = true) (h2 : o < 12) : hp_ar (kt_w G h k s) (k + o) i = kt_av k s o i := by
  rw [kt_w_ar, Nat.add_sub_cancel_left, if_pos ⟨⟨by omega, by omega⟩, h1⟩]
theorem kt_puts {f o : Nat} {x : Int32} (h1 : kt_fi f = true) (h2 : kt_off f = o) (h3 : ∀ s : ktS, kt_fv G k s f = .int (s.1 f)) : hp_put (kt_w G h k s) f (k + o) (.int x) = kt_w G h k (kt_put s f x) := by
  refine hp_ext rfl rfl rfl rfl (fun g b => ?_) (fun _ _ => rfl)
  rw [hp_put_fl, kt_w_fl, kt_w_fl, kt_w_fl]
  by_cases e : g = f
  · subst e
    rw [if_pos rfl, h2]
    by_cases eb : b = k + o
    · rw [if_pos eb, if_pos ⟨h1, eb⟩, h3]
      show _ = Value.int (va_up s.1 g x g)
      rw [va_up_self]
    · rw [if_neg eb, if_neg (fun z => eb z.2), if_neg (fun z => eb z.2)]
  · rw [if_neg e]
    by_cases c : kt_fi g = true ∧ b = k + kt_off g
    · rw [if_pos c, if_pos c]
      unfold kt_fv
      rw [show (kt_put s f x).1 g = s.1 g from va_up_ne _ _ e]
    · rw [if_neg c, if_neg c]
theorem kt_sets {o i : Nat} {x : Int32} (h1 : kt_ai o = true) (h2 : o < 12) (h3 : o ≠ 2) (h4 : o ≠ 7) : hp_set (kt_w G h k s) (k + o) i (.int x) = kt_w G h k (kt_set s o i x) := by
  refine hp_ext rfl rfl rfl rfl (fun _ _ => rfl) (fun b j => ?_)
  rw [hp_set_ar, kt_ar h1 h2, kt_w_ar, kt_w_ar]
  by_cases e : b = k + o
  · rw [if_pos e, e, Nat.add_sub_cancel_left, if_pos (show (k ≤ k + o ∧ k + o < k + 12) ∧ kt_ai o = true from ⟨⟨by omega, by omega⟩, h1⟩)]
    unfold kt_av
    rw [if_neg h3, if_neg h4, if_neg h3, if_neg h4]
    show _ = Value.int (va_up s.2 o (va_up (s.2 o) i x) o j)
    rw [va_up_self]
    by_cases ej : j = i
    · rw [if_pos ej, ej, va_up_self]
    · rw [if_neg ej, va_up_ne _ _ ej]
  · rw [if_neg e]
    by_cases c : (k ≤ b ∧ b < k + 12) ∧ kt_ai (b - k) = true
    · rw [if_pos c, if_pos c]
      unfold kt_av
      rw [show (kt_set s o i x).2 (b - k) = s.2 (b - k) from va_up_ne _ _ (by omega)]
    · rw [if_neg c, if_neg c]
theorem kt_sh.w (x : kt_sh G h k) (s : ktS) : kt_sh G (kt_w G h k s) k := x
theorem kt_sh.o (x : kt_sh G h k) (o : Nat) {ci : Nat} (h1 : o < 12) (h2 : kt_kd o = ci) : hp_is G (kt_w G h k s) (k + o) ci := ⟨by have := x.1; omega, by have := x.2.1; show k + o < hp_nx h; omega, (x.2.2.1 o h1).trans h2⟩
theorem kt_sh.l (x : kt_sh G h k) {o : Nat} (h1 : o < 12) (h2 : kt_ai o = true) : hp_ln (kt_w G h k s) (k + o) = kt_ln o := x.2.2.2 o h1 h2
variable {M : hpM} {y : MethodName} {cc : ByteArray} {nL d : Nat} {h0 : hpT} {Q : State → Prop} {pc : Nat} {lo : Nat → Option Value} {st : List Value}
theorem kt_get (C : hp_F M G y cc nL d h0) (x : kt_sh G h k) {idx ci j : Nat} (o : Nat) {v : Value} (fl : hp_FL y.cls idx ci j) (hc : kt_kd o = ci ∧ o < 12 ∧ kt_fi (hp_fd ci j) = true ∧ kt_off (hp_fd ci j) = o) (ev : kt_fv G k s (hp_fd ci j) = v) (dd : decode cc pc = .ok (.getfield idx, 3)) (kk : hp_V M G nL Q (kt_w G h k s) (pc + 3) lo (v :: st)) : hp_V M G nL Q (kt_w G h k s) pc lo (.ref (k + o) :: st) := hp_get C fl dd (x.o o hc.2.1 hc.1) ((kt_fl hc.2.2.1 hc.2.2.2).trans ev) kk
theorem kt_pt (C : hp_F M G y cc nL d h0) (x : kt_sh G h k) {idx ci j : Nat} (o : Nat) {v : Int32} (fl : hp_FL y.cls idx ci j) (hc : kt_kd o = ci ∧ o < 12 ∧ kt_fi (hp_fd ci j) = true ∧ kt_off (hp_fd ci j) = o) (h3 : ∀ s : ktS, kt_fv G k s (hp_fd ci j) = .int (s.1 (hp_fd ci j))) (hf : (vwCl[ci]?).map (fun r => (r.2.1 j).2.2.2) = some false) (hn : narrow (hp_ty ci j) (.int v) = .int v) (hfit : fits (hp_ty ci j) (.int v) = true) (dd : decode cc pc = .ok (.putfield idx, 3)) (kk : hp_V M G nL Q (kt_w G h k (kt_put s (hp_fd ci j) v)) (pc + 3) lo st) : hp_V M G nL Q (kt_w G h k s) pc lo (.int v :: .ref (k + o) :: st) := hp_putf C fl hf hn hfit dd (x.o o hc.2.1 hc.1) (by rw [kt_puts hc.2.2.1 hc.2.2.2 h3]; exact kk)
theorem kt_ald (C : hp_F M G y cc nL d h0) (x : kt_sh G h k) (o : Nat) {i : Int32} (hc : kt_kd o = 10 ∧ o < 12 ∧ kt_ai o = true ∧ o ≠ 2 ∧ o ≠ 7) (dd : decode cc pc = .ok (.iaload, 1)) (hin : vp_in i (kt_ln o)) (kk : hp_V M G nL Q (kt_w G h k s) (pc + 1) lo (.int (s.2 o i.toNatClampNeg) :: st)) : hp_V M G nL Q (kt_w G h k s) pc lo (.int i :: .ref (k + o) :: st) := hp_iald C dd (x.o o hc.2.1 hc.1) (by rw [x.l hc.2.1 hc.2.2.1]; exact hin) ((kt_ar hc.2.2.1 hc.2.1).trans (by unfold kt_av; rw [if_neg hc.2.2.2.1, if_neg hc.2.2.2.2])) kk
theorem kt_ast (C : hp_F M G y cc nL d h0) (x : kt_sh G h k) (o : Nat) {i v : Int32} (hc : kt_kd o = 10 ∧ o < 12 ∧ kt_ai o = true ∧ o ≠ 2 ∧ o ≠ 7) (dd : decode cc pc = .ok (.iastore, 1)) (hin : vp_in i (kt_ln o)) (kk : hp_V M G nL Q (kt_w G h k (kt_set s o i.toNatClampNeg v)) (pc + 1) lo st) : hp_V M G nL Q (kt_w G h k s) pc lo (.int v :: .int i :: .ref (k + o) :: st) := hp_iast C dd (x.o o hc.2.1 hc.1) (by rw [x.l hc.2.1 hc.2.2.1]; exact hin) (by rw [kt_sets hc.2.2.1 hc.2.1 hc.2.2.2.1 hc.2.2.2.2]; exact kk)
/-- a row of numbers out of the columns -/
theorem kt_col (C : hp_F M G y cc nL d h0) (x : kt_sh G h k) {i : Int32} (j : Nat) (dd : decode cc pc = .ok (.aaload, 1)) (hj : i.toNatClampNeg = j) (hin : vp_in i 4) (kk : hp_V M G nL Q (kt_w G h k s) (pc + 1) lo (.ref (k + 3 + j) :: st)) : hp_V M G nL Q (kt_w G h k s) pc lo (.int i :: .ref (k + 2) :: st) := hp_aald C 5 rfl rfl (by decide) dd (x.o 2 (by decide) rfl) (by rw [x.l (o := 2) (by decide) rfl]; exact hin) ((kt_ar (o := 2) rfl (by decide)).trans (by rw [hj]; rfl)) kk
/-- a node out of the nodes -/
theorem kt_nod (C : hp_F M G y cc nL d h0) (x : kt_sh G h k) {i : Int32} (dd : decode cc pc = .ok (.aaload, 1)) (hin : vp_in i 80) (kk : hp_V M G nL Q (kt_w G h k s) (pc + 1) lo (va_rf (if i.toNatClampNeg = 0 then some (k + 8) else none) :: st)) : hp_V M G nL Q (kt_w G h k s) pc lo (.int i :: .ref (k + 7) :: st) := hp_aald C 4 rfl rfl (by decide) dd (x.o 7 (by decide) rfl) (by rw [x.l (o := 7) (by decide) rfl]; exact hin) ((kt_ar (o := 7) rfl (by decide)).trans (by unfold kt_av; rw [if_neg (by decide), if_pos rfl]; split <;> rfl)) kk
end KT
end
section
theorem kt_inc {i : Int32} (h : i.toInt < 1000000) : (i + Int32.ofInt 1).toInt = i.toInt + 1 := by
  have h1 : (Int32.ofInt 1).toInt = 1 := by decide
  have h2 := Int32.le_toInt i
  rw [Int32.toInt_add, h1]
  exact Int.bmod_eq_of_le (by omega) (by omega)
end
section
/-! ===== the reference's constructor ===== -/
def mo_z : moS := (fun _ => 0, fun _ _ => 0)
def mo_s0 : moS := mo_pt (mo_up (mo_up (mo_up (mo_up mo_z 2 0 1) 3 0 (-1)) 8 0 1) 9 0 5) 1 1
/-- an array is made (class of it, length, field) -/
def mc_st (m : Nat) (h : hpT) (q : Nat × Nat × Nat) : hpT := hp_put (hp_mkA h q.1 q.2.1 (.int 0)) (hp_fd 6 q.2.2) m (.ref (hp_nx h))
def mc_fd (m : Nat) : List (Nat × Nat × Nat) → hpT → hpT
  | [], h => h
  | q :: L, h => mc_fd m L (mc_st m h q)
def mc_L : List (Nat × Nat × Nat) := [(1, 80, 2), (0, 80, 3), (0, 80, 4), (0, 80, 5), (0, 80, 6), (0, 80, 7), (0, 80, 8), (0, 80, 9), (0, 80, 10), (0, 80, 11), (0, 80, 12), (0, 80, 13), (0, 6400, 14), (0, 80, 15), (0, 4160, 16), (0, 80, 17), (0, 2400, 20), (0, 10, 23), (0, 10, 24)]
theorem mc_nx (m : Nat) : ∀ (L : List (Nat × Nat × Nat)) (h : hpT), hp_nx (mc_fd m L h) = hp_nx h + L.length
  | [], h => rfl
  | q :: L, h => by
    show hp_nx (mc_fd m L (mc_st m h q)) = _
    rw [mc_nx m L]
    show hp_nx h + 1 + L.length = hp_nx h + (L.length + 1)
    omega
theorem mc_old (m : Nat) : ∀ (L : List (Nat × Nat × Nat)) (h : hpT) (b : Nat), b < hp_nx h → hp_kd (mc_fd m L h) b = hp_kd h b ∧ hp_ln (mc_fd m L h) b = hp_ln h b ∧ hp_ar (mc_fd m L h) b = hp_ar h b ∧ (∀ f, (b ≠ m ∨ ∀ q ∈ L, f ≠ hp_fd 6 q.2.2) → hp_fl (mc_fd m L h) f b = hp_fl h f b)
  | [], h, b, _ => ⟨rfl, rfl, rfl, fun _ _ => rfl⟩
  | q :: L, h, b, hb => by
    obtain ⟨e1, e2, e3, e4⟩ := mc_old m L (mc_st m h q) b (Nat.lt_succ_of_lt hb)
    refine ⟨e1.trans (va_up_ne _ _ (Nat.ne_of_lt hb)), e2.trans (va_up_ne _ _ (Nat.ne_of_lt hb)), e3.trans (va_up_ne _ _ (Nat.ne_of_lt hb)), fun f hf => ?_⟩
    refine (e4 f (hf.imp id fun z p hp => z p (List.mem_cons_of_mem _ hp))).trans ?_
    show hp_fl (hp_put (hp_mkA h q.1 q.2.1 (.int 0)) (hp_fd 6 q.2.2) m (.ref (hp_nx h))) f b = _
    rw [hp_put_fl]
    rcases hf with hf | hf
    · rw [if_neg hf]
      split
      · rename_i e; rw [e]; rfl
      · rfl
    · rw [if_neg (hf q List.mem_cons_self)]
      rfl
theorem mc_at (m : Nat) : ∀ (L : List (Nat × Nat × Nat)) (h : hpT) (j : Nat) (q : Nat × Nat × Nat), m < hp_nx h → L[j]? = some q → (L.map (fun q => hp_fd 6 q.2.2)).Nodup →
    hp_kd (mc_fd m L h) (hp_nx h + j) = 10 + q.1 ∧ hp_ln (mc_fd m L h) (hp_nx h + j) = q.2.1 ∧ hp_ar (mc_fd m L h) (hp_nx h + j) = (fun _ => .int 0) ∧ hp_fl (mc_fd m L h) (hp_fd 6 q.2.2) m = .ref (hp_nx h + j)
  | [], h, j, q, _, hj, _ => by cases hj
  | p :: L, h, 0, q, hm, hj, hd => by
    cases hj
    obtain ⟨e1, e2, e3, e4⟩ := mc_old m L (mc_st m h p) (hp_nx h) (Nat.lt_succ_self _)
    have hd' := List.nodup_cons.mp hd
    obtain ⟨-, -, -, e5⟩ := mc_old m L (mc_st m h p) m (Nat.lt_succ_of_lt hm)
    refine ⟨e1.trans (va_up_self _ _ _), e2.trans (va_up_self _ _ _), e3.trans (va_up_self _ _ _), (e5 _ (Or.inr fun z hz e => hd'.1 (List.mem_map.mpr ⟨z, hz, e.symm⟩))).trans ?_⟩
    show hp_fl (hp_put (hp_mkA h p.1 p.2.1 (.int 0)) (hp_fd 6 p.2.2) m (.ref (hp_nx h))) (hp_fd 6 p.2.2) m = _
    rw [hp_put_fl, if_pos rfl, if_pos rfl]
    rfl
  | p :: L, h, j + 1, q, hm, hj, hd => by
    have := mc_at m L (mc_st m h p) j q (Nat.lt_succ_of_lt hm) hj (List.nodup_cons.mp hd).2
    rw [show hp_nx h + (j + 1) = hp_nx (mc_st m h p) + j by show _ = hp_nx h + 1 + j; omega]
    exact this
theorem mc_idx {k : Nat} (hk : mo_isA k = true) : mc_L[mo_j k]? = some (if k = 2 then 1 else 0, mo_len k, k) := by
  unfold mo_isA at hk
  simp only [Bool.or_eq_true, Bool.and_eq_true, decide_eq_true_eq, beq_iff_eq] at hk
  have h2 : k = 2 ∨ k = 3 ∨ k = 4 ∨ k = 5 ∨ k = 6 ∨ k = 7 ∨ k = 8 ∨ k = 9 ∨ k = 10 ∨ k = 11 ∨ k = 12 ∨ k = 13 ∨ k = 14 ∨ k = 15 ∨ k = 16 ∨ k = 17 ∨ k = 20 ∨ k = 23 ∨ k = 24 := by omega
  rcases h2 with rfl | rfl | rfl | rfl | rfl | rfl | rfl | rfl | rfl | rfl | rfl | rfl | rfl | rfl | rfl | rfl | rfl | rfl | rfl <;> rfl
/-- behind the makings the reference lies there, all zero -/
theorem mc_view {G : hpG} {h : hpT} {m : Nat} (hm : hp_is G h m 6) (hx : hp_nx h = m + 1) (z : ∀ k, mo_isA k = false → k < 25 → hp_fl h (hp_fd 6 k) m = .int 0) : mo_sh G (mc_fd m mc_L h) m ∧ mc_fd m mc_L h = mo_w (mc_fd m mc_L h) m mo_z := by
  have hnd : (mc_L.map (fun q => hp_fd 6 q.2.2)).Nodup := by decide
  have hlt : m < hp_nx h := hm.2.1
  have at_ : ∀ k, mo_isA k = true → _ := fun k hk => mc_at m mc_L h (mo_j k) _ hlt (mc_idx hk) hnd
  obtain ⟨o1, -, -, o4⟩ := mc_old m mc_L h m hlt
  have hn : hp_nx (mc_fd m mc_L h) = m + 20 := by rw [mc_nx, hx]; rfl
  refine ⟨⟨hm.1, by omega, o1.trans hm.2.2, fun k hk => ?_⟩, hp_ext rfl rfl rfl rfl (fun f b => ?_) (fun b i => ?_)⟩
  · obtain ⟨e1, e2, -, -⟩ := at_ k hk
    rw [hx] at e1 e2
    refine ⟨e1.trans ?_, e2⟩
    show 10 + (if k = 2 then 1 else 0) = _
    split <;> rfl
  · rw [mo_w_fl]
    by_cases c : b = m ∧ 192 ≤ f ∧ f < 217
    · rw [if_pos c]
      obtain ⟨rfl, c1, c2⟩ := c
      have ef : f = hp_fd 6 (f - 192) := by rw [mo_fd]; omega
      by_cases a : mo_isA (f - 192) = true
      · rw [if_pos a]
        obtain ⟨-, -, -, e4⟩ := at_ (f - 192) a
        rw [hx] at e4
        rw [ef, e4, ← ef]
      · rw [if_neg a, o4 f (Or.inr fun q hq e => a ?_), ef]
        · exact z (f - 192) (by simpa using a) (by omega)
        · have hq2 : ∀ q ∈ mc_L, mo_isA q.2.2 = true := by decide
          have : f - 192 = q.2.2 := by rw [e, mo_fd]; omega
          rw [this]
          exact hq2 q hq
    · rw [if_neg c]
  · rw [mo_w_ar]
    by_cases c : m < b ∧ b < m + 20
    · rw [if_pos c]
      obtain ⟨e1, e2⟩ := mo_jk (j := b - (m + 1)) (by omega)
      obtain ⟨-, -, e3, -⟩ := at_ (mo_k (b - (m + 1))) e2
      rw [hx, e1, show m + 1 + (b - (m + 1)) = b by omega] at e3
      rw [e3]
      rfl
    · rw [if_neg c]
theorem mo_aldv {M : hpM} {G : hpG} {y : MethodName} {cc : ByteArray} {nL d : Nat} {h0 h : hpT} {m : Nat} {s : moS} {Q : State → Prop} {pc : Nat} {lo : Nat → Option Value} {st : List Value} (C : hp_F M G y cc nL d h0) (x : mo_sh G h m) {k : Nat} {i v : Int32} (hk : mo_isA k = true) (h2 : k ≠ 2) (ev : s.2 k i.toNatClampNeg = v) (dd : decode cc pc = .ok (.iaload, 1)) (hin : vp_in i (mo_len k)) (kk : hp_V M G nL Q (mo_w h m s) (pc + 1) lo (.int v :: st)) : hp_V M G nL Q (mo_w h m s) pc lo (.int i :: .ref (mo_arr m k) :: st) := mo_ald C x hk h2 rfl dd hin (by rw [ev]; exact kk)
theorem mo_zldv {M : hpM} {G : hpG} {y : MethodName} {cc : ByteArray} {nL d : Nat} {h0 h : hpT} {m : Nat} {s : moS} {Q : State → Prop} {pc : Nat} {lo : Nat → Option Value} {st : List Value} (C : hp_F M G y cc nL d h0) (x : mo_sh G h m) {i v : Int32} (ev : s.2 2 i.toNatClampNeg = v) (dd : decode cc pc = .ok (.baload, 1)) (hin : vp_in i 80) (kk : hp_V M G nL Q (mo_w h m s) (pc + 1) lo (.int v :: st)) : hp_V M G nL Q (mo_w h m s) pc lo (.int i :: .ref (mo_arr m 2) :: st) := mo_zld C x rfl dd hin (by rw [ev]; exact kk)
set_option maxRecDepth 20000 in
set_option maxHeartbeats 4000000 in
theorem mf_init {l : Launch} {G : hpG} {h : hpT} {m d : Nat} (hd : 1 ≤ d) (hi : hp_is G h m 6) (hx0 : hp_nx h = m + 1) (z0 : ∀ k, mo_isA k = false → k < 25 → hp_fl h (hp_fd 6 k) m = .int 0) (rm : hp_nx h + 100 ≤ hp_n0 G + hp_LC ∧ hp_sl h + 20000 ≤ hp_LS) : hp_C l G yX6_init (.code yX6_init cX6_init 1 none) d [.ref m] (h) (fun v h' => v = none ∧ ∃ h2, h' = mo_w h2 m mo_s0 ∧ mo_sh G h2 m ∧ hp_nx h2 = m + 20 ∧ hp_sl h2 ≤ hp_sl h + 20000 ∧ ∀ b, b < m → hp_kd h2 b = hp_kd h b ∧ hp_ln h2 b = hp_ln h b ∧ hp_ar h2 b = hp_ar h b ∧ ∀ f, hp_fl h2 f b = hp_fl h f b) (fun _ _ => False) := by
  refine hp_ofV (by decide) (by simp [Value.category]) (Nat.le_of_ble_eq_true rfl) (fun M C hr hx el => ?_)
  refine hp_aload_nR C dX6_init_0 rfl ?_
  refine hp_obj C ob_X6_1 ob_i ob_c (by omega) dX6_init_1 (by simp [Value.category]) ?_
  have r1 := rm.1
  have r2 := rm.2
  have i_0 := hi
  refine hp_aload_nR C dX6_init_4 rfl ?_
  refine hp_bipush (v := 80) C dX6_init_5 (by decide) ?_
  refine hp_newa C 1 (atype := .boolean) (ty := .boolean) (N := 80) rfl rfl (fun U hU => hU) (by decide) ac_boolean dX6_init_7 (by decide) rfl (by decide) (by omega) (by omega) ?_
  refine hp_putF C fl_X6_7_6 rfl rfl rfl rfl dX6_init_9 (i_0.mkA 1 80 (.int 0)) ?_
  have i_1 : hp_is G (mc_st m h (1, 80, 2)) m 6 := i_0.mkA 1 80 (.int 0)
  have n_1 : hp_nx (mc_st m h (1, 80, 2)) = hp_nx h + 1 := rfl
  have s_1 : hp_sl (mc_st m h (1, 80, 2)) = hp_sl h + 80 := rfl
  change hp_V M G 1 _ (mc_st m h (1, 80, 2)) _ _ _
  generalize e_1 : mc_st m h (1, 80, 2) = H_1 at i_1 n_1 s_1 ⊢
  refine hp_aload_nR C dX6_init_12 rfl ?_
  refine hp_bipush (v := 80) C dX6_init_13 (by decide) ?_
  refine hp_newa C 0 (atype := .int) (ty := .int) (N := 80) rfl rfl (fun U hU => hU) (by decide) ac_int dX6_init_15 (by decide) rfl (by decide) (by omega) (by omega) ?_
  refine hp_putF C fl_X6_13_6 rfl rfl rfl rfl dX6_init_17 (i_1.mkA 0 80 (.int 0)) ?_
  have i_2 : hp_is G (mc_st m H_1 (0, 80, 3)) m 6 := i_1.mkA 0 80 (.int 0)
  have n_2 : hp_nx (mc_st m H_1 (0, 80, 3)) = hp_nx H_1 + 1 := rfl
  have s_2 : hp_sl (mc_st m H_1 (0, 80, 3)) = hp_sl H_1 + 80 := rfl
  change hp_V M G 1 _ (mc_st m H_1 (0, 80, 3)) _ _ _
  generalize e_2 : mc_st m H_1 (0, 80, 3) = H_2 at i_2 n_2 s_2 ⊢
  refine hp_aload_nR C dX6_init_20 rfl ?_
  refine hp_bipush (v := 80) C dX6_init_21 (by decide) ?_
  refine hp_newa C 0 (atype := .int) (ty := .int) (N := 80) rfl rfl (fun U hU => hU) (by decide) ac_int dX6_init_23 (by decide) rfl (by decide) (by omega) (by omega) ?_
  refine hp_putF C fl_X6_17_6 rfl rfl rfl rfl dX6_init_25 (i_2.mkA 0 80 (.int 0)) ?_
  have i_3 : hp_is G (mc_st m H_2 (0, 80, 4)) m 6 := i_2.mkA 0 80 (.int 0)
  have n_3 : hp_nx (mc_st m H_2 (0, 80, 4)) = hp_nx H_2 + 1 := rfl
  have s_3 : hp_sl (mc_st m H_2 (0, 80, 4)) = hp_sl H_2 + 80 := rfl
  change hp_V M G 1 _ (mc_st m H_2 (0, 80, 4)) _ _ _
  generalize e_3 : mc_st m H_2 (0, 80, 4) = H_3 at i_3 n_3 s_3 ⊢
  refine hp_aload_nR C dX6_init_28 rfl ?_
  refine hp_bipush (v := 80) C dX6_init_29 (by decide) ?_
  refine hp_newa C 0 (atype := .int) (ty := .int) (N := 80) rfl rfl (fun U hU => hU) (by decide) ac_int dX6_init_31 (by decide) rfl (by decide) (by omega) (by omega) ?_
  refine hp_putF C fl_X6_20_6 rfl rfl rfl rfl dX6_init_33 (i_3.mkA 0 80 (.int 0)) ?_
  have i_4 : hp_is G (mc_st m H_3 (0, 80, 5)) m 6 := i_3.mkA 0 80 (.int 0)
  have n_4 : hp_nx (mc_st m H_3 (0, 80, 5)) = hp_nx H_3 + 1 := rfl
  have s_4 : hp_sl (mc_st m H_3 (0, 80, 5)) = hp_sl H_3 + 80 := rfl
  change hp_V M G 1 _ (mc_st m H_3 (0, 80, 5)) _ _ _
  generalize e_4 : mc_st m H_3 (0, 80, 5) = H_4 at i_4 n_4 s_4 ⊢
  refine hp_aload_nR C dX6_init_36 rfl ?_
  refine hp_bipush (v := 80) C dX6_init_37 (by decide) ?_
  refine hp_newa C 0 (atype := .int) (ty := .int) (N := 80) rfl rfl (fun U hU => hU) (by decide) ac_int dX6_init_39 (by decide) rfl (by decide) (by omega) (by omega) ?_
  refine hp_putF C fl_X6_23_6 rfl rfl rfl rfl dX6_init_41 (i_4.mkA 0 80 (.int 0)) ?_
  have i_5 : hp_is G (mc_st m H_4 (0, 80, 6)) m 6 := i_4.mkA 0 80 (.int 0)
  have n_5 : hp_nx (mc_st m H_4 (0, 80, 6)) = hp_nx H_4 + 1 := rfl
  have s_5 : hp_sl (mc_st m H_4 (0, 80, 6)) = hp_sl H_4 + 80 := rfl
  change hp_V M G 1 _ (mc_st m H_4 (0, 80, 6)) _ _ _
  generalize e_5 : mc_st m H_4 (0, 80, 6) = H_5 at i_5 n_5 s_5 ⊢
  refine hp_aload_nR C dX6_init_44 rfl ?_
  refine hp_bipush (v := 80) C dX6_init_45 (by decide) ?_
  refine hp_newa C 0 (atype := .int) (ty := .int) (N := 80) rfl rfl (fun U hU => hU) (by decide) ac_int dX6_init_47 (by decide) rfl (by decide) (by omega) (by omega) ?_
  refine hp_putF C fl_X6_26_6 rfl rfl rfl rfl dX6_init_49 (i_5.mkA 0 80 (.int 0)) ?_
  have i_6 : hp_is G (mc_st m H_5 (0, 80, 7)) m 6 := i_5.mkA 0 80 (.int 0)
  have n_6 : hp_nx (mc_st m H_5 (0, 80, 7)) = hp_nx H_5 + 1 := rfl
  have s_6 : hp_sl (mc_st m H_5 (0, 80, 7)) = hp_sl H_5 + 80 := rfl
  change hp_V M G 1 _ (mc_st m H_5 (0, 80, 7)) _ _ _
  generalize e_6 : mc_st m H_5 (0, 80, 7) = H_6 at i_6 n_6 s_6 ⊢
  refine hp_aload_nR C dX6_init_52 rfl ?_
  refine hp_bipush (v := 80) C dX6_init_53 (by decide) ?_
  refine hp_newa C 0 (atype := .int) (ty := .int) (N := 80) rfl rfl (fun U hU => hU) (by decide) ac_int dX6_init_55 (by decide) rfl (by decide) (by omega) (by omega) ?_
  refine hp_putF C fl_X6_29_6 rfl rfl rfl rfl dX6_init_57 (i_6.mkA 0 80 (.int 0)) ?_
  have i_7 : hp_is G (mc_st m H_6 (0, 80, 8)) m 6 := i_6.mkA 0 80 (.int 0)
  have n_7 : hp_nx (mc_st m H_6 (0, 80, 8)) = hp_nx H_6 + 1 := rfl
  have s_7 : hp_sl (mc_st m H_6 (0, 80, 8)) = hp_sl H_6 + 80 := rfl
  change hp_V M G 1 _ (mc_st m H_6 (0, 80, 8)) _ _ _
  generalize e_7 : mc_st m H_6 (0, 80, 8) = H_7 at i_7 n_7 s_7 ⊢
  refine hp_aload_nR C dX6_init_60 rfl ?_
  refine hp_bipush (v := 80) C dX6_init_61 (by decide) ?_
  refine hp_newa C 0 (atype := .int) (ty := .int) (N := 80) rfl rfl (fun U hU => hU) (by decide) ac_int dX6_init_63 (by decide) rfl (by decide) (by omega) (by omega) ?_
  refine hp_putF C fl_X6_32_6 rfl rfl rfl rfl dX6_init_65 (i_7.mkA 0 80 (.int 0)) ?_
  have i_8 : hp_is G (mc_st m H_7 (0, 80, 9)) m 6 := i_7.mkA 0 80 (.int 0)
  have n_8 : hp_nx (mc_st m H_7 (0, 80, 9)) = hp_nx H_7 + 1 := rfl
  have s_8 : hp_sl (mc_st m H_7 (0, 80, 9)) = hp_sl H_7 + 80 := rfl
  change hp_V M G 1 _ (mc_st m H_7 (0, 80, 9)) _ _ _
  generalize e_8 : mc_st m H_7 (0, 80, 9) = H_8 at i_8 n_8 s_8 ⊢
  refine hp_aload_nR C dX6_init_68 rfl ?_
  refine hp_bipush (v := 80) C dX6_init_69 (by decide) ?_
  refine hp_newa C 0 (atype := .int) (ty := .int) (N := 80) rfl rfl (fun U hU => hU) (by decide) ac_int dX6_init_71 (by decide) rfl (by decide) (by omega) (by omega) ?_
  refine hp_putF C fl_X6_35_6 rfl rfl rfl rfl dX6_init_73 (i_8.mkA 0 80 (.int 0)) ?_
  have i_9 : hp_is G (mc_st m H_8 (0, 80, 10)) m 6 := i_8.mkA 0 80 (.int 0)
  have n_9 : hp_nx (mc_st m H_8 (0, 80, 10)) = hp_nx H_8 + 1 := rfl
  have s_9 : hp_sl (mc_st m H_8 (0, 80, 10)) = hp_sl H_8 + 80 := rfl
  change hp_V M G 1 _ (mc_st m H_8 (0, 80, 10)) _ _ _
  generalize e_9 : mc_st m H_8 (0, 80, 10) = H_9 at i_9 n_9 s_9 ⊢
  refine hp_aload_nR C dX6_init_76 rfl ?_
  refine hp_bipush (v := 80) C dX6_init_77 (by decide) ?_
  refine hp_newa C 0 (atype := .int) (ty := .int) (N := 80) rfl rfl (fun U hU => hU) (by decide) ac_int dX6_init_79 (by decide) rfl (by decide) (by omega) (by omega) ?_
  refine hp_putF C fl_X6_38_6 rfl rfl rfl rfl dX6_init_81 (i_9.mkA 0 80 (.int 0)) ?_
  have i_10 : hp_is G (mc_st m H_9 (0, 80, 11)) m 6 := i_9.mkA 0 80 (.int 0)
  have n_10 : hp_nx (mc_st m H_9 (0, 80, 11)) = hp_nx H_9 + 1 := rfl
  have s_10 : hp_sl (mc_st m H_9 (0, 80, 11)) = hp_sl H_9 + 80 := rfl
  change hp_V M G 1 _ (mc_st m H_9 (0, 80, 11)) _ _ _
  generalize e_10 : mc_st m H_9 (0, 80, 11) = H_10 at i_10 n_10 s_10 ⊢
  refine hp_aload_nR C dX6_init_84 rfl ?_
  refine hp_bipush (v := 80) C dX6_init_85 (by decide) ?_
  refine hp_newa C 0 (atype := .int) (ty := .int) (N := 80) rfl rfl (fun U hU => hU) (by decide) ac_int dX6_init_87 (by decide) rfl (by decide) (by omega) (by omega) ?_
  refine hp_putF C fl_X6_41_6 rfl rfl rfl rfl dX6_init_89 (i_10.mkA 0 80 (.int 0)) ?_
  have i_11 : hp_is G (mc_st m H_10 (0, 80, 12)) m 6 := i_10.mkA 0 80 (.int 0)
  have n_11 : hp_nx (mc_st m H_10 (0, 80, 12)) = hp_nx H_10 + 1 := rfl
  have s_11 : hp_sl (mc_st m H_10 (0, 80, 12)) = hp_sl H_10 + 80 := rfl
  change hp_V M G 1 _ (mc_st m H_10 (0, 80, 12)) _ _ _
  generalize e_11 : mc_st m H_10 (0, 80, 12) = H_11 at i_11 n_11 s_11 ⊢
  refine hp_aload_nR C dX6_init_92 rfl ?_
  refine hp_bipush (v := 80) C dX6_init_93 (by decide) ?_
  refine hp_newa C 0 (atype := .int) (ty := .int) (N := 80) rfl rfl (fun U hU => hU) (by decide) ac_int dX6_init_95 (by decide) rfl (by decide) (by omega) (by omega) ?_
  refine hp_putF C fl_X6_44_6 rfl rfl rfl rfl dX6_init_97 (i_11.mkA 0 80 (.int 0)) ?_
  have i_12 : hp_is G (mc_st m H_11 (0, 80, 13)) m 6 := i_11.mkA 0 80 (.int 0)
  have n_12 : hp_nx (mc_st m H_11 (0, 80, 13)) = hp_nx H_11 + 1 := rfl
  have s_12 : hp_sl (mc_st m H_11 (0, 80, 13)) = hp_sl H_11 + 80 := rfl
  change hp_V M G 1 _ (mc_st m H_11 (0, 80, 13)) _ _ _
  generalize e_12 : mc_st m H_11 (0, 80, 13) = H_12 at i_12 n_12 s_12 ⊢
  refine hp_aload_nR C dX6_init_100 rfl ?_
  refine hp_sipush (v := 6400) C dX6_init_101 (by decide) ?_
  refine hp_newa C 0 (atype := .int) (ty := .int) (N := 6400) rfl rfl (fun U hU => hU) (by decide) ac_int dX6_init_104 (by decide) rfl (by decide) (by omega) (by omega) ?_
  refine hp_putF C fl_X6_47_6 rfl rfl rfl rfl dX6_init_106 (i_12.mkA 0 6400 (.int 0)) ?_
  have i_13 : hp_is G (mc_st m H_12 (0, 6400, 14)) m 6 := i_12.mkA 0 6400 (.int 0)
  have n_13 : hp_nx (mc_st m H_12 (0, 6400, 14)) = hp_nx H_12 + 1 := rfl
  have s_13 : hp_sl (mc_st m H_12 (0, 6400, 14)) = hp_sl H_12 + 6400 := rfl
  change hp_V M G 1 _ (mc_st m H_12 (0, 6400, 14)) _ _ _
  generalize e_13 : mc_st m H_12 (0, 6400, 14) = H_13 at i_13 n_13 s_13 ⊢
  refine hp_aload_nR C dX6_init_109 rfl ?_
  refine hp_bipush (v := 80) C dX6_init_110 (by decide) ?_
  refine hp_newa C 0 (atype := .int) (ty := .int) (N := 80) rfl rfl (fun U hU => hU) (by decide) ac_int dX6_init_112 (by decide) rfl (by decide) (by omega) (by omega) ?_
  refine hp_putF C fl_X6_50_6 rfl rfl rfl rfl dX6_init_114 (i_13.mkA 0 80 (.int 0)) ?_
  have i_14 : hp_is G (mc_st m H_13 (0, 80, 15)) m 6 := i_13.mkA 0 80 (.int 0)
  have n_14 : hp_nx (mc_st m H_13 (0, 80, 15)) = hp_nx H_13 + 1 := rfl
  have s_14 : hp_sl (mc_st m H_13 (0, 80, 15)) = hp_sl H_13 + 80 := rfl
  change hp_V M G 1 _ (mc_st m H_13 (0, 80, 15)) _ _ _
  generalize e_14 : mc_st m H_13 (0, 80, 15) = H_14 at i_14 n_14 s_14 ⊢
  refine hp_aload_nR C dX6_init_117 rfl ?_
  refine hp_sipush (v := 4160) C dX6_init_118 (by decide) ?_
  refine hp_newa C 0 (atype := .int) (ty := .int) (N := 4160) rfl rfl (fun U hU => hU) (by decide) ac_int dX6_init_121 (by decide) rfl (by decide) (by omega) (by omega) ?_
  refine hp_putF C fl_X6_53_6 rfl rfl rfl rfl dX6_init_123 (i_14.mkA 0 4160 (.int 0)) ?_
  have i_15 : hp_is G (mc_st m H_14 (0, 4160, 16)) m 6 := i_14.mkA 0 4160 (.int 0)
  have n_15 : hp_nx (mc_st m H_14 (0, 4160, 16)) = hp_nx H_14 + 1 := rfl
  have s_15 : hp_sl (mc_st m H_14 (0, 4160, 16)) = hp_sl H_14 + 4160 := rfl
  change hp_V M G 1 _ (mc_st m H_14 (0, 4160, 16)) _ _ _
  generalize e_15 : mc_st m H_14 (0, 4160, 16) = H_15 at i_15 n_15 s_15 ⊢
  refine hp_aload_nR C dX6_init_126 rfl ?_
  refine hp_bipush (v := 80) C dX6_init_127 (by decide) ?_
  refine hp_newa C 0 (atype := .int) (ty := .int) (N := 80) rfl rfl (fun U hU => hU) (by decide) ac_int dX6_init_129 (by decide) rfl (by decide) (by omega) (by omega) ?_
  refine hp_putF C fl_X6_56_6 rfl rfl rfl rfl dX6_init_131 (i_15.mkA 0 80 (.int 0)) ?_
  have i_16 : hp_is G (mc_st m H_15 (0, 80, 17)) m 6 := i_15.mkA 0 80 (.int 0)
  have n_16 : hp_nx (mc_st m H_15 (0, 80, 17)) = hp_nx H_15 + 1 := rfl
  have s_16 : hp_sl (mc_st m H_15 (0, 80, 17)) = hp_sl H_15 + 80 := rfl
  change hp_V M G 1 _ (mc_st m H_15 (0, 80, 17)) _ _ _
  generalize e_16 : mc_st m H_15 (0, 80, 17) = H_16 at i_16 n_16 s_16 ⊢
  refine hp_aload_nR C dX6_init_134 rfl ?_
  refine hp_sipush (v := 2400) C dX6_init_135 (by decide) ?_
  refine hp_newa C 0 (atype := .int) (ty := .int) (N := 2400) rfl rfl (fun U hU => hU) (by decide) ac_int dX6_init_138 (by decide) rfl (by decide) (by omega) (by omega) ?_
  refine hp_putF C fl_X6_59_6 rfl rfl rfl rfl dX6_init_140 (i_16.mkA 0 2400 (.int 0)) ?_
  have i_17 : hp_is G (mc_st m H_16 (0, 2400, 20)) m 6 := i_16.mkA 0 2400 (.int 0)
  have n_17 : hp_nx (mc_st m H_16 (0, 2400, 20)) = hp_nx H_16 + 1 := rfl
  have s_17 : hp_sl (mc_st m H_16 (0, 2400, 20)) = hp_sl H_16 + 2400 := rfl
  change hp_V M G 1 _ (mc_st m H_16 (0, 2400, 20)) _ _ _
  generalize e_17 : mc_st m H_16 (0, 2400, 20) = H_17 at i_17 n_17 s_17 ⊢
  refine hp_aload_nR C dX6_init_143 rfl ?_
  refine hp_bipush (v := 10) C dX6_init_144 (by decide) ?_
  refine hp_newa C 0 (atype := .int) (ty := .int) (N := 10) rfl rfl (fun U hU => hU) (by decide) ac_int dX6_init_146 (by decide) rfl (by decide) (by omega) (by omega) ?_
  refine hp_putF C fl_X6_62_6 rfl rfl rfl rfl dX6_init_148 (i_17.mkA 0 10 (.int 0)) ?_
  have i_18 : hp_is G (mc_st m H_17 (0, 10, 23)) m 6 := i_17.mkA 0 10 (.int 0)
  have n_18 : hp_nx (mc_st m H_17 (0, 10, 23)) = hp_nx H_17 + 1 := rfl
  have s_18 : hp_sl (mc_st m H_17 (0, 10, 23)) = hp_sl H_17 + 10 := rfl
  change hp_V M G 1 _ (mc_st m H_17 (0, 10, 23)) _ _ _
  generalize e_18 : mc_st m H_17 (0, 10, 23) = H_18 at i_18 n_18 s_18 ⊢
  refine hp_aload_nR C dX6_init_151 rfl ?_
  refine hp_bipush (v := 10) C dX6_init_152 (by decide) ?_
  refine hp_newa C 0 (atype := .int) (ty := .int) (N := 10) rfl rfl (fun U hU => hU) (by decide) ac_int dX6_init_154 (by decide) rfl (by decide) (by omega) (by omega) ?_
  refine hp_putF C fl_X6_65_6 rfl rfl rfl rfl dX6_init_156 (i_18.mkA 0 10 (.int 0)) ?_
  have i_19 : hp_is G (mc_st m H_18 (0, 10, 24)) m 6 := i_18.mkA 0 10 (.int 0)
  have n_19 : hp_nx (mc_st m H_18 (0, 10, 24)) = hp_nx H_18 + 1 := rfl
  have s_19 : hp_sl (mc_st m H_18 (0, 10, 24)) = hp_sl H_18 + 10 := rfl
  change hp_V M G 1 _ (mc_st m H_18 (0, 10, 24)) _ _ _
  generalize e_19 : mc_st m H_18 (0, 10, 24) = H_19 at i_19 n_19 s_19 ⊢
  have eF : H_19 = mc_fd m mc_L h := by rw [← e_19, ← e_18, ← e_17, ← e_16, ← e_15, ← e_14, ← e_13, ← e_12, ← e_11, ← e_10, ← e_9, ← e_8, ← e_7, ← e_6, ← e_5, ← e_4, ← e_3, ← e_2, ← e_1]; rfl
  obtain ⟨sh, vw⟩ := mc_view hi hx0 z0
  rw [← eF] at sh vw
  rw [vw]
  refine hp_aload_nR C dX6_init_159 rfl ?_
  refine mo_getA C sh fl_X6_7_6 rfl (by decide) dX6_init_160 ?_
  refine hp_iconst (v := 0) C dX6_init_163 (by decide) ?_
  refine hp_iconst (v := 1) C dX6_init_164 (by decide) ?_
  refine mo_zst C sh rfl dX6_init_165 (by unfold vp_in; decide) ?_
  refine hp_aload_nR C dX6_init_166 rfl ?_
  refine mo_getA C sh fl_X6_13_6 rfl (by decide) dX6_init_167 ?_
  refine hp_iconst (v := 0) C dX6_init_170 (by decide) ?_
  refine hp_iconst (v := (-1)) C dX6_init_171 (by decide) ?_
  refine mo_ast C sh rfl (by decide) dX6_init_172 (by unfold vp_in; decide) ?_
  refine hp_aload_nR C dX6_init_173 rfl ?_
  refine mo_getA C sh fl_X6_29_6 rfl (by decide) dX6_init_174 ?_
  refine hp_iconst (v := 0) C dX6_init_177 (by decide) ?_
  refine hp_iconst (v := 1) C dX6_init_178 (by decide) ?_
  refine mo_ast C sh rfl (by decide) dX6_init_179 (by unfold vp_in; decide) ?_
  refine hp_aload_nR C dX6_init_180 rfl ?_
  refine mo_getA C sh fl_X6_32_6 rfl (by decide) dX6_init_181 ?_
  refine hp_iconst (v := 0) C dX6_init_184 (by decide) ?_
  refine hp_iconst (v := 5) C dX6_init_185 (by decide) ?_
  refine mo_ast C sh rfl (by decide) dX6_init_186 (by unfold vp_in; decide) ?_
  refine hp_aload_nR C dX6_init_187 rfl ?_
  refine hp_iconst (v := 1) C dX6_init_188 (by decide) ?_
  refine mo_putS C sh fl_X6_68_6 rfl (by decide) rfl rfl rfl dX6_init_189 ?_
  refine hp_vret C hr dX6_init_192 ?_
  exact ⟨rfl, H_19, rfl, sh, by omega, by omega, fun b hb => by rw [eF]; exact ⟨(mc_old m mc_L h b (by omega)).1, (mc_old m mc_L h b (by omega)).2.1, (mc_old m mc_L h b (by omega)).2.2.1, fun f => (mc_old m mc_L h b (by omega)).2.2.2 f (Or.inl (by omega))⟩⟩
end
section
/-! ===== WHAT BOTH SIDES MEAN: made, TIME, restarts, gave up; the nodes' numbers by their place (0 keeps, 1 parent, 2 depth, 3 state, 4 kind, 5 strategy, 6 bound, 7 span, 8 patience, 9 start, 10 stop, 11 fails); rows; the restarts' times; the events ===== -/
abbrev aS : Type := Nat × Nat × Nat × Nat × (Nat → Nat → Int) × (Nat → List Nat) × (Nat → List Nat) × List (Nat × Nat × Nat × Nat)
abbrev a_mk (a : aS) : Nat := a.1
abbrev a_tm (a : aS) : Nat := a.2.1
abbrev a_rs (a : aS) : Nat := a.2.2.1
abbrev a_gv (a : aS) : Nat := a.2.2.2.1
abbrev a_nd (a : aS) : Nat → Nat → Int := a.2.2.2.2.1
abbrev a_rw (a : aS) : Nat → List Nat := a.2.2.2.2.2.1
abbrev a_rt (a : aS) : Nat → List Nat := a.2.2.2.2.2.2.1
abbrev a_ev (a : aS) : List (Nat × Nat × Nat × Nat) := a.2.2.2.2.2.2.2
/-- number f of node n := x -/
def a_sn (a : aS) (f n : Nat) (x : Int) : aS := (a.1, a.2.1, a.2.2.1, a.2.2.2.1, va_up (a_nd a) f (va_up (a_nd a f) n x), a.2.2.2.2.2)
/-- TIME := t -/
def a_st (a : aS) (t : Nat) : aS := (a.1, t, a.2.2)
/-- an event is told -/
def a_no (a : aS) (w n r : Nat) : aS := (a.1, a.2.1, a.2.2.1, a.2.2.2.1, a.2.2.2.2.1, a.2.2.2.2.2.1, a.2.2.2.2.2.2.1, a_ev a ++ [(w, n, a_tm a, r)])
def a_sr (a : aS) (n : Nat) (l : List Nat) : aS := (a.1, a.2.1, a.2.2.1, a.2.2.2.1, a.2.2.2.2.1, va_up (a_rw a) n l, a.2.2.2.2.2.2)
def a_srt (a : aS) (n : Nat) (l : List Nat) : aS := (a.1, a.2.1, a.2.2.1, a.2.2.2.1, a.2.2.2.2.1, a.2.2.2.2.2.1, va_up (a_rt a) n l, a.2.2.2.2.2.2.2)
abbrev a_up (a : aS) (n : Nat) : Prop := a_nd a 3 n = 1
/-- does a worker that is stopped get killed for it -/
def a_dies (a : aS) (n : Nat) : Bool := decide (a_nd a 8 n = 0) || (decide (0 < a_nd a 8 n) && decide (a_nd a 8 n < a_nd a 10 n))
/-- how long its stopping takes -/
def a_long (a : aS) (n : Nat) : Nat := (if a_nd a 8 n < 0 ∨ a_nd a 10 n < a_nd a 8 n then a_nd a 10 n else a_nd a 8 n).toNat
/-- node n's own end of ceasing: k: killed -/
def a_end (k : Bool) (n : Nat) (a : aS) : aS :=
  if a_nd a 0 n = 0 ∧ k = false then a_no (a_sn (a_st a (a_tm a + a_long a n)) 3 n 0) (if a_dies a n then 4 else 3) n 0
  else a_no (a_sn a 3 n 0) (if k then 4 else 3) n 0
/-- the row's nodes that are up cease, in the list's order (f: ceasing of one) -/
def a_cR (f : Nat → aS → Nat × aS) : List Nat → aS → Nat × aS
  | [], a => (0, a)
  | c :: r, a => if a_nd a 3 c = 1 then (let z := f c a; let q := a_cR f r z.2; (z.1 + q.1, q.2)) else a_cR f r a
/-- node n ceases, its children that are up ahead of it, the last one first -/
def a_ce (k : Bool) : Nat → Nat → aS → Nat × aS
  | 0, _, a => (0, a)
  | d + 1, n, a => if a_nd a 0 n = 0 then (1, a_end k n a) else (let z := a_cR (a_ce k d) (a_rw a n).reverse a; (z.1 + 1, a_end k n z.2))
/-- the row is started, in order; whether all are up -/
def a_sR (f : Nat → aS → Bool × aS) : List Nat → aS → Bool × aS
  | [], a => (true, a)
  | c :: r, a => let z := f c a; if z.1 then a_sR f r z.2 else (false, z.2)
/-- node n is started -/
def a_go : Nat → Nat → aS → Bool × aS
  | 0, _, a => (false, a)
  | d + 1, n, a =>
    if a_nd a 0 n = 0 then
      (let b := a_st a (a_tm a + (a_nd a 9 n).toNat)
       if 0 < a_nd a 11 n then (false, a_no (a_sn (a_sn b 11 n (a_nd a 11 n - 1)) 3 n 0) 2 n 0) else (true, a_no (a_sn b 3 n 1) 1 n 0))
    else
      (let z := a_sR (a_go d) (a_rw a n) (a_srt a n [])
       if z.1 then (true, a_no (a_sn z.2 3 n 1) 1 n 0)
       else (let q := a_cR (a_ce false d) (a_rw a n).reverse z.2; (false, a_no (a_sn q.2 3 n 0) 2 n 0)))
/-! ceasing and starting change no row -/
theorem a_end_rw (k : Bool) (n : Nat) (a : aS) : a_rw (a_end k n a) = a_rw a ∧ a_mk (a_end k n a) = a_mk a ∧ a_tm a ≤ a_tm (a_end k n a) ∧ (a_ev (a_end k n a)).length = (a_ev a).length + 1 := by
  unfold a_end
  split <;> refine ⟨rfl, rfl, ?_, ?_⟩
  · exact Nat.le_add_right _ _
  · show (a_ev a ++ [_]).length = _
    rw [List.length_append]
    rfl
  · exact Nat.le_refl _
  · show (a_ev a ++ [_]).length = _
    rw [List.length_append]
    rfl
theorem a_cR_keep {f : Nat → aS → Nat × aS} (hf : ∀ c a, a_rw (f c a).2 = a_rw a ∧ a_mk (f c a).2 = a_mk a ∧ a_tm a ≤ a_tm (f c a).2 ∧ (a_ev a).length ≤ (a_ev (f c a).2).length) : ∀ (l : List Nat) (a : aS), a_rw (a_cR f l a).2 = a_rw a ∧ a_mk (a_cR f l a).2 = a_mk a ∧ a_tm a ≤ a_tm (a_cR f l a).2 ∧ (a_ev a).length ≤ (a_ev (a_cR f l a).2).length
  | [], a => ⟨rfl, rfl, Nat.le_refl _, Nat.le_refl _⟩
  | c :: r, a => by
    unfold a_cR
    split
    · obtain ⟨h1, h2, h3, h4⟩ := hf c a
      obtain ⟨g1, g2, g3, g4⟩ := a_cR_keep hf r (f c a).2
      exact ⟨g1.trans h1, g2.trans h2, Nat.le_trans h3 g3, Nat.le_trans h4 g4⟩
    · exact a_cR_keep hf r a
theorem a_ce_keep (k : Bool) : ∀ (d n : Nat) (a : aS), a_rw (a_ce k d n a).2 = a_rw a ∧ a_mk (a_ce k d n a).2 = a_mk a ∧ a_tm a ≤ a_tm (a_ce k d n a).2 ∧ (a_ev a).length ≤ (a_ev (a_ce k d n a).2).length
  | 0, _, _ => ⟨rfl, rfl, Nat.le_refl _, Nat.le_refl _⟩
  | d + 1, n, a => by
    unfold a_ce
    split
    · obtain ⟨h1, h2, h3, h4⟩ := a_end_rw k n a
      exact ⟨h1, h2, h3, by rw [h4]; exact Nat.le_succ _⟩
    · obtain ⟨h1, h2, h3, h4⟩ := a_cR_keep (f := a_ce k d) (fun c b => a_ce_keep k d c b) (a_rw a n).reverse a
      obtain ⟨g1, g2, g3, g4⟩ := a_end_rw k n (a_cR (a_ce k d) (a_rw a n).reverse a).2
      exact ⟨g1.trans h1, g2.trans h2, Nat.le_trans h3 g3, by rw [g4]; omega⟩
/-! ===== the reference holds it ===== -/
/-- a small number -/
abbrev a_sm (x : Int) : Prop := -2 ≤ x ∧ x < 1048576
/-- the reference's state s is a (way and at apart; the restarts' times by their own relation) -/
def ra_R (s : moS) (a : aS) : Prop :=
  (s.1 1 = nI (a_mk a) ∧ 1 ≤ a_mk a ∧ a_mk a ≤ 80) ∧ s.1 18 = nI (a_tm a) ∧ s.1 19 = nI (a_ev a).length ∧ s.1 21 = nI (a_rs a) ∧ s.1 22 = nI (a_gv a) ∧
  (∀ f n, f < 12 → n < 80 → s.2 (f + 2) n = Int32.ofInt (a_nd a f n) ∧ a_sm (a_nd a f n)) ∧
  (∀ n, n < 80 → s.2 15 n = nI (a_rw a n).length ∧ (a_rw a n).length ≤ 80 ∧ ∀ i, i < (a_rw a n).length → s.2 14 (80 * n + i) = nI ((a_rw a n).getD i 0) ∧ (a_rw a n).getD i 0 < 80) ∧
  (∀ i, i < 600 → ∀ q, (a_ev a)[i]? = some q → s.2 20 (4 * i) = nI q.1 ∧ s.2 20 (4 * i + 1) = nI q.2.1 ∧ s.2 20 (4 * i + 2) = nI q.2.2.1 ∧ s.2 20 (4 * i + 3) = nI q.2.2.2) ∧
  (∃ pr : Nat → List Nat, ∀ n, n < 80 → s.2 17 n = nI (pr n).length ∧ (pr n).length ≤ 51 ∧ (∀ i, i < (pr n).length → s.2 16 (52 * n + i) = nI ((pr n).getD i 0)) ∧
    ∃ dr : List Nat, a_rt a n = dr ++ pr n ∧ (a_nd a 3 n = 1 → ∀ x ∈ dr, (x : Int) < (a_tm a : Int) - a_nd a 7 n) ∧ (∀ x ∈ a_rt a n, x ≤ a_tm a))
theorem ra_R.ok {s : moS} {a : aS} (x : ra_R s a) : mo_ok s := ⟨a_mk a, x.1⟩
theorem ra_R.nd {s : moS} {a : aS} (x : ra_R s a) {f n : Nat} (hf : f < 12) (hn : n < 80) : s.2 (f + 2) n = Int32.ofInt (a_nd a f n) := (x.2.2.2.2.2.1 f n hf hn).1
theorem ra_R.sm {s : moS} {a : aS} (x : ra_R s a) {f n : Nat} (hf : f < 12) (hn : n < 80) : a_sm (a_nd a f n) := (x.2.2.2.2.2.1 f n hf hn).2
theorem ra_R.rl {s : moS} {a : aS} (x : ra_R s a) {n : Nat} (hn : n < 80) : s.2 15 n = nI (a_rw a n).length ∧ (a_rw a n).length ≤ 80 := ⟨(x.2.2.2.2.2.2.1 n hn).1, (x.2.2.2.2.2.2.1 n hn).2.1⟩
theorem ra_R.re {s : moS} {a : aS} (x : ra_R s a) {n i : Nat} (hn : n < 80) (hi : i < (a_rw a n).length) : s.2 14 (80 * n + i) = nI ((a_rw a n).getD i 0) ∧ (a_rw a n).getD i 0 < 80 := (x.2.2.2.2.2.2.1 n hn).2.2 i hi
theorem a_ofI {x : Int} (h : a_sm x) : (Int32.ofInt x).toInt = x := by
  rw [Int32.toInt_ofInt]
  have hz : Int32.size = 4294967296 := rfl
  rw [hz]
  exact Int.bmod_eq_of_le (by omega) (by omega)
theorem a_ofI_eq {x y : Int} (hx : a_sm x) (hy : a_sm y) : Int32.ofInt x = Int32.ofInt y ↔ x = y := by
  constructor
  · intro e
    have := congrArg Int32.toInt e
    rwa [a_ofI hx, a_ofI hy] at this
  · intro e; rw [e]
/-- a number of a node is set (no state, no span) -/
theorem ra_R.sn {s : moS} {a : aS} (x : ra_R s a) {f n : Nat} {v : Int} (hf : f < 12) (h3 : f ≠ 3) (h7 : f ≠ 7) (hn : n < 80) (hv : a_sm v) : ra_R (mo_up s (f + 2) n (Int32.ofInt v)) (a_sn a f n v) := by
  obtain ⟨x1, x2, x3, x4, x5, x6, x7, x8, pr, x9⟩ := x
  have ne : ∀ k, k ≠ f + 2 → (mo_up s (f + 2) n (Int32.ofInt v)).2 k = s.2 k := fun k hk => va_up_ne _ _ hk
  have nn : ∀ g, g ≠ f → a_nd (a_sn a f n v) g = a_nd a g := fun g hg => va_up_ne _ _ hg
  refine ⟨x1, x2, x3, x4, x5, fun g q hg hq => ?_, fun q hq => ?_, fun i hi q hq => ?_, pr, fun q hq => ?_⟩
  · show va_up s.2 (f + 2) (va_up (s.2 (f + 2)) n (Int32.ofInt v)) (g + 2) q = Int32.ofInt (va_up (a_nd a) f (va_up (a_nd a f) n v) g q) ∧ a_sm (va_up (a_nd a) f (va_up (a_nd a f) n v) g q)
    by_cases e : g = f
    · subst e
      rw [va_up_self, va_up_self]
      by_cases e2 : q = n
      · subst e2
        rw [va_up_self, va_up_self]
        exact ⟨rfl, hv⟩
      · rw [va_up_ne _ _ e2, va_up_ne _ _ e2]
        exact x6 g q hg hq
    · rw [va_up_ne _ _ e, va_up_ne _ _ (show g + 2 ≠ f + 2 by omega)]
      exact x6 g q hg hq
  · rw [ne 15 (by omega), ne 14 (by omega)]
    exact x7 q hq
  · rw [ne 20 (by omega)]
    exact x8 i hi q hq
  · rw [ne 17 (by omega), ne 16 (by omega), nn 3 (Ne.symm h3), nn 7 (Ne.symm h7)]
    exact x9 q hq
/-- the state of a node is set -/
theorem ra_R.s3 {s : moS} {a : aS} (x : ra_R s a) {n : Nat} {v : Int} (hn : n < 80) (hv : a_sm v) (ht : v = 1 → a_rt a n = []) : ra_R (mo_up s 5 n (Int32.ofInt v)) (a_sn a 3 n v) := by
  obtain ⟨x1, x2, x3, x4, x5, x6, x7, x8, pr, x9⟩ := x
  have ne : ∀ k, k ≠ 5 → (mo_up s 5 n (Int32.ofInt v)).2 k = s.2 k := fun k hk => va_up_ne _ _ hk
  have nn : ∀ g, g ≠ 3 → a_nd (a_sn a 3 n v) g = a_nd a g := fun g hg => va_up_ne _ _ hg
  refine ⟨x1, x2, x3, x4, x5, fun g q hg hq => ?_, fun q hq => ?_, fun i hi q hq => ?_, pr, fun q hq => ?_⟩
  · show va_up s.2 5 (va_up (s.2 5) n (Int32.ofInt v)) (g + 2) q = Int32.ofInt (va_up (a_nd a) 3 (va_up (a_nd a 3) n v) g q) ∧ a_sm (va_up (a_nd a) 3 (va_up (a_nd a 3) n v) g q)
    by_cases e : g = 3
    · subst e
      rw [va_up_self, va_up_self]
      by_cases e2 : q = n
      · subst e2
        rw [va_up_self, va_up_self]
        exact ⟨rfl, hv⟩
      · rw [va_up_ne _ _ e2, va_up_ne _ _ e2]
        exact x6 3 q hg hq
    · rw [va_up_ne _ _ e, va_up_ne _ _ (show g + 2 ≠ 5 by omega)]
      exact x6 g q hg hq
  · rw [ne 15 (by omega), ne 14 (by omega)]
    exact x7 q hq
  · rw [ne 20 (by omega)]
    exact x8 i hi q hq
  · rw [ne 17 (by omega), ne 16 (by omega), nn 7 (by omega)]
    obtain ⟨y1, y2, y3, dr, y4, y5, y6⟩ := x9 q hq
    refine ⟨y1, y2, y3, dr, y4, ?_, y6⟩
    show va_up (a_nd a) 3 (va_up (a_nd a 3) n v) 3 q = 1 → _
    rw [va_up_self]
    by_cases e2 : q = n
    · subst e2
      rw [va_up_self]
      intro ev z hz
      have h0 := ht ev
      have : z ∈ a_rt a q := by rw [y4]; exact List.mem_append_left _ hz
      rw [h0] at this
      cases this
    · rw [va_up_ne _ _ e2]
      exact y5
/-- TIME goes on -/
theorem ra_R.st {s : moS} {a : aS} (x : ra_R s a) {t : Nat} (ht : a_tm a ≤ t) : ra_R (mo_pt s 18 (nI t)) (a_st a t) := by
  obtain ⟨x1, x2, x3, x4, x5, x6, x7, x8, pr, x9⟩ := x
  refine ⟨x1, (show va_up s.1 18 (nI t) 18 = nI t from va_up_self _ _ _), x3, x4, x5, x6, x7, x8, pr, fun q hq => ?_⟩
  obtain ⟨y1, y2, y3, dr, y4, y5, y6⟩ := x9 q hq
  refine ⟨y1, y2, y3, dr, y4, fun h z hz => ?_, fun z hz => Nat.le_trans (y6 z hz) ht⟩
  have := y5 h z hz
  show (z : Int) < (t : Int) - a_nd a 7 q
  omega
/-- an event is told -/
theorem ra_R.no {s : moS} {a : aS} (x : ra_R s a) {w n r : Nat} (hl : (a_ev a).length < 2 ^ 30) : ra_R (mo_note s (nI w) (nI n) (nI r)) (a_no a w n r) := by
  obtain ⟨x1, x2, x3, x4, x5, x6, x7, x8, pr, x9⟩ := x
  have e600 : (600 : Int32) = nI 600 := rfl
  have el : (a_ev (a_no a w n r)).length = (a_ev a).length + 1 := by
    show (a_ev a ++ [_]).length = _
    rw [List.length_append]
    rfl
  unfold mo_note
  rw [x3, e600]
  by_cases c : 600 ≤ (a_ev a).length
  · rw [if_pos (nI_le c (by omega))]
    refine ⟨x1, x2, ?_, x4, x5, x6, x7, fun i hi q hq => x8 i hi q ?_, pr, x9⟩
    · show va_up s.1 19 (nI (a_ev a).length + 1) 19 = _
      rw [va_up_self, el, nI_1]
    · have hq' : (a_ev a ++ [(w, n, a_tm a, r)])[i]? = some q := hq
      rwa [List.getElem?_append_left (by omega)] at hq'
  · rw [if_neg (nI_ge (by omega) (by omega))]
    generalize hL : (a_ev a).length = L at *
    have e4 : (4 : Int32) = nI 4 := rfl
    have c0 : (4 * nI L).toNatClampNeg = 4 * L := by rw [e4, pk_mul, nI_clamp (by omega)]
    have c1 : (4 * nI L + 1).toNatClampNeg = 4 * L + 1 := by rw [e4, pk_mul, nI_1, nI_clamp (by omega)]
    have c2 : (4 * nI L + 2).toNatClampNeg = 4 * L + 2 := by rw [e4, pk_mul, show (2 : Int32) = nI 2 from rfl, nI_add, nI_clamp (by omega)]
    have c3 : (4 * nI L + 3).toNatClampNeg = 4 * L + 3 := by rw [e4, pk_mul, show (3 : Int32) = nI 3 from rfl, nI_add, nI_clamp (by omega)]
    rw [c0, c1, c2, c3]
    have ne : ∀ k, k ≠ 20 → (mo_pt (mo_up (mo_up (mo_up (mo_up s 20 (4 * L) (nI w)) 20 (4 * L + 1) (nI n)) 20 (4 * L + 2) (s.1 18)) 20 (4 * L + 3) (nI r)) 19 (nI L + 1)).2 k = s.2 k := fun k hk => by
      show va_up (va_up (va_up (va_up s.2 20 _) 20 _) 20 _) 20 _ k = _
      rw [va_up_ne _ _ hk, va_up_ne _ _ hk, va_up_ne _ _ hk, va_up_ne _ _ hk]
    have at20 : ∀ i, (mo_pt (mo_up (mo_up (mo_up (mo_up s 20 (4 * L) (nI w)) 20 (4 * L + 1) (nI n)) 20 (4 * L + 2) (s.1 18)) 20 (4 * L + 3) (nI r)) 19 (nI L + 1)).2 20 i = if i = 4 * L + 3 then nI r else if i = 4 * L + 2 then s.1 18 else if i = 4 * L + 1 then nI n else if i = 4 * L then nI w else s.2 20 i := fun i => by
      simp only [mo_pt, mo_up, va_up]
      rfl
    refine ⟨x1, x2, ?_, x4, x5, fun f q hf hq => ?_, fun q hq => ?_, fun i hi q hq => ?_, pr, fun q hq => ?_⟩
    · show va_up s.1 19 (nI L + 1) 19 = _
      rw [va_up_self, el, nI_1]
    · rw [ne _ (by omega)]
      exact x6 f q hf hq
    · rw [ne _ (by omega), ne _ (by omega)]
      exact x7 q hq
    · have hq' : (a_ev a ++ [(w, n, a_tm a, r)])[i]? = some q := hq
      rw [at20, at20, at20, at20]
      by_cases ci : i < L
      · rw [List.getElem?_append_left (by omega)] at hq'
        have z := x8 i hi q hq'
        refine ⟨?_, ?_, ?_, ?_⟩
        · rw [if_neg (by omega), if_neg (by omega), if_neg (by omega), if_neg (by omega)]; exact z.1
        · rw [if_neg (by omega), if_neg (by omega), if_neg (by omega), if_neg (by omega)]; exact z.2.1
        · rw [if_neg (by omega), if_neg (by omega), if_neg (by omega), if_neg (by omega)]; exact z.2.2.1
        · rw [if_neg (by omega), if_neg (by omega), if_neg (by omega), if_neg (by omega)]; exact z.2.2.2
      · have hle : i < (a_ev a ++ [(w, n, a_tm a, r)]).length := (List.getElem?_eq_some_iff.mp hq').1
        rw [List.length_append, hL] at hle
        have ei : i = L := by simp at hle; omega
        subst ei
        rw [List.getElem?_append_right (by omega), hL, Nat.sub_self] at hq'
        cases hq'
        refine ⟨?_, ?_, ?_, ?_⟩
        · rw [if_neg (by omega), if_neg (by omega), if_neg (by omega), if_pos rfl]
        · rw [if_neg (by omega), if_neg (by omega), if_pos rfl]
        · rw [if_neg (by omega), if_pos rfl]; exact x2
        · rw [if_pos rfl]
    · rw [ne _ (by omega), ne _ (by omega)]
      exact x9 q hq
/-- way and at are the loops' own -/
theorem ra_R.own {s : moS} {a : aS} (x : ra_R s a) {k i : Nat} {v : Int32} (hk : k = 23 ∨ k = 24) : ra_R (mo_up s k i v) a := by
  obtain ⟨x1, x2, x3, x4, x5, x6, x7, x8, pr, x9⟩ := x
  have ne : ∀ j, j < 21 → (mo_up s k i v).2 j = s.2 j := fun j hj => va_up_ne _ _ (by omega)
  refine ⟨x1, x2, x3, x4, x5, fun f q hf hq => ?_, fun q hq => ?_, fun j hj q hq => ?_, pr, fun q hq => ?_⟩
  · rw [ne _ (by omega)]; exact x6 f q hf hq
  · rw [ne _ (by omega), ne _ (by omega)]; exact x7 q hq
  · rw [ne _ (by omega)]; exact x8 j hj q hq
  · rw [ne _ (by omega), ne _ (by omega)]; exact x9 q hq
theorem ra_R.cod {s : moS} {a : aS} (x : ra_R s a) {v : Int32} : ra_R (mo_pt s 0 v) a := x
end
section
/-! ===== the reference's loops, in general ===== -/
/-- place i of keeper p's row -/
theorem mo_row_in {p i : Nat} (hp : p < 80) (hi : i < 80) : vp_in (80 * nI p + nI i) 6400 ∧ (80 * nI p + nI i).toNatClampNeg = 80 * p + i := by
  have e1 := nI_toInt (n := p) (by omega)
  have e2 := nI_toInt (n := i) (by omega)
  have e8 : (80 : Int32).toInt = 80 := by decide
  have m1 : (80 * nI p).toInt = 80 * (p : Int) := by
    rw [Int32.toInt_mul, e8, e1]
    exact Int.bmod_eq_of_le (by omega) (by omega)
  have m2 : (80 * nI p + nI i).toInt = 80 * (p : Int) + i := by
    rw [Int32.toInt_add, m1, e2]
    exact Int.bmod_eq_of_le (by omega) (by omega)
  refine ⟨vp_in_iff.mpr (by omega), ?_⟩
  have f : ∀ x : Int32, x.toNatClampNeg = x.toInt.toNat := fun _ => rfl
  rw [f, m2]
  omega
theorem mo_succ {i : Nat} (hi : i < 1000000) : nI i + Int32.ofInt 1 = nI (i + 1) := by
  have e1 := nI_toInt (n := i) (by omega)
  have e2 := nI_toInt (n := i + 1) (by omega)
  refine Int32.toInt_inj.mp ?_
  rw [kt_inc (by omega), e1, e2]
  rfl
set_option maxHeartbeats 4000000 in
theorem mo_placeL {M : hpM} {G : hpG} {d : Nat} {h0 h : hpT} {m : Nat} {s : moS} (sh : mo_sh G h m) (C : hp_F M G yX6_place cX6_place 4 d h0) (hr : (hp_mt M).sig.returnType = some .int) {n : Int32} {p t : Nat} (hp : p < 80) (ht : t < 80) (hat : s.2 14 (80 * p + t) = n) (hno : ∀ j, j < t → ¬ s.2 14 (80 * p + j) = n) {X : String → hpT → Prop} : ∀ (k : Nat) (lo : Nat → Option Value) (i : Nat), i + k = t → lo 0 = some (.ref m) → lo 1 = some (.int n) → lo 2 = some (.int (nI p)) → lo 3 = some (.int (nI i)) → hp_V M G 4 (hp_Q M G h0 (fun v h' => v = some (.int (nI t)) ∧ h' = mo_w h m s) X) (mo_w h m s) 9 lo [] := by
  intro k
  induction k with
  | zero =>
    intro lo i hi e0 e1 e2 e3
    obtain ⟨r1, r2⟩ := mo_row_in hp (show i < 80 by omega)
    have hit : i = t := by omega
    subst hit
    refine hp_aload_nR C dX6_place_9 e0 ?_
    refine mo_getA C sh fl_X6_47_6 rfl (by decide) dX6_place_10 ?_
    refine hp_bipush (v := 80) C dX6_place_13 (by decide) ?_
    refine hp_iload_n C dX6_place_15 e2 ?_
    refine hp_imul C dX6_place_16 ?_
    refine hp_iload_n C dX6_place_17 e3 ?_
    refine hp_iadd C dX6_place_18 ?_
    refine mo_ald C sh (f := s.2 14) rfl (by decide) rfl dX6_place_19 (by exact r1) ?_
    refine hp_iload_n C dX6_place_20 e1 ?_
    refine hp_icmp_eq (tgt := 30) C dX6_place_21 (by decide) (fun c_21 => ?_) (fun c_21 => ?_)
    · refine hp_iload_n C dX6_place_30 e3 ?_
      refine hp_iret C hr rfl dX6_place_31 ?_
      exact ⟨rfl, rfl⟩
    · exact absurd (by rw [r2]; exact hat) c_21
  | succ k ih =>
    intro lo i hi e0 e1 e2 e3
    obtain ⟨r1, r2⟩ := mo_row_in hp (show i < 80 by omega)
    refine hp_aload_nR C dX6_place_9 e0 ?_
    refine mo_getA C sh fl_X6_47_6 rfl (by decide) dX6_place_10 ?_
    refine hp_bipush (v := 80) C dX6_place_13 (by decide) ?_
    refine hp_iload_n C dX6_place_15 e2 ?_
    refine hp_imul C dX6_place_16 ?_
    refine hp_iload_n C dX6_place_17 e3 ?_
    refine hp_iadd C dX6_place_18 ?_
    refine mo_ald C sh (f := s.2 14) rfl (by decide) rfl dX6_place_19 (by exact r1) ?_
    refine hp_iload_n C dX6_place_20 e1 ?_
    refine hp_icmp_eq (tgt := 30) C dX6_place_21 (by decide) (fun c_21 => ?_) (fun c_21 => ?_)
    · exact absurd c_21 (by rw [r2]; exact hno i (by omega))
    · refine hp_iinc C dX6_place_24 e3 (by decide) rfl ?_
      refine hp_goto (tgt := 9) C dX6_place_27 (by decide) ?_
      exact ih _ (i + 1) (by omega) e0 e1 e2 ((va_up_self _ _ _).trans (by rw [mo_succ (by omega)]))
set_option maxRecDepth 20000 in
set_option maxHeartbeats 4000000 in
theorem mo_place {l : Launch} {G : hpG} {h : hpT} {m d : Nat} {s : moS} (sh : mo_sh G h m) {n : Int32} {p t : Nat} (hn : vp_in n 80) (hpa : s.2 3 n.toNatClampNeg = nI p) (hp : p < 80) (ht : t < 80) (hat : s.2 14 (80 * p + t) = n) (hno : ∀ j, j < t → ¬ s.2 14 (80 * p + j) = n) : hp_C l G yX6_place (.code yX6_place cX6_place 4 (some .int)) d [.ref m, .int n] (mo_w h m s) (fun v h' => v = some (.int (nI t)) ∧ h' = mo_w h m s) (fun _ _ => False) := by
  refine hp_ofV (by decide) (by simp [Value.category]) (Nat.le_of_ble_eq_true rfl) (fun M C hr hx el => ?_)
  refine hp_aload_nR C dX6_place_0 rfl ?_
  refine mo_getA C sh fl_X6_13_6 rfl (by decide) dX6_place_1 ?_
  refine hp_iload_n C dX6_place_4 rfl ?_
  refine mo_ald C sh (f := s.2 3) rfl (by decide) rfl dX6_place_5 (by exact hn) ?_
  rw [hpa]
  refine hp_istore_n C dX6_place_6 (by decide) ?_
  refine hp_iconst (v := 0) C dX6_place_7 (by decide) ?_
  refine hp_istore_n C dX6_place_8 (by decide) ?_
  exact mo_placeL sh C hr hp ht hat hno t _ 0 (by omega) rfl rfl rfl rfl
end
section
/-! ===== counts: the restarts' times that are left ===== -/
/-- those of g's first i that are not under b -/
def mo_flt (g : Nat → Int32) (b : Int32) : Nat → List Int32
  | 0 => []
  | i + 1 => mo_flt g b i ++ (if g i < b then [] else [g i])
theorem mo_flt_len (g : Nat → Int32) (b : Int32) : ∀ i, (mo_flt g b i).length ≤ i
  | 0 => Nat.le_refl _
  | i + 1 => by
    have := mo_flt_len g b i
    unfold mo_flt
    rw [List.length_append]
    split
    · simp; omega
    · simp; omega
/-- keeper p's block of times holds f -/
def mo_blk (s : moS) (p : Nat) (f : Nat → Int32) : moS := (s.1, va_up s.2 16 (fun q => if 52 * p ≤ q ∧ q < 52 * p + 52 then f (q - 52 * p) else s.2 16 q))
theorem mo_blk_16 {s : moS} {p q : Nat} {f : Nat → Int32} : (mo_blk s p f).2 16 q = if 52 * p ≤ q ∧ q < 52 * p + 52 then f (q - 52 * p) else s.2 16 q := by
  show (va_up s.2 16 (fun q => if 52 * p ≤ q ∧ q < 52 * p + 52 then f (q - 52 * p) else s.2 16 q)) 16 q = _
  rw [va_up_self]
theorem mo_blk_at {s : moS} {p j : Nat} {f : Nat → Int32} (hj : j < 52) : (mo_blk s p f).2 16 (52 * p + j) = f j := by
  rw [mo_blk_16, if_pos ⟨by omega, by omega⟩, Nat.add_sub_cancel_left]
theorem mo_blk_ne {s : moS} {p k : Nat} {f : Nat → Int32} (hk : k ≠ 16) : (mo_blk s p f).2 k = s.2 k := va_up_ne _ _ hk
theorem mo_blk_up {s : moS} {p j : Nat} {f : Nat → Int32} {v : Int32} (hj : j < 52) : mo_up (mo_blk s p f) 16 (52 * p + j) v = mo_blk s p (va_up f j v) := by
  refine Prod.ext rfl (funext fun k => ?_)
  by_cases hk : k = 16
  · subst hk
    funext q
    rw [mo_blk_16]
    show va_up (mo_blk s p f).2 16 (va_up ((mo_blk s p f).2 16) (52 * p + j) v) 16 q = _
    rw [va_up_self]
    by_cases e : q = 52 * p + j
    · rw [e, va_up_self, if_pos ⟨by omega, by omega⟩, Nat.add_sub_cancel_left, va_up_self]
    · rw [va_up_ne _ _ e, mo_blk_16]
      by_cases c : 52 * p ≤ q ∧ q < 52 * p + 52
      · rw [if_pos c, if_pos c, va_up_ne _ _ (by omega)]
      · rw [if_neg c, if_neg c]
  · rw [mo_blk_ne hk]
    show va_up (mo_blk s p f).2 16 _ k = _
    rw [va_up_ne _ _ hk, mo_blk_ne hk]
theorem mo_blk_self (s : moS) (p : Nat) : mo_blk s p (fun j => s.2 16 (52 * p + j)) = s := by
  refine Prod.ext rfl (funext fun k => ?_)
  by_cases hk : k = 16
  · subst hk
    funext q
    rw [mo_blk_16]
    by_cases c : 52 * p ≤ q ∧ q < 52 * p + 52
    · rw [if_pos c, show 52 * p + (q - 52 * p) = q by omega]
    · rw [if_neg c]
  · exact mo_blk_ne hk
theorem mo_tim_in {p i : Nat} (hp : p < 80) (hi : i < 52) : vp_in (52 * nI p + nI i) 4160 ∧ (52 * nI p + nI i).toNatClampNeg = 52 * p + i := by
  have e1 := nI_toInt (n := p) (by omega)
  have e2 := nI_toInt (n := i) (by omega)
  have e8 : (52 : Int32).toInt = 52 := by decide
  have m1 : (52 * nI p).toInt = 52 * (p : Int) := by
    rw [Int32.toInt_mul, e8, e1]
    exact Int.bmod_eq_of_le (by omega) (by omega)
  have m2 : (52 * nI p + nI i).toInt = 52 * (p : Int) + i := by
    rw [Int32.toInt_add, m1, e2]
    exact Int.bmod_eq_of_le (by omega) (by omega)
  refine ⟨vp_in_iff.mpr (by omega), ?_⟩
  have f : ∀ x : Int32, x.toNatClampNeg = x.toInt.toNat := fun _ => rfl
  rw [f, m2]
  omega
theorem nI_80 {p : Nat} (hp : p < 80) : vp_in (nI p) 80 ∧ (nI p).toNatClampNeg = p := by
  have e1 := nI_toInt (n := p) (by omega)
  refine ⟨vp_in_iff.mpr (by omega), ?_⟩
  have f : ∀ x : Int32, x.toNatClampNeg = x.toInt.toNat := fun _ => rfl
  rw [f, e1]
  rfl
set_option maxRecDepth 20000 in
set_option maxHeartbeats 4000000 in
theorem mo_cntL {M : hpM} {G : hpG} {d : Nat} {h0 h : hpT} {m : Nat} {s : moS} {Q : State → Prop} (sh : mo_sh G h m) (C : hp_F M G yX6_counts cX6_counts 5 d h0) {p c : Nat} (hp : p < 80) (hc : c ≤ 51) (hcn : s.2 17 p = nI c) {g : Nat → Int32} {b : Int32} (hb : s.1 18 - s.2 9 p = b)
    (kk : ∀ (lo : Nat → Option Value) (f : Nat → Int32), lo 0 = some (.ref m) → lo 1 = some (.int (nI p)) → lo 2 = some (.int (52 * nI p)) → lo 3 = some (.int (nI (mo_flt g b c).length)) → (∀ j v, (mo_flt g b c)[j]? = some v → f j = v) → hp_V M G 5 Q (mo_w h m (mo_blk s p f)) 70 lo []) :
    ∀ (r : Nat) (lo : Nat → Option Value) (i : Nat) (f : Nat → Int32), i + r = c → (∀ j v, (mo_flt g b i)[j]? = some v → f j = v) → (∀ j, i ≤ j → f j = g j) → lo 0 = some (.ref m) → lo 1 = some (.int (nI p)) → lo 2 = some (.int (52 * nI p)) → lo 3 = some (.int (nI (mo_flt g b i).length)) → lo 4 = some (.int (nI i)) → hp_V M G 5 Q (mo_w h m (mo_blk s p f)) 10 lo [] := by
  obtain ⟨p1, p2⟩ := nI_80 hp
  intro r
  induction r with
  | zero =>
    intro lo i f hi q1 q2 e0 e1 e2 e3 e4
    have hic : i = c := by omega
    subst hic
    refine hp_iload C dX6_counts_10 e4 ?_
    refine hp_aload_nR C dX6_counts_12 e0 ?_
    refine mo_getA C sh fl_X6_56_6 rfl (by decide) dX6_counts_13 ?_
    refine hp_iload_n C dX6_counts_16 e1 ?_
    refine mo_aldv (v := nI i) C sh rfl (by decide) (by rw [p2, mo_blk_ne (by decide)]; exact hcn) dX6_counts_17 (by exact p1) ?_
    refine hp_icmp_ge (tgt := 70) C dX6_counts_18 (by decide) (fun _ => ?_) (fun z_9 => absurd (Int32.le_refl _) z_9)
    exact kk lo f e0 e1 e2 e3 q1
  | succ r ih =>
    intro lo i f hi q1 q2 e0 e1 e2 e3 e4
    have hlt : ¬ nI c ≤ nI i := by
      rw [Int32.le_iff_toInt_le, nI_toInt (n := c) (by omega), nI_toInt (n := i) (by omega)]
      omega
    have hlen := mo_flt_len g b i
    obtain ⟨t1, t2⟩ := mo_tim_in hp (show i < 52 by omega)
    obtain ⟨u1, u2⟩ := mo_tim_in hp (show (mo_flt g b i).length < 52 by omega)
    have hval : (mo_blk s p f).2 16 (52 * nI p + nI i).toNatClampNeg = g i := by rw [t2, mo_blk_at (by omega)]; exact q2 i (Nat.le_refl _)
    refine hp_iload C dX6_counts_10 e4 ?_
    refine hp_aload_nR C dX6_counts_12 e0 ?_
    refine mo_getA C sh fl_X6_56_6 rfl (by decide) dX6_counts_13 ?_
    refine hp_iload_n C dX6_counts_16 e1 ?_
    refine mo_aldv (v := nI c) C sh rfl (by decide) (by rw [p2, mo_blk_ne (by decide)]; exact hcn) dX6_counts_17 (by exact p1) ?_
    refine hp_icmp_ge (tgt := 70) C dX6_counts_18 (by decide) (fun z_9 => absurd z_9 hlt) (fun _ => ?_)
    refine hp_aload_nR C dX6_counts_21 e0 ?_
    refine mo_getA C sh fl_X6_53_6 rfl (by decide) dX6_counts_22 ?_
    refine hp_iload_n C dX6_counts_25 e2 ?_
    refine hp_iload C dX6_counts_26 e4 ?_
    refine hp_iadd C dX6_counts_28 ?_
    refine mo_aldv (v := g i) C sh rfl (by decide) hval dX6_counts_29 (by exact t1) ?_
    refine hp_aload_nR C dX6_counts_30 e0 ?_
    refine mo_getS C sh fl_X6_82_6 rfl (by decide) (v := s.1 18) rfl dX6_counts_31 ?_
    refine hp_aload_nR C dX6_counts_34 e0 ?_
    refine mo_getA C sh fl_X6_32_6 rfl (by decide) dX6_counts_35 ?_
    refine hp_iload_n C dX6_counts_38 e1 ?_
    refine mo_aldv (v := s.2 9 p) C sh rfl (by decide) (by rw [p2, mo_blk_ne (by decide)]) dX6_counts_39 (by exact p1) ?_
    refine hp_isub C dX6_counts_40 ?_
    rw [hb]
    refine hp_icmp_lt (tgt := 64) C dX6_counts_41 (by decide) (fun c_41 => ?_) (fun c_41 => ?_)
    · have hf : mo_flt g b (i + 1) = mo_flt g b i := by
        show mo_flt g b i ++ (if g i < b then [] else [g i]) = _
        rw [if_pos c_41, List.append_nil]
      refine hp_iinc C dX6_counts_64 e4 (by decide) rfl ?_
      refine hp_goto (tgt := 10) C dX6_counts_67 (by decide) ?_
      exact ih _ (i + 1) f (by omega) (by rw [hf]; exact q1) (fun j hj => q2 j (by omega)) e0 e1 e2 (by rw [hf]; exact e3) ((va_up_self _ _ _).trans (by rw [mo_succ (by omega)]))
    · have hf : mo_flt g b (i + 1) = mo_flt g b i ++ [g i] := by
        show mo_flt g b i ++ (if g i < b then [] else [g i]) = _
        rw [if_neg c_41]
      refine hp_aload_nR C dX6_counts_44 e0 ?_
      refine mo_getA C sh fl_X6_53_6 rfl (by decide) dX6_counts_45 ?_
      refine hp_iload_n C dX6_counts_48 e2 ?_
      refine hp_iload_n C dX6_counts_49 e3 ?_
      refine hp_iadd C dX6_counts_50 ?_
      refine hp_aload_nR C dX6_counts_51 e0 ?_
      refine mo_getA C sh fl_X6_53_6 rfl (by decide) dX6_counts_52 ?_
      refine hp_iload_n C dX6_counts_55 e2 ?_
      refine hp_iload C dX6_counts_56 e4 ?_
      refine hp_iadd C dX6_counts_58 ?_
      refine mo_aldv (v := g i) C sh rfl (by decide) hval dX6_counts_59 (by exact t1) ?_
      refine mo_ast C sh rfl (by decide) dX6_counts_60 (by exact u1) ?_
      rw [u2, mo_blk_up (by omega)]
      refine hp_iinc C dX6_counts_61 e3 (by decide) rfl ?_
      refine hp_iinc C dX6_counts_64 e4 (by decide) rfl ?_
      refine hp_goto (tgt := 10) C dX6_counts_67 (by decide) ?_
      have hl2 : (mo_flt g b (i + 1)).length = (mo_flt g b i).length + 1 := by rw [hf, List.length_append]; rfl
      refine ih _ (i + 1) _ (by omega) (fun j v hj => ?_) (fun j hj => ?_) e0 e1 e2 ?_ ?_
      · rw [hf] at hj
        by_cases c1 : j < (mo_flt g b i).length
        · rw [List.getElem?_append_left c1] at hj
          rw [va_up_ne _ _ (by omega)]
          exact q1 j v hj
        · rw [List.getElem?_append_right (by omega)] at hj
          have hz : j - (mo_flt g b i).length < 1 := (List.getElem?_eq_some_iff.mp hj).1
          have ej : j = (mo_flt g b i).length := by omega
          rw [ej, Nat.sub_self] at hj
          cases hj
          rw [ej, va_up_self]
      · rw [va_up_ne _ _ (by omega)]
        exact q2 j (by omega)
      · rw [hl2, ← mo_succ (by omega)]
        rfl
      · exact (va_up_self _ _ _).trans (by rw [mo_succ (by omega)])
theorem hp_Vc {M : hpM} {G : hpG} {nL : Nat} {Q : State → Prop} {h1 h2 : hpT} {pc : Nat} {lo : Nat → Option Value} {st : List Value} (e : h1 = h2) (x : hp_V M G nL Q h2 pc lo st) : hp_V M G nL Q h1 pc lo st := by
  rw [e]
  exact x
/-- what counts leaves: L times and this one -/
def mo_cnt (s : moS) (p c : Nat) : List Int32 := mo_flt (fun j => s.2 16 (52 * p + j)) (s.1 18 - s.2 9 p) c ++ [s.1 18]
set_option maxRecDepth 20000 in
set_option maxHeartbeats 4000000 in
theorem mo_counts {l : Launch} {G : hpG} {h : hpT} {m d : Nat} {s : moS} (sh : mo_sh G h m) {p c : Nat} (hp : p < 80) (hc : c ≤ 51) (hcn : s.2 17 p = nI c) : hp_C l G yX6_counts (.code yX6_counts cX6_counts 5 (some .boolean)) d [.ref m, .int (nI p)] (mo_w h m s)
    (fun v h' => ∃ f : Nat → Int32, v = some (.int (if nI (mo_cnt s p c).length ≤ s.2 8 p then 0 else 1)) ∧ h' = mo_w h m (mo_pt (mo_up (mo_blk s p f) 17 p (nI (mo_cnt s p c).length)) 21 (s.1 21 + 1)) ∧ ∀ j v, (mo_cnt s p c)[j]? = some v → f j = v) (fun _ _ => False) := by
  refine hp_ofV (by decide) (by simp [Value.category]) (Nat.le_of_ble_eq_true rfl) (fun M C hr hx el => ?_)
  obtain ⟨p1, p2⟩ := nI_80 hp
  have hlen := mo_flt_len (fun j => s.2 16 (52 * p + j)) (s.1 18 - s.2 9 p) c
  have hl2 : (mo_cnt s p c).length = (mo_flt (fun j => s.2 16 (52 * p + j)) (s.1 18 - s.2 9 p) c).length + 1 := by unfold mo_cnt; rw [List.length_append]; rfl
  obtain ⟨u1, u2⟩ := mo_tim_in hp (show (mo_flt (fun j => s.2 16 (52 * p + j)) (s.1 18 - s.2 9 p) c).length < 52 by omega)
  refine hp_bipush (v := 52) C dX6_counts_0 (by decide) ?_
  refine hp_iload_n C dX6_counts_2 rfl ?_
  refine hp_imul C dX6_counts_3 ?_
  refine hp_istore_n C dX6_counts_4 (by decide) ?_
  refine hp_iconst (v := 0) C dX6_counts_5 (by decide) ?_
  refine hp_istore_n C dX6_counts_6 (by decide) ?_
  refine hp_iconst (v := 0) C dX6_counts_7 (by decide) ?_
  refine hp_istore C dX6_counts_8 (by decide) ?_
  refine hp_Vc (h2 := mo_w h m (mo_blk s p (fun j => s.2 16 (52 * p + j)))) (by rw [mo_blk_self]) ?_
  refine mo_cntL sh C hp hc hcn (g := fun j => s.2 16 (52 * p + j)) rfl (fun lo f e0 e1 e2 e3 q1 => ?_) c _ 0 _ (by omega) (fun j v hj => by cases hj) (fun j _ => rfl) rfl rfl rfl rfl rfl
  refine hp_aload_nR C dX6_counts_70 e0 ?_
  refine mo_getA C sh fl_X6_53_6 rfl (by decide) dX6_counts_71 ?_
  refine hp_iload_n C dX6_counts_74 e2 ?_
  refine hp_iload_n C dX6_counts_75 e3 ?_
  refine hp_iadd C dX6_counts_76 ?_
  refine hp_aload_nR C dX6_counts_77 e0 ?_
  refine mo_getS C sh fl_X6_82_6 rfl (by decide) (v := s.1 18) rfl dX6_counts_78 ?_
  refine mo_ast C sh rfl (by decide) dX6_counts_81 (by exact u1) ?_
  rw [u2, mo_blk_up (by omega)]
  refine hp_aload_nR C dX6_counts_82 e0 ?_
  refine mo_getA C sh fl_X6_56_6 rfl (by decide) dX6_counts_83 ?_
  refine hp_iload_n C dX6_counts_86 e1 ?_
  refine hp_iload_n C dX6_counts_87 e3 ?_
  refine hp_iconst (v := 1) C dX6_counts_88 (by decide) ?_
  refine hp_iadd C dX6_counts_89 ?_
  have es : nI (mo_flt (fun j => s.2 16 (52 * p + j)) (s.1 18 - s.2 9 p) c).length + 1 = nI (mo_cnt s p c).length := by rw [hl2, ← mo_succ (by omega)]; rfl
  refine mo_ast C sh rfl (by decide) dX6_counts_90 (by exact p1) ?_
  rw [p2, es]
  refine hp_aload_nR C dX6_counts_91 e0 ?_
  refine hp_dup C dX6_counts_92 rfl ?_
  refine mo_getS C sh fl_X6_100_6 rfl (by decide) (v := s.1 21) rfl dX6_counts_93 ?_
  refine hp_iconst (v := 1) C dX6_counts_96 (by decide) ?_
  refine hp_iadd C dX6_counts_97 ?_
  refine mo_putS C sh fl_X6_100_6 rfl (by decide) rfl rfl rfl dX6_counts_98 ?_
  refine hp_iload_n C dX6_counts_101 e3 ?_
  refine hp_iconst (v := 1) C dX6_counts_102 (by decide) ?_
  refine hp_iadd C dX6_counts_103 ?_
  rw [es]
  refine hp_aload_nR C dX6_counts_104 e0 ?_
  refine mo_getA C sh fl_X6_29_6 rfl (by decide) dX6_counts_105 ?_
  refine hp_iload_n C dX6_counts_108 e1 ?_
  refine mo_aldv (v := s.2 8 p) C sh rfl (by decide) (by rw [p2]; rfl) dX6_counts_109 (by exact p1) ?_
  have hf : ∀ j v, (mo_cnt s p c)[j]? = some v → va_up f (mo_flt (fun j => s.2 16 (52 * p + j)) (s.1 18 - s.2 9 p) c).length (s.1 18) j = v := by
    intro j v hj
    unfold mo_cnt at hj
    by_cases c1 : j < (mo_flt (fun j => s.2 16 (52 * p + j)) (s.1 18 - s.2 9 p) c).length
    · rw [List.getElem?_append_left c1] at hj
      rw [va_up_ne _ _ (by omega)]
      exact q1 j v hj
    · rw [List.getElem?_append_right (by omega)] at hj
      have hz : j - (mo_flt (fun j => s.2 16 (52 * p + j)) (s.1 18 - s.2 9 p) c).length < 1 := (List.getElem?_eq_some_iff.mp hj).1
      have ej : j = (mo_flt (fun j => s.2 16 (52 * p + j)) (s.1 18 - s.2 9 p) c).length := by omega
      rw [ej, Nat.sub_self] at hj
      cases hj
      rw [ej, va_up_self]
  refine hp_icmp_le (tgt := 117) C dX6_counts_110 (by decide) (fun c_110 => ?_) (fun c_110 => ?_)
  · refine hp_iconst (v := 0) C dX6_counts_117 (by decide) ?_
    refine hp_iret C hr (by decide) dX6_counts_118 ?_
    exact ⟨_, by rw [if_pos c_110], rfl, hf⟩
  · refine hp_iconst (v := 1) C dX6_counts_113 (by decide) ?_
    refine hp_goto (tgt := 118) C dX6_counts_114 (by decide) ?_
    refine hp_iret C hr (by decide) dX6_counts_118 ?_
    exact ⟨_, by rw [if_neg c_110], rfl, hf⟩
end
section
/-! ===== goes: a row closes up, all below are gone ===== -/
/-- keeper p's row holds f -/
def mo_rb (s : moS) (p : Nat) (f : Nat → Int32) : moS := (s.1, va_up s.2 14 (fun q => if 80 * p ≤ q ∧ q < 80 * p + 80 then f (q - 80 * p) else s.2 14 q))
theorem mo_rb_14 {s : moS} {p q : Nat} {f : Nat → Int32} : (mo_rb s p f).2 14 q = if 80 * p ≤ q ∧ q < 80 * p + 80 then f (q - 80 * p) else s.2 14 q := by
  show (va_up s.2 14 (fun q => if 80 * p ≤ q ∧ q < 80 * p + 80 then f (q - 80 * p) else s.2 14 q)) 14 q = _
  rw [va_up_self]
theorem mo_rb_at {s : moS} {p j : Nat} {f : Nat → Int32} (hj : j < 80) : (mo_rb s p f).2 14 (80 * p + j) = f j := by
  rw [mo_rb_14, if_pos ⟨by omega, by omega⟩, Nat.add_sub_cancel_left]
theorem mo_rb_ne {s : moS} {p k : Nat} {f : Nat → Int32} (hk : k ≠ 14) : (mo_rb s p f).2 k = s.2 k := va_up_ne _ _ hk
theorem mo_rb_up {s : moS} {p j : Nat} {f : Nat → Int32} {v : Int32} (hj : j < 80) : mo_up (mo_rb s p f) 14 (80 * p + j) v = mo_rb s p (va_up f j v) := by
  refine Prod.ext rfl (funext fun k => ?_)
  by_cases hk : k = 14
  · subst hk
    funext q
    rw [mo_rb_14]
    show va_up (mo_rb s p f).2 14 (va_up ((mo_rb s p f).2 14) (80 * p + j) v) 14 q = _
    rw [va_up_self]
    by_cases e : q = 80 * p + j
    · rw [e, va_up_self, if_pos ⟨by omega, by omega⟩, Nat.add_sub_cancel_left, va_up_self]
    · rw [va_up_ne _ _ e, mo_rb_14]
      by_cases c : 80 * p ≤ q ∧ q < 80 * p + 80
      · rw [if_pos c, if_pos c, va_up_ne _ _ (by omega)]
      · rw [if_neg c, if_neg c]
  · rw [mo_rb_ne hk]
    show va_up (mo_rb s p f).2 14 _ k = _
    rw [va_up_ne _ _ hk, mo_rb_ne hk]
theorem mo_rb_self (s : moS) (p : Nat) : mo_rb s p (fun j => s.2 14 (80 * p + j)) = s := by
  refine Prod.ext rfl (funext fun k => ?_)
  by_cases hk : k = 14
  · subst hk
    funext q
    rw [mo_rb_14]
    by_cases c : 80 * p ≤ q ∧ q < 80 * p + 80
    · rw [if_pos c, show 80 * p + (q - 80 * p) = q by omega]
    · rw [if_neg c]
  · exact mo_rb_ne hk
theorem mo_ltI {a b : Nat} (ha : a < 1000000) (hb : b < 1000000) : nI a < nI b ↔ a < b := by
  rw [Int32.lt_iff_toInt_lt, nI_toInt (n := a) (by omega), nI_toInt (n := b) (by omega)]
  omega
theorem mo_leI {a b : Nat} (ha : a < 1000000) (hb : b < 1000000) : nI a ≤ nI b ↔ a ≤ b := by
  rw [Int32.le_iff_toInt_le, nI_toInt (n := a) (by omega), nI_toInt (n := b) (by omega)]
  omega
/-- the row closes up from place t on, as far as place i -/
def mo_shf (g : Nat → Int32) (t i : Nat) : Nat → Int32 := fun j => if t ≤ j ∧ j < i then g (j + 1) else g j
theorem mo_shf_up {g : Nat → Int32} {t i : Nat} (h : t ≤ i) : va_up (mo_shf g t i) i (g (i + 1)) = mo_shf g t (i + 1) := by
  funext j
  by_cases e : j = i
  · subst e
    rw [va_up_self]
    unfold mo_shf
    rw [if_pos ⟨h, by omega⟩]
  · rw [va_up_ne _ _ e]
    unfold mo_shf
    by_cases c : t ≤ j ∧ j < i
    · rw [if_pos c, if_pos ⟨c.1, by omega⟩]
    · rw [if_neg c, if_neg (by omega)]
set_option maxRecDepth 20000 in
set_option maxHeartbeats 4000000 in
theorem mo_goeL {M : hpM} {G : hpG} {d : Nat} {h0 h : hpT} {m : Nat} {s : moS} {Q : State → Prop} (sh : mo_sh G h m) (C : hp_F M G yX6_goes cX6_goes 5 d h0) {n : Int32} {p c t : Nat} (hp : p < 80) (hc : c ≤ 80) (hcn : s.2 15 p = nI c) {g : Nat → Int32} (ht : t < c)
    (kk : ∀ (lo : Nat → Option Value), lo 0 = some (.ref m) → lo 1 = some (.int n) → lo 2 = some (.int (nI p)) → hp_V M G 5 Q (mo_w h m (mo_rb s p (mo_shf g t (c - 1)))) 55 lo []) :
    ∀ (r : Nat) (lo : Nat → Option Value) (i : Nat), i + 1 + r = c → t ≤ i → lo 0 = some (.ref m) → lo 1 = some (.int n) → lo 2 = some (.int (nI p)) → lo 3 = some (.int (nI i)) → hp_V M G 5 Q (mo_w h m (mo_rb s p (mo_shf g t i))) 13 lo [] := by
  obtain ⟨p1, p2⟩ := nI_80 hp
  intro r
  induction r with
  | zero =>
    intro lo i hi hti e0 e1 e2 e3
    refine hp_iload_n C dX6_goes_13 e3 ?_
    refine hp_iconst (v := 1) C dX6_goes_14 (by decide) ?_
    refine hp_iadd C dX6_goes_15 ?_
    refine hp_aload_nR C dX6_goes_16 e0 ?_
    refine mo_getA C sh fl_X6_50_6 rfl (by decide) dX6_goes_17 ?_
    refine hp_iload_n C dX6_goes_20 e2 ?_
    refine mo_aldv (v := nI c) C sh rfl (by decide) (by rw [p2, mo_rb_ne (by decide)]; exact hcn) dX6_goes_21 (by exact p1) ?_
    have es : nI i + 1 = nI (i + 1) := mo_succ (by omega)
    rw [es]
    refine hp_icmp_ge (tgt := 55) C dX6_goes_22 (by decide) (fun _ => ?_) (fun z_9 => absurd ((mo_leI (by omega) (by omega)).mpr (by omega)) z_9)
    have := kk lo e0 e1 e2
    rw [show c - 1 = i by omega] at this
    exact this
  | succ r ih =>
    intro lo i hi hti e0 e1 e2 e3
    obtain ⟨t1, t2⟩ := mo_row_in hp (show i < 80 by omega)
    obtain ⟨u1, u2⟩ := mo_row_in hp (show i + 1 < 80 by omega)
    have es : nI i + 1 = nI (i + 1) := mo_succ (by omega)
    refine hp_iload_n C dX6_goes_13 e3 ?_
    refine hp_iconst (v := 1) C dX6_goes_14 (by decide) ?_
    refine hp_iadd C dX6_goes_15 ?_
    refine hp_aload_nR C dX6_goes_16 e0 ?_
    refine mo_getA C sh fl_X6_50_6 rfl (by decide) dX6_goes_17 ?_
    refine hp_iload_n C dX6_goes_20 e2 ?_
    refine mo_aldv (v := nI c) C sh rfl (by decide) (by rw [p2, mo_rb_ne (by decide)]; exact hcn) dX6_goes_21 (by exact p1) ?_
    rw [es]
    refine hp_icmp_ge (tgt := 55) C dX6_goes_22 (by decide) (fun z_9 => absurd ((mo_leI (by omega) (by omega)).mp z_9) (by omega)) (fun _ => ?_)
    refine hp_aload_nR C dX6_goes_25 e0 ?_
    refine mo_getA C sh fl_X6_47_6 rfl (by decide) dX6_goes_26 ?_
    refine hp_bipush (v := 80) C dX6_goes_29 (by decide) ?_
    refine hp_iload_n C dX6_goes_31 e2 ?_
    refine hp_imul C dX6_goes_32 ?_
    refine hp_iload_n C dX6_goes_33 e3 ?_
    refine hp_iadd C dX6_goes_34 ?_
    refine hp_aload_nR C dX6_goes_35 e0 ?_
    refine mo_getA C sh fl_X6_47_6 rfl (by decide) dX6_goes_36 ?_
    refine hp_bipush (v := 80) C dX6_goes_39 (by decide) ?_
    refine hp_iload_n C dX6_goes_41 e2 ?_
    refine hp_imul C dX6_goes_42 ?_
    refine hp_iload_n C dX6_goes_43 e3 ?_
    refine hp_iadd C dX6_goes_44 ?_
    refine hp_iconst (v := 1) C dX6_goes_45 (by decide) ?_
    refine hp_iadd C dX6_goes_46 ?_
    rw [show 80 * nI p + nI i + 1 = 80 * nI p + nI (i + 1) by rw [← es, Int32.add_assoc]]
    refine mo_aldv (v := g (i + 1)) C sh rfl (by decide) (by rw [u2, mo_rb_at (by omega)]; unfold mo_shf; rw [if_neg (by omega)]) dX6_goes_47 (by exact u1) ?_
    refine mo_ast C sh rfl (by decide) dX6_goes_48 (by exact t1) ?_
    rw [t2, mo_rb_up (by omega), mo_shf_up hti]
    refine hp_iinc C dX6_goes_49 e3 (by decide) rfl ?_
    refine hp_goto (tgt := 13) C dX6_goes_52 (by decide) ?_
    exact ih _ (i + 1) (by omega) (by omega) e0 e1 e2 ((va_up_self _ _ _).trans (by rw [mo_succ (by omega)]))
/-- the nodes' states, and how many are gone, behind k steps from q on -/
def mo_gs (st par : Nat → Int32) (q : Nat) : Nat → (Nat → Int32) × Nat
  | 0 => (st, 1)
  | k + 1 => if (mo_gs st par q k).1 (q + k) = 2 then mo_gs st par q k else if (mo_gs st par q k).1 (par (q + k)).toNatClampNeg = 2 then (va_up (mo_gs st par q k).1 (q + k) 2, (mo_gs st par q k).2 + 1) else mo_gs st par q k
theorem mo_gs_le (st par : Nat → Int32) (q : Nat) : ∀ k, (mo_gs st par q k).2 ≤ k + 1
  | 0 => Nat.le_refl _
  | k + 1 => by
    have := mo_gs_le st par q k
    unfold mo_gs
    split
    · omega
    · split
      · show (mo_gs st par q k).2 + 1 ≤ _
        omega
      · omega
/-- the nodes' states are f -/
def mo_sv (s : moS) (f : Nat → Int32) : moS := (s.1, va_up s.2 5 f)
theorem mo_sv_up {s : moS} {f : Nat → Int32} {j : Nat} {v : Int32} : mo_up (mo_sv s f) 5 j v = mo_sv s (va_up f j v) := by
  refine Prod.ext rfl (funext fun k => ?_)
  show va_up (va_up s.2 5 f) 5 (va_up (va_up s.2 5 f 5) j v) k = va_up s.2 5 (va_up f j v) k
  by_cases hk : k = 5
  · subst hk
    rw [va_up_self, va_up_self, va_up_self]
  · rw [va_up_ne _ _ hk, va_up_ne _ _ hk, va_up_ne _ _ hk]
theorem mo_sv_5 {s : moS} {f : Nat → Int32} : (mo_sv s f).2 5 = f := by
  show va_up s.2 5 f 5 = f
  rw [va_up_self]
theorem mo_sv_ne {s : moS} {f : Nat → Int32} {k : Nat} (hk : k ≠ 5) : (mo_sv s f).2 k = s.2 k := va_up_ne _ _ hk
theorem mo_sv_self (s : moS) : mo_sv s (s.2 5) = s := by
  refine Prod.ext rfl (funext fun k => ?_)
  by_cases hk : k = 5
  · subst hk; exact mo_sv_5
  · exact mo_sv_ne hk
set_option maxRecDepth 20000 in
set_option maxHeartbeats 4000000 in
theorem mo_gonL {M : hpM} {G : hpG} {d : Nat} {h0 h : hpT} {m : Nat} {s : moS} {X : String → hpT → Prop} {P : Option Value → hpT → Prop} (sh : mo_sh G h m) (C : hp_F M G yX6_goes cX6_goes 5 d h0) (hr : (hp_mt M).sig.returnType = some .int) {q mk : Nat} (hmk : mk ≤ 80) (hmn : s.1 1 = nI mk) (hq : q ≤ mk) (hpar : ∀ j, q ≤ j → j < mk → vp_in (s.2 3 j) 80) {st : Nat → Int32}
    (hP : P (some (.int (nI (mo_gs st (s.2 3) q (mk - q)).2))) (mo_w h m (mo_sv s (mo_gs st (s.2 3) q (mk - q)).1))) :
    ∀ (r : Nat) (lo : Nat → Option Value) (k : Nat), q + k + r = mk → lo 0 = some (.ref m) → lo 3 = some (.int (nI (mo_gs st (s.2 3) q k).2)) → lo 4 = some (.int (nI (q + k))) → hp_V M G 5 (hp_Q M G h0 P X) (mo_w h m (mo_sv s (mo_gs st (s.2 3) q k).1)) 87 lo [] := by
  intro r
  induction r with
  | zero =>
    intro lo k hk e0 e3 e4
    have hk2 : k = mk - q := by omega
    rw [← hk2] at hP
    refine hp_iload C dX6_goes_87 e4 ?_
    refine hp_aload_nR C dX6_goes_89 e0 ?_
    refine mo_getS C sh fl_X6_68_6 rfl (by decide) (v := nI mk) hmn dX6_goes_90 ?_
    refine hp_icmp_ge (tgt := 140) C dX6_goes_93 (by decide) (fun _ => ?_) (fun z_9 => absurd ((mo_leI (by omega) (by omega)).mpr (by omega)) z_9)
    refine hp_iload_n C dX6_goes_140 e3 ?_
    refine hp_iret C hr rfl dX6_goes_141 ?_
    exact hP
  | succ r ih =>
    intro lo k hk e0 e3 e4
    obtain ⟨j1, j2⟩ := nI_80 (show q + k < 80 by omega)
    have hg : mo_gs st (s.2 3) q (k + 1) = if (mo_gs st (s.2 3) q k).1 (q + k) = 2 then mo_gs st (s.2 3) q k else if (mo_gs st (s.2 3) q k).1 (s.2 3 (q + k)).toNatClampNeg = 2 then (va_up (mo_gs st (s.2 3) q k).1 (q + k) 2, (mo_gs st (s.2 3) q k).2 + 1) else mo_gs st (s.2 3) q k := rfl
    have hle := mo_gs_le st (s.2 3) q k
    have en : nI (q + k) + Int32.ofInt 1 = nI (q + (k + 1)) := mo_succ (by omega)
    refine hp_iload C dX6_goes_87 e4 ?_
    refine hp_aload_nR C dX6_goes_89 e0 ?_
    refine mo_getS C sh fl_X6_68_6 rfl (by decide) (v := nI mk) hmn dX6_goes_90 ?_
    refine hp_icmp_ge (tgt := 140) C dX6_goes_93 (by decide) (fun z_9 => absurd ((mo_leI (by omega) (by omega)).mp z_9) (by omega)) (fun _ => ?_)
    refine hp_aload_nR C dX6_goes_96 e0 ?_
    refine mo_getA C sh fl_X6_20_6 rfl (by decide) dX6_goes_97 ?_
    refine hp_iload C dX6_goes_100 e4 ?_
    refine mo_aldv (v := (mo_gs st (s.2 3) q k).1 (q + k)) C sh rfl (by decide) (by rw [j2, mo_sv_5]) dX6_goes_102 (by exact j1) ?_
    refine hp_iconst (v := 2) C dX6_goes_103 (by decide) ?_
    refine hp_icmp_eq (tgt := 134) C dX6_goes_104 (by decide) (fun c_104 => ?_) (fun c_104 => ?_)
    · rw [if_pos c_104] at hg
      refine hp_iinc C dX6_goes_134 e4 (by decide) rfl ?_
      refine hp_goto (tgt := 87) C dX6_goes_137 (by decide) ?_
      have := ih (va_up lo 4 (some (.int (nI (q + k) + Int32.ofInt 1)))) (k + 1) (by omega) e0 (by rw [hg]; exact e3) ((va_up_self _ _ _).trans (by rw [en]))
      rw [hg] at this
      exact this
    · rw [if_neg c_104] at hg
      refine hp_aload_nR C dX6_goes_107 e0 ?_
      refine mo_getA C sh fl_X6_20_6 rfl (by decide) dX6_goes_108 ?_
      refine hp_aload_nR C dX6_goes_111 e0 ?_
      refine mo_getA C sh fl_X6_13_6 rfl (by decide) dX6_goes_112 ?_
      refine hp_iload C dX6_goes_115 e4 ?_
      refine mo_aldv (v := s.2 3 (q + k)) C sh rfl (by decide) (by rw [j2, mo_sv_ne (by decide)]) dX6_goes_117 (by exact j1) ?_
      refine mo_aldv (v := (mo_gs st (s.2 3) q k).1 (s.2 3 (q + k)).toNatClampNeg) C sh rfl (by decide) (by rw [mo_sv_5]) dX6_goes_118 (by exact hpar _ (by omega) (by omega)) ?_
      refine hp_iconst (v := 2) C dX6_goes_119 (by decide) ?_
      refine hp_icmp_ne (tgt := 134) C dX6_goes_120 (by decide) (fun c_120 => ?_) (fun c_120 => ?_)
      · rw [if_neg c_120] at hg
        refine hp_iinc C dX6_goes_134 e4 (by decide) rfl ?_
        refine hp_goto (tgt := 87) C dX6_goes_137 (by decide) ?_
        have := ih (va_up lo 4 (some (.int (nI (q + k) + Int32.ofInt 1)))) (k + 1) (by omega) e0 (by rw [hg]; exact e3) ((va_up_self _ _ _).trans (by rw [en]))
        rw [hg] at this
        exact this
      · rw [if_pos c_120] at hg
        refine hp_aload_nR C dX6_goes_123 e0 ?_
        refine mo_getA C sh fl_X6_20_6 rfl (by decide) dX6_goes_124 ?_
        refine hp_iload C dX6_goes_127 e4 ?_
        refine hp_iconst (v := 2) C dX6_goes_129 (by decide) ?_
        refine mo_ast C sh rfl (by decide) dX6_goes_130 (by exact j1) ?_
        rw [j2, mo_sv_up]
        refine hp_iinc C dX6_goes_131 e3 (by decide) rfl ?_
        refine hp_iinc C dX6_goes_134 e4 (by decide) rfl ?_
        refine hp_goto (tgt := 87) C dX6_goes_137 (by decide) ?_
        have := ih (va_up (va_up lo 3 (some (.int (nI (mo_gs st (s.2 3) q k).2 + Int32.ofInt 1)))) 4 (some (.int (nI (q + k) + Int32.ofInt 1)))) (k + 1) (by omega) e0 (by rw [hg, ← mo_succ (by omega)]; rfl) ((va_up_self _ _ _).trans (by rw [en]))
        rw [hg] at this
        exact this
end
section
theorem mo_note_ne {s : moS} {a b c : Int32} {k : Nat} (hk : k ≠ 20) : (mo_note s a b c).2 k = s.2 k := by
  unfold mo_note
  split
  · rfl
  · show va_up (va_up (va_up (va_up s.2 20 _) 20 _) 20 _) 20 _ k = _
    rw [va_up_ne _ _ hk, va_up_ne _ _ hk, va_up_ne _ _ hk, va_up_ne _ _ hk]
theorem mo_note_1 {s : moS} {a b c : Int32} {k : Nat} (hk : k ≠ 19) : (mo_note s a b c).1 k = s.1 k := by
  unfold mo_note
  split
  · exact va_up_ne _ _ hk
  · exact va_up_ne _ _ hk
/-- behind goes: the row of keeper p without place t, the event -/
def mo_g1 (s : moS) (p t c : Nat) : moS := mo_up (mo_rb s p (mo_shf (fun j => s.2 14 (80 * p + j)) t (c - 1))) 15 p (nI c - 1)
def mo_g2 (s : moS) (a p t c : Nat) : moS := mo_note (mo_g1 s p t c) 7 (nI a) 0
def mo_gz (s : moS) (a mk : Nat) : (Nat → Int32) × Nat := mo_gs (va_up (s.2 5) a 2) (s.2 3) (a + 1) (mk - (a + 1))
theorem mo_g1_ne {s : moS} {p t c k : Nat} (h1 : k ≠ 14) (h2 : k ≠ 15) : (mo_g1 s p t c).2 k = s.2 k := by
  show va_up (mo_rb s p _).2 15 _ k = _
  rw [va_up_ne _ _ h2, mo_rb_ne h1]
theorem mo_g2_ne {s : moS} {a p t c k : Nat} (h1 : k ≠ 14) (h2 : k ≠ 15) (h3 : k ≠ 20) : (mo_g2 s a p t c).2 k = s.2 k := by
  unfold mo_g2
  rw [mo_note_ne h3, mo_g1_ne h1 h2]
set_option maxRecDepth 20000 in
set_option maxHeartbeats 4000000 in
theorem mo_goes {l : Launch} {G : hpG} {h : hpT} {m d : Nat} {s : moS} (sh : mo_sh G h m) (hd : 2 ≤ d) {a p c t mk : Nat} (ha : a < mk) (hmk : mk ≤ 80) (hmn : s.1 1 = nI mk) (hp : p < 80) (hpa : s.2 3 a = nI p) (hc : c ≤ 80) (hcn : s.2 15 p = nI c) (ht : t < c) (hat : s.2 14 (80 * p + t) = nI a) (hno : ∀ j, j < t → ¬ s.2 14 (80 * p + j) = nI a) (hev : mo_evk s) (hpar : ∀ j, a + 1 ≤ j → j < mk → vp_in (s.2 3 j) 80) :
    hp_C l G yX6_goes (.code yX6_goes cX6_goes 5 (some .int)) d [.ref m, .int (nI a)] (mo_w h m s) (fun v h' => v = some (.int (nI (mo_gz s a mk).2)) ∧ h' = mo_w h m (mo_sv (mo_g2 s a p t c) (mo_gz s a mk).1)) (fun _ _ => False) := by
  refine hp_ofV (by decide) (by simp [Value.category]) (Nat.le_of_ble_eq_true rfl) (fun M C hr hx el => ?_)
  obtain ⟨p1, p2⟩ := nI_80 hp
  obtain ⟨a1, a2⟩ := nI_80 (show a < 80 by omega)
  refine hp_aload_nR C dX6_goes_0 rfl ?_
  refine mo_getA C sh fl_X6_13_6 rfl (by decide) dX6_goes_1 ?_
  refine hp_iload_n C dX6_goes_4 rfl ?_
  refine mo_aldv (v := nI p) C sh rfl (by decide) (by rw [a2]; exact hpa) dX6_goes_5 (by exact a1) ?_
  refine hp_istore_n C dX6_goes_6 (by decide) ?_
  refine hp_aload_nR C dX6_goes_7 rfl ?_
  refine hp_iload_n C dX6_goes_8 rfl ?_
  refine hp_callV (ci := 6) C ml_X6_96 im_X6_place se_X6_place rfl (by decide) (mo_place (d := d - 1) sh (p := p) (t := t) a1 (by rw [a2]; exact hpa) hp (by omega) hat hno) (by omega) dX6_goes_9 sh.o rfl rfl (by simp [Value.category]) (fun v_1 h_1 hp9 => ?_) (fun _ _ hf => hf.elim)
  obtain ⟨rfl, rfl⟩ := hp9
  refine hp_istore_n C dX6_goes_12 (by decide) ?_
  refine hp_Vc (h2 := mo_w h m (mo_rb s p (mo_shf (fun j => s.2 14 (80 * p + j)) t t))) (by rw [show mo_shf (fun j => s.2 14 (80 * p + j)) t t = (fun j => s.2 14 (80 * p + j)) from funext fun j => if_neg (by omega), mo_rb_self]) ?_
  refine mo_goeL sh C (n := nI a) hp hc hcn (g := fun j => s.2 14 (80 * p + j)) ht (fun lo e0 e1 e2 => ?_) (c - (t + 1)) _ t (by omega) (Nat.le_refl _) rfl rfl rfl rfl
  refine hp_aload_nR C dX6_goes_55 e0 ?_
  refine mo_getA C sh fl_X6_50_6 rfl (by decide) dX6_goes_56 ?_
  refine hp_iload_n C dX6_goes_59 e2 ?_
  refine hp_dup2 C dX6_goes_60 rfl rfl ?_
  refine mo_aldv (v := nI c) C sh rfl (by decide) (by rw [p2, mo_rb_ne (by decide)]; exact hcn) dX6_goes_61 (by exact p1) ?_
  refine hp_iconst (v := 1) C dX6_goes_62 (by decide) ?_
  refine hp_isub C dX6_goes_63 ?_
  refine mo_ast C sh rfl (by decide) dX6_goes_64 (by exact p1) ?_
  rw [p2]
  refine hp_Vc (h2 := mo_w h m (mo_g1 s p t c)) rfl ?_
  refine hp_aload_nR C dX6_goes_65 e0 ?_
  refine hp_bipush (v := 7) C dX6_goes_66 (by decide) ?_
  refine hp_iload_n C dX6_goes_68 e1 ?_
  refine hp_iconst (v := 0) C dX6_goes_69 (by decide) ?_
  refine hp_callV (ci := 6) C ml_X6_89 im_X6_note se_X6_note rfl (by decide) (mo_noteC (d := d - 1) sh (s := mo_g1 s p t c) hev) (by omega) dX6_goes_70 sh.o rfl rfl (by simp [Value.category]) (fun v_1 h_1 hp9 => ?_) (fun _ _ hf => hf.elim)
  obtain ⟨rfl, rfl⟩ := hp9
  have g5 : (mo_g2 s a p t c).2 5 = s.2 5 := mo_g2_ne (by decide) (by decide) (by decide)
  have g3 : (mo_g2 s a p t c).2 3 = s.2 3 := mo_g2_ne (by decide) (by decide) (by decide)
  have g1 : (mo_g2 s a p t c).1 1 = nI mk := (mo_note_1 (by decide)).trans hmn
  refine hp_Vc (h2 := mo_w h m (mo_sv (mo_g2 s a p t c) (s.2 5))) (by rw [← g5, mo_sv_self]; rfl) ?_
  refine hp_aload_nR C dX6_goes_73 e0 ?_
  refine mo_getA C sh fl_X6_20_6 rfl (by decide) dX6_goes_74 ?_
  refine hp_iload_n C dX6_goes_77 e1 ?_
  refine hp_iconst (v := 2) C dX6_goes_78 (by decide) ?_
  refine mo_ast C sh rfl (by decide) dX6_goes_79 (by exact a1) ?_
  rw [a2, mo_sv_up]
  refine hp_iconst (v := 1) C dX6_goes_80 (by decide) ?_
  refine hp_istore_n C dX6_goes_81 (by decide) ?_
  refine hp_iload_n C dX6_goes_82 e1 ?_
  refine hp_iconst (v := 1) C dX6_goes_83 (by decide) ?_
  refine hp_iadd C dX6_goes_84 ?_
  refine hp_istore C dX6_goes_85 (by decide) ?_
  have en : nI a + 1 = nI (a + 1 + 0) := mo_succ (by omega)
  refine mo_gonL sh C hr hmk g1 (show a + 1 ≤ mk by omega) (by rw [g3]; exact hpar) (st := va_up (s.2 5) a 2) ?_ (mk - (a + 1)) _ 0 (by omega) e0 rfl ((va_up_self _ _ _).trans (by rw [en]))
  rw [g3]
  exact ⟨rfl, rfl⟩
end
section
/-! ===== ceases: the end of one node ===== -/
/-- a worker that is asked to stop: what is told of it (4: killed for it); how long it takes -/
def mo_die (s : moS) (n : Int32) : Int32 := if s.2 10 n.toNatClampNeg = 0 then 4 else if s.2 10 n.toNatClampNeg ≤ 0 then 3 else if s.2 12 n.toNatClampNeg ≤ s.2 10 n.toNatClampNeg then 3 else 4
def mo_dur (s : moS) (n : Int32) : Int32 := if s.2 10 n.toNatClampNeg < 0 then s.2 12 n.toNatClampNeg else if s.2 10 n.toNatClampNeg ≤ s.2 12 n.toNatClampNeg then s.2 10 n.toNatClampNeg else s.2 12 n.toNatClampNeg
def mo_end (kl n : Int32) (s : moS) : moS := if s.2 2 n.toNatClampNeg = 0 then (if kl = 0 then mo_note (mo_up (mo_pt s 18 (s.1 18 + mo_dur s n)) 5 n.toNatClampNeg 0) (mo_die s n) n 0 else mo_note (mo_up s 5 n.toNatClampNeg 0) 4 n 0) else mo_note (mo_up s 5 n.toNatClampNeg 0) (if kl = 0 then 3 else 4) n 0
set_option maxRecDepth 20000 in
set_option maxHeartbeats 4000000 in
theorem mo_endK {M : hpM} {G : hpG} {d : Nat} {h0 h : hpT} {m : Nat} {s : moS} {Q : State → Prop} (sh : mo_sh G h m) (C : hp_F M G yX6_ceases cX6_ceases 8 d h0) (hd : 1 ≤ d) (hev : mo_evk s) {n kl fr lv al : Int32} (hn : vp_in n 80) {lo : Nat → Option Value} (e0 : lo 0 = some (.ref m)) (e2 : lo 2 = some (.int fr)) (e3 : lo 3 = some (.int kl)) (e4 : lo 4 = some (.int lv)) (e5 : lo 5 = some (.int al)) (e6 : lo 6 = some (.int n))
    (kk : ∀ (lo9 : Nat → Option Value), lo9 0 = some (.ref m) → lo9 2 = some (.int fr) → lo9 3 = some (.int kl) → lo9 4 = some (.int (lv + Int32.ofInt (-1))) → lo9 5 = some (.int (al + Int32.ofInt 1)) → hp_V M G 8 Q (mo_w h m (mo_end kl n s)) 29 lo9 []) : hp_V M G 8 Q (mo_w h m s) 187 lo [] := by
  refine hp_iload_n C dX6_ceases_187 e3 ?_
  refine hp_istore C dX6_ceases_188 (by decide) ?_
  refine hp_aload_nR C dX6_ceases_190 e0 ?_
  refine mo_getA C sh fl_X6_7_6 rfl (by decide) dX6_ceases_191 ?_
  refine hp_iload C dX6_ceases_194 e6 ?_
  refine mo_zld C sh (f := s.2 2) rfl dX6_ceases_196 (by exact hn) ?_
  refine hp_if_ne (tgt := 301) C dX6_ceases_197 (by decide) (fun c_197 => ?_) (fun c_197 => ?_)
  · refine hp_aload_nR C dX6_ceases_301 e0 ?_
    refine mo_getA C sh fl_X6_20_6 rfl (by decide) dX6_ceases_302 ?_
    refine hp_iload C dX6_ceases_305 e6 ?_
    refine hp_iconst (v := 0) C dX6_ceases_307 (by decide) ?_
    refine mo_ast C sh rfl (by decide) dX6_ceases_308 (by exact hn) ?_
    refine hp_aload_nR C dX6_ceases_309 e0 ?_
    refine hp_iload C dX6_ceases_310 rfl ?_
    refine hp_if_eq (tgt := 319) C dX6_ceases_312 (by decide) (fun c_312 => ?_) (fun c_312 => ?_)
    · refine hp_iconst (v := 3) C dX6_ceases_319 (by decide) ?_
      refine hp_iload C dX6_ceases_320 e6 ?_
      refine hp_iconst (v := 0) C dX6_ceases_322 (by decide) ?_
      refine hp_callV (ci := 6) C ml_X6_89 im_X6_note se_X6_note rfl (by decide) (mo_noteC (d := d - 1) sh hev) (by omega) dX6_ceases_323 sh.o rfl rfl (by simp [Value.category]) (fun v_1 h_1 hp => ?_) (fun _ _ hf => hf.elim)
      obtain ⟨rfl, rfl⟩ := hp
      refine hp_iinc C dX6_ceases_326 e5 (by decide) rfl ?_
      refine hp_iinc C dX6_ceases_329 e4 (by decide) rfl ?_
      refine hp_goto (tgt := 29) C dX6_ceases_332 (by decide) ?_
      refine hp_Vc (h2 := mo_w h m (mo_end kl n s)) (by unfold mo_end mo_die mo_dur; (repeat' split) <;> first | rfl | contradiction) ?_
      exact kk _ e0 e2 e3 rfl rfl
    · refine hp_iconst (v := 4) C dX6_ceases_315 (by decide) ?_
      refine hp_goto (tgt := 320) C dX6_ceases_316 (by decide) ?_
      refine hp_iload C dX6_ceases_320 e6 ?_
      refine hp_iconst (v := 0) C dX6_ceases_322 (by decide) ?_
      refine hp_callV (ci := 6) C ml_X6_89 im_X6_note se_X6_note rfl (by decide) (mo_noteC (d := d - 1) sh hev) (by omega) dX6_ceases_323 sh.o rfl rfl (by simp [Value.category]) (fun v_1 h_1 hp => ?_) (fun _ _ hf => hf.elim)
      obtain ⟨rfl, rfl⟩ := hp
      refine hp_iinc C dX6_ceases_326 e5 (by decide) rfl ?_
      refine hp_iinc C dX6_ceases_329 e4 (by decide) rfl ?_
      refine hp_goto (tgt := 29) C dX6_ceases_332 (by decide) ?_
      refine hp_Vc (h2 := mo_w h m (mo_end kl n s)) (by unfold mo_end mo_die mo_dur; (repeat' split) <;> first | rfl | contradiction) ?_
      exact kk _ e0 e2 e3 rfl rfl
  · refine hp_iload_n C dX6_ceases_200 e3 ?_
    refine hp_if_ne (tgt := 301) C dX6_ceases_201 (by decide) (fun c_201 => ?_) (fun c_201 => ?_)
    · refine hp_aload_nR C dX6_ceases_301 e0 ?_
      refine mo_getA C sh fl_X6_20_6 rfl (by decide) dX6_ceases_302 ?_
      refine hp_iload C dX6_ceases_305 e6 ?_
      refine hp_iconst (v := 0) C dX6_ceases_307 (by decide) ?_
      refine mo_ast C sh rfl (by decide) dX6_ceases_308 (by exact hn) ?_
      refine hp_aload_nR C dX6_ceases_309 e0 ?_
      refine hp_iload C dX6_ceases_310 rfl ?_
      refine hp_if_eq (tgt := 319) C dX6_ceases_312 (by decide) (fun c_312 => ?_) (fun c_312 => ?_)
      · refine hp_iconst (v := 3) C dX6_ceases_319 (by decide) ?_
        refine hp_iload C dX6_ceases_320 e6 ?_
        refine hp_iconst (v := 0) C dX6_ceases_322 (by decide) ?_
        refine hp_callV (ci := 6) C ml_X6_89 im_X6_note se_X6_note rfl (by decide) (mo_noteC (d := d - 1) sh hev) (by omega) dX6_ceases_323 sh.o rfl rfl (by simp [Value.category]) (fun v_1 h_1 hp => ?_) (fun _ _ hf => hf.elim)
        obtain ⟨rfl, rfl⟩ := hp
        refine hp_iinc C dX6_ceases_326 e5 (by decide) rfl ?_
        refine hp_iinc C dX6_ceases_329 e4 (by decide) rfl ?_
        refine hp_goto (tgt := 29) C dX6_ceases_332 (by decide) ?_
        refine hp_Vc (h2 := mo_w h m (mo_end kl n s)) (by unfold mo_end mo_die mo_dur; (repeat' split) <;> first | rfl | contradiction) ?_
        exact kk _ e0 e2 e3 rfl rfl
      · refine hp_iconst (v := 4) C dX6_ceases_315 (by decide) ?_
        refine hp_goto (tgt := 320) C dX6_ceases_316 (by decide) ?_
        refine hp_iload C dX6_ceases_320 e6 ?_
        refine hp_iconst (v := 0) C dX6_ceases_322 (by decide) ?_
        refine hp_callV (ci := 6) C ml_X6_89 im_X6_note se_X6_note rfl (by decide) (mo_noteC (d := d - 1) sh hev) (by omega) dX6_ceases_323 sh.o rfl rfl (by simp [Value.category]) (fun v_1 h_1 hp => ?_) (fun _ _ hf => hf.elim)
        obtain ⟨rfl, rfl⟩ := hp
        refine hp_iinc C dX6_ceases_326 e5 (by decide) rfl ?_
        refine hp_iinc C dX6_ceases_329 e4 (by decide) rfl ?_
        refine hp_goto (tgt := 29) C dX6_ceases_332 (by decide) ?_
        refine hp_Vc (h2 := mo_w h m (mo_end kl n s)) (by unfold mo_end mo_die mo_dur; (repeat' split) <;> first | rfl | contradiction) ?_
        exact kk _ e0 e2 e3 rfl rfl
    · refine hp_aload_nR C dX6_ceases_204 e0 ?_
      refine mo_getA C sh fl_X6_35_6 rfl (by decide) dX6_ceases_205 ?_
      refine hp_iload C dX6_ceases_208 e6 ?_
      refine mo_ald C sh (f := s.2 10) rfl (by decide) rfl dX6_ceases_210 (by exact hn) ?_
      refine hp_if_eq (tgt := 241) C dX6_ceases_211 (by decide) (fun c_211 => ?_) (fun c_211 => ?_)
      · refine hp_iconst (v := 1) C dX6_ceases_241 (by decide) ?_
        refine hp_goto (tgt := 246) C dX6_ceases_242 (by decide) ?_
        refine hp_istore C dX6_ceases_246 (by decide) ?_
        refine hp_aload_nR C dX6_ceases_248 e0 ?_
        refine hp_dup C dX6_ceases_249 rfl ?_
        refine mo_getS C sh fl_X6_82_6 rfl (by decide) (v := s.1 18) rfl dX6_ceases_250 ?_
        refine hp_aload_nR C dX6_ceases_253 e0 ?_
        refine mo_getA C sh fl_X6_35_6 rfl (by decide) dX6_ceases_254 ?_
        refine hp_iload C dX6_ceases_257 e6 ?_
        refine mo_ald C sh (f := s.2 10) rfl (by decide) rfl dX6_ceases_259 (by exact hn) ?_
        refine hp_if_lt (tgt := 280) C dX6_ceases_260 (by decide) (fun c_260 => ?_) (fun c_260 => ?_)
        · refine hp_aload_nR C dX6_ceases_280 e0 ?_
          refine mo_getA C sh fl_X6_41_6 rfl (by decide) dX6_ceases_281 ?_
          refine hp_iload C dX6_ceases_284 e6 ?_
          refine mo_ald C sh (f := s.2 12) rfl (by decide) rfl dX6_ceases_286 (by exact hn) ?_
          refine hp_goto (tgt := 297) C dX6_ceases_287 (by decide) ?_
          refine hp_iadd C dX6_ceases_297 ?_
          refine mo_putS C sh fl_X6_82_6 rfl (by decide) rfl rfl rfl dX6_ceases_298 ?_
          refine hp_aload_nR C dX6_ceases_301 e0 ?_
          refine mo_getA C sh fl_X6_20_6 rfl (by decide) dX6_ceases_302 ?_
          refine hp_iload C dX6_ceases_305 e6 ?_
          refine hp_iconst (v := 0) C dX6_ceases_307 (by decide) ?_
          refine mo_ast C sh rfl (by decide) dX6_ceases_308 (by exact hn) ?_
          refine hp_aload_nR C dX6_ceases_309 e0 ?_
          refine hp_iload C dX6_ceases_310 rfl ?_
          refine hp_if_eq (tgt := 319) C dX6_ceases_312 (by decide) (fun z_9 => absurd z_9 (by decide)) (fun _ => ?_)
          refine hp_iconst (v := 4) C dX6_ceases_315 (by decide) ?_
          refine hp_goto (tgt := 320) C dX6_ceases_316 (by decide) ?_
          refine hp_iload C dX6_ceases_320 e6 ?_
          refine hp_iconst (v := 0) C dX6_ceases_322 (by decide) ?_
          refine hp_callV (ci := 6) C ml_X6_89 im_X6_note se_X6_note rfl (by decide) (mo_noteC (d := d - 1) sh hev) (by omega) dX6_ceases_323 sh.o rfl rfl (by simp [Value.category]) (fun v_1 h_1 hp => ?_) (fun _ _ hf => hf.elim)
          obtain ⟨rfl, rfl⟩ := hp
          refine hp_iinc C dX6_ceases_326 e5 (by decide) rfl ?_
          refine hp_iinc C dX6_ceases_329 e4 (by decide) rfl ?_
          refine hp_goto (tgt := 29) C dX6_ceases_332 (by decide) ?_
          refine hp_Vc (h2 := mo_w h m (mo_end kl n s)) (by unfold mo_end mo_die mo_dur; (repeat' split) <;> first | rfl | contradiction) ?_
          exact kk _ e0 e2 e3 rfl rfl
        · refine hp_aload_nR C dX6_ceases_263 e0 ?_
          refine mo_getA C sh fl_X6_41_6 rfl (by decide) dX6_ceases_264 ?_
          refine hp_iload C dX6_ceases_267 e6 ?_
          refine mo_ald C sh (f := s.2 12) rfl (by decide) rfl dX6_ceases_269 (by exact hn) ?_
          refine hp_aload_nR C dX6_ceases_270 e0 ?_
          refine mo_getA C sh fl_X6_35_6 rfl (by decide) dX6_ceases_271 ?_
          refine hp_iload C dX6_ceases_274 e6 ?_
          refine mo_ald C sh (f := s.2 10) rfl (by decide) rfl dX6_ceases_276 (by exact hn) ?_
          refine hp_icmp_ge (tgt := 290) C dX6_ceases_277 (by decide) (fun c_277 => ?_) (fun c_277 => ?_)
          · refine hp_aload_nR C dX6_ceases_290 e0 ?_
            refine mo_getA C sh fl_X6_35_6 rfl (by decide) dX6_ceases_291 ?_
            refine hp_iload C dX6_ceases_294 e6 ?_
            refine mo_ald C sh (f := s.2 10) rfl (by decide) rfl dX6_ceases_296 (by exact hn) ?_
            refine hp_iadd C dX6_ceases_297 ?_
            refine mo_putS C sh fl_X6_82_6 rfl (by decide) rfl rfl rfl dX6_ceases_298 ?_
            refine hp_aload_nR C dX6_ceases_301 e0 ?_
            refine mo_getA C sh fl_X6_20_6 rfl (by decide) dX6_ceases_302 ?_
            refine hp_iload C dX6_ceases_305 e6 ?_
            refine hp_iconst (v := 0) C dX6_ceases_307 (by decide) ?_
            refine mo_ast C sh rfl (by decide) dX6_ceases_308 (by exact hn) ?_
            refine hp_aload_nR C dX6_ceases_309 e0 ?_
            refine hp_iload C dX6_ceases_310 rfl ?_
            refine hp_if_eq (tgt := 319) C dX6_ceases_312 (by decide) (fun z_9 => absurd z_9 (by decide)) (fun _ => ?_)
            refine hp_iconst (v := 4) C dX6_ceases_315 (by decide) ?_
            refine hp_goto (tgt := 320) C dX6_ceases_316 (by decide) ?_
            refine hp_iload C dX6_ceases_320 e6 ?_
            refine hp_iconst (v := 0) C dX6_ceases_322 (by decide) ?_
            refine hp_callV (ci := 6) C ml_X6_89 im_X6_note se_X6_note rfl (by decide) (mo_noteC (d := d - 1) sh hev) (by omega) dX6_ceases_323 sh.o rfl rfl (by simp [Value.category]) (fun v_1 h_1 hp => ?_) (fun _ _ hf => hf.elim)
            obtain ⟨rfl, rfl⟩ := hp
            refine hp_iinc C dX6_ceases_326 e5 (by decide) rfl ?_
            refine hp_iinc C dX6_ceases_329 e4 (by decide) rfl ?_
            refine hp_goto (tgt := 29) C dX6_ceases_332 (by decide) ?_
            refine hp_Vc (h2 := mo_w h m (mo_end kl n s)) (by unfold mo_end mo_die mo_dur; (repeat' split) <;> first | rfl | contradiction) ?_
            exact kk _ e0 e2 e3 rfl rfl
          · refine hp_aload_nR C dX6_ceases_280 e0 ?_
            refine mo_getA C sh fl_X6_41_6 rfl (by decide) dX6_ceases_281 ?_
            refine hp_iload C dX6_ceases_284 e6 ?_
            refine mo_ald C sh (f := s.2 12) rfl (by decide) rfl dX6_ceases_286 (by exact hn) ?_
            refine hp_goto (tgt := 297) C dX6_ceases_287 (by decide) ?_
            refine hp_iadd C dX6_ceases_297 ?_
            refine mo_putS C sh fl_X6_82_6 rfl (by decide) rfl rfl rfl dX6_ceases_298 ?_
            refine hp_aload_nR C dX6_ceases_301 e0 ?_
            refine mo_getA C sh fl_X6_20_6 rfl (by decide) dX6_ceases_302 ?_
            refine hp_iload C dX6_ceases_305 e6 ?_
            refine hp_iconst (v := 0) C dX6_ceases_307 (by decide) ?_
            refine mo_ast C sh rfl (by decide) dX6_ceases_308 (by exact hn) ?_
            refine hp_aload_nR C dX6_ceases_309 e0 ?_
            refine hp_iload C dX6_ceases_310 rfl ?_
            refine hp_if_eq (tgt := 319) C dX6_ceases_312 (by decide) (fun z_9 => absurd z_9 (by decide)) (fun _ => ?_)
            refine hp_iconst (v := 4) C dX6_ceases_315 (by decide) ?_
            refine hp_goto (tgt := 320) C dX6_ceases_316 (by decide) ?_
            refine hp_iload C dX6_ceases_320 e6 ?_
            refine hp_iconst (v := 0) C dX6_ceases_322 (by decide) ?_
            refine hp_callV (ci := 6) C ml_X6_89 im_X6_note se_X6_note rfl (by decide) (mo_noteC (d := d - 1) sh hev) (by omega) dX6_ceases_323 sh.o rfl rfl (by simp [Value.category]) (fun v_1 h_1 hp => ?_) (fun _ _ hf => hf.elim)
            obtain ⟨rfl, rfl⟩ := hp
            refine hp_iinc C dX6_ceases_326 e5 (by decide) rfl ?_
            refine hp_iinc C dX6_ceases_329 e4 (by decide) rfl ?_
            refine hp_goto (tgt := 29) C dX6_ceases_332 (by decide) ?_
            refine hp_Vc (h2 := mo_w h m (mo_end kl n s)) (by unfold mo_end mo_die mo_dur; (repeat' split) <;> first | rfl | contradiction) ?_
            exact kk _ e0 e2 e3 rfl rfl
      · refine hp_aload_nR C dX6_ceases_214 e0 ?_
        refine mo_getA C sh fl_X6_35_6 rfl (by decide) dX6_ceases_215 ?_
        refine hp_iload C dX6_ceases_218 e6 ?_
        refine mo_ald C sh (f := s.2 10) rfl (by decide) rfl dX6_ceases_220 (by exact hn) ?_
        refine hp_if_le (tgt := 245) C dX6_ceases_221 (by decide) (fun c_221 => ?_) (fun c_221 => ?_)
        · refine hp_iconst (v := 0) C dX6_ceases_245 (by decide) ?_
          refine hp_istore C dX6_ceases_246 (by decide) ?_
          refine hp_aload_nR C dX6_ceases_248 e0 ?_
          refine hp_dup C dX6_ceases_249 rfl ?_
          refine mo_getS C sh fl_X6_82_6 rfl (by decide) (v := s.1 18) rfl dX6_ceases_250 ?_
          refine hp_aload_nR C dX6_ceases_253 e0 ?_
          refine mo_getA C sh fl_X6_35_6 rfl (by decide) dX6_ceases_254 ?_
          refine hp_iload C dX6_ceases_257 e6 ?_
          refine mo_ald C sh (f := s.2 10) rfl (by decide) rfl dX6_ceases_259 (by exact hn) ?_
          refine hp_if_lt (tgt := 280) C dX6_ceases_260 (by decide) (fun c_260 => ?_) (fun c_260 => ?_)
          · refine hp_aload_nR C dX6_ceases_280 e0 ?_
            refine mo_getA C sh fl_X6_41_6 rfl (by decide) dX6_ceases_281 ?_
            refine hp_iload C dX6_ceases_284 e6 ?_
            refine mo_ald C sh (f := s.2 12) rfl (by decide) rfl dX6_ceases_286 (by exact hn) ?_
            refine hp_goto (tgt := 297) C dX6_ceases_287 (by decide) ?_
            refine hp_iadd C dX6_ceases_297 ?_
            refine mo_putS C sh fl_X6_82_6 rfl (by decide) rfl rfl rfl dX6_ceases_298 ?_
            refine hp_aload_nR C dX6_ceases_301 e0 ?_
            refine mo_getA C sh fl_X6_20_6 rfl (by decide) dX6_ceases_302 ?_
            refine hp_iload C dX6_ceases_305 e6 ?_
            refine hp_iconst (v := 0) C dX6_ceases_307 (by decide) ?_
            refine mo_ast C sh rfl (by decide) dX6_ceases_308 (by exact hn) ?_
            refine hp_aload_nR C dX6_ceases_309 e0 ?_
            refine hp_iload C dX6_ceases_310 rfl ?_
            refine hp_if_eq (tgt := 319) C dX6_ceases_312 (by decide) (fun _ => ?_) (fun z_9 => absurd z_9 (by decide))
            refine hp_iconst (v := 3) C dX6_ceases_319 (by decide) ?_
            refine hp_iload C dX6_ceases_320 e6 ?_
            refine hp_iconst (v := 0) C dX6_ceases_322 (by decide) ?_
            refine hp_callV (ci := 6) C ml_X6_89 im_X6_note se_X6_note rfl (by decide) (mo_noteC (d := d - 1) sh hev) (by omega) dX6_ceases_323 sh.o rfl rfl (by simp [Value.category]) (fun v_1 h_1 hp => ?_) (fun _ _ hf => hf.elim)
            obtain ⟨rfl, rfl⟩ := hp
            refine hp_iinc C dX6_ceases_326 e5 (by decide) rfl ?_
            refine hp_iinc C dX6_ceases_329 e4 (by decide) rfl ?_
            refine hp_goto (tgt := 29) C dX6_ceases_332 (by decide) ?_
            refine hp_Vc (h2 := mo_w h m (mo_end kl n s)) (by unfold mo_end mo_die mo_dur; (repeat' split) <;> first | rfl | contradiction) ?_
            exact kk _ e0 e2 e3 rfl rfl
          · refine hp_aload_nR C dX6_ceases_263 e0 ?_
            refine mo_getA C sh fl_X6_41_6 rfl (by decide) dX6_ceases_264 ?_
            refine hp_iload C dX6_ceases_267 e6 ?_
            refine mo_ald C sh (f := s.2 12) rfl (by decide) rfl dX6_ceases_269 (by exact hn) ?_
            refine hp_aload_nR C dX6_ceases_270 e0 ?_
            refine mo_getA C sh fl_X6_35_6 rfl (by decide) dX6_ceases_271 ?_
            refine hp_iload C dX6_ceases_274 e6 ?_
            refine mo_ald C sh (f := s.2 10) rfl (by decide) rfl dX6_ceases_276 (by exact hn) ?_
            refine hp_icmp_ge (tgt := 290) C dX6_ceases_277 (by decide) (fun c_277 => ?_) (fun c_277 => ?_)
            · refine hp_aload_nR C dX6_ceases_290 e0 ?_
              refine mo_getA C sh fl_X6_35_6 rfl (by decide) dX6_ceases_291 ?_
              refine hp_iload C dX6_ceases_294 e6 ?_
              refine mo_ald C sh (f := s.2 10) rfl (by decide) rfl dX6_ceases_296 (by exact hn) ?_
              refine hp_iadd C dX6_ceases_297 ?_
              refine mo_putS C sh fl_X6_82_6 rfl (by decide) rfl rfl rfl dX6_ceases_298 ?_
              refine hp_aload_nR C dX6_ceases_301 e0 ?_
              refine mo_getA C sh fl_X6_20_6 rfl (by decide) dX6_ceases_302 ?_
              refine hp_iload C dX6_ceases_305 e6 ?_
              refine hp_iconst (v := 0) C dX6_ceases_307 (by decide) ?_
              refine mo_ast C sh rfl (by decide) dX6_ceases_308 (by exact hn) ?_
              refine hp_aload_nR C dX6_ceases_309 e0 ?_
              refine hp_iload C dX6_ceases_310 rfl ?_
              refine hp_if_eq (tgt := 319) C dX6_ceases_312 (by decide) (fun _ => ?_) (fun z_9 => absurd z_9 (by decide))
              refine hp_iconst (v := 3) C dX6_ceases_319 (by decide) ?_
              refine hp_iload C dX6_ceases_320 e6 ?_
              refine hp_iconst (v := 0) C dX6_ceases_322 (by decide) ?_
              refine hp_callV (ci := 6) C ml_X6_89 im_X6_note se_X6_note rfl (by decide) (mo_noteC (d := d - 1) sh hev) (by omega) dX6_ceases_323 sh.o rfl rfl (by simp [Value.category]) (fun v_1 h_1 hp => ?_) (fun _ _ hf => hf.elim)
              obtain ⟨rfl, rfl⟩ := hp
              refine hp_iinc C dX6_ceases_326 e5 (by decide) rfl ?_
              refine hp_iinc C dX6_ceases_329 e4 (by decide) rfl ?_
              refine hp_goto (tgt := 29) C dX6_ceases_332 (by decide) ?_
              refine hp_Vc (h2 := mo_w h m (mo_end kl n s)) (by unfold mo_end mo_die mo_dur; (repeat' split) <;> first | rfl | contradiction) ?_
              exact kk _ e0 e2 e3 rfl rfl
            · refine hp_aload_nR C dX6_ceases_280 e0 ?_
              refine mo_getA C sh fl_X6_41_6 rfl (by decide) dX6_ceases_281 ?_
              refine hp_iload C dX6_ceases_284 e6 ?_
              refine mo_ald C sh (f := s.2 12) rfl (by decide) rfl dX6_ceases_286 (by exact hn) ?_
              refine hp_goto (tgt := 297) C dX6_ceases_287 (by decide) ?_
              refine hp_iadd C dX6_ceases_297 ?_
              refine mo_putS C sh fl_X6_82_6 rfl (by decide) rfl rfl rfl dX6_ceases_298 ?_
              refine hp_aload_nR C dX6_ceases_301 e0 ?_
              refine mo_getA C sh fl_X6_20_6 rfl (by decide) dX6_ceases_302 ?_
              refine hp_iload C dX6_ceases_305 e6 ?_
              refine hp_iconst (v := 0) C dX6_ceases_307 (by decide) ?_
              refine mo_ast C sh rfl (by decide) dX6_ceases_308 (by exact hn) ?_
              refine hp_aload_nR C dX6_ceases_309 e0 ?_
              refine hp_iload C dX6_ceases_310 rfl ?_
              refine hp_if_eq (tgt := 319) C dX6_ceases_312 (by decide) (fun _ => ?_) (fun z_9 => absurd z_9 (by decide))
              refine hp_iconst (v := 3) C dX6_ceases_319 (by decide) ?_
              refine hp_iload C dX6_ceases_320 e6 ?_
              refine hp_iconst (v := 0) C dX6_ceases_322 (by decide) ?_
              refine hp_callV (ci := 6) C ml_X6_89 im_X6_note se_X6_note rfl (by decide) (mo_noteC (d := d - 1) sh hev) (by omega) dX6_ceases_323 sh.o rfl rfl (by simp [Value.category]) (fun v_1 h_1 hp => ?_) (fun _ _ hf => hf.elim)
              obtain ⟨rfl, rfl⟩ := hp
              refine hp_iinc C dX6_ceases_326 e5 (by decide) rfl ?_
              refine hp_iinc C dX6_ceases_329 e4 (by decide) rfl ?_
              refine hp_goto (tgt := 29) C dX6_ceases_332 (by decide) ?_
              refine hp_Vc (h2 := mo_w h m (mo_end kl n s)) (by unfold mo_end mo_die mo_dur; (repeat' split) <;> first | rfl | contradiction) ?_
              exact kk _ e0 e2 e3 rfl rfl
        · refine hp_aload_nR C dX6_ceases_224 e0 ?_
          refine mo_getA C sh fl_X6_41_6 rfl (by decide) dX6_ceases_225 ?_
          refine hp_iload C dX6_ceases_228 e6 ?_
          refine mo_ald C sh (f := s.2 12) rfl (by decide) rfl dX6_ceases_230 (by exact hn) ?_
          refine hp_aload_nR C dX6_ceases_231 e0 ?_
          refine mo_getA C sh fl_X6_35_6 rfl (by decide) dX6_ceases_232 ?_
          refine hp_iload C dX6_ceases_235 e6 ?_
          refine mo_ald C sh (f := s.2 10) rfl (by decide) rfl dX6_ceases_237 (by exact hn) ?_
          refine hp_icmp_le (tgt := 245) C dX6_ceases_238 (by decide) (fun c_238 => ?_) (fun c_238 => ?_)
          · refine hp_iconst (v := 0) C dX6_ceases_245 (by decide) ?_
            refine hp_istore C dX6_ceases_246 (by decide) ?_
            refine hp_aload_nR C dX6_ceases_248 e0 ?_
            refine hp_dup C dX6_ceases_249 rfl ?_
            refine mo_getS C sh fl_X6_82_6 rfl (by decide) (v := s.1 18) rfl dX6_ceases_250 ?_
            refine hp_aload_nR C dX6_ceases_253 e0 ?_
            refine mo_getA C sh fl_X6_35_6 rfl (by decide) dX6_ceases_254 ?_
            refine hp_iload C dX6_ceases_257 e6 ?_
            refine mo_ald C sh (f := s.2 10) rfl (by decide) rfl dX6_ceases_259 (by exact hn) ?_
            refine hp_if_lt (tgt := 280) C dX6_ceases_260 (by decide) (fun c_260 => ?_) (fun c_260 => ?_)
            · refine hp_aload_nR C dX6_ceases_280 e0 ?_
              refine mo_getA C sh fl_X6_41_6 rfl (by decide) dX6_ceases_281 ?_
              refine hp_iload C dX6_ceases_284 e6 ?_
              refine mo_ald C sh (f := s.2 12) rfl (by decide) rfl dX6_ceases_286 (by exact hn) ?_
              refine hp_goto (tgt := 297) C dX6_ceases_287 (by decide) ?_
              refine hp_iadd C dX6_ceases_297 ?_
              refine mo_putS C sh fl_X6_82_6 rfl (by decide) rfl rfl rfl dX6_ceases_298 ?_
              refine hp_aload_nR C dX6_ceases_301 e0 ?_
              refine mo_getA C sh fl_X6_20_6 rfl (by decide) dX6_ceases_302 ?_
              refine hp_iload C dX6_ceases_305 e6 ?_
              refine hp_iconst (v := 0) C dX6_ceases_307 (by decide) ?_
              refine mo_ast C sh rfl (by decide) dX6_ceases_308 (by exact hn) ?_
              refine hp_aload_nR C dX6_ceases_309 e0 ?_
              refine hp_iload C dX6_ceases_310 rfl ?_
              refine hp_if_eq (tgt := 319) C dX6_ceases_312 (by decide) (fun _ => ?_) (fun z_9 => absurd z_9 (by decide))
              refine hp_iconst (v := 3) C dX6_ceases_319 (by decide) ?_
              refine hp_iload C dX6_ceases_320 e6 ?_
              refine hp_iconst (v := 0) C dX6_ceases_322 (by decide) ?_
              refine hp_callV (ci := 6) C ml_X6_89 im_X6_note se_X6_note rfl (by decide) (mo_noteC (d := d - 1) sh hev) (by omega) dX6_ceases_323 sh.o rfl rfl (by simp [Value.category]) (fun v_1 h_1 hp => ?_) (fun _ _ hf => hf.elim)
              obtain ⟨rfl, rfl⟩ := hp
              refine hp_iinc C dX6_ceases_326 e5 (by decide) rfl ?_
              refine hp_iinc C dX6_ceases_329 e4 (by decide) rfl ?_
              refine hp_goto (tgt := 29) C dX6_ceases_332 (by decide) ?_
              refine hp_Vc (h2 := mo_w h m (mo_end kl n s)) (by unfold mo_end mo_die mo_dur; (repeat' split) <;> first | rfl | contradiction) ?_
              exact kk _ e0 e2 e3 rfl rfl
            · refine hp_aload_nR C dX6_ceases_263 e0 ?_
              refine mo_getA C sh fl_X6_41_6 rfl (by decide) dX6_ceases_264 ?_
              refine hp_iload C dX6_ceases_267 e6 ?_
              refine mo_ald C sh (f := s.2 12) rfl (by decide) rfl dX6_ceases_269 (by exact hn) ?_
              refine hp_aload_nR C dX6_ceases_270 e0 ?_
              refine mo_getA C sh fl_X6_35_6 rfl (by decide) dX6_ceases_271 ?_
              refine hp_iload C dX6_ceases_274 e6 ?_
              refine mo_ald C sh (f := s.2 10) rfl (by decide) rfl dX6_ceases_276 (by exact hn) ?_
              refine hp_icmp_ge (tgt := 290) C dX6_ceases_277 (by decide) (fun c_277 => ?_) (fun c_277 => ?_)
              · refine hp_aload_nR C dX6_ceases_290 e0 ?_
                refine mo_getA C sh fl_X6_35_6 rfl (by decide) dX6_ceases_291 ?_
                refine hp_iload C dX6_ceases_294 e6 ?_
                refine mo_ald C sh (f := s.2 10) rfl (by decide) rfl dX6_ceases_296 (by exact hn) ?_
                refine hp_iadd C dX6_ceases_297 ?_
                refine mo_putS C sh fl_X6_82_6 rfl (by decide) rfl rfl rfl dX6_ceases_298 ?_
                refine hp_aload_nR C dX6_ceases_301 e0 ?_
                refine mo_getA C sh fl_X6_20_6 rfl (by decide) dX6_ceases_302 ?_
                refine hp_iload C dX6_ceases_305 e6 ?_
                refine hp_iconst (v := 0) C dX6_ceases_307 (by decide) ?_
                refine mo_ast C sh rfl (by decide) dX6_ceases_308 (by exact hn) ?_
                refine hp_aload_nR C dX6_ceases_309 e0 ?_
                refine hp_iload C dX6_ceases_310 rfl ?_
                refine hp_if_eq (tgt := 319) C dX6_ceases_312 (by decide) (fun _ => ?_) (fun z_9 => absurd z_9 (by decide))
                refine hp_iconst (v := 3) C dX6_ceases_319 (by decide) ?_
                refine hp_iload C dX6_ceases_320 e6 ?_
                refine hp_iconst (v := 0) C dX6_ceases_322 (by decide) ?_
                refine hp_callV (ci := 6) C ml_X6_89 im_X6_note se_X6_note rfl (by decide) (mo_noteC (d := d - 1) sh hev) (by omega) dX6_ceases_323 sh.o rfl rfl (by simp [Value.category]) (fun v_1 h_1 hp => ?_) (fun _ _ hf => hf.elim)
                obtain ⟨rfl, rfl⟩ := hp
                refine hp_iinc C dX6_ceases_326 e5 (by decide) rfl ?_
                refine hp_iinc C dX6_ceases_329 e4 (by decide) rfl ?_
                refine hp_goto (tgt := 29) C dX6_ceases_332 (by decide) ?_
                refine hp_Vc (h2 := mo_w h m (mo_end kl n s)) (by unfold mo_end mo_die mo_dur; (repeat' split) <;> first | rfl | contradiction) ?_
                exact kk _ e0 e2 e3 rfl rfl
              · refine hp_aload_nR C dX6_ceases_280 e0 ?_
                refine mo_getA C sh fl_X6_41_6 rfl (by decide) dX6_ceases_281 ?_
                refine hp_iload C dX6_ceases_284 e6 ?_
                refine mo_ald C sh (f := s.2 12) rfl (by decide) rfl dX6_ceases_286 (by exact hn) ?_
                refine hp_goto (tgt := 297) C dX6_ceases_287 (by decide) ?_
                refine hp_iadd C dX6_ceases_297 ?_
                refine mo_putS C sh fl_X6_82_6 rfl (by decide) rfl rfl rfl dX6_ceases_298 ?_
                refine hp_aload_nR C dX6_ceases_301 e0 ?_
                refine mo_getA C sh fl_X6_20_6 rfl (by decide) dX6_ceases_302 ?_
                refine hp_iload C dX6_ceases_305 e6 ?_
                refine hp_iconst (v := 0) C dX6_ceases_307 (by decide) ?_
                refine mo_ast C sh rfl (by decide) dX6_ceases_308 (by exact hn) ?_
                refine hp_aload_nR C dX6_ceases_309 e0 ?_
                refine hp_iload C dX6_ceases_310 rfl ?_
                refine hp_if_eq (tgt := 319) C dX6_ceases_312 (by decide) (fun _ => ?_) (fun z_9 => absurd z_9 (by decide))
                refine hp_iconst (v := 3) C dX6_ceases_319 (by decide) ?_
                refine hp_iload C dX6_ceases_320 e6 ?_
                refine hp_iconst (v := 0) C dX6_ceases_322 (by decide) ?_
                refine hp_callV (ci := 6) C ml_X6_89 im_X6_note se_X6_note rfl (by decide) (mo_noteC (d := d - 1) sh hev) (by omega) dX6_ceases_323 sh.o rfl rfl (by simp [Value.category]) (fun v_1 h_1 hp => ?_) (fun _ _ hf => hf.elim)
                obtain ⟨rfl, rfl⟩ := hp
                refine hp_iinc C dX6_ceases_326 e5 (by decide) rfl ?_
                refine hp_iinc C dX6_ceases_329 e4 (by decide) rfl ?_
                refine hp_goto (tgt := 29) C dX6_ceases_332 (by decide) ?_
                refine hp_Vc (h2 := mo_w h m (mo_end kl n s)) (by unfold mo_end mo_die mo_dur; (repeat' split) <;> first | rfl | contradiction) ?_
                exact kk _ e0 e2 e3 rfl rfl
          · refine hp_iconst (v := 1) C dX6_ceases_241 (by decide) ?_
            refine hp_goto (tgt := 246) C dX6_ceases_242 (by decide) ?_
            refine hp_istore C dX6_ceases_246 (by decide) ?_
            refine hp_aload_nR C dX6_ceases_248 e0 ?_
            refine hp_dup C dX6_ceases_249 rfl ?_
            refine mo_getS C sh fl_X6_82_6 rfl (by decide) (v := s.1 18) rfl dX6_ceases_250 ?_
            refine hp_aload_nR C dX6_ceases_253 e0 ?_
            refine mo_getA C sh fl_X6_35_6 rfl (by decide) dX6_ceases_254 ?_
            refine hp_iload C dX6_ceases_257 e6 ?_
            refine mo_ald C sh (f := s.2 10) rfl (by decide) rfl dX6_ceases_259 (by exact hn) ?_
            refine hp_if_lt (tgt := 280) C dX6_ceases_260 (by decide) (fun c_260 => ?_) (fun c_260 => ?_)
            · refine hp_aload_nR C dX6_ceases_280 e0 ?_
              refine mo_getA C sh fl_X6_41_6 rfl (by decide) dX6_ceases_281 ?_
              refine hp_iload C dX6_ceases_284 e6 ?_
              refine mo_ald C sh (f := s.2 12) rfl (by decide) rfl dX6_ceases_286 (by exact hn) ?_
              refine hp_goto (tgt := 297) C dX6_ceases_287 (by decide) ?_
              refine hp_iadd C dX6_ceases_297 ?_
              refine mo_putS C sh fl_X6_82_6 rfl (by decide) rfl rfl rfl dX6_ceases_298 ?_
              refine hp_aload_nR C dX6_ceases_301 e0 ?_
              refine mo_getA C sh fl_X6_20_6 rfl (by decide) dX6_ceases_302 ?_
              refine hp_iload C dX6_ceases_305 e6 ?_
              refine hp_iconst (v := 0) C dX6_ceases_307 (by decide) ?_
              refine mo_ast C sh rfl (by decide) dX6_ceases_308 (by exact hn) ?_
              refine hp_aload_nR C dX6_ceases_309 e0 ?_
              refine hp_iload C dX6_ceases_310 rfl ?_
              refine hp_if_eq (tgt := 319) C dX6_ceases_312 (by decide) (fun z_9 => absurd z_9 (by decide)) (fun _ => ?_)
              refine hp_iconst (v := 4) C dX6_ceases_315 (by decide) ?_
              refine hp_goto (tgt := 320) C dX6_ceases_316 (by decide) ?_
              refine hp_iload C dX6_ceases_320 e6 ?_
              refine hp_iconst (v := 0) C dX6_ceases_322 (by decide) ?_
              refine hp_callV (ci := 6) C ml_X6_89 im_X6_note se_X6_note rfl (by decide) (mo_noteC (d := d - 1) sh hev) (by omega) dX6_ceases_323 sh.o rfl rfl (by simp [Value.category]) (fun v_1 h_1 hp => ?_) (fun _ _ hf => hf.elim)
              obtain ⟨rfl, rfl⟩ := hp
              refine hp_iinc C dX6_ceases_326 e5 (by decide) rfl ?_
              refine hp_iinc C dX6_ceases_329 e4 (by decide) rfl ?_
              refine hp_goto (tgt := 29) C dX6_ceases_332 (by decide) ?_
              refine hp_Vc (h2 := mo_w h m (mo_end kl n s)) (by unfold mo_end mo_die mo_dur; (repeat' split) <;> first | rfl | contradiction) ?_
              exact kk _ e0 e2 e3 rfl rfl
            · refine hp_aload_nR C dX6_ceases_263 e0 ?_
              refine mo_getA C sh fl_X6_41_6 rfl (by decide) dX6_ceases_264 ?_
              refine hp_iload C dX6_ceases_267 e6 ?_
              refine mo_ald C sh (f := s.2 12) rfl (by decide) rfl dX6_ceases_269 (by exact hn) ?_
              refine hp_aload_nR C dX6_ceases_270 e0 ?_
              refine mo_getA C sh fl_X6_35_6 rfl (by decide) dX6_ceases_271 ?_
              refine hp_iload C dX6_ceases_274 e6 ?_
              refine mo_ald C sh (f := s.2 10) rfl (by decide) rfl dX6_ceases_276 (by exact hn) ?_
              refine hp_icmp_ge (tgt := 290) C dX6_ceases_277 (by decide) (fun c_277 => ?_) (fun c_277 => ?_)
              · refine hp_aload_nR C dX6_ceases_290 e0 ?_
                refine mo_getA C sh fl_X6_35_6 rfl (by decide) dX6_ceases_291 ?_
                refine hp_iload C dX6_ceases_294 e6 ?_
                refine mo_ald C sh (f := s.2 10) rfl (by decide) rfl dX6_ceases_296 (by exact hn) ?_
                refine hp_iadd C dX6_ceases_297 ?_
                refine mo_putS C sh fl_X6_82_6 rfl (by decide) rfl rfl rfl dX6_ceases_298 ?_
                refine hp_aload_nR C dX6_ceases_301 e0 ?_
                refine mo_getA C sh fl_X6_20_6 rfl (by decide) dX6_ceases_302 ?_
                refine hp_iload C dX6_ceases_305 e6 ?_
                refine hp_iconst (v := 0) C dX6_ceases_307 (by decide) ?_
                refine mo_ast C sh rfl (by decide) dX6_ceases_308 (by exact hn) ?_
                refine hp_aload_nR C dX6_ceases_309 e0 ?_
                refine hp_iload C dX6_ceases_310 rfl ?_
                refine hp_if_eq (tgt := 319) C dX6_ceases_312 (by decide) (fun z_9 => absurd z_9 (by decide)) (fun _ => ?_)
                refine hp_iconst (v := 4) C dX6_ceases_315 (by decide) ?_
                refine hp_goto (tgt := 320) C dX6_ceases_316 (by decide) ?_
                refine hp_iload C dX6_ceases_320 e6 ?_
                refine hp_iconst (v := 0) C dX6_ceases_322 (by decide) ?_
                refine hp_callV (ci := 6) C ml_X6_89 im_X6_note se_X6_note rfl (by decide) (mo_noteC (d := d - 1) sh hev) (by omega) dX6_ceases_323 sh.o rfl rfl (by simp [Value.category]) (fun v_1 h_1 hp => ?_) (fun _ _ hf => hf.elim)
                obtain ⟨rfl, rfl⟩ := hp
                refine hp_iinc C dX6_ceases_326 e5 (by decide) rfl ?_
                refine hp_iinc C dX6_ceases_329 e4 (by decide) rfl ?_
                refine hp_goto (tgt := 29) C dX6_ceases_332 (by decide) ?_
                refine hp_Vc (h2 := mo_w h m (mo_end kl n s)) (by unfold mo_end mo_die mo_dur; (repeat' split) <;> first | rfl | contradiction) ?_
                exact kk _ e0 e2 e3 rfl rfl
              · refine hp_aload_nR C dX6_ceases_280 e0 ?_
                refine mo_getA C sh fl_X6_41_6 rfl (by decide) dX6_ceases_281 ?_
                refine hp_iload C dX6_ceases_284 e6 ?_
                refine mo_ald C sh (f := s.2 12) rfl (by decide) rfl dX6_ceases_286 (by exact hn) ?_
                refine hp_goto (tgt := 297) C dX6_ceases_287 (by decide) ?_
                refine hp_iadd C dX6_ceases_297 ?_
                refine mo_putS C sh fl_X6_82_6 rfl (by decide) rfl rfl rfl dX6_ceases_298 ?_
                refine hp_aload_nR C dX6_ceases_301 e0 ?_
                refine mo_getA C sh fl_X6_20_6 rfl (by decide) dX6_ceases_302 ?_
                refine hp_iload C dX6_ceases_305 e6 ?_
                refine hp_iconst (v := 0) C dX6_ceases_307 (by decide) ?_
                refine mo_ast C sh rfl (by decide) dX6_ceases_308 (by exact hn) ?_
                refine hp_aload_nR C dX6_ceases_309 e0 ?_
                refine hp_iload C dX6_ceases_310 rfl ?_
                refine hp_if_eq (tgt := 319) C dX6_ceases_312 (by decide) (fun z_9 => absurd z_9 (by decide)) (fun _ => ?_)
                refine hp_iconst (v := 4) C dX6_ceases_315 (by decide) ?_
                refine hp_goto (tgt := 320) C dX6_ceases_316 (by decide) ?_
                refine hp_iload C dX6_ceases_320 e6 ?_
                refine hp_iconst (v := 0) C dX6_ceases_322 (by decide) ?_
                refine hp_callV (ci := 6) C ml_X6_89 im_X6_note se_X6_note rfl (by decide) (mo_noteC (d := d - 1) sh hev) (by omega) dX6_ceases_323 sh.o rfl rfl (by simp [Value.category]) (fun v_1 h_1 hp => ?_) (fun _ _ hf => hf.elim)
                obtain ⟨rfl, rfl⟩ := hp
                refine hp_iinc C dX6_ceases_326 e5 (by decide) rfl ?_
                refine hp_iinc C dX6_ceases_329 e4 (by decide) rfl ?_
                refine hp_goto (tgt := 29) C dX6_ceases_332 (by decide) ?_
                refine hp_Vc (h2 := mo_w h m (mo_end kl n s)) (by unfold mo_end mo_die mo_dur; (repeat' split) <;> first | rfl | contradiction) ?_
                exact kk _ e0 e2 e3 rfl rfl
end
section
/-! ===== THE CLASS IN GENERAL: where things lie (role, node), the lists' counters of changes, the restarts' times that are kept ===== -/
abbrev kS : Type := (Nat → Nat → Nat) × (Nat → Int32) × (Nat → List Nat)
/-- roles: 0 a node, 1 its list, 2 the list's elements, 3 its restarts, 4 their times; 5: the tree 0, the journal 1, its columns 2, a column 3 to 6, the nodes 7 -/
abbrev k_ad (κ : kS) : Nat → Nat → Nat := κ.1
abbrev k_mc (κ : kS) : Nat → Int32 := κ.2.1
abbrev k_rt (κ : kS) : Nat → List Nat := κ.2.2
/-- the object that has field f, for node n -/
def k_at (κ : kS) (f n : Nat) : Nat := if f < 3 then κ.1 1 n else if f < 35 then κ.1 5 1 else if f < 74 then κ.1 0 n else if f < 98 then κ.1 3 n else if f < 137 then κ.1 0 n else κ.1 5 0
def k_ok (a : aS) (f n : Nat) : Prop := (f < 3 ∧ n < a_mk a ∧ a_nd a 0 n = 1) ∨ (32 ≤ f ∧ f < 35 ∧ n = 0) ∨ (64 ≤ f ∧ f < 69 ∧ n < a_mk a) ∨ (69 ≤ f ∧ f < 74 ∧ n < a_mk a ∧ a_nd a 0 n = 1) ∨ (96 ≤ f ∧ f < 98 ∧ n < a_mk a ∧ a_nd a 0 n = 1) ∨ (133 ≤ f ∧ f < 137 ∧ n < a_mk a ∧ a_nd a 0 n = 0) ∨ (160 ≤ f ∧ f < 166 ∧ n = 0)
/-- is field f a number of the node -/
def k_isN (f : Nat) : Bool := (f == 66) || (f == 67) || (f == 68) || (f == 71) || (f == 72) || (f == 73) || (decide (133 ≤ f) && decide (f < 137))
def k_ix (f : Nat) : Nat := if f = 66 then 2 else if f = 67 then 4 else if f = 68 then 3 else if f < 74 then f - 66 else f - 125
/-- what the other fields hold: of the counters c, the lists' lengths w, the parents p -/
def k_fo (κ : kS) (mk tm rs gv ev : Nat) (w : Nat → Nat) (p : Nat → Int) (f n : Nat) : Value :=
  if f = 0 then .int (κ.2.1 n) else if f = 1 then .ref (κ.1 2 n) else if f = 2 then .int (nI (w n))
  else if f = 32 then .ref (κ.1 5 2) else if f = 33 then .int (nI tm) else if f = 34 then .int (nI ev)
  else if f = 64 then .int (nI n) else if f = 65 then va_rf (if n = 0 then none else some (κ.1 0 (p n).toNat))
  else if f = 69 then .ref (κ.1 1 n) else if f = 70 then .ref (κ.1 3 n)
  else if f = 96 then .ref (κ.1 4 n) else if f = 97 then .int (nI (κ.2.2 n).length)
  else if f = 160 then .ref (κ.1 5 1) else if f = 161 then .ref (κ.1 5 7) else if f = 162 then .ref (κ.1 0 0)
  else if f = 163 then .int (nI mk) else if f = 164 then .int (nI rs) else if f = 165 then .int (nI gv) else .null
def k_fv (κ : kS) (a : aS) (f n : Nat) : Value := if k_isN f = true then .int (Int32.ofInt (a_nd a (k_ix f) n)) else k_fo κ (a_mk a) (a_tm a) (a_rs a) (a_gv a) (a_ev a).length (fun n => (a_rw a n).length) (a_nd a 1) f n
def k_ec (j : Nat) (q : Nat × Nat × Nat × Nat) : Nat := if j = 0 then q.1 else if j = 1 then q.2.1 else if j = 2 then q.2.2.1 else q.2.2.2
def k_aok (κ : kS) (a : aS) (r n i : Nat) : Prop := (r = 2 ∧ n < a_mk a ∧ a_nd a 0 n = 1 ∧ i < (a_rw a n).length) ∨ (r = 4 ∧ n < a_mk a ∧ a_nd a 0 n = 1 ∧ i < (k_rt κ n).length) ∨ (r = 5 ∧ n = 2 ∧ i < 4) ∨ (r = 5 ∧ 3 ≤ n ∧ n < 7 ∧ i < 600 ∧ i < (a_ev a).length) ∨ (r = 5 ∧ n = 7 ∧ i < 80)
def k_av (κ : kS) (a : aS) (r n i : Nat) : Value := if r = 2 then .ref (κ.1 0 ((a_rw a n).getD i 0)) else if r = 4 then .int (nI ((κ.2.2 n).getD i 0)) else if n = 2 then .ref (κ.1 5 (3 + i)) else if n = 7 then va_rf (if i < a_mk a then some (κ.1 0 i) else none) else .int (nI (k_ec (n - 3) ((a_ev a).getD i (0, 0, 0, 0))))
/-- an object of the class's own (pr: the cells of others) -/
def k_is (G : hpG) (pr : Nat → Prop) (h : hpT) (b k : Nat) : Prop := hp_is G h b k ∧ ¬ pr b
def k_S (G : hpG) (pr : Nat → Prop) (h : hpT) (κ : kS) (a : aS) : Prop :=
  (∀ n, n < a_mk a → k_is G pr h (κ.1 0 n) (if a_nd a 0 n = 0 then 4 else 2)) ∧
  (∀ n, n < a_mk a → a_nd a 0 n = 1 → k_is G pr h (κ.1 1 n) 0 ∧ k_is G pr h (κ.1 3 n) 3 ∧ k_is G pr h (κ.1 4 n) 10 ∧ (κ.2.2 n).length ≤ hp_ln h (κ.1 4 n) ∧ ((a_rw a n = [] ∧ κ.1 2 n = hp_dE G) ∨ (k_is G pr h (κ.1 2 n) 13 ∧ (a_rw a n).length ≤ hp_ln h (κ.1 2 n)))) ∧
  k_is G pr h (κ.1 5 0) 5 ∧ k_is G pr h (κ.1 5 1) 1 ∧ (k_is G pr h (κ.1 5 2) 15 ∧ hp_ln h (κ.1 5 2) = 4) ∧ (∀ j, j < 4 → k_is G pr h (κ.1 5 (3 + j)) 10 ∧ hp_ln h (κ.1 5 (3 + j)) = 600) ∧ (k_is G pr h (κ.1 5 7) 14 ∧ hp_ln h (κ.1 5 7) = 80)
def k_I (G : hpG) (κ : kS) (a : aS) : Prop :=
  (∀ n m, n < a_mk a → m < a_mk a → κ.1 0 n = κ.1 0 m → n = m) ∧
  (∀ r n m, (r = 1 ∨ r = 3 ∨ r = 4 ∨ (r = 2 ∧ hp_n0 G ≤ κ.1 2 n)) → n < a_mk a → m < a_mk a → a_nd a 0 n = 1 → a_nd a 0 m = 1 → κ.1 r n = κ.1 r m → n = m) ∧
  (∀ n j, n < a_mk a → a_nd a 0 n = 1 → j < 4 → κ.1 4 n ≠ κ.1 5 (3 + j)) ∧ (∀ i j, i < 4 → j < 4 → κ.1 5 (3 + i) = κ.1 5 (3 + j) → i = j)
def k_V (h : hpT) (κ : kS) (a : aS) : Prop := ∀ f n, k_ok a f n → hp_fl h f (k_at κ f n) = k_fv κ a f n
def k_A (h : hpT) (κ : kS) (a : aS) : Prop := ∀ r n i, k_aok κ a r n i → hp_ar h (κ.1 r n) i = k_av κ a r n i
/-- the cells of others are as in B -/
def k_F (pr : Nat → Prop) (B h : hpT) : Prop := ∀ b, pr b → b < hp_nx h ∧ hp_kd h b = hp_kd B b ∧ hp_ln h b = hp_ln B b ∧ (∀ f, hp_fl h f b = hp_fl B f b) ∧ hp_ar h b = hp_ar B b
/-- how full the rows of times are, beyond the half -/
def k_po (l : Nat → Nat) (κ : kS) (kp : Nat → Int) : Nat → Nat := fun n => if kp n = 1 then 4 * ((κ.2.2 n).length - l (κ.1 4 n) / 2) else 0
def k_B (N S : Nat) (h : hpT) (κ : kS) (a : aS) : Prop := hp_nx h ≤ N ∧ hp_sl h + hp_sm (k_po (hp_ln h) κ (a_nd a 0)) 0 (a_mk a) ≤ S
/-- the times that are kept are the last ones; those that are not are older than any t reaches -/
def k_T (κ : kS) (a : aS) : Prop := ∀ n, n < a_mk a → a_nd a 0 n = 1 → ∃ dr, a_rt a n = dr ++ κ.2.2 n ∧ ∀ x ∈ dr, x + 1000 < a_tm a
def KR (G : hpG) (pr : Nat → Prop) (B : hpT) (N S : Nat) (h : hpT) (κ : kS) (a : aS) : Prop := k_S G pr h κ a ∧ k_I G κ a ∧ k_V h κ a ∧ k_A h κ a ∧ k_F pr B h ∧ k_B N S h κ a ∧ k_T κ a
section KRS
variable {G : hpG} {pr : Nat → Prop} {B : hpT} {N S : Nat} {h : hpT} {κ : kS} {a : aS} {n : Nat}
theorem KR.V (K : KR G pr B N S h κ a) : k_V h κ a := K.2.2.1
theorem KR.A (K : KR G pr B N S h κ a) : k_A h κ a := K.2.2.2.1
theorem KR.isT (K : KR G pr B N S h κ a) : hp_is G h (κ.1 5 0) 5 := K.1.2.2.1.1
theorem KR.isJ (K : KR G pr B N S h κ a) : hp_is G h (κ.1 5 1) 1 := K.1.2.2.2.1.1
theorem KR.isC (K : KR G pr B N S h κ a) : hp_is G h (κ.1 5 2) 15 ∧ hp_ln h (κ.1 5 2) = 4 := ⟨K.1.2.2.2.2.1.1.1, K.1.2.2.2.2.1.2⟩
theorem KR.isc (K : KR G pr B N S h κ a) {j : Nat} (hj : j < 4) : hp_is G h (κ.1 5 (3 + j)) 10 ∧ hp_ln h (κ.1 5 (3 + j)) = 600 := ⟨(K.1.2.2.2.2.2.1 j hj).1.1, (K.1.2.2.2.2.2.1 j hj).2⟩
theorem KR.isM (K : KR G pr B N S h κ a) : hp_is G h (κ.1 5 7) 14 ∧ hp_ln h (κ.1 5 7) = 80 := ⟨K.1.2.2.2.2.2.2.1.1, K.1.2.2.2.2.2.2.2⟩
theorem KR.isK (K : KR G pr B N S h κ a) (hn : n < a_mk a) (hk : a_nd a 0 n = 1) : hp_is G h (κ.1 0 n) 2 := by
  have := (K.1.1 n hn).1
  rwa [if_neg (by omega)] at this
theorem KR.isW (K : KR G pr B N S h κ a) (hn : n < a_mk a) (hk : a_nd a 0 n = 0) : hp_is G h (κ.1 0 n) 4 := by
  have := (K.1.1 n hn).1
  rwa [if_pos hk] at this
theorem KR.prN (K : KR G pr B N S h κ a) (hn : n < a_mk a) : ¬ pr (κ.1 0 n) := (K.1.1 n hn).2
theorem KR.isL (K : KR G pr B N S h κ a) (hn : n < a_mk a) (hk : a_nd a 0 n = 1) : hp_is G h (κ.1 1 n) 0 := (K.1.2.1 n hn hk).1.1
theorem KR.isR (K : KR G pr B N S h κ a) (hn : n < a_mk a) (hk : a_nd a 0 n = 1) : hp_is G h (κ.1 3 n) 3 := (K.1.2.1 n hn hk).2.1.1
theorem KR.isI (K : KR G pr B N S h κ a) (hn : n < a_mk a) (hk : a_nd a 0 n = 1) : hp_is G h (κ.1 4 n) 10 ∧ (κ.2.2 n).length ≤ hp_ln h (κ.1 4 n) := ⟨(K.1.2.1 n hn hk).2.2.1.1, (K.1.2.1 n hn hk).2.2.2.1⟩
theorem KR.isE (K : KR G pr B N S h κ a) (hn : n < a_mk a) (hk : a_nd a 0 n = 1) : (a_rw a n = [] ∧ κ.1 2 n = hp_dE G) ∨ (k_is G pr h (κ.1 2 n) 13 ∧ (a_rw a n).length ≤ hp_ln h (κ.1 2 n)) := (K.1.2.1 n hn hk).2.2.2.2
theorem KR.prA (K : KR G pr B N S h κ a) {f : Nat} (ok : k_ok a f n) : ¬ pr (k_at κ f n) := by
  rcases ok with ⟨h1, h2, h3⟩ | ⟨h1, h2, h3⟩ | ⟨h1, h2, h3⟩ | ⟨h1, h2, h3, h4⟩ | ⟨h1, h2, h3, h4⟩ | ⟨h1, h2, h3, h4⟩ | ⟨h1, h2, h3⟩ <;> unfold k_at
  · rw [if_pos h1]; exact (K.1.2.1 n h2 h3).1.2
  · rw [if_neg (by omega), if_pos h2]; exact K.1.2.2.2.1.2
  · rw [if_neg (by omega), if_neg (by omega), if_pos (by omega)]; exact (K.1.1 n h3).2
  · rw [if_neg (by omega), if_neg (by omega), if_pos (by omega)]; exact (K.1.1 n h3).2
  · rw [if_neg (by omega), if_neg (by omega), if_neg (by omega), if_pos (by omega)]; exact (K.1.2.1 n h3 h4).2.1.2
  · rw [if_neg (by omega), if_neg (by omega), if_neg (by omega), if_neg (by omega), if_pos (by omega)]; exact (K.1.1 n h3).2
  · rw [if_neg (by omega), if_neg (by omega), if_neg (by omega), if_neg (by omega), if_neg (by omega)]; exact K.1.2.2.1.2
/-- one object, one node -/
theorem KR.inj (K : KR G pr B N S h κ a) {f m : Nat} (ok : k_ok a f n) (ok' : k_ok a f m) (e : k_at κ f n = k_at κ f m) : n = m := by
  obtain ⟨i1, i2, -, -⟩ := K.2.1
  unfold k_at at e
  rcases ok with ⟨h1, h2, h3⟩ | ⟨h1, h2, h3⟩ | ⟨h1, h2, h3⟩ | ⟨h1, h2, h3, h4⟩ | ⟨h1, h2, h3, h4⟩ | ⟨h1, h2, h3, h4⟩ | ⟨h1, h2, h3⟩ <;>
  rcases ok' with ⟨g1, g2, g3⟩ | ⟨g1, g2, g3⟩ | ⟨g1, g2, g3⟩ | ⟨g1, g2, g3, g4⟩ | ⟨g1, g2, g3, g4⟩ | ⟨g1, g2, g3, g4⟩ | ⟨g1, g2, g3⟩ <;> try omega
  · rw [if_pos h1, if_pos h1] at e; exact i2 1 n m (Or.inl rfl) h2 g2 h3 g3 e
  · rw [if_neg (by omega), if_neg (by omega), if_pos (by omega), if_neg (by omega), if_neg (by omega), if_pos (by omega)] at e; exact i1 n m h3 g3 e
  · rw [if_neg (by omega), if_neg (by omega), if_pos (by omega), if_neg (by omega), if_neg (by omega), if_pos (by omega)] at e; exact i1 n m h3 g3 e
  · rw [if_neg (by omega), if_neg (by omega), if_neg (by omega), if_pos (by omega), if_neg (by omega), if_neg (by omega), if_neg (by omega), if_pos (by omega)] at e; exact i2 3 n m (Or.inr (Or.inl rfl)) h3 g3 h4 g4 e
  · rw [if_neg (by omega), if_neg (by omega), if_neg (by omega), if_neg (by omega), if_pos (by omega), if_neg (by omega), if_neg (by omega), if_neg (by omega), if_neg (by omega), if_pos (by omega)] at e; exact i1 n m h3 g3 e
/-- a field is written: all others are as they were -/
theorem k_F.put (x : k_F pr B h) {f b : Nat} {v : Value} (hb : ¬ pr b) : k_F pr B (hp_put h f b v) := by
  intro c hc
  obtain ⟨x1, x2, x3, x4, x5⟩ := x c hc
  refine ⟨x1, x2, x3, fun g => ?_, x5⟩
  rw [hp_put_fl]
  by_cases e : g = f
  · rw [if_pos e, if_neg (fun z : c = b => hb (z ▸ hc)), ← e]
    exact x4 g
  · rw [if_neg e]
    exact x4 g
theorem k_F.set (x : k_F pr B h) {b i : Nat} {v : Value} (hb : ¬ pr b) : k_F pr B (hp_set h b i v) := by
  intro c hc
  obtain ⟨x1, x2, x3, x4, x5⟩ := x c hc
  refine ⟨x1, x2, x3, x4, ?_⟩
  funext j
  rw [hp_set_ar, if_neg (fun z : c = b => hb (z ▸ hc))]
  exact congrFun x5 j
theorem KR.putV (K : KR G pr B N S h κ a) {f : Nat} {v : Value} {κ' : kS} {a' : aS} (ok : k_ok a f n) (hok : ∀ g m, k_ok a' g m → k_ok a g m) (had : ∀ g m, k_at κ' g m = k_at κ g m) (hv : k_fv κ' a' f n = v) (hne : ∀ g m, k_ok a' g m → (g = f → m ≠ n) → k_fv κ' a' g m = k_fv κ a g m) : k_V (hp_put h f (k_at κ f n) v) κ' a' := by
  intro g m okg
  rw [hp_put_fl, had]
  by_cases e : g = f
  · subst e
    rw [if_pos rfl]
    by_cases e2 : m = n
    · subst e2
      rw [if_pos rfl, hv]
    · rw [if_neg (fun z => e2 (K.inj (hok _ _ okg) ok z)), hne g m okg (fun _ => e2)]
      exact K.V g m (hok _ _ okg)
  · rw [if_neg e, hne g m okg (fun z => absurd z e)]
    exact K.V g m (hok _ _ okg)
end KRS
/-- a number's place says its field -/
theorem k_ixi {g f : Nat} (e : k_isN g = true) (e2 : k_ix g = k_ix f) (hf : k_isN f = true := by decide) : g = f := by
  unfold k_isN at e hf
  simp only [Bool.or_eq_true, Bool.and_eq_true, decide_eq_true_eq, beq_iff_eq] at e hf
  unfold k_ix at e2
  (repeat' split at e2) <;> omega
section KRF
variable {G : hpG} {pr : Nat → Prop} {B : hpT} {N S : Nat} {h : hpT} {κ : kS} {a : aS} {n : Nat}
theorem k_o0 (hn : n < a_mk a) (hk : a_nd a 0 n = 1) : k_ok a 0 n := Or.inl ⟨by decide, hn, hk⟩
theorem KR.f0 (K : KR G pr B N S h κ a) (hn : n < a_mk a) (hk : a_nd a 0 n = 1) : hp_fl h 0 (κ.1 1 n) = .int (κ.2.1 n) := K.V 0 n (k_o0 hn hk)
theorem k_o1 (hn : n < a_mk a) (hk : a_nd a 0 n = 1) : k_ok a 1 n := Or.inl ⟨by decide, hn, hk⟩
theorem KR.f1 (K : KR G pr B N S h κ a) (hn : n < a_mk a) (hk : a_nd a 0 n = 1) : hp_fl h 1 (κ.1 1 n) = .ref (κ.1 2 n) := K.V 1 n (k_o1 hn hk)
theorem k_o2 (hn : n < a_mk a) (hk : a_nd a 0 n = 1) : k_ok a 2 n := Or.inl ⟨by decide, hn, hk⟩
theorem KR.f2 (K : KR G pr B N S h κ a) (hn : n < a_mk a) (hk : a_nd a 0 n = 1) : hp_fl h 2 (κ.1 1 n) = .int (nI (a_rw a n).length) := K.V 2 n (k_o2 hn hk)
theorem k_o32 : k_ok a 32 0 := Or.inr (Or.inl ⟨by decide, by decide, rfl⟩)
theorem KR.f32 (K : KR G pr B N S h κ a) : hp_fl h 32 (κ.1 5 1) = .ref (κ.1 5 2) := K.V 32 0 (k_o32)
theorem k_o33 : k_ok a 33 0 := Or.inr (Or.inl ⟨by decide, by decide, rfl⟩)
theorem KR.f33 (K : KR G pr B N S h κ a) : hp_fl h 33 (κ.1 5 1) = .int (nI (a_tm a)) := K.V 33 0 (k_o33)
theorem k_o34 : k_ok a 34 0 := Or.inr (Or.inl ⟨by decide, by decide, rfl⟩)
theorem KR.f34 (K : KR G pr B N S h κ a) : hp_fl h 34 (κ.1 5 1) = .int (nI (a_ev a).length) := K.V 34 0 (k_o34)
theorem k_o64 (hn : n < a_mk a) : k_ok a 64 n := Or.inr (Or.inr (Or.inl ⟨by decide, by decide, hn⟩))
theorem KR.f64 (K : KR G pr B N S h κ a) (hn : n < a_mk a) : hp_fl h 64 (κ.1 0 n) = .int (nI n) := K.V 64 n (k_o64 hn)
theorem k_o65 (hn : n < a_mk a) : k_ok a 65 n := Or.inr (Or.inr (Or.inl ⟨by decide, by decide, hn⟩))
theorem KR.f65 (K : KR G pr B N S h κ a) (hn : n < a_mk a) : hp_fl h 65 (κ.1 0 n) = va_rf (if n = 0 then none else some (κ.1 0 (a_nd a 1 n).toNat)) := K.V 65 n (k_o65 hn)
theorem k_o66 (hn : n < a_mk a) : k_ok a 66 n := Or.inr (Or.inr (Or.inl ⟨by decide, by decide, hn⟩))
theorem KR.f66 (K : KR G pr B N S h κ a) (hn : n < a_mk a) : hp_fl h 66 (κ.1 0 n) = .int (Int32.ofInt (a_nd a 2 n)) := K.V 66 n (k_o66 hn)
theorem k_o67 (hn : n < a_mk a) : k_ok a 67 n := Or.inr (Or.inr (Or.inl ⟨by decide, by decide, hn⟩))
theorem KR.f67 (K : KR G pr B N S h κ a) (hn : n < a_mk a) : hp_fl h 67 (κ.1 0 n) = .int (Int32.ofInt (a_nd a 4 n)) := K.V 67 n (k_o67 hn)
theorem k_o68 (hn : n < a_mk a) : k_ok a 68 n := Or.inr (Or.inr (Or.inl ⟨by decide, by decide, hn⟩))
theorem KR.f68 (K : KR G pr B N S h κ a) (hn : n < a_mk a) : hp_fl h 68 (κ.1 0 n) = .int (Int32.ofInt (a_nd a 3 n)) := K.V 68 n (k_o68 hn)
theorem k_o69 (hn : n < a_mk a) (hk : a_nd a 0 n = 1) : k_ok a 69 n := Or.inr (Or.inr (Or.inr (Or.inl ⟨by decide, by decide, hn, hk⟩)))
theorem KR.f69 (K : KR G pr B N S h κ a) (hn : n < a_mk a) (hk : a_nd a 0 n = 1) : hp_fl h 69 (κ.1 0 n) = .ref (κ.1 1 n) := K.V 69 n (k_o69 hn hk)
theorem k_o70 (hn : n < a_mk a) (hk : a_nd a 0 n = 1) : k_ok a 70 n := Or.inr (Or.inr (Or.inr (Or.inl ⟨by decide, by decide, hn, hk⟩)))
theorem KR.f70 (K : KR G pr B N S h κ a) (hn : n < a_mk a) (hk : a_nd a 0 n = 1) : hp_fl h 70 (κ.1 0 n) = .ref (κ.1 3 n) := K.V 70 n (k_o70 hn hk)
theorem k_o71 (hn : n < a_mk a) (hk : a_nd a 0 n = 1) : k_ok a 71 n := Or.inr (Or.inr (Or.inr (Or.inl ⟨by decide, by decide, hn, hk⟩)))
theorem KR.f71 (K : KR G pr B N S h κ a) (hn : n < a_mk a) (hk : a_nd a 0 n = 1) : hp_fl h 71 (κ.1 0 n) = .int (Int32.ofInt (a_nd a 5 n)) := K.V 71 n (k_o71 hn hk)
theorem k_o72 (hn : n < a_mk a) (hk : a_nd a 0 n = 1) : k_ok a 72 n := Or.inr (Or.inr (Or.inr (Or.inl ⟨by decide, by decide, hn, hk⟩)))
theorem KR.f72 (K : KR G pr B N S h κ a) (hn : n < a_mk a) (hk : a_nd a 0 n = 1) : hp_fl h 72 (κ.1 0 n) = .int (Int32.ofInt (a_nd a 6 n)) := K.V 72 n (k_o72 hn hk)
theorem k_o73 (hn : n < a_mk a) (hk : a_nd a 0 n = 1) : k_ok a 73 n := Or.inr (Or.inr (Or.inr (Or.inl ⟨by decide, by decide, hn, hk⟩)))
theorem KR.f73 (K : KR G pr B N S h κ a) (hn : n < a_mk a) (hk : a_nd a 0 n = 1) : hp_fl h 73 (κ.1 0 n) = .int (Int32.ofInt (a_nd a 7 n)) := K.V 73 n (k_o73 hn hk)
theorem k_o96 (hn : n < a_mk a) (hk : a_nd a 0 n = 1) : k_ok a 96 n := Or.inr (Or.inr (Or.inr (Or.inr (Or.inl ⟨by decide, by decide, hn, hk⟩))))
theorem KR.f96 (K : KR G pr B N S h κ a) (hn : n < a_mk a) (hk : a_nd a 0 n = 1) : hp_fl h 96 (κ.1 3 n) = .ref (κ.1 4 n) := K.V 96 n (k_o96 hn hk)
theorem k_o97 (hn : n < a_mk a) (hk : a_nd a 0 n = 1) : k_ok a 97 n := Or.inr (Or.inr (Or.inr (Or.inr (Or.inl ⟨by decide, by decide, hn, hk⟩))))
theorem KR.f97 (K : KR G pr B N S h κ a) (hn : n < a_mk a) (hk : a_nd a 0 n = 1) : hp_fl h 97 (κ.1 3 n) = .int (nI (κ.2.2 n).length) := K.V 97 n (k_o97 hn hk)
theorem k_o133 (hn : n < a_mk a) (hk : a_nd a 0 n = 0) : k_ok a 133 n := Or.inr (Or.inr (Or.inr (Or.inr (Or.inr (Or.inl ⟨by decide, by decide, hn, hk⟩)))))
theorem KR.f133 (K : KR G pr B N S h κ a) (hn : n < a_mk a) (hk : a_nd a 0 n = 0) : hp_fl h 133 (κ.1 0 n) = .int (Int32.ofInt (a_nd a 8 n)) := K.V 133 n (k_o133 hn hk)
theorem k_o134 (hn : n < a_mk a) (hk : a_nd a 0 n = 0) : k_ok a 134 n := Or.inr (Or.inr (Or.inr (Or.inr (Or.inr (Or.inl ⟨by decide, by decide, hn, hk⟩)))))
theorem KR.f134 (K : KR G pr B N S h κ a) (hn : n < a_mk a) (hk : a_nd a 0 n = 0) : hp_fl h 134 (κ.1 0 n) = .int (Int32.ofInt (a_nd a 9 n)) := K.V 134 n (k_o134 hn hk)
theorem k_o135 (hn : n < a_mk a) (hk : a_nd a 0 n = 0) : k_ok a 135 n := Or.inr (Or.inr (Or.inr (Or.inr (Or.inr (Or.inl ⟨by decide, by decide, hn, hk⟩)))))
theorem KR.f135 (K : KR G pr B N S h κ a) (hn : n < a_mk a) (hk : a_nd a 0 n = 0) : hp_fl h 135 (κ.1 0 n) = .int (Int32.ofInt (a_nd a 10 n)) := K.V 135 n (k_o135 hn hk)
theorem k_o136 (hn : n < a_mk a) (hk : a_nd a 0 n = 0) : k_ok a 136 n := Or.inr (Or.inr (Or.inr (Or.inr (Or.inr (Or.inl ⟨by decide, by decide, hn, hk⟩)))))
theorem KR.f136 (K : KR G pr B N S h κ a) (hn : n < a_mk a) (hk : a_nd a 0 n = 0) : hp_fl h 136 (κ.1 0 n) = .int (Int32.ofInt (a_nd a 11 n)) := K.V 136 n (k_o136 hn hk)
theorem k_o160 : k_ok a 160 0 := Or.inr (Or.inr (Or.inr (Or.inr (Or.inr (Or.inr ⟨by decide, by decide, rfl⟩)))))
theorem KR.f160 (K : KR G pr B N S h κ a) : hp_fl h 160 (κ.1 5 0) = .ref (κ.1 5 1) := K.V 160 0 (k_o160)
theorem k_o161 : k_ok a 161 0 := Or.inr (Or.inr (Or.inr (Or.inr (Or.inr (Or.inr ⟨by decide, by decide, rfl⟩)))))
theorem KR.f161 (K : KR G pr B N S h κ a) : hp_fl h 161 (κ.1 5 0) = .ref (κ.1 5 7) := K.V 161 0 (k_o161)
theorem k_o162 : k_ok a 162 0 := Or.inr (Or.inr (Or.inr (Or.inr (Or.inr (Or.inr ⟨by decide, by decide, rfl⟩)))))
theorem KR.f162 (K : KR G pr B N S h κ a) : hp_fl h 162 (κ.1 5 0) = .ref (κ.1 0 0) := K.V 162 0 (k_o162)
theorem k_o163 : k_ok a 163 0 := Or.inr (Or.inr (Or.inr (Or.inr (Or.inr (Or.inr ⟨by decide, by decide, rfl⟩)))))
theorem KR.f163 (K : KR G pr B N S h κ a) : hp_fl h 163 (κ.1 5 0) = .int (nI (a_mk a)) := K.V 163 0 (k_o163)
theorem k_o164 : k_ok a 164 0 := Or.inr (Or.inr (Or.inr (Or.inr (Or.inr (Or.inr ⟨by decide, by decide, rfl⟩)))))
theorem KR.f164 (K : KR G pr B N S h κ a) : hp_fl h 164 (κ.1 5 0) = .int (nI (a_rs a)) := K.V 164 0 (k_o164)
theorem k_o165 : k_ok a 165 0 := Or.inr (Or.inr (Or.inr (Or.inr (Or.inr (Or.inr ⟨by decide, by decide, rfl⟩)))))
theorem KR.f165 (K : KR G pr B N S h κ a) : hp_fl h 165 (κ.1 5 0) = .int (nI (a_gv a)) := K.V 165 0 (k_o165)
theorem KR.col (K : KR G pr B N S h κ a) {i : Nat} (hi : i < 4) : hp_ar h (κ.1 5 2) i = .ref (κ.1 5 (3 + i)) := K.A 5 2 i (Or.inr (Or.inr (Or.inl ⟨rfl, rfl, hi⟩)))
theorem KR.nod (K : KR G pr B N S h κ a) {i : Nat} (hi : i < 80) : hp_ar h (κ.1 5 7) i = va_rf (if i < a_mk a then some (κ.1 0 i) else none) := K.A 5 7 i (Or.inr (Or.inr (Or.inr (Or.inr ⟨rfl, rfl, hi⟩))))
theorem KR.elt (K : KR G pr B N S h κ a) {i : Nat} (hn : n < a_mk a) (hk : a_nd a 0 n = 1) (hi : i < (a_rw a n).length) : hp_ar h (κ.1 2 n) i = .ref (κ.1 0 ((a_rw a n).getD i 0)) := K.A 2 n i (Or.inl ⟨rfl, hn, hk, hi⟩)
theorem KR.tim (K : KR G pr B N S h κ a) {i : Nat} (hn : n < a_mk a) (hk : a_nd a 0 n = 1) (hi : i < (κ.2.2 n).length) : hp_ar h (κ.1 4 n) i = .int (nI ((κ.2.2 n).getD i 0)) := K.A 4 n i (Or.inr (Or.inl ⟨rfl, hn, hk, hi⟩))
theorem KR.evt (K : KR G pr B N S h κ a) {i j : Nat} (hj : j < 4) (hi : i < 600) (he : i < (a_ev a).length) : hp_ar h (κ.1 5 (3 + j)) i = .int (nI (k_ec j ((a_ev a).getD i (0, 0, 0, 0)))) := by
  have := K.A 5 (3 + j) i (Or.inr (Or.inr (Or.inr (Or.inl ⟨rfl, by omega, by omega, hi, he⟩))))
  rw [this]
  unfold k_av
  rw [if_neg (by decide), if_neg (by decide), if_neg (by omega), if_neg (by omega), Nat.add_sub_cancel_left]
theorem KR.p68 (K : KR G pr B N S h κ a) (hn : n < a_mk a) (x : Int) : KR G pr B N S (hp_put h 68 (κ.1 0 n) (.int (Int32.ofInt x))) κ (a_sn a 3 n x) := by
  refine ⟨K.1, K.2.1, K.putV (f := 68) (k_o68 hn) (fun _ _ z => z) (fun _ _ => rfl) ?_ (fun g m _ hg => ?_), K.2.2.2.1, K.2.2.2.2.1.put (K.prN hn), K.2.2.2.2.2.1, K.2.2.2.2.2.2⟩
  · show Value.int (Int32.ofInt (va_up (a_nd a) 3 (va_up (a_nd a 3) n x) 3 n)) = _
    rw [va_up_self, va_up_self]
  · unfold k_fv
    by_cases e : k_isN g = true
    · rw [if_pos e, if_pos e]
      show Value.int (Int32.ofInt (va_up (a_nd a) 3 (va_up (a_nd a 3) n x) (k_ix g) m)) = _
      by_cases e2 : k_ix g = 3
      · have eg : g = 68 := k_ixi e e2
        rw [e2, va_up_self, va_up_ne _ _ (hg eg)]
      · rw [va_up_ne _ _ e2]
    · rw [if_neg e, if_neg e]
      rfl
theorem KR.p136 (K : KR G pr B N S h κ a) (hn : n < a_mk a) (hk : a_nd a 0 n = 0) (x : Int) : KR G pr B N S (hp_put h 136 (κ.1 0 n) (.int (Int32.ofInt x))) κ (a_sn a 11 n x) := by
  refine ⟨K.1, K.2.1, K.putV (f := 136) (k_o136 hn hk) (fun _ _ z => z) (fun _ _ => rfl) ?_ (fun g m _ hg => ?_), K.2.2.2.1, K.2.2.2.2.1.put (K.prN hn), K.2.2.2.2.2.1, K.2.2.2.2.2.2⟩
  · show Value.int (Int32.ofInt (va_up (a_nd a) 11 (va_up (a_nd a 11) n x) 11 n)) = _
    rw [va_up_self, va_up_self]
  · unfold k_fv
    by_cases e : k_isN g = true
    · rw [if_pos e, if_pos e]
      show Value.int (Int32.ofInt (va_up (a_nd a) 11 (va_up (a_nd a 11) n x) (k_ix g) m)) = _
      by_cases e2 : k_ix g = 11
      · have eg : g = 136 := k_ixi e e2
        rw [e2, va_up_self, va_up_ne _ _ (hg eg)]
      · rw [va_up_ne _ _ e2]
    · rw [if_neg e, if_neg e]
      rfl
theorem KR.p71 (K : KR G pr B N S h κ a) (hn : n < a_mk a) (hk : a_nd a 0 n = 1) (x : Int) : KR G pr B N S (hp_put h 71 (κ.1 0 n) (.int (Int32.ofInt x))) κ (a_sn a 5 n x) := by
  refine ⟨K.1, K.2.1, K.putV (f := 71) (k_o71 hn hk) (fun _ _ z => z) (fun _ _ => rfl) ?_ (fun g m _ hg => ?_), K.2.2.2.1, K.2.2.2.2.1.put (K.prN hn), K.2.2.2.2.2.1, K.2.2.2.2.2.2⟩
  · show Value.int (Int32.ofInt (va_up (a_nd a) 5 (va_up (a_nd a 5) n x) 5 n)) = _
    rw [va_up_self, va_up_self]
  · unfold k_fv
    by_cases e : k_isN g = true
    · rw [if_pos e, if_pos e]
      show Value.int (Int32.ofInt (va_up (a_nd a) 5 (va_up (a_nd a 5) n x) (k_ix g) m)) = _
      by_cases e2 : k_ix g = 5
      · have eg : g = 71 := k_ixi e e2
        rw [e2, va_up_self, va_up_ne _ _ (hg eg)]
      · rw [va_up_ne _ _ e2]
    · rw [if_neg e, if_neg e]
      rfl
theorem KR.p72 (K : KR G pr B N S h κ a) (hn : n < a_mk a) (hk : a_nd a 0 n = 1) (x : Int) : KR G pr B N S (hp_put h 72 (κ.1 0 n) (.int (Int32.ofInt x))) κ (a_sn a 6 n x) := by
  refine ⟨K.1, K.2.1, K.putV (f := 72) (k_o72 hn hk) (fun _ _ z => z) (fun _ _ => rfl) ?_ (fun g m _ hg => ?_), K.2.2.2.1, K.2.2.2.2.1.put (K.prN hn), K.2.2.2.2.2.1, K.2.2.2.2.2.2⟩
  · show Value.int (Int32.ofInt (va_up (a_nd a) 6 (va_up (a_nd a 6) n x) 6 n)) = _
    rw [va_up_self, va_up_self]
  · unfold k_fv
    by_cases e : k_isN g = true
    · rw [if_pos e, if_pos e]
      show Value.int (Int32.ofInt (va_up (a_nd a) 6 (va_up (a_nd a 6) n x) (k_ix g) m)) = _
      by_cases e2 : k_ix g = 6
      · have eg : g = 72 := k_ixi e e2
        rw [e2, va_up_self, va_up_ne _ _ (hg eg)]
      · rw [va_up_ne _ _ e2]
    · rw [if_neg e, if_neg e]
      rfl
theorem KR.p73 (K : KR G pr B N S h κ a) (hn : n < a_mk a) (hk : a_nd a 0 n = 1) (x : Int) : KR G pr B N S (hp_put h 73 (κ.1 0 n) (.int (Int32.ofInt x))) κ (a_sn a 7 n x) := by
  refine ⟨K.1, K.2.1, K.putV (f := 73) (k_o73 hn hk) (fun _ _ z => z) (fun _ _ => rfl) ?_ (fun g m _ hg => ?_), K.2.2.2.1, K.2.2.2.2.1.put (K.prN hn), K.2.2.2.2.2.1, K.2.2.2.2.2.2⟩
  · show Value.int (Int32.ofInt (va_up (a_nd a) 7 (va_up (a_nd a 7) n x) 7 n)) = _
    rw [va_up_self, va_up_self]
  · unfold k_fv
    by_cases e : k_isN g = true
    · rw [if_pos e, if_pos e]
      show Value.int (Int32.ofInt (va_up (a_nd a) 7 (va_up (a_nd a 7) n x) (k_ix g) m)) = _
      by_cases e2 : k_ix g = 7
      · have eg : g = 73 := k_ixi e e2
        rw [e2, va_up_self, va_up_ne _ _ (hg eg)]
      · rw [va_up_ne _ _ e2]
    · rw [if_neg e, if_neg e]
      rfl
end KRF
end
section
/-! ===== the class's writes ===== -/
/-- one of the class's arrays -/
def k_rok (G : hpG) (κ : kS) (a : aS) (r n : Nat) : Prop := (r = 2 ∧ n < a_mk a ∧ a_nd a 0 n = 1 ∧ hp_n0 G ≤ κ.1 2 n) ∨ (r = 4 ∧ n < a_mk a ∧ a_nd a 0 n = 1) ∨ (r = 5 ∧ n = 2) ∨ (r = 5 ∧ 3 ≤ n ∧ n < 7) ∨ (r = 5 ∧ n = 7)
def k_kd (r n : Nat) : Nat := if r = 2 then 13 else if r = 4 then 10 else if n = 2 then 15 else if n = 7 then 14 else 10
section KRW
variable {G : hpG} {pr : Nat → Prop} {B : hpT} {N S : Nat} {h : hpT} {κ : kS} {a : aS} {n : Nat}
theorem KR.eltA (K : KR G pr B N S h κ a) (hd : hp_dE G < hp_n0 G) (hn : n < a_mk a) (hk : a_nd a 0 n = 1) (h0 : hp_n0 G ≤ κ.1 2 n) : k_is G pr h (κ.1 2 n) 13 ∧ (a_rw a n).length ≤ hp_ln h (κ.1 2 n) := by
  rcases K.isE hn hk with ⟨-, e⟩ | e
  · omega
  · exact e
theorem KR.rok (K : KR G pr B N S h κ a) {r i : Nat} (ok : k_aok κ a r n i) : k_rok G κ a r n := by
  rcases ok with ⟨rfl, h2, h3, h4⟩ | ⟨rfl, h2, h3, h4⟩ | ⟨rfl, h2, h3⟩ | ⟨rfl, h2, h3, h4⟩ | ⟨rfl, h2, h3⟩
  · refine Or.inl ⟨rfl, h2, h3, ?_⟩
    rcases K.isE h2 h3 with ⟨e, -⟩ | e
    · rw [e] at h4; cases h4
    · exact e.1.1.1
  · exact Or.inr (Or.inl ⟨rfl, h2, h3⟩)
  · exact Or.inr (Or.inr (Or.inl ⟨rfl, h2⟩))
  · exact Or.inr (Or.inr (Or.inr (Or.inl ⟨rfl, h2, h3⟩)))
  · exact Or.inr (Or.inr (Or.inr (Or.inr ⟨rfl, h2⟩)))
theorem KR.rkd (K : KR G pr B N S h κ a) (hd : hp_dE G < hp_n0 G) {r : Nat} (ok : k_rok G κ a r n) : k_is G pr h (κ.1 r n) (k_kd r n) := by
  rcases ok with ⟨rfl, h2, h3, h4⟩ | ⟨rfl, h2, h3⟩ | ⟨rfl, rfl⟩ | ⟨rfl, h2, h3⟩ | ⟨rfl, rfl⟩
  · exact (K.eltA hd h2 h3 h4).1
  · exact (K.1.2.1 n h2 h3).2.2.1
  · exact K.1.2.2.2.2.1.1
  · have e : k_kd 5 n = 10 := by unfold k_kd; rw [if_neg (by decide), if_neg (by decide), if_neg (by omega), if_neg (by omega)]
    have := (K.1.2.2.2.2.2.1 (n - 3) (by omega)).1
    rw [show 3 + (n - 3) = n by omega] at this
    rw [e]; exact this
  · exact K.1.2.2.2.2.2.2.1
theorem KR.dis (K : KR G pr B N S h κ a) (hd : hp_dE G < hp_n0 G) {r r' m : Nat} (ok : k_rok G κ a r n) (ok' : k_rok G κ a r' m) (e : κ.1 r n = κ.1 r' m) : r = r' ∧ n = m := by
  have q1 := (K.rkd hd ok).1.2.2
  have q2 := (K.rkd hd ok').1.2.2
  rw [e, q2] at q1
  obtain ⟨-, i2, i3, i4⟩ := K.2.1
  rcases ok with ⟨rfl, h2, h3, h4⟩ | ⟨rfl, h2, h3⟩ | ⟨rfl, rfl⟩ | ⟨rfl, h2, h3⟩ | ⟨rfl, rfl⟩ <;>
  rcases ok' with ⟨rfl, g2, g3, g4⟩ | ⟨rfl, g2, g3⟩ | ⟨rfl, rfl⟩ | ⟨rfl, g2, g3⟩ | ⟨rfl, rfl⟩ <;> unfold k_kd at q1 <;> try (exfalso; (repeat' split at q1) <;> omega)
  · exact ⟨rfl, i2 2 n m (Or.inr (Or.inr (Or.inr ⟨rfl, h4⟩))) h2 g2 h3 g3 e⟩
  · exact ⟨rfl, i2 4 n m (Or.inr (Or.inr (Or.inl rfl))) h2 g2 h3 g3 e⟩
  · exact absurd e (by have := i3 n (m - 3) h2 h3 (by omega); rwa [show 3 + (m - 3) = m by omega] at this)
  · exact ⟨rfl, rfl⟩
  · exact absurd e.symm (by have := i3 m (n - 3) g2 g3 (by omega); rwa [show 3 + (n - 3) = n by omega] at this)
  · refine ⟨rfl, ?_⟩
    have := i4 (n - 3) (m - 3) (by omega) (by omega) (by rw [show 3 + (n - 3) = n by omega, show 3 + (m - 3) = m by omega]; exact e)
    omega
  · exact ⟨rfl, rfl⟩
/-- a place that says nothing is written -/
theorem KR.set (K : KR G pr B N S h κ a) {b j : Nat} {v : Value} (hb : ¬ pr b) (hd : ∀ r n i, k_aok κ a r n i → κ.1 r n = b → i ≠ j) : KR G pr B N S (hp_set h b j v) κ a := by
  refine ⟨K.1, K.2.1, K.2.2.1, fun r n i ok => ?_, K.2.2.2.2.1.set hb, K.2.2.2.2.2.1, K.2.2.2.2.2.2⟩
  rw [hp_set_ar]
  by_cases e : κ.1 r n = b
  · rw [if_pos e, if_neg (hd r n i ok e), ← e]
    exact K.A r n i ok
  · rw [if_neg e]
    exact K.A r n i ok
/-- TIME goes on -/
theorem KR.time (K : KR G pr B N S h κ a) {t : Nat} (ht : a_tm a ≤ t) : KR G pr B N S (hp_put h 33 (κ.1 5 1) (.int (nI t))) κ (a_st a t) := by
  refine ⟨K.1, K.2.1, K.putV (n := 0) (f := 33) k_o33 (fun _ _ z => z) (fun _ _ => rfl) rfl (fun g m ok hg => ?_), K.2.2.2.1, K.2.2.2.2.1.put K.1.2.2.2.1.2, K.2.2.2.2.2.1, fun n hn hk => ?_⟩
  · have hg3 : g ≠ 33 := fun e => by
      subst e
      rcases ok with ⟨h1, -⟩ | ⟨-, -, h3⟩ | ⟨h1, -⟩ | ⟨h1, -⟩ | ⟨h1, -⟩ | ⟨h1, -⟩ | ⟨h1, -⟩ <;> first | exact hg rfl h3 | omega
    unfold k_fv
    by_cases e : k_isN g = true
    · rw [if_pos e, if_pos e]; rfl
    · rw [if_neg e, if_neg e]
      unfold k_fo
      rw [if_neg hg3, if_neg hg3]
      rfl
  · obtain ⟨dr, h1, h2⟩ := K.2.2.2.2.2.2 n hn hk
    exact ⟨dr, h1, fun x hx => by have := h2 x hx; show x + 1000 < t; omega⟩
def a_srs (a : aS) (x : Nat) : aS := (a.1, a.2.1, x, a.2.2.2)
theorem KR.rs (K : KR G pr B N S h κ a) (x : Nat) : KR G pr B N S (hp_put h 164 (κ.1 5 0) (.int (nI x))) κ (a_srs a x) := by
  refine ⟨K.1, K.2.1, K.putV (n := 0) (f := 164) k_o164 (fun _ _ z => z) (fun _ _ => rfl) rfl (fun g m ok hg => ?_), K.2.2.2.1, K.2.2.2.2.1.put K.1.2.2.1.2, K.2.2.2.2.2.1, K.2.2.2.2.2.2⟩
  have hg3 : g ≠ 164 := fun e => by
    subst e
    rcases ok with ⟨h1, -⟩ | ⟨-, h1, -⟩ | ⟨-, h1, -⟩ | ⟨-, h1, -⟩ | ⟨-, h1, -⟩ | ⟨-, h1, -⟩ | ⟨-, -, h3⟩ <;> first | exact hg rfl h3 | omega
  unfold k_fv
  by_cases e : k_isN g = true
  · rw [if_pos e, if_pos e]; rfl
  · rw [if_neg e, if_neg e]
    unfold k_fo
    rw [if_neg hg3, if_neg hg3]
    rfl
def a_sgv (a : aS) (x : Nat) : aS := (a.1, a.2.1, a.2.2.1, x, a.2.2.2.2)
theorem KR.gv (K : KR G pr B N S h κ a) (x : Nat) : KR G pr B N S (hp_put h 165 (κ.1 5 0) (.int (nI x))) κ (a_sgv a x) := by
  refine ⟨K.1, K.2.1, K.putV (n := 0) (f := 165) k_o165 (fun _ _ z => z) (fun _ _ => rfl) rfl (fun g m ok hg => ?_), K.2.2.2.1, K.2.2.2.2.1.put K.1.2.2.1.2, K.2.2.2.2.2.1, K.2.2.2.2.2.2⟩
  have hg3 : g ≠ 165 := fun e => by
    subst e
    rcases ok with ⟨h1, -⟩ | ⟨-, h1, -⟩ | ⟨-, h1, -⟩ | ⟨-, h1, -⟩ | ⟨-, h1, -⟩ | ⟨-, h1, -⟩ | ⟨-, -, h3⟩ <;> first | exact hg rfl h3 | omega
  unfold k_fv
  by_cases e : k_isN g = true
  · rw [if_pos e, if_pos e]; rfl
  · rw [if_neg e, if_neg e]
    unfold k_fo
    rw [if_neg hg3, if_neg hg3]
    rfl
/-- an event is told: the columns' places are written ahead -/
theorem KR.tell (K : KR G pr B N S h κ a) {w n r : Nat} (hw : (a_ev a).length < 600 → ∀ j, j < 4 → hp_ar h (κ.1 5 (3 + j)) (a_ev a).length = .int (nI (k_ec j (w, n, a_tm a, r)))) : KR G pr B N S (hp_put h 34 (κ.1 5 1) (.int (nI ((a_ev a).length + 1)))) κ (a_no a w n r) := by
  have el : (a_ev (a_no a w n r)).length = (a_ev a).length + 1 := by
    show (a_ev a ++ [_]).length = _
    rw [List.length_append]
    rfl
  refine ⟨K.1, K.2.1, K.putV (n := 0) (f := 34) k_o34 (fun _ _ z => z) (fun _ _ => rfl) ?_ (fun g m ok hg => ?_), fun q m i ok => ?_, K.2.2.2.2.1.put K.1.2.2.2.1.2, K.2.2.2.2.2.1, K.2.2.2.2.2.2⟩
  · show Value.int (nI (a_ev (a_no a w n r)).length) = _
    rw [el]
  · have hg3 : g ≠ 34 := fun e => by
      subst e
      rcases ok with ⟨h1, -⟩ | ⟨-, -, h3⟩ | ⟨h1, -⟩ | ⟨h1, -⟩ | ⟨h1, -⟩ | ⟨h1, -⟩ | ⟨h1, -⟩ <;> first | exact hg rfl h3 | omega
    unfold k_fv
    by_cases e : k_isN g = true
    · rw [if_pos e, if_pos e]; rfl
    · rw [if_neg e, if_neg e]
      unfold k_fo
      rw [if_neg hg3, if_neg hg3]
      rfl
  · show hp_ar h (κ.1 q m) i = _
    have hav : ∀ i, i < (a_ev a).length → k_av κ (a_no a w n r) q m i = k_av κ a q m i := fun i hi => by
      have : (a_ev (a_no a w n r)).getD i (0, 0, 0, 0) = (a_ev a).getD i (0, 0, 0, 0) := by
        show (a_ev a ++ [_]).getD i _ = _
        rw [List.getD_eq_getElem?_getD, List.getD_eq_getElem?_getD, List.getElem?_append_left hi]
      unfold k_av
      rw [this]
      rfl
    have hav2 : (q = 5 → ¬ (3 ≤ m ∧ m < 7)) → q = 2 ∨ q = 4 ∨ m = 2 ∨ m = 7 → k_av κ (a_no a w n r) q m i = k_av κ a q m i := fun _ hz => by
      unfold k_av
      rcases hz with rfl | rfl | rfl | rfl
      · rw [if_pos rfl, if_pos rfl]; rfl
      · rfl
      · by_cases c1 : q = 2
        · rw [if_pos c1, if_pos c1]; rfl
        · by_cases c2 : q = 4
          · rw [if_neg c1, if_neg c1, if_pos c2, if_pos c2]
          · rw [if_neg c1, if_neg c1, if_neg c2, if_neg c2, if_pos rfl, if_pos rfl]
      · by_cases c1 : q = 2
        · rw [if_pos c1, if_pos c1]; rfl
        · by_cases c2 : q = 4
          · rw [if_neg c1, if_neg c1, if_pos c2, if_pos c2]
          · rw [if_neg c1, if_neg c1, if_neg c2, if_neg c2]; rfl
    rcases ok with ⟨h1, h2, h3, h4⟩ | ⟨h1, h2, h3, h4⟩ | ⟨h1, h2, h3⟩ | ⟨h1, h2, h3, h4, h5⟩ | ⟨h1, h2, h3⟩
    · rw [hav2 (by omega) (Or.inl h1)]; exact K.A q m i (Or.inl ⟨h1, h2, h3, h4⟩)
    · rw [hav2 (by omega) (Or.inr (Or.inl h1))]; exact K.A q m i (Or.inr (Or.inl ⟨h1, h2, h3, h4⟩))
    · rw [hav2 (by omega) (Or.inr (Or.inr (Or.inl h2)))]; exact K.A q m i (Or.inr (Or.inr (Or.inl ⟨h1, h2, h3⟩)))
    · by_cases c : i < (a_ev a).length
      · rw [hav i c]; exact K.A q m i (Or.inr (Or.inr (Or.inr (Or.inl ⟨h1, h2, h3, h4, c⟩))))
      · have ei : i = (a_ev a).length := by rw [el] at h5; omega
        subst h1 ei
        have hz := hw h4 (m - 3) (by omega)
        rw [show 3 + (m - 3) = m by omega] at hz
        rw [hz]
        unfold k_av
        rw [if_neg (by decide), if_neg (by decide), if_neg (by omega), if_neg (by omega)]
        have : (a_ev (a_no a w n r)).getD (a_ev a).length (0, 0, 0, 0) = (w, n, a_tm a, r) := by
          show (a_ev a ++ [_]).getD _ _ = _
          rw [List.getD_eq_getElem?_getD, List.getElem?_append_right (Nat.le_refl _), Nat.sub_self]
          rfl
        rw [this]
    · rw [hav2 (by omega) (Or.inr (Or.inr (Or.inr h2)))]; exact K.A q m i (Or.inr (Or.inr (Or.inr (Or.inr ⟨h1, h2, h3⟩))))
/-- the sum of what is beyond the half, where one row's changes -/
theorem hp_sm_up {f g : Nat → Nat} {q : Nat} : ∀ (n b : Nat), b ≤ q → q < b + n → (∀ i, i ≠ q → f i = g i) → hp_sm f b n + g q = hp_sm g b n + f q
  | 0, b, h1, h2, _ => by omega
  | n + 1, b, h1, h2, hf => by
    show f b + hp_sm f (b + 1) n + g q = g b + hp_sm g (b + 1) n + f q
    by_cases e : b = q
    · subst e
      rw [hp_sm_congr (f := f) (g := g) n (b + 1) (fun i h1 _ => hf i (by omega))]
      omega
    · have := hp_sm_up (f := f) (g := g) n (b + 1) (by omega) (by omega) hf
      rw [hf b e]
      omega
theorem hp_sm_le {f g : Nat → Nat} : ∀ (n b : Nat), (∀ i, b ≤ i → i < b + n → f i ≤ g i) → hp_sm f b n ≤ hp_sm g b n
  | 0, _, _ => Nat.le_refl _
  | n + 1, b, hf => by
    show f b + hp_sm f (b + 1) n ≤ g b + hp_sm g (b + 1) n
    have h1 := hf b (Nat.le_refl _) (by omega)
    have h2 := hp_sm_le (f := f) (g := g) n (b + 1) (fun i _ _ => hf i (by omega) (by omega))
    omega
/-- the restarts' times of keeper n are x -/
def k_srt (κ : kS) (n : Nat) (x : List Nat) : kS := (κ.1, κ.2.1, va_up κ.2.2 n x)
/-- a keeper's restarts are forgotten -/
theorem KR.clear (K : KR G pr B N S h κ a) (hn : n < a_mk a) (hk : a_nd a 0 n = 1) : KR G pr B N S (hp_put h 97 (κ.1 3 n) (.int 0)) (k_srt κ n []) (a_srt a n []) := by
  have ne : ∀ m, m ≠ n → (k_srt κ n []).2.2 m = κ.2.2 m := fun m hm => va_up_ne _ _ hm
  have se : (k_srt κ n []).2.2 n = [] := va_up_self _ _ _
  have le : ∀ m, ((k_srt κ n []).2.2 m).length ≤ (κ.2.2 m).length := fun m => by
    by_cases e : m = n
    · rw [e, se]; exact Nat.zero_le _
    · rw [ne m e]; exact Nat.le_refl _
  refine ⟨⟨K.1.1, fun m hm hkm => ?_, K.1.2.2⟩, K.2.1, K.putV (n := n) (f := 97) (k_o97 hn hk) (fun _ _ z => z) (fun _ _ => rfl) ?_ (fun g m ok hg => ?_), fun r m i ok => ?_, K.2.2.2.2.1.put (K.1.2.1 n hn hk).2.1.2, ⟨K.2.2.2.2.2.1.1, ?_⟩, fun m hm hkm => ?_⟩
  · obtain ⟨z1, z2, z3, z4, z5⟩ := K.1.2.1 m hm hkm
    exact ⟨z1, z2, z3, Nat.le_trans (le m) z4, z5⟩
  · show Value.int (nI ((k_srt κ n []).2.2 n).length) = _
    rw [se]
    rfl
  · unfold k_fv
    by_cases e : k_isN g = true
    · rw [if_pos e, if_pos e]; rfl
    · rw [if_neg e, if_neg e]
      by_cases e2 : g = 97
      · subst e2
        show Value.int (nI ((k_srt κ n []).2.2 m).length) = Value.int (nI (κ.2.2 m).length)
        rw [ne m (hg rfl)]
      · unfold k_fo
        simp only [e2, if_false]
        rfl
  · have ok' : k_aok κ a r m i := by
      rcases ok with z | ⟨z1, z2, z3, z4⟩ | z
      · exact Or.inl z
      · exact Or.inr (Or.inl ⟨z1, z2, z3, Nat.lt_of_lt_of_le z4 (le m)⟩)
      · exact Or.inr (Or.inr z)
    have := K.A r m i ok'
    refine this.trans ?_
    by_cases e : r = 4
    · subst e
      rcases ok with ⟨z1, -⟩ | ⟨z1, z2, z3, z4⟩ | ⟨z1, -⟩ | ⟨z1, -⟩ | ⟨z1, -⟩ <;> try omega
      by_cases em : m = n
      · subst em; have z4' : i < ((k_srt κ m []).2.2 m).length := z4; rw [se] at z4'; cases z4'
      · show Value.int (nI ((κ.2.2 m).getD i 0)) = Value.int (nI (((k_srt κ n []).2.2 m).getD i 0))
        rw [ne m em]
    · unfold k_av
      by_cases e2 : r = 2
      · rw [if_pos e2, if_pos e2]; rfl
      · rw [if_neg e2, if_neg e2, if_neg e, if_neg e]; rfl
  · refine Nat.le_trans (Nat.add_le_add_left (hp_sm_le _ _ (fun i _ _ => ?_)) _) K.2.2.2.2.2.1.2
    show (if a_nd a 0 i = 1 then 4 * (((k_srt κ n []).2.2 i).length - hp_ln h (κ.1 4 i) / 2) else 0) ≤ (if a_nd a 0 i = 1 then 4 * ((κ.2.2 i).length - hp_ln h (κ.1 4 i) / 2) else 0)
    have := le i
    split <;> omega
  · by_cases em : m = n
    · subst em
      refine ⟨[], ?_, fun x hx => by cases hx⟩
      show va_up (a_rt a) m [] m = [] ++ (k_srt κ m []).2.2 m
      rw [va_up_self, se]
      rfl
    · obtain ⟨dr, y1, y2⟩ := K.2.2.2.2.2.2 m hm hkm
      refine ⟨dr, ?_, y2⟩
      show va_up (a_rt a) n [] m = dr ++ (k_srt κ n []).2.2 m
      rw [va_up_ne _ _ em, ne m em]
      exact y1
end KRW
section KRR
variable {M : hpM} {G : hpG} {y : MethodName} {cc : ByteArray} {nL d : Nat} {h0 h : hpT} {Q : State → Prop} {pc : Nat} {lo : Nat → Option Value} {st : List Value} {pr : Nat → Prop} {B : hpT} {N S : Nat} {κ : kS} {a : aS} {n idx : Nat}
/-- a field that keepers and workers have -/
theorem kg_N (C : hp_F M G y cc nL d h0) (K : KR G pr B N S h κ a) (hn : n < a_mk a) (hb : a_nd a 0 n = 0 ∨ a_nd a 0 n = 1) {j : Nat} (hj : j < 5) (f2 : hp_FL y.cls idx 2 j) (f4 : hp_FL y.cls idx 4 j) {v : Value} (dd : decode cc pc = .ok (.getfield idx, 3)) (ev : hp_fl h (64 + j) (κ.1 0 n) = v) (kk : hp_V M G nL Q h (pc + 3) lo (v :: st)) : hp_V M G nL Q h pc lo (.ref (κ.1 0 n) :: st) := by
  rcases hb with hb | hb
  · exact hp_get C f4 dd (K.isW hn hb) (by unfold hp_fd; rw [if_pos rfl, if_pos hj]; exact ev) kk
  · exact hp_get C f2 dd (K.isK hn hb) ev kk
theorem kp_68K (C : hp_F M G y cc nL d h0) (K : KR G pr B N S h κ a) (hn : n < a_mk a) (hk : a_nd a 0 n = 1) (fl : hp_FL y.cls idx 2 4) {v : Int32} (x : Int) (ev : v = Int32.ofInt x) (dd : decode cc pc = .ok (.putfield idx, 3)) (kk : ∀ h', KR G pr B N S h' κ (a_sn a 3 n x) → hp_V M G nL Q h' (pc + 3) lo st) : hp_V M G nL Q h pc lo (.int v :: .ref (κ.1 0 n) :: st) := by
  subst ev
  exact hp_putf C fl rfl rfl rfl dd (K.isK hn hk) (kk _ (K.p68 hn x))
theorem kp_68W (C : hp_F M G y cc nL d h0) (K : KR G pr B N S h κ a) (hn : n < a_mk a) (hk : a_nd a 0 n = 0) (fl : hp_FL y.cls idx 4 4) {v : Int32} (x : Int) (ev : v = Int32.ofInt x) (dd : decode cc pc = .ok (.putfield idx, 3)) (kk : ∀ h', KR G pr B N S h' κ (a_sn a 3 n x) → hp_V M G nL Q h' (pc + 3) lo st) : hp_V M G nL Q h pc lo (.int v :: .ref (κ.1 0 n) :: st) := by
  subst ev
  exact hp_putf C fl rfl rfl rfl dd (K.isW hn hk) (kk _ (K.p68 hn x))
theorem kp_136W (C : hp_F M G y cc nL d h0) (K : KR G pr B N S h κ a) (hn : n < a_mk a) (hk : a_nd a 0 n = 0) (fl : hp_FL y.cls idx 4 8) {v : Int32} (x : Int) (ev : v = Int32.ofInt x) (dd : decode cc pc = .ok (.putfield idx, 3)) (kk : ∀ h', KR G pr B N S h' κ (a_sn a 11 n x) → hp_V M G nL Q h' (pc + 3) lo st) : hp_V M G nL Q h pc lo (.int v :: .ref (κ.1 0 n) :: st) := by
  subst ev
  exact hp_putf C fl rfl rfl rfl dd (K.isW hn hk) (kk _ (K.p136 hn hk x))
theorem kp_71K (C : hp_F M G y cc nL d h0) (K : KR G pr B N S h κ a) (hn : n < a_mk a) (hk : a_nd a 0 n = 1) (fl : hp_FL y.cls idx 2 7) {v : Int32} (x : Int) (ev : v = Int32.ofInt x) (dd : decode cc pc = .ok (.putfield idx, 3)) (kk : ∀ h', KR G pr B N S h' κ (a_sn a 5 n x) → hp_V M G nL Q h' (pc + 3) lo st) : hp_V M G nL Q h pc lo (.int v :: .ref (κ.1 0 n) :: st) := by
  subst ev
  exact hp_putf C fl rfl rfl rfl dd (K.isK hn hk) (kk _ (K.p71 hn hk x))
theorem kp_72K (C : hp_F M G y cc nL d h0) (K : KR G pr B N S h κ a) (hn : n < a_mk a) (hk : a_nd a 0 n = 1) (fl : hp_FL y.cls idx 2 8) {v : Int32} (x : Int) (ev : v = Int32.ofInt x) (dd : decode cc pc = .ok (.putfield idx, 3)) (kk : ∀ h', KR G pr B N S h' κ (a_sn a 6 n x) → hp_V M G nL Q h' (pc + 3) lo st) : hp_V M G nL Q h pc lo (.int v :: .ref (κ.1 0 n) :: st) := by
  subst ev
  exact hp_putf C fl rfl rfl rfl dd (K.isK hn hk) (kk _ (K.p72 hn hk x))
theorem kp_73K (C : hp_F M G y cc nL d h0) (K : KR G pr B N S h κ a) (hn : n < a_mk a) (hk : a_nd a 0 n = 1) (fl : hp_FL y.cls idx 2 9) {v : Int32} (x : Int) (ev : v = Int32.ofInt x) (dd : decode cc pc = .ok (.putfield idx, 3)) (kk : ∀ h', KR G pr B N S h' κ (a_sn a 7 n x) → hp_V M G nL Q h' (pc + 3) lo st) : hp_V M G nL Q h pc lo (.int v :: .ref (κ.1 0 n) :: st) := by
  subst ev
  exact hp_putf C fl rfl rfl rfl dd (K.isK hn hk) (kk _ (K.p73 hn hk x))
theorem kp_68N (C : hp_F M G y cc nL d h0) (K : KR G pr B N S h κ a) (hn : n < a_mk a) (hb : a_nd a 0 n = 0 ∨ a_nd a 0 n = 1) (f2 : hp_FL y.cls idx 2 4) (f4 : hp_FL y.cls idx 4 4) {v : Int32} (x : Int) (ev : v = Int32.ofInt x) (dd : decode cc pc = .ok (.putfield idx, 3)) (kk : ∀ h', KR G pr B N S h' κ (a_sn a 3 n x) → hp_V M G nL Q h' (pc + 3) lo st) : hp_V M G nL Q h pc lo (.int v :: .ref (κ.1 0 n) :: st) := by
  rcases hb with hb | hb
  · exact kp_68W C K hn hb f4 x ev dd kk
  · exact kp_68K C K hn hb f2 x ev dd kk
theorem kp_33 (C : hp_F M G y cc nL d h0) (K : KR G pr B N S h κ a) (fl : hp_FL y.cls idx 1 1) {v : Int32} (t : Nat) (ev : v = nI t) (ht : a_tm a ≤ t) (dd : decode cc pc = .ok (.putfield idx, 3)) (kk : ∀ h', KR G pr B N S h' κ (a_st a t) → hp_V M G nL Q h' (pc + 3) lo st) : hp_V M G nL Q h pc lo (.int v :: .ref (κ.1 5 1) :: st) := by
  subst ev
  exact hp_putf C fl rfl rfl rfl dd K.isJ (kk _ (K.time ht))
theorem kp_164 (C : hp_F M G y cc nL d h0) (K : KR G pr B N S h κ a) (fl : hp_FL y.cls idx 5 4) {v : Int32} (t : Nat) (ev : v = nI t) (dd : decode cc pc = .ok (.putfield idx, 3)) (kk : ∀ h', KR G pr B N S h' κ (a_srs a t) → hp_V M G nL Q h' (pc + 3) lo st) : hp_V M G nL Q h pc lo (.int v :: .ref (κ.1 5 0) :: st) := by
  subst ev
  exact hp_putf C fl rfl rfl rfl dd K.isT (kk _ (K.rs t))
theorem kp_165 (C : hp_F M G y cc nL d h0) (K : KR G pr B N S h κ a) (fl : hp_FL y.cls idx 5 5) {v : Int32} (t : Nat) (ev : v = nI t) (dd : decode cc pc = .ok (.putfield idx, 3)) (kk : ∀ h', KR G pr B N S h' κ (a_sgv a t) → hp_V M G nL Q h' (pc + 3) lo st) : hp_V M G nL Q h pc lo (.int v :: .ref (κ.1 5 0) :: st) := by
  subst ev
  exact hp_putf C fl rfl rfl rfl dd K.isT (kk _ (K.gv t))
end KRR
end
section
/-! ===== the journal, a worker's own methods, the restarts' times ===== -/
section KRL
variable {M : hpM} {G : hpG} {y : MethodName} {cc : ByteArray} {nL d : Nat} {h0 h : hpT} {Q : State → Prop} {pc : Nat} {lo : Nat → Option Value} {st : List Value} {pr : Nat → Prop} {B : hpT} {N S : Nat} {κ : kS} {a : aS} {n idx : Nat}
theorem hp_dlt (C : hp_F M G y cc nL d h0) : hp_dE G < hp_n0 G := C.en.2.2.2.2.2.2.1
/-- an event's number is written behind those that are told -/
theorem ks_col (C : hp_F M G y cc nL d h0) (K : KR G pr B N S h κ a) (j : Nat) (hj : j < 4) (hL : (a_ev a).length < 600) {v : Int32} (dd : decode cc pc = .ok (.iastore, 1))
    (kk : ∀ h', KR G pr B N S h' κ a → hp_ar h' (κ.1 5 (3 + j)) (a_ev a).length = .int v → (∀ i, i < 4 → i ≠ j → hp_ar h' (κ.1 5 (3 + i)) (a_ev a).length = hp_ar h (κ.1 5 (3 + i)) (a_ev a).length) → hp_V M G nL Q h' (pc + 1) lo st) : hp_V M G nL Q h pc lo (.int v :: .int (nI (a_ev a).length) :: .ref (κ.1 5 (3 + j)) :: st) := by
  have e1 := nI_clamp (n := (a_ev a).length) (by omega)
  refine hp_iast C dd (K.isc hj).1 (by rw [(K.isc hj).2]; exact nI_in hL (by omega)) ?_
  rw [e1]
  refine kk _ (K.set (K.1.2.2.2.2.2.1 j hj).1.2 (fun r n i ok e => ?_)) ?_ (fun i hi hij => ?_)
  · obtain ⟨r1, r2⟩ := K.dis (hp_dlt C) (K.rok ok) (Or.inr (Or.inr (Or.inr (Or.inl ⟨rfl, by omega, by omega⟩)))) e
    subst r1 r2
    rcases ok with ⟨h1, -⟩ | ⟨h1, -⟩ | ⟨-, h1, -⟩ | ⟨-, -, -, -, h5⟩ | ⟨-, h1, -⟩ <;> omega
  · rw [hp_set_ar, if_pos rfl, if_pos rfl]
  · rw [hp_set_ar, if_neg]
    intro z
    exact hij (K.2.1.2.2.2 i j hi hj z)
end KRL
set_option maxRecDepth 20000 in
set_option maxHeartbeats 4000000 in
theorem kc_tell {l : Launch} {G : hpG} {pr : Nat → Prop} {B : hpT} {N S : Nat} {h : hpT} {κ : kS} {a : aS} {d : Nat} (K : KR G pr B N S h κ a) {w n r : Nat} (hl : (a_ev a).length < 2 ^ 30) : hp_C l G yX0_tell (.code yX0_tell cX0_tell 4 none) d [.ref (κ.1 5 1), .int (nI w), .int (nI n), .int (nI r)] (h) (fun v h' => v = none ∧ KR G pr B N S h' κ (a_no a w n r)) (fun _ _ => False) := by
  refine hp_ofV (by decide) (by simp [Value.category]) (Nat.le_of_ble_eq_true rfl) (fun M C hr hx el => ?_)
  refine hp_aload_nR C dX0_tell_0 rfl ?_
  refine hp_get C fl_X0_20_1 dX0_tell_1 K.isJ K.f34 ?_
  refine hp_sipush (v := 600) C dX0_tell_4 (by decide) ?_
  refine hp_icmp_ge (tgt := 61) C dX0_tell_7 (by decide) (fun c_7 => ?_) (fun c_7 => ?_)
  · refine hp_aload_nR C dX0_tell_61 rfl ?_
    refine hp_dup C dX0_tell_62 rfl ?_
    refine hp_get C fl_X0_20_1 dX0_tell_63 K.isJ K.f34 ?_
    refine hp_iconst (v := 1) C dX0_tell_66 (by decide) ?_
    refine hp_iadd C dX0_tell_67 ?_
    rw [nI_1]
    refine hp_putf C fl_X0_20_1 rfl rfl rfl dX0_tell_68 K.isJ ?_
    refine hp_vret C hr dX0_tell_71 ?_
    exact ⟨rfl, K.tell (fun hL_ => absurd hL_ (by have := (nI_leI (a := 600) (b := (a_ev a).length) (by omega) (by omega)).mp c_7; omega))⟩
  · have hL : (a_ev a).length < 600 := by
      have := (not_congr (nI_leI (a := 600) (b := (a_ev a).length) (by omega) (by omega))).mp c_7
      omega
    refine hp_aload_nR C dX0_tell_10 rfl ?_
    refine hp_get C fl_X0_13_1 dX0_tell_11 K.isJ K.f32 ?_
    refine hp_iconst (v := 0) C dX0_tell_14 (by decide) ?_
    refine hp_aald C 5 rfl rfl (by decide) dX0_tell_15 K.isC.1 (by rw [K.isC.2]; unfold vp_in; decide) (K.col (i := 0) (by decide)) ?_
    refine hp_aload_nR C dX0_tell_16 rfl ?_
    refine hp_get C fl_X0_20_1 dX0_tell_17 K.isJ K.f34 ?_
    refine hp_iload_n C dX0_tell_20 rfl ?_
    refine ks_col C K 0 (by decide) hL dX0_tell_21 (fun h_21 K_21 x_21 y_21 => ?_)
    refine hp_aload_nR C dX0_tell_22 rfl ?_
    refine hp_get C fl_X0_13_1 dX0_tell_23 K_21.isJ K_21.f32 ?_
    refine hp_iconst (v := 1) C dX0_tell_26 (by decide) ?_
    refine hp_aald C 5 rfl rfl (by decide) dX0_tell_27 K_21.isC.1 (by rw [K_21.isC.2]; unfold vp_in; decide) (K_21.col (i := 1) (by decide)) ?_
    refine hp_aload_nR C dX0_tell_28 rfl ?_
    refine hp_get C fl_X0_20_1 dX0_tell_29 K_21.isJ K_21.f34 ?_
    refine hp_iload_n C dX0_tell_32 rfl ?_
    refine ks_col C K_21 1 (by decide) hL dX0_tell_33 (fun h_33 K_33 x_33 y_33 => ?_)
    refine hp_aload_nR C dX0_tell_34 rfl ?_
    refine hp_get C fl_X0_13_1 dX0_tell_35 K_33.isJ K_33.f32 ?_
    refine hp_iconst (v := 2) C dX0_tell_38 (by decide) ?_
    refine hp_aald C 5 rfl rfl (by decide) dX0_tell_39 K_33.isC.1 (by rw [K_33.isC.2]; unfold vp_in; decide) (K_33.col (i := 2) (by decide)) ?_
    refine hp_aload_nR C dX0_tell_40 rfl ?_
    refine hp_get C fl_X0_20_1 dX0_tell_41 K_33.isJ K_33.f34 ?_
    refine hp_aload_nR C dX0_tell_44 rfl ?_
    refine hp_get C fl_X0_16_1 dX0_tell_45 K_33.isJ K_33.f33 ?_
    refine ks_col C K_33 2 (by decide) hL dX0_tell_48 (fun h_48 K_48 x_48 y_48 => ?_)
    refine hp_aload_nR C dX0_tell_49 rfl ?_
    refine hp_get C fl_X0_13_1 dX0_tell_50 K_48.isJ K_48.f32 ?_
    refine hp_iconst (v := 3) C dX0_tell_53 (by decide) ?_
    refine hp_aald C 5 rfl rfl (by decide) dX0_tell_54 K_48.isC.1 (by rw [K_48.isC.2]; unfold vp_in; decide) (K_48.col (i := 3) (by decide)) ?_
    refine hp_aload_nR C dX0_tell_55 rfl ?_
    refine hp_get C fl_X0_20_1 dX0_tell_56 K_48.isJ K_48.f34 ?_
    refine hp_iload_n C dX0_tell_59 rfl ?_
    refine ks_col C K_48 3 (by decide) hL dX0_tell_60 (fun h_60 K_60 x_60 y_60 => ?_)
    have hw : ∀ j, j < 4 → hp_ar h_60 (κ.1 5 (3 + j)) (a_ev a).length = .int (nI (k_ec j (w, n, a_tm a, r))) := by
      intro j hj
      have q : j = 0 ∨ j = 1 ∨ j = 2 ∨ j = 3 := by omega
      rcases q with rfl | rfl | rfl | rfl
      · exact (y_60 0 (by decide) (by decide)).trans ((y_48 0 (by decide) (by decide)).trans ((y_33 0 (by decide) (by decide)).trans x_21))
      · exact (y_60 1 (by decide) (by decide)).trans ((y_48 1 (by decide) (by decide)).trans x_33)
      · exact (y_60 2 (by decide) (by decide)).trans x_48
      · exact x_60
    refine hp_aload_nR C dX0_tell_61 rfl ?_
    refine hp_dup C dX0_tell_62 rfl ?_
    refine hp_get C fl_X0_20_1 dX0_tell_63 K_60.isJ K_60.f34 ?_
    refine hp_iconst (v := 1) C dX0_tell_66 (by decide) ?_
    refine hp_iadd C dX0_tell_67 ?_
    rw [nI_1]
    refine hp_putf C fl_X0_20_1 rfl rfl rfl dX0_tell_68 K_60.isJ ?_
    refine hp_vret C hr dX0_tell_71 ?_
    exact ⟨rfl, K_60.tell (fun hL_ => hw)⟩
/-- the tree's own facts: kinds, depths, rows; ranges of the numbers -/
def a_T (a : aS) : Prop := (1 ≤ a_mk a ∧ a_mk a ≤ 80) ∧
  (∀ n, n < a_mk a → (a_nd a 0 n = 0 ∨ a_nd a 0 n = 1) ∧ (0 ≤ a_nd a 2 n ∧ a_nd a 2 n ≤ 8) ∧ (0 ≤ a_nd a 4 n ∧ a_nd a 4 n ≤ 2) ∧ (0 ≤ a_nd a 5 n ∧ a_nd a 5 n ≤ 2) ∧ (0 ≤ a_nd a 6 n ∧ a_nd a 6 n ≤ 50) ∧ (0 ≤ a_nd a 7 n ∧ a_nd a 7 n ≤ 1000) ∧ (-1 ≤ a_nd a 8 n ∧ a_nd a 8 n ≤ 1000) ∧ (0 ≤ a_nd a 9 n ∧ a_nd a 9 n ≤ 100) ∧ (0 ≤ a_nd a 10 n ∧ a_nd a 10 n ≤ 100) ∧ (n ≠ 0 → 0 ≤ a_nd a 1 n ∧ a_nd a 1 n < n)) ∧
  (∀ n, n < a_mk a → 0 ≤ a_nd a 3 n ∧ a_nd a 3 n ≤ 2) ∧ (∀ n, n < a_mk a → 0 ≤ a_nd a 11 n ∧ a_nd a 11 n ≤ 50) ∧
  (∀ n, n < a_mk a → a_nd a 0 n = 0 → a_rw a n = []) ∧ (∀ n, n < a_mk a → (a_rw a n).length ≤ 79 ∧ ∀ c, c ∈ a_rw a n → c < a_mk a ∧ a_nd a 1 c = n ∧ a_nd a 2 c = a_nd a 2 n + 1)
section AT
variable {a : aS} {n : Nat}
theorem a_T.kb (T : a_T a) (hn : n < a_mk a) : a_nd a 0 n = 0 ∨ a_nd a 0 n = 1 := (T.2.1 n hn).1
theorem a_T.r2 (T : a_T a) (hn : n < a_mk a) : 0 ≤ a_nd a 2 n ∧ a_nd a 2 n ≤ 8 := (T.2.1 n hn).2.1
theorem a_T.r4 (T : a_T a) (hn : n < a_mk a) : 0 ≤ a_nd a 4 n ∧ a_nd a 4 n ≤ 2 := (T.2.1 n hn).2.2.1
theorem a_T.r5 (T : a_T a) (hn : n < a_mk a) : 0 ≤ a_nd a 5 n ∧ a_nd a 5 n ≤ 2 := (T.2.1 n hn).2.2.2.1
theorem a_T.r6 (T : a_T a) (hn : n < a_mk a) : 0 ≤ a_nd a 6 n ∧ a_nd a 6 n ≤ 50 := (T.2.1 n hn).2.2.2.2.1
theorem a_T.r7 (T : a_T a) (hn : n < a_mk a) : 0 ≤ a_nd a 7 n ∧ a_nd a 7 n ≤ 1000 := (T.2.1 n hn).2.2.2.2.2.1
theorem a_T.r8 (T : a_T a) (hn : n < a_mk a) : -1 ≤ a_nd a 8 n ∧ a_nd a 8 n ≤ 1000 := (T.2.1 n hn).2.2.2.2.2.2.1
theorem a_T.r9 (T : a_T a) (hn : n < a_mk a) : 0 ≤ a_nd a 9 n ∧ a_nd a 9 n ≤ 100 := (T.2.1 n hn).2.2.2.2.2.2.2.1
theorem a_T.r10 (T : a_T a) (hn : n < a_mk a) : 0 ≤ a_nd a 10 n ∧ a_nd a 10 n ≤ 100 := (T.2.1 n hn).2.2.2.2.2.2.2.2.1
theorem a_T.r1 (T : a_T a) (hn : n < a_mk a) (h0 : n ≠ 0) : 0 ≤ a_nd a 1 n ∧ a_nd a 1 n < n := (T.2.1 n hn).2.2.2.2.2.2.2.2.2 h0
theorem a_T.r3 (T : a_T a) (hn : n < a_mk a) : 0 ≤ a_nd a 3 n ∧ a_nd a 3 n ≤ 2 := T.2.2.1 n hn
theorem a_T.r11 (T : a_T a) (hn : n < a_mk a) : 0 ≤ a_nd a 11 n ∧ a_nd a 11 n ≤ 50 := T.2.2.2.1 n hn
theorem a_T.rc (T : a_T a) (hn : n < a_mk a) {c : Nat} (hc : c ∈ a_rw a n) : c < a_mk a ∧ a_nd a 1 c = n ∧ a_nd a 2 c = a_nd a 2 n + 1 := (T.2.2.2.2.2 n hn).2 c hc
theorem a_T.rl (T : a_T a) (hn : n < a_mk a) : (a_rw a n).length ≤ 79 := (T.2.2.2.2.2 n hn).1
end AT
theorem a_ofN {x : Int} (h : 0 ≤ x) : Int32.ofInt x = nI x.toNat := by
  have : x = ((x.toNat : Nat) : Int) := (Int.toNat_of_nonneg h).symm
  rw [this, Int.toNat_natCast]
  rfl
theorem a_ofI_le {x y : Int} (hx : a_sm x) (hy : a_sm y) : Int32.ofInt x ≤ Int32.ofInt y ↔ x ≤ y := by
  rw [Int32.le_iff_toInt_le, a_ofI hx, a_ofI hy]
theorem a_ofI_lt {x y : Int} (hx : a_sm x) (hy : a_sm y) : Int32.ofInt x < Int32.ofInt y ↔ x < y := by
  rw [Int32.lt_iff_toInt_lt, a_ofI hx, a_ofI hy]
theorem k_dec (x : Int32) : x + Int32.ofInt (-1) = x - 1 := by
  rw [Int32.sub_eq_add_neg]
  rfl
theorem a_ofI_pred (x : Int) : Int32.ofInt x - 1 = Int32.ofInt (x - 1) := (Int32.ofInt_sub x 1).symm
theorem a_end_w {a : aS} {n : Nat} (hw : a_nd a 0 n = 0) {x : Nat} (hx : a_long a n = x) {b : Bool} (hb : a_dies a n = b) : a_no (a_sn (a_st a (a_tm a + x)) 3 n 0) (if b = true then 4 else 3) n 0 = a_end false n a := by
  unfold a_end
  rw [if_pos (show a_nd a 0 n = 0 ∧ false = false from ⟨hw, rfl⟩), hx, hb]
theorem a_go_w {a : aS} {n d : Nat} (hw : a_nd a 0 n = 0) : a_go (d + 1) n a = (if 0 < a_nd a 11 n then (false, a_no (a_sn (a_sn (a_st a (a_tm a + (a_nd a 9 n).toNat)) 11 n (a_nd a 11 n - 1)) 3 n 0) 2 n 0) else (true, a_no (a_sn (a_st a (a_tm a + (a_nd a 9 n).toNat)) 3 n 1) 1 n 0)) := by
  show (if a_nd a 0 n = 0 then _ else _) = _
  rw [if_pos hw]
def a_evt (a : aS) (i : Int32) (j : Nat) : Int32 := if 0 ≤ i.toInt ∧ i.toInt < (a_ev a).length ∧ i.toInt < 600 then nI (k_ec j ((a_ev a).getD i.toInt.toNat (0, 0, 0, 0))) else -1
set_option maxRecDepth 20000 in
set_option maxHeartbeats 4000000 in
theorem kc_settle0 {l : Launch} {G : hpG} {pr : Nat → Prop} {B : hpT} {N S : Nat} {h : hpT} {κ : kS} {a : aS} {d : Nat} (K : KR G pr B N S h κ a) {n : Nat} (hn : n < a_mk a) (hb : a_nd a 0 n = 0 ∨ a_nd a 0 n = 1) (hl : (a_ev a).length < 2 ^ 30) (hd : 1 ≤ d) : hp_C l G yX2_settle (.code yX2_settle cX2_settle 3 (some .boolean)) d [.ref (κ.1 0 n), .int 0, .ref (κ.1 5 1)] (h) (fun v h' => v = some (.int 1) ∧ KR G pr B N S h' κ (a_no (a_sn a 3 n 1) 1 n 0)) (fun _ _ => False) := by
  refine hp_ofV (by decide) (by simp [Value.category]) (Nat.le_of_ble_eq_true rfl) (fun M C hr hx el => ?_)
  refine hp_aload_nR C dX2_settle_0 rfl ?_
  refine hp_iload_n C dX2_settle_1 rfl ?_
  refine hp_if_eq (tgt := 9) C dX2_settle_2 (by decide) (fun _ => ?_) (fun z_9 => absurd z_9 (by decide))
  refine hp_iconst (v := 1) C dX2_settle_9 (by decide) ?_
  refine kp_68N C K hn hb fl_X2_9_2 fl_X2_9_4 1 (by decide) dX2_settle_10 (fun h_10 K_10 => ?_)
  refine hp_aload_nR C dX2_settle_13 rfl ?_
  refine hp_iload_n C dX2_settle_14 rfl ?_
  refine hp_if_eq (tgt := 22) C dX2_settle_15 (by decide) (fun _ => ?_) (fun z_9 => absurd z_9 (by decide))
  refine hp_iconst (v := 1) C dX2_settle_22 (by decide) ?_
  refine hp_aload_nR C dX2_settle_23 rfl ?_
  refine kg_N C K_10 hn hb (by decide) fl_X2_15_2 fl_X2_15_4 dX2_settle_24 (K_10.f64 hn) ?_
  refine hp_iconst (v := 0) C dX2_settle_27 (by decide) ?_
  refine hp_callV (ci := 1) C ml_X2_31 im_X0_tell se_X0_tell rfl (by decide) (kc_tell (d := d - 1) (w := 1) (n := n) (r := 0) K_10 hl) (by omega) dX2_settle_28 K_10.isJ rfl rfl (by simp [Value.category]) (fun v_28 h_28 hp => ?_) (fun _ _ hf => hf.elim)
  obtain ⟨rfl, K_28⟩ := hp
  refine hp_iload_n C dX2_settle_31 rfl ?_
  refine hp_if_ne (tgt := 39) C dX2_settle_32 (by decide) (fun z_9 => absurd z_9 (by decide)) (fun _ => ?_)
  refine hp_iconst (v := 1) C dX2_settle_35 (by decide) ?_
  refine hp_goto (tgt := 40) C dX2_settle_36 (by decide) ?_
  refine hp_iret C hr (by decide) dX2_settle_40 ?_
  exact ⟨rfl, K_28⟩
set_option maxRecDepth 20000 in
set_option maxHeartbeats 4000000 in
theorem kc_settle1 {l : Launch} {G : hpG} {pr : Nat → Prop} {B : hpT} {N S : Nat} {h : hpT} {κ : kS} {a : aS} {d : Nat} (K : KR G pr B N S h κ a) {n : Nat} (hn : n < a_mk a) (hb : a_nd a 0 n = 0 ∨ a_nd a 0 n = 1) (hl : (a_ev a).length < 2 ^ 30) (hd : 1 ≤ d) : hp_C l G yX2_settle (.code yX2_settle cX2_settle 3 (some .boolean)) d [.ref (κ.1 0 n), .int 1, .ref (κ.1 5 1)] (h) (fun v h' => v = some (.int 0) ∧ KR G pr B N S h' κ (a_no (a_sn a 3 n 0) 2 n 0)) (fun _ _ => False) := by
  refine hp_ofV (by decide) (by simp [Value.category]) (Nat.le_of_ble_eq_true rfl) (fun M C hr hx el => ?_)
  refine hp_aload_nR C dX2_settle_0 rfl ?_
  refine hp_iload_n C dX2_settle_1 rfl ?_
  refine hp_if_eq (tgt := 9) C dX2_settle_2 (by decide) (fun z_9 => absurd z_9 (by decide)) (fun _ => ?_)
  refine hp_iconst (v := 0) C dX2_settle_5 (by decide) ?_
  refine hp_goto (tgt := 10) C dX2_settle_6 (by decide) ?_
  refine kp_68N C K hn hb fl_X2_9_2 fl_X2_9_4 0 (by decide) dX2_settle_10 (fun h_10 K_10 => ?_)
  refine hp_aload_nR C dX2_settle_13 rfl ?_
  refine hp_iload_n C dX2_settle_14 rfl ?_
  refine hp_if_eq (tgt := 22) C dX2_settle_15 (by decide) (fun z_9 => absurd z_9 (by decide)) (fun _ => ?_)
  refine hp_iconst (v := 2) C dX2_settle_18 (by decide) ?_
  refine hp_goto (tgt := 23) C dX2_settle_19 (by decide) ?_
  refine hp_aload_nR C dX2_settle_23 rfl ?_
  refine kg_N C K_10 hn hb (by decide) fl_X2_15_2 fl_X2_15_4 dX2_settle_24 (K_10.f64 hn) ?_
  refine hp_iconst (v := 0) C dX2_settle_27 (by decide) ?_
  refine hp_callV (ci := 1) C ml_X2_31 im_X0_tell se_X0_tell rfl (by decide) (kc_tell (d := d - 1) (w := 2) (n := n) (r := 0) K_10 hl) (by omega) dX2_settle_28 K_10.isJ rfl rfl (by simp [Value.category]) (fun v_28 h_28 hp => ?_) (fun _ _ hf => hf.elim)
  obtain ⟨rfl, K_28⟩ := hp
  refine hp_iload_n C dX2_settle_31 rfl ?_
  refine hp_if_ne (tgt := 39) C dX2_settle_32 (by decide) (fun _ => ?_) (fun z_9 => absurd z_9 (by decide))
  refine hp_iconst (v := 0) C dX2_settle_39 (by decide) ?_
  refine hp_iret C hr (by decide) dX2_settle_40 ?_
  exact ⟨rfl, K_28⟩
set_option maxRecDepth 20000 in
set_option maxHeartbeats 4000000 in
theorem kc_riseW {l : Launch} {G : hpG} {pr : Nat → Prop} {B : hpT} {N S : Nat} {h : hpT} {κ : kS} {a : aS} {d : Nat} (K : KR G pr B N S h κ a) {n q : Nat} (T : a_T a) (hn : n < a_mk a) (hk : a_nd a 0 n = 0) (hl : (a_ev a).length < 2 ^ 30) (hd : 2 ≤ d) : hp_C l G yX4_rise (.code yX4_rise cX4_rise 3 (some .boolean)) d [.ref (κ.1 0 n), .ref (κ.1 5 1)] (h) (fun v h' => v = some (.int (if (a_go (q + 1) n a).1 = true then 1 else 0)) ∧ KR G pr B N S h' κ (a_go (q + 1) n a).2) (fun _ _ => False) := by
  rw [a_go_w hk]
  have r9 := T.r9 hn
  have r11 := T.r11 hn
  refine hp_ofV (by decide) (by simp [Value.category]) (Nat.le_of_ble_eq_true rfl) (fun M C hr hx el => ?_)
  refine hp_aload_nR C dX4_rise_0 rfl ?_
  refine hp_dup C dX4_rise_1 rfl ?_
  refine hp_get C fl_X4_24_1 dX4_rise_2 K.isJ K.f33 ?_
  refine hp_aload_nR C dX4_rise_5 rfl ?_
  refine hp_get C fl_X4_15_4 dX4_rise_6 (K.isW hn hk) (K.f134 hn hk) ?_
  refine hp_iadd C dX4_rise_9 ?_
  refine kp_33 C K fl_X4_24_1 (a_tm a + (a_nd a 9 n).toNat) (by rw [a_ofN r9.1, nI_add]) (Nat.le_add_right _ _) dX4_rise_10 (fun h_10 K_10 => ?_)
  refine hp_aload_nR C dX4_rise_13 rfl ?_
  refine hp_get C fl_X4_21_4 dX4_rise_14 (K_10.isW hn hk) (K_10.f136 hn hk) ?_
  refine hp_if_le (tgt := 24) C dX4_rise_17 (by decide) (fun c_17 => ?_) (fun c_17 => ?_)
  · have hp : ¬ 0 < a_nd a 11 n := by
      have := (a_ofI_le (x := a_nd a 11 n) (y := 0) (by omega) (by omega)).mp c_17
      omega
    rw [if_neg hp]
    refine hp_iconst (v := 0) C dX4_rise_24 (by decide) ?_
    refine hp_istore_n C dX4_rise_25 (by decide) ?_
    refine hp_iload_n C dX4_rise_26 rfl ?_
    refine hp_if_eq (tgt := 40) C dX4_rise_27 (by decide) (fun _ => ?_) (fun z_9 => absurd z_9 (by decide))
    refine hp_aload_nR C dX4_rise_40 rfl ?_
    refine hp_iload_n C dX4_rise_41 rfl ?_
    refine hp_aload_nR C dX4_rise_42 rfl ?_
    refine hp_callU C 4 ul_X4_29_X4 rfl (by decide) (kc_settle0 (d := d - 1) K_10 hn (Or.inl hk) hl (by omega)) (by omega) dX4_rise_43 (K_10.isW hn hk) rfl rfl (by simp [Value.category]) (fun v_43 h_43 hp => ?_)
    obtain ⟨rfl, K_43⟩ := hp
    refine hp_iret C hr (by decide) dX4_rise_46 ?_
    exact ⟨rfl, K_43⟩
  · have hp : 0 < a_nd a 11 n := by
      have := (not_congr (a_ofI_le (x := a_nd a 11 n) (y := 0) (by omega) (by omega))).mp c_17
      omega
    rw [if_pos hp]
    refine hp_iconst (v := 1) C dX4_rise_20 (by decide) ?_
    refine hp_goto (tgt := 25) C dX4_rise_21 (by decide) ?_
    refine hp_istore_n C dX4_rise_25 (by decide) ?_
    refine hp_iload_n C dX4_rise_26 rfl ?_
    refine hp_if_eq (tgt := 40) C dX4_rise_27 (by decide) (fun z_9 => absurd z_9 (by decide)) (fun _ => ?_)
    refine hp_aload_nR C dX4_rise_30 rfl ?_
    refine hp_dup C dX4_rise_31 rfl ?_
    refine hp_get C fl_X4_21_4 dX4_rise_32 (K_10.isW hn hk) (K_10.f136 hn hk) ?_
    refine hp_iconst (v := 1) C dX4_rise_35 (by decide) ?_
    refine hp_isub C dX4_rise_36 ?_
    refine kp_136W C K_10 hn hk fl_X4_21_4 (a_nd a 11 n - 1) (a_ofI_pred _) dX4_rise_37 (fun h_37 K_37 => ?_)
    refine hp_aload_nR C dX4_rise_40 rfl ?_
    refine hp_iload_n C dX4_rise_41 rfl ?_
    refine hp_aload_nR C dX4_rise_42 rfl ?_
    refine hp_callU C 4 ul_X4_29_X4 rfl (by decide) (kc_settle1 (d := d - 1) K_37 hn (Or.inl hk) hl (by omega)) (by omega) dX4_rise_43 (K_37.isW hn hk) rfl rfl (by simp [Value.category]) (fun v_43 h_43 hp => ?_)
    obtain ⟨rfl, K_43⟩ := hp
    refine hp_iret C hr (by decide) dX4_rise_46 ?_
    exact ⟨rfl, K_43⟩
set_option maxRecDepth 20000 in
set_option maxHeartbeats 4000000 in
theorem kc_fallW {l : Launch} {G : hpG} {pr : Nat → Prop} {B : hpT} {N S : Nat} {h : hpT} {κ : kS} {a : aS} {d : Nat} (K : KR G pr B N S h κ a) {n : Nat} (T : a_T a) (hn : n < a_mk a) (hk : a_nd a 0 n = 0) (hl : (a_ev a).length < 2 ^ 30) (hd : 2 ≤ d) : hp_C l G yX4_fall (.code yX4_fall cX4_fall 3 none) d [.ref (κ.1 0 n), .ref (κ.1 5 1)] (h) (fun v h' => v = none ∧ KR G pr B N S h' κ (a_end false n a)) (fun _ _ => False) := by
  have r8 := T.r8 hn
  have r10 := T.r10 hn
  refine hp_ofV (by decide) (by simp [Value.category]) (Nat.le_of_ble_eq_true rfl) (fun M C hr hx el => ?_)
  refine hp_aload_nR C dX4_fall_0 rfl ?_
  refine hp_get C fl_X4_9_4 dX4_fall_1 (K.isW hn hk) (K.f133 hn hk) ?_
  refine hp_iconst (v := (-1)) C dX4_fall_4 (by decide) ?_
  refine hp_icmp_eq (tgt := 26) C dX4_fall_5 (by decide) (fun c_5 => ?_) (fun c_5 => ?_)
  · refine hp_iconst (v := 1) C dX4_fall_26 (by decide) ?_
    refine hp_goto (tgt := 31) C dX4_fall_27 (by decide) ?_
    have e8 : a_nd a 8 n = -1 := (a_ofI_eq (x := a_nd a 8 n) (y := -1) (by omega) (by omega)).mp c_5
    have lg : a_long a n = (a_nd a 10 n).toNat := by unfold a_long; rw [if_pos (Or.inl (by omega))]
    have ds : a_dies a n = false := by simp [a_dies, e8]
    refine hp_istore_n C dX4_fall_31 (by decide) ?_
    refine hp_aload_nR C dX4_fall_32 rfl ?_
    refine hp_dup C dX4_fall_33 rfl ?_
    refine hp_get C fl_X4_24_1 dX4_fall_34 K.isJ K.f33 ?_
    refine hp_iload_n C dX4_fall_37 rfl ?_
    refine hp_if_eq (tgt := 48) C dX4_fall_38 (by decide) (fun z_9 => absurd z_9 (by decide)) (fun _ => ?_)
    refine hp_aload_nR C dX4_fall_41 rfl ?_
    refine hp_get C fl_X4_18_4 dX4_fall_42 (K.isW hn hk) (K.f135 hn hk) ?_
    refine hp_goto (tgt := 52) C dX4_fall_45 (by decide) ?_
    refine hp_iadd C dX4_fall_52 ?_
    refine kp_33 C K fl_X4_24_1 (a_tm a + a_long a n) (by rw [lg, a_ofN (by omega), nI_add]) (Nat.le_add_right _ _) dX4_fall_53 (fun h_53 K_53 => ?_)
    refine hp_aload_nR C dX4_fall_56 rfl ?_
    refine hp_iconst (v := 0) C dX4_fall_57 (by decide) ?_
    refine kp_68W C K_53 hn hk fl_X4_33_4 0 (by decide) dX4_fall_58 (fun h_58 K_58 => ?_)
    refine hp_aload_nR C dX4_fall_61 rfl ?_
    refine hp_iload_n C dX4_fall_62 rfl ?_
    refine hp_if_eq (tgt := 70) C dX4_fall_63 (by decide) (fun z_9 => absurd z_9 (by decide)) (fun _ => ?_)
    refine hp_iconst (v := 3) C dX4_fall_66 (by decide) ?_
    refine hp_goto (tgt := 71) C dX4_fall_67 (by decide) ?_
    refine hp_aload_nR C dX4_fall_71 rfl ?_
    refine hp_get C fl_X4_36_4 dX4_fall_72 (K_58.isW hn hk) (K_58.f64 hn) ?_
    refine hp_iconst (v := 0) C dX4_fall_75 (by decide) ?_
    refine hp_callV (ci := 1) C ml_X4_39 im_X0_tell se_X0_tell rfl (by decide) (kc_tell (d := d - 1) (w := 3) (n := n) (r := 0) K_58 hl) (by omega) dX4_fall_76 K_58.isJ rfl rfl (by simp [Value.category]) (fun v_76 h_76 hp => ?_) (fun _ _ hf => hf.elim)
    obtain ⟨rfl, K_76⟩ := hp
    refine hp_vret C hr dX4_fall_79 ?_
    exact ⟨rfl, by rw [← a_end_w hk rfl ds]; exact K_76⟩
  · refine hp_aload_nR C dX4_fall_8 rfl ?_
    refine hp_get C fl_X4_9_4 dX4_fall_9 (K.isW hn hk) (K.f133 hn hk) ?_
    refine hp_if_le (tgt := 30) C dX4_fall_12 (by decide) (fun c_12 => ?_) (fun c_12 => ?_)
    · refine hp_iconst (v := 0) C dX4_fall_30 (by decide) ?_
      have e8 : ¬ a_nd a 8 n = -1 := fun e => c_5 (by rw [e]; decide)
      have f8 : a_nd a 8 n ≤ 0 := (a_ofI_le (x := a_nd a 8 n) (y := 0) (by omega) (by omega)).mp c_12
      have g8 : a_nd a 8 n = 0 := by omega
      have lg : a_long a n = (a_nd a 8 n).toNat := by unfold a_long; rw [if_neg (by omega)]
      have ds : a_dies a n = true := by simp [a_dies, g8]
      refine hp_istore_n C dX4_fall_31 (by decide) ?_
      refine hp_aload_nR C dX4_fall_32 rfl ?_
      refine hp_dup C dX4_fall_33 rfl ?_
      refine hp_get C fl_X4_24_1 dX4_fall_34 K.isJ K.f33 ?_
      refine hp_iload_n C dX4_fall_37 rfl ?_
      refine hp_if_eq (tgt := 48) C dX4_fall_38 (by decide) (fun _ => ?_) (fun z_9 => absurd z_9 (by decide))
      refine hp_aload_nR C dX4_fall_48 rfl ?_
      refine hp_get C fl_X4_9_4 dX4_fall_49 (K.isW hn hk) (K.f133 hn hk) ?_
      refine hp_iadd C dX4_fall_52 ?_
      refine kp_33 C K fl_X4_24_1 (a_tm a + a_long a n) (by rw [lg, a_ofN (by omega), nI_add]) (Nat.le_add_right _ _) dX4_fall_53 (fun h_53 K_53 => ?_)
      refine hp_aload_nR C dX4_fall_56 rfl ?_
      refine hp_iconst (v := 0) C dX4_fall_57 (by decide) ?_
      refine kp_68W C K_53 hn hk fl_X4_33_4 0 (by decide) dX4_fall_58 (fun h_58 K_58 => ?_)
      refine hp_aload_nR C dX4_fall_61 rfl ?_
      refine hp_iload_n C dX4_fall_62 rfl ?_
      refine hp_if_eq (tgt := 70) C dX4_fall_63 (by decide) (fun _ => ?_) (fun z_9 => absurd z_9 (by decide))
      refine hp_iconst (v := 4) C dX4_fall_70 (by decide) ?_
      refine hp_aload_nR C dX4_fall_71 rfl ?_
      refine hp_get C fl_X4_36_4 dX4_fall_72 (K_58.isW hn hk) (K_58.f64 hn) ?_
      refine hp_iconst (v := 0) C dX4_fall_75 (by decide) ?_
      refine hp_callV (ci := 1) C ml_X4_39 im_X0_tell se_X0_tell rfl (by decide) (kc_tell (d := d - 1) (w := 4) (n := n) (r := 0) K_58 hl) (by omega) dX4_fall_76 K_58.isJ rfl rfl (by simp [Value.category]) (fun v_76 h_76 hp => ?_) (fun _ _ hf => hf.elim)
      obtain ⟨rfl, K_76⟩ := hp
      refine hp_vret C hr dX4_fall_79 ?_
      exact ⟨rfl, by rw [← a_end_w hk rfl ds]; exact K_76⟩
    · refine hp_aload_nR C dX4_fall_15 rfl ?_
      refine hp_get C fl_X4_18_4 dX4_fall_16 (K.isW hn hk) (K.f135 hn hk) ?_
      refine hp_aload_nR C dX4_fall_19 rfl ?_
      refine hp_get C fl_X4_9_4 dX4_fall_20 (K.isW hn hk) (K.f133 hn hk) ?_
      refine hp_icmp_gt (tgt := 30) C dX4_fall_23 (by decide) (fun c_23 => ?_) (fun c_23 => ?_)
      · refine hp_iconst (v := 0) C dX4_fall_30 (by decide) ?_
        have e8 : ¬ a_nd a 8 n = -1 := fun e => c_5 (by rw [e]; decide)
        have f8 : ¬ a_nd a 8 n ≤ 0 := (not_congr (a_ofI_le (x := a_nd a 8 n) (y := 0) (by omega) (by omega))).mp c_12
        have g8 : a_nd a 8 n < a_nd a 10 n := (a_ofI_lt (by omega) (by omega)).mp c_23
        have lg : a_long a n = (a_nd a 8 n).toNat := by unfold a_long; rw [if_neg (by omega)]
        have ds : a_dies a n = true := by unfold a_dies; simp only [Bool.or_eq_true, Bool.and_eq_true, decide_eq_true_eq]; omega
        refine hp_istore_n C dX4_fall_31 (by decide) ?_
        refine hp_aload_nR C dX4_fall_32 rfl ?_
        refine hp_dup C dX4_fall_33 rfl ?_
        refine hp_get C fl_X4_24_1 dX4_fall_34 K.isJ K.f33 ?_
        refine hp_iload_n C dX4_fall_37 rfl ?_
        refine hp_if_eq (tgt := 48) C dX4_fall_38 (by decide) (fun _ => ?_) (fun z_9 => absurd z_9 (by decide))
        refine hp_aload_nR C dX4_fall_48 rfl ?_
        refine hp_get C fl_X4_9_4 dX4_fall_49 (K.isW hn hk) (K.f133 hn hk) ?_
        refine hp_iadd C dX4_fall_52 ?_
        refine kp_33 C K fl_X4_24_1 (a_tm a + a_long a n) (by rw [lg, a_ofN (by omega), nI_add]) (Nat.le_add_right _ _) dX4_fall_53 (fun h_53 K_53 => ?_)
        refine hp_aload_nR C dX4_fall_56 rfl ?_
        refine hp_iconst (v := 0) C dX4_fall_57 (by decide) ?_
        refine kp_68W C K_53 hn hk fl_X4_33_4 0 (by decide) dX4_fall_58 (fun h_58 K_58 => ?_)
        refine hp_aload_nR C dX4_fall_61 rfl ?_
        refine hp_iload_n C dX4_fall_62 rfl ?_
        refine hp_if_eq (tgt := 70) C dX4_fall_63 (by decide) (fun _ => ?_) (fun z_9 => absurd z_9 (by decide))
        refine hp_iconst (v := 4) C dX4_fall_70 (by decide) ?_
        refine hp_aload_nR C dX4_fall_71 rfl ?_
        refine hp_get C fl_X4_36_4 dX4_fall_72 (K_58.isW hn hk) (K_58.f64 hn) ?_
        refine hp_iconst (v := 0) C dX4_fall_75 (by decide) ?_
        refine hp_callV (ci := 1) C ml_X4_39 im_X0_tell se_X0_tell rfl (by decide) (kc_tell (d := d - 1) (w := 4) (n := n) (r := 0) K_58 hl) (by omega) dX4_fall_76 K_58.isJ rfl rfl (by simp [Value.category]) (fun v_76 h_76 hp => ?_) (fun _ _ hf => hf.elim)
        obtain ⟨rfl, K_76⟩ := hp
        refine hp_vret C hr dX4_fall_79 ?_
        exact ⟨rfl, by rw [← a_end_w hk rfl ds]; exact K_76⟩
      · refine hp_iconst (v := 1) C dX4_fall_26 (by decide) ?_
        refine hp_goto (tgt := 31) C dX4_fall_27 (by decide) ?_
        have e8 : ¬ a_nd a 8 n = -1 := fun e => c_5 (by rw [e]; decide)
        have f8 : ¬ a_nd a 8 n ≤ 0 := (not_congr (a_ofI_le (x := a_nd a 8 n) (y := 0) (by omega) (by omega))).mp c_12
        have g8 : ¬ a_nd a 8 n < a_nd a 10 n := (not_congr (a_ofI_lt (by omega) (by omega))).mp c_23
        have lg : a_long a n = (a_nd a 10 n).toNat := by unfold a_long; split <;> omega
        have ds : a_dies a n = false := by unfold a_dies; simp only [Bool.or_eq_false_iff, Bool.and_eq_false_iff, decide_eq_false_iff_not]; omega
        refine hp_istore_n C dX4_fall_31 (by decide) ?_
        refine hp_aload_nR C dX4_fall_32 rfl ?_
        refine hp_dup C dX4_fall_33 rfl ?_
        refine hp_get C fl_X4_24_1 dX4_fall_34 K.isJ K.f33 ?_
        refine hp_iload_n C dX4_fall_37 rfl ?_
        refine hp_if_eq (tgt := 48) C dX4_fall_38 (by decide) (fun z_9 => absurd z_9 (by decide)) (fun _ => ?_)
        refine hp_aload_nR C dX4_fall_41 rfl ?_
        refine hp_get C fl_X4_18_4 dX4_fall_42 (K.isW hn hk) (K.f135 hn hk) ?_
        refine hp_goto (tgt := 52) C dX4_fall_45 (by decide) ?_
        refine hp_iadd C dX4_fall_52 ?_
        refine kp_33 C K fl_X4_24_1 (a_tm a + a_long a n) (by rw [lg, a_ofN (by omega), nI_add]) (Nat.le_add_right _ _) dX4_fall_53 (fun h_53 K_53 => ?_)
        refine hp_aload_nR C dX4_fall_56 rfl ?_
        refine hp_iconst (v := 0) C dX4_fall_57 (by decide) ?_
        refine kp_68W C K_53 hn hk fl_X4_33_4 0 (by decide) dX4_fall_58 (fun h_58 K_58 => ?_)
        refine hp_aload_nR C dX4_fall_61 rfl ?_
        refine hp_iload_n C dX4_fall_62 rfl ?_
        refine hp_if_eq (tgt := 70) C dX4_fall_63 (by decide) (fun z_9 => absurd z_9 (by decide)) (fun _ => ?_)
        refine hp_iconst (v := 3) C dX4_fall_66 (by decide) ?_
        refine hp_goto (tgt := 71) C dX4_fall_67 (by decide) ?_
        refine hp_aload_nR C dX4_fall_71 rfl ?_
        refine hp_get C fl_X4_36_4 dX4_fall_72 (K_58.isW hn hk) (K_58.f64 hn) ?_
        refine hp_iconst (v := 0) C dX4_fall_75 (by decide) ?_
        refine hp_callV (ci := 1) C ml_X4_39 im_X0_tell se_X0_tell rfl (by decide) (kc_tell (d := d - 1) (w := 3) (n := n) (r := 0) K_58 hl) (by omega) dX4_fall_76 K_58.isJ rfl rfl (by simp [Value.category]) (fun v_76 h_76 hp => ?_) (fun _ _ hf => hf.elim)
        obtain ⟨rfl, K_76⟩ := hp
        refine hp_vret C hr dX4_fall_79 ?_
        exact ⟨rfl, by rw [← a_end_w hk rfl ds]; exact K_76⟩
set_option maxRecDepth 20000 in
set_option maxHeartbeats 4000000 in
theorem kc_perishW {l : Launch} {G : hpG} {pr : Nat → Prop} {B : hpT} {N S : Nat} {h : hpT} {κ : kS} {a : aS} {d : Nat} (K : KR G pr B N S h κ a) {n : Nat} (T : a_T a) (hn : n < a_mk a) (hk : a_nd a 0 n = 0) (hl : (a_ev a).length < 2 ^ 30) (hd : 2 ≤ d) : hp_C l G yX4_perish (.code yX4_perish cX4_perish 2 (some .int)) d [.ref (κ.1 0 n), .ref (κ.1 5 1)] (h) (fun v h' => v = some (.int 1) ∧ KR G pr B N S h' κ (a_end true n a)) (fun _ _ => False) := by
  have ee : a_end true n a = a_no (a_sn a 3 n 0) 4 n 0 := by unfold a_end; rw [if_neg (fun z => by cases z.2)]; rfl
  rw [ee]
  refine hp_ofV (by decide) (by simp [Value.category]) (Nat.le_of_ble_eq_true rfl) (fun M C hr hx el => ?_)
  refine hp_aload_nR C dX4_perish_0 rfl ?_
  refine hp_iconst (v := 0) C dX4_perish_1 (by decide) ?_
  refine kp_68W C K hn hk fl_X4_33_4 0 (by decide) dX4_perish_2 (fun h_2 K_2 => ?_)
  refine hp_aload_nR C dX4_perish_5 rfl ?_
  refine hp_iconst (v := 4) C dX4_perish_6 (by decide) ?_
  refine hp_aload_nR C dX4_perish_7 rfl ?_
  refine hp_get C fl_X4_36_4 dX4_perish_8 (K_2.isW hn hk) (K_2.f64 hn) ?_
  refine hp_iconst (v := 0) C dX4_perish_11 (by decide) ?_
  refine hp_callV (ci := 1) C ml_X4_39 im_X0_tell se_X0_tell rfl (by decide) (kc_tell (d := d - 1) (w := 4) (n := n) (r := 0) K_2 hl) (by omega) dX4_perish_12 K_2.isJ rfl rfl (by simp [Value.category]) (fun v_12 h_12 hp => ?_) (fun _ _ hf => hf.elim)
  obtain ⟨rfl, K_12⟩ := hp
  refine hp_iconst (v := 1) C dX4_perish_15 (by decide) ?_
  refine hp_iret C hr (by decide) dX4_perish_16 ?_
  exact ⟨rfl, K_12⟩
set_option maxRecDepth 20000 in
set_option maxHeartbeats 4000000 in
theorem kc_vanishW {l : Launch} {G : hpG} {pr : Nat → Prop} {B : hpT} {N S : Nat} {h : hpT} {κ : kS} {a : aS} {d : Nat} (K : KR G pr B N S h κ a) {n : Nat} (hn : n < a_mk a) (hk : a_nd a 0 n = 0) : hp_C l G yX4_vanish (.code yX4_vanish cX4_vanish 1 (some .int)) d [.ref (κ.1 0 n)] (h) (fun v h' => v = some (.int 1) ∧ KR G pr B N S h' κ (a_sn a 3 n 2)) (fun _ _ => False) := by
  refine hp_ofV (by decide) (by simp [Value.category]) (Nat.le_of_ble_eq_true rfl) (fun M C hr hx el => ?_)
  refine hp_aload_nR C dX4_vanish_0 rfl ?_
  refine hp_iconst (v := 2) C dX4_vanish_1 (by decide) ?_
  refine kp_68W C K hn hk fl_X4_33_4 2 (by decide) dX4_vanish_2 (fun h_2 K_2 => ?_)
  refine hp_iconst (v := 1) C dX4_vanish_5 (by decide) ?_
  refine hp_iret C hr (by decide) dX4_vanish_6 ?_
  exact ⟨rfl, K_2⟩
set_option maxRecDepth 20000 in
set_option maxHeartbeats 4000000 in
theorem kc_clear {l : Launch} {G : hpG} {pr : Nat → Prop} {B : hpT} {N S : Nat} {h : hpT} {κ : kS} {a : aS} {d : Nat} (K : KR G pr B N S h κ a) {n : Nat} (hn : n < a_mk a) (hk : a_nd a 0 n = 1) : hp_C l G yX3_clear (.code yX3_clear cX3_clear 1 none) d [.ref (κ.1 3 n)] (h) (fun v h' => v = none ∧ KR G pr B N S h' (k_srt κ n []) (a_srt a n [])) (fun _ _ => False) := by
  refine hp_ofV (by decide) (by simp [Value.category]) (Nat.le_of_ble_eq_true rfl) (fun M C hr hx el => ?_)
  refine hp_aload_nR C dX3_clear_0 rfl ?_
  refine hp_iconst (v := 0) C dX3_clear_1 (by decide) ?_
  refine hp_putf C fl_X3_15_3 rfl rfl rfl dX3_clear_2 (K.isR hn hk) ?_
  refine hp_vret C hr dX3_clear_5 ?_
  exact ⟨rfl, K.clear hn hk⟩
/-- how many of g's last of the first i are not under b, without a gap -/
def k_nb (g : Nat → Nat) (b : Int) : Nat → Nat
  | 0 => 0
  | i + 1 => if (g i : Int) < b then 0 else k_nb g b i + 1
theorem k_nb_le (g : Nat → Nat) (b : Int) : ∀ i, k_nb g b i ≤ i
  | 0 => Nat.le_refl _
  | i + 1 => by
    have := k_nb_le g b i
    unfold k_nb
    split <;> omega
set_option maxHeartbeats 4000000 in
theorem kl_nb {M : hpM} {G : hpG} {d : Nat} {h0 h : hpT} {pr : Nat → Prop} {B : hpT} {N S : Nat} {κ : kS} {a : aS} (K : KR G pr B N S h κ a) (C : hp_F M G yX3_notBefore cX3_notBefore 4 d h0) (hr : (hp_mt M).sig.returnType = some .int) {n : Nat} (hn : n < a_mk a) (hk : a_nd a 0 n = 1) (hs : ∀ i, i < (κ.2.2 n).length → (κ.2.2 n).getD i 0 < 2 ^ 31) {b : Int32} {X : String → hpT → Prop} {P : Option Value → hpT → Prop} : ∀ (j c : Nat) (lo : Nat → Option Value), j ≤ (κ.2.2 n).length → j + c < 2 ^ 31 → lo 0 = some (.ref (κ.1 3 n)) → lo 1 = some (.int b) → lo 2 = some (.int (nI c)) → lo 3 = some (.int (nI j - 1)) → P (some (.int (nI (c + k_nb (fun i => (κ.2.2 n).getD i 0) b.toInt j)))) h → hp_V M G 4 (hp_Q M G h0 P X) h 9 lo [] := by
  intro j
  induction j with
  | zero =>
    intro c lo hj hc e0 e1 e2 e3 hP
    refine hp_iload_n C dX3_notBefore_9 e3 ?_
    refine hp_if_lt (tgt := 32) C dX3_notBefore_10 (by decide) (fun _ => ?_) (fun z_9 => absurd (show (nI 0 - 1 : Int32) < 0 by decide) z_9)
    refine hp_iload_n C dX3_notBefore_32 e2 ?_
    refine hp_iret C hr rfl dX3_notBefore_33 ?_
    exact hP
  | succ j ih =>
    intro c lo hj hc e0 e1 e2 e3 hP
    rw [nI_pred] at e3
    have hg := hs j (by omega)
    have hin : vp_in (nI j) (hp_ln h (κ.1 4 n)) := vp_in_iff.mpr (by have := (K.isI hn hk).2; rw [nI_toInt (by omega)]; omega)
    have hv : hp_ar h (κ.1 4 n) (nI j).toNatClampNeg = .int (nI ((κ.2.2 n).getD j 0)) := by rw [nI_clamp (by omega)]; exact K.tim hn hk (by omega)
    have hcm : nI ((κ.2.2 n).getD j 0) < b ↔ (((κ.2.2 n).getD j 0 : Nat) : Int) < b.toInt := by rw [Int32.lt_iff_toInt_lt, nI_toInt hg]
    refine hp_iload_n C dX3_notBefore_9 e3 ?_
    refine hp_if_lt (tgt := 32) C dX3_notBefore_10 (by decide) (fun z_9 => absurd z_9 (nI_pos (by omega))) (fun _ => ?_)
    refine hp_aload_nR C dX3_notBefore_13 e0 ?_
    refine hp_get C fl_X3_9_3 dX3_notBefore_14 (K.isR hn hk) (K.f96 hn hk) ?_
    refine hp_iload_n C dX3_notBefore_17 e3 ?_
    refine hp_iald C dX3_notBefore_18 (K.isI hn hk).1 hin hv ?_
    refine hp_iload_n C dX3_notBefore_19 e1 ?_
    refine hp_icmp_lt (tgt := 32) C dX3_notBefore_20 (by decide) (fun c_20 => ?_) (fun c_20 => ?_)
    · have ek : k_nb (fun i => (κ.2.2 n).getD i 0) b.toInt (j + 1) = 0 := if_pos (hcm.mp c_20)
      rw [ek, Nat.add_zero] at hP
      refine hp_iload_n C dX3_notBefore_32 e2 ?_
      refine hp_iret C hr rfl dX3_notBefore_33 ?_
      exact hP
    · have ek : k_nb (fun i => (κ.2.2 n).getD i 0) b.toInt (j + 1) = k_nb (fun i => (κ.2.2 n).getD i 0) b.toInt j + 1 := if_neg (fun z => c_20 (hcm.mpr z))
      rw [ek, ← Nat.add_assoc, Nat.add_right_comm] at hP
      refine hp_iinc C dX3_notBefore_23 e2 (by decide) rfl ?_
      refine hp_iinc C dX3_notBefore_26 e3 (by decide) rfl ?_
      refine hp_goto (tgt := 9) C dX3_notBefore_29 (by decide) ?_
      exact ih (c + 1) _ (by omega) (by omega) e0 e1 ((va_up_ne _ _ (by decide)).trans ((va_up_self _ _ _).trans (by rw [show Int32.ofInt 1 = 1 from rfl, nI_1]))) ((va_up_self _ _ _).trans (by rw [k_dec])) hP
set_option maxRecDepth 20000 in
set_option maxHeartbeats 4000000 in
theorem kc_nb {l : Launch} {G : hpG} {pr : Nat → Prop} {B : hpT} {N S : Nat} {h : hpT} {κ : kS} {a : aS} {d : Nat} (K : KR G pr B N S h κ a) {n : Nat} {b : Int32} (hn : n < a_mk a) (hk : a_nd a 0 n = 1) (hs : ∀ i, i < (κ.2.2 n).length → (κ.2.2 n).getD i 0 < 2 ^ 31) (hl : (κ.2.2 n).length < 2 ^ 30) : hp_C l G yX3_notBefore (.code yX3_notBefore cX3_notBefore 4 (some .int)) d [.ref (κ.1 3 n), .int b] (h) (fun v h' => v = some (.int (nI (k_nb (fun i => (κ.2.2 n).getD i 0) b.toInt (κ.2.2 n).length))) ∧ h' = h) (fun _ _ => False) := by
  refine hp_ofV (by decide) (by simp [Value.category]) (Nat.le_of_ble_eq_true rfl) (fun M C hr hx el => ?_)
  refine hp_iconst (v := 0) C dX3_notBefore_0 (by decide) ?_
  refine hp_istore_n C dX3_notBefore_1 (by decide) ?_
  refine hp_aload_nR C dX3_notBefore_2 rfl ?_
  refine hp_get C fl_X3_15_3 dX3_notBefore_3 (K.isR hn hk) (K.f97 hn hk) ?_
  refine hp_iconst (v := 1) C dX3_notBefore_6 (by decide) ?_
  refine hp_isub C dX3_notBefore_7 ?_
  refine hp_istore_n C dX3_notBefore_8 (by decide) ?_
  exact kl_nb K C hr hn hk hs (κ.2.2 n).length 0 _ (Nat.le_refl _) (by omega) rfl rfl rfl rfl ⟨by rw [Nat.zero_add], rfl⟩
set_option maxRecDepth 20000 in
set_option maxHeartbeats 4000000 in
theorem kc_rr {l : Launch} {G : hpG} {pr : Nat → Prop} {B : hpT} {N S : Nat} {h : hpT} {κ : kS} {a : aS} {d : Nat} (K : KR G pr B N S h κ a) {n : Nat} {t : Int32} (hn : n < a_mk a) (hk : a_nd a 0 n = 1) (hs : ∀ i, i < (κ.2.2 n).length → (κ.2.2 n).getD i 0 < 2 ^ 31) (hl : (κ.2.2 n).length < 2 ^ 30) (hd : 1 ≤ d) : hp_C l G yX1_recentRestarts (.code yX1_recentRestarts cX1_recentRestarts 2 (some .int)) d [.ref (κ.1 0 n), .int t] (h) (fun v h' => v = some (.int (nI (k_nb (fun i => (κ.2.2 n).getD i 0) (t - Int32.ofInt (a_nd a 7 n)).toInt (κ.2.2 n).length))) ∧ h' = h) (fun _ _ => False) := by
  refine hp_ofV (by decide) (by simp [Value.category]) (Nat.le_of_ble_eq_true rfl) (fun M C hr hx el => ?_)
  refine hp_aload_nR C dX1_recentRestarts_0 rfl ?_
  refine hp_get C fl_X1_23_2 dX1_recentRestarts_1 (K.isK hn hk) (K.f70 hn hk) ?_
  refine hp_iload_n C dX1_recentRestarts_4 rfl ?_
  refine hp_aload_nR C dX1_recentRestarts_5 rfl ?_
  refine hp_get C fl_X1_34_2 dX1_recentRestarts_6 (K.isK hn hk) (K.f73 hn hk) ?_
  refine hp_isub C dX1_recentRestarts_9 ?_
  refine hp_callV (ci := 3) C ml_X1_80 im_X3_notBefore se_X3_notBefore rfl (by decide) (kc_nb (d := d - 1) K hn hk hs hl) (by omega) dX1_recentRestarts_10 (K.isR hn hk) rfl rfl (by simp [Value.category]) (fun v_10 h_10 hp => ?_) (fun _ _ hf => hf.elim)
  obtain ⟨rfl, rfl⟩ := hp
  refine hp_iret C hr rfl dX1_recentRestarts_13 ?_
  exact ⟨rfl, rfl⟩
set_option maxRecDepth 20000 in
set_option maxHeartbeats 4000000 in
theorem kc_told {l : Launch} {G : hpG} {pr : Nat → Prop} {B : hpT} {N S : Nat} {h : hpT} {κ : kS} {a : aS} {d : Nat} (K : KR G pr B N S h κ a) {i : Int32} {j : Nat} (hj : j < 4) (hl : (a_ev a).length < 2 ^ 30) : hp_C l G yX0_told (.code yX0_told cX0_told 4 (some .int)) d [.ref (κ.1 5 1), .int i, .int (nI j)] (h) (fun v h' => v = some (.int (a_evt a i j)) ∧ h' = h) (fun _ _ => False) := by
  refine hp_ofV (by decide) (by simp [Value.category]) (Nat.le_of_ble_eq_true rfl) (fun M C hr hx el => ?_)
  refine hp_iload_n C dX0_told_0 rfl ?_
  refine hp_if_lt (tgt := 32) C dX0_told_1 (by decide) (fun c_1 => ?_) (fun c_1 => ?_)
  · refine hp_iconst (v := 0) C dX0_told_32 (by decide) ?_
    refine hp_istore_n C dX0_told_33 (by decide) ?_
    refine hp_iload_n C dX0_told_34 rfl ?_
    refine hp_if_eq (tgt := 49) C dX0_told_35 (by decide) (fun _ => ?_) (fun z_9 => absurd z_9 (by decide))
    refine hp_iconst (v := (-1)) C dX0_told_49 (by decide) ?_
    refine hp_iret C hr rfl dX0_told_50 ?_
    exact ⟨by rw [show a_evt a i j = -1 from if_neg (by have q1 : (600 : Int32).toInt = 600 := (by decide); have q2 : (0 : Int32).toInt = 0 := (by decide); simp only [Int32.lt_iff_toInt_lt, Int32.le_iff_toInt_le, q1, q2, nI_toInt (n := (a_ev a).length) (by omega)] at *; omega)], rfl⟩
  · refine hp_iload_n C dX0_told_4 rfl ?_
    refine hp_aload_nR C dX0_told_5 rfl ?_
    refine hp_get C fl_X0_20_1 dX0_told_6 K.isJ K.f34 ?_
    refine hp_icmp_ge (tgt := 32) C dX0_told_9 (by decide) (fun c_9 => ?_) (fun c_9 => ?_)
    · refine hp_iconst (v := 0) C dX0_told_32 (by decide) ?_
      refine hp_istore_n C dX0_told_33 (by decide) ?_
      refine hp_iload_n C dX0_told_34 rfl ?_
      refine hp_if_eq (tgt := 49) C dX0_told_35 (by decide) (fun _ => ?_) (fun z_9 => absurd z_9 (by decide))
      refine hp_iconst (v := (-1)) C dX0_told_49 (by decide) ?_
      refine hp_iret C hr rfl dX0_told_50 ?_
      exact ⟨by rw [show a_evt a i j = -1 from if_neg (by have q1 : (600 : Int32).toInt = 600 := (by decide); have q2 : (0 : Int32).toInt = 0 := (by decide); simp only [Int32.lt_iff_toInt_lt, Int32.le_iff_toInt_le, q1, q2, nI_toInt (n := (a_ev a).length) (by omega)] at *; omega)], rfl⟩
    · refine hp_iload_n C dX0_told_12 rfl ?_
      refine hp_sipush (v := 600) C dX0_told_13 (by decide) ?_
      refine hp_icmp_ge (tgt := 32) C dX0_told_16 (by decide) (fun c_16 => ?_) (fun c_16 => ?_)
      · refine hp_iconst (v := 0) C dX0_told_32 (by decide) ?_
        refine hp_istore_n C dX0_told_33 (by decide) ?_
        refine hp_iload_n C dX0_told_34 rfl ?_
        refine hp_if_eq (tgt := 49) C dX0_told_35 (by decide) (fun _ => ?_) (fun z_9 => absurd z_9 (by decide))
        refine hp_iconst (v := (-1)) C dX0_told_49 (by decide) ?_
        refine hp_iret C hr rfl dX0_told_50 ?_
        exact ⟨by rw [show a_evt a i j = -1 from if_neg (by have q1 : (600 : Int32).toInt = 600 := (by decide); have q2 : (0 : Int32).toInt = 0 := (by decide); simp only [Int32.lt_iff_toInt_lt, Int32.le_iff_toInt_le, q1, q2, nI_toInt (n := (a_ev a).length) (by omega)] at *; omega)], rfl⟩
      · refine hp_iload_n C dX0_told_19 rfl ?_
        refine hp_if_lt (tgt := 32) C dX0_told_20 (by decide) (fun z_9 => absurd z_9 (nI_pos (by omega))) (fun _ => ?_)
        refine hp_iload_n C dX0_told_23 rfl ?_
        refine hp_iconst (v := 4) C dX0_told_24 (by decide) ?_
        refine hp_icmp_ge (tgt := 32) C dX0_told_25 (by decide) (fun z_9 => absurd z_9 (nI_ge (a := j) (b := 4) hj (by omega))) (fun _ => ?_)
        refine hp_iconst (v := 1) C dX0_told_28 (by decide) ?_
        refine hp_goto (tgt := 33) C dX0_told_29 (by decide) ?_
        refine hp_istore_n C dX0_told_33 (by decide) ?_
        refine hp_iload_n C dX0_told_34 rfl ?_
        refine hp_if_eq (tgt := 49) C dX0_told_35 (by decide) (fun z_9 => absurd z_9 (by decide)) (fun _ => ?_)
        have hin : 0 ≤ i.toInt ∧ i.toInt < (a_ev a).length ∧ i.toInt < 600 := by
          have q1 : (600 : Int32).toInt = 600 := by decide
          have q2 : (0 : Int32).toInt = 0 := by decide
          simp only [Int32.lt_iff_toInt_lt, Int32.le_iff_toInt_le, q1, q2, nI_toInt (n := (a_ev a).length) (by omega)] at *
          omega
        have hcl : i.toNatClampNeg = i.toInt.toNat := rfl
        refine hp_aload_nR C dX0_told_38 rfl ?_
        refine hp_get C fl_X0_13_1 dX0_told_39 K.isJ K.f32 ?_
        refine hp_iload_n C dX0_told_42 rfl ?_
        refine hp_aald C 5 rfl rfl (by decide) dX0_told_43 K.isC.1 (by rw [K.isC.2]; exact nI_in hj (by omega)) ((congrArg (hp_ar h (κ.1 5 2)) (nI_clamp (by omega))).trans (K.col hj)) ?_
        refine hp_iload_n C dX0_told_44 rfl ?_
        refine hp_iald C dX0_told_45 (K.isc hj).1 (by rw [(K.isc hj).2]; exact vp_in_iff.mpr (by omega)) (K.evt (i := i.toInt.toNat) hj (by omega) (by omega)) ?_
        refine hp_goto (tgt := 50) C dX0_told_46 (by decide) ?_
        refine hp_iret C hr rfl dX0_told_50 ?_
        exact ⟨by rw [show a_evt a i j = _ from if_pos hin], rfl⟩
end
section
/-! ===== what ceasing and starting leave alone ===== -/
/-- b comes of a: the tree stays, time and events go on -/
def a_kp (a b : aS) : Prop := a_mk b = a_mk a ∧ a_rw b = a_rw a ∧ (∀ f, f ≠ 3 → f ≠ 11 → a_nd b f = a_nd a f) ∧ a_tm a ≤ a_tm b ∧ (a_ev a).length ≤ (a_ev b).length ∧ a_rs b = a_rs a ∧ a_gv b = a_gv a ∧ (a_T a → a_T b)
theorem a_kp.rf (a : aS) : a_kp a a := ⟨rfl, rfl, fun _ _ _ => rfl, Nat.le_refl _, Nat.le_refl _, rfl, rfl, fun t => t⟩
theorem a_kp.tr {a b c : aS} (x : a_kp a b) (y : a_kp b c) : a_kp a c := ⟨y.1.trans x.1, y.2.1.trans x.2.1, fun f h1 h2 => (y.2.2.1 f h1 h2).trans (x.2.2.1 f h1 h2), Nat.le_trans x.2.2.2.1 y.2.2.2.1, Nat.le_trans x.2.2.2.2.1 y.2.2.2.2.1, y.2.2.2.2.2.1.trans x.2.2.2.2.2.1, y.2.2.2.2.2.2.1.trans x.2.2.2.2.2.2.1, fun t => y.2.2.2.2.2.2.2 (x.2.2.2.2.2.2.2 t)⟩
theorem a_kp.mk {a b : aS} (x : a_kp a b) : a_mk b = a_mk a := x.1
theorem a_kp.rw' {a b : aS} (x : a_kp a b) : a_rw b = a_rw a := x.2.1
theorem a_kp.nd {a b : aS} (x : a_kp a b) {f : Nat} (h1 : f ≠ 3 := by decide) (h2 : f ≠ 11 := by decide) (n : Nat) : a_nd b f n = a_nd a f n := congrFun (x.2.2.1 f h1 h2) n
theorem a_kp.tm {a b : aS} (x : a_kp a b) : a_tm a ≤ a_tm b := x.2.2.2.1
theorem a_kp.ev {a b : aS} (x : a_kp a b) : (a_ev a).length ≤ (a_ev b).length := x.2.2.2.2.1
theorem a_kp.rs {a b : aS} (x : a_kp a b) : a_rs b = a_rs a := x.2.2.2.2.2.1
theorem a_kp.T {a b : aS} (x : a_kp a b) (t : a_T a) : a_T b := x.2.2.2.2.2.2.2 t
theorem a_kp.sn3 (a : aS) (n : Nat) {x : Int} (hx : 0 ≤ x ∧ x ≤ 2) : a_kp a (a_sn a 3 n x) := by
  refine ⟨rfl, rfl, fun f h1 _ => va_up_ne _ _ h1, Nat.le_refl _, Nat.le_refl _, rfl, rfl, fun T => ?_⟩
  refine ⟨T.1, T.2.1, fun m hm => ?_, T.2.2.2⟩
  show 0 ≤ va_up (a_nd a) 3 (va_up (a_nd a 3) n x) 3 m ∧ va_up (a_nd a) 3 (va_up (a_nd a 3) n x) 3 m ≤ 2
  rw [va_up_self]
  by_cases e : m = n
  · rw [e, va_up_self]; exact hx
  · rw [va_up_ne _ _ e]; exact T.2.2.1 m hm
theorem a_kp.sn11 (a : aS) (n : Nat) {x : Int} (hx : a_T a → n < a_mk a → 0 ≤ x ∧ x ≤ 50) : a_kp a (a_sn a 11 n x) := by
  refine ⟨rfl, rfl, fun f _ h2 => va_up_ne _ _ h2, Nat.le_refl _, Nat.le_refl _, rfl, rfl, fun T => ?_⟩
  refine ⟨T.1, T.2.1, T.2.2.1, fun m hm => ?_, T.2.2.2.2⟩
  show 0 ≤ va_up (a_nd a) 11 (va_up (a_nd a 11) n x) 11 m ∧ va_up (a_nd a) 11 (va_up (a_nd a 11) n x) 11 m ≤ 50
  rw [va_up_self]
  by_cases e : m = n
  · rw [e, va_up_self]; exact hx T (e ▸ hm)
  · rw [va_up_ne _ _ e]; exact T.2.2.2.1 m hm
theorem a_kp.st (a : aS) {t : Nat} (ht : a_tm a ≤ t) : a_kp a (a_st a t) := ⟨rfl, rfl, fun _ _ _ => rfl, ht, Nat.le_refl _, rfl, rfl, fun T => T⟩
theorem a_kp.no (a : aS) (w n r : Nat) : a_kp a (a_no a w n r) := ⟨rfl, rfl, fun _ _ _ => rfl, Nat.le_refl _, by show _ ≤ (a_ev a ++ [_]).length; rw [List.length_append]; exact Nat.le_add_right _ _, rfl, rfl, fun T => T⟩
theorem a_kp.srt (a : aS) (n : Nat) (l : List Nat) : a_kp a (a_srt a n l) := ⟨rfl, rfl, fun _ _ _ => rfl, Nat.le_refl _, Nat.le_refl _, rfl, rfl, fun T => T⟩
theorem a_end_kp (k : Bool) (n : Nat) (a : aS) : a_kp a (a_end k n a) := by
  unfold a_end
  split
  · exact ((a_kp.st a (Nat.le_add_right _ _)).tr (a_kp.sn3 _ n (by omega))).tr (a_kp.no _ _ _ _)
  · exact (a_kp.sn3 a n (by omega)).tr (a_kp.no _ _ _ _)
theorem a_cR_kp {f : Nat → aS → Nat × aS} (hf : ∀ c a, a_kp a (f c a).2) : ∀ (l : List Nat) (a : aS), a_kp a (a_cR f l a).2
  | [], a => a_kp.rf a
  | c :: r, a => by
    unfold a_cR
    split
    · exact (hf c a).tr (a_cR_kp hf r _)
    · exact a_cR_kp hf r a
theorem a_ce_kp (k : Bool) : ∀ (d n : Nat) (a : aS), a_kp a (a_ce k d n a).2
  | 0, _, a => a_kp.rf a
  | d + 1, n, a => by
    unfold a_ce
    split
    · exact a_end_kp k n a
    · exact (a_cR_kp (a_ce_kp k d) _ a).tr (a_end_kp k n _)
theorem a_sR_kp {f : Nat → aS → Bool × aS} (hf : ∀ c a, a_kp a (f c a).2) : ∀ (l : List Nat) (a : aS), a_kp a (a_sR f l a).2
  | [], a => a_kp.rf a
  | c :: r, a => by
    show a_kp a (if (f c a).1 = true then a_sR f r (f c a).2 else (false, (f c a).2)).2
    split
    · exact (hf c a).tr (a_sR_kp hf r _)
    · exact hf c a
theorem a_go_kp : ∀ (d n : Nat) (a : aS), a_kp a (a_go d n a).2
  | 0, _, a => a_kp.rf a
  | d + 1, n, a => by
    by_cases hw : a_nd a 0 n = 0
    · rw [a_go_w hw]
      split
      · refine (((a_kp.st a (Nat.le_add_right _ _)).tr (a_kp.sn11 _ n (fun T hn => ?_))).tr (a_kp.sn3 _ n (by omega))).tr (a_kp.no _ _ _ _)
        have := T.r11 (n := n) hn
        have e : a_nd (a_st a (a_tm a + (a_nd a 9 n).toNat)) 11 n = a_nd a 11 n := rfl
        omega
      · exact ((a_kp.st a (Nat.le_add_right _ _)).tr (a_kp.sn3 _ n (by omega))).tr (a_kp.no _ _ _ _)
    · have e : a_go (d + 1) n a = (if (a_sR (a_go d) (a_rw a n) (a_srt a n [])).1 = true then (true, a_no (a_sn (a_sR (a_go d) (a_rw a n) (a_srt a n [])).2 3 n 1) 1 n 0) else (false, a_no (a_sn (a_cR (a_ce false d) (a_rw a n).reverse (a_sR (a_go d) (a_rw a n) (a_srt a n [])).2).2 3 n 0) 2 n 0)) := by
        show (if a_nd a 0 n = 0 then _ else _) = _
        rw [if_neg hw]
      rw [e]
      have k1 := (a_kp.srt a n []).tr (a_sR_kp (a_go_kp d) (a_rw a n) (a_srt a n []))
      split
      · exact (k1.tr (a_kp.sn3 _ n (by omega))).tr (a_kp.no _ _ _ _)
      · exact ((k1.tr (a_cR_kp (a_ce_kp false d) _ _)).tr (a_kp.sn3 _ n (by omega))).tr (a_kp.no _ _ _ _)
end
section
/-! ===== what is read of the lists ===== -/
theorem KR.isE2 {G : hpG} {pr : Nat → Prop} {B : hpT} {N S : Nat} {h : hpT} {κ : kS} {a : aS} {n i : Nat} (K : KR G pr B N S h κ a) (hn : n < a_mk a) (hk : a_nd a 0 n = 1) (hi : i < (a_rw a n).length) : k_is G pr h (κ.1 2 n) 13 ∧ (a_rw a n).length ≤ hp_ln h (κ.1 2 n) := by
  rcases K.isE hn hk with ⟨e, -⟩ | e
  · rw [e] at hi; cases hi
  · exact e
theorem kc_cast {M : hpM} {G : hpG} {y : MethodName} {cc : ByteArray} {nL d : Nat} {h0 h : hpT} {Q : State → Prop} {pc : Nat} {lo : Nat → Option Value} {st : List Value} {pr : Nat → Prop} {B : hpT} {N S : Nat} {κ : kS} {a : aS} {n idx : Nat} (C : hp_F M G y cc nL d h0) (K : KR G pr B N S h κ a) (hn : n < a_mk a) (hb : a_nd a 0 n = 0 ∨ a_nd a 0 n = 1) {nm : String} (w1 : Cond.classLink y.cls idx nm ∈ hp_ws) (w2 : Cond.castable "KeeperTree$Keeper" nm ∈ hp_ow) (w4 : Cond.castable "KeeperTree$Worker" nm ∈ hp_ow) (dd : decode cc pc = .ok (.checkcast idx, 3)) (kk : hp_V M G nL Q h (pc + 3) lo (.ref (κ.1 0 n) :: st)) : hp_V M G nL Q h pc lo (.ref (κ.1 0 n) :: st) := by
  rcases hb with hb | hb
  · exact hp_castY C 4 w1 w4 rfl (by decide) dd (K.isW hn hb) kk
  · exact hp_castY C 2 w1 w2 rfl (by decide) dd (K.isK hn hb) kk
theorem k_rc {a : aS} (T : a_T a) {n i : Nat} (hn : n < a_mk a) (hi : i < (a_rw a n).length) : (a_rw a n).getD i 0 ∈ a_rw a n := by
  rw [List.getD_eq_getElem?_getD, List.getElem?_eq_getElem hi]
  exact List.getElem_mem hi
set_option maxRecDepth 20000 in
set_option maxHeartbeats 4000000 in
theorem kj_ci3 {l : Launch} {G : hpG} {h : hpT} {d : Nat} {i n : Nat} (hi : i < n) (hn : n < 2 ^ 31) : hp_C l G yJ3_checkIndex_8e157 (.code yJ3_checkIndex_8e157 cJ3_checkIndex_8e157 3 (some .int)) d [.int (nI i), .int (nI n), .null] (h) (fun v h' => v = some (.int (nI i)) ∧ h' = h) (fun _ _ => False) := by
  refine hp_ofV (by decide) (by simp [Value.category]) (Nat.le_of_ble_eq_true rfl) (fun M C hr hx el => ?_)
  refine hp_iload_n C dJ3_checkIndex_8e157_0 rfl ?_
  refine hp_if_lt (tgt := 9) C dJ3_checkIndex_8e157_1 (by decide) (fun z_9 => absurd z_9 (nI_pos (by omega))) (fun _ => ?_)
  refine hp_iload_n C dJ3_checkIndex_8e157_4 rfl ?_
  refine hp_iload_n C dJ3_checkIndex_8e157_5 rfl ?_
  refine hp_icmp_lt (tgt := 16) C dJ3_checkIndex_8e157_6 (by decide) (fun _ => ?_) (fun z_9 => absurd (nI_lt hi hn) z_9)
  refine hp_iload_n C dJ3_checkIndex_8e157_16 rfl ?_
  refine hp_iret C hr rfl dJ3_checkIndex_8e157_17 ?_
  exact ⟨rfl, rfl⟩
set_option maxRecDepth 20000 in
set_option maxHeartbeats 4000000 in
theorem kj_ci {l : Launch} {G : hpG} {h : hpT} {d : Nat} {i n : Nat} (hi : i < n) (hn : n < 2 ^ 31) (hd : 1 ≤ d) : hp_C l G yJ15_checkIndex_7cf53 (.code yJ15_checkIndex_7cf53 cJ15_checkIndex_7cf53 2 (some .int)) d [.int (nI i), .int (nI n)] (h) (fun v h' => v = some (.int (nI i)) ∧ h' = h) (fun _ _ => False) := by
  refine hp_ofV (by decide) (by simp [Value.category]) (Nat.le_of_ble_eq_true rfl) (fun M C hr hx el => ?_)
  refine hp_iload_n C dJ15_checkIndex_7cf53_0 rfl ?_
  refine hp_iload_n C dJ15_checkIndex_7cf53_1 rfl ?_
  refine hp_null C dJ15_checkIndex_7cf53_2 ?_
  refine hp_callS C ml_J15_105 sm_J3_checkIndex_8e157 (kj_ci3 (d := d - 1) hi hn) (by omega) dJ15_checkIndex_7cf53_3 rfl rfl (by simp [Value.category]) (fun v_3 h_3 hp => ?_) (fun _ _ hf => hf.elim)
  obtain ⟨rfl, rfl⟩ := hp
  refine hp_iret C hr rfl dJ15_checkIndex_7cf53_6 ?_
  exact ⟨rfl, rfl⟩
set_option maxRecDepth 20000 in
set_option maxHeartbeats 4000000 in
theorem kc_size {l : Launch} {G : hpG} {pr : Nat → Prop} {B : hpT} {N S : Nat} {h : hpT} {κ : kS} {a : aS} {d : Nat} (K : KR G pr B N S h κ a) {n : Nat} (hn : n < a_mk a) (hk : a_nd a 0 n = 1) : hp_C l G yJx4a65c_size_8abf5 (.code yJx4a65c_size_8abf5 cJx4a65c_size_8abf5 1 (some .int)) d [.ref (κ.1 1 n)] (h) (fun v h' => v = some (.int (nI (a_rw a n).length)) ∧ h' = h) (fun _ _ => False) := by
  refine hp_ofV (by decide) (by simp [Value.category]) (Nat.le_of_ble_eq_true rfl) (fun M C hr hx el => ?_)
  refine hp_aload_nR C dJx4a65c_size_8abf5_0 rfl ?_
  refine hp_get C fl_Jx4a65c_48_0 dJx4a65c_size_8abf5_1 (K.isL hn hk) (K.f2 hn hk) ?_
  refine hp_iret C hr rfl dJx4a65c_size_8abf5_4 ?_
  exact ⟨rfl, rfl⟩
set_option maxRecDepth 20000 in
set_option maxHeartbeats 4000000 in
theorem kc_eld {l : Launch} {G : hpG} {pr : Nat → Prop} {B : hpT} {N S : Nat} {h : hpT} {κ : kS} {a : aS} {d : Nat} (K : KR G pr B N S h κ a) {n i : Nat} (hn : n < a_mk a) (hk : a_nd a 0 n = 1) (hi : i < (a_rw a n).length) (hl : (a_rw a n).length ≤ 79) : hp_C l G yJx4a65c_elementData_915e3 (.code yJx4a65c_elementData_915e3 cJx4a65c_elementData_915e3 2 (some (.object "java/lang/Object"))) d [.ref (κ.1 1 n), .int (nI i)] (h) (fun v h' => v = some (.ref (κ.1 0 ((a_rw a n).getD i 0))) ∧ h' = h) (fun _ _ => False) := by
  refine hp_ofV (by decide) (by simp [Value.category]) (Nat.le_of_ble_eq_true rfl) (fun M C hr hx el => ?_)
  refine hp_aload_nR C dJx4a65c_elementData_915e3_0 rfl ?_
  refine hp_get C fl_Jx4a65c_9_0 dJx4a65c_elementData_915e3_1 (K.isL hn hk) (K.f1 hn hk) ?_
  refine hp_iload_n C dJx4a65c_elementData_915e3_4 rfl ?_
  refine hp_aald C 3 rfl rfl (by decide) dJx4a65c_elementData_915e3_5 (K.isE2 hn hk hi).1.1 (vp_in_iff.mpr (by have := (K.isE2 hn hk hi).2; rw [nI_toInt (by omega)]; omega)) ((congrArg (hp_ar h (κ.1 2 n)) (nI_clamp (by omega))).trans (K.elt hn hk hi)) ?_
  refine hp_aret (r := some _) C hr (Or.inl ⟨_, rfl⟩) dJx4a65c_elementData_915e3_6 ?_
  exact ⟨rfl, rfl⟩
set_option maxRecDepth 20000 in
set_option maxHeartbeats 4000000 in
theorem kc_get {l : Launch} {G : hpG} {pr : Nat → Prop} {B : hpT} {N S : Nat} {h : hpT} {κ : kS} {a : aS} {d : Nat} (K : KR G pr B N S h κ a) {n i : Nat} (hn : n < a_mk a) (hk : a_nd a 0 n = 1) (hi : i < (a_rw a n).length) (hl : (a_rw a n).length ≤ 79) (hd : 2 ≤ d) : hp_C l G yJx4a65c_get_915e3 (.code yJx4a65c_get_915e3 cJx4a65c_get_915e3 2 (some (.object "java/lang/Object"))) d [.ref (κ.1 1 n), .int (nI i)] (h) (fun v h' => v = some (.ref (κ.1 0 ((a_rw a n).getD i 0))) ∧ h' = h) (fun _ _ => False) := by
  refine hp_ofV (by decide) (by simp [Value.category]) (Nat.le_of_ble_eq_true rfl) (fun M C hr hx el => ?_)
  refine hp_iload_n C dJx4a65c_get_915e3_0 rfl ?_
  refine hp_aload_nR C dJx4a65c_get_915e3_1 rfl ?_
  refine hp_get C fl_Jx4a65c_48_0 dJx4a65c_get_915e3_2 (K.isL hn hk) (K.f2 hn hk) ?_
  refine hp_callS C ml_Jx4a65c_118 sm_J15_checkIndex_7cf53 (kj_ci (d := d - 1) (i := i) (n := (a_rw a n).length) hi (by omega) (by omega)) (by omega) dJx4a65c_get_915e3_5 rfl rfl (by simp [Value.category]) (fun v_5 h_5 hp => ?_) (fun _ _ hf => hf.elim)
  obtain ⟨rfl, rfl⟩ := hp
  refine hp_pop C dJx4a65c_get_915e3_8 rfl ?_
  refine hp_aload_nR C dJx4a65c_get_915e3_9 rfl ?_
  refine hp_iload_n C dJx4a65c_get_915e3_10 rfl ?_
  refine hp_callV (ci := 0) C ml_Jx4a65c_123 im_Jx4a65c_elementData_915e3 se_Jx4a65c_elementData_915e3 rfl (by decide) (kc_eld (d := d - 1) K hn hk hi hl) (by omega) dJx4a65c_get_915e3_11 (K.isL hn hk) rfl rfl (by simp [Value.category]) (fun v_11 h_11 hp => ?_) (fun _ _ hf => hf.elim)
  obtain ⟨rfl, rfl⟩ := hp
  refine hp_aret (r := some _) C hr (Or.inl ⟨_, rfl⟩) dJx4a65c_get_915e3_14 ?_
  exact ⟨rfl, rfl⟩
set_option maxHeartbeats 4000000 in
theorem kl_pl {M : hpM} {G : hpG} {d : Nat} {h0 h : hpT} {pr : Nat → Prop} {B : hpT} {N S : Nat} {κ : kS} {a : aS} (K : KR G pr B N S h κ a) (T : a_T a) (C : hp_F M G yX1_placeOf cX1_placeOf 3 d h0) (hr : (hp_mt M).sig.returnType = some .int) (hd : 3 ≤ d) {n c t : Nat} (hn : n < a_mk a) (hk : a_nd a 0 n = 1) (hc : c < a_mk a) (ht : t < (a_rw a n).length) (hat : (a_rw a n).getD t 0 = c) (hno : ∀ j, j < t → ¬ (a_rw a n).getD j 0 = c) {X : String → hpT → Prop} {P : Option Value → hpT → Prop} (hP : P (some (.int (nI t))) h) : ∀ (k i : Nat) (lo : Nat → Option Value), i + k = t → lo 0 = some (.ref (κ.1 0 n)) → lo 1 = some (.ref (κ.1 0 c)) → lo 2 = some (.int (nI i)) → hp_V M G 3 (hp_Q M G h0 P X) h 2 lo [] := by
  have hl := T.rl hn
  intro k
  induction k with
  | zero =>
    intro i lo hi e0 e1 e2
    have hit : i = t := by omega
    subst hit
    refine hp_iload_n C dX1_placeOf_2 e2 ?_
    refine hp_aload_nR C dX1_placeOf_3 e0 ?_
    refine hp_get C fl_X1_14_2 dX1_placeOf_4 (K.isK hn hk) (K.f69 hn hk) ?_
    refine hp_callV (ci := 0) C ml_X1_64 im_Jx4a65c_size_8abf5 se_Jx4a65c_size_8abf5 rfl (by decide) (kc_size (d := d - 1) K hn hk) (by omega) dX1_placeOf_7 (K.isL hn hk) rfl rfl (by simp [Value.category]) (fun v_7 h_7 hp => ?_) (fun _ _ hf => hf.elim)
    obtain ⟨rfl, rfl⟩ := hp
    refine hp_icmp_ge (tgt := 33) C dX1_placeOf_10 (by decide) (fun z_9 => absurd z_9 (nI_ge (by omega) (by omega))) (fun _ => ?_)
    refine hp_aload_nR C dX1_placeOf_13 e0 ?_
    refine hp_get C fl_X1_14_2 dX1_placeOf_14 (K.isK hn hk) (K.f69 hn hk) ?_
    refine hp_iload_n C dX1_placeOf_17 e2 ?_
    refine hp_callV (ci := 0) C ml_X1_68 im_Jx4a65c_get_915e3 se_Jx4a65c_get_915e3 rfl (by decide) (kc_get (d := d - 1) K hn hk (i := i) (by omega) hl (by omega)) (by omega) dX1_placeOf_18 (K.isL hn hk) rfl rfl (by simp [Value.category]) (fun v_18 h_18 hp => ?_) (fun _ _ hf => hf.elim)
    obtain ⟨rfl, rfl⟩ := hp
    refine hp_aload_nR C dX1_placeOf_21 e1 ?_
    refine hp_acmp_ne (r := some _) (q := some _) (tgt := 27) C dX1_placeOf_22 (by decide) (fun c_22 => ?_) (fun c_22 => ?_)
    · exact absurd (congrArg (fun x => some (κ.1 0 x)) hat) c_22
    · refine hp_iload_n C dX1_placeOf_25 e2 ?_
      refine hp_iret C hr rfl dX1_placeOf_26 ?_
      exact hP
  | succ k ih =>
    intro i lo hi e0 e1 e2
    refine hp_iload_n C dX1_placeOf_2 e2 ?_
    refine hp_aload_nR C dX1_placeOf_3 e0 ?_
    refine hp_get C fl_X1_14_2 dX1_placeOf_4 (K.isK hn hk) (K.f69 hn hk) ?_
    refine hp_callV (ci := 0) C ml_X1_64 im_Jx4a65c_size_8abf5 se_Jx4a65c_size_8abf5 rfl (by decide) (kc_size (d := d - 1) K hn hk) (by omega) dX1_placeOf_7 (K.isL hn hk) rfl rfl (by simp [Value.category]) (fun v_7 h_7 hp => ?_) (fun _ _ hf => hf.elim)
    obtain ⟨rfl, rfl⟩ := hp
    refine hp_icmp_ge (tgt := 33) C dX1_placeOf_10 (by decide) (fun z_9 => absurd z_9 (nI_ge (by omega) (by omega))) (fun _ => ?_)
    refine hp_aload_nR C dX1_placeOf_13 e0 ?_
    refine hp_get C fl_X1_14_2 dX1_placeOf_14 (K.isK hn hk) (K.f69 hn hk) ?_
    refine hp_iload_n C dX1_placeOf_17 e2 ?_
    refine hp_callV (ci := 0) C ml_X1_68 im_Jx4a65c_get_915e3 se_Jx4a65c_get_915e3 rfl (by decide) (kc_get (d := d - 1) K hn hk (i := i) (by omega) hl (by omega)) (by omega) dX1_placeOf_18 (K.isL hn hk) rfl rfl (by simp [Value.category]) (fun v_18 h_18 hp => ?_) (fun _ _ hf => hf.elim)
    obtain ⟨rfl, rfl⟩ := hp
    refine hp_aload_nR C dX1_placeOf_21 e1 ?_
    refine hp_acmp_ne (r := some _) (q := some _) (tgt := 27) C dX1_placeOf_22 (by decide) (fun c_22 => ?_) (fun c_22 => ?_)
    · refine hp_iinc C dX1_placeOf_27 e2 (by decide) rfl ?_
      refine hp_goto (tgt := 2) C dX1_placeOf_30 (by decide) ?_
      exact ih (i + 1) _ (by omega) e0 e1 ((va_up_self _ _ _).trans (by rw [show Int32.ofInt 1 = 1 from rfl, nI_1]))
    · exact absurd (K.2.1.1 _ _ (T.rc hn (k_rc T hn (by omega))).1 hc (Option.some.inj c_22)) (hno i (by omega))
set_option maxRecDepth 20000 in
set_option maxHeartbeats 4000000 in
theorem kc_place {l : Launch} {G : hpG} {pr : Nat → Prop} {B : hpT} {N S : Nat} {h : hpT} {κ : kS} {a : aS} {d : Nat} (K : KR G pr B N S h κ a) (T : a_T a) {n c t : Nat} (hn : n < a_mk a) (hk : a_nd a 0 n = 1) (hc : c < a_mk a) (ht : t < (a_rw a n).length) (hat : (a_rw a n).getD t 0 = c) (hno : ∀ j, j < t → ¬ (a_rw a n).getD j 0 = c) (hd : 3 ≤ d) : hp_C l G yX1_placeOf (.code yX1_placeOf cX1_placeOf 3 (some .int)) d [.ref (κ.1 0 n), .ref (κ.1 0 c)] (h) (fun v h' => v = some (.int (nI t)) ∧ h' = h) (fun _ _ => False) := by
  refine hp_ofV (by decide) (by simp [Value.category]) (Nat.le_of_ble_eq_true rfl) (fun M C hr hx el => ?_)
  refine hp_iconst (v := 0) C dX1_placeOf_0 (by decide) ?_
  refine hp_istore_n C dX1_placeOf_1 (by decide) ?_
  exact kl_pl K T C hr hd hn hk hc ht hat hno ⟨rfl, rfl⟩ t 0 _ (by omega) rfl rfl rfl
end
section
/-! ===== down the tree: a method that keepers and workers have ===== -/
def k_C2 (l : Launch) (G : hpG) (y2 : MethodName) (c2 : ByteArray) (m2 : Nat) (y4 : MethodName) (c4 : ByteArray) (m4 : Nat) (ret : Option FieldType) (d : Nat) (kd : Int) (av : List Value) (h : hpT) (P : Option Value → hpT → Prop) : Prop := (kd = 1 → hp_C l G y2 (.code y2 c2 m2 ret) d av h P (fun _ _ => False)) ∧ (kd = 0 → hp_C l G y4 (.code y4 c4 m4 ret) d av h P (fun _ _ => False))
theorem hp_callN {M : hpM} {G : hpG} {y : MethodName} {cc : ByteArray} {nL d : Nat} {h0 h : hpT} {Q : State → Prop} {pc : Nat} {lo : Nat → Option Value} {st : List Value} {pr : Nat → Prop} {B : hpT} {N S : Nat} {κ : kS} {a : aS} {n idx : Nat} (C : hp_F M G y cc nL d h0) (K : KR G pr B N S h κ a) (hn : n < a_mk a) (hb : a_nd a 0 n = 0 ∨ a_nd a 0 n = 1) {np m2 m4 d' : Nat} {x' y2 y4 : MethodName} {owner : String} {c2 c4 : ByteArray} {ret : Option FieldType} {As stk : List Value} {P' : Option Value → hpT → Prop}
    (u2 : hp_UL y.cls idx x' owner "KeeperTree$Keeper" y2 c2 m2 ret np) (u4 : hp_UL y.cls idx x' owner "KeeperTree$Worker" y4 c4 m4 ret np) (con : k_C2 M.2.1 G y2 c2 m2 y4 c4 m4 ret d' (a_nd a 0 n) (.ref (κ.1 0 n) :: As) h P') (hd : d' + 1 ≤ d) (dd : decode cc pc = .ok (.invokevirtual idx, 3)) (hnp : As.length = np) (hst : stk = As.reverse ++ .ref (κ.1 0 n) :: st) (hw : (st.map fun v => v.category).sum ≤ 8)
    (kk : ∀ v h', P' v h' → hp_V M G nL Q h' (pc + 3) lo (v.toList ++ st)) : hp_V M G nL Q h pc lo stk := by
  rcases hb with hb | hb
  · exact hp_callU C 4 u4 rfl (by decide) (con.2 hb) hd dd (K.isW hn hb) hnp hst hw kk
  · exact hp_callU C 2 u2 rfl (by decide) (con.1 hb) hd dd (K.isK hn hb) hnp hst hw kk
/-- keeper n of row L is here, f levels are left below it -/
def a_lv (f n : Nat) (L : List Nat) (a : aS) : Prop := a_T a ∧ n < a_mk a ∧ a_nd a 0 n = 1 ∧ (8 : Int) ≤ f + a_nd a 2 n ∧ a_rw a n = L
theorem a_lv.kp {f n : Nat} {L : List Nat} {a b : aS} (x : a_lv f n L a) (k : a_kp a b) : a_lv f n L b := ⟨k.T x.1, by rw [k.mk]; exact x.2.1, by rw [k.nd]; exact x.2.2.1, by rw [k.nd]; exact x.2.2.2.1, by rw [k.rw']; exact x.2.2.2.2⟩
theorem a_lv.c {f n i : Nat} {L : List Nat} {a : aS} (x : a_lv f n L a) (hi : i < L.length) : L.getD i 0 < a_mk a ∧ (9 : Int) ≤ f + a_nd a 2 (L.getD i 0) := by
  obtain ⟨T, x2, x3, x4, x5⟩ := x
  subst x5
  obtain ⟨q1, q2, q3⟩ := T.rc x2 (k_rc T x2 hi)
  exact ⟨q1, by rw [q3]; omega⟩
theorem k_tk {L : List Nat} {j : Nat} (h : j < L.length) : (L.take (j + 1)).reverse = L.getD j 0 :: (L.take j).reverse := by
  rw [List.take_succ, List.getElem?_eq_getElem h, List.getD_eq_getElem?_getD, List.getElem?_eq_getElem h]
  simp
theorem a_cR_up {f : Nat → aS → Nat × aS} {c : Nat} {r : List Nat} {a : aS} (h : a_nd a 3 c = 1) : a_cR f (c :: r) a = ((f c a).1 + (a_cR f r (f c a).2).1, (a_cR f r (f c a).2).2) := by
  show (if a_nd a 3 c = 1 then _ else _) = _
  rw [if_pos h]
theorem a_cR_dn {f : Nat → aS → Nat × aS} {c : Nat} {r : List Nat} {a : aS} (h : ¬ a_nd a 3 c = 1) : a_cR f (c :: r) a = a_cR f r a := by
  show (if a_nd a 3 c = 1 then _ else _) = _
  rw [if_neg h]
theorem a_ce_w {k : Bool} {d n : Nat} {a : aS} (hw : a_nd a 0 n = 0) : a_ce k (d + 1) n a = (1, a_end k n a) := by
  show (if a_nd a 0 n = 0 then _ else _) = _
  rw [if_pos hw]
theorem a_ce_k {k : Bool} {d n : Nat} {a : aS} (hk : a_nd a 0 n = 1) : a_ce k (d + 1) n a = ((a_cR (a_ce k d) (a_rw a n).reverse a).1 + 1, a_no (a_sn (a_cR (a_ce k d) (a_rw a n).reverse a).2 3 n 0) (if k = true then 4 else 3) n 0) := by
  show (if a_nd a 0 n = 0 then _ else _) = _
  rw [if_neg (by omega)]
  show ((a_cR (a_ce k d) (a_rw a n).reverse a).1 + 1, a_end k n (a_cR (a_ce k d) (a_rw a n).reverse a).2) = _
  unfold a_end
  rw [if_neg]
  intro z
  have := (a_cR_kp (a_ce_kp k d) (a_rw a n).reverse a).nd (f := 0) (n := n)
  omega
abbrev kf_fall (l : Launch) (G : hpG) (d : Nat) (kd : Int) (b J : Nat) (h : hpT) (P : Option Value → hpT → Prop) : Prop := k_C2 l G yX1_fall cX1_fall 2 yX4_fall cX4_fall 3 none d kd [.ref b, .ref J] h P
abbrev kf_per (l : Launch) (G : hpG) (d : Nat) (kd : Int) (b J : Nat) (h : hpT) (P : Option Value → hpT → Prop) : Prop := k_C2 l G yX1_perish cX1_perish 5 yX4_perish cX4_perish 2 (some .int) d kd [.ref b, .ref J] h P
set_option maxHeartbeats 4000000 in
theorem kl_fa {M : hpM} {G : hpG} {d : Nat} {h0 : hpT} {pr : Nat → Prop} {B : hpT} {N S : Nat} {κ : kS} (C : hp_F M G yX1_fallAll cX1_fallAll 4 d h0) (hr : (hp_mt M).sig.returnType = none) {f n D : Nat} {L : List Nat} (hD : D + 1 ≤ d) (hd : 3 ≤ d) (hch : ∀ (c : Nat) (a : aS) (h : hpT), KR G pr B N S h κ a → a_T a → c < a_mk a → (9 : Int) ≤ f + a_nd a 2 c → (a_ev (a_ce false f c a).2).length < 2 ^ 30 → kf_fall M.2.1 G D (a_nd a 0 c) (κ.1 0 c) (κ.1 5 1) h (fun v h' => v = none ∧ KR G pr B N S h' κ (a_ce false f c a).2)) {X : String → hpT → Prop} {P : Option Value → hpT → Prop} : ∀ (j : Nat) (lo : Nat → Option Value) (h : hpT) (a : aS), KR G pr B N S h κ a → a_lv f n L a → j ≤ L.length → (a_ev (a_cR (a_ce false f) (L.take j).reverse a).2).length < 2 ^ 30 → lo 0 = some (.ref (κ.1 0 n)) → lo 1 = some (.ref (κ.1 5 1)) → lo 2 = some (.int (nI j - 1)) → (∀ h', KR G pr B N S h' κ (a_cR (a_ce false f) (L.take j).reverse a).2 → P none h') → hp_V M G 4 (hp_Q M G h0 P X) h 10 lo [] := by
  intro j
  induction j with
  | zero =>
    intro lo h a K X hj hv e0 e1 e2 hP
    have hn := X.2.1
    have hk := X.2.2.1
    have T := X.1
    have hl := T.rl hn
    have eL := X.2.2.2.2
    refine hp_iload_n C dX1_fallAll_10 e2 ?_
    refine hp_if_lt (tgt := 45) C dX1_fallAll_11 (by decide) (fun _ => ?_) (fun z_9 => absurd (show (nI 0 - 1 : Int32) < 0 by decide) z_9)
    refine hp_vret C hr dX1_fallAll_45 ?_
    exact hP h K
  | succ j ih =>
    intro lo h a K X hj hv e0 e1 e2 hP
    have hn := X.2.1
    have hk := X.2.2.1
    have T := X.1
    have hl := T.rl hn
    have eL := X.2.2.2.2
    rw [nI_pred] at e2
    subst eL
    have hjl : j < (a_rw a n).length := by omega
    obtain ⟨hc, h9⟩ := X.c hjl
    have hb := T.kb hc
    have r3 := T.r3 hc
    rw [k_tk hjl] at hv hP
    generalize hcc : (a_rw a n).getD j 0 = c at hc h9 hb r3 hv hP
    refine hp_iload_n C dX1_fallAll_10 e2 ?_
    refine hp_if_lt (tgt := 45) C dX1_fallAll_11 (by decide) (fun z_9 => absurd z_9 (nI_pos (by omega))) (fun _ => ?_)
    refine hp_aload_nR C dX1_fallAll_14 e0 ?_
    refine hp_get C fl_X1_14_2 dX1_fallAll_15 (K.isK hn hk) (K.f69 hn hk) ?_
    refine hp_iload_n C dX1_fallAll_18 e2 ?_
    refine hp_callV (ci := 0) C ml_X1_68 im_Jx4a65c_get_915e3 se_Jx4a65c_get_915e3 rfl (by decide) (kc_get (d := d - 1) K hn hk (i := j) hjl hl (by omega)) (by omega) dX1_fallAll_19 (K.isL hn hk) rfl rfl (by simp [Value.category]) (fun v_19 h_19 hp => ?_) (fun _ _ hf => hf.elim)
    obtain ⟨rfl, e_19⟩ := hp
    rw [e_19, hcc]
    refine kc_cast C K hc hb cl_X1_4 (by decide) (by decide) dX1_fallAll_22 ?_
    refine hp_astore_n (r := some _) C dX1_fallAll_25 (by decide) ?_
    refine hp_aload_nR C dX1_fallAll_26 rfl ?_
    refine kg_N C K hc hb (by decide) fl_X1_72_2 fl_X1_72_4 dX1_fallAll_27 (K.f68 hc) ?_
    refine hp_iconst (v := 1) C dX1_fallAll_30 (by decide) ?_
    refine hp_icmp_ne (tgt := 39) C dX1_fallAll_31 (by decide) (fun c_31 => ?_) (fun c_31 => ?_)
    · have hu : ¬ a_nd a 3 c = 1 := fun e => c_31 (by rw [e]; decide)
      rw [a_cR_dn hu] at hv hP
      refine hp_iinc C dX1_fallAll_39 e2 (by decide) rfl ?_
      refine hp_goto (tgt := 10) C dX1_fallAll_42 (by decide) ?_
      exact ih _ _ _ K (X) (by omega) hv e0 e1 ((va_up_self _ _ _).trans (by rw [k_dec])) hP
    · have hu : a_nd a 3 c = 1 := (a_ofI_eq (x := a_nd a 3 c) (y := 1) (by omega) (by omega)).mp c_31
      rw [a_cR_up hu] at hv hP
      refine hp_aload_nR C dX1_fallAll_34 rfl ?_
      refine hp_aload_nR C dX1_fallAll_35 e1 ?_
      refine hp_callN C K hc hb ul_X1_84_X1 ul_X1_84_X4 (hch c a h K T hc h9 (Nat.lt_of_le_of_lt (a_cR_kp (a_ce_kp false f) _ _).ev hv)) (by omega) dX1_fallAll_36 rfl rfl (by simp [Value.category]) (fun v_36 h_36 hp => ?_)
      obtain ⟨rfl, K_36⟩ := hp
      refine hp_iinc C dX1_fallAll_39 e2 (by decide) rfl ?_
      refine hp_goto (tgt := 10) C dX1_fallAll_42 (by decide) ?_
      exact ih _ _ _ K_36 (X.kp (a_ce_kp false f c a)) (by omega) hv e0 e1 ((va_up_self _ _ _).trans (by rw [k_dec])) hP
set_option maxRecDepth 20000 in
set_option maxHeartbeats 4000000 in
theorem kc_fa {l : Launch} {G : hpG} {pr : Nat → Prop} {B : hpT} {N S : Nat} {h : hpT} {κ : kS} {a : aS} {d f n D : Nat} {L : List Nat} (K : KR G pr B N S h κ a) (X : a_lv f n L a) (hD : D + 1 ≤ d) (hd : 3 ≤ d) (hch : ∀ (c : Nat) (a : aS) (h : hpT), KR G pr B N S h κ a → a_T a → c < a_mk a → (9 : Int) ≤ f + a_nd a 2 c → (a_ev (a_ce false f c a).2).length < 2 ^ 30 → kf_fall l G D (a_nd a 0 c) (κ.1 0 c) (κ.1 5 1) h (fun v h' => v = none ∧ KR G pr B N S h' κ (a_ce false f c a).2)) (hv : (a_ev (a_cR (a_ce false f) L.reverse a).2).length < 2 ^ 30) : hp_C l G yX1_fallAll (.code yX1_fallAll cX1_fallAll 4 none) d [.ref (κ.1 0 n), .ref (κ.1 5 1)] (h) (fun v h' => v = none ∧ KR G pr B N S h' κ (a_cR (a_ce false f) L.reverse a).2) (fun _ _ => False) := by
  refine hp_ofV (by decide) (by simp [Value.category]) (Nat.le_of_ble_eq_true rfl) (fun M C hr hx el => ?_)
  subst el
  have hn := X.2.1
  have hk := X.2.2.1
  have eL := X.2.2.2.2
  subst eL
  refine hp_aload_nR C dX1_fallAll_0 rfl ?_
  refine hp_get C fl_X1_14_2 dX1_fallAll_1 (K.isK hn hk) (K.f69 hn hk) ?_
  refine hp_callV (ci := 0) C ml_X1_64 im_Jx4a65c_size_8abf5 se_Jx4a65c_size_8abf5 rfl (by decide) (kc_size (d := d - 1) K hn hk) (by omega) dX1_fallAll_4 (K.isL hn hk) rfl rfl (by simp [Value.category]) (fun v_4 h_4 hp => ?_) (fun _ _ hf => hf.elim)
  obtain ⟨rfl, e_4⟩ := hp
  rw [e_4]
  refine hp_iconst (v := 1) C dX1_fallAll_7 (by decide) ?_
  refine hp_isub C dX1_fallAll_8 ?_
  refine hp_istore_n C dX1_fallAll_9 (by decide) ?_
  exact kl_fa C hr hD hd hch (a_rw a n).length _ h a K X (Nat.le_refl _) (by rw [List.take_length]; exact hv) rfl rfl rfl (fun h' K' => ⟨rfl, by rw [List.take_length] at K'; exact K'⟩)
set_option maxRecDepth 20000 in
set_option maxHeartbeats 4000000 in
theorem kc_fall {l : Launch} {G : hpG} {pr : Nat → Prop} {B : hpT} {N S : Nat} {κ : kS} : ∀ (f n : Nat) (a : aS) (h : hpT) (D : Nat), KR G pr B N S h κ a → a_T a → n < a_mk a → (9 : Int) ≤ f + a_nd a 2 n → 2 * f + 6 ≤ D → (a_ev (a_ce false f n a).2).length < 2 ^ 30 → kf_fall l G D (a_nd a 0 n) (κ.1 0 n) (κ.1 5 1) h (fun v h' => v = none ∧ KR G pr B N S h' κ (a_ce false f n a).2) := by
  intro f
  induction f with
  | zero =>
    intro n a h D K T hn h9
    have := (T.r2 hn).2
    omega
  | succ f ih =>
    intro n a h D K T hn h9 hD hv
    refine ⟨fun hk => ?_, fun hk => ?_⟩
    · rw [a_ce_k hk] at hv ⊢
      have X : a_lv f n (a_rw a n) a := ⟨T, hn, hk, by omega, rfl⟩
      have k1 := a_cR_kp (a_ce_kp false f) (a_rw a n).reverse a
      have hv1 : (a_ev (a_cR (a_ce false f) (a_rw a n).reverse a).2).length < 2 ^ 30 := Nat.lt_of_le_of_lt (a_kp.no (a_sn (a_cR (a_ce false f) (a_rw a n).reverse a).2 3 n 0) 3 n 0).ev hv
      have hn1 : n < a_mk (a_cR (a_ce false f) (a_rw a n).reverse a).2 := by rw [k1.mk]; exact hn
      have hk1 : a_nd (a_cR (a_ce false f) (a_rw a n).reverse a).2 0 n = 1 := by rw [k1.nd]; exact hk
      refine hp_ofV (by decide) (by simp [Value.category]) (Nat.le_of_ble_eq_true rfl) (fun M C hr hx el => ?_)
      subst el
      refine hp_aload_nR C dX1_fall_0 rfl ?_
      refine hp_aload_nR C dX1_fall_1 rfl ?_
      refine hp_callV (ci := 2) C ml_X1_44 im_X1_fallAll se_X1_fallAll rfl (by decide) (kc_fa (d := D - 1) (D := D - 2) K X (by omega) (by omega) (fun c a h K T hc h9 hv => ih c a h (D - 2) K T hc h9 (by omega) hv) hv1) (by omega) dX1_fall_2 (K.isK hn hk) rfl rfl (by simp [Value.category]) (fun v_2 h_2 hp => ?_) (fun _ _ hf => hf.elim)
      obtain ⟨rfl, K_2⟩ := hp
      refine hp_aload_nR C dX1_fall_5 rfl ?_
      refine hp_iconst (v := 0) C dX1_fall_6 (by decide) ?_
      refine kp_68K C K_2 hn1 hk1 fl_X1_52_2 0 (by decide) dX1_fall_7 (fun h_7 K_7 => ?_)
      refine hp_aload_nR C dX1_fall_10 rfl ?_
      refine hp_iconst (v := 3) C dX1_fall_11 (by decide) ?_
      refine hp_aload_nR C dX1_fall_12 rfl ?_
      refine hp_get C fl_X1_55_2 dX1_fall_13 (K_7.isK hn1 hk1) (K_7.f64 hn1) ?_
      refine hp_iconst (v := 0) C dX1_fall_16 (by decide) ?_
      refine hp_callV (ci := 1) C ml_X1_58 im_X0_tell se_X0_tell rfl (by decide) (kc_tell (d := D - 1) (w := 3) (n := n) (r := 0) K_7 hv1) (by omega) dX1_fall_17 K_7.isJ rfl rfl (by simp [Value.category]) (fun v_17 h_17 hp => ?_) (fun _ _ hf => hf.elim)
      obtain ⟨rfl, K_17⟩ := hp
      refine hp_vret C hr dX1_fall_20 ?_
      exact ⟨rfl, K_17⟩
    · rw [a_ce_w hk] at hv ⊢
      exact kc_fallW K T hn hk (Nat.lt_of_le_of_lt (a_end_kp false n a).ev hv) (by omega)
end
