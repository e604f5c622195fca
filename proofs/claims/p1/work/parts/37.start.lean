/-! THE CLAIM OUT OF ONE WALK OF THE LAW'S BODY. Your part is whole_start (and what it stands on); all else here is the same for every law, but numbers. -/
def R_law : String := "KeeperTreeLaw"
def lw_P (b : Addr) (xs : List Int32) (args : Array Value) (s : State) : Prop := args = #[.ref b] ∧ s.IntsAt b xs ∧ xs.length ≤ 7 ∧ (Jvm.Cond.and given_1 narrow_1).before args s = true
def lw_Q (_ : Array Value) (s : State) (o : Outcome) (t : State) : Prop := o = .returned (some (.int 1)) ∧ Framed s o t [] 600002 7302232
def lw_Z (below : List Frame) (a : Array Value) (s : State) : State → Prop := fun t => ∃ o, t.status = .running ∧ Ended t below o ∧ lw_Q a s o t
/-- the law's own end, with 1 on the stack, nothing written that was there before, its room as the claim has it -/
theorem lw_ret {p : Program} {l : Launch} {e : Env} {s : State} {m : MethodId} {below : List Frame} {meth : Method} {c : Code} {b : Nat} (hx : p.tables.exec = Jvm.exec) (hb : c.code = code) (hr : meth.sig.returnType = ret) (hlocks : meth.locks = false) {pc : Nat} {H : Heap} {ls : Array Slot} (hdg : decode code pc = .ok (.ireturn, 1)) : W p l e room_1 s m #[Value.ref b] below meth c H [] 600002 7302232 (lw_Z below #[Value.ref b] s) (F0 m pc ls [.int 1]) := by
  intro T hT X
  obtain ⟨fs, hret, hrun, hended, hW, hframe⟩ := X.leave (v := some (.int 1)) (hlocks := hlocks) (fun h => by rw [hr] at h; cases h)
  have hmeth' : T.vm.method? m = some meth := X.method'
  refine ⟨T.setFrames fs, ?_, .returned (some (.int 1)), hrun, hended, rfl, ⟨_, rfl⟩, hW, hframe⟩
  jvm_step X.here [X.here.top, hx, hb, hdg, hmeth', hr, ret, narrow_b1]
  (try refine ⟨rfl, ?_⟩); (try refine ⟨rfl, ?_⟩)
  first | (intro acts; rw [hret _ acts rfl rfl rfl]) | rw [hret _ _ rfl rfl rfl]
  exact Steps.refl _
/-- what holds at the law's entry: the machine, the code, the tables' words (any of lw_tbl by 'hts w (by decide +kernel)'), the script of L ints xs at the cell b, what the Statement gives of the start (any of its parts by flat_of_before) -/
def lw_At (p : Program) (s : State) (m : MethodId) (meth : Method) (c : Code) (b L : Nat) (xs : Nat → Int32) : Prop :=
  p.tables.exec = Jvm.exec ∧ c.code = code ∧ meth.sig.returnType = ret ∧ c.maxLocals = 7 ∧ s.vm.findClass R_law = some m.cls ∧ (∀ w ∈ lw_tbl, w.before #[Value.ref b] s = true) ∧ va_X b L xs s s.heap ∧ b < s.heap.size ∧ meth.locks = false ∧ (Jvm.Cond.and given_1 narrow_1).before #[Value.ref b] s = true
theorem lw_ow {s : State} {a : Array Value} (hts : ∀ w ∈ lw_tbl, w.before a s = true) : hp_Ow s := by
  intro w hw
  have hk := List.all_eq_true.mp hp_ow_k w hw
  have h := hts w (hp_ow_in w hw)
  match w, hk, h with
  | .methodLinkNest .., _, h => exact va_Nw.of rfl h
  | .declares _, _, h => exact va_Nw.of rfl h
  | .castable _ _, _, h => exact va_Nw.of rfl h
  | .arrayOver _, _, h => exact h
set_option maxHeartbeats 4000000 in
theorem lw_world {s : State} {b : Nat} (hts : ∀ w ∈ lw_tbl, w.before #[Value.ref b] s = true) (hgv : (Jvm.Cond.and given_1 narrow_1).before #[Value.ref b] s = true) : ∃ G : hpG, hp_E G s ∧ hp_n0 G = s.heap.size ∧ hp_H0 G = s.heap := by
  have hw := hp_ws_hts hts
  have hs := flat_of_before _ hgv
  have hO := lw_ow hts
  obtain ⟨c0, i0, k0⟩ := u_known (C := RJx4a65c) (T := TJx4a65c) (N := 3) (n := 3) hw iw_Jx4a65c (hw _ (hp_in1 64 (by decide +kernel) rfl))
  obtain ⟨c1, i1, k1⟩ := u_known (C := RX0) (T := TX0) (N := 3) (n := 3) hw iw_X0 (hw _ (hp_in1 31 (by decide +kernel) rfl))
  obtain ⟨c2, i2, k2⟩ := u_known (C := RX1) (T := TX1) (N := 10) (n := 10) hw iw_X1 (hw _ (hp_in1 55 (by decide +kernel) rfl))
  obtain ⟨c3, i3, k3⟩ := u_known (C := RX3) (T := TX3) (N := 2) (n := 2) hw iw_X3 (hw _ (hp_in1 90 (by decide +kernel) rfl))
  obtain ⟨c4, i4, k4⟩ := u_known (C := RX4) (T := TX4) (N := 9) (n := 9) hw iw_X4 (hw _ (hp_in2 193 (by decide +kernel) rfl))
  obtain ⟨c5, i5, k5⟩ := u_known (C := RX5) (T := TX5) (N := 6) (n := 6) hw iw_X5 (hw _ (hp_in1 23 (by decide +kernel) rfl))
  obtain ⟨c6, i6, k6⟩ := u_known (C := RX6) (T := TX6) (N := 25) (n := 25) hw iw_X6 (hw _ (hp_in3 168 (by decide +kernel) rfl))
  obtain ⟨a0, p0, q0, f01, f02, f03⟩ := Cond.arrayClass_spec (hw _ ac_int)
  obtain ⟨a1, p1, q1, f11, f12, f13⟩ := Cond.arrayClass_spec (hw _ ac_boolean)
  obtain ⟨a2, p2, q2, f21, f22, f23⟩ := Cond.arrayClass_spec (hw _ ac_long)
  obtain ⟨q3, a3, p3, f31, -, f32, f33, f34⟩ := Cond.arrayOver_spec (hts (.arrayOver (.object "java/lang/Object")) (hp_ow_in _ (by decide)))
  obtain ⟨q4, a4, p4, f41, -, f42, f43, f44⟩ := Cond.arrayOver_spec (hts (.arrayOver (.object "KeeperTree$Node")) (hp_ow_in _ (by decide)))
  obtain ⟨q5, a5, p5, f51, f52, f53, f54⟩ := sf_over (hts (.arrayOver (.array .int)) (hp_ow_in _ (by decide)))
  have hA : ∀ a : Nat, a < s.heap.size → ¬ (fun q : Nat => s.heap.size ≤ q) a := fun a ha hq => absurd ha (Nat.not_lt.mpr hq)
  obtain ⟨dE, cE, cell, kE, e1, e2, e3, e4, e5, e6, -⟩ := Cond.exactly_spec (hs (Jvm.Cond.exactly (Jvm.Term.static "java/util/ArrayList" "DEFAULTCAPACITY_EMPTY_ELEMENTDATA" "[Ljava/lang/Object;") "[Ljava/lang/Object;") (by decide +kernel))
  have hlen := Cond.eq_int (n := 0) (hs (Jvm.Cond.eq (Jvm.Term.length (Jvm.Term.static "java/util/ArrayList" "DEFAULTCAPACITY_EMPTY_ELEMENTDATA" "[Ljava/lang/Object;")) (Jvm.Term.int (0 : Int32))) (by decide +kernel)) rfl
  obtain ⟨dE', cell', g1, g2, g3, g4⟩ := Jvm.Free.SB.Term.length_small hlen
  cases e1.symm.trans g1
  obtain ⟨g5, -, -, -⟩ := State.arrayAt?_spec g2
  cases e3.symm.trans g5
  have hsz : cell.slots.size = 0 := by
    have h1 : (0 : Int32) = nI cell.slots.size := by
      have := g3
      injection this
    have h2 := nI_toInt (n := cell.slots.size) g4
    rw [← h1, Int32.toInt_zero] at h2
    omega
  have hcE : cE = a3 := by
    have z : "[" ++ (FieldType.object "java/lang/Object").toString = "[Ljava/lang/Object;" := by decide +kernel
    rw [z] at f34
    exact Option.some.inj (e2.symm.trans f34)
  obtain ⟨mi, hmi⟩ := va_Mi.of (hs (Jvm.Cond.isRef (Jvm.Term.mirror "[Ljava/lang/Object;")) (by decide +kernel))
  refine ⟨((fun k => if k = 0 then c0 else if k = 1 then c1 else if k = 2 then c2 else if k = 3 then c3 else if k = 4 then c4 else if k = 5 then c5 else c6, fun k => if k = 0 then i0 else if k = 1 then i1 else if k = 2 then i2 else if k = 3 then i3 else if k = 4 then i4 else if k = 5 then i5 else i6), (fun k => if k = 0 then a0 else if k = 1 then a1 else if k = 2 then a2 else if k = 3 then a3 else if k = 4 then a4 else a5), s.heap.size, dE, mi, s.heap), ⟨⟨fun k q hq => ?_, fun k q hq => ?_⟩, hO, ?_, ?_, ?_, ⟨cell, e3, ?_, hsz, ?_⟩, ?_, hmi, ?_⟩, rfl, rfl⟩
  · match k, hq with
    | 0, hq => cases hq; exact k0
    | 1, hq => cases hq; exact k1
    | 2, hq => cases hq; exact k2
    | 3, hq => cases hq; exact k3
    | 4, hq => cases hq; exact k4
    | 5, hq => cases hq; exact k5
    | 6, hq => cases hq; exact k6
    | k + 7, hq => simp [vwCl] at hq
  · match k, hq with
    | 0, hq => cases hq; exact ⟨fun n z => ⟨fun q h => (by cases h), p0, f02, q0, f03⟩, f01⟩
    | 1, hq => cases hq; exact ⟨fun n z => ⟨fun q h => (by cases h), p1, f12, q1, f13⟩, f11⟩
    | 2, hq => cases hq; exact ⟨fun n z => ⟨fun q h => (by cases h), p2, f22, q2, f23⟩, f21⟩
    | 3, hq => cases hq; exact ⟨fun n z => ⟨fun q h => (by cases h), p3, f32, q3, f33⟩, p3, q3, f32, f33, f31, f34⟩
    | 4, hq => cases hq; exact ⟨fun n z => ⟨fun q h => (by cases h), p4, f42, q4, f43⟩, p4, q4, f42, f43, f41, f44⟩
    | 5, hq => cases hq; exact ⟨fun n z => ⟨fun q h => (by cases h), p5, f52, q5, f53⟩, f54⟩
    | k + 6, hq => simp [hp_tys] at hq
  · exact vx_Zqof (hts _ (List.mem_append_right _ (List.mem_of_getElem? (i := 222) (by decide +kernel)))) (hw _ (hp_in1 10 (by decide +kernel) rfl)) (hs (Jvm.Cond.isRef (Jvm.Term.static "java/lang/Throwable" "UNASSIGNED_STACK" "[Ljava/lang/StackTraceElement;")) (by decide +kernel)) hA
  · exact vx_Zqof (hts _ (List.mem_append_right _ (List.mem_of_getElem? (i := 224) (by decide +kernel)))) (hw _ (hp_in1 10 (by decide +kernel) rfl)) (hs (Jvm.Cond.isRef (Jvm.Term.static "java/lang/Throwable" "SUPPRESSED_SENTINEL" "Ljava/util/List;")) (by decide +kernel)) hA
  · exact va_Zof (hts _ (List.mem_append_right _ (List.mem_of_getElem? (i := 76) (by decide +kernel)))) (hw _ (hp_in1 7 (by decide +kernel) rfl)) e1 hA
  · rw [e6, hcE]
    rfl
  · intro q hq
    rw [hq] at e5
    cases e5
  · exact (Array.getElem?_eq_some_iff.mp e3).1
  · intro q hq
    have hq2 : q = ("KeeperTree$Keeper", "KeeperTree$Worker") ∨ q = ("KeeperTree$Worker", "KeeperTree$Keeper") ∨ q = ("java/lang/IllegalStateException", "java/lang/IllegalArgumentException") := by
      simpa [hp_nc] using hq
    rcases hq2 with rfl | rfl | rfl
    · exact va_Nc.of (hs (Jvm.Cond.not (Jvm.Cond.castable "KeeperTree$Keeper" "KeeperTree$Worker")) (by decide +kernel))
    · exact va_Nc.of (hs (Jvm.Cond.not (Jvm.Cond.castable "KeeperTree$Worker" "KeeperTree$Keeper")) (by decide +kernel))
    · exact va_Nc.of (hs (Jvm.Cond.not (Jvm.Cond.castable "java/lang/IllegalStateException" "java/lang/IllegalArgumentException")) (by decide +kernel))
