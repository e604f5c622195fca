/-! ===== System.arraycopy, aastore of null ===== -/
def hp_AC (own : String) (idx : Nat) : Prop := Cond.methodLink own idx arraycopyName ∈ hp_ws ∧ Cond.native arraycopyName ∈ hp_ws ∧ Cond.static arraycopyName ∈ hp_ws ∧ Cond.initialized "java/lang/System" ∈ hp_ws
/-- n values of a0's from sp on, laid into a's from dp on -/
def hp_cpy (h : hpT) (a0 a sp dp n : Nat) : hpT := (h.1, h.2.1, h.2.2.1, h.2.2.2.1, h.2.2.2.2.1, va_up (hp_ar h) a (va_cpy (hp_ar h a0) (hp_ar h a) sp dp n))
theorem ac_J7_150 : hp_AC RJ7 150 := ⟨(hp_in2 113 (by decide +kernel) rfl), (hp_in2 115 (by decide +kernel) rfl), (hp_in2 114 (by decide +kernel) rfl), (hp_in1 18 (by decide +kernel) rfl)⟩
theorem ac_Jx4a65c_112 : hp_AC RJx4a65c 112 := ⟨(hp_in2 234 (by decide +kernel) rfl), (hp_in2 115 (by decide +kernel) rfl), (hp_in2 114 (by decide +kernel) rfl), (hp_in1 18 (by decide +kernel) rfl)⟩
theorem ac_X3_27 : hp_AC RX3 27 := ⟨(hp_in3 51 (by decide +kernel) rfl), (hp_in2 115 (by decide +kernel) rfl), (hp_in2 114 (by decide +kernel) rfl), (hp_in1 18 (by decide +kernel) rfl)⟩
section HPY
variable {M : hpM} {G : hpG} {y : MethodName} {cc : ByteArray} {nL d : Nat} {h0 h : hpT} {Q : State → Prop} {pc : Nat} {lo : Nat → Option Value} {st : List Value}
theorem hp_wroteC {H H1 : Heap} {a0 a t sp dp n : Nat} (hR : hp_R G h H) (hi : hp_is G h a (10 + t)) (h6 : t < 6) (e1 : H1[a]? = some (arrV (hp_cA G t) (hp_ln h a) (va_cpy (hp_ar h a0) (hp_ar h a) sp dp n))) (e2 : H1.size = H.size) (e3 : ∀ q, q ≠ a → H1[q]? = H[q]?) : hp_R G (hp_cpy h a0 a sp dp n) H1 := by
  have q1 := hR.arr hi h6
  refine hR.upd (a := a) hi.1 rfl rfl e2 e3 ?_ (fun _ _ => rfl) (fun _ _ => rfl) (fun _ _ _ => rfl) (fun b hb => va_up_ne _ _ hb) ?_
  · unfold hp_sz
    rw [e1, q1]
    show (arrV _ _ _).slots.size = (arrV _ _ _).slots.size
    rw [arrV_size, arrV_size]
  · refine Or.inr (Or.inl ⟨t, hi.2.2, h6, ?_⟩)
    rw [e1]
    show some _ = some (arrV (hp_cA G t) (hp_ln h a) (va_up (hp_ar h) a (va_cpy (hp_ar h a0) (hp_ar h a) sp dp n) a))
    rw [va_up_self]
theorem hp_copyI (C : hp_F M G y cc nL d h0) {idx a0 a sp dp n : Nat} (ac : hp_AC y.cls idx) (hd : 1 ≤ d) (hs : hp_is G h a0 10) (hi : hp_is G h a 10) (h4 : sp + n ≤ hp_ln h a0) (h5 : dp + n ≤ hp_ln h a) (b1 : sp + n < 2 ^ 31) (b2 : dp + n < 2 ^ 31) (hel : ∀ i, i < n → ∃ x, hp_ar h a0 (sp + i) = .int x) (hw : (st.map fun v => v.category).sum ≤ 8) (dd : decode cc pc = .ok (.invokestatic idx, 3))
    (kk : hp_V M G nL Q (hp_cpy h a0 a sp dp n) (pc + 3) lo st) : hp_V M G nL Q h pc lo (.int (nI n) :: .int (nI dp) :: .ref a :: .int (nI sp) :: .ref a0 :: st) := by
  obtain ⟨w1, w2, w3, w4⟩ := ac
  intro H locs cells slots ls hR hl hL
  have rf := C.rf
  have rl := C.rl
  intro T hT X
  have q0 := hR.arr (t := 0) hs (by omega)
  have q1 := hR.arr (t := 0) hi (by omega)
  have es := nI_clamp (n := sp) (by omega)
  have ed := nI_clamp (n := dp) (by omega)
  have en := nI_clamp (n := n) (by omega)
  obtain ⟨-, k0, hk0, cm0, hkk0⟩ := (C.en.arr (t := 0) rfl).1 (hp_ln h a0) (hp_ar h a0)
  obtain ⟨-, k1, hk1, cm1, hkk1⟩ := (C.en.arr (t := 0) rfl).1 (hp_ln h a) (hp_ar h a)
  obtain ⟨vm', X', step⟩ := X.arraycopy C.ex C.own (C.ws _ w1) (C.ws _ w2) (C.ws _ w3) (C.ws _ w4) (src := a0) (dst := a) (cs := arrV (hp_cA G 0) (hp_ln h a0) (hp_ar h a0)) (cd := arrV (hp_cA G 0) (hp_ln h a) (hp_ar h a)) (srcPos := nI sp) (destPos := nI dp) (n := nI n) (by rw [hT]; exact q0) (by rw [hT]; exact q1)
    (fun _ h => by cases h) (fun _ h => by cases h) (fun h => by cases h) (fun h => by cases h) hk0 hk1 hkk0 hkk1 rfl (nI_pos (by omega)) (nI_pos (by omega)) (nI_pos (by omega))
    (by rw [nI_toInt (by omega), nI_toInt (by omega), arrV_size]; omega)
    (by rw [nI_toInt (by omega), nI_toInt (by omega), arrV_size]; omega)
    (fun vm₁ hal i hi' => by
      rw [en] at hi'
      rw [es]
      have e : (arrV (hp_cA G 0) (hp_ln h a0) (hp_ar h a0)).slots.getD (sp + i) .null = hp_ar h a0 (sp + i) := by
        rw [Array.getD_eq_getD_getElem?, arrV_read _ _ (by omega)]
        rfl
      rw [e]
      obtain ⟨x, hx⟩ := hel i hi'
      rw [hx]
      exact ⟨rfl, trivial⟩)
    (g := F0 (hp_mi4 M) pc ls (.int (nI n) :: .int (nI dp) :: .ref a :: .int (nI sp) :: .ref a0 :: st)) rfl (hL.1.trans C.ml.symm) (rest := st) rfl (by rw [C.bc]; exact dd) (by omega) (by have hw3 : nativeFrameWords "java/lang/System" "arraycopy" 5 ≤ 20 := (by decide); show 2 * 0 + _ + _ ≤ _; omega)
  have e1 : copied (arrV (hp_cA G 0) (hp_ln h a0) (hp_ar h a0)) (arrV (hp_cA G 0) (hp_ln h a) (hp_ar h a)) (nI sp) (nI dp) (nI n) = arrV (hp_cA G 0) (hp_ln h a) (va_cpy (hp_ar h a0) (hp_ar h a) sp dp n) := by
    have := va_copied (fun z : Value => z) (hp_cA G 0) (hp_cA G 0) (n0 := hp_ln h a0) (n1 := hp_ln h a) (sp := sp) (dp := dp) (n := n) (hp_ar h a0) (hp_ar h a) h4
    rw [← es, ← ed, ← en] at this
    refine Eq.trans this ?_
    rw [es, ed, en]
  rw [e1] at X' step
  have hlt : a < H.size := (Array.getElem?_eq_some_iff.mp q1).1
  have hheap : ((T.setVm vm').setCell a (arrV (hp_cA G 0) (hp_ln h a) (va_cpy (hp_ar h a0) (hp_ar h a) sp dp n))).heap = H.setIfInBounds a (arrV (hp_cA G 0) (hp_ln h a) (va_cpy (hp_ar h a0) (hp_ar h a) sp dp n)) := by rw [← hT]; rfl
  obtain ⟨t, a1, b1⟩ := kk _ _ cells slots ls (hp_wroteC (t := 0) hR hi (by omega) (show (H.setIfInBounds a _)[a]? = some _ by simp [Array.getElem?_setIfInBounds, hlt]) (by simp) (fun q hq => by simp [Array.getElem?_setIfInBounds, Ne.symm hq])) (fun q hq => by
      rcases List.mem_append.mp hq with z | z
      · exact hl q z
      · obtain ⟨z1, -, hz⟩ := List.mem_map.mp z
        rw [← hz]
        exact hi.1) hL _ hheap X'
  exact ⟨t, step t a1, b1⟩
theorem hp_copyR (C : hp_F M G y cc nL d h0) {idx a0 a sp dp n : Nat} (ac : hp_AC y.cls idx) (hd : 1 ≤ d) (hs : hp_is G h a0 13) (hi : hp_is G h a 13) (h4 : sp + n ≤ hp_ln h a0) (h5 : dp + n ≤ hp_ln h a) (b1 : sp + n < 2 ^ 31) (b2 : dp + n < 2 ^ 31) (hel : ∀ i, i < n → hp_ar h a0 (sp + i) = .null ∨ ∃ b ci cn, hp_ar h a0 (sp + i) = .ref b ∧ hp_is G h b ci ∧ ci < 10 ∧ (vwCl[ci]?).map (fun r => r.1) = some cn ∧ Cond.castable cn "java/lang/Object" ∈ hp_ow) (hw : (st.map fun v => v.category).sum ≤ 8) (dd : decode cc pc = .ok (.invokestatic idx, 3))
    (kk : hp_V M G nL Q (hp_cpy h a0 a sp dp n) (pc + 3) lo st) : hp_V M G nL Q h pc lo (.int (nI n) :: .int (nI dp) :: .ref a :: .int (nI sp) :: .ref a0 :: st) := by
  obtain ⟨w1, w2, w3, w4⟩ := ac
  intro H locs cells slots ls hR hl hL
  have rf := C.rf
  have rl := C.rl
  intro T hT X
  have q0 := hR.arr (t := 3) hs (by omega)
  have q1 := hR.arr (t := 3) hi (by omega)
  have es := nI_clamp (n := sp) (by omega)
  have ed := nI_clamp (n := dp) (by omega)
  have en := nI_clamp (n := n) (by omega)
  obtain ⟨-, k0, hk0, cm0, hkk0⟩ := (C.en.arr (t := 3) rfl).1 (hp_ln h a0) (hp_ar h a0)
  obtain ⟨-, k1, hk1, cm1, hkk1⟩ := (C.en.arr (t := 3) rfl).1 (hp_ln h a) (hp_ar h a)
  obtain ⟨vm', X', step⟩ := X.arraycopy C.ex C.own (C.ws _ w1) (C.ws _ w2) (C.ws _ w3) (C.ws _ w4) (src := a0) (dst := a) (cs := arrV (hp_cA G 3) (hp_ln h a0) (hp_ar h a0)) (cd := arrV (hp_cA G 3) (hp_ln h a) (hp_ar h a)) (srcPos := nI sp) (destPos := nI dp) (n := nI n) (by rw [hT]; exact q0) (by rw [hT]; exact q1)
    (fun _ h => by cases h) (fun _ h => by cases h) (fun h => by cases h) (fun h => by cases h) hk0 hk1 hkk0 hkk1 rfl (nI_pos (by omega)) (nI_pos (by omega)) (nI_pos (by omega))
    (by rw [nI_toInt (by omega), nI_toInt (by omega), arrV_size]; omega)
    (by rw [nI_toInt (by omega), nI_toInt (by omega), arrV_size]; omega)
    (fun vm₁ hal i hi' => by
      rw [en] at hi'
      rw [es]
      have e : (arrV (hp_cA G 3) (hp_ln h a0) (hp_ar h a0)).slots.getD (sp + i) .null = hp_ar h a0 (sp + i) := by
        rw [Array.getD_eq_getD_getElem?, arrV_read _ _ (by omega)]
        rfl
      rw [e]
      rcases hel i hi' with hx | ⟨b, ci, cn, hx, x1, x2, x3, x4⟩
      · rw [hx]
        exact ⟨rfl, trivial⟩
      · rw [hx]
        obtain ⟨cellV, g1, g2, g3⟩ := hp_recv C hR x1 x2 x3
        obtain ⟨kA, comp, r1, r2, r3, -⟩ := (C.en.arr (t := 3) rfl).2
        cases hk1.symm.trans r1
        cases hkk1.symm.trans r2
        obtain ⟨c0, t1, f1, f2, f3⟩ := Cond.castable_spec (va_Nw.use (A := hp_av M) rfl (C.en.2.1 _ x4))
        cases g3.symm.trans f1
        cases r3.symm.trans f2
        obtain ⟨kC, hkC, -⟩ := Vm.findClass_spec g3
        obtain ⟨kE, hkE, -⟩ := Vm.findClass_spec r3
        obtain ⟨kC', hkC', -⟩ := hal.2.2 _ _ hkC
        obtain ⟨kE', hkE', -⟩ := hal.2.2 _ _ hkE
        refine ⟨rfl, cellV, (show T.heap[b]? = some cellV by rw [hT]; exact g1), (fun q h => by rw [h] at g2; cases g2), ⟨kC', hkC'⟩, ⟨kE', hkE'⟩, ?_⟩
        show vm₁.assignable _ _ = true
        rw [hal.assignable]
        exact f3)
    (g := F0 (hp_mi4 M) pc ls (.int (nI n) :: .int (nI dp) :: .ref a :: .int (nI sp) :: .ref a0 :: st)) rfl (hL.1.trans C.ml.symm) (rest := st) rfl (by rw [C.bc]; exact dd) (by omega) (by have hw3 : nativeFrameWords "java/lang/System" "arraycopy" 5 ≤ 20 := (by decide); show 2 * 0 + _ + _ ≤ _; omega)
  have e1 : copied (arrV (hp_cA G 3) (hp_ln h a0) (hp_ar h a0)) (arrV (hp_cA G 3) (hp_ln h a) (hp_ar h a)) (nI sp) (nI dp) (nI n) = arrV (hp_cA G 3) (hp_ln h a) (va_cpy (hp_ar h a0) (hp_ar h a) sp dp n) := by
    have := va_copied (fun z : Value => z) (hp_cA G 3) (hp_cA G 3) (n0 := hp_ln h a0) (n1 := hp_ln h a) (sp := sp) (dp := dp) (n := n) (hp_ar h a0) (hp_ar h a) h4
    rw [← es, ← ed, ← en] at this
    refine Eq.trans this ?_
    rw [es, ed, en]
  rw [e1] at X' step
  have hlt : a < H.size := (Array.getElem?_eq_some_iff.mp q1).1
  have hheap : ((T.setVm vm').setCell a (arrV (hp_cA G 3) (hp_ln h a) (va_cpy (hp_ar h a0) (hp_ar h a) sp dp n))).heap = H.setIfInBounds a (arrV (hp_cA G 3) (hp_ln h a) (va_cpy (hp_ar h a0) (hp_ar h a) sp dp n)) := by rw [← hT]; rfl
  obtain ⟨t, a1, b1⟩ := kk _ _ cells slots ls (hp_wroteC (t := 3) hR hi (by omega) (show (H.setIfInBounds a _)[a]? = some _ by simp [Array.getElem?_setIfInBounds, hlt]) (by simp) (fun q hq => by simp [Array.getElem?_setIfInBounds, Ne.symm hq])) (fun q hq => by
      rcases List.mem_append.mp hq with z | z
      · exact hl q z
      · obtain ⟨z1, -, hz⟩ := List.mem_map.mp z
        rw [← hz]
        exact hi.1) hL _ hheap X'
  exact ⟨t, step t a1, b1⟩
/-- aastore of null -/
theorem hp_aastN (C : hp_F M G y cc nL d h0) {a : Nat} (t : Nat) {E : String} {i : Int32} (ht : (hp_tys (hp_cA G))[t]? = some (hp_cA G t, .object E)) (h6 : t < 6) (dd : decode cc pc = .ok (.aastore, 1)) (hi : hp_is G h a (10 + t)) (hin : vp_in i (hp_ln h a))
    (kk : hp_V M G nL Q (hp_set h a i.toNatClampNeg .null) (pc + 1) lo st) : hp_V M G nL Q h pc lo (.null :: .int i :: .ref a :: st) := by
  intro H locs cells slots ls hR hl hL
  refine va_WaastN (C := E) C.ex C.bc (hR.arr hi h6) ((C.en.arr ht).1 _ _) (fun h => by cases h) (by rw [arrV_size]; exact hin) rfl rfl dd fun H1 e1 e2 e3 => ?_
  exact kk H1 _ _ _ ls (hp_wroteA hR hi h6 e1 e2 e3) (t_lc hl hi.1) hL
end HPY
