/-! ===== rows that touch the heap ===== -/
def hp_put (h : hpT) (f a : Nat) (v : Value) : hpT := (h.1, h.2.1, h.2.2.1, h.2.2.2.1, va_up (hp_fl h) f (va_up (hp_fl h f) a v), h.2.2.2.2.2)
def hp_set (h : hpT) (a i : Nat) (v : Value) : hpT := (h.1, h.2.1, h.2.2.1, h.2.2.2.1, h.2.2.2.2.1, va_up (hp_ar h) a (va_up (hp_ar h a) i v))
def hp_mk (h : hpT) (c n : Nat) : hpT := (h.1 + 1, h.2.1 + n, va_up (hp_kd h) h.1 c, h.2.2.2.1, (fun f => va_up (hp_fl h f) h.1 (hp_dv c f)), h.2.2.2.2.2)
def hp_mkA (h : hpT) (t n : Nat) (v : Value) : hpT := (h.1 + 1, h.2.1 + n, va_up (hp_kd h) h.1 (10 + t), va_up (hp_ln h) h.1 n, h.2.2.2.2.1, va_up (hp_ar h) h.1 (fun _ => v))
theorem hp_put_fl (h : hpT) (f a g b : Nat) (v : Value) : hp_fl (hp_put h f a v) g b = if g = f then (if b = a then v else hp_fl h f b) else hp_fl h g b := by
  show va_up (hp_fl h) f (va_up (hp_fl h f) a v) g b = _
  by_cases e : g = f
  · subst e
    rw [va_up_self, if_pos rfl]
    by_cases e2 : b = a
    · subst e2
      rw [va_up_self, if_pos rfl]
    · rw [va_up_ne _ _ e2, if_neg e2]
  · rw [va_up_ne _ _ e, if_neg e]
theorem hp_set_ar (h : hpT) (a i b j : Nat) (v : Value) : hp_ar (hp_set h a i v) b j = if b = a then (if j = i then v else hp_ar h a j) else hp_ar h b j := by
  show va_up (hp_ar h) a (va_up (hp_ar h a) i v) b j = _
  by_cases e : b = a
  · subst e
    rw [va_up_self, if_pos rfl]
    by_cases e2 : j = i
    · subst e2
      rw [va_up_self, if_pos rfl]
    · rw [va_up_ne _ _ e2, if_neg e2]
  · rw [va_up_ne _ _ e, if_neg e]
section HPH
variable {M : hpM} {G : hpG} {y : MethodName} {cc : ByteArray} {nL d : Nat} {h0 h : hpT} {Q : State → Prop} {pc : Nat} {lo : Nat → Option Value} {st : List Value}
/-- the counters are known by the heap itself -/
theorem hp_stand (C : hp_F M G y cc nL d h0) {H : Heap} {locs : List Loc} {cells slots : Nat} {T : State} (hR : hp_R G h H) (hT : T.heap = H) (X : Stand M.1 M.2.1 M.2.2.1 (hp_R4 M) (hp_st M) (hp_mi4 M) (hp_av M) (hp_bl M) (hp_mt M) (hp_cd M) T locs cells slots) :
    hp_nx h0 ≤ hp_nx h ∧ hp_sl h0 ≤ hp_sl h ∧ Stand M.1 M.2.1 M.2.2.1 (hp_R4 M) (hp_st M) (hp_mi4 M) (hp_av M) (hp_bl M) (hp_mt M) (hp_cd M) T locs (hp_nx h - hp_nx h0) (hp_sl h - hp_sl h0) := by
  obtain ⟨e1, e2, e3, e4, e5, e6⟩ := X.same
  have z0 : (hp_st M).heap.size = hp_nx h0 := C.he.2.1
  have z1 : T.heap.size = hp_nx h := by rw [hT]; exact hR.2.1
  have hle : (hp_st M).heap.size ≤ T.heap.size := e2
  have hn0 := C.he.1
  have hn1 := hR.1
  have a9 : hp_sl h = hp_sl h0 + hp_sm (hp_sz T.heap) (hp_st M).heap.size (hp_nx h - hp_nx h0) := by
    have a1 : hp_sm (hp_sz T.heap) (hp_n0 G) (hp_nx h - hp_n0 G) = hp_sl h := by rw [hT]; exact hR.2.2.2.2.1
    have a2 : hp_sm (hp_sz (hp_st M).heap) (hp_n0 G) (hp_nx h0 - hp_n0 G) = hp_sl h0 := C.he.2.2.2.2.1
    have a3 : hp_sm (hp_sz T.heap) (hp_n0 G) (hp_nx h0 - hp_n0 G) = hp_sl h0 := by
      rw [← a2]
      refine hp_sm_congr _ _ (fun i h1 h2 => ?_)
      have hlt : i < (hp_st M).heap.size := by omega
      obtain ⟨c', q1, -, q3, -⟩ := e6 i _ (Array.getElem?_eq_getElem hlt)
      have q1' : T.heap[i]? = some c' := q1
      unfold hp_sz
      rw [q1', Array.getElem?_eq_getElem hlt]
      exact q3
    have a4 := hp_sm_app (hp_sz T.heap) (hp_nx h0 - hp_n0 G) (hp_n0 G) (hp_nx h - hp_nx h0)
    rw [show hp_nx h0 - hp_n0 G + (hp_nx h - hp_nx h0) = hp_nx h - hp_n0 G by omega, show hp_n0 G + (hp_nx h0 - hp_n0 G) = (hp_st M).heap.size by omega, a1, a3] at a4
    exact a4
  refine ⟨by omega, by omega, { X with same := ⟨e1, e2, ?_, e4, ?_, e6⟩ }⟩
  · show T.heap.size ≤ _
    omega
  · show ((T.heap.toList.drop (hp_st M).heap.size).map (·.slots.size)).sum ≤ _
    rw [hp_sm_drop T.heap (hp_nx h - hp_nx h0) _ (by omega)]
    omega
theorem hp_tight (C : hp_F M G y cc nL d h0) {H : Heap} {locs : List Loc} {cells slots : Nat} {g : JFrame} (hR : hp_R G h H) (k : hp_nx h0 ≤ hp_nx h → hp_sl h0 ≤ hp_sl h → hp_W M H locs (hp_nx h - hp_nx h0) (hp_sl h - hp_sl h0) Q g) : hp_W M H locs cells slots Q g := by
  intro T hT X
  obtain ⟨a, b, Y⟩ := hp_stand C hR hT X
  exact k a b T hT Y
abbrev hp_WX (M : hpM) (H : Heap) (locs : List Loc) (cells slots : Nat) (Q : State → Prop) (g : JFrame) (q : Addr) : Prop := vx_W M.1 M.2.1 M.2.2.1 (hp_R4 M) (hp_st M) (hp_mi4 M) (hp_av M) (hp_bl M) (hp_mt M) (hp_cd M) H locs cells slots Q g q
theorem hp_tightX (C : hp_F M G y cc nL d h0) {H : Heap} {locs : List Loc} {cells slots : Nat} {g : JFrame} {q : Addr} (hR : hp_R G h H) (k : hp_nx h0 ≤ hp_nx h → hp_sl h0 ≤ hp_sl h → hp_WX M H locs (hp_nx h - hp_nx h0) (hp_sl h - hp_sl h0) Q g q) : hp_WX M H locs cells slots Q g q := by
  intro T hT X
  obtain ⟨a, b, Y⟩ := hp_stand C hR hT X
  exact k a b T hT Y
theorem hp_get (C : hp_F M G y cc nL d h0) {a idx ci k : Nat} {v : Value} (fl : hp_FL y.cls idx ci k) (dd : decode cc pc = .ok (.getfield idx, 3)) (hi : hp_is G h a ci) (ev : hp_fl h (hp_fd ci k) a = v) (kk : hp_V M G nL Q h (pc + 3) lo (v :: st)) : hp_V M G nL Q h pc lo (.ref a :: st) := by
  obtain ⟨ref, C', T, N, hc, hk, hN, h10, hw, hs, hin, hty, hnm⟩ := fl
  intro H locs cells slots ls hR hl hL
  obtain ⟨r, hr, cell, q1, q2, q3, q4⟩ := hR.obj hi h10
  have e : r = (C', T, N) := Option.some.inj (hr.symm.trans hc)
  subst e
  obtain ⟨hS, hfc, kC, hkC, hkind⟩ := C.en.1.1 ci _ hc
  obtain ⟨cf, kf, fi, f, hfi, hsl⟩ := hS k hk
  have hsame : (hp_st M).fieldFound? ref (T k).2.1 (T k).2.2.1 = some (cf, kf, fi, f) := by
    rcases hs with e | hw2
    · rw [← e]; exact hfi
    · exact u_same (C.ws _ hw2) _ hfi
  refine W.getf C.ex C.bc C.own (C.ws _ hw) hsame (u_facts hfc hkC (u_lays C.ws hin hk) hfi).1 q1 (by rw [q3]; exact fun h => by cases h) (v := v) ?_ rfl rfl dd (kk H locs cells slots ls hR hl hL)
  rw [hsl, q4 k hk]
  exact congrArg some ev
/-- the object's cell behind a write of field k -/
theorem hp_wrote {H H1 : Heap} {a ci k slot : Nat} {v : Value} {C' : String} {T : u_T} {N : Nat} {cell : Cell} (hR : hp_R G h H) (hi : hp_is G h a ci) (h10 : ci < 10) (hc : vwCl[ci]? = some (C', T, N)) (hk : k < N) (hN : N ≤ 32) (q1 : H[a]? = some cell) (q2 : cell.cls = (hp_D G).1 ci) (q3 : cell.vm = .none) (q4 : ∀ j, j < N → cell.slots[(hp_D G).2 ci j]? = some (hp_fl h (hp_fd ci j) a))
    (hap : ∀ x z, x < N → z < N → x ≠ z → (hp_D G).2 ci x ≠ (hp_D G).2 ci z) (hsl : slot = (hp_D G).2 ci k) (e1 : H1[a]? = some (cell.setSlot slot v)) (e2 : H1.size = H.size) (e3 : ∀ q, q ≠ a → H1[q]? = H[q]?) : hp_R G (hp_put h (hp_fd ci k) a v) H1 := by
  subst hsl
  refine hR.upd (a := a) hi.1 rfl rfl e2 e3 ?_ (fun _ _ => rfl) (fun _ _ => rfl) (fun f b hb => ?_) (fun _ _ => rfl) ?_
  · unfold hp_sz
    rw [e1, q1]
    exact k2_slotsz _ _ _
  · rw [hp_put_fl, if_neg hb]
    split
    · rename_i e; rw [e]
    · rfl
  · refine Or.inl ⟨ci, _, hi.2.2, h10, hc, _, e1, q2, q3, fun j hj => ?_⟩
    have hj' : j < N := hj
    rw [t_set q4 hap hk v j hj]
    show some (updV (fun k => hp_fl h (hp_fd ci k) a) k v j) = some (hp_fl (hp_put h (hp_fd ci k) a v) (hp_fd ci j) a)
    rw [hp_put_fl]
    unfold updV
    by_cases e : j = k
    · subst e
      rw [if_pos rfl, if_pos rfl, if_pos rfl]
    · rw [if_neg e, if_neg (fun z => e (hp_fd_inj (by omega) (by omega) z))]
theorem hp_putf (C : hp_F M G y cc nL d h0) {a idx ci k : Nat} {v : Value} (fl : hp_FL y.cls idx ci k) (hf : (vwCl[ci]?).map (fun r => (r.2.1 k).2.2.2) = some false) (hn : narrow (hp_ty ci k) v = v) (hfit : fits (hp_ty ci k) v = true) (dd : decode cc pc = .ok (.putfield idx, 3)) (hi : hp_is G h a ci)
    (kk : hp_V M G nL Q (hp_put h (hp_fd ci k) a v) (pc + 3) lo st) : hp_V M G nL Q h pc lo (v :: .ref a :: st) := by
  obtain ⟨ref, C', T, N, hc, hk, hN, h10, hw, hs, hin, hty, hnm⟩ := fl
  intro H locs cells slots ls hR hl hL
  obtain ⟨r, hr, cell, q1, q2, q3, q4⟩ := hR.obj hi h10
  have e : r = (C', T, N) := Option.some.inj (hr.symm.trans hc)
  subst e
  have hfin : (T k).2.2.2 = false := by
    rw [hc] at hf
    exact Option.some.inj hf
  have hap := va_apart (own := y.cls) C.ws hin (hp_ty ci) hty hnm C.en.1 hc
  obtain ⟨hS, hfc, kC, hkC, hkind⟩ := C.en.1.1 ci _ hc
  obtain ⟨cf, kf, fi, f, hfi, hsl⟩ := hS k hk
  have hsame : (hp_st M).fieldFound? ref (T k).2.1 (T k).2.2.1 = some (cf, kf, fi, f) := by
    rcases hs with e | hw2
    · rw [← e]; exact hfi
    · exact u_same (C.ws _ hw2) _ hfi
  have hlay := C.ws _ (hin _ (u_in_lay hk))
  unfold u_lay at hlay
  rw [if_neg (by rw [hfin]; decide)] at hlay
  have hst := (u_facts hfc hkC (u_lays C.ws hin hk) hfi).1
  have h6 := u_store hfc hkC hkind hlay hfi (hty k hk) hn hfit
  refine W.putK C.ex C.bc (f := f) ⟨C.own, C.ws _ hw, ⟨_, _, _, hsame⟩, hst⟩ (by rw [q2]; exact h6) q1 q3 (by rw [hsl]; exact k2_hasslot (q4 k hk)) rfl rfl dd fun H' e1 e2 e3 => ?_
  exact kk H' _ _ _ ls (hp_wrote hR hi h10 hc hk hN q1 q2 q3 q4 hap hsl e1 e2 e3) (t_lc hl hi.1) hL
/-- a final field, in a constructor of the class that declares it -/
theorem hp_putF (C : hp_F M G y cc nL d h0) {a idx ci k : Nat} {v : Value} (fl : hp_FL y.cls idx ci k) (hf : (vwCl[ci]?).map (fun r => ((r.2.1 k).2.2.2, (r.2.1 k).1)) = some (true, y.cls)) (hy : y.name = "<init>") (hn : narrow (hp_ty ci k) v = v) (hfit : fits (hp_ty ci k) v = true) (dd : decode cc pc = .ok (.putfield idx, 3)) (hi : hp_is G h a ci)
    (kk : hp_V M G nL Q (hp_put h (hp_fd ci k) a v) (pc + 3) lo st) : hp_V M G nL Q h pc lo (v :: .ref a :: st) := by
  obtain ⟨ref, C', T, N, hc, hk, hN, h10, hw, hs, hin, hty, hnm⟩ := fl
  intro H locs cells slots ls hR hl hL
  obtain ⟨r, hr, cell, q1, q2, q3, q4⟩ := hR.obj hi h10
  have e : r = (C', T, N) := Option.some.inj (hr.symm.trans hc)
  subst e
  obtain ⟨hfin, hdecl⟩ : (T k).2.2.2 = true ∧ (T k).1 = y.cls := by
    rw [hc] at hf
    have hf2 := Option.some.inj hf
    exact ⟨congrArg Prod.fst hf2, congrArg Prod.snd hf2⟩
  have hap := va_apart (own := y.cls) C.ws hin (hp_ty ci) hty hnm C.en.1 hc
  obtain ⟨hS, hfc, kC, hkC, hkind⟩ := C.en.1.1 ci _ hc
  obtain ⟨cf, kf, fi, f, hfi, hsl⟩ := hS k hk
  have hsame : (hp_st M).fieldFound? ref (T k).2.1 (T k).2.2.1 = some (cf, kf, fi, f) := by
    rcases hs with e | hw2
    · rw [← e]; exact hfi
    · exact u_same (C.ws _ hw2) _ hfi
  have hlay := C.ws _ (hin _ (u_in_lay hk))
  unfold u_lay at hlay
  rw [if_pos hfin] at hlay
  have hst := (u_facts hfc hkC (u_lays C.ws hin hk) hfi).1
  have hcf : (hp_mi4 M).cls = cf := by
    obtain ⟨_, _, c', _, _, _, -, -, hf', -, -, -, hown2, -⟩ := Cond.laysFinal_spec hlay
    have e1 : c' = cf := by have := hfi.symm.trans hf'; simp at this; exact this.1.symm
    rw [hdecl] at hown2
    rw [← e1]; exact Option.some.inj (C.own.symm.trans hown2)
  have h6 := u_fits hfc hkC hkind (Or.inr hlay) hfi (hty k hk) hn hfit
  refine W.putFinK C.ex C.bc C.own (C.ws _ hw) hsame hst hcf (C.nm.trans hy) (by rw [q2]; exact h6) q1 q3 (by rw [hsl]; exact k2_hasslot (q4 k hk)) rfl rfl dd fun H' e1 e2 e3 => ?_
  exact kk H' _ _ _ ls (hp_wrote hR hi h10 hc hk hN q1 q2 q3 q4 hap hsl e1 e2 e3) (t_lc hl hi.1) hL
theorem hp_new (C : hp_F M G y cc nL d h0) {idx ci N : Nat} (nl : hp_NL y.cls idx ci N) (dd : decode cc pc = .ok (.new idx, 3)) (hcl : hp_nx h + 1 ≤ hp_n0 G + hp_LC) (hsl : hp_sl h + N ≤ hp_LS) (kk : hp_V M G nL Q (hp_mk h ci N) (pc + 3) lo (.ref (hp_nx h) :: st)) : hp_V M G nL Q h pc lo st := by
  obtain ⟨C', T, hc, hN, h10, w1, w2, w3, hin, hty⟩ := nl
  intro H locs cells slots ls hR hl hL
  refine hp_tight C hR (fun hle hls => ?_)
  have rc := C.rc
  have rs := C.rs
  have hKn := C.en.1.1 ci _ hc
  obtain ⟨cI, kI, i1, i2, -, -, -, i6⟩ := Cond.instantiable_spec (C.ws _ w2)
  refine W.newcK C.ex C.bc C.own (C.ws _ w1) (C.ws _ w2) (C.ws _ w3) rfl dd (by omega) (by omega) hKn.2.1 rfl fun H1 kC hkC e1 z1 o1 => ?_
  have hkk : kI = kC := by
    have e : cI = (hp_D G).1 ci := Option.some.inj (i1.symm.trans hKn.2.1)
    subst e
    exact Option.some.inj (i2.symm.trans hkC)
  subst hkk
  have hsz := hR.2.1
  refine kk H1 locs _ _ ls (hR.new (n := N) hcl hsl rfl rfl z1 o1 ?_ (fun b hb => ?_) (fun b hb => rfl) (fun f b hb => ?_) (fun b hb => rfl) ?_) hl hL |> (fun z => by rw [hsz]; exact z)
  · unfold hp_sz
    rw [e1]
    show (kI.instanceTypes.map defaultValue).size = N
    rw [Array.size_map]
    exact i6
  · exact va_up_ne _ _ (Nat.ne_of_lt hb)
  · exact va_up_ne _ _ (Nat.ne_of_lt hb)
  · rw [hsz] at e1
    refine Or.inl ⟨ci, _, va_up_self _ _ _, h10, hc, (u_born (hp_ty ci) C.ws hin hKn hkC e1 hty).to (fun j hj => ?_)⟩
    show _ = va_up (hp_fl h (hp_fd ci j)) (hp_nx h) (hp_dv ci (hp_fd ci j)) (hp_nx h)
    rw [va_up_self]
    unfold hp_dv
    rw [hp_fd_mod (by omega), if_pos rfl]
end HPH
section HPA
variable {M : hpM} {G : hpG} {y : MethodName} {cc : ByteArray} {nL d : Nat} {h0 h : hpT} {Q : State → Prop} {pc : Nat} {lo : Nat → Option Value} {st : List Value}
theorem hp_E.arr {U : State} (E : hp_E G U) {t : Nat} {ty : FieldType} (ht : (hp_tys (hp_cA G))[t]? = some (hp_cA G t, ty)) : ArrOfT U (hp_cA G t) ty ∧ va_RA U (hp_cA G t) ty := E.1.2 t _ ht
/-- arraylength of an array of ours -/
theorem hp_alen (C : hp_F M G y cc nL d h0) {a : Nat} (t : Nat) {ty : FieldType} (ht : (hp_tys (hp_cA G))[t]? = some (hp_cA G t, ty)) (h6 : t < 6) (dd : decode cc pc = .ok (.arraylength, 1)) (hi : hp_is G h a (10 + t)) (kk : hp_V M G nL Q h (pc + 1) lo (.int (nI (hp_ln h a)) :: st)) : hp_V M G nL Q h pc lo (.ref a :: st) := by
  intro H locs cells slots ls hR hl hL
  refine W.alen C.ex C.bc (hR.arr hi h6) ((C.en.arr ht).1 _ _) (n := nI (hp_ln h a)) ?_ rfl rfl dd (kk H locs cells slots ls hR hl hL)
  rw [arrV_size]
  rfl
theorem hp_iald (C : hp_F M G y cc nL d h0) {a : Nat} {i : Int32} {v : Value} (dd : decode cc pc = .ok (.iaload, 1)) (hi : hp_is G h a 10) (hin : vp_in i (hp_ln h a)) (ev : hp_ar h a i.toNatClampNeg = v) (kk : hp_V M G nL Q h (pc + 1) lo (v :: st)) : hp_V M G nL Q h pc lo (.int i :: .ref a :: st) := by
  intro H locs cells slots ls hR hl hL
  have hlt : i.toNatClampNeg < hp_ln h a := Nat.not_le.mp fun q => hin (Or.inr q)
  exact W.iald (v := v) C.ex C.bc (hR.arr (t := 0) hi (by omega)) ((C.en.arr (t := 0) rfl).1 _ _) (fun q => by cases q) (by rw [arrV_size]; exact hin) (by rw [arrV_read _ _ hlt, ev]) rfl rfl dd (kk H locs cells slots ls hR hl hL)
theorem hp_zald (C : hp_F M G y cc nL d h0) {a : Nat} {i : Int32} {v : Value} (dd : decode cc pc = .ok (.baload, 1)) (hi : hp_is G h a 11) (hin : vp_in i (hp_ln h a)) (ev : hp_ar h a i.toNatClampNeg = v) (kk : hp_V M G nL Q h (pc + 1) lo (v :: st)) : hp_V M G nL Q h pc lo (.int i :: .ref a :: st) := by
  intro H locs cells slots ls hR hl hL
  have hlt : i.toNatClampNeg < hp_ln h a := Nat.not_le.mp fun q => hin (Or.inr q)
  exact W.zald (v := v) C.ex C.bc (hR.arr (t := 1) hi (by omega)) ((C.en.arr (t := 1) rfl).1 _ _) (fun q => by cases q) (by rw [arrV_size]; exact hin) (by rw [arrV_read _ _ hlt, ev]) rfl rfl dd (kk H locs cells slots ls hR hl hL)
theorem hp_lald (C : hp_F M G y cc nL d h0) {a : Nat} {i : Int32} {v : Value} (dd : decode cc pc = .ok (.laload, 1)) (hi : hp_is G h a 12) (hin : vp_in i (hp_ln h a)) (ev : hp_ar h a i.toNatClampNeg = v) (kk : hp_V M G nL Q h (pc + 1) lo (v :: st)) : hp_V M G nL Q h pc lo (.int i :: .ref a :: st) := by
  intro H locs cells slots ls hR hl hL
  have hlt : i.toNatClampNeg < hp_ln h a := Nat.not_le.mp fun q => hin (Or.inr q)
  exact W.lald (v := v) C.ex C.bc (hR.arr (t := 2) hi (by omega)) ((C.en.arr (t := 2) rfl).1 _ _) (fun q => by cases q) (by rw [arrV_size]; exact hin) (by rw [arrV_read _ _ hlt, ev]) rfl rfl dd (kk H locs cells slots ls hR hl hL)
/-- aaload: an array of references (t: 3 Object, 4 the nodes', 5 int[]) -/
theorem hp_aald (C : hp_F M G y cc nL d h0) {a : Nat} (t : Nat) {ty : FieldType} (ht : (hp_tys (hp_cA G))[t]? = some (hp_cA G t, ty)) (hr : ty.isReference = true) (h6 : t < 6) {i : Int32} {v : Value} (dd : decode cc pc = .ok (.aaload, 1)) (hi : hp_is G h a (10 + t)) (hin : vp_in i (hp_ln h a)) (ev : hp_ar h a i.toNatClampNeg = v) (kk : hp_V M G nL Q h (pc + 1) lo (v :: st)) : hp_V M G nL Q h pc lo (.int i :: .ref a :: st) := by
  intro H locs cells slots ls hR hl hL
  have hlt : i.toNatClampNeg < hp_ln h a := Nat.not_le.mp fun q => hin (Or.inr q)
  exact W.aald (v := v) (ty := ty) C.ex C.bc (hR.arr hi h6) ((C.en.arr ht).1 _ _) hr (fun q => by cases q) (by rw [arrV_size]; exact hin) (by rw [arrV_read _ _ hlt, ev]) rfl rfl dd (kk H locs cells slots ls hR hl hL)
/-- an element is written -/
theorem hp_wroteA {H H1 : Heap} {a t i : Nat} {v : Value} (hR : hp_R G h H) (hi : hp_is G h a (10 + t)) (h6 : t < 6) (e1 : H1[a]? = some ((arrV (hp_cA G t) (hp_ln h a) (hp_ar h a)).setSlot i v)) (e2 : H1.size = H.size) (e3 : ∀ q, q ≠ a → H1[q]? = H[q]?) : hp_R G (hp_set h a i v) H1 := by
  have q1 := hR.arr hi h6
  refine hR.upd (a := a) hi.1 rfl rfl e2 e3 ?_ (fun _ _ => rfl) (fun _ _ => rfl) (fun _ _ _ => rfl) (fun b hb => va_up_ne _ _ hb) ?_
  · unfold hp_sz
    rw [e1, q1]
    exact k2_slotsz _ _ _
  · refine Or.inr (Or.inl ⟨t, hi.2.2, h6, ?_⟩)
    rw [e1, arrV_store]
    show some _ = some (arrV (hp_cA G t) (hp_ln h a) (va_up (hp_ar h) a (va_up (hp_ar h a) i v) a))
    rw [va_up_self]
    rfl
theorem hp_iast (C : hp_F M G y cc nL d h0) {a : Nat} {i x : Int32} (dd : decode cc pc = .ok (.iastore, 1)) (hi : hp_is G h a 10) (hin : vp_in i (hp_ln h a)) (kk : hp_V M G nL Q (hp_set h a i.toNatClampNeg (.int x)) (pc + 1) lo st) : hp_V M G nL Q h pc lo (.int x :: .int i :: .ref a :: st) := by
  intro H locs cells slots ls hR hl hL
  refine W.iast C.ex C.bc (hR.arr (t := 0) hi (by omega)) ((C.en.arr (t := 0) rfl).1 _ _) (fun q => by cases q) (by rw [arrV_size]; exact hin) rfl rfl dd fun H1 e1 e2 e3 => ?_
  exact kk H1 _ _ _ ls (hp_wroteA (t := 0) hR hi (by omega) e1 e2 e3) (t_lc hl hi.1) hL
theorem hp_zast (C : hp_F M G y cc nL d h0) {a : Nat} {i x : Int32} (dd : decode cc pc = .ok (.bastore, 1)) (hn : narrow .boolean (.int x) = .int x) (hi : hp_is G h a 11) (hin : vp_in i (hp_ln h a)) (kk : hp_V M G nL Q (hp_set h a i.toNatClampNeg (.int x)) (pc + 1) lo st) : hp_V M G nL Q h pc lo (.int x :: .int i :: .ref a :: st) := by
  intro H locs cells slots ls hR hl hL
  refine W.zast C.ex C.bc (hR.arr (t := 1) hi (by omega)) ((C.en.arr (t := 1) rfl).1 _ _) (fun q => by cases q) (by rw [arrV_size]; exact hin) rfl rfl dd fun H1 e1 e2 e3 => ?_
  rw [hn] at e1
  exact kk H1 _ _ _ ls (hp_wroteA (t := 1) hR hi (by omega) e1 e2 e3) (t_lc hl hi.1) hL
theorem hp_last (C : hp_F M G y cc nL d h0) {a : Nat} {i : Int32} {x : Int64} (dd : decode cc pc = .ok (.lastore, 1)) (hi : hp_is G h a 12) (hin : vp_in i (hp_ln h a)) (kk : hp_V M G nL Q (hp_set h a i.toNatClampNeg (.long x)) (pc + 1) lo st) : hp_V M G nL Q h pc lo (.long x :: .int i :: .ref a :: st) := by
  intro H locs cells slots ls hR hl hL
  refine W.last C.ex C.bc (hR.arr (t := 2) hi (by omega)) ((C.en.arr (t := 2) rfl).1 _ _) (fun q => by cases q) (by rw [arrV_size]; exact hin) rfl rfl dd fun H1 e1 e2 e3 => ?_
  exact kk H1 _ _ _ ls (hp_wroteA (t := 2) hR hi (by omega) e1 e2 e3) (t_lc hl hi.1) hL
/-- newarray: t 0 int, 1 boolean, 2 long -/
theorem hp_newa (C : hp_F M G y cc nL d h0) (t : Nat) {atype : ArrayType} {ty : FieldType} {n : Int32} {N : Nat} (hty : newarray.typeOf atype = ty) (ht : (hp_tys (hp_cA G))[t]? = some (hp_cA G t, ty)) (hp : ∀ U, va_RA U (hp_cA G t) ty → U.vm.findClass ("[" ++ ty.toString) = some (hp_cA G t)) (h6 : t < 6) (hw : Cond.arrayClass ty ∈ hp_ws) (dd : decode cc pc = .ok (.newarray atype, 2))
    (hn : ¬ n < 0) (hN : n.toNatClampNeg = N) (hb : N * componentBytes ty ≤ 536870912) (hcl : hp_nx h + 1 ≤ hp_n0 G + hp_LC) (hsl : hp_sl h + N ≤ hp_LS) (kk : hp_V M G nL Q (hp_mkA h t N (defaultValue ty)) (pc + 2) lo (.ref (hp_nx h) :: st)) : hp_V M G nL Q h pc lo (.int n :: st) := by
  subst hty
  intro H locs cells slots ls hR hl hL
  refine hp_tight C hR (fun hle hls => ?_)
  have rc := C.rc
  have rs := C.rs
  have hsz := hR.2.1
  refine va_newaK C.ex C.bc (C.ws _ hw) rfl dd rfl hn hN hb (by omega) (by omega) hsz fun H1 cA e1 z1 o1 hA hF => ?_
  have ec : cA = hp_cA G t := Option.some.inj (hF.symm.trans (hp _ (C.en.arr ht).2))
  subst ec
  refine kk H1 locs _ _ ls (hR.new (n := N) hcl hsl rfl rfl (by rw [z1, hsz]) (fun q hq => o1 q (by rw [← hsz]; exact hq)) ?_ (fun b hb => ?_) (fun b hb => ?_) (fun f b hb => rfl) (fun b hb => ?_) ?_) hl hL
  · unfold hp_sz
    rw [hsz, e1]
    exact arrV_size _ _ _
  · exact va_up_ne _ _ (Nat.ne_of_lt hb)
  · exact va_up_ne _ _ (Nat.ne_of_lt hb)
  · exact va_up_ne _ _ (Nat.ne_of_lt hb)
  · refine Or.inr (Or.inl ⟨t, va_up_self _ _ _, h6, ?_⟩)
    show H1[hp_nx h]? = some (arrV (hp_cA G t) (va_up (hp_ln h) (hp_nx h) N (hp_nx h)) (va_up (hp_ar h) (hp_nx h) (fun _ => _) (hp_nx h)))
    rw [va_up_self, va_up_self]
    exact e1
end HPA
