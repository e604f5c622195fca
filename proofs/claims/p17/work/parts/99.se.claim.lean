theorem kt_off_lt (f : Nat) : kt_off f < 12 := by
  unfold kt_off
  (repeat' split) <;> omega
theorem kt_of {G : hpG} {h h' : hpT} {k : Nat} {s : ktS} (sh : kt_sh G h k) (hx : hp_nx h ≤ hp_nx h') (e : ∀ b, b < k + 12 → hp_kd h' b = hp_kd h b ∧ hp_ln h' b = hp_ln h b ∧ hp_ar h' b = hp_ar (kt_w G h k s) b ∧ ∀ f, hp_fl h' f b = hp_fl (kt_w G h k s) f b) : kt_sh G h' k ∧ h' = kt_w G h' k s := by
  refine ⟨⟨sh.1, Nat.le_trans sh.2.1 hx, fun o ho => ((e (k + o) (by omega)).1).trans (sh.2.2.1 o ho), fun o ho ha => ((e (k + o) (by omega)).2.1).trans (sh.2.2.2 o ho ha)⟩, hp_ext rfl rfl rfl rfl (fun f b => ?_) (fun b i => ?_)⟩
  · rw [kt_w_fl]
    by_cases c : kt_fi f = true ∧ b = k + kt_off f
    · rw [if_pos c, (e b (by have := kt_off_lt f; omega)).2.2.2 f, kt_w_fl, if_pos c]
    · rw [if_neg c]
  · rw [kt_w_ar]
    by_cases c : (k ≤ b ∧ b < k + 12) ∧ kt_ai (b - k) = true
    · rw [if_pos c, (e b c.1.2).2.2.1, kt_w_ar, if_pos c]
    · rw [if_neg c]
theorem mo_of {G : hpG} {h h' : hpT} {m : Nat} {s : moS} (sh : mo_sh G h m) (hx : hp_nx h ≤ hp_nx h') (e : ∀ b, m ≤ b → b < m + 20 → hp_kd h' b = hp_kd h b ∧ hp_ln h' b = hp_ln h b ∧ hp_ar h' b = hp_ar (mo_w h m s) b ∧ ∀ f, hp_fl h' f b = hp_fl (mo_w h m s) f b) : mo_sh G h' m ∧ h' = mo_w h' m s := by
  refine ⟨⟨sh.1, Nat.lt_of_lt_of_le sh.2.1 hx, ((e m (Nat.le_refl _) (by omega)).1).trans sh.2.2.1, fun k hk => ?_⟩, hp_ext rfl rfl rfl rfl (fun f b => ?_) (fun b i => ?_)⟩
  · have := (mo_kj hk).2
    obtain ⟨e1, e2, -, -⟩ := e (m + 1 + mo_j k) (by omega) (by omega)
    exact ⟨e1.trans (sh.2.2.2 k hk).1, e2.trans (sh.2.2.2 k hk).2⟩
  · rw [mo_w_fl]
    by_cases c : b = m ∧ 192 ≤ f ∧ f < 217
    · rw [if_pos c, (e b (by omega) (by omega)).2.2.2 f, mo_w_fl, if_pos c]
    · rw [if_neg c]
  · rw [mo_w_ar]
    by_cases c : m < b ∧ b < m + 20
    · rw [if_pos c, (e b (by omega) c.2).2.2.1, mo_w_ar, if_pos c]
    · rw [if_neg c]
/-- what the law has after its constructors -/
def lw_H (G : hpG) (H : hpT) (k : Nat) : Prop := kt_sh G H k ∧ H = kt_w G H k kt_s0 ∧ mo_sh G H (k + 12) ∧ H = mo_w H (k + 12) mo_s0 ∧ hp_is G H (k + 32) 12 ∧ hp_ln H (k + 32) = 1 ∧ hp_nx H = k + 33 ∧ hp_nx H + 200 ≤ hp_n0 G + hp_LC ∧ hp_sl H + 30000 ≤ hp_LS
/-- the frame of the law -/
abbrev lw_M (p : Program) (l : Launch) (e : Env) (s : State) (m : MethodId) (b : Nat) (below : List Frame) (meth : Method) (c : Code) : hpM := (p, l, e, room_1, s, m, #[Value.ref b], below, meth, c)
theorem lw_end {p : Program} {l : Launch} {e : Env} {s : State} {m : MethodId} {below : List Frame} {meth : Method} {c : Code} {b : Nat} {G : hpG} {h0 h : hpT} {lo : Nat → Option Value} (C : hp_F (lw_M p l e s m b below meth c) G yL_law cL_law 7 2000 h0) (hG : hp_n0 G = s.heap.size) (hh : hp_nx h0 = hp_n0 G) (hs0 : hp_sl h0 = 0) (hr : meth.sig.returnType = ret) {pc : Nat} (dd : decode code pc = .ok (.ireturn, 1)) : hp_V (lw_M p l e s m b below meth c) G 7 (lw_Z below #[Value.ref b] s) h pc lo [.int 1] := by
  intro H locs cells slots ls hR hl hL
  refine hp_tight C hR (fun hle hls => ?_)
  have b1 := hR.2.2.2.2.2.1
  have b2 := hR.2.2.2.2.2.2
  have b3 : hp_LC = 600000 := rfl
  have b4 : hp_LS = 7290000 := rfl
  refine va_forget (fun q hq => by have := hl q hq; rw [hG] at this; exact this) ?_
  refine W.widen (k := 601024) (n := 7293034) (by omega) (by omega) ?_
  exact lw_ret C.ex C.bc hr C.lk dd
theorem lw_dv (j : Nat) (hj : mo_isA j = false) (h25 : j < 25) : hp_dv 6 (hp_fd 6 j) = .int 0 := by
  have h : j = 0 ∨ j = 1 ∨ j = 18 ∨ j = 19 ∨ j = 21 ∨ j = 22 := by
    unfold mo_isA at hj
    simp only [Bool.or_eq_false_iff, Bool.and_eq_false_iff, decide_eq_false_iff_not, beq_eq_false_iff_ne] at hj
    omega
  rcases h with rfl | rfl | rfl | rfl | rfl | rfl <;> rfl
set_option maxRecDepth 20000 in
set_option maxHeartbeats 8000000 in
theorem whole_start {p : Program} {e : Env} {s : State} {m : MethodId} {below : List Frame} {meth : Method} {c : Code} (l : Launch) {b L : Nat} {xs : Nat → Int32} (hL : L ≤ 3584) (htr : l.stackTraces = false) (hnm : meth.name = "law") (C0 : lw_At p s m meth c b L xs) : W p l e room_1 s m #[Value.ref b] below meth c s.heap [] 0 0 (lw_Z below #[Value.ref b] s) (entryFrame m ([Value.ref b] : List Value).toArray 7) := by
  obtain ⟨hx, hb, hr, hml, hown, hts, hX, hbl, hlocks, hgv⟩ := id C0
  obtain ⟨G, hE, hG, hH0⟩ := lw_world hts hgv
  obtain ⟨h0, e_nx, e_sl⟩ : ∃ h0 : hpT, hp_nx h0 = s.heap.size ∧ hp_sl h0 = 0 := ⟨(s.heap.size, 0, fun _ => 0, fun _ => 0, fun _ _ => .null, fun _ _ => .null), rfl, rfl⟩
  have b3 : hp_LC = 600000 := rfl
  have b4 : hp_LS = 7290000 := rfl
  have hR0 : hp_R G h0 s.heap := ⟨by omega, e_nx.symm, fun q _ => by rw [hH0], fun q h1 h2 => by omega, by rw [e_nx, hG, Nat.sub_self, e_sl]; rfl, by omega, by omega⟩
  have C : hp_F (lw_M p l e s m b below meth c) G yL_law cL_law 7 2000 h0 := ⟨hx, hb, hml, hown, hp_ws_hts hts, hlocks, hnm, hE, hR0, by show 2000 ≤ 2048; omega, by show 41 * 2000 ≤ 84000; omega, by show hp_n0 G + hp_LC ≤ 601024 + hp_nx h0; omega, by show hp_LS ≤ 7293034 + hp_sl h0; omega, htr⟩
  rw [lg_entry_eq]
  refine (?_ : hp_V (lw_M p l e s m b below meth c) G 7 (lw_Z below #[Value.ref b] s) h0 0 (fun i => [Value.ref b][i]?) []) s.heap [] 0 0 _ hR0 (fun q hq => by cases hq) (hp_L_entry (by simp [Value.category]) (Nat.le_of_ble_eq_true rfl))
  have hX0 : va_X b L xs (hp_st (lw_M p l e s m b below meth c)) (hp_H0 G) := by rw [hH0]; exact hX
  have hb0 : b < hp_n0 G := by rw [hG]; exact hbl
  have hk0 : hp_nx h0 = hp_n0 G := by omega
  refine hp_new C nl_L_8 dL_law_0 (by omega) (by omega) ?_
  have iA : hp_is G (hp_mk h0 5 6) (hp_nx h0) 5 := hp_isN (by omega) 5 6
  have nA : hp_nx (hp_mk h0 5 6) = hp_nx h0 + 1 := rfl
  have sA : hp_sl (hp_mk h0 5 6) = hp_sl h0 + 6 := rfl
  generalize hp_mk h0 5 6 = A at iA nA sA ⊢
  obtain ⟨k, hk⟩ : ∃ k, k = hp_nx h0 := ⟨_, rfl⟩
  rw [← hk] at iA nA ⊢
  refine hp_dup C dL_law_3 rfl ?_
  refine hp_callI C ml_L_70 im_X5_init rfl (kc_ktI (d := 1900) (by omega) nA iA ⟨by omega, by omega⟩) (by omega) dL_law_4 rfl rfl (by simp [Value.category]) (fun v_1 h_1 hp => ?_)
  obtain ⟨rfl, h2, rfl, shK, n2, s2⟩ := hp
  refine hp_astore_n (r := some k) C dL_law_7 (by decide) ?_
  have sW : hp_sl (kt_w G h2 k kt_s0) = hp_sl h2 := rfl
  have nW : hp_nx (kt_w G h2 k kt_s0) = k + 12 := n2
  have wK : ∀ q, hp_kd (kt_w G h2 k kt_s0) q = hp_kd h2 q := fun _ => rfl
  have wL : ∀ q, hp_ln (kt_w G h2 k kt_s0) q = hp_ln h2 q := fun _ => rfl
  generalize eW : kt_w G h2 k kt_s0 = W0 at sW nW wK wL ⊢
  refine hp_new C nl_L_71 dL_law_8 (by omega) (by omega) ?_
  have iB : hp_is G (hp_mk W0 6 25) (hp_nx W0) 6 := hp_isN (by omega) 6 25
  have nB : hp_nx (hp_mk W0 6 25) = hp_nx W0 + 1 := rfl
  have sB : hp_sl (hp_mk W0 6 25) = hp_sl W0 + 25 := rfl
  have zB : ∀ j, mo_isA j = false → j < 25 → hp_fl (hp_mk W0 6 25) (hp_fd 6 j) (hp_nx W0) = .int 0 := fun j h1 h2 => by rw [hp_mk_fl, if_pos rfl]; exact lw_dv j h1 h2
  have oB : hp_fg 0 W0 (hp_mk W0 6 25) := hp_fg.rf.mk 6 25
  rw [nW] at iB nB zB ⊢
  generalize hp_mk W0 6 25 = B at iB nB sB zB oB ⊢
  refine hp_dup C dL_law_11 rfl ?_
  refine hp_callI C ml_L_73 im_X6_init rfl (mf_init (d := 1900) (by omega) iB nB zB ⟨by omega, by omega⟩) (by omega) dL_law_12 rfl rfl (by simp [Value.category]) (fun v_1 h_1 hp => ?_)
  obtain ⟨rfl, h3, rfl, shM, n3, s3, o3⟩ := hp
  refine hp_astore_n (r := some (k + 12)) C dL_law_15 (by decide) ?_
  refine hp_iconst (v := 1) C dL_law_16 (by decide) ?_
  have nV : hp_nx (mo_w h3 (k + 12) mo_s0) = k + 32 := n3
  have sV : hp_sl (mo_w h3 (k + 12) mo_s0) = hp_sl h3 := rfl
  refine hp_newa C 2 (atype := .long) (ty := .long) (N := 1) rfl rfl (fun U hU => hU) (by decide) ac_long dL_law_17 (by decide) rfl (by decide) (by omega) (by omega) ?_
  rw [nV]
  change hp_V _ G 7 _ (hp_mkA (mo_w h3 (k + 12) mo_s0) 2 1 (.long 0)) _ _ _
  have hS9 : hp_sl (hp_mkA (mo_w h3 (k + 12) mo_s0) 2 1 (.long 0)) ≤ 40000 := by
    show hp_sl (mo_w h3 (k + 12) mo_s0) + 1 ≤ 40000
    omega
  have hH : lw_H G (hp_mkA (mo_w h3 (k + 12) mo_s0) 2 1 (.long 0)) k := by
    have hne : ∀ q, q < k + 32 → ¬ q = hp_nx (mo_w h3 (k + 12) mo_s0) := fun q hq => by omega
    obtain ⟨t1, t2⟩ := kt_of (h := h2) (h' := hp_mkA (mo_w h3 (k + 12) mo_s0) 2 1 (.long 0)) (s := kt_s0) shK (by rw [hp_mkA_nx]; omega) (fun q hq => by
      obtain ⟨y1, y2, y3, y4⟩ := o3 q hq
      obtain ⟨u1, u2, u3, u4⟩ := oB.2 q (Nat.zero_le _) (by omega)
      rw [eW]
      refine ⟨?_, ?_, ?_, fun f => ?_⟩
      · rw [hp_mkA_kd, if_neg (hne q (by omega)), ← wK, ← u1, ← y1]
        rfl
      · rw [hp_mkA_ln, if_neg (hne q (by omega)), ← wL, ← u2, ← y2]
        rfl
      · funext i
        rw [hp_mkA_ar, if_neg (hne q (by omega)), mo_w_ar, if_neg (by omega), y3, u4]
      · rw [hp_mkA_fl, mo_w_fl, if_neg (by omega), y4, u3])
    obtain ⟨t3, t4⟩ := mo_of (h := h3) (h' := hp_mkA (mo_w h3 (k + 12) mo_s0) 2 1 (.long 0)) (s := mo_s0) shM (by rw [hp_mkA_nx]; omega) (fun q h1 h2 => by
      refine ⟨?_, ?_, ?_, fun f => ?_⟩
      · rw [hp_mkA_kd, if_neg (hne q (by omega))]
        rfl
      · rw [hp_mkA_ln, if_neg (hne q (by omega))]
        rfl
      · funext i
        rw [hp_mkA_ar, if_neg (hne q (by omega))]
      · rw [hp_mkA_fl])
    have iq := hp_isA (G := G) (h := mo_w h3 (k + 12) mo_s0) (by omega) 2 1 (.long 0)
    rw [nV] at iq
    exact ⟨t1, t2, t3, t4, iq, by rw [hp_mkA_ln, nV, if_pos rfl], by rw [hp_mkA_nx, nV], by rw [hp_mkA_nx, nV]; omega, by show hp_sl (mo_w h3 (k + 12) mo_s0) + 1 + 30000 ≤ _; omega⟩
  generalize hp_mkA (mo_w h3 (k + 12) mo_s0) 2 1 (.long 0) = H1 at hH hS9 ⊢
  refine hp_astore_n (r := some (k + 32)) C dL_law_19 (by decide) ?_
  refine hp_iconst (v := 0) C dL_law_20 (by decide) ?_
  refine hp_istore C dL_law_21 (by decide) ?_
  obtain ⟨t1, t2, t3, t4, t5, t6, t7, t8, t9⟩ := hH
  have J : LJ G k (hp_n0 G + 40) 40000 0 H1 a_new := ⟨a_new_Y, ⟨hp_n0 G + 40, 40000, lw_newK t1 t2 t7 (by omega) hS9, by omega, by omega⟩, ⟨0, lw_newM t3 t4⟩, t5, t6⟩
  refine lw_loop C (N0 := hp_n0 G + 40) (S0 := 40000) ⟨by omega, by omega⟩ hX0 hb0 hL (fun h9 lo9 => ?_) 512 0 H1 _ a_new rfl J rfl rfl rfl rfl rfl
  refine hp_iconst (v := 1) C dL_law_775 (by decide) ?_
  exact lw_end C hG hk0 e_sl hr dL_law_776
set_option maxHeartbeats 4000000 in
theorem lw_walk (l : Launch) (htr : l.stackTraces = false) (b : Addr) (xs : List Int32) : MetFree l x (headSpec (Jvm.Cond.code x code maxLocals ret :: tables_1) room_1) (lw_P b xs) (fun _ _ _ _ _ => True) lw_Q := by
  refine MetFree.of_bodyS (code := code) (maxLocals := maxLocals) (ret := ret) (by decide) ?_ ?_
  · intro args s m h hn
    obtain ⟨meth, c, h1, h2, h3, h4, h5, h6, -, -⟩ := Cond.code_spec hn (atoms_spec (ws := Jvm.Cond.code x code maxLocals ret :: tables_1) h _ List.mem_cons_self)
    exact ⟨meth, c, h1, h2, h3, h4, h5, h6⟩
  · intro p e s m args below meth c s₁ B hml0 hP _
    obtain ⟨rfl, hx, hbd, hgv⟩ := hP
    obtain ⟨scr, harrAt, hlist, hof, hsmall⟩ := hx
    obtain ⟨hcb, hkn, -, -⟩ := State.arrayAt?_spec harrAt
    have hown : s.vm.findClass R_law = some m.cls := findClass_of_methodNamed B.named
    have hts0 : ∀ c ∈ (Jvm.Cond.code x code maxLocals ret :: tables_1), c.before #[Value.ref b] s = true := atoms_spec (ws := Jvm.Cond.code x code maxLocals ret :: tables_1) B.pre
    have hts : ∀ w ∈ lw_tbl, w.before #[Value.ref b] s = true := k2_hts_sels lw_privs (fun w hw => hts0 w (List.mem_cons_of_mem _ hw)) lw_privs_ok
    have hml : c.maxLocals = 7 := B.maxLocals_eq (hts0 _ List.mem_cons_self)
    have X₀ : Stand p l e room_1 s m #[Value.ref b] below meth c s₁ [] 0 0 := Stand.of_body B
    have hh0 : s₁.heap = s.heap := by rw [B.state]; rfl
    have hsz : scr.slots.size = xs.length := by rw [← Array.length_toList, hlist, List.length_map]
    have hval : ∀ j : Nat, j < xs.length → scr.slots[j]? = some (.int (xs.getD j 0)) := fun j hj => by
      rw [← Array.getElem?_toList, hlist]
      simp [hj]
    have hbl : b < s.heap.size := (Array.getElem?_eq_some_iff.mp hcb).1
    have hX : va_X b xs.length (fun j => xs.getD j 0) s s.heap := ⟨scr, hcb, hof, hkn, hsz, hval⟩
    have K : W p l e room_1 s m #[Value.ref b] below meth c s₁.heap [] 0 0 (lw_Z below #[Value.ref b] s) (entryFrame m ([Value.ref b] : List Value).toArray 7) := by
      rw [hh0]
      exact whole_start l hbd htr (name_of_methodNamed B.named B.method).1 ⟨B.exec, B.bytes, B.returns, hml, hown, hts, hX, hbl, B.notSynchronized, hgv⟩
    obtain ⟨t, a1, o, b1, b2, b3⟩ := K s₁ rfl X₀
    exact ⟨t, o, a1, b1, b2, b3⟩
theorem lw_pre_spec {args : Array Value} {s : State} (h : (Jvm.Cond.and given_1 narrow_1).before args s = true) (hr : rest_1_c.before args s = true) : ∃ (b : Addr) (xs : List Int32), lw_P b xs args s := by
  have hs := flat_of_before _ h
  have hq := flat_of_before _ hr
  have hc : (Cond.count 1).before args s = true := hs _ (by decide +kernel)
  have harr : (Cond.arrayOf (.arg 0) .int).before args s = true := hs _ (by decide +kernel)
  have hle : (Cond.le (.length (.arg 0)) (.int 3584)).before args s = true := hs _ (by decide +kernel)
  have hlen : (Cond.isInt (.length (.arg 0))).before args s = true := hq _ (by decide +kernel)
  have hall : (Cond.all (.arg 0) (.isInt (.elem (.arg 0) (.index 0)))).before args s = true := hq _ (by decide +kernel)
  obtain ⟨b, xs, hb, hx⟩ := State.ints_of_pre rfl harr hlen hall
  have hsm : xs.length < 2 ^ 31 := hx.choose_spec.2.2.2
  have hev : (Term.length (.arg 0)).eval args s none [] s = some (.int xs.length.toInt32) := hx.length_eval hb
  have hv := Cond.le_ints hev (show (Term.int 3584).eval args s none [] s = some (.int 3584) from rfl)
  have hd : xs.length.toInt32 ≤ 3584 := by
    simpa [Cond.before, Cond.holds, hv] using hle
  have hN : xs.length ≤ 3584 := (Int32.ofNat_le_ofNat hsm (by decide)).mp (show Int32.ofNat xs.length ≤ Int32.ofNat 3584 from hd)
  exact ⟨b, xs, Cond.one_arg hc (show args[0]? = some (.ref b) from hb), hx, hN, h⟩
theorem lw_comes (l : Launch) (htr : l.stackTraces = false) : Comes l x (Jvm.Cond.code x code maxLocals ret :: tables_1) room_1 (fun tb e args s => Calls_1 tb e args s ∧ rest_1 tb e args s ∧ Pre_1 tb e args s)
    (fun _ _ args s o t => lw_Q args s o t) := by
  intro p e ha hc hk s m args below hf hfit hheap happ hpre
  obtain ⟨b, xs, hP⟩ := lw_pre_spec hpre.2.2 hpre.2.1
  obtain ⟨k, o, h1, h2, h3, hQ⟩ := lw_walk l htr b xs p e ha hc hk s m args below hf ((Spec.applies_iff_loose hf).mp happ).1 hP trivial
  exact ⟨k, o, h1, h2, h3, hQ⟩
theorem lw_frame {s t : State} {o : Outcome} {args : Array Value} (h : Framed s o t [] 601024 7293034) :
    Framed s o t (fieldLocs frame_1_writes args s ++ arrayLocs frame_1_arrays args s ++ staticLocs frame_1_statics s) 601024 7293034 := h
theorem lw_limb (L : Cond) (hL : ∀ (args : Array Value) (s t : State), L.after args s (.returned (some (.int 1))) t = true) :
    ArmFor flags0 classFile x code maxLocals ret World_1 tables_1 room_1 Calls_1 rest_1 Pre_1
      (fun tb e a s o t => postC L tb e a s o t ∧ Framed s o t (fieldLocs frame_1_writes a s ++ arrayLocs frame_1_arrays a s ++ staticLocs frame_1_statics s) 601024 7293034) := by
  intro l hfl _ _ p e ha hc hk s m args below hf hfit hheap happ hpre
  obtain ⟨k, o, h1, h2, h3, rfl, hF⟩ := lw_comes l (by unfold Launch.stackTraces; rw [hfl]; decide +kernel) p e ha hc hk s m args below hf hfit hheap happ hpre
  exact ⟨k, _, h1, h2, h3, hL args s _, lw_frame hF⟩
theorem i_vc : Claimed_1_1 ∧ Claimed_1_2 := ⟨lw_limb limb_1_1 (fun args s t => by simp [limb_1_1, Cond.after, Cond.holds, Cond.value]), lw_limb limb_1_2 (fun args s t => Cond.after_iff.mpr (by
  first | (rw [show limb_1_2 = Cond.eq .result (.int 1) from rfl, Cond.eq_ints (x := 1) (y := 1) rfl rfl]; simp; done) | (simp [limb_1_2, Cond.value, Term.eval]; done)))⟩
