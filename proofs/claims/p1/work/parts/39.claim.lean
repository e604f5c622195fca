theorem lw_and (v : Int32) : 0 ≤ (v &&& 15).toInt ∧ (v &&& 15).toInt ≤ 15 := by
  have h1 : (v &&& 15).toInt = (v.toBitVec &&& 15#32).toInt := rfl
  have h2 : (v.toBitVec &&& 15#32).toNat ≤ 15 := by
    rw [BitVec.toNat_and]
    exact Nat.and_le_right
  have h3 : (v.toBitVec &&& 15#32).toInt = ((v.toBitVec &&& 15#32).toNat : Int) := BitVec.toInt_eq_toNat_of_lt (by omega)
  omega
theorem lw_dv (j : Nat) (hj : mo_isA j = false) (h25 : j < 25) : hp_dv 6 (hp_fd 6 j) = .int 0 := by
  have h : j = 0 ∨ j = 1 ∨ j = 18 ∨ j = 19 ∨ j = 21 ∨ j = 22 := by
    unfold mo_isA at hj
    simp only [Bool.or_eq_false_iff, Bool.and_eq_false_iff, decide_eq_false_iff_not, beq_eq_false_iff_ne] at hj
    omega
  rcases h with rfl | rfl | rfl | rfl | rfl | rfl <;> rfl
set_option maxRecDepth 20000 in
set_option maxHeartbeats 8000000 in
theorem whole_start {p : Program} {e : Env} {s : State} {m : MethodId} {below : List Frame} {meth : Method} {c : Code} (l : Launch) {b L : Nat} {xs : Nat → Int32} (hL : L ≤ 7) (htr : l.stackTraces = false) (hnm : meth.name = "law") (C0 : lw_At p s m meth c b L xs) : W p l e room_1 s m #[Value.ref b] below meth c s.heap [] 0 0 (lw_Z below #[Value.ref b] s) (entryFrame m ([Value.ref b] : List Value).toArray 7) := by
  obtain ⟨hx, hb, hr, hml, hown, hts, hX, hbl, hlocks, hgv⟩ := id C0
  obtain ⟨G, hE, hG, hH0⟩ := lw_world hts hgv
  obtain ⟨h0, e_nx, e_sl⟩ : ∃ h0 : hpT, hp_nx h0 = s.heap.size ∧ hp_sl h0 = 0 := ⟨(s.heap.size, 0, fun _ => 0, fun _ => 0, fun _ _ => .null, fun _ _ => .null), rfl, rfl⟩
  have b3 : hp_LC = 600000 := rfl
  have b4 : hp_LS = 7290000 := rfl
  have hR0 : hp_R G h0 s.heap := ⟨by omega, e_nx.symm, fun q _ => by rw [hH0], fun q h1 h2 => by omega, by rw [e_nx, hG, Nat.sub_self, e_sl]; rfl, by omega, by omega⟩
  have C : hp_F (lw_M p l e s m b below meth c) G yL_law cL_law 7 2000 h0 := ⟨hx, hb, hml, hown, hp_ws_hts hts, hlocks, hnm, hE, hR0, by show 2000 ≤ 2048; omega, by show 41 * 2000 ≤ 84000; omega, by show hp_n0 G + hp_LC ≤ 600002 + hp_nx h0; omega, by show hp_LS ≤ 7302232 + hp_sl h0; omega, htr⟩
  rw [lg_entry_eq]
  refine (?_ : hp_V (lw_M p l e s m b below meth c) G 7 (lw_Z below #[Value.ref b] s) h0 0 (fun i => [Value.ref b][i]?) []) s.heap [] 0 0 _ hR0 (fun q hq => by cases hq) (hp_L_entry (by simp [Value.category]) (Nat.le_of_ble_eq_true rfl))
  have hX0 : va_X b L xs (hp_st (lw_M p l e s m b below meth c)) (hp_H0 G) := by rw [hH0]; exact hX
  have hb0 : b < hp_n0 G := by rw [hG]; exact hbl
  have hk0 : hp_nx h0 = hp_n0 G := by omega
  refine hp_new C nl_L_8 dL_law_0 (by omega) (by omega) ?_
  have iA : hp_is G (hp_mk h0 5 6) (hp_nx h0) 5 := hp_isN (by omega) 5 6
  have nA : hp_nx (hp_mk h0 5 6) = hp_nx h0 + 1 := rfl
  have sA : hp_sl (hp_mk h0 5 6) = hp_sl h0 + 6 := rfl
  generalize hp_mk h0 5 6 = A at iA nA sA ⊢
  obtain ⟨k, hk⟩ : ∃ k, k = hp_nx h0 := ⟨_, rfl⟩
  rw [← hk] at iA nA ⊢
  refine hp_dup C dL_law_3 rfl ?_
  refine hp_callI C ml_L_70 im_X5_init rfl (kc_ktI (d := 1900) (by omega) nA iA ⟨by omega, by omega⟩) (by omega) dL_law_4 rfl rfl (by simp [Value.category]) (fun v_1 h_1 hp => ?_)
  obtain ⟨rfl, h2, rfl, shK, n2, s2⟩ := hp
  refine hp_astore_n (r := some k) C dL_law_7 (by decide) ?_
  have sW : hp_sl (kt_w G h2 k kt_s0) = hp_sl h2 := rfl
  have nW : hp_nx (kt_w G h2 k kt_s0) = k + 12 := n2
  have wK : ∀ q, hp_kd (kt_w G h2 k kt_s0) q = hp_kd h2 q := fun _ => rfl
  have wL : ∀ q, hp_ln (kt_w G h2 k kt_s0) q = hp_ln h2 q := fun _ => rfl
  generalize eW : kt_w G h2 k kt_s0 = W0 at sW nW wK wL ⊢
  refine hp_new C nl_L_71 dL_law_8 (by omega) (by omega) ?_
  have iB : hp_is G (hp_mk W0 6 25) (hp_nx W0) 6 := hp_isN (by omega) 6 25
  have nB : hp_nx (hp_mk W0 6 25) = hp_nx W0 + 1 := rfl
  have sB : hp_sl (hp_mk W0 6 25) = hp_sl W0 + 25 := rfl
  have zB : ∀ j, mo_isA j = false → j < 25 → hp_fl (hp_mk W0 6 25) (hp_fd 6 j) (hp_nx W0) = .int 0 := fun j h1 h2 => by rw [hp_mk_fl, if_pos rfl]; exact lw_dv j h1 h2
  have oB : hp_fg 0 W0 (hp_mk W0 6 25) := hp_fg.rf.mk 6 25
  rw [nW] at iB nB zB ⊢
  generalize hp_mk W0 6 25 = B at iB nB sB zB oB ⊢
  refine hp_dup C dL_law_11 rfl ?_
  refine hp_callI C ml_L_73 im_X6_init rfl (mf_init (d := 1900) (by omega) iB nB zB ⟨by omega, by omega⟩) (by omega) dL_law_12 rfl rfl (by simp [Value.category]) (fun v_1 h_1 hp => ?_)
  obtain ⟨rfl, h3, rfl, shM, n3, s3, o3⟩ := hp
  refine hp_astore_n (r := some (k + 12)) C dL_law_15 (by decide) ?_
  refine hp_iconst (v := 1) C dL_law_16 (by decide) ?_
  have nV : hp_nx (mo_w h3 (k + 12) mo_s0) = k + 32 := n3
  have sV : hp_sl (mo_w h3 (k + 12) mo_s0) = hp_sl h3 := rfl
  refine hp_newa C 2 (atype := .long) (ty := .long) (N := 1) rfl rfl (fun U hU => hU) (by decide) ac_long dL_law_17 (by decide) rfl (by decide) (by omega) (by omega) ?_
  rw [nV]
  change hp_V _ G 7 _ (hp_mkA (mo_w h3 (k + 12) mo_s0) 2 1 (.long 0)) _ _ _
  have hH : lw_H G (hp_mkA (mo_w h3 (k + 12) mo_s0) 2 1 (.long 0)) k := by
    have hne : ∀ q, q < k + 32 → ¬ q = hp_nx (mo_w h3 (k + 12) mo_s0) := fun q hq => by omega
    obtain ⟨t1, t2⟩ := kt_of (h := h2) (h' := hp_mkA (mo_w h3 (k + 12) mo_s0) 2 1 (.long 0)) (s := kt_s0) shK (by rw [hp_mkA_nx]; omega) (fun q hq => by
      obtain ⟨y1, y2, y3, y4⟩ := o3 q hq
      obtain ⟨u1, u2, u3, u4⟩ := oB.2 q (Nat.zero_le _) (by omega)
      rw [eW]
      refine ⟨?_, ?_, ?_, fun f => ?_⟩
      · rw [hp_mkA_kd, if_neg (hne q (by omega)), ← wK, ← u1, ← y1]
        rfl
      · rw [hp_mkA_ln, if_neg (hne q (by omega)), ← wL, ← u2, ← y2]
        rfl
      · funext i
        rw [hp_mkA_ar, if_neg (hne q (by omega)), mo_w_ar, if_neg (by omega), y3, u4]
      · rw [hp_mkA_fl, mo_w_fl, if_neg (by omega), y4, u3])
    obtain ⟨t3, t4⟩ := mo_of (h := h3) (h' := hp_mkA (mo_w h3 (k + 12) mo_s0) 2 1 (.long 0)) (s := mo_s0) shM (by rw [hp_mkA_nx]; omega) (fun q h1 h2 => by
      refine ⟨?_, ?_, ?_, fun f => ?_⟩
      · rw [hp_mkA_kd, if_neg (hne q (by omega))]
        rfl
      · rw [hp_mkA_ln, if_neg (hne q (by omega))]
        rfl
      · funext i
        rw [hp_mkA_ar, if_neg (hne q (by omega))]
      · rw [hp_mkA_fl])
    have iq := hp_isA (G := G) (h := mo_w h3 (k + 12) mo_s0) (by omega) 2 1 (.long 0)
    rw [nV] at iq
    exact ⟨t1, t2, t3, t4, iq, by rw [hp_mkA_ln, nV, if_pos rfl], by rw [hp_mkA_nx, nV], by rw [hp_mkA_nx, nV]; omega, by show hp_sl (mo_w h3 (k + 12) mo_s0) + 1 + 30000 ≤ _; omega⟩
  generalize hp_mkA (mo_w h3 (k + 12) mo_s0) 2 1 (.long 0) = H1 at hH ⊢
  refine hp_astore_n (r := some (k + 32)) C dL_law_19 (by decide) ?_
  refine hp_iconst (v := 0) C dL_law_20 (by decide) ?_
  refine hp_istore C dL_law_21 (by decide) ?_
  refine hp_iload C dL_law_23 rfl ?_
  refine hp_aload_nR C dL_law_25 rfl ?_
  refine hp_slen C hX0 hb0 dL_law_26 ?_
  refine hp_bipush (v := 7) C dL_law_27 (by decide) ?_
  refine hp_isub C dL_law_29 ?_
  refine hp_icmp_gt (tgt := 1158) C dL_law_30 (by decide) (fun _ => ?_) (fun c_30 => ?_)
  · refine hp_iconst (v := 1) C dL_law_1158 (by decide) ?_
    exact lw_end C hG hk0 e_sl hr dL_law_1159
  · have hL7 : L = 7 := by
      rcases (show L = 0 ∨ L = 1 ∨ L = 2 ∨ L = 3 ∨ L = 4 ∨ L = 5 ∨ L = 6 ∨ L = 7 by omega) with rfl | rfl | rfl | rfl | rfl | rfl | rfl | rfl
      · exact absurd (by decide) c_30
      · exact absurd (by decide) c_30
      · exact absurd (by decide) c_30
      · exact absurd (by decide) c_30
      · exact absurd (by decide) c_30
      · exact absurd (by decide) c_30
      · exact absurd (by decide) c_30
      · rfl
    subst hL7
    refine hp_aload_nR C dL_law_33 rfl ?_
    refine hp_iload C dL_law_34 rfl ?_
    refine hp_sld C hX0 hb0 (by unfold vp_in; decide) rfl dL_law_36 ?_
    refine hp_bipush (v := 15) C dL_law_37 (by decide) ?_
    refine hp_iand C dL_law_39 ?_
    have kk : ∀ (h9 : hpT) (lo9 : Nat → Option Value), lo9 0 = some (.ref b) → lo9 4 = some (.int 0) → hp_V (lw_M p l e s m b below meth c) G 7 (lw_Z below #[Value.ref b] s) h9 1152 lo9 [] := by
      intro h9 lo9 g0 g4
      refine hp_iinc C dL_law_1152 g4 (by decide) rfl ?_
      refine hp_goto (tgt := 23) C dL_law_1155 (by decide) ?_
      refine hp_iload C dL_law_23 rfl ?_
      refine hp_aload_nR C dL_law_25 g0 ?_
      refine hp_slen C hX0 hb0 dL_law_26 ?_
      refine hp_bipush (v := 7) C dL_law_27 (by decide) ?_
      refine hp_isub C dL_law_29 ?_
      refine hp_icmp_gt (tgt := 1158) C dL_law_30 (by decide) (fun _ => ?_) (fun z_9 => absurd (by decide) z_9)
      refine hp_iconst (v := 1) C dL_law_1158 (by decide) ?_
      exact lw_end C hG hk0 e_sl hr dL_law_1159
    obtain ⟨q_1, q_2⟩ := lw_and (xs (0 : Int32).toNatClampNeg)
    generalize xs (0 : Int32).toNatClampNeg &&& 15 = w_1 at q_1 q_2 ⊢
    have q_3 : w_1.toInt = 0 ∨ w_1.toInt = 1 ∨ w_1.toInt = 2 ∨ w_1.toInt = 3 ∨ w_1.toInt = 4 ∨ w_1.toInt = 5 ∨ w_1.toInt = 6 ∨ w_1.toInt = 7 ∨ w_1.toInt = 8 ∨ w_1.toInt = 9 ∨ w_1.toInt = 10 ∨ w_1.toInt = 11 ∨ w_1.toInt = 12 ∨ w_1.toInt = 13 ∨ w_1.toInt = 14 ∨ w_1.toInt = 15 := by omega
    have q_4 : w_1 = 0 ∨ w_1 = 1 ∨ w_1 = 2 ∨ w_1 = 3 ∨ w_1 = 4 ∨ w_1 = 5 ∨ w_1 = 6 ∨ w_1 = 7 ∨ w_1 = 8 ∨ w_1 = 9 ∨ w_1 = 10 ∨ w_1 = 11 ∨ w_1 = 12 ∨ w_1 = 13 ∨ w_1 = 14 ∨ w_1 = 15 := by
      rcases q_3 with q_3 | q_3 | q_3 | q_3 | q_3 | q_3 | q_3 | q_3 | q_3 | q_3 | q_3 | q_3 | q_3 | q_3 | q_3 | q_3 <;> first | exact Or.inl (Int32.toInt_inj.mp (q_3.trans (by decide))) | exact Or.inr (Or.inl (Int32.toInt_inj.mp (q_3.trans (by decide)))) | exact Or.inr (Or.inr (Or.inl (Int32.toInt_inj.mp (q_3.trans (by decide))))) | exact Or.inr (Or.inr (Or.inr (Or.inl (Int32.toInt_inj.mp (q_3.trans (by decide)))))) | exact Or.inr (Or.inr (Or.inr (Or.inr (Or.inl (Int32.toInt_inj.mp (q_3.trans (by decide))))))) | exact Or.inr (Or.inr (Or.inr (Or.inr (Or.inr (Or.inl (Int32.toInt_inj.mp (q_3.trans (by decide)))))))) | exact Or.inr (Or.inr (Or.inr (Or.inr (Or.inr (Or.inr (Or.inl (Int32.toInt_inj.mp (q_3.trans (by decide))))))))) | exact Or.inr (Or.inr (Or.inr (Or.inr (Or.inr (Or.inr (Or.inr (Or.inl (Int32.toInt_inj.mp (q_3.trans (by decide)))))))))) | exact Or.inr (Or.inr (Or.inr (Or.inr (Or.inr (Or.inr (Or.inr (Or.inr (Or.inl (Int32.toInt_inj.mp (q_3.trans (by decide))))))))))) | exact Or.inr (Or.inr (Or.inr (Or.inr (Or.inr (Or.inr (Or.inr (Or.inr (Or.inr (Or.inl (Int32.toInt_inj.mp (q_3.trans (by decide)))))))))))) | exact Or.inr (Or.inr (Or.inr (Or.inr (Or.inr (Or.inr (Or.inr (Or.inr (Or.inr (Or.inr (Or.inl (Int32.toInt_inj.mp (q_3.trans (by decide))))))))))))) | exact Or.inr (Or.inr (Or.inr (Or.inr (Or.inr (Or.inr (Or.inr (Or.inr (Or.inr (Or.inr (Or.inr (Or.inl (Int32.toInt_inj.mp (q_3.trans (by decide)))))))))))))) | exact Or.inr (Or.inr (Or.inr (Or.inr (Or.inr (Or.inr (Or.inr (Or.inr (Or.inr (Or.inr (Or.inr (Or.inr (Or.inl (Int32.toInt_inj.mp (q_3.trans (by decide))))))))))))))) | exact Or.inr (Or.inr (Or.inr (Or.inr (Or.inr (Or.inr (Or.inr (Or.inr (Or.inr (Or.inr (Or.inr (Or.inr (Or.inr (Or.inl (Int32.toInt_inj.mp (q_3.trans (by decide)))))))))))))))) | exact Or.inr (Or.inr (Or.inr (Or.inr (Or.inr (Or.inr (Or.inr (Or.inr (Or.inr (Or.inr (Or.inr (Or.inr (Or.inr (Or.inr (Or.inl (Int32.toInt_inj.mp (q_3.trans (by decide))))))))))))))))) | exact Or.inr (Or.inr (Or.inr (Or.inr (Or.inr (Or.inr (Or.inr (Or.inr (Or.inr (Or.inr (Or.inr (Or.inr (Or.inr (Or.inr (Or.inr ((Int32.toInt_inj.mp (q_3.trans (by decide))))))))))))))))))
    rcases q_4 with rfl | rfl | rfl | rfl | rfl | rfl | rfl | rfl | rfl | rfl | rfl | rfl | rfl | rfl | rfl | rfl
    · refine hp_tableIn (tgt := 120) C dL_law_40 (by decide) (by decide) rfl (by decide) ?_
      exact lq_first C hH hX0 hb0 rfl rfl rfl rfl rfl kk
    · refine hp_tableIn (tgt := 180) C dL_law_40 (by decide) (by decide) rfl (by decide) ?_
      exact lq_keeper C hH hX0 hb0 rfl rfl rfl rfl rfl kk
    · refine hp_tableIn (tgt := 284) C dL_law_40 (by decide) (by decide) rfl (by decide) ?_
      exact lq_worker C hH hX0 hb0 rfl rfl rfl rfl rfl kk
    · refine hp_tableIn (tgt := 402) C dL_law_40 (by decide) (by decide) rfl (by decide) ?_
      exact lq_failing C hH hX0 hb0 rfl rfl rfl rfl rfl kk
    · refine hp_tableIn (tgt := 470) C dL_law_40 (by decide) (by decide) rfl (by decide) ?_
      exact lq_begin C hH hX0 hb0 rfl rfl rfl rfl rfl kk
    · refine hp_tableIn (tgt := 521) C dL_law_40 (by decide) (by decide) rfl (by decide) ?_
      exact lq_ends C hH hX0 hb0 rfl rfl rfl rfl rfl kk
    · refine hp_tableIn (tgt := 569) C dL_law_40 (by decide) (by decide) rfl (by decide) ?_
      exact lq_kill C hH hX0 hb0 rfl rfl rfl rfl rfl kk
    · refine hp_tableIn (tgt := 625) C dL_law_40 (by decide) (by decide) rfl (by decide) ?_
      exact lq_stop C hH hX0 hb0 rfl rfl rfl rfl rfl kk
    · refine hp_tableIn (tgt := 661) C dL_law_40 (by decide) (by decide) rfl (by decide) ?_
      exact lq_again C hH hX0 hb0 rfl rfl rfl rfl rfl kk
    · refine hp_tableIn (tgt := 724) C dL_law_40 (by decide) (by decide) rfl (by decide) ?_
      exact lq_remove C hH hX0 hb0 rfl rfl rfl rfl rfl kk
    · refine hp_tableIn (tgt := 780) C dL_law_40 (by decide) (by decide) rfl (by decide) ?_
      exact lq_pass C hH hX0 hb0 rfl rfl rfl rfl rfl kk
    · refine hp_tableIn (tgt := 836) C dL_law_40 (by decide) (by decide) rfl (by decide) ?_
      exact lq_state C hH hX0 hb0 rfl rfl rfl rfl rfl kk
    · refine hp_tableIn (tgt := 892) C dL_law_40 (by decide) (by decide) rfl (by decide) ?_
      exact lq_about C hH hX0 hb0 rfl rfl rfl rfl rfl kk
    · refine hp_tableIn (tgt := 960) C dL_law_40 (by decide) (by decide) rfl (by decide) ?_
      exact lq_child C hH hX0 hb0 rfl rfl rfl rfl rfl kk
    · refine hp_tableIn (tgt := 1028) C dL_law_40 (by decide) (by decide) rfl (by decide) ?_
      exact lq_event C hH hX0 hb0 rfl rfl rfl rfl rfl kk
    · refine hp_tableIn (tgt := 1096) C dL_law_40 (by decide) (by decide) rfl (by decide) ?_
      exact lq_total C hH hX0 hb0 rfl rfl rfl rfl rfl kk
set_option maxHeartbeats 4000000 in
theorem lw_walk (l : Launch) (htr : l.stackTraces = false) (b : Addr) (xs : List Int32) : MetFree l x (headSpec (Jvm.Cond.code x code maxLocals ret :: tables_1) room_1) (lw_P b xs) (fun _ _ _ _ _ => True) lw_Q := by
  refine MetFree.of_bodyS (code := code) (maxLocals := maxLocals) (ret := ret) (by decide) ?_ ?_
  · intro args s m h hn
    obtain ⟨meth, c, h1, h2, h3, h4, h5, h6, -, -⟩ := Cond.code_spec hn (atoms_spec (ws := Jvm.Cond.code x code maxLocals ret :: tables_1) h _ List.mem_cons_self)
    exact ⟨meth, c, h1, h2, h3, h4, h5, h6⟩
  · intro p e s m args below meth c s₁ B hml0 hP _
    obtain ⟨rfl, hx, hbd, hgv⟩ := hP
    obtain ⟨scr, harrAt, hlist, hof, hsmall⟩ := hx
    obtain ⟨hcb, hkn, -, -⟩ := State.arrayAt?_spec harrAt
    have hown : s.vm.findClass R_law = some m.cls := findClass_of_methodNamed B.named
    have hts0 : ∀ c ∈ (Jvm.Cond.code x code maxLocals ret :: tables_1), c.before #[Value.ref b] s = true := atoms_spec (ws := Jvm.Cond.code x code maxLocals ret :: tables_1) B.pre
    have hts : ∀ w ∈ lw_tbl, w.before #[Value.ref b] s = true := k2_hts_sels lw_privs (fun w hw => hts0 w (List.mem_cons_of_mem _ hw)) lw_privs_ok
    have hml : c.maxLocals = 7 := B.maxLocals_eq (hts0 _ List.mem_cons_self)
    have X₀ : Stand p l e room_1 s m #[Value.ref b] below meth c s₁ [] 0 0 := Stand.of_body B
    have hh0 : s₁.heap = s.heap := by rw [B.state]; rfl
    have hsz : scr.slots.size = xs.length := by rw [← Array.length_toList, hlist, List.length_map]
    have hval : ∀ j : Nat, j < xs.length → scr.slots[j]? = some (.int (xs.getD j 0)) := fun j hj => by
      rw [← Array.getElem?_toList, hlist]
      simp [hj]
    have hbl : b < s.heap.size := (Array.getElem?_eq_some_iff.mp hcb).1
    have hX : va_X b xs.length (fun j => xs.getD j 0) s s.heap := ⟨scr, hcb, hof, hkn, hsz, hval⟩
    have K : W p l e room_1 s m #[Value.ref b] below meth c s₁.heap [] 0 0 (lw_Z below #[Value.ref b] s) (entryFrame m ([Value.ref b] : List Value).toArray 7) := by
      rw [hh0]
      exact whole_start l hbd htr (name_of_methodNamed B.named B.method).1 ⟨B.exec, B.bytes, B.returns, hml, hown, hts, hX, hbl, B.notSynchronized, hgv⟩
    obtain ⟨t, a1, o, b1, b2, b3⟩ := K s₁ rfl X₀
    exact ⟨t, o, a1, b1, b2, b3⟩
theorem lw_pre_spec {args : Array Value} {s : State} (h : (Jvm.Cond.and given_1 narrow_1).before args s = true) (hr : rest_1_c.before args s = true) : ∃ (b : Addr) (xs : List Int32), lw_P b xs args s := by
  have hs := flat_of_before _ h
  have hq := flat_of_before _ hr
  have hc : (Cond.count 1).before args s = true := hs _ (by decide +kernel)
  have harr : (Cond.arrayOf (.arg 0) .int).before args s = true := hs _ (by decide +kernel)
  have hle : (Cond.le (.length (.arg 0)) (.int 7)).before args s = true := hs _ (by decide +kernel)
  have hlen : (Cond.isInt (.length (.arg 0))).before args s = true := hq _ (by decide +kernel)
  have hall : (Cond.all (.arg 0) (.isInt (.elem (.arg 0) (.index 0)))).before args s = true := hq _ (by decide +kernel)
  obtain ⟨b, xs, hb, hx⟩ := State.ints_of_pre rfl harr hlen hall
  have hsm : xs.length < 2 ^ 31 := hx.choose_spec.2.2.2
  have hev : (Term.length (.arg 0)).eval args s none [] s = some (.int xs.length.toInt32) := hx.length_eval hb
  have hv := Cond.le_ints hev (show (Term.int 7).eval args s none [] s = some (.int 7) from rfl)
  have hd : xs.length.toInt32 ≤ 7 := by
    simpa [Cond.before, Cond.holds, hv] using hle
  have hN : xs.length ≤ 7 := (Int32.ofNat_le_ofNat hsm (by decide)).mp (show Int32.ofNat xs.length ≤ Int32.ofNat 7 from hd)
  exact ⟨b, xs, Cond.one_arg hc (show args[0]? = some (.ref b) from hb), hx, hN, h⟩
theorem lw_comes (l : Launch) (htr : l.stackTraces = false) : Comes l x (Jvm.Cond.code x code maxLocals ret :: tables_1) room_1 (fun tb e args s => Calls_1 tb e args s ∧ rest_1 tb e args s ∧ Pre_1 tb e args s)
    (fun _ _ args s o t => lw_Q args s o t) := by
  intro p e ha hc hk s m args below hf hfit hheap happ hpre
  obtain ⟨b, xs, hP⟩ := lw_pre_spec hpre.2.2 hpre.2.1
  obtain ⟨k, o, h1, h2, h3, hQ⟩ := lw_walk l htr b xs p e ha hc hk s m args below hf ((Spec.applies_iff_loose hf).mp happ).1 hP trivial
  exact ⟨k, o, h1, h2, h3, hQ⟩
theorem lw_frame {s t : State} {o : Outcome} {args : Array Value} (h : Framed s o t [] 600002 7302232) :
    Framed s o t (fieldLocs frame_1_writes args s ++ arrayLocs frame_1_arrays args s ++ staticLocs frame_1_statics s) 600002 7302232 := h
theorem lw_limb (L : Cond) (hL : ∀ (args : Array Value) (s t : State), L.after args s (.returned (some (.int 1))) t = true) :
    ArmFor flags0 classFile x code maxLocals ret World_1 tables_1 room_1 Calls_1 rest_1 Pre_1
      (fun tb e a s o t => postC L tb e a s o t ∧ Framed s o t (fieldLocs frame_1_writes a s ++ arrayLocs frame_1_arrays a s ++ staticLocs frame_1_statics s) 600002 7302232) := by
  intro l hfl _ _ p e ha hc hk s m args below hf hfit hheap happ hpre
  obtain ⟨k, o, h1, h2, h3, rfl, hF⟩ := lw_comes l (by unfold Launch.stackTraces; rw [hfl]; decide +kernel) p e ha hc hk s m args below hf hfit hheap happ hpre
  exact ⟨k, _, h1, h2, h3, hL args s _, lw_frame hF⟩
theorem i_vc : Claimed_1_1 ∧ Claimed_1_2 := ⟨lw_limb limb_1_1 (fun args s t => by simp [limb_1_1, Cond.after, Cond.holds, Cond.value]), lw_limb limb_1_2 (fun args s t => Cond.after_iff.mpr (by
  first | (rw [show limb_1_2 = Cond.eq .result (.int 1) from rfl, Cond.eq_ints (x := 1) (y := 1) rfl rfl]; simp; done) | (simp [limb_1_2, Cond.value, Term.eval]; done)))⟩
