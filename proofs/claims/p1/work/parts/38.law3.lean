/-! ===== the law's body ===== -/
theorem lg_self (x : Int64) : lg_cmp x x = 0 := by
  unfold lg_cmp
  simp
section LW
variable {M : hpM} {G : hpG} {y : MethodName} {cc : ByteArray} {nL d : Nat} {h0 h : hpT} {Q : State → Prop} {pc : Nat} {lo : Nat → Option Value} {st : List Value}
end LW
/-- the frame of the law -/
abbrev lw_M (p : Program) (l : Launch) (e : Env) (s : State) (m : MethodId) (b : Nat) (below : List Frame) (meth : Method) (c : Code) : hpM := (p, l, e, room_1, s, m, #[Value.ref b], below, meth, c)
theorem lw_end {p : Program} {l : Launch} {e : Env} {s : State} {m : MethodId} {below : List Frame} {meth : Method} {c : Code} {b : Nat} {G : hpG} {h0 h : hpT} {lo : Nat → Option Value} (C : hp_F (lw_M p l e s m b below meth c) G yL_law cL_law 7 2000 h0) (hG : hp_n0 G = s.heap.size) (hh : hp_nx h0 = hp_n0 G) (hs0 : hp_sl h0 = 0) (hr : meth.sig.returnType = ret) {pc : Nat} (dd : decode code pc = .ok (.ireturn, 1)) : hp_V (lw_M p l e s m b below meth c) G 7 (lw_Z below #[Value.ref b] s) h pc lo [.int 1] := by
  intro H locs cells slots ls hR hl hL
  refine hp_tight C hR (fun hle hls => ?_)
  have b1 := hR.2.2.2.2.2.1
  have b2 := hR.2.2.2.2.2.2
  have b3 : hp_LC = 600000 := rfl
  have b4 : hp_LS = 7290000 := rfl
  refine va_forget (fun q hq => by have := hl q hq; rw [hG] at this; exact this) ?_
  refine W.widen (k := 600002) (n := 7302232) (by omega) (by omega) ?_
  exact lw_ret C.ex C.bc hr C.lk dd
theorem lx_first (a r t : Int32) : (mo_fir mo_s0 a r t).1 0 = mo_firC mo_s0 a r t := by
  unfold mo_fir
  split
  · rename_i e; rw [e]; rfl
  · rfl
theorem lx_failing (n f : Int32) : (mo_fai mo_s0 n f).1 0 = mo_faiC mo_s0 n f := by
  unfold mo_fai
  split
  · rename_i e; rw [e]; rfl
  · rfl
theorem lx_pass (n : Int32) : (mo_pas mo_s0 n).1 0 = mo_pasC n := by
  unfold mo_pas
  split
  · rename_i e; rw [e]; rfl
  · rfl
theorem lx_state (n : Int32) : (mo_pt mo_s0 0 (mo_staC mo_s0 n)).1 0 = mo_staC mo_s0 n := rfl
theorem lx_event (i w : Int32) : (mo_pt mo_s0 0 (mo_evtC w)).1 0 = mo_evtC w := rfl
theorem ly_failing (n f : Int32) : mo_faiC mo_s0 n f = 0 → mo_faiR mo_s0 n f = 0 := by
  intro h
  rw [← lc_failing n f, lc_one] at h
  exact absurd h (by decide)
theorem ly_pass (n : Int32) : mo_pasC n = 0 → mo_pasR mo_s0 n = 0 + n := by
  intro h
  unfold mo_pasR
  rw [if_pos h]
  rfl
theorem ly_state (n : Int32) : mo_staC mo_s0 n = 0 → mo_staR mo_s0 n = 0 := by
  intro h
  unfold mo_staR
  rw [if_pos h]
  rfl
theorem ly_event (i w : Int32) : mo_evtC w = 0 → mo_evtR mo_s0 i w = -1 := by
  intro h
  unfold mo_evtR
  rw [if_pos h]
  by_cases a : i < 0
  · rw [if_pos a]
  · rw [if_neg a, if_pos]
    show (0 : Int32) ≤ i
    rw [Int32.le_iff_toInt_le]
    rw [Int32.lt_iff_toInt_lt] at a
    omega
set_option maxRecDepth 20000 in
set_option maxHeartbeats 4000000 in
theorem lq_first {M : hpM} {G : hpG} {h0 H : hpT} {Q : State → Prop} {lo : Nat → Option Value} {k b : Nat} {xs : Nat → Int32} (C : hp_F M G yL_law cL_law 7 2000 h0) (hH : lw_H G H k) (hX : va_X b 7 xs (hp_st M) (hp_H0 G)) (hb : b < hp_n0 G) (e0 : lo 0 = some (.ref b)) (e1 : lo 1 = some (.ref k)) (e2 : lo 2 = some (.ref (k + 12))) (e3 : lo 3 = some (.ref (k + 32))) (e4 : lo 4 = some (.int 0))
    (kk : ∀ (h9 : hpT) (lo9 : Nat → Option Value), lo9 0 = some (.ref b) → lo9 4 = some (.int 0) → hp_V M G 7 Q h9 1152 lo9 []) : hp_V M G 7 Q H 120 lo [] := by
  refine hp_aload_nR C dL_law_120 e1 ?_
  refine hp_aload_nR C dL_law_121 e0 ?_
  refine hp_iload C dL_law_122 e4 ?_
  refine hp_iconst (v := 1) C dL_law_124 (by decide) ?_
  refine hp_iadd C dL_law_125 ?_
  refine hp_sld C hX hb (by unfold vp_in; decide) rfl dL_law_126 ?_
  refine hp_aload_nR C dL_law_127 e0 ?_
  refine hp_iload C dL_law_128 e4 ?_
  refine hp_iconst (v := 2) C dL_law_130 (by decide) ?_
  refine hp_iadd C dL_law_131 ?_
  refine hp_sld C hX hb (by unfold vp_in; decide) rfl dL_law_132 ?_
  refine hp_aload_nR C dL_law_133 e0 ?_
  refine hp_iload C dL_law_134 e4 ?_
  refine hp_iconst (v := 3) C dL_law_136 (by decide) ?_
  refine hp_iadd C dL_law_137 ?_
  refine hp_sld C hX hb (by unfold vp_in; decide) rfl dL_law_138 ?_
  rw [hH.2.1]
  refine hp_callSX C mx_L_74 (lh_first (d := 1900) (q := k + 32) hH.1 ⟨by have := hH.2.2.2.2.2.2.2.1; omega, by have := hH.2.2.2.2.2.2.2.2; omega⟩ (by omega)) (by omega) dL_law_139 rfl rfl (by simp [Value.category]) (fun v_1 h_1 hp => ?_) (fun _ _ hf => hf.elim)
  obtain ⟨rfl, fr⟩ := hp
  obtain ⟨sM, eM, iq, lq⟩ := lw_HJ hH fr
  refine hp_istore C dL_law_142 (by decide) ?_
  refine hp_aload_nR C dL_law_144 e2 ?_
  refine hp_aload_nR C dL_law_145 e0 ?_
  refine hp_iload C dL_law_146 e4 ?_
  refine hp_iconst (v := 1) C dL_law_148 (by decide) ?_
  refine hp_iadd C dL_law_149 ?_
  refine hp_sld C hX hb (by unfold vp_in; decide) rfl dL_law_150 ?_
  refine hp_aload_nR C dL_law_151 e0 ?_
  refine hp_iload C dL_law_152 e4 ?_
  refine hp_iconst (v := 2) C dL_law_154 (by decide) ?_
  refine hp_iadd C dL_law_155 ?_
  refine hp_sld C hX hb (by unfold vp_in; decide) rfl dL_law_156 ?_
  refine hp_aload_nR C dL_law_157 e0 ?_
  refine hp_iload C dL_law_158 e4 ?_
  refine hp_iconst (v := 3) C dL_law_160 (by decide) ?_
  refine hp_iadd C dL_law_161 ?_
  refine hp_sld C hX hb (by unfold vp_in; decide) rfl dL_law_162 ?_
  rw [eM]
  refine hp_callV (ci := 6) C ml_L_79 im_X6_first se_X6_first rfl (by decide) (mo_first (d := 1900) sM (by omega)) (by omega) dL_law_163 sM.o rfl rfl (by simp [Value.category]) (fun v_1 h_2 hp => ?_) (fun _ _ hf => hf.elim)
  obtain ⟨rfl, rfl⟩ := hp
  have ec := lx_first (xs (0 + 1 : Int32).toNatClampNeg) (xs (0 + 2 : Int32).toNatClampNeg) (xs (0 + 3 : Int32).toNatClampNeg)
  generalize mo_fir mo_s0 (xs (0 + 1 : Int32).toNatClampNeg) (xs (0 + 2 : Int32).toNatClampNeg) (xs (0 + 3 : Int32).toNatClampNeg) = s_1 at ec ⊢
  refine hp_aload_nR C dL_law_166 e2 ?_
  refine hp_callV (ci := 6) C ml_L_80 im_X6_thrown se_X6_thrown rfl (by decide) (mo_thrown (d := 1900) sM) (by omega) dL_law_167 sM.o rfl rfl (by simp [Value.category]) (fun v_1 h_3 hp => ?_) (fun _ _ hf => hf.elim)
  obtain ⟨rfl, rfl⟩ := hp
  refine hp_iload C dL_law_170 rfl ?_
  refine hp_icmp_eq (tgt := 177) C dL_law_172 (by decide) (fun _ => ?_) (fun z_9 => absurd (ec.trans (lc_first _ _ _).symm) z_9)
  refine hp_goto (tgt := 1152) C dL_law_177 (by decide) ?_
  exact kk _ _ e0 e4
set_option maxRecDepth 20000 in
set_option maxHeartbeats 4000000 in
theorem lq_keeper {M : hpM} {G : hpG} {h0 H : hpT} {Q : State → Prop} {lo : Nat → Option Value} {k b : Nat} {xs : Nat → Int32} (C : hp_F M G yL_law cL_law 7 2000 h0) (hH : lw_H G H k) (hX : va_X b 7 xs (hp_st M) (hp_H0 G)) (hb : b < hp_n0 G) (e0 : lo 0 = some (.ref b)) (e1 : lo 1 = some (.ref k)) (e2 : lo 2 = some (.ref (k + 12))) (e3 : lo 3 = some (.ref (k + 32))) (e4 : lo 4 = some (.int 0))
    (kk : ∀ (h9 : hpT) (lo9 : Nat → Option Value), lo9 0 = some (.ref b) → lo9 4 = some (.int 0) → hp_V M G 7 Q h9 1152 lo9 []) : hp_V M G 7 Q H 180 lo [] := by
  refine hp_aload_nR C dL_law_180 e1 ?_
  refine hp_aload_nR C dL_law_181 e0 ?_
  refine hp_iload C dL_law_182 e4 ?_
  refine hp_iconst (v := 1) C dL_law_184 (by decide) ?_
  refine hp_iadd C dL_law_185 ?_
  refine hp_sld C hX hb (by unfold vp_in; decide) rfl dL_law_186 ?_
  refine hp_aload_nR C dL_law_187 e0 ?_
  refine hp_iload C dL_law_188 e4 ?_
  refine hp_iconst (v := 2) C dL_law_190 (by decide) ?_
  refine hp_iadd C dL_law_191 ?_
  refine hp_sld C hX hb (by unfold vp_in; decide) rfl dL_law_192 ?_
  refine hp_aload_nR C dL_law_193 e0 ?_
  refine hp_iload C dL_law_194 e4 ?_
  refine hp_iconst (v := 3) C dL_law_196 (by decide) ?_
  refine hp_iadd C dL_law_197 ?_
  refine hp_sld C hX hb (by unfold vp_in; decide) rfl dL_law_198 ?_
  refine hp_aload_nR C dL_law_199 e0 ?_
  refine hp_iload C dL_law_200 e4 ?_
  refine hp_iconst (v := 4) C dL_law_202 (by decide) ?_
  refine hp_iadd C dL_law_203 ?_
  refine hp_sld C hX hb (by unfold vp_in; decide) rfl dL_law_204 ?_
  refine hp_aload_nR C dL_law_205 e0 ?_
  refine hp_iload C dL_law_206 e4 ?_
  refine hp_iconst (v := 5) C dL_law_208 (by decide) ?_
  refine hp_iadd C dL_law_209 ?_
  refine hp_sld C hX hb (by unfold vp_in; decide) rfl dL_law_210 ?_
  refine hp_aload_nR C dL_law_211 e3 ?_
  rw [hH.2.1]
  refine hp_callSX C mx_L_84 (lh_keeper (d := 1900) (q := k + 32) hH.1 ⟨by have := hH.2.2.2.2.2.2.2.1; omega, by have := hH.2.2.2.2.2.2.2.2; omega⟩ (by omega) hH.2.2.2.2.1 hH.2.2.2.2.2.1 (by omega)) (by omega) dL_law_212 rfl rfl (by simp [Value.category]) (fun v_1 h_1 hp => ?_) (fun _ _ hf => hf.elim)
  obtain ⟨rfl, fr, hv⟩ := hp
  obtain ⟨sM, eM, iq, lq⟩ := lw_HJ hH fr
  refine hp_istore C dL_law_215 (by decide) ?_
  refine hp_aload_nR C dL_law_217 e2 ?_
  refine hp_aload_nR C dL_law_218 e0 ?_
  refine hp_iload C dL_law_219 e4 ?_
  refine hp_iconst (v := 1) C dL_law_221 (by decide) ?_
  refine hp_iadd C dL_law_222 ?_
  refine hp_sld C hX hb (by unfold vp_in; decide) rfl dL_law_223 ?_
  refine hp_aload_nR C dL_law_224 e0 ?_
  refine hp_iload C dL_law_225 e4 ?_
  refine hp_iconst (v := 2) C dL_law_227 (by decide) ?_
  refine hp_iadd C dL_law_228 ?_
  refine hp_sld C hX hb (by unfold vp_in; decide) rfl dL_law_229 ?_
  refine hp_aload_nR C dL_law_230 e0 ?_
  refine hp_iload C dL_law_231 e4 ?_
  refine hp_iconst (v := 3) C dL_law_233 (by decide) ?_
  refine hp_iadd C dL_law_234 ?_
  refine hp_sld C hX hb (by unfold vp_in; decide) rfl dL_law_235 ?_
  refine hp_aload_nR C dL_law_236 e0 ?_
  refine hp_iload C dL_law_237 e4 ?_
  refine hp_iconst (v := 4) C dL_law_239 (by decide) ?_
  refine hp_iadd C dL_law_240 ?_
  refine hp_sld C hX hb (by unfold vp_in; decide) rfl dL_law_241 ?_
  refine hp_aload_nR C dL_law_242 e0 ?_
  refine hp_iload C dL_law_243 e4 ?_
  refine hp_iconst (v := 5) C dL_law_245 (by decide) ?_
  refine hp_iadd C dL_law_246 ?_
  refine hp_sld C hX hb (by unfold vp_in; decide) rfl dL_law_247 ?_
  rw [eM]
  refine hp_callV (ci := 6) C ml_L_87 im_X6_keeper se_X6_keeper rfl (by decide) (mf_keeper (d := 1900) sM (by omega)) (by omega) dL_law_248 sM.o rfl rfl (by simp [Value.category]) (fun v_1 h_2 hp => ?_) (fun _ _ hf => hf.elim)
  obtain ⟨s_1, x_1, rfl, rfl, ec, er⟩ := hp
  refine hp_istore C dL_law_251 (by decide) ?_
  refine hp_aload_nR C dL_law_253 e2 ?_
  refine hp_callV (ci := 6) C ml_L_80 im_X6_thrown se_X6_thrown rfl (by decide) (mo_thrown (d := 1900) sM) (by omega) dL_law_254 sM.o rfl rfl (by simp [Value.category]) (fun v_1 h_3 hp => ?_) (fun _ _ hf => hf.elim)
  obtain ⟨rfl, rfl⟩ := hp
  refine hp_iload C dL_law_257 rfl ?_
  refine hp_icmp_eq (tgt := 264) C dL_law_259 (by decide) (fun _ => ?_) (fun z_9 => absurd (ec.trans (lc_keeper _ _ _ _ _).symm) z_9)
  refine hp_iload C dL_law_264 rfl ?_
  refine hp_if_ne (tgt := 281) C dL_law_266 (by decide) (fun _ => ?_) (fun c_0 => ?_)
  · refine hp_goto (tgt := 1152) C dL_law_281 (by decide) ?_
    exact kk _ _ e0 e4
  · have c_1 := c_0
    have ex := er ((lc_keeper _ _ _ _ _).symm.trans c_1)
    refine hp_aload_nR C dL_law_269 e3 ?_
    refine hp_iconst (v := 0) C dL_law_270 (by decide) ?_
    have h8 : hp_ar (mo_w h_1 (k + 12) s_1) (k + 32) 0 = hp_ar h_1 (k + 32) 0 := by rw [mo_w_ar, if_neg (by omega)]
    refine hp_lald C dL_law_271 (show hp_is G (mo_w h_1 (k + 12) s_1) (k + 32) 12 from iq) (by show vp_in 0 (hp_ln h_1 (k + 32)); rw [lq]; unfold vp_in; decide) (h8.trans (hv c_1)) ?_
    refine hp_iload C dL_law_272 rfl ?_
    rw [ex]
    refine hp_i2l C dL_law_274 ?_
    refine hp_lcmp C dL_law_275 ?_
    refine hp_if_eq (tgt := 281) C dL_law_276 (by decide) (fun _ => ?_) (fun z_9 => absurd (lg_self _) z_9)
    refine hp_goto (tgt := 1152) C dL_law_281 (by decide) ?_
    exact kk _ _ e0 e4
set_option maxRecDepth 20000 in
set_option maxHeartbeats 4000000 in
theorem lq_worker {M : hpM} {G : hpG} {h0 H : hpT} {Q : State → Prop} {lo : Nat → Option Value} {k b : Nat} {xs : Nat → Int32} (C : hp_F M G yL_law cL_law 7 2000 h0) (hH : lw_H G H k) (hX : va_X b 7 xs (hp_st M) (hp_H0 G)) (hb : b < hp_n0 G) (e0 : lo 0 = some (.ref b)) (e1 : lo 1 = some (.ref k)) (e2 : lo 2 = some (.ref (k + 12))) (e3 : lo 3 = some (.ref (k + 32))) (e4 : lo 4 = some (.int 0))
    (kk : ∀ (h9 : hpT) (lo9 : Nat → Option Value), lo9 0 = some (.ref b) → lo9 4 = some (.int 0) → hp_V M G 7 Q h9 1152 lo9 []) : hp_V M G 7 Q H 284 lo [] := by
  refine hp_aload_nR C dL_law_284 e1 ?_
  refine hp_aload_nR C dL_law_285 e0 ?_
  refine hp_iload C dL_law_286 e4 ?_
  refine hp_iconst (v := 1) C dL_law_288 (by decide) ?_
  refine hp_iadd C dL_law_289 ?_
  refine hp_sld C hX hb (by unfold vp_in; decide) rfl dL_law_290 ?_
  refine hp_aload_nR C dL_law_291 e0 ?_
  refine hp_iload C dL_law_292 e4 ?_
  refine hp_iconst (v := 2) C dL_law_294 (by decide) ?_
  refine hp_iadd C dL_law_295 ?_
  refine hp_sld C hX hb (by unfold vp_in; decide) rfl dL_law_296 ?_
  refine hp_aload_nR C dL_law_297 e0 ?_
  refine hp_iload C dL_law_298 e4 ?_
  refine hp_iconst (v := 3) C dL_law_300 (by decide) ?_
  refine hp_iadd C dL_law_301 ?_
  refine hp_sld C hX hb (by unfold vp_in; decide) rfl dL_law_302 ?_
  refine hp_aload_nR C dL_law_303 e0 ?_
  refine hp_iload C dL_law_304 e4 ?_
  refine hp_iconst (v := 4) C dL_law_306 (by decide) ?_
  refine hp_iadd C dL_law_307 ?_
  refine hp_sld C hX hb (by unfold vp_in; decide) rfl dL_law_308 ?_
  refine hp_aload_nR C dL_law_309 e0 ?_
  refine hp_iload C dL_law_310 e4 ?_
  refine hp_iconst (v := 5) C dL_law_312 (by decide) ?_
  refine hp_iadd C dL_law_313 ?_
  refine hp_sld C hX hb (by unfold vp_in; decide) rfl dL_law_314 ?_
  refine hp_aload_nR C dL_law_315 e0 ?_
  refine hp_iload C dL_law_316 e4 ?_
  refine hp_bipush (v := 6) C dL_law_318 (by decide) ?_
  refine hp_iadd C dL_law_320 ?_
  refine hp_sld C hX hb (by unfold vp_in; decide) rfl dL_law_321 ?_
  refine hp_aload_nR C dL_law_322 e3 ?_
  rw [hH.2.1]
  refine hp_callSX C mx_L_88 (lh_worker (d := 1900) (q := k + 32) hH.1 ⟨by have := hH.2.2.2.2.2.2.2.1; omega, by have := hH.2.2.2.2.2.2.2.2; omega⟩ (by omega) hH.2.2.2.2.1 hH.2.2.2.2.2.1 (by omega)) (by omega) dL_law_323 rfl rfl (by simp [Value.category]) (fun v_1 h_1 hp => ?_) (fun _ _ hf => hf.elim)
  obtain ⟨rfl, fr, hv⟩ := hp
  obtain ⟨sM, eM, iq, lq⟩ := lw_HJ hH fr
  refine hp_istore C dL_law_326 (by decide) ?_
  refine hp_aload_nR C dL_law_328 e2 ?_
  refine hp_aload_nR C dL_law_329 e0 ?_
  refine hp_iload C dL_law_330 e4 ?_
  refine hp_iconst (v := 1) C dL_law_332 (by decide) ?_
  refine hp_iadd C dL_law_333 ?_
  refine hp_sld C hX hb (by unfold vp_in; decide) rfl dL_law_334 ?_
  refine hp_aload_nR C dL_law_335 e0 ?_
  refine hp_iload C dL_law_336 e4 ?_
  refine hp_iconst (v := 2) C dL_law_338 (by decide) ?_
  refine hp_iadd C dL_law_339 ?_
  refine hp_sld C hX hb (by unfold vp_in; decide) rfl dL_law_340 ?_
  refine hp_aload_nR C dL_law_341 e0 ?_
  refine hp_iload C dL_law_342 e4 ?_
  refine hp_iconst (v := 3) C dL_law_344 (by decide) ?_
  refine hp_iadd C dL_law_345 ?_
  refine hp_sld C hX hb (by unfold vp_in; decide) rfl dL_law_346 ?_
  refine hp_aload_nR C dL_law_347 e0 ?_
  refine hp_iload C dL_law_348 e4 ?_
  refine hp_iconst (v := 4) C dL_law_350 (by decide) ?_
  refine hp_iadd C dL_law_351 ?_
  refine hp_sld C hX hb (by unfold vp_in; decide) rfl dL_law_352 ?_
  refine hp_aload_nR C dL_law_353 e0 ?_
  refine hp_iload C dL_law_354 e4 ?_
  refine hp_iconst (v := 5) C dL_law_356 (by decide) ?_
  refine hp_iadd C dL_law_357 ?_
  refine hp_sld C hX hb (by unfold vp_in; decide) rfl dL_law_358 ?_
  refine hp_aload_nR C dL_law_359 e0 ?_
  refine hp_iload C dL_law_360 e4 ?_
  refine hp_bipush (v := 6) C dL_law_362 (by decide) ?_
  refine hp_iadd C dL_law_364 ?_
  refine hp_sld C hX hb (by unfold vp_in; decide) rfl dL_law_365 ?_
  rw [eM]
  refine hp_callV (ci := 6) C ml_L_91 im_X6_worker se_X6_worker rfl (by decide) (mf_worker (d := 1900) sM (by omega)) (by omega) dL_law_366 sM.o rfl rfl (by simp [Value.category]) (fun v_1 h_2 hp => ?_) (fun _ _ hf => hf.elim)
  obtain ⟨s_1, x_1, rfl, rfl, ec, er⟩ := hp
  refine hp_istore C dL_law_369 (by decide) ?_
  refine hp_aload_nR C dL_law_371 e2 ?_
  refine hp_callV (ci := 6) C ml_L_80 im_X6_thrown se_X6_thrown rfl (by decide) (mo_thrown (d := 1900) sM) (by omega) dL_law_372 sM.o rfl rfl (by simp [Value.category]) (fun v_1 h_3 hp => ?_) (fun _ _ hf => hf.elim)
  obtain ⟨rfl, rfl⟩ := hp
  refine hp_iload C dL_law_375 rfl ?_
  refine hp_icmp_eq (tgt := 382) C dL_law_377 (by decide) (fun _ => ?_) (fun z_9 => absurd (ec.trans (lc_worker _ _ _ _ _ _).symm) z_9)
  refine hp_iload C dL_law_382 rfl ?_
  refine hp_if_ne (tgt := 399) C dL_law_384 (by decide) (fun _ => ?_) (fun c_0 => ?_)
  · refine hp_goto (tgt := 1152) C dL_law_399 (by decide) ?_
    exact kk _ _ e0 e4
  · have c_1 := c_0
    have ex := er ((lc_worker _ _ _ _ _ _).symm.trans c_1)
    refine hp_aload_nR C dL_law_387 e3 ?_
    refine hp_iconst (v := 0) C dL_law_388 (by decide) ?_
    have h8 : hp_ar (mo_w h_1 (k + 12) s_1) (k + 32) 0 = hp_ar h_1 (k + 32) 0 := by rw [mo_w_ar, if_neg (by omega)]
    refine hp_lald C dL_law_389 (show hp_is G (mo_w h_1 (k + 12) s_1) (k + 32) 12 from iq) (by show vp_in 0 (hp_ln h_1 (k + 32)); rw [lq]; unfold vp_in; decide) (h8.trans (hv c_1)) ?_
    refine hp_iload C dL_law_390 rfl ?_
    rw [ex]
    refine hp_i2l C dL_law_392 ?_
    refine hp_lcmp C dL_law_393 ?_
    refine hp_if_eq (tgt := 399) C dL_law_394 (by decide) (fun _ => ?_) (fun z_9 => absurd (lg_self _) z_9)
    refine hp_goto (tgt := 1152) C dL_law_399 (by decide) ?_
    exact kk _ _ e0 e4
set_option maxRecDepth 20000 in
set_option maxHeartbeats 4000000 in
theorem lq_failing {M : hpM} {G : hpG} {h0 H : hpT} {Q : State → Prop} {lo : Nat → Option Value} {k b : Nat} {xs : Nat → Int32} (C : hp_F M G yL_law cL_law 7 2000 h0) (hH : lw_H G H k) (hX : va_X b 7 xs (hp_st M) (hp_H0 G)) (hb : b < hp_n0 G) (e0 : lo 0 = some (.ref b)) (e1 : lo 1 = some (.ref k)) (e2 : lo 2 = some (.ref (k + 12))) (e3 : lo 3 = some (.ref (k + 32))) (e4 : lo 4 = some (.int 0))
    (kk : ∀ (h9 : hpT) (lo9 : Nat → Option Value), lo9 0 = some (.ref b) → lo9 4 = some (.int 0) → hp_V M G 7 Q h9 1152 lo9 []) : hp_V M G 7 Q H 402 lo [] := by
  refine hp_aload_nR C dL_law_402 e1 ?_
  refine hp_aload_nR C dL_law_403 e0 ?_
  refine hp_iload C dL_law_404 e4 ?_
  refine hp_iconst (v := 1) C dL_law_406 (by decide) ?_
  refine hp_iadd C dL_law_407 ?_
  refine hp_sld C hX hb (by unfold vp_in; decide) rfl dL_law_408 ?_
  refine hp_aload_nR C dL_law_409 e0 ?_
  refine hp_iload C dL_law_410 e4 ?_
  refine hp_iconst (v := 2) C dL_law_412 (by decide) ?_
  refine hp_iadd C dL_law_413 ?_
  refine hp_sld C hX hb (by unfold vp_in; decide) rfl dL_law_414 ?_
  refine hp_aload_nR C dL_law_415 e3 ?_
  rw [hH.2.1]
  refine hp_callSX C mx_L_92 (lh_failing (d := 1900) (q := k + 32) hH.1 ⟨by have := hH.2.2.2.2.2.2.2.1; omega, by have := hH.2.2.2.2.2.2.2.2; omega⟩ (by omega) hH.2.2.2.2.1 hH.2.2.2.2.2.1 (by omega)) (by omega) dL_law_416 rfl rfl (by simp [Value.category]) (fun v_1 h_1 hp => ?_) (fun _ _ hf => hf.elim)
  obtain ⟨rfl, fr, hv⟩ := hp
  obtain ⟨sM, eM, iq, lq⟩ := lw_HJ hH fr
  refine hp_istore C dL_law_419 (by decide) ?_
  refine hp_aload_nR C dL_law_421 e2 ?_
  refine hp_aload_nR C dL_law_422 e0 ?_
  refine hp_iload C dL_law_423 e4 ?_
  refine hp_iconst (v := 1) C dL_law_425 (by decide) ?_
  refine hp_iadd C dL_law_426 ?_
  refine hp_sld C hX hb (by unfold vp_in; decide) rfl dL_law_427 ?_
  refine hp_aload_nR C dL_law_428 e0 ?_
  refine hp_iload C dL_law_429 e4 ?_
  refine hp_iconst (v := 2) C dL_law_431 (by decide) ?_
  refine hp_iadd C dL_law_432 ?_
  refine hp_sld C hX hb (by unfold vp_in; decide) rfl dL_law_433 ?_
  rw [eM]
  refine hp_callV (ci := 6) C ml_L_95 im_X6_failing se_X6_failing rfl (by decide) (mo_failing (d := 1900) sM mf_ok (by omega)) (by omega) dL_law_434 sM.o rfl rfl (by simp [Value.category]) (fun v_1 h_2 hp => ?_) (fun _ _ hf => hf.elim)
  obtain ⟨rfl, rfl⟩ := hp
  have ec := lx_failing (xs (0 + 1 : Int32).toNatClampNeg) (xs (0 + 2 : Int32).toNatClampNeg)
  have er := ly_failing (xs (0 + 1 : Int32).toNatClampNeg) (xs (0 + 2 : Int32).toNatClampNeg)
  generalize mo_fai mo_s0 (xs (0 + 1 : Int32).toNatClampNeg) (xs (0 + 2 : Int32).toNatClampNeg) = s_1 at ec ⊢
  refine hp_istore C dL_law_437 (by decide) ?_
  refine hp_aload_nR C dL_law_439 e2 ?_
  refine hp_callV (ci := 6) C ml_L_80 im_X6_thrown se_X6_thrown rfl (by decide) (mo_thrown (d := 1900) sM) (by omega) dL_law_440 sM.o rfl rfl (by simp [Value.category]) (fun v_1 h_3 hp => ?_) (fun _ _ hf => hf.elim)
  obtain ⟨rfl, rfl⟩ := hp
  refine hp_iload C dL_law_443 rfl ?_
  refine hp_icmp_eq (tgt := 450) C dL_law_445 (by decide) (fun _ => ?_) (fun z_9 => absurd (ec.trans (lc_failing _ _).symm) z_9)
  refine hp_iload C dL_law_450 rfl ?_
  refine hp_if_ne (tgt := 467) C dL_law_452 (by decide) (fun _ => ?_) (fun c_0 => ?_)
  · refine hp_goto (tgt := 1152) C dL_law_467 (by decide) ?_
    exact kk _ _ e0 e4
  · exact absurd ((lc_one _).symm.trans c_0) (by decide)
set_option maxRecDepth 20000 in
set_option maxHeartbeats 4000000 in
theorem lq_begin {M : hpM} {G : hpG} {h0 H : hpT} {Q : State → Prop} {lo : Nat → Option Value} {k b : Nat} {xs : Nat → Int32} (C : hp_F M G yL_law cL_law 7 2000 h0) (hH : lw_H G H k) (hX : va_X b 7 xs (hp_st M) (hp_H0 G)) (hb : b < hp_n0 G) (e0 : lo 0 = some (.ref b)) (e1 : lo 1 = some (.ref k)) (e2 : lo 2 = some (.ref (k + 12))) (e3 : lo 3 = some (.ref (k + 32))) (e4 : lo 4 = some (.int 0))
    (kk : ∀ (h9 : hpT) (lo9 : Nat → Option Value), lo9 0 = some (.ref b) → lo9 4 = some (.int 0) → hp_V M G 7 Q h9 1152 lo9 []) : hp_V M G 7 Q H 470 lo [] := by
  refine hp_aload_nR C dL_law_470 e1 ?_
  refine hp_aload_nR C dL_law_471 e3 ?_
  rw [hH.2.1]
  refine hp_callSX C mx_L_96 (lh_begin (d := 1900) (q := k + 32) hH.1 ⟨by have := hH.2.2.2.2.2.2.2.1; omega, by have := hH.2.2.2.2.2.2.2.2; omega⟩ (by omega) hH.2.2.2.2.1 hH.2.2.2.2.2.1 (by omega)) (by omega) dL_law_472 rfl rfl (by simp [Value.category]) (fun v_1 h_1 hp => ?_) (fun _ _ hf => hf.elim)
  obtain ⟨rfl, fr, hv⟩ := hp
  obtain ⟨sM, eM, iq, lq⟩ := lw_HJ hH fr
  refine hp_istore C dL_law_475 (by decide) ?_
  refine hp_aload_nR C dL_law_477 e2 ?_
  rw [eM]
  refine hp_callV (ci := 6) C ml_L_99 im_X6_begin se_X6_begin rfl (by decide) (mf_begin (d := 1900) sM (by omega)) (by omega) dL_law_478 sM.o rfl rfl (by simp [Value.category]) (fun v_1 h_2 hp => ?_) (fun _ _ hf => hf.elim)
  obtain ⟨s_1, x_1, rfl, rfl, ec, er⟩ := hp
  refine hp_istore C dL_law_481 (by decide) ?_
  refine hp_aload_nR C dL_law_483 e2 ?_
  refine hp_callV (ci := 6) C ml_L_80 im_X6_thrown se_X6_thrown rfl (by decide) (mo_thrown (d := 1900) sM) (by omega) dL_law_484 sM.o rfl rfl (by simp [Value.category]) (fun v_1 h_3 hp => ?_) (fun _ _ hf => hf.elim)
  obtain ⟨rfl, rfl⟩ := hp
  refine hp_iload C dL_law_487 rfl ?_
  refine hp_icmp_eq (tgt := 494) C dL_law_489 (by decide) (fun _ => ?_) (fun z_9 => absurd (ec.trans (rfl).symm) z_9)
  refine hp_iload C dL_law_494 rfl ?_
  refine hp_if_ne (tgt := 518) C dL_law_496 (by decide) (fun _ => ?_) (fun c_0 => ?_)
  · refine hp_goto (tgt := 1152) C dL_law_518 (by decide) ?_
    exact kk _ _ e0 e4
  · have c_1 : (0 : Int32) = 0 := rfl
    have ex := er rfl
    refine hp_aload_nR C dL_law_499 e3 ?_
    refine hp_iconst (v := 0) C dL_law_500 (by decide) ?_
    have h8 : hp_ar (mo_w h_1 (k + 12) s_1) (k + 32) 0 = hp_ar h_1 (k + 32) 0 := by rw [mo_w_ar, if_neg (by omega)]
    refine hp_lald C dL_law_501 (show hp_is G (mo_w h_1 (k + 12) s_1) (k + 32) 12 from iq) (by show vp_in 0 (hp_ln h_1 (k + 32)); rw [lq]; unfold vp_in; decide) (h8.trans (hv c_1)) ?_
    refine hp_iload C dL_law_502 rfl ?_
    rw [ex]
    refine hp_if_eq (tgt := 511) C dL_law_504 (by decide) (fun z_9 => absurd z_9 (by decide)) (fun _ => ?_)
    refine hp_lconst1 C dL_law_507 ?_
    refine hp_goto (tgt := 512) C dL_law_508 (by decide) ?_
    refine hp_lcmp C dL_law_512 ?_
    refine hp_if_eq (tgt := 518) C dL_law_513 (by decide) (fun _ => ?_) (fun z_9 => absurd (lg_self _) z_9)
    refine hp_goto (tgt := 1152) C dL_law_518 (by decide) ?_
    exact kk _ _ e0 e4
set_option maxRecDepth 20000 in
set_option maxHeartbeats 4000000 in
theorem lq_ends {M : hpM} {G : hpG} {h0 H : hpT} {Q : State → Prop} {lo : Nat → Option Value} {k b : Nat} {xs : Nat → Int32} (C : hp_F M G yL_law cL_law 7 2000 h0) (hH : lw_H G H k) (hX : va_X b 7 xs (hp_st M) (hp_H0 G)) (hb : b < hp_n0 G) (e0 : lo 0 = some (.ref b)) (e1 : lo 1 = some (.ref k)) (e2 : lo 2 = some (.ref (k + 12))) (e3 : lo 3 = some (.ref (k + 32))) (e4 : lo 4 = some (.int 0))
    (kk : ∀ (h9 : hpT) (lo9 : Nat → Option Value), lo9 0 = some (.ref b) → lo9 4 = some (.int 0) → hp_V M G 7 Q h9 1152 lo9 []) : hp_V M G 7 Q H 521 lo [] := by
  refine hp_aload_nR C dL_law_521 e1 ?_
  refine hp_aload_nR C dL_law_522 e0 ?_
  refine hp_iload C dL_law_523 e4 ?_
  refine hp_iconst (v := 1) C dL_law_525 (by decide) ?_
  refine hp_iadd C dL_law_526 ?_
  refine hp_sld C hX hb (by unfold vp_in; decide) rfl dL_law_527 ?_
  refine hp_aload_nR C dL_law_528 e0 ?_
  refine hp_iload C dL_law_529 e4 ?_
  refine hp_iconst (v := 2) C dL_law_531 (by decide) ?_
  refine hp_iadd C dL_law_532 ?_
  refine hp_sld C hX hb (by unfold vp_in; decide) rfl dL_law_533 ?_
  rw [hH.2.1]
  refine hp_callSX C mx_L_100 (lh_ends (d := 1900) (q := k + 32) hH.1 ⟨by have := hH.2.2.2.2.2.2.2.1; omega, by have := hH.2.2.2.2.2.2.2.2; omega⟩ (by omega)) (by omega) dL_law_534 rfl rfl (by simp [Value.category]) (fun v_1 h_1 hp => ?_) (fun _ _ hf => hf.elim)
  obtain ⟨rfl, fr⟩ := hp
  obtain ⟨sM, eM, iq, lq⟩ := lw_HJ hH fr
  refine hp_istore C dL_law_537 (by decide) ?_
  refine hp_aload_nR C dL_law_539 e2 ?_
  refine hp_aload_nR C dL_law_540 e0 ?_
  refine hp_iload C dL_law_541 e4 ?_
  refine hp_iconst (v := 1) C dL_law_543 (by decide) ?_
  refine hp_iadd C dL_law_544 ?_
  refine hp_sld C hX hb (by unfold vp_in; decide) rfl dL_law_545 ?_
  refine hp_aload_nR C dL_law_546 e0 ?_
  refine hp_iload C dL_law_547 e4 ?_
  refine hp_iconst (v := 2) C dL_law_549 (by decide) ?_
  refine hp_iadd C dL_law_550 ?_
  refine hp_sld C hX hb (by unfold vp_in; decide) rfl dL_law_551 ?_
  rw [eM]
  refine hp_callV (ci := 6) C ml_L_103 im_X6_ends se_X6_ends rfl (by decide) (mf_ends (d := 1900) sM (by omega)) (by omega) dL_law_552 sM.o rfl rfl (by simp [Value.category]) (fun v_1 h_2 hp => ?_) (fun _ _ hf => hf.elim)
  obtain ⟨rfl, s_1, rfl, ec⟩ := hp
  refine hp_aload_nR C dL_law_555 e2 ?_
  refine hp_callV (ci := 6) C ml_L_80 im_X6_thrown se_X6_thrown rfl (by decide) (mo_thrown (d := 1900) sM) (by omega) dL_law_556 sM.o rfl rfl (by simp [Value.category]) (fun v_1 h_3 hp => ?_) (fun _ _ hf => hf.elim)
  obtain ⟨rfl, rfl⟩ := hp
  refine hp_iload C dL_law_559 rfl ?_
  refine hp_icmp_eq (tgt := 566) C dL_law_561 (by decide) (fun _ => ?_) (fun z_9 => absurd (ec.trans (lc_one _).symm) z_9)
  refine hp_goto (tgt := 1152) C dL_law_566 (by decide) ?_
  exact kk _ _ e0 e4
set_option maxRecDepth 20000 in
set_option maxHeartbeats 4000000 in
theorem lq_kill {M : hpM} {G : hpG} {h0 H : hpT} {Q : State → Prop} {lo : Nat → Option Value} {k b : Nat} {xs : Nat → Int32} (C : hp_F M G yL_law cL_law 7 2000 h0) (hH : lw_H G H k) (hX : va_X b 7 xs (hp_st M) (hp_H0 G)) (hb : b < hp_n0 G) (e0 : lo 0 = some (.ref b)) (e1 : lo 1 = some (.ref k)) (e2 : lo 2 = some (.ref (k + 12))) (e3 : lo 3 = some (.ref (k + 32))) (e4 : lo 4 = some (.int 0))
    (kk : ∀ (h9 : hpT) (lo9 : Nat → Option Value), lo9 0 = some (.ref b) → lo9 4 = some (.int 0) → hp_V M G 7 Q h9 1152 lo9 []) : hp_V M G 7 Q H 569 lo [] := by
  refine hp_aload_nR C dL_law_569 e1 ?_
  refine hp_aload_nR C dL_law_570 e0 ?_
  refine hp_iload C dL_law_571 e4 ?_
  refine hp_iconst (v := 1) C dL_law_573 (by decide) ?_
  refine hp_iadd C dL_law_574 ?_
  refine hp_sld C hX hb (by unfold vp_in; decide) rfl dL_law_575 ?_
  refine hp_aload_nR C dL_law_576 e3 ?_
  rw [hH.2.1]
  refine hp_callSX C mx_L_104 (lh_kill (d := 1900) (q := k + 32) hH.1 ⟨by have := hH.2.2.2.2.2.2.2.1; omega, by have := hH.2.2.2.2.2.2.2.2; omega⟩ (by omega) hH.2.2.2.2.1 hH.2.2.2.2.2.1 (by omega)) (by omega) dL_law_577 rfl rfl (by simp [Value.category]) (fun v_1 h_1 hp => ?_) (fun _ _ hf => hf.elim)
  obtain ⟨rfl, fr, hv⟩ := hp
  obtain ⟨sM, eM, iq, lq⟩ := lw_HJ hH fr
  refine hp_istore C dL_law_580 (by decide) ?_
  refine hp_aload_nR C dL_law_582 e2 ?_
  refine hp_aload_nR C dL_law_583 e0 ?_
  refine hp_iload C dL_law_584 e4 ?_
  refine hp_iconst (v := 1) C dL_law_586 (by decide) ?_
  refine hp_iadd C dL_law_587 ?_
  refine hp_sld C hX hb (by unfold vp_in; decide) rfl dL_law_588 ?_
  rw [eM]
  refine hp_callV (ci := 6) C ml_L_107 im_X6_kill se_X6_kill rfl (by decide) (mf_kill (d := 1900) sM (by omega)) (by omega) dL_law_589 sM.o rfl rfl (by simp [Value.category]) (fun v_1 h_2 hp => ?_) (fun _ _ hf => hf.elim)
  obtain ⟨s_1, x_1, rfl, rfl, ec, er⟩ := hp
  refine hp_istore C dL_law_592 (by decide) ?_
  refine hp_aload_nR C dL_law_594 e2 ?_
  refine hp_callV (ci := 6) C ml_L_80 im_X6_thrown se_X6_thrown rfl (by decide) (mo_thrown (d := 1900) sM) (by omega) dL_law_595 sM.o rfl rfl (by simp [Value.category]) (fun v_1 h_3 hp => ?_) (fun _ _ hf => hf.elim)
  obtain ⟨rfl, rfl⟩ := hp
  refine hp_iload C dL_law_598 rfl ?_
  refine hp_icmp_eq (tgt := 605) C dL_law_600 (by decide) (fun _ => ?_) (fun z_9 => absurd (ec.trans (lc_kill _).symm) z_9)
  refine hp_iload C dL_law_605 rfl ?_
  refine hp_if_ne (tgt := 622) C dL_law_607 (by decide) (fun _ => ?_) (fun c_0 => ?_)
  · refine hp_goto (tgt := 1152) C dL_law_622 (by decide) ?_
    exact kk _ _ e0 e4
  · have c_1 := (lc_kill _).symm.trans c_0
    exact absurd c_1 (by split <;> decide)
set_option maxRecDepth 20000 in
set_option maxHeartbeats 4000000 in
theorem lq_stop {M : hpM} {G : hpG} {h0 H : hpT} {Q : State → Prop} {lo : Nat → Option Value} {k b : Nat} {xs : Nat → Int32} (C : hp_F M G yL_law cL_law 7 2000 h0) (hH : lw_H G H k) (hX : va_X b 7 xs (hp_st M) (hp_H0 G)) (hb : b < hp_n0 G) (e0 : lo 0 = some (.ref b)) (e1 : lo 1 = some (.ref k)) (e2 : lo 2 = some (.ref (k + 12))) (e3 : lo 3 = some (.ref (k + 32))) (e4 : lo 4 = some (.int 0))
    (kk : ∀ (h9 : hpT) (lo9 : Nat → Option Value), lo9 0 = some (.ref b) → lo9 4 = some (.int 0) → hp_V M G 7 Q h9 1152 lo9 []) : hp_V M G 7 Q H 625 lo [] := by
  refine hp_aload_nR C dL_law_625 e1 ?_
  refine hp_aload_nR C dL_law_626 e0 ?_
  refine hp_iload C dL_law_627 e4 ?_
  refine hp_iconst (v := 1) C dL_law_629 (by decide) ?_
  refine hp_iadd C dL_law_630 ?_
  refine hp_sld C hX hb (by unfold vp_in; decide) rfl dL_law_631 ?_
  rw [hH.2.1]
  refine hp_callSX C mx_L_108 (lh_stop (d := 1900) (q := k + 32) hH.1 ⟨by have := hH.2.2.2.2.2.2.2.1; omega, by have := hH.2.2.2.2.2.2.2.2; omega⟩ (by omega)) (by omega) dL_law_632 rfl rfl (by simp [Value.category]) (fun v_1 h_1 hp => ?_) (fun _ _ hf => hf.elim)
  obtain ⟨rfl, fr⟩ := hp
  obtain ⟨sM, eM, iq, lq⟩ := lw_HJ hH fr
  refine hp_istore C dL_law_635 (by decide) ?_
  refine hp_aload_nR C dL_law_637 e2 ?_
  refine hp_aload_nR C dL_law_638 e0 ?_
  refine hp_iload C dL_law_639 e4 ?_
  refine hp_iconst (v := 1) C dL_law_641 (by decide) ?_
  refine hp_iadd C dL_law_642 ?_
  refine hp_sld C hX hb (by unfold vp_in; decide) rfl dL_law_643 ?_
  rw [eM]
  refine hp_callV (ci := 6) C ml_L_111 im_X6_stop se_X6_stop rfl (by decide) (mf_stop (d := 1900) sM (by omega)) (by omega) dL_law_644 sM.o rfl rfl (by simp [Value.category]) (fun v_1 h_2 hp => ?_) (fun _ _ hf => hf.elim)
  obtain ⟨rfl, s_1, rfl, ec⟩ := hp
  refine hp_aload_nR C dL_law_647 e2 ?_
  refine hp_callV (ci := 6) C ml_L_80 im_X6_thrown se_X6_thrown rfl (by decide) (mo_thrown (d := 1900) sM) (by omega) dL_law_648 sM.o rfl rfl (by simp [Value.category]) (fun v_1 h_3 hp => ?_) (fun _ _ hf => hf.elim)
  obtain ⟨rfl, rfl⟩ := hp
  refine hp_iload C dL_law_651 rfl ?_
  refine hp_icmp_eq (tgt := 658) C dL_law_653 (by decide) (fun _ => ?_) (fun z_9 => absurd (ec.trans (lc_one _).symm) z_9)
  refine hp_goto (tgt := 1152) C dL_law_658 (by decide) ?_
  exact kk _ _ e0 e4
set_option maxRecDepth 20000 in
set_option maxHeartbeats 4000000 in
theorem lq_again {M : hpM} {G : hpG} {h0 H : hpT} {Q : State → Prop} {lo : Nat → Option Value} {k b : Nat} {xs : Nat → Int32} (C : hp_F M G yL_law cL_law 7 2000 h0) (hH : lw_H G H k) (hX : va_X b 7 xs (hp_st M) (hp_H0 G)) (hb : b < hp_n0 G) (e0 : lo 0 = some (.ref b)) (e1 : lo 1 = some (.ref k)) (e2 : lo 2 = some (.ref (k + 12))) (e3 : lo 3 = some (.ref (k + 32))) (e4 : lo 4 = some (.int 0))
    (kk : ∀ (h9 : hpT) (lo9 : Nat → Option Value), lo9 0 = some (.ref b) → lo9 4 = some (.int 0) → hp_V M G 7 Q h9 1152 lo9 []) : hp_V M G 7 Q H 661 lo [] := by
  refine hp_aload_nR C dL_law_661 e1 ?_
  refine hp_aload_nR C dL_law_662 e0 ?_
  refine hp_iload C dL_law_663 e4 ?_
  refine hp_iconst (v := 1) C dL_law_665 (by decide) ?_
  refine hp_iadd C dL_law_666 ?_
  refine hp_sld C hX hb (by unfold vp_in; decide) rfl dL_law_667 ?_
  refine hp_aload_nR C dL_law_668 e3 ?_
  rw [hH.2.1]
  refine hp_callSX C mx_L_112 (lh_again (d := 1900) (q := k + 32) hH.1 ⟨by have := hH.2.2.2.2.2.2.2.1; omega, by have := hH.2.2.2.2.2.2.2.2; omega⟩ (by omega) hH.2.2.2.2.1 hH.2.2.2.2.2.1 (by omega)) (by omega) dL_law_669 rfl rfl (by simp [Value.category]) (fun v_1 h_1 hp => ?_) (fun _ _ hf => hf.elim)
  obtain ⟨rfl, fr, hv⟩ := hp
  obtain ⟨sM, eM, iq, lq⟩ := lw_HJ hH fr
  refine hp_istore C dL_law_672 (by decide) ?_
  refine hp_aload_nR C dL_law_674 e2 ?_
  refine hp_aload_nR C dL_law_675 e0 ?_
  refine hp_iload C dL_law_676 e4 ?_
  refine hp_iconst (v := 1) C dL_law_678 (by decide) ?_
  refine hp_iadd C dL_law_679 ?_
  refine hp_sld C hX hb (by unfold vp_in; decide) rfl dL_law_680 ?_
  rw [eM]
  refine hp_callV (ci := 6) C ml_L_114 im_X6_again se_X6_again rfl (by decide) (mf_again (d := 1900) sM (by omega)) (by omega) dL_law_681 sM.o rfl rfl (by simp [Value.category]) (fun v_1 h_2 hp => ?_) (fun _ _ hf => hf.elim)
  obtain ⟨s_1, x_1, rfl, rfl, ec, er⟩ := hp
  refine hp_istore C dL_law_684 (by decide) ?_
  refine hp_aload_nR C dL_law_686 e2 ?_
  refine hp_callV (ci := 6) C ml_L_80 im_X6_thrown se_X6_thrown rfl (by decide) (mo_thrown (d := 1900) sM) (by omega) dL_law_687 sM.o rfl rfl (by simp [Value.category]) (fun v_1 h_3 hp => ?_) (fun _ _ hf => hf.elim)
  obtain ⟨rfl, rfl⟩ := hp
  refine hp_iload C dL_law_690 rfl ?_
  refine hp_icmp_eq (tgt := 697) C dL_law_692 (by decide) (fun _ => ?_) (fun z_9 => absurd (ec.trans (lc_one _).symm) z_9)
  refine hp_iload C dL_law_697 rfl ?_
  refine hp_if_ne (tgt := 721) C dL_law_699 (by decide) (fun _ => ?_) (fun c_0 => ?_)
  · refine hp_goto (tgt := 1152) C dL_law_721 (by decide) ?_
    exact kk _ _ e0 e4
  · exact absurd ((lc_one _).symm.trans c_0) (by decide)
set_option maxRecDepth 20000 in
set_option maxHeartbeats 4000000 in
theorem lq_remove {M : hpM} {G : hpG} {h0 H : hpT} {Q : State → Prop} {lo : Nat → Option Value} {k b : Nat} {xs : Nat → Int32} (C : hp_F M G yL_law cL_law 7 2000 h0) (hH : lw_H G H k) (hX : va_X b 7 xs (hp_st M) (hp_H0 G)) (hb : b < hp_n0 G) (e0 : lo 0 = some (.ref b)) (e1 : lo 1 = some (.ref k)) (e2 : lo 2 = some (.ref (k + 12))) (e3 : lo 3 = some (.ref (k + 32))) (e4 : lo 4 = some (.int 0))
    (kk : ∀ (h9 : hpT) (lo9 : Nat → Option Value), lo9 0 = some (.ref b) → lo9 4 = some (.int 0) → hp_V M G 7 Q h9 1152 lo9 []) : hp_V M G 7 Q H 724 lo [] := by
  refine hp_aload_nR C dL_law_724 e1 ?_
  refine hp_aload_nR C dL_law_725 e0 ?_
  refine hp_iload C dL_law_726 e4 ?_
  refine hp_iconst (v := 1) C dL_law_728 (by decide) ?_
  refine hp_iadd C dL_law_729 ?_
  refine hp_sld C hX hb (by unfold vp_in; decide) rfl dL_law_730 ?_
  refine hp_aload_nR C dL_law_731 e3 ?_
  rw [hH.2.1]
  refine hp_callSX C mx_L_115 (lh_remove (d := 1900) (q := k + 32) hH.1 ⟨by have := hH.2.2.2.2.2.2.2.1; omega, by have := hH.2.2.2.2.2.2.2.2; omega⟩ (by omega) hH.2.2.2.2.1 hH.2.2.2.2.2.1 (by omega)) (by omega) dL_law_732 rfl rfl (by simp [Value.category]) (fun v_1 h_1 hp => ?_) (fun _ _ hf => hf.elim)
  obtain ⟨rfl, fr, hv⟩ := hp
  obtain ⟨sM, eM, iq, lq⟩ := lw_HJ hH fr
  refine hp_istore C dL_law_735 (by decide) ?_
  refine hp_aload_nR C dL_law_737 e2 ?_
  refine hp_aload_nR C dL_law_738 e0 ?_
  refine hp_iload C dL_law_739 e4 ?_
  refine hp_iconst (v := 1) C dL_law_741 (by decide) ?_
  refine hp_iadd C dL_law_742 ?_
  refine hp_sld C hX hb (by unfold vp_in; decide) rfl dL_law_743 ?_
  rw [eM]
  refine hp_callV (ci := 6) C ml_L_117 im_X6_remove se_X6_remove rfl (by decide) (mf_remove (d := 1900) sM (by omega)) (by omega) dL_law_744 sM.o rfl rfl (by simp [Value.category]) (fun v_1 h_2 hp => ?_) (fun _ _ hf => hf.elim)
  obtain ⟨s_1, x_1, rfl, rfl, ec, er⟩ := hp
  refine hp_istore C dL_law_747 (by decide) ?_
  refine hp_aload_nR C dL_law_749 e2 ?_
  refine hp_callV (ci := 6) C ml_L_80 im_X6_thrown se_X6_thrown rfl (by decide) (mo_thrown (d := 1900) sM) (by omega) dL_law_750 sM.o rfl rfl (by simp [Value.category]) (fun v_1 h_3 hp => ?_) (fun _ _ hf => hf.elim)
  obtain ⟨rfl, rfl⟩ := hp
  refine hp_iload C dL_law_753 rfl ?_
  refine hp_icmp_eq (tgt := 760) C dL_law_755 (by decide) (fun _ => ?_) (fun z_9 => absurd (ec.trans (lc_one _).symm) z_9)
  refine hp_iload C dL_law_760 rfl ?_
  refine hp_if_ne (tgt := 777) C dL_law_762 (by decide) (fun _ => ?_) (fun c_0 => ?_)
  · refine hp_goto (tgt := 1152) C dL_law_777 (by decide) ?_
    exact kk _ _ e0 e4
  · exact absurd ((lc_one _).symm.trans c_0) (by decide)
set_option maxRecDepth 20000 in
set_option maxHeartbeats 4000000 in
theorem lq_pass {M : hpM} {G : hpG} {h0 H : hpT} {Q : State → Prop} {lo : Nat → Option Value} {k b : Nat} {xs : Nat → Int32} (C : hp_F M G yL_law cL_law 7 2000 h0) (hH : lw_H G H k) (hX : va_X b 7 xs (hp_st M) (hp_H0 G)) (hb : b < hp_n0 G) (e0 : lo 0 = some (.ref b)) (e1 : lo 1 = some (.ref k)) (e2 : lo 2 = some (.ref (k + 12))) (e3 : lo 3 = some (.ref (k + 32))) (e4 : lo 4 = some (.int 0))
    (kk : ∀ (h9 : hpT) (lo9 : Nat → Option Value), lo9 0 = some (.ref b) → lo9 4 = some (.int 0) → hp_V M G 7 Q h9 1152 lo9 []) : hp_V M G 7 Q H 780 lo [] := by
  refine hp_aload_nR C dL_law_780 e1 ?_
  refine hp_aload_nR C dL_law_781 e0 ?_
  refine hp_iload C dL_law_782 e4 ?_
  refine hp_iconst (v := 1) C dL_law_784 (by decide) ?_
  refine hp_iadd C dL_law_785 ?_
  refine hp_sld C hX hb (by unfold vp_in; decide) rfl dL_law_786 ?_
  refine hp_aload_nR C dL_law_787 e3 ?_
  rw [hH.2.1]
  refine hp_callSX C mx_L_118 (lh_pass (d := 1900) (q := k + 32) hH.1 ⟨by have := hH.2.2.2.2.2.2.2.1; omega, by have := hH.2.2.2.2.2.2.2.2; omega⟩ (by omega) hH.2.2.2.2.1 hH.2.2.2.2.2.1 (by omega)) (by omega) dL_law_788 rfl rfl (by simp [Value.category]) (fun v_1 h_1 hp => ?_) (fun _ _ hf => hf.elim)
  obtain ⟨rfl, fr, hv⟩ := hp
  obtain ⟨sM, eM, iq, lq⟩ := lw_HJ hH fr
  refine hp_istore C dL_law_791 (by decide) ?_
  refine hp_aload_nR C dL_law_793 e2 ?_
  refine hp_aload_nR C dL_law_794 e0 ?_
  refine hp_iload C dL_law_795 e4 ?_
  refine hp_iconst (v := 1) C dL_law_797 (by decide) ?_
  refine hp_iadd C dL_law_798 ?_
  refine hp_sld C hX hb (by unfold vp_in; decide) rfl dL_law_799 ?_
  rw [eM]
  refine hp_callV (ci := 6) C ml_L_120 im_X6_pass se_X6_pass rfl (by decide) (mo_pass (d := 1900) sM (by omega)) (by omega) dL_law_800 sM.o rfl rfl (by simp [Value.category]) (fun v_1 h_2 hp => ?_) (fun _ _ hf => hf.elim)
  obtain ⟨rfl, rfl⟩ := hp
  have ec := lx_pass (xs (0 + 1 : Int32).toNatClampNeg)
  have er := ly_pass (xs (0 + 1 : Int32).toNatClampNeg)
  generalize mo_pas mo_s0 (xs (0 + 1 : Int32).toNatClampNeg) = s_1 at ec ⊢
  refine hp_istore C dL_law_803 (by decide) ?_
  refine hp_aload_nR C dL_law_805 e2 ?_
  refine hp_callV (ci := 6) C ml_L_80 im_X6_thrown se_X6_thrown rfl (by decide) (mo_thrown (d := 1900) sM) (by omega) dL_law_806 sM.o rfl rfl (by simp [Value.category]) (fun v_1 h_3 hp => ?_) (fun _ _ hf => hf.elim)
  obtain ⟨rfl, rfl⟩ := hp
  refine hp_iload C dL_law_809 rfl ?_
  refine hp_icmp_eq (tgt := 816) C dL_law_811 (by decide) (fun _ => ?_) (fun z_9 => absurd (ec.trans (lc_pass _).symm) z_9)
  refine hp_iload C dL_law_816 rfl ?_
  refine hp_if_ne (tgt := 833) C dL_law_818 (by decide) (fun _ => ?_) (fun c_0 => ?_)
  · refine hp_goto (tgt := 1152) C dL_law_833 (by decide) ?_
    exact kk _ _ e0 e4
  · have c_1 := c_0
    have ex := er ((lc_pass _).symm.trans c_1)
    refine hp_aload_nR C dL_law_821 e3 ?_
    refine hp_iconst (v := 0) C dL_law_822 (by decide) ?_
    have h8 : hp_ar (mo_w h_1 (k + 12) s_1) (k + 32) 0 = hp_ar h_1 (k + 32) 0 := by rw [mo_w_ar, if_neg (by omega)]
    refine hp_lald C dL_law_823 (show hp_is G (mo_w h_1 (k + 12) s_1) (k + 32) 12 from iq) (by show vp_in 0 (hp_ln h_1 (k + 32)); rw [lq]; unfold vp_in; decide) (h8.trans (hv c_1)) ?_
    refine hp_iload C dL_law_824 rfl ?_
    rw [ex]
    refine hp_i2l C dL_law_826 ?_
    refine hp_lcmp C dL_law_827 ?_
    refine hp_if_eq (tgt := 833) C dL_law_828 (by decide) (fun _ => ?_) (fun z_9 => absurd (lg_self _) z_9)
    refine hp_goto (tgt := 1152) C dL_law_833 (by decide) ?_
    exact kk _ _ e0 e4
set_option maxRecDepth 20000 in
set_option maxHeartbeats 4000000 in
theorem lq_state {M : hpM} {G : hpG} {h0 H : hpT} {Q : State → Prop} {lo : Nat → Option Value} {k b : Nat} {xs : Nat → Int32} (C : hp_F M G yL_law cL_law 7 2000 h0) (hH : lw_H G H k) (hX : va_X b 7 xs (hp_st M) (hp_H0 G)) (hb : b < hp_n0 G) (e0 : lo 0 = some (.ref b)) (e1 : lo 1 = some (.ref k)) (e2 : lo 2 = some (.ref (k + 12))) (e3 : lo 3 = some (.ref (k + 32))) (e4 : lo 4 = some (.int 0))
    (kk : ∀ (h9 : hpT) (lo9 : Nat → Option Value), lo9 0 = some (.ref b) → lo9 4 = some (.int 0) → hp_V M G 7 Q h9 1152 lo9 []) : hp_V M G 7 Q H 836 lo [] := by
  refine hp_aload_nR C dL_law_836 e1 ?_
  refine hp_aload_nR C dL_law_837 e0 ?_
  refine hp_iload C dL_law_838 e4 ?_
  refine hp_iconst (v := 1) C dL_law_840 (by decide) ?_
  refine hp_iadd C dL_law_841 ?_
  refine hp_sld C hX hb (by unfold vp_in; decide) rfl dL_law_842 ?_
  refine hp_aload_nR C dL_law_843 e3 ?_
  rw [hH.2.1]
  refine hp_callSX C mx_L_121 (lh_state (d := 1900) (q := k + 32) hH.1 ⟨by have := hH.2.2.2.2.2.2.2.1; omega, by have := hH.2.2.2.2.2.2.2.2; omega⟩ (by omega) hH.2.2.2.2.1 hH.2.2.2.2.2.1 (by omega)) (by omega) dL_law_844 rfl rfl (by simp [Value.category]) (fun v_1 h_1 hp => ?_) (fun _ _ hf => hf.elim)
  obtain ⟨rfl, fr, hv⟩ := hp
  obtain ⟨sM, eM, iq, lq⟩ := lw_HJ hH fr
  refine hp_istore C dL_law_847 (by decide) ?_
  refine hp_aload_nR C dL_law_849 e2 ?_
  refine hp_aload_nR C dL_law_850 e0 ?_
  refine hp_iload C dL_law_851 e4 ?_
  refine hp_iconst (v := 1) C dL_law_853 (by decide) ?_
  refine hp_iadd C dL_law_854 ?_
  refine hp_sld C hX hb (by unfold vp_in; decide) rfl dL_law_855 ?_
  rw [eM]
  refine hp_callV (ci := 6) C ml_L_123 im_X6_state se_X6_state rfl (by decide) (mo_state (d := 1900) sM mf_ok (by omega)) (by omega) dL_law_856 sM.o rfl rfl (by simp [Value.category]) (fun v_1 h_2 hp => ?_) (fun _ _ hf => hf.elim)
  obtain ⟨rfl, rfl⟩ := hp
  have ec := lx_state (xs (0 + 1 : Int32).toNatClampNeg)
  have er := ly_state (xs (0 + 1 : Int32).toNatClampNeg)
  generalize mo_pt mo_s0 0 (mo_staC mo_s0 (xs (0 + 1 : Int32).toNatClampNeg)) = s_1 at ec ⊢
  refine hp_istore C dL_law_859 (by decide) ?_
  refine hp_aload_nR C dL_law_861 e2 ?_
  refine hp_callV (ci := 6) C ml_L_80 im_X6_thrown se_X6_thrown rfl (by decide) (mo_thrown (d := 1900) sM) (by omega) dL_law_862 sM.o rfl rfl (by simp [Value.category]) (fun v_1 h_3 hp => ?_) (fun _ _ hf => hf.elim)
  obtain ⟨rfl, rfl⟩ := hp
  refine hp_iload C dL_law_865 rfl ?_
  refine hp_icmp_eq (tgt := 872) C dL_law_867 (by decide) (fun _ => ?_) (fun z_9 => absurd (ec.trans (lc_state _).symm) z_9)
  refine hp_iload C dL_law_872 rfl ?_
  refine hp_if_ne (tgt := 889) C dL_law_874 (by decide) (fun _ => ?_) (fun c_0 => ?_)
  · refine hp_goto (tgt := 1152) C dL_law_889 (by decide) ?_
    exact kk _ _ e0 e4
  · have c_1 := c_0
    have ex := er ((lc_state _).symm.trans c_1)
    refine hp_aload_nR C dL_law_877 e3 ?_
    refine hp_iconst (v := 0) C dL_law_878 (by decide) ?_
    have h8 : hp_ar (mo_w h_1 (k + 12) s_1) (k + 32) 0 = hp_ar h_1 (k + 32) 0 := by rw [mo_w_ar, if_neg (by omega)]
    refine hp_lald C dL_law_879 (show hp_is G (mo_w h_1 (k + 12) s_1) (k + 32) 12 from iq) (by show vp_in 0 (hp_ln h_1 (k + 32)); rw [lq]; unfold vp_in; decide) (h8.trans (hv c_1)) ?_
    refine hp_iload C dL_law_880 rfl ?_
    rw [ex]
    refine hp_i2l C dL_law_882 ?_
    refine hp_lcmp C dL_law_883 ?_
    refine hp_if_eq (tgt := 889) C dL_law_884 (by decide) (fun _ => ?_) (fun z_9 => absurd (lg_self _) z_9)
    refine hp_goto (tgt := 1152) C dL_law_889 (by decide) ?_
    exact kk _ _ e0 e4
set_option maxRecDepth 20000 in
set_option maxHeartbeats 4000000 in
theorem lq_about {M : hpM} {G : hpG} {h0 H : hpT} {Q : State → Prop} {lo : Nat → Option Value} {k b : Nat} {xs : Nat → Int32} (C : hp_F M G yL_law cL_law 7 2000 h0) (hH : lw_H G H k) (hX : va_X b 7 xs (hp_st M) (hp_H0 G)) (hb : b < hp_n0 G) (e0 : lo 0 = some (.ref b)) (e1 : lo 1 = some (.ref k)) (e2 : lo 2 = some (.ref (k + 12))) (e3 : lo 3 = some (.ref (k + 32))) (e4 : lo 4 = some (.int 0))
    (kk : ∀ (h9 : hpT) (lo9 : Nat → Option Value), lo9 0 = some (.ref b) → lo9 4 = some (.int 0) → hp_V M G 7 Q h9 1152 lo9 []) : hp_V M G 7 Q H 892 lo [] := by
  refine hp_aload_nR C dL_law_892 e1 ?_
  refine hp_aload_nR C dL_law_893 e0 ?_
  refine hp_iload C dL_law_894 e4 ?_
  refine hp_iconst (v := 1) C dL_law_896 (by decide) ?_
  refine hp_iadd C dL_law_897 ?_
  refine hp_sld C hX hb (by unfold vp_in; decide) rfl dL_law_898 ?_
  refine hp_aload_nR C dL_law_899 e0 ?_
  refine hp_iload C dL_law_900 e4 ?_
  refine hp_iconst (v := 2) C dL_law_902 (by decide) ?_
  refine hp_iadd C dL_law_903 ?_
  refine hp_sld C hX hb (by unfold vp_in; decide) rfl dL_law_904 ?_
  refine hp_aload_nR C dL_law_905 e3 ?_
  rw [hH.2.1]
  refine hp_callSX C mx_L_124 (lh_about (d := 1900) (q := k + 32) hH.1 ⟨by have := hH.2.2.2.2.2.2.2.1; omega, by have := hH.2.2.2.2.2.2.2.2; omega⟩ (by omega) hH.2.2.2.2.1 hH.2.2.2.2.2.1 (by omega)) (by omega) dL_law_906 rfl rfl (by simp [Value.category]) (fun v_1 h_1 hp => ?_) (fun _ _ hf => hf.elim)
  obtain ⟨rfl, fr, hv⟩ := hp
  obtain ⟨sM, eM, iq, lq⟩ := lw_HJ hH fr
  refine hp_istore C dL_law_909 (by decide) ?_
  refine hp_aload_nR C dL_law_911 e2 ?_
  refine hp_aload_nR C dL_law_912 e0 ?_
  refine hp_iload C dL_law_913 e4 ?_
  refine hp_iconst (v := 1) C dL_law_915 (by decide) ?_
  refine hp_iadd C dL_law_916 ?_
  refine hp_sld C hX hb (by unfold vp_in; decide) rfl dL_law_917 ?_
  refine hp_aload_nR C dL_law_918 e0 ?_
  refine hp_iload C dL_law_919 e4 ?_
  refine hp_iconst (v := 2) C dL_law_921 (by decide) ?_
  refine hp_iadd C dL_law_922 ?_
  refine hp_sld C hX hb (by unfold vp_in; decide) rfl dL_law_923 ?_
  rw [eM]
  refine hp_callV (ci := 6) C ml_L_126 im_X6_about se_X6_about rfl (by decide) (mf_about (d := 1900) sM (by omega)) (by omega) dL_law_924 sM.o rfl rfl (by simp [Value.category]) (fun v_1 h_2 hp => ?_) (fun _ _ hf => hf.elim)
  obtain ⟨s_1, x_1, rfl, rfl, ec, er⟩ := hp
  refine hp_istore C dL_law_927 (by decide) ?_
  refine hp_aload_nR C dL_law_929 e2 ?_
  refine hp_callV (ci := 6) C ml_L_80 im_X6_thrown se_X6_thrown rfl (by decide) (mo_thrown (d := 1900) sM) (by omega) dL_law_930 sM.o rfl rfl (by simp [Value.category]) (fun v_1 h_3 hp => ?_) (fun _ _ hf => hf.elim)
  obtain ⟨rfl, rfl⟩ := hp
  refine hp_iload C dL_law_933 rfl ?_
  refine hp_icmp_eq (tgt := 940) C dL_law_935 (by decide) (fun _ => ?_) (fun z_9 => absurd (ec.trans (lc_about _ _).symm) z_9)
  refine hp_iload C dL_law_940 rfl ?_
  refine hp_if_ne (tgt := 957) C dL_law_942 (by decide) (fun _ => ?_) (fun c_0 => ?_)
  · refine hp_goto (tgt := 1152) C dL_law_957 (by decide) ?_
    exact kk _ _ e0 e4
  · have c_1 := c_0
    have ex := er ((lc_about _ _).symm.trans c_1)
    refine hp_aload_nR C dL_law_945 e3 ?_
    refine hp_iconst (v := 0) C dL_law_946 (by decide) ?_
    have h8 : hp_ar (mo_w h_1 (k + 12) s_1) (k + 32) 0 = hp_ar h_1 (k + 32) 0 := by rw [mo_w_ar, if_neg (by omega)]
    refine hp_lald C dL_law_947 (show hp_is G (mo_w h_1 (k + 12) s_1) (k + 32) 12 from iq) (by show vp_in 0 (hp_ln h_1 (k + 32)); rw [lq]; unfold vp_in; decide) (h8.trans (hv c_1)) ?_
    refine hp_iload C dL_law_948 rfl ?_
    rw [ex]
    refine hp_i2l C dL_law_950 ?_
    refine hp_lcmp C dL_law_951 ?_
    refine hp_if_eq (tgt := 957) C dL_law_952 (by decide) (fun _ => ?_) (fun z_9 => absurd (lg_self _) z_9)
    refine hp_goto (tgt := 1152) C dL_law_957 (by decide) ?_
    exact kk _ _ e0 e4
set_option maxRecDepth 20000 in
set_option maxHeartbeats 4000000 in
theorem lq_child {M : hpM} {G : hpG} {h0 H : hpT} {Q : State → Prop} {lo : Nat → Option Value} {k b : Nat} {xs : Nat → Int32} (C : hp_F M G yL_law cL_law 7 2000 h0) (hH : lw_H G H k) (hX : va_X b 7 xs (hp_st M) (hp_H0 G)) (hb : b < hp_n0 G) (e0 : lo 0 = some (.ref b)) (e1 : lo 1 = some (.ref k)) (e2 : lo 2 = some (.ref (k + 12))) (e3 : lo 3 = some (.ref (k + 32))) (e4 : lo 4 = some (.int 0))
    (kk : ∀ (h9 : hpT) (lo9 : Nat → Option Value), lo9 0 = some (.ref b) → lo9 4 = some (.int 0) → hp_V M G 7 Q h9 1152 lo9 []) : hp_V M G 7 Q H 960 lo [] := by
  refine hp_aload_nR C dL_law_960 e1 ?_
  refine hp_aload_nR C dL_law_961 e0 ?_
  refine hp_iload C dL_law_962 e4 ?_
  refine hp_iconst (v := 1) C dL_law_964 (by decide) ?_
  refine hp_iadd C dL_law_965 ?_
  refine hp_sld C hX hb (by unfold vp_in; decide) rfl dL_law_966 ?_
  refine hp_aload_nR C dL_law_967 e0 ?_
  refine hp_iload C dL_law_968 e4 ?_
  refine hp_iconst (v := 2) C dL_law_970 (by decide) ?_
  refine hp_iadd C dL_law_971 ?_
  refine hp_sld C hX hb (by unfold vp_in; decide) rfl dL_law_972 ?_
  refine hp_aload_nR C dL_law_973 e3 ?_
  rw [hH.2.1]
  refine hp_callSX C mx_L_127 (lh_child (d := 1900) (q := k + 32) hH.1 ⟨by have := hH.2.2.2.2.2.2.2.1; omega, by have := hH.2.2.2.2.2.2.2.2; omega⟩ (by omega) hH.2.2.2.2.1 hH.2.2.2.2.2.1 (by omega)) (by omega) dL_law_974 rfl rfl (by simp [Value.category]) (fun v_1 h_1 hp => ?_) (fun _ _ hf => hf.elim)
  obtain ⟨rfl, fr, hv⟩ := hp
  obtain ⟨sM, eM, iq, lq⟩ := lw_HJ hH fr
  refine hp_istore C dL_law_977 (by decide) ?_
  refine hp_aload_nR C dL_law_979 e2 ?_
  refine hp_aload_nR C dL_law_980 e0 ?_
  refine hp_iload C dL_law_981 e4 ?_
  refine hp_iconst (v := 1) C dL_law_983 (by decide) ?_
  refine hp_iadd C dL_law_984 ?_
  refine hp_sld C hX hb (by unfold vp_in; decide) rfl dL_law_985 ?_
  refine hp_aload_nR C dL_law_986 e0 ?_
  refine hp_iload C dL_law_987 e4 ?_
  refine hp_iconst (v := 2) C dL_law_989 (by decide) ?_
  refine hp_iadd C dL_law_990 ?_
  refine hp_sld C hX hb (by unfold vp_in; decide) rfl dL_law_991 ?_
  rw [eM]
  refine hp_callV (ci := 6) C ml_L_129 im_X6_child_ se_X6_child_ rfl (by decide) (mf_child (d := 1900) sM (by omega)) (by omega) dL_law_992 sM.o rfl rfl (by simp [Value.category]) (fun v_1 h_2 hp => ?_) (fun _ _ hf => hf.elim)
  obtain ⟨s_1, x_1, rfl, rfl, ec, er⟩ := hp
  refine hp_istore C dL_law_995 (by decide) ?_
  refine hp_aload_nR C dL_law_997 e2 ?_
  refine hp_callV (ci := 6) C ml_L_80 im_X6_thrown se_X6_thrown rfl (by decide) (mo_thrown (d := 1900) sM) (by omega) dL_law_998 sM.o rfl rfl (by simp [Value.category]) (fun v_1 h_3 hp => ?_) (fun _ _ hf => hf.elim)
  obtain ⟨rfl, rfl⟩ := hp
  refine hp_iload C dL_law_1001 rfl ?_
  refine hp_icmp_eq (tgt := 1008) C dL_law_1003 (by decide) (fun _ => ?_) (fun z_9 => absurd (ec.trans (ktc_no_eq _).symm) z_9)
  refine hp_iload C dL_law_1008 rfl ?_
  refine hp_if_ne (tgt := 1025) C dL_law_1010 (by decide) (fun _ => ?_) (fun c_0 => ?_)
  · refine hp_goto (tgt := 1152) C dL_law_1025 (by decide) ?_
    exact kk _ _ e0 e4
  · have c_1 := c_0
    have ex := er ((ktc_no_eq _).symm.trans c_1)
    refine hp_aload_nR C dL_law_1013 e3 ?_
    refine hp_iconst (v := 0) C dL_law_1014 (by decide) ?_
    have h8 : hp_ar (mo_w h_1 (k + 12) s_1) (k + 32) 0 = hp_ar h_1 (k + 32) 0 := by rw [mo_w_ar, if_neg (by omega)]
    refine hp_lald C dL_law_1015 (show hp_is G (mo_w h_1 (k + 12) s_1) (k + 32) 12 from iq) (by show vp_in 0 (hp_ln h_1 (k + 32)); rw [lq]; unfold vp_in; decide) (h8.trans (hv c_1)) ?_
    refine hp_iload C dL_law_1016 rfl ?_
    rw [ex]
    refine hp_i2l C dL_law_1018 ?_
    refine hp_lcmp C dL_law_1019 ?_
    refine hp_if_eq (tgt := 1025) C dL_law_1020 (by decide) (fun _ => ?_) (fun z_9 => absurd (lg_self _) z_9)
    refine hp_goto (tgt := 1152) C dL_law_1025 (by decide) ?_
    exact kk _ _ e0 e4
set_option maxRecDepth 20000 in
set_option maxHeartbeats 4000000 in
theorem lq_event {M : hpM} {G : hpG} {h0 H : hpT} {Q : State → Prop} {lo : Nat → Option Value} {k b : Nat} {xs : Nat → Int32} (C : hp_F M G yL_law cL_law 7 2000 h0) (hH : lw_H G H k) (hX : va_X b 7 xs (hp_st M) (hp_H0 G)) (hb : b < hp_n0 G) (e0 : lo 0 = some (.ref b)) (e1 : lo 1 = some (.ref k)) (e2 : lo 2 = some (.ref (k + 12))) (e3 : lo 3 = some (.ref (k + 32))) (e4 : lo 4 = some (.int 0))
    (kk : ∀ (h9 : hpT) (lo9 : Nat → Option Value), lo9 0 = some (.ref b) → lo9 4 = some (.int 0) → hp_V M G 7 Q h9 1152 lo9 []) : hp_V M G 7 Q H 1028 lo [] := by
  refine hp_aload_nR C dL_law_1028 e1 ?_
  refine hp_aload_nR C dL_law_1029 e0 ?_
  refine hp_iload C dL_law_1030 e4 ?_
  refine hp_iconst (v := 1) C dL_law_1032 (by decide) ?_
  refine hp_iadd C dL_law_1033 ?_
  refine hp_sld C hX hb (by unfold vp_in; decide) rfl dL_law_1034 ?_
  refine hp_aload_nR C dL_law_1035 e0 ?_
  refine hp_iload C dL_law_1036 e4 ?_
  refine hp_iconst (v := 2) C dL_law_1038 (by decide) ?_
  refine hp_iadd C dL_law_1039 ?_
  refine hp_sld C hX hb (by unfold vp_in; decide) rfl dL_law_1040 ?_
  refine hp_aload_nR C dL_law_1041 e3 ?_
  rw [hH.2.1]
  refine hp_callSX C mx_L_130 (lh_event (d := 1900) (q := k + 32) hH.1 ⟨by have := hH.2.2.2.2.2.2.2.1; omega, by have := hH.2.2.2.2.2.2.2.2; omega⟩ (by omega) hH.2.2.2.2.1 hH.2.2.2.2.2.1 (by omega)) (by omega) dL_law_1042 rfl rfl (by simp [Value.category]) (fun v_1 h_1 hp => ?_) (fun _ _ hf => hf.elim)
  obtain ⟨rfl, fr, hv⟩ := hp
  obtain ⟨sM, eM, iq, lq⟩ := lw_HJ hH fr
  refine hp_istore C dL_law_1045 (by decide) ?_
  refine hp_aload_nR C dL_law_1047 e2 ?_
  refine hp_aload_nR C dL_law_1048 e0 ?_
  refine hp_iload C dL_law_1049 e4 ?_
  refine hp_iconst (v := 1) C dL_law_1051 (by decide) ?_
  refine hp_iadd C dL_law_1052 ?_
  refine hp_sld C hX hb (by unfold vp_in; decide) rfl dL_law_1053 ?_
  refine hp_aload_nR C dL_law_1054 e0 ?_
  refine hp_iload C dL_law_1055 e4 ?_
  refine hp_iconst (v := 2) C dL_law_1057 (by decide) ?_
  refine hp_iadd C dL_law_1058 ?_
  refine hp_sld C hX hb (by unfold vp_in; decide) rfl dL_law_1059 ?_
  rw [eM]
  refine hp_callV (ci := 6) C ml_L_132 im_X6_event se_X6_event rfl (by decide) (mo_event (d := 1900) sM (by omega)) (by omega) dL_law_1060 sM.o rfl rfl (by simp [Value.category]) (fun v_1 h_2 hp => ?_) (fun _ _ hf => hf.elim)
  obtain ⟨rfl, rfl⟩ := hp
  have ec := lx_event (xs (0 + 1 : Int32).toNatClampNeg) (xs (0 + 2 : Int32).toNatClampNeg)
  have er := ly_event (xs (0 + 1 : Int32).toNatClampNeg) (xs (0 + 2 : Int32).toNatClampNeg)
  generalize mo_pt mo_s0 0 (mo_evtC (xs (0 + 2 : Int32).toNatClampNeg)) = s_1 at ec ⊢
  refine hp_istore C dL_law_1063 (by decide) ?_
  refine hp_aload_nR C dL_law_1065 e2 ?_
  refine hp_callV (ci := 6) C ml_L_80 im_X6_thrown se_X6_thrown rfl (by decide) (mo_thrown (d := 1900) sM) (by omega) dL_law_1066 sM.o rfl rfl (by simp [Value.category]) (fun v_1 h_3 hp => ?_) (fun _ _ hf => hf.elim)
  obtain ⟨rfl, rfl⟩ := hp
  refine hp_iload C dL_law_1069 rfl ?_
  refine hp_icmp_eq (tgt := 1076) C dL_law_1071 (by decide) (fun _ => ?_) (fun z_9 => absurd (ec.trans (lc_event _).symm) z_9)
  refine hp_iload C dL_law_1076 rfl ?_
  refine hp_if_ne (tgt := 1093) C dL_law_1078 (by decide) (fun _ => ?_) (fun c_0 => ?_)
  · refine hp_goto (tgt := 1152) C dL_law_1093 (by decide) ?_
    exact kk _ _ e0 e4
  · have c_1 := c_0
    have ex := er ((lc_event _).symm.trans c_1)
    refine hp_aload_nR C dL_law_1081 e3 ?_
    refine hp_iconst (v := 0) C dL_law_1082 (by decide) ?_
    have h8 : hp_ar (mo_w h_1 (k + 12) s_1) (k + 32) 0 = hp_ar h_1 (k + 32) 0 := by rw [mo_w_ar, if_neg (by omega)]
    refine hp_lald C dL_law_1083 (show hp_is G (mo_w h_1 (k + 12) s_1) (k + 32) 12 from iq) (by show vp_in 0 (hp_ln h_1 (k + 32)); rw [lq]; unfold vp_in; decide) (h8.trans (hv c_1)) ?_
    refine hp_iload C dL_law_1084 rfl ?_
    rw [ex]
    refine hp_i2l C dL_law_1086 ?_
    refine hp_lcmp C dL_law_1087 ?_
    refine hp_if_eq (tgt := 1093) C dL_law_1088 (by decide) (fun _ => ?_) (fun z_9 => absurd (lg_self _) z_9)
    refine hp_goto (tgt := 1152) C dL_law_1093 (by decide) ?_
    exact kk _ _ e0 e4
set_option maxRecDepth 20000 in
set_option maxHeartbeats 4000000 in
theorem lq_total {M : hpM} {G : hpG} {h0 H : hpT} {Q : State → Prop} {lo : Nat → Option Value} {k b : Nat} {xs : Nat → Int32} (C : hp_F M G yL_law cL_law 7 2000 h0) (hH : lw_H G H k) (hX : va_X b 7 xs (hp_st M) (hp_H0 G)) (hb : b < hp_n0 G) (e0 : lo 0 = some (.ref b)) (e1 : lo 1 = some (.ref k)) (e2 : lo 2 = some (.ref (k + 12))) (e3 : lo 3 = some (.ref (k + 32))) (e4 : lo 4 = some (.int 0))
    (kk : ∀ (h9 : hpT) (lo9 : Nat → Option Value), lo9 0 = some (.ref b) → lo9 4 = some (.int 0) → hp_V M G 7 Q h9 1152 lo9 []) : hp_V M G 7 Q H 1096 lo [] := by
  refine hp_aload_nR C dL_law_1096 e1 ?_
  refine hp_aload_nR C dL_law_1097 e0 ?_
  refine hp_iload C dL_law_1098 e4 ?_
  refine hp_iconst (v := 1) C dL_law_1100 (by decide) ?_
  refine hp_iadd C dL_law_1101 ?_
  refine hp_sld C hX hb (by unfold vp_in; decide) rfl dL_law_1102 ?_
  refine hp_aload_nR C dL_law_1103 e3 ?_
  rw [hH.2.1]
  refine hp_callSX C mx_L_133 (lh_total (d := 1900) (q := k + 32) hH.1 ⟨by have := hH.2.2.2.2.2.2.2.1; omega, by have := hH.2.2.2.2.2.2.2.2; omega⟩ (by omega) hH.2.2.2.2.1 hH.2.2.2.2.2.1 (by omega)) (by omega) dL_law_1104 rfl rfl (by simp [Value.category]) (fun v_1 h_1 hp => ?_) (fun _ _ hf => hf.elim)
  obtain ⟨rfl, fr, hv⟩ := hp
  obtain ⟨sM, eM, iq, lq⟩ := lw_HJ hH fr
  refine hp_istore C dL_law_1107 (by decide) ?_
  refine hp_aload_nR C dL_law_1109 e2 ?_
  refine hp_aload_nR C dL_law_1110 e0 ?_
  refine hp_iload C dL_law_1111 e4 ?_
  refine hp_iconst (v := 1) C dL_law_1113 (by decide) ?_
  refine hp_iadd C dL_law_1114 ?_
  refine hp_sld C hX hb (by unfold vp_in; decide) rfl dL_law_1115 ?_
  rw [eM]
  refine hp_callV (ci := 6) C ml_L_135 im_X6_total se_X6_total rfl (by decide) (mf_total (d := 1900) sM (by omega)) (by omega) dL_law_1116 sM.o rfl rfl (by simp [Value.category]) (fun v_1 h_2 hp => ?_) (fun _ _ hf => hf.elim)
  obtain ⟨s_1, x_1, rfl, rfl, ec, er⟩ := hp
  refine hp_istore C dL_law_1119 (by decide) ?_
  refine hp_aload_nR C dL_law_1121 e2 ?_
  refine hp_callV (ci := 6) C ml_L_80 im_X6_thrown se_X6_thrown rfl (by decide) (mo_thrown (d := 1900) sM) (by omega) dL_law_1122 sM.o rfl rfl (by simp [Value.category]) (fun v_1 h_3 hp => ?_) (fun _ _ hf => hf.elim)
  obtain ⟨rfl, rfl⟩ := hp
  refine hp_iload C dL_law_1125 rfl ?_
  refine hp_icmp_eq (tgt := 1132) C dL_law_1127 (by decide) (fun _ => ?_) (fun z_9 => absurd (ec.trans (lc_total _).symm) z_9)
  refine hp_iload C dL_law_1132 rfl ?_
  refine hp_if_ne (tgt := 1149) C dL_law_1134 (by decide) (fun _ => ?_) (fun c_0 => ?_)
  · refine hp_goto (tgt := 1152) C dL_law_1149 (by decide) ?_
    exact kk _ _ e0 e4
  · have c_1 := c_0
    have ex := er ((lc_total _).symm.trans c_1)
    refine hp_aload_nR C dL_law_1137 e3 ?_
    refine hp_iconst (v := 0) C dL_law_1138 (by decide) ?_
    have h8 : hp_ar (mo_w h_1 (k + 12) s_1) (k + 32) 0 = hp_ar h_1 (k + 32) 0 := by rw [mo_w_ar, if_neg (by omega)]
    refine hp_lald C dL_law_1139 (show hp_is G (mo_w h_1 (k + 12) s_1) (k + 32) 12 from iq) (by show vp_in 0 (hp_ln h_1 (k + 32)); rw [lq]; unfold vp_in; decide) (h8.trans (hv c_1)) ?_
    refine hp_iload C dL_law_1140 rfl ?_
    rw [ex]
    refine hp_i2l C dL_law_1142 ?_
    refine hp_lcmp C dL_law_1143 ?_
    refine hp_if_eq (tgt := 1149) C dL_law_1144 (by decide) (fun _ => ?_) (fun z_9 => absurd (lg_self _) z_9)
    refine hp_goto (tgt := 1152) C dL_law_1149 (by decide) ?_
    exact kk _ _ e0 e4
