/-! ===== the law ===== -/
theorem lg_self (x : Int64) : lg_cmp x x = 0 := by
  unfold lg_cmp
  simp
/-- behind i calls -/
def LJ (G : hpG) (k N0 S0 i : Nat) (H : hpT) (a : aS) : Prop := a_Y i a ∧ (∃ N S, LK G (k + 12) k N S H H a ∧ N ≤ N0 + 5 * i ∧ S ≤ S0 + 160 * i) ∧ (∃ c0, LM G (k + 12) c0 H a) ∧ LO G (k + 12) H
def LZ (G : hpG) (N0 S0 : Nat) : Prop := N0 + 50000 ≤ hp_n0 G + hp_LC ∧ S0 + 300000 ≤ hp_LS
theorem LZ.rm {G : hpG} {N0 S0 N S i : Nat} (x : LZ G N0 S0) (h1 : N ≤ N0 + 5 * i) (h2 : S ≤ S0 + 160 * i) (hi : i ≤ 512) : lw_rm G N S := by
  obtain ⟨y1, y2⟩ := x
  exact ⟨by omega, by omega⟩
theorem LM.is {G : hpG} {m : Nat} {c : Int32} {H : hpT} {a : aS} (x : LM G m c H a) : hp_is G H m 6 := by
  obtain ⟨sh, z, R, e⟩ := x
  exact R.o sh
theorem LM.thr {l : Launch} {G : hpG} {m d : Nat} {c : Int32} {H : hpT} {a : aS} (x : LM G m c H a) : hp_C l G yX6_thrown (.code yX6_thrown cX6_thrown 1 (some .int)) d [.ref m] H (fun v h' => v = some (.int c) ∧ h' = H) (fun _ _ => False) := by
  obtain ⟨sh, z, ⟨s, e, r1, r2, r3, r4⟩, ez⟩ := x
  have y := mo_thrown (l := l) (d := d) (s := s) sh
  rw [← e] at y
  refine hp_Cww y (fun v h' hp => ⟨?_, hp.2⟩) (fun _ _ hf => hf)
  rw [hp.1, r4, ez]
theorem lw_next {G : hpG} {k N0 S0 N S i : Nat} {h1 h2 : hpT} {a a1 : aS} {c c0 : Int32} (hd : hp_dE G < hp_n0 G) (y1 : a_Y (i + 1) a1) (k1 : LK G (k + 12) k (N + 5) (S + 160) h1 h1 a1) (m1 : LM G (k + 12) c0 h1 a) (o1 : LO G (k + 12) h1) (r2 : LR (k + 12) h1 a1 c h2) (n1 : N ≤ N0 + 5 * i) (n2 : S ≤ S0 + 160 * i) : LJ G k N0 S0 (i + 1) h2 a1 ∧ LM G (k + 12) c h2 a1 ∧ hp_ar h2 (k + 12 + 20) = hp_ar h1 (k + 12 + 20) := by
  obtain ⟨z, R, ez⟩ := r2
  have m2 : LM G (k + 12) c h2 a1 := ⟨R.sh m1.1, z, R.self, ez⟩
  refine ⟨⟨y1, ⟨N + 5, S + 160, k1.ref hd R m1.1, by omega, by omega⟩, ⟨c, m2⟩, ?_⟩, m2, ?_⟩
  · obtain ⟨s, rfl, -⟩ := R
    exact o1
  · obtain ⟨s, rfl, -⟩ := R
    funext j
    rw [mo_w_ar, if_neg (by omega)]
theorem lw_in {i L : Nat} (hi : 7 * i + 7 ≤ L) (hL : L ≤ 3584) {x : Int32} (h0 : 0 ≤ x.toInt) (h6 : x.toInt ≤ 6) : vp_in (nI (7 * i) + x) L := by
  rw [vp_in_iff]
  have e1 := nI_toInt (n := 7 * i) (by omega)
  have e : (nI (7 * i) + x).toInt = ((7 * i : Nat) : Int) + x.toInt := by
    rw [Int32.toInt_add, e1]
    exact Int.bmod_eq_of_le (by omega) (by omega)
  omega
theorem lw_in0 {i L : Nat} (hi : 7 * i + 7 ≤ L) (hL : L ≤ 3584) : vp_in (nI (7 * i)) L := by
  rw [vp_in_iff]
  have e1 := nI_toInt (n := 7 * i) (by omega)
  omega
theorem lw_go {i L : Nat} (hi : i ≤ 512) (hL : L ≤ 3584) (h : ¬ (Int32.ofNat L - 7 < nI (7 * i))) : 7 * i + 7 ≤ L := by
  rw [Int32.lt_iff_toInt_lt] at h
  have e1 := nI_toInt (n := 7 * i) (by omega)
  have e2 := k_ago2 (t := L) (x := 7) (by omega) (by omega)
  have e3 : (Int32.ofNat L - 7).toInt = (L : Int) - 7 := e2
  omega
theorem lw_inc (i : Nat) : nI (7 * i) + Int32.ofInt 7 = nI (7 * (i + 1)) := by
  show Int32.ofNat (7 * i) + Int32.ofNat 7 = Int32.ofNat (7 * (i + 1))
  rw [← Int32.ofNat_add]
  rfl
set_option maxRecDepth 20000 in
set_option maxHeartbeats 4000000 in
theorem lq_first {M : hpM} {G : hpG} {h0 H : hpT} {Q : State → Prop} {lo : Nat → Option Value} {k b N0 S0 i L : Nat} {a : aS} {xs : Nat → Int32} (C : hp_F M G yL_law cL_law 7 2000 h0) (J : LJ G k N0 S0 i H a) (Z0 : LZ G N0 S0) (hX : va_X b L xs (hp_st M) (hp_H0 G)) (hb : b < hp_n0 G) (hi : 7 * i + 7 ≤ L) (hL : L ≤ 3584) (e0 : lo 0 = some (.ref b)) (e1 : lo 1 = some (.ref k)) (e2 : lo 2 = some (.ref (k + 12))) (e3 : lo 3 = some (.ref (k + 12 + 20))) (e4 : lo 4 = some (.int (nI (7 * i))))
    (kk : ∀ (h9 : hpT) (lo9 : Nat → Option Value) (a9 : aS), LJ G k N0 S0 (i + 1) h9 a9 → lo9 0 = some (.ref b) → lo9 1 = some (.ref k) → lo9 2 = some (.ref (k + 12)) → lo9 3 = some (.ref (k + 12 + 20)) → lo9 4 = some (.int (nI (7 * i))) → hp_V M G 7 Q h9 769 lo9 []) : hp_V M G 7 Q H 120 lo [] := by
  have hd := C.en.2.2.2.2.2.2.1
  obtain ⟨y0, ⟨N, S, x1, n1, n2⟩, ⟨c0, x2⟩, x3⟩ := J
  have hi5 : i < 512 := by omega
  have rm := Z0.rm n1 n2 (Nat.le_of_lt hi5)
  obtain ⟨a1, c, y1, cl, cr⟩ := lj_first y0 hi5 (xs (nI (7 * i) + 1 : Int32).toNatClampNeg) (xs (nI (7 * i) + 2 : Int32).toNatClampNeg) (xs (nI (7 * i) + 3 : Int32).toNatClampNeg)
  refine hp_aload_nR C dL_law_120 e1 ?_
  refine hp_aload_nR C dL_law_121 e0 ?_
  refine hp_iload C dL_law_122 e4 ?_
  refine hp_iconst (v := 1) C dL_law_124 (by decide) ?_
  refine hp_iadd C dL_law_125 ?_
  refine hp_sld C hX hb (lw_in hi hL (by decide) (by decide)) rfl dL_law_126 ?_
  refine hp_aload_nR C dL_law_127 e0 ?_
  refine hp_iload C dL_law_128 e4 ?_
  refine hp_iconst (v := 2) C dL_law_130 (by decide) ?_
  refine hp_iadd C dL_law_131 ?_
  refine hp_sld C hX hb (lw_in hi hL (by decide) (by decide)) rfl dL_law_132 ?_
  refine hp_aload_nR C dL_law_133 e0 ?_
  refine hp_iload C dL_law_134 e4 ?_
  refine hp_iconst (v := 3) C dL_law_136 (by decide) ?_
  refine hp_iadd C dL_law_137 ?_
  refine hp_sld C hX hb (lw_in hi hL (by decide) (by decide)) rfl dL_law_138 ?_
  refine hp_callSX C mx_L_74 (lh_first (d := 1900) x1.isT x2 x3 (cl (d := 1900 - 1) x1 rm (by omega)) (by omega)) (by omega) dL_law_139 rfl rfl (by simp [Value.category]) (fun v_1 h_1 hp => ?_) (fun _ _ hf => hf.elim)
  obtain ⟨rfl, k1, m1, o1⟩ := hp
  refine hp_istore C dL_law_142 (by decide) ?_
  refine hp_aload_nR C dL_law_144 e2 ?_
  refine hp_aload_nR C dL_law_145 e0 ?_
  refine hp_iload C dL_law_146 e4 ?_
  refine hp_iconst (v := 1) C dL_law_148 (by decide) ?_
  refine hp_iadd C dL_law_149 ?_
  refine hp_sld C hX hb (lw_in hi hL (by decide) (by decide)) rfl dL_law_150 ?_
  refine hp_aload_nR C dL_law_151 e0 ?_
  refine hp_iload C dL_law_152 e4 ?_
  refine hp_iconst (v := 2) C dL_law_154 (by decide) ?_
  refine hp_iadd C dL_law_155 ?_
  refine hp_sld C hX hb (lw_in hi hL (by decide) (by decide)) rfl dL_law_156 ?_
  refine hp_aload_nR C dL_law_157 e0 ?_
  refine hp_iload C dL_law_158 e4 ?_
  refine hp_iconst (v := 3) C dL_law_160 (by decide) ?_
  refine hp_iadd C dL_law_161 ?_
  refine hp_sld C hX hb (lw_in hi hL (by decide) (by decide)) rfl dL_law_162 ?_
  refine hp_callV (ci := 6) C ml_L_79 im_X6_first se_X6_first rfl (by decide) (cr (d := 1900) m1 (by omega)) (by omega) dL_law_163 m1.is rfl rfl (by simp [Value.category]) (fun v_2 h_2 hp => ?_) (fun _ _ hf => hf.elim)
  obtain ⟨rfl, r2⟩ := hp
  obtain ⟨J2, m2, ea⟩ := lw_next hd y1 k1 m1 o1 r2 n1 n2
  refine hp_goto (tgt := 769) C dL_law_166 (by decide) ?_
  exact kk _ _ _ J2 e0 e1 e2 e3 e4
set_option maxRecDepth 20000 in
set_option maxHeartbeats 4000000 in
theorem lq_keeper {M : hpM} {G : hpG} {h0 H : hpT} {Q : State → Prop} {lo : Nat → Option Value} {k b N0 S0 i L : Nat} {a : aS} {xs : Nat → Int32} (C : hp_F M G yL_law cL_law 7 2000 h0) (J : LJ G k N0 S0 i H a) (Z0 : LZ G N0 S0) (hX : va_X b L xs (hp_st M) (hp_H0 G)) (hb : b < hp_n0 G) (hi : 7 * i + 7 ≤ L) (hL : L ≤ 3584) (e0 : lo 0 = some (.ref b)) (e1 : lo 1 = some (.ref k)) (e2 : lo 2 = some (.ref (k + 12))) (e3 : lo 3 = some (.ref (k + 12 + 20))) (e4 : lo 4 = some (.int (nI (7 * i))))
    (kk : ∀ (h9 : hpT) (lo9 : Nat → Option Value) (a9 : aS), LJ G k N0 S0 (i + 1) h9 a9 → lo9 0 = some (.ref b) → lo9 1 = some (.ref k) → lo9 2 = some (.ref (k + 12)) → lo9 3 = some (.ref (k + 12 + 20)) → lo9 4 = some (.int (nI (7 * i))) → hp_V M G 7 Q h9 769 lo9 []) : hp_V M G 7 Q H 169 lo [] := by
  have hd := C.en.2.2.2.2.2.2.1
  obtain ⟨y0, ⟨N, S, x1, n1, n2⟩, ⟨c0, x2⟩, x3⟩ := J
  have hi5 : i < 512 := by omega
  have rm := Z0.rm n1 n2 (Nat.le_of_lt hi5)
  obtain ⟨a1, c, w, y1, cl, cr⟩ := lj_keeper y0 hi5 (xs (nI (7 * i) + 1 : Int32).toNatClampNeg) (xs (nI (7 * i) + 2 : Int32).toNatClampNeg) (xs (nI (7 * i) + 3 : Int32).toNatClampNeg) (xs (nI (7 * i) + 4 : Int32).toNatClampNeg) (xs (nI (7 * i) + 5 : Int32).toNatClampNeg)
  refine hp_aload_nR C dL_law_169 e1 ?_
  refine hp_aload_nR C dL_law_170 e0 ?_
  refine hp_iload C dL_law_171 e4 ?_
  refine hp_iconst (v := 1) C dL_law_173 (by decide) ?_
  refine hp_iadd C dL_law_174 ?_
  refine hp_sld C hX hb (lw_in hi hL (by decide) (by decide)) rfl dL_law_175 ?_
  refine hp_aload_nR C dL_law_176 e0 ?_
  refine hp_iload C dL_law_177 e4 ?_
  refine hp_iconst (v := 2) C dL_law_179 (by decide) ?_
  refine hp_iadd C dL_law_180 ?_
  refine hp_sld C hX hb (lw_in hi hL (by decide) (by decide)) rfl dL_law_181 ?_
  refine hp_aload_nR C dL_law_182 e0 ?_
  refine hp_iload C dL_law_183 e4 ?_
  refine hp_iconst (v := 3) C dL_law_185 (by decide) ?_
  refine hp_iadd C dL_law_186 ?_
  refine hp_sld C hX hb (lw_in hi hL (by decide) (by decide)) rfl dL_law_187 ?_
  refine hp_aload_nR C dL_law_188 e0 ?_
  refine hp_iload C dL_law_189 e4 ?_
  refine hp_iconst (v := 4) C dL_law_191 (by decide) ?_
  refine hp_iadd C dL_law_192 ?_
  refine hp_sld C hX hb (lw_in hi hL (by decide) (by decide)) rfl dL_law_193 ?_
  refine hp_aload_nR C dL_law_194 e0 ?_
  refine hp_iload C dL_law_195 e4 ?_
  refine hp_iconst (v := 5) C dL_law_197 (by decide) ?_
  refine hp_iadd C dL_law_198 ?_
  refine hp_sld C hX hb (lw_in hi hL (by decide) (by decide)) rfl dL_law_199 ?_
  refine hp_aload_nR C dL_law_200 e3 ?_
  refine hp_callSX C mx_L_80 (lh_keeper (d := 1900) x1.isT x2 x3 (cl (d := 1900 - 1) x1 rm (by omega)) (by omega)) (by omega) dL_law_201 rfl rfl (by simp [Value.category]) (fun v_1 h_1 hp => ?_) (fun _ _ hf => hf.elim)
  obtain ⟨⟨rfl, k1, m1, o1⟩, hv⟩ := hp
  refine hp_istore C dL_law_204 (by decide) ?_
  refine hp_aload_nR C dL_law_206 e2 ?_
  refine hp_aload_nR C dL_law_207 e0 ?_
  refine hp_iload C dL_law_208 e4 ?_
  refine hp_iconst (v := 1) C dL_law_210 (by decide) ?_
  refine hp_iadd C dL_law_211 ?_
  refine hp_sld C hX hb (lw_in hi hL (by decide) (by decide)) rfl dL_law_212 ?_
  refine hp_aload_nR C dL_law_213 e0 ?_
  refine hp_iload C dL_law_214 e4 ?_
  refine hp_iconst (v := 2) C dL_law_216 (by decide) ?_
  refine hp_iadd C dL_law_217 ?_
  refine hp_sld C hX hb (lw_in hi hL (by decide) (by decide)) rfl dL_law_218 ?_
  refine hp_aload_nR C dL_law_219 e0 ?_
  refine hp_iload C dL_law_220 e4 ?_
  refine hp_iconst (v := 3) C dL_law_222 (by decide) ?_
  refine hp_iadd C dL_law_223 ?_
  refine hp_sld C hX hb (lw_in hi hL (by decide) (by decide)) rfl dL_law_224 ?_
  refine hp_aload_nR C dL_law_225 e0 ?_
  refine hp_iload C dL_law_226 e4 ?_
  refine hp_iconst (v := 4) C dL_law_228 (by decide) ?_
  refine hp_iadd C dL_law_229 ?_
  refine hp_sld C hX hb (lw_in hi hL (by decide) (by decide)) rfl dL_law_230 ?_
  refine hp_aload_nR C dL_law_231 e0 ?_
  refine hp_iload C dL_law_232 e4 ?_
  refine hp_iconst (v := 5) C dL_law_234 (by decide) ?_
  refine hp_iadd C dL_law_235 ?_
  refine hp_sld C hX hb (lw_in hi hL (by decide) (by decide)) rfl dL_law_236 ?_
  refine hp_callV (ci := 6) C ml_L_83 im_X6_keeper se_X6_keeper rfl (by decide) (cr (d := 1900) m1 (by omega)) (by omega) dL_law_237 m1.is rfl rfl (by simp [Value.category]) (fun v_2 h_2 hp => ?_) (fun _ _ hf => hf.elim)
  obtain ⟨⟨y2, rfl, ey⟩, r2⟩ := hp
  obtain ⟨J2, m2, ea⟩ := lw_next hd y1 k1 m1 o1 r2 n1 n2
  refine hp_istore C dL_law_240 (by decide) ?_
  refine hp_goto (tgt := 769) C dL_law_242 (by decide) ?_
  exact kk _ _ _ J2 e0 e1 e2 e3 e4
set_option maxRecDepth 20000 in
set_option maxHeartbeats 4000000 in
theorem lq_worker {M : hpM} {G : hpG} {h0 H : hpT} {Q : State → Prop} {lo : Nat → Option Value} {k b N0 S0 i L : Nat} {a : aS} {xs : Nat → Int32} (C : hp_F M G yL_law cL_law 7 2000 h0) (J : LJ G k N0 S0 i H a) (Z0 : LZ G N0 S0) (hX : va_X b L xs (hp_st M) (hp_H0 G)) (hb : b < hp_n0 G) (hi : 7 * i + 7 ≤ L) (hL : L ≤ 3584) (e0 : lo 0 = some (.ref b)) (e1 : lo 1 = some (.ref k)) (e2 : lo 2 = some (.ref (k + 12))) (e3 : lo 3 = some (.ref (k + 12 + 20))) (e4 : lo 4 = some (.int (nI (7 * i))))
    (kk : ∀ (h9 : hpT) (lo9 : Nat → Option Value) (a9 : aS), LJ G k N0 S0 (i + 1) h9 a9 → lo9 0 = some (.ref b) → lo9 1 = some (.ref k) → lo9 2 = some (.ref (k + 12)) → lo9 3 = some (.ref (k + 12 + 20)) → lo9 4 = some (.int (nI (7 * i))) → hp_V M G 7 Q h9 769 lo9 []) : hp_V M G 7 Q H 245 lo [] := by
  have hd := C.en.2.2.2.2.2.2.1
  obtain ⟨y0, ⟨N, S, x1, n1, n2⟩, ⟨c0, x2⟩, x3⟩ := J
  have hi5 : i < 512 := by omega
  have rm := Z0.rm n1 n2 (Nat.le_of_lt hi5)
  obtain ⟨a1, c, w, y1, cl, cr⟩ := lj_worker y0 hi5 (xs (nI (7 * i) + 1 : Int32).toNatClampNeg) (xs (nI (7 * i) + 2 : Int32).toNatClampNeg) (xs (nI (7 * i) + 3 : Int32).toNatClampNeg) (xs (nI (7 * i) + 4 : Int32).toNatClampNeg) (xs (nI (7 * i) + 5 : Int32).toNatClampNeg) (xs (nI (7 * i) + 6 : Int32).toNatClampNeg)
  refine hp_aload_nR C dL_law_245 e1 ?_
  refine hp_aload_nR C dL_law_246 e0 ?_
  refine hp_iload C dL_law_247 e4 ?_
  refine hp_iconst (v := 1) C dL_law_249 (by decide) ?_
  refine hp_iadd C dL_law_250 ?_
  refine hp_sld C hX hb (lw_in hi hL (by decide) (by decide)) rfl dL_law_251 ?_
  refine hp_aload_nR C dL_law_252 e0 ?_
  refine hp_iload C dL_law_253 e4 ?_
  refine hp_iconst (v := 2) C dL_law_255 (by decide) ?_
  refine hp_iadd C dL_law_256 ?_
  refine hp_sld C hX hb (lw_in hi hL (by decide) (by decide)) rfl dL_law_257 ?_
  refine hp_aload_nR C dL_law_258 e0 ?_
  refine hp_iload C dL_law_259 e4 ?_
  refine hp_iconst (v := 3) C dL_law_261 (by decide) ?_
  refine hp_iadd C dL_law_262 ?_
  refine hp_sld C hX hb (lw_in hi hL (by decide) (by decide)) rfl dL_law_263 ?_
  refine hp_aload_nR C dL_law_264 e0 ?_
  refine hp_iload C dL_law_265 e4 ?_
  refine hp_iconst (v := 4) C dL_law_267 (by decide) ?_
  refine hp_iadd C dL_law_268 ?_
  refine hp_sld C hX hb (lw_in hi hL (by decide) (by decide)) rfl dL_law_269 ?_
  refine hp_aload_nR C dL_law_270 e0 ?_
  refine hp_iload C dL_law_271 e4 ?_
  refine hp_iconst (v := 5) C dL_law_273 (by decide) ?_
  refine hp_iadd C dL_law_274 ?_
  refine hp_sld C hX hb (lw_in hi hL (by decide) (by decide)) rfl dL_law_275 ?_
  refine hp_aload_nR C dL_law_276 e0 ?_
  refine hp_iload C dL_law_277 e4 ?_
  refine hp_bipush (v := 6) C dL_law_279 (by decide) ?_
  refine hp_iadd C dL_law_281 ?_
  refine hp_sld C hX hb (lw_in hi hL (by decide) (by decide)) rfl dL_law_282 ?_
  refine hp_aload_nR C dL_law_283 e3 ?_
  refine hp_callSX C mx_L_84 (lh_worker (d := 1900) x1.isT x2 x3 (cl (d := 1900 - 1) x1 rm (by omega)) (by omega)) (by omega) dL_law_284 rfl rfl (by simp [Value.category]) (fun v_1 h_1 hp => ?_) (fun _ _ hf => hf.elim)
  obtain ⟨⟨rfl, k1, m1, o1⟩, hv⟩ := hp
  refine hp_istore C dL_law_287 (by decide) ?_
  refine hp_aload_nR C dL_law_289 e2 ?_
  refine hp_aload_nR C dL_law_290 e0 ?_
  refine hp_iload C dL_law_291 e4 ?_
  refine hp_iconst (v := 1) C dL_law_293 (by decide) ?_
  refine hp_iadd C dL_law_294 ?_
  refine hp_sld C hX hb (lw_in hi hL (by decide) (by decide)) rfl dL_law_295 ?_
  refine hp_aload_nR C dL_law_296 e0 ?_
  refine hp_iload C dL_law_297 e4 ?_
  refine hp_iconst (v := 2) C dL_law_299 (by decide) ?_
  refine hp_iadd C dL_law_300 ?_
  refine hp_sld C hX hb (lw_in hi hL (by decide) (by decide)) rfl dL_law_301 ?_
  refine hp_aload_nR C dL_law_302 e0 ?_
  refine hp_iload C dL_law_303 e4 ?_
  refine hp_iconst (v := 3) C dL_law_305 (by decide) ?_
  refine hp_iadd C dL_law_306 ?_
  refine hp_sld C hX hb (lw_in hi hL (by decide) (by decide)) rfl dL_law_307 ?_
  refine hp_aload_nR C dL_law_308 e0 ?_
  refine hp_iload C dL_law_309 e4 ?_
  refine hp_iconst (v := 4) C dL_law_311 (by decide) ?_
  refine hp_iadd C dL_law_312 ?_
  refine hp_sld C hX hb (lw_in hi hL (by decide) (by decide)) rfl dL_law_313 ?_
  refine hp_aload_nR C dL_law_314 e0 ?_
  refine hp_iload C dL_law_315 e4 ?_
  refine hp_iconst (v := 5) C dL_law_317 (by decide) ?_
  refine hp_iadd C dL_law_318 ?_
  refine hp_sld C hX hb (lw_in hi hL (by decide) (by decide)) rfl dL_law_319 ?_
  refine hp_aload_nR C dL_law_320 e0 ?_
  refine hp_iload C dL_law_321 e4 ?_
  refine hp_bipush (v := 6) C dL_law_323 (by decide) ?_
  refine hp_iadd C dL_law_325 ?_
  refine hp_sld C hX hb (lw_in hi hL (by decide) (by decide)) rfl dL_law_326 ?_
  refine hp_callV (ci := 6) C ml_L_87 im_X6_worker se_X6_worker rfl (by decide) (cr (d := 1900) m1 (by omega)) (by omega) dL_law_327 m1.is rfl rfl (by simp [Value.category]) (fun v_2 h_2 hp => ?_) (fun _ _ hf => hf.elim)
  obtain ⟨⟨y2, rfl, ey⟩, r2⟩ := hp
  obtain ⟨J2, m2, ea⟩ := lw_next hd y1 k1 m1 o1 r2 n1 n2
  refine hp_istore C dL_law_330 (by decide) ?_
  refine hp_goto (tgt := 769) C dL_law_332 (by decide) ?_
  exact kk _ _ _ J2 e0 e1 e2 e3 e4
set_option maxRecDepth 20000 in
set_option maxHeartbeats 4000000 in
theorem lq_failing {M : hpM} {G : hpG} {h0 H : hpT} {Q : State → Prop} {lo : Nat → Option Value} {k b N0 S0 i L : Nat} {a : aS} {xs : Nat → Int32} (C : hp_F M G yL_law cL_law 7 2000 h0) (J : LJ G k N0 S0 i H a) (Z0 : LZ G N0 S0) (hX : va_X b L xs (hp_st M) (hp_H0 G)) (hb : b < hp_n0 G) (hi : 7 * i + 7 ≤ L) (hL : L ≤ 3584) (e0 : lo 0 = some (.ref b)) (e1 : lo 1 = some (.ref k)) (e2 : lo 2 = some (.ref (k + 12))) (e3 : lo 3 = some (.ref (k + 12 + 20))) (e4 : lo 4 = some (.int (nI (7 * i))))
    (kk : ∀ (h9 : hpT) (lo9 : Nat → Option Value) (a9 : aS), LJ G k N0 S0 (i + 1) h9 a9 → lo9 0 = some (.ref b) → lo9 1 = some (.ref k) → lo9 2 = some (.ref (k + 12)) → lo9 3 = some (.ref (k + 12 + 20)) → lo9 4 = some (.int (nI (7 * i))) → hp_V M G 7 Q h9 769 lo9 []) : hp_V M G 7 Q H 335 lo [] := by
  have hd := C.en.2.2.2.2.2.2.1
  obtain ⟨y0, ⟨N, S, x1, n1, n2⟩, ⟨c0, x2⟩, x3⟩ := J
  have hi5 : i < 512 := by omega
  have rm := Z0.rm n1 n2 (Nat.le_of_lt hi5)
  obtain ⟨a1, c, w, y1, cl, cr⟩ := lj_failing y0 hi5 (xs (nI (7 * i) + 1 : Int32).toNatClampNeg) (xs (nI (7 * i) + 2 : Int32).toNatClampNeg)
  refine hp_aload_nR C dL_law_335 e1 ?_
  refine hp_aload_nR C dL_law_336 e0 ?_
  refine hp_iload C dL_law_337 e4 ?_
  refine hp_iconst (v := 1) C dL_law_339 (by decide) ?_
  refine hp_iadd C dL_law_340 ?_
  refine hp_sld C hX hb (lw_in hi hL (by decide) (by decide)) rfl dL_law_341 ?_
  refine hp_aload_nR C dL_law_342 e0 ?_
  refine hp_iload C dL_law_343 e4 ?_
  refine hp_iconst (v := 2) C dL_law_345 (by decide) ?_
  refine hp_iadd C dL_law_346 ?_
  refine hp_sld C hX hb (lw_in hi hL (by decide) (by decide)) rfl dL_law_347 ?_
  refine hp_aload_nR C dL_law_348 e3 ?_
  refine hp_callSX C mx_L_88 (lh_failing (d := 1900) x1.isT x2 x3 (cl (d := 1900 - 1) x1 rm (by omega)) (by omega)) (by omega) dL_law_349 rfl rfl (by simp [Value.category]) (fun v_1 h_1 hp => ?_) (fun _ _ hf => hf.elim)
  obtain ⟨⟨rfl, k1, m1, o1⟩, hv⟩ := hp
  refine hp_istore C dL_law_352 (by decide) ?_
  refine hp_aload_nR C dL_law_354 e2 ?_
  refine hp_aload_nR C dL_law_355 e0 ?_
  refine hp_iload C dL_law_356 e4 ?_
  refine hp_iconst (v := 1) C dL_law_358 (by decide) ?_
  refine hp_iadd C dL_law_359 ?_
  refine hp_sld C hX hb (lw_in hi hL (by decide) (by decide)) rfl dL_law_360 ?_
  refine hp_aload_nR C dL_law_361 e0 ?_
  refine hp_iload C dL_law_362 e4 ?_
  refine hp_iconst (v := 2) C dL_law_364 (by decide) ?_
  refine hp_iadd C dL_law_365 ?_
  refine hp_sld C hX hb (lw_in hi hL (by decide) (by decide)) rfl dL_law_366 ?_
  refine hp_callV (ci := 6) C ml_L_91 im_X6_failing se_X6_failing rfl (by decide) (cr (d := 1900) m1 (by omega)) (by omega) dL_law_367 m1.is rfl rfl (by simp [Value.category]) (fun v_2 h_2 hp => ?_) (fun _ _ hf => hf.elim)
  obtain ⟨⟨y2, rfl, ey⟩, r2⟩ := hp
  obtain ⟨J2, m2, ea⟩ := lw_next hd y1 k1 m1 o1 r2 n1 n2
  refine hp_istore C dL_law_370 (by decide) ?_
  refine hp_goto (tgt := 769) C dL_law_372 (by decide) ?_
  exact kk _ _ _ J2 e0 e1 e2 e3 e4
set_option maxRecDepth 20000 in
set_option maxHeartbeats 4000000 in
theorem lq_begin {M : hpM} {G : hpG} {h0 H : hpT} {Q : State → Prop} {lo : Nat → Option Value} {k b N0 S0 i L : Nat} {a : aS} {xs : Nat → Int32} (C : hp_F M G yL_law cL_law 7 2000 h0) (J : LJ G k N0 S0 i H a) (Z0 : LZ G N0 S0) (hX : va_X b L xs (hp_st M) (hp_H0 G)) (hb : b < hp_n0 G) (hi : 7 * i + 7 ≤ L) (hL : L ≤ 3584) (e0 : lo 0 = some (.ref b)) (e1 : lo 1 = some (.ref k)) (e2 : lo 2 = some (.ref (k + 12))) (e3 : lo 3 = some (.ref (k + 12 + 20))) (e4 : lo 4 = some (.int (nI (7 * i))))
    (kk : ∀ (h9 : hpT) (lo9 : Nat → Option Value) (a9 : aS), LJ G k N0 S0 (i + 1) h9 a9 → lo9 0 = some (.ref b) → lo9 1 = some (.ref k) → lo9 2 = some (.ref (k + 12)) → lo9 3 = some (.ref (k + 12 + 20)) → lo9 4 = some (.int (nI (7 * i))) → hp_V M G 7 Q h9 769 lo9 []) : hp_V M G 7 Q H 375 lo [] := by
  have hd := C.en.2.2.2.2.2.2.1
  obtain ⟨y0, ⟨N, S, x1, n1, n2⟩, ⟨c0, x2⟩, x3⟩ := J
  have hi5 : i < 512 := by omega
  have rm := Z0.rm n1 n2 (Nat.le_of_lt hi5)
  obtain ⟨a1, c, w, y1, cl, cr⟩ := lj_begin y0 hi5
  refine hp_aload_nR C dL_law_375 e1 ?_
  refine hp_aload_nR C dL_law_376 e3 ?_
  refine hp_callSX C mx_L_92 (lh_begin (d := 1900) x1.isT x2 x3 (cl (d := 1900 - 1) x1 rm (by omega)) (by omega)) (by omega) dL_law_377 rfl rfl (by simp [Value.category]) (fun v_1 h_1 hp => ?_) (fun _ _ hf => hf.elim)
  obtain ⟨⟨rfl, k1, m1, o1⟩, hv⟩ := hp
  refine hp_istore C dL_law_380 (by decide) ?_
  refine hp_aload_nR C dL_law_382 e2 ?_
  refine hp_callV (ci := 6) C ml_L_95 im_X6_begin se_X6_begin rfl (by decide) (cr (d := 1900) m1 (by omega)) (by omega) dL_law_383 m1.is rfl rfl (by simp [Value.category]) (fun v_2 h_2 hp => ?_) (fun _ _ hf => hf.elim)
  obtain ⟨⟨y2, rfl, ey⟩, r2⟩ := hp
  obtain ⟨J2, m2, ea⟩ := lw_next hd y1 k1 m1 o1 r2 n1 n2
  refine hp_istore C dL_law_386 (by decide) ?_
  refine hp_goto (tgt := 769) C dL_law_388 (by decide) ?_
  exact kk _ _ _ J2 e0 e1 e2 e3 e4
set_option maxRecDepth 20000 in
set_option maxHeartbeats 4000000 in
theorem lq_ends {M : hpM} {G : hpG} {h0 H : hpT} {Q : State → Prop} {lo : Nat → Option Value} {k b N0 S0 i L : Nat} {a : aS} {xs : Nat → Int32} (C : hp_F M G yL_law cL_law 7 2000 h0) (J : LJ G k N0 S0 i H a) (Z0 : LZ G N0 S0) (hX : va_X b L xs (hp_st M) (hp_H0 G)) (hb : b < hp_n0 G) (hi : 7 * i + 7 ≤ L) (hL : L ≤ 3584) (e0 : lo 0 = some (.ref b)) (e1 : lo 1 = some (.ref k)) (e2 : lo 2 = some (.ref (k + 12))) (e3 : lo 3 = some (.ref (k + 12 + 20))) (e4 : lo 4 = some (.int (nI (7 * i))))
    (kk : ∀ (h9 : hpT) (lo9 : Nat → Option Value) (a9 : aS), LJ G k N0 S0 (i + 1) h9 a9 → lo9 0 = some (.ref b) → lo9 1 = some (.ref k) → lo9 2 = some (.ref (k + 12)) → lo9 3 = some (.ref (k + 12 + 20)) → lo9 4 = some (.int (nI (7 * i))) → hp_V M G 7 Q h9 769 lo9 []) : hp_V M G 7 Q H 391 lo [] := by
  have hd := C.en.2.2.2.2.2.2.1
  obtain ⟨y0, ⟨N, S, x1, n1, n2⟩, ⟨c0, x2⟩, x3⟩ := J
  have hi5 : i < 512 := by omega
  have rm := Z0.rm n1 n2 (Nat.le_of_lt hi5)
  obtain ⟨a1, c, y1, cl, cr⟩ := lj_ends y0 hi5 (xs (nI (7 * i) + 1 : Int32).toNatClampNeg) (xs (nI (7 * i) + 2 : Int32).toNatClampNeg)
  refine hp_aload_nR C dL_law_391 e1 ?_
  refine hp_aload_nR C dL_law_392 e0 ?_
  refine hp_iload C dL_law_393 e4 ?_
  refine hp_iconst (v := 1) C dL_law_395 (by decide) ?_
  refine hp_iadd C dL_law_396 ?_
  refine hp_sld C hX hb (lw_in hi hL (by decide) (by decide)) rfl dL_law_397 ?_
  refine hp_aload_nR C dL_law_398 e0 ?_
  refine hp_iload C dL_law_399 e4 ?_
  refine hp_iconst (v := 2) C dL_law_401 (by decide) ?_
  refine hp_iadd C dL_law_402 ?_
  refine hp_sld C hX hb (lw_in hi hL (by decide) (by decide)) rfl dL_law_403 ?_
  refine hp_callSX C mx_L_96 (lh_ends (d := 1900) x1.isT x2 x3 (cl (d := 1900 - 1) x1 rm (by omega)) (by omega)) (by omega) dL_law_404 rfl rfl (by simp [Value.category]) (fun v_1 h_1 hp => ?_) (fun _ _ hf => hf.elim)
  obtain ⟨rfl, k1, m1, o1⟩ := hp
  refine hp_istore C dL_law_407 (by decide) ?_
  refine hp_aload_nR C dL_law_409 e2 ?_
  refine hp_aload_nR C dL_law_410 e0 ?_
  refine hp_iload C dL_law_411 e4 ?_
  refine hp_iconst (v := 1) C dL_law_413 (by decide) ?_
  refine hp_iadd C dL_law_414 ?_
  refine hp_sld C hX hb (lw_in hi hL (by decide) (by decide)) rfl dL_law_415 ?_
  refine hp_aload_nR C dL_law_416 e0 ?_
  refine hp_iload C dL_law_417 e4 ?_
  refine hp_iconst (v := 2) C dL_law_419 (by decide) ?_
  refine hp_iadd C dL_law_420 ?_
  refine hp_sld C hX hb (lw_in hi hL (by decide) (by decide)) rfl dL_law_421 ?_
  refine hp_callV (ci := 6) C ml_L_99 im_X6_ends se_X6_ends rfl (by decide) (cr (d := 1900) m1 (by omega)) (by omega) dL_law_422 m1.is rfl rfl (by simp [Value.category]) (fun v_2 h_2 hp => ?_) (fun _ _ hf => hf.elim)
  obtain ⟨rfl, r2⟩ := hp
  obtain ⟨J2, m2, ea⟩ := lw_next hd y1 k1 m1 o1 r2 n1 n2
  refine hp_goto (tgt := 769) C dL_law_425 (by decide) ?_
  exact kk _ _ _ J2 e0 e1 e2 e3 e4
set_option maxRecDepth 20000 in
set_option maxHeartbeats 4000000 in
theorem lq_kill {M : hpM} {G : hpG} {h0 H : hpT} {Q : State → Prop} {lo : Nat → Option Value} {k b N0 S0 i L : Nat} {a : aS} {xs : Nat → Int32} (C : hp_F M G yL_law cL_law 7 2000 h0) (J : LJ G k N0 S0 i H a) (Z0 : LZ G N0 S0) (hX : va_X b L xs (hp_st M) (hp_H0 G)) (hb : b < hp_n0 G) (hi : 7 * i + 7 ≤ L) (hL : L ≤ 3584) (e0 : lo 0 = some (.ref b)) (e1 : lo 1 = some (.ref k)) (e2 : lo 2 = some (.ref (k + 12))) (e3 : lo 3 = some (.ref (k + 12 + 20))) (e4 : lo 4 = some (.int (nI (7 * i))))
    (kk : ∀ (h9 : hpT) (lo9 : Nat → Option Value) (a9 : aS), LJ G k N0 S0 (i + 1) h9 a9 → lo9 0 = some (.ref b) → lo9 1 = some (.ref k) → lo9 2 = some (.ref (k + 12)) → lo9 3 = some (.ref (k + 12 + 20)) → lo9 4 = some (.int (nI (7 * i))) → hp_V M G 7 Q h9 769 lo9 []) : hp_V M G 7 Q H 428 lo [] := by
  have hd := C.en.2.2.2.2.2.2.1
  obtain ⟨y0, ⟨N, S, x1, n1, n2⟩, ⟨c0, x2⟩, x3⟩ := J
  have hi5 : i < 512 := by omega
  have rm := Z0.rm n1 n2 (Nat.le_of_lt hi5)
  obtain ⟨a1, c, w, y1, cl, cr⟩ := lj_kill y0 hi5 (xs (nI (7 * i) + 1 : Int32).toNatClampNeg)
  refine hp_aload_nR C dL_law_428 e1 ?_
  refine hp_aload_nR C dL_law_429 e0 ?_
  refine hp_iload C dL_law_430 e4 ?_
  refine hp_iconst (v := 1) C dL_law_432 (by decide) ?_
  refine hp_iadd C dL_law_433 ?_
  refine hp_sld C hX hb (lw_in hi hL (by decide) (by decide)) rfl dL_law_434 ?_
  refine hp_aload_nR C dL_law_435 e3 ?_
  refine hp_callSX C mx_L_100 (lh_kill (d := 1900) x1.isT x2 x3 (cl (d := 1900 - 1) x1 rm (by omega)) (by omega)) (by omega) dL_law_436 rfl rfl (by simp [Value.category]) (fun v_1 h_1 hp => ?_) (fun _ _ hf => hf.elim)
  obtain ⟨⟨rfl, k1, m1, o1⟩, hv⟩ := hp
  refine hp_istore C dL_law_439 (by decide) ?_
  refine hp_aload_nR C dL_law_441 e2 ?_
  refine hp_aload_nR C dL_law_442 e0 ?_
  refine hp_iload C dL_law_443 e4 ?_
  refine hp_iconst (v := 1) C dL_law_445 (by decide) ?_
  refine hp_iadd C dL_law_446 ?_
  refine hp_sld C hX hb (lw_in hi hL (by decide) (by decide)) rfl dL_law_447 ?_
  refine hp_callV (ci := 6) C ml_L_103 im_X6_kill se_X6_kill rfl (by decide) (cr (d := 1900) m1 (by omega)) (by omega) dL_law_448 m1.is rfl rfl (by simp [Value.category]) (fun v_2 h_2 hp => ?_) (fun _ _ hf => hf.elim)
  obtain ⟨⟨y2, rfl, ey⟩, r2⟩ := hp
  obtain ⟨J2, m2, ea⟩ := lw_next hd y1 k1 m1 o1 r2 n1 n2
  refine hp_istore C dL_law_451 (by decide) ?_
  refine hp_goto (tgt := 769) C dL_law_453 (by decide) ?_
  exact kk _ _ _ J2 e0 e1 e2 e3 e4
set_option maxRecDepth 20000 in
set_option maxHeartbeats 4000000 in
theorem lq_stop {M : hpM} {G : hpG} {h0 H : hpT} {Q : State → Prop} {lo : Nat → Option Value} {k b N0 S0 i L : Nat} {a : aS} {xs : Nat → Int32} (C : hp_F M G yL_law cL_law 7 2000 h0) (J : LJ G k N0 S0 i H a) (Z0 : LZ G N0 S0) (hX : va_X b L xs (hp_st M) (hp_H0 G)) (hb : b < hp_n0 G) (hi : 7 * i + 7 ≤ L) (hL : L ≤ 3584) (e0 : lo 0 = some (.ref b)) (e1 : lo 1 = some (.ref k)) (e2 : lo 2 = some (.ref (k + 12))) (e3 : lo 3 = some (.ref (k + 12 + 20))) (e4 : lo 4 = some (.int (nI (7 * i))))
    (kk : ∀ (h9 : hpT) (lo9 : Nat → Option Value) (a9 : aS), LJ G k N0 S0 (i + 1) h9 a9 → lo9 0 = some (.ref b) → lo9 1 = some (.ref k) → lo9 2 = some (.ref (k + 12)) → lo9 3 = some (.ref (k + 12 + 20)) → lo9 4 = some (.int (nI (7 * i))) → hp_V M G 7 Q h9 769 lo9 []) : hp_V M G 7 Q H 456 lo [] := by
  have hd := C.en.2.2.2.2.2.2.1
  obtain ⟨y0, ⟨N, S, x1, n1, n2⟩, ⟨c0, x2⟩, x3⟩ := J
  have hi5 : i < 512 := by omega
  have rm := Z0.rm n1 n2 (Nat.le_of_lt hi5)
  obtain ⟨a1, c, y1, cl, cr⟩ := lj_stop y0 hi5 (xs (nI (7 * i) + 1 : Int32).toNatClampNeg)
  refine hp_aload_nR C dL_law_456 e1 ?_
  refine hp_aload_nR C dL_law_457 e0 ?_
  refine hp_iload C dL_law_458 e4 ?_
  refine hp_iconst (v := 1) C dL_law_460 (by decide) ?_
  refine hp_iadd C dL_law_461 ?_
  refine hp_sld C hX hb (lw_in hi hL (by decide) (by decide)) rfl dL_law_462 ?_
  refine hp_callSX C mx_L_104 (lh_stop (d := 1900) x1.isT x2 x3 (cl (d := 1900 - 1) x1 rm (by omega)) (by omega)) (by omega) dL_law_463 rfl rfl (by simp [Value.category]) (fun v_1 h_1 hp => ?_) (fun _ _ hf => hf.elim)
  obtain ⟨rfl, k1, m1, o1⟩ := hp
  refine hp_istore C dL_law_466 (by decide) ?_
  refine hp_aload_nR C dL_law_468 e2 ?_
  refine hp_aload_nR C dL_law_469 e0 ?_
  refine hp_iload C dL_law_470 e4 ?_
  refine hp_iconst (v := 1) C dL_law_472 (by decide) ?_
  refine hp_iadd C dL_law_473 ?_
  refine hp_sld C hX hb (lw_in hi hL (by decide) (by decide)) rfl dL_law_474 ?_
  refine hp_callV (ci := 6) C ml_L_107 im_X6_stop se_X6_stop rfl (by decide) (cr (d := 1900) m1 (by omega)) (by omega) dL_law_475 m1.is rfl rfl (by simp [Value.category]) (fun v_2 h_2 hp => ?_) (fun _ _ hf => hf.elim)
  obtain ⟨rfl, r2⟩ := hp
  obtain ⟨J2, m2, ea⟩ := lw_next hd y1 k1 m1 o1 r2 n1 n2
  refine hp_goto (tgt := 769) C dL_law_478 (by decide) ?_
  exact kk _ _ _ J2 e0 e1 e2 e3 e4
set_option maxRecDepth 20000 in
set_option maxHeartbeats 4000000 in
theorem lq_again {M : hpM} {G : hpG} {h0 H : hpT} {Q : State → Prop} {lo : Nat → Option Value} {k b N0 S0 i L : Nat} {a : aS} {xs : Nat → Int32} (C : hp_F M G yL_law cL_law 7 2000 h0) (J : LJ G k N0 S0 i H a) (Z0 : LZ G N0 S0) (hX : va_X b L xs (hp_st M) (hp_H0 G)) (hb : b < hp_n0 G) (hi : 7 * i + 7 ≤ L) (hL : L ≤ 3584) (e0 : lo 0 = some (.ref b)) (e1 : lo 1 = some (.ref k)) (e2 : lo 2 = some (.ref (k + 12))) (e3 : lo 3 = some (.ref (k + 12 + 20))) (e4 : lo 4 = some (.int (nI (7 * i))))
    (kk : ∀ (h9 : hpT) (lo9 : Nat → Option Value) (a9 : aS), LJ G k N0 S0 (i + 1) h9 a9 → lo9 0 = some (.ref b) → lo9 1 = some (.ref k) → lo9 2 = some (.ref (k + 12)) → lo9 3 = some (.ref (k + 12 + 20)) → lo9 4 = some (.int (nI (7 * i))) → hp_V M G 7 Q h9 769 lo9 []) : hp_V M G 7 Q H 481 lo [] := by
  have hd := C.en.2.2.2.2.2.2.1
  obtain ⟨y0, ⟨N, S, x1, n1, n2⟩, ⟨c0, x2⟩, x3⟩ := J
  have hi5 : i < 512 := by omega
  have rm := Z0.rm n1 n2 (Nat.le_of_lt hi5)
  obtain ⟨a1, c, w, y1, cl, cr⟩ := lj_again y0 hi5 (xs (nI (7 * i) + 1 : Int32).toNatClampNeg)
  refine hp_aload_nR C dL_law_481 e1 ?_
  refine hp_aload_nR C dL_law_482 e0 ?_
  refine hp_iload C dL_law_483 e4 ?_
  refine hp_iconst (v := 1) C dL_law_485 (by decide) ?_
  refine hp_iadd C dL_law_486 ?_
  refine hp_sld C hX hb (lw_in hi hL (by decide) (by decide)) rfl dL_law_487 ?_
  refine hp_aload_nR C dL_law_488 e3 ?_
  refine hp_callSX C mx_L_108 (lh_again (d := 1900) x1.isT x2 x3 (cl (d := 1900 - 1) x1 rm (by omega)) (by omega)) (by omega) dL_law_489 rfl rfl (by simp [Value.category]) (fun v_1 h_1 hp => ?_) (fun _ _ hf => hf.elim)
  obtain ⟨⟨rfl, k1, m1, o1⟩, hv⟩ := hp
  refine hp_istore C dL_law_492 (by decide) ?_
  refine hp_aload_nR C dL_law_494 e2 ?_
  refine hp_aload_nR C dL_law_495 e0 ?_
  refine hp_iload C dL_law_496 e4 ?_
  refine hp_iconst (v := 1) C dL_law_498 (by decide) ?_
  refine hp_iadd C dL_law_499 ?_
  refine hp_sld C hX hb (lw_in hi hL (by decide) (by decide)) rfl dL_law_500 ?_
  refine hp_callV (ci := 6) C ml_L_110 im_X6_again se_X6_again rfl (by decide) (cr (d := 1900) m1 (by omega)) (by omega) dL_law_501 m1.is rfl rfl (by simp [Value.category]) (fun v_2 h_2 hp => ?_) (fun _ _ hf => hf.elim)
  obtain ⟨⟨y2, rfl, ey⟩, r2⟩ := hp
  obtain ⟨J2, m2, ea⟩ := lw_next hd y1 k1 m1 o1 r2 n1 n2
  refine hp_istore C dL_law_504 (by decide) ?_
  refine hp_goto (tgt := 769) C dL_law_506 (by decide) ?_
  exact kk _ _ _ J2 e0 e1 e2 e3 e4
set_option maxRecDepth 20000 in
set_option maxHeartbeats 4000000 in
theorem lq_remove {M : hpM} {G : hpG} {h0 H : hpT} {Q : State → Prop} {lo : Nat → Option Value} {k b N0 S0 i L : Nat} {a : aS} {xs : Nat → Int32} (C : hp_F M G yL_law cL_law 7 2000 h0) (J : LJ G k N0 S0 i H a) (Z0 : LZ G N0 S0) (hX : va_X b L xs (hp_st M) (hp_H0 G)) (hb : b < hp_n0 G) (hi : 7 * i + 7 ≤ L) (hL : L ≤ 3584) (e0 : lo 0 = some (.ref b)) (e1 : lo 1 = some (.ref k)) (e2 : lo 2 = some (.ref (k + 12))) (e3 : lo 3 = some (.ref (k + 12 + 20))) (e4 : lo 4 = some (.int (nI (7 * i))))
    (kk : ∀ (h9 : hpT) (lo9 : Nat → Option Value) (a9 : aS), LJ G k N0 S0 (i + 1) h9 a9 → lo9 0 = some (.ref b) → lo9 1 = some (.ref k) → lo9 2 = some (.ref (k + 12)) → lo9 3 = some (.ref (k + 12 + 20)) → lo9 4 = some (.int (nI (7 * i))) → hp_V M G 7 Q h9 769 lo9 []) : hp_V M G 7 Q H 509 lo [] := by
  have hd := C.en.2.2.2.2.2.2.1
  obtain ⟨y0, ⟨N, S, x1, n1, n2⟩, ⟨c0, x2⟩, x3⟩ := J
  have hi5 : i < 512 := by omega
  have rm := Z0.rm n1 n2 (Nat.le_of_lt hi5)
  obtain ⟨a1, c, w, y1, cl, cr⟩ := lj_remove y0 hi5 (xs (nI (7 * i) + 1 : Int32).toNatClampNeg)
  refine hp_aload_nR C dL_law_509 e1 ?_
  refine hp_aload_nR C dL_law_510 e0 ?_
  refine hp_iload C dL_law_511 e4 ?_
  refine hp_iconst (v := 1) C dL_law_513 (by decide) ?_
  refine hp_iadd C dL_law_514 ?_
  refine hp_sld C hX hb (lw_in hi hL (by decide) (by decide)) rfl dL_law_515 ?_
  refine hp_aload_nR C dL_law_516 e3 ?_
  refine hp_callSX C mx_L_111 (lh_remove (d := 1900) x1.isT x2 x3 (cl (d := 1900 - 1) x1 rm (by omega)) (by omega)) (by omega) dL_law_517 rfl rfl (by simp [Value.category]) (fun v_1 h_1 hp => ?_) (fun _ _ hf => hf.elim)
  obtain ⟨⟨rfl, k1, m1, o1⟩, hv⟩ := hp
  refine hp_istore C dL_law_520 (by decide) ?_
  refine hp_aload_nR C dL_law_522 e2 ?_
  refine hp_aload_nR C dL_law_523 e0 ?_
  refine hp_iload C dL_law_524 e4 ?_
  refine hp_iconst (v := 1) C dL_law_526 (by decide) ?_
  refine hp_iadd C dL_law_527 ?_
  refine hp_sld C hX hb (lw_in hi hL (by decide) (by decide)) rfl dL_law_528 ?_
  refine hp_callV (ci := 6) C ml_L_113 im_X6_remove se_X6_remove rfl (by decide) (cr (d := 1900) m1 (by omega)) (by omega) dL_law_529 m1.is rfl rfl (by simp [Value.category]) (fun v_2 h_2 hp => ?_) (fun _ _ hf => hf.elim)
  obtain ⟨⟨y2, rfl, ey⟩, r2⟩ := hp
  obtain ⟨J2, m2, ea⟩ := lw_next hd y1 k1 m1 o1 r2 n1 n2
  refine hp_istore C dL_law_532 (by decide) ?_
  refine hp_goto (tgt := 769) C dL_law_534 (by decide) ?_
  exact kk _ _ _ J2 e0 e1 e2 e3 e4
set_option maxRecDepth 20000 in
set_option maxHeartbeats 4000000 in
theorem lq_pass {M : hpM} {G : hpG} {h0 H : hpT} {Q : State → Prop} {lo : Nat → Option Value} {k b N0 S0 i L : Nat} {a : aS} {xs : Nat → Int32} (C : hp_F M G yL_law cL_law 7 2000 h0) (J : LJ G k N0 S0 i H a) (Z0 : LZ G N0 S0) (hX : va_X b L xs (hp_st M) (hp_H0 G)) (hb : b < hp_n0 G) (hi : 7 * i + 7 ≤ L) (hL : L ≤ 3584) (e0 : lo 0 = some (.ref b)) (e1 : lo 1 = some (.ref k)) (e2 : lo 2 = some (.ref (k + 12))) (e3 : lo 3 = some (.ref (k + 12 + 20))) (e4 : lo 4 = some (.int (nI (7 * i))))
    (kk : ∀ (h9 : hpT) (lo9 : Nat → Option Value) (a9 : aS), LJ G k N0 S0 (i + 1) h9 a9 → lo9 0 = some (.ref b) → lo9 1 = some (.ref k) → lo9 2 = some (.ref (k + 12)) → lo9 3 = some (.ref (k + 12 + 20)) → lo9 4 = some (.int (nI (7 * i))) → hp_V M G 7 Q h9 769 lo9 []) : hp_V M G 7 Q H 537 lo [] := by
  have hd := C.en.2.2.2.2.2.2.1
  obtain ⟨y0, ⟨N, S, x1, n1, n2⟩, ⟨c0, x2⟩, x3⟩ := J
  have hi5 : i < 512 := by omega
  have rm := Z0.rm n1 n2 (Nat.le_of_lt hi5)
  obtain ⟨a1, c, w, y1, cl, cr⟩ := lj_pass y0 hi5 (xs (nI (7 * i) + 1 : Int32).toNatClampNeg)
  refine hp_aload_nR C dL_law_537 e1 ?_
  refine hp_aload_nR C dL_law_538 e0 ?_
  refine hp_iload C dL_law_539 e4 ?_
  refine hp_iconst (v := 1) C dL_law_541 (by decide) ?_
  refine hp_iadd C dL_law_542 ?_
  refine hp_sld C hX hb (lw_in hi hL (by decide) (by decide)) rfl dL_law_543 ?_
  refine hp_aload_nR C dL_law_544 e3 ?_
  refine hp_callSX C mx_L_114 (lh_pass (d := 1900) x1.isT x2 x3 (cl (d := 1900 - 1) x1 rm (by omega)) (by omega)) (by omega) dL_law_545 rfl rfl (by simp [Value.category]) (fun v_1 h_1 hp => ?_) (fun _ _ hf => hf.elim)
  obtain ⟨⟨rfl, k1, m1, o1⟩, hv⟩ := hp
  refine hp_istore C dL_law_548 (by decide) ?_
  refine hp_aload_nR C dL_law_550 e2 ?_
  refine hp_aload_nR C dL_law_551 e0 ?_
  refine hp_iload C dL_law_552 e4 ?_
  refine hp_iconst (v := 1) C dL_law_554 (by decide) ?_
  refine hp_iadd C dL_law_555 ?_
  refine hp_sld C hX hb (lw_in hi hL (by decide) (by decide)) rfl dL_law_556 ?_
  refine hp_callV (ci := 6) C ml_L_116 im_X6_pass se_X6_pass rfl (by decide) (cr (d := 1900) m1 (by omega)) (by omega) dL_law_557 m1.is rfl rfl (by simp [Value.category]) (fun v_2 h_2 hp => ?_) (fun _ _ hf => hf.elim)
  obtain ⟨⟨y2, rfl, ey⟩, r2⟩ := hp
  obtain ⟨J2, m2, ea⟩ := lw_next hd y1 k1 m1 o1 r2 n1 n2
  refine hp_istore C dL_law_560 (by decide) ?_
  refine hp_goto (tgt := 769) C dL_law_562 (by decide) ?_
  exact kk _ _ _ J2 e0 e1 e2 e3 e4
set_option maxRecDepth 20000 in
set_option maxHeartbeats 4000000 in
theorem lq_state {M : hpM} {G : hpG} {h0 H : hpT} {Q : State → Prop} {lo : Nat → Option Value} {k b N0 S0 i L : Nat} {a : aS} {xs : Nat → Int32} (C : hp_F M G yL_law cL_law 7 2000 h0) (J : LJ G k N0 S0 i H a) (Z0 : LZ G N0 S0) (hX : va_X b L xs (hp_st M) (hp_H0 G)) (hb : b < hp_n0 G) (hi : 7 * i + 7 ≤ L) (hL : L ≤ 3584) (e0 : lo 0 = some (.ref b)) (e1 : lo 1 = some (.ref k)) (e2 : lo 2 = some (.ref (k + 12))) (e3 : lo 3 = some (.ref (k + 12 + 20))) (e4 : lo 4 = some (.int (nI (7 * i))))
    (kk : ∀ (h9 : hpT) (lo9 : Nat → Option Value) (a9 : aS), LJ G k N0 S0 (i + 1) h9 a9 → lo9 0 = some (.ref b) → lo9 1 = some (.ref k) → lo9 2 = some (.ref (k + 12)) → lo9 3 = some (.ref (k + 12 + 20)) → lo9 4 = some (.int (nI (7 * i))) → hp_V M G 7 Q h9 769 lo9 []) : hp_V M G 7 Q H 565 lo [] := by
  have hd := C.en.2.2.2.2.2.2.1
  obtain ⟨y0, ⟨N, S, x1, n1, n2⟩, ⟨c0, x2⟩, x3⟩ := J
  have hi5 : i < 512 := by omega
  have rm := Z0.rm n1 n2 (Nat.le_of_lt hi5)
  obtain ⟨a1, c, w, y1, cl, cr⟩ := lj_state y0 hi5 (xs (nI (7 * i) + 1 : Int32).toNatClampNeg)
  refine hp_aload_nR C dL_law_565 e1 ?_
  refine hp_aload_nR C dL_law_566 e0 ?_
  refine hp_iload C dL_law_567 e4 ?_
  refine hp_iconst (v := 1) C dL_law_569 (by decide) ?_
  refine hp_iadd C dL_law_570 ?_
  refine hp_sld C hX hb (lw_in hi hL (by decide) (by decide)) rfl dL_law_571 ?_
  refine hp_aload_nR C dL_law_572 e3 ?_
  refine hp_callSX C mx_L_117 (lh_state (d := 1900) x1.isT x2 x3 (cl (d := 1900 - 1) x1 rm (by omega)) (by omega)) (by omega) dL_law_573 rfl rfl (by simp [Value.category]) (fun v_1 h_1 hp => ?_) (fun _ _ hf => hf.elim)
  obtain ⟨⟨rfl, k1, m1, o1⟩, hv⟩ := hp
  refine hp_istore C dL_law_576 (by decide) ?_
  refine hp_aload_nR C dL_law_578 e2 ?_
  refine hp_aload_nR C dL_law_579 e0 ?_
  refine hp_iload C dL_law_580 e4 ?_
  refine hp_iconst (v := 1) C dL_law_582 (by decide) ?_
  refine hp_iadd C dL_law_583 ?_
  refine hp_sld C hX hb (lw_in hi hL (by decide) (by decide)) rfl dL_law_584 ?_
  refine hp_callV (ci := 6) C ml_L_119 im_X6_state se_X6_state rfl (by decide) (cr (d := 1900) m1 (by omega)) (by omega) dL_law_585 m1.is rfl rfl (by simp [Value.category]) (fun v_2 h_2 hp => ?_) (fun _ _ hf => hf.elim)
  obtain ⟨⟨y2, rfl, ey⟩, r2⟩ := hp
  obtain ⟨J2, m2, ea⟩ := lw_next hd y1 k1 m1 o1 r2 n1 n2
  refine hp_istore C dL_law_588 (by decide) ?_
  refine hp_goto (tgt := 769) C dL_law_590 (by decide) ?_
  exact kk _ _ _ J2 e0 e1 e2 e3 e4
set_option maxRecDepth 20000 in
set_option maxHeartbeats 4000000 in
theorem lq_about {M : hpM} {G : hpG} {h0 H : hpT} {Q : State → Prop} {lo : Nat → Option Value} {k b N0 S0 i L : Nat} {a : aS} {xs : Nat → Int32} (C : hp_F M G yL_law cL_law 7 2000 h0) (J : LJ G k N0 S0 i H a) (Z0 : LZ G N0 S0) (hX : va_X b L xs (hp_st M) (hp_H0 G)) (hb : b < hp_n0 G) (hi : 7 * i + 7 ≤ L) (hL : L ≤ 3584) (e0 : lo 0 = some (.ref b)) (e1 : lo 1 = some (.ref k)) (e2 : lo 2 = some (.ref (k + 12))) (e3 : lo 3 = some (.ref (k + 12 + 20))) (e4 : lo 4 = some (.int (nI (7 * i))))
    (kk : ∀ (h9 : hpT) (lo9 : Nat → Option Value) (a9 : aS), LJ G k N0 S0 (i + 1) h9 a9 → lo9 0 = some (.ref b) → lo9 1 = some (.ref k) → lo9 2 = some (.ref (k + 12)) → lo9 3 = some (.ref (k + 12 + 20)) → lo9 4 = some (.int (nI (7 * i))) → hp_V M G 7 Q h9 769 lo9 []) : hp_V M G 7 Q H 593 lo [] := by
  have hd := C.en.2.2.2.2.2.2.1
  obtain ⟨y0, ⟨N, S, x1, n1, n2⟩, ⟨c0, x2⟩, x3⟩ := J
  have hi5 : i < 512 := by omega
  have rm := Z0.rm n1 n2 (Nat.le_of_lt hi5)
  obtain ⟨a1, c, y1, cl, cr⟩ := lj_about y0 hi5 (xs (nI (7 * i) + 1 : Int32).toNatClampNeg) (xs (nI (7 * i) + 2 : Int32).toNatClampNeg)
  refine hp_aload_nR C dL_law_593 e1 ?_
  refine hp_aload_nR C dL_law_594 e0 ?_
  refine hp_iload C dL_law_595 e4 ?_
  refine hp_iconst (v := 1) C dL_law_597 (by decide) ?_
  refine hp_iadd C dL_law_598 ?_
  refine hp_sld C hX hb (lw_in hi hL (by decide) (by decide)) rfl dL_law_599 ?_
  refine hp_aload_nR C dL_law_600 e0 ?_
  refine hp_iload C dL_law_601 e4 ?_
  refine hp_iconst (v := 2) C dL_law_603 (by decide) ?_
  refine hp_iadd C dL_law_604 ?_
  refine hp_sld C hX hb (lw_in hi hL (by decide) (by decide)) rfl dL_law_605 ?_
  refine hp_aload_nR C dL_law_606 e3 ?_
  refine hp_callSX C mx_L_120 (lh_about (d := 1900) x1.isT x2 x3 (cl (d := 1900 - 1) x1 rm (by omega)) (by omega)) (by omega) dL_law_607 rfl rfl (by simp [Value.category]) (fun v_1 h_1 hp => ?_) (fun _ _ hf => hf.elim)
  obtain ⟨rfl, k1, m1, o1⟩ := hp
  refine hp_istore C dL_law_610 (by decide) ?_
  refine hp_aload_nR C dL_law_612 e2 ?_
  refine hp_aload_nR C dL_law_613 e0 ?_
  refine hp_iload C dL_law_614 e4 ?_
  refine hp_iconst (v := 1) C dL_law_616 (by decide) ?_
  refine hp_iadd C dL_law_617 ?_
  refine hp_sld C hX hb (lw_in hi hL (by decide) (by decide)) rfl dL_law_618 ?_
  refine hp_aload_nR C dL_law_619 e0 ?_
  refine hp_iload C dL_law_620 e4 ?_
  refine hp_iconst (v := 2) C dL_law_622 (by decide) ?_
  refine hp_iadd C dL_law_623 ?_
  refine hp_sld C hX hb (lw_in hi hL (by decide) (by decide)) rfl dL_law_624 ?_
  refine hp_callV (ci := 6) C ml_L_122 im_X6_about se_X6_about rfl (by decide) (cr (d := 1900) m1 (by omega)) (by omega) dL_law_625 m1.is rfl rfl (by simp [Value.category]) (fun v_2 h_2 hp => ?_) (fun _ _ hf => hf.elim)
  obtain ⟨⟨y2, rfl⟩, r2⟩ := hp
  obtain ⟨J2, m2, ea⟩ := lw_next hd y1 k1 m1 o1 r2 n1 n2
  refine hp_istore C dL_law_628 (by decide) ?_
  refine hp_goto (tgt := 769) C dL_law_630 (by decide) ?_
  exact kk _ _ _ J2 e0 e1 e2 e3 e4
set_option maxRecDepth 20000 in
set_option maxHeartbeats 4000000 in
theorem lq_child {M : hpM} {G : hpG} {h0 H : hpT} {Q : State → Prop} {lo : Nat → Option Value} {k b N0 S0 i L : Nat} {a : aS} {xs : Nat → Int32} (C : hp_F M G yL_law cL_law 7 2000 h0) (J : LJ G k N0 S0 i H a) (Z0 : LZ G N0 S0) (hX : va_X b L xs (hp_st M) (hp_H0 G)) (hb : b < hp_n0 G) (hi : 7 * i + 7 ≤ L) (hL : L ≤ 3584) (e0 : lo 0 = some (.ref b)) (e1 : lo 1 = some (.ref k)) (e2 : lo 2 = some (.ref (k + 12))) (e3 : lo 3 = some (.ref (k + 12 + 20))) (e4 : lo 4 = some (.int (nI (7 * i))))
    (kk : ∀ (h9 : hpT) (lo9 : Nat → Option Value) (a9 : aS), LJ G k N0 S0 (i + 1) h9 a9 → lo9 0 = some (.ref b) → lo9 1 = some (.ref k) → lo9 2 = some (.ref (k + 12)) → lo9 3 = some (.ref (k + 12 + 20)) → lo9 4 = some (.int (nI (7 * i))) → hp_V M G 7 Q h9 769 lo9 []) : hp_V M G 7 Q H 633 lo [] := by
  have hd := C.en.2.2.2.2.2.2.1
  obtain ⟨y0, ⟨N, S, x1, n1, n2⟩, ⟨c0, x2⟩, x3⟩ := J
  have hi5 : i < 512 := by omega
  have rm := Z0.rm n1 n2 (Nat.le_of_lt hi5)
  obtain ⟨a1, c, w, y1, cl, cr⟩ := lj_child y0 hi5 (xs (nI (7 * i) + 1 : Int32).toNatClampNeg) (xs (nI (7 * i) + 2 : Int32).toNatClampNeg)
  refine hp_aload_nR C dL_law_633 e1 ?_
  refine hp_aload_nR C dL_law_634 e0 ?_
  refine hp_iload C dL_law_635 e4 ?_
  refine hp_iconst (v := 1) C dL_law_637 (by decide) ?_
  refine hp_iadd C dL_law_638 ?_
  refine hp_sld C hX hb (lw_in hi hL (by decide) (by decide)) rfl dL_law_639 ?_
  refine hp_aload_nR C dL_law_640 e0 ?_
  refine hp_iload C dL_law_641 e4 ?_
  refine hp_iconst (v := 2) C dL_law_643 (by decide) ?_
  refine hp_iadd C dL_law_644 ?_
  refine hp_sld C hX hb (lw_in hi hL (by decide) (by decide)) rfl dL_law_645 ?_
  refine hp_aload_nR C dL_law_646 e3 ?_
  refine hp_callSX C mx_L_123 (lh_child (d := 1900) x1.isT x2 x3 (cl (d := 1900 - 1) x1 rm (by omega)) (by omega)) (by omega) dL_law_647 rfl rfl (by simp [Value.category]) (fun v_1 h_1 hp => ?_) (fun _ _ hf => hf.elim)
  obtain ⟨⟨rfl, k1, m1, o1⟩, hv⟩ := hp
  refine hp_istore C dL_law_650 (by decide) ?_
  refine hp_aload_nR C dL_law_652 e2 ?_
  refine hp_aload_nR C dL_law_653 e0 ?_
  refine hp_iload C dL_law_654 e4 ?_
  refine hp_iconst (v := 1) C dL_law_656 (by decide) ?_
  refine hp_iadd C dL_law_657 ?_
  refine hp_sld C hX hb (lw_in hi hL (by decide) (by decide)) rfl dL_law_658 ?_
  refine hp_aload_nR C dL_law_659 e0 ?_
  refine hp_iload C dL_law_660 e4 ?_
  refine hp_iconst (v := 2) C dL_law_662 (by decide) ?_
  refine hp_iadd C dL_law_663 ?_
  refine hp_sld C hX hb (lw_in hi hL (by decide) (by decide)) rfl dL_law_664 ?_
  refine hp_callV (ci := 6) C ml_L_125 im_X6_child_ se_X6_child_ rfl (by decide) (cr (d := 1900) m1 (by omega)) (by omega) dL_law_665 m1.is rfl rfl (by simp [Value.category]) (fun v_2 h_2 hp => ?_) (fun _ _ hf => hf.elim)
  obtain ⟨⟨y2, rfl, ey⟩, r2⟩ := hp
  obtain ⟨J2, m2, ea⟩ := lw_next hd y1 k1 m1 o1 r2 n1 n2
  refine hp_istore C dL_law_668 (by decide) ?_
  refine hp_goto (tgt := 769) C dL_law_670 (by decide) ?_
  exact kk _ _ _ J2 e0 e1 e2 e3 e4
set_option maxRecDepth 20000 in
set_option maxHeartbeats 4000000 in
theorem lq_event {M : hpM} {G : hpG} {h0 H : hpT} {Q : State → Prop} {lo : Nat → Option Value} {k b N0 S0 i L : Nat} {a : aS} {xs : Nat → Int32} (C : hp_F M G yL_law cL_law 7 2000 h0) (J : LJ G k N0 S0 i H a) (Z0 : LZ G N0 S0) (hX : va_X b L xs (hp_st M) (hp_H0 G)) (hb : b < hp_n0 G) (hi : 7 * i + 7 ≤ L) (hL : L ≤ 3584) (e0 : lo 0 = some (.ref b)) (e1 : lo 1 = some (.ref k)) (e2 : lo 2 = some (.ref (k + 12))) (e3 : lo 3 = some (.ref (k + 12 + 20))) (e4 : lo 4 = some (.int (nI (7 * i))))
    (kk : ∀ (h9 : hpT) (lo9 : Nat → Option Value) (a9 : aS), LJ G k N0 S0 (i + 1) h9 a9 → lo9 0 = some (.ref b) → lo9 1 = some (.ref k) → lo9 2 = some (.ref (k + 12)) → lo9 3 = some (.ref (k + 12 + 20)) → lo9 4 = some (.int (nI (7 * i))) → hp_V M G 7 Q h9 769 lo9 []) : hp_V M G 7 Q H 673 lo [] := by
  have hd := C.en.2.2.2.2.2.2.1
  obtain ⟨y0, ⟨N, S, x1, n1, n2⟩, ⟨c0, x2⟩, x3⟩ := J
  have hi5 : i < 512 := by omega
  have rm := Z0.rm n1 n2 (Nat.le_of_lt hi5)
  obtain ⟨a1, c, w, y1, cl, cr⟩ := lj_event y0 hi5 (xs (nI (7 * i) + 1 : Int32).toNatClampNeg) (xs (nI (7 * i) + 2 : Int32).toNatClampNeg)
  refine hp_aload_nR C dL_law_673 e1 ?_
  refine hp_aload_nR C dL_law_674 e0 ?_
  refine hp_iload C dL_law_675 e4 ?_
  refine hp_iconst (v := 1) C dL_law_677 (by decide) ?_
  refine hp_iadd C dL_law_678 ?_
  refine hp_sld C hX hb (lw_in hi hL (by decide) (by decide)) rfl dL_law_679 ?_
  refine hp_aload_nR C dL_law_680 e0 ?_
  refine hp_iload C dL_law_681 e4 ?_
  refine hp_iconst (v := 2) C dL_law_683 (by decide) ?_
  refine hp_iadd C dL_law_684 ?_
  refine hp_sld C hX hb (lw_in hi hL (by decide) (by decide)) rfl dL_law_685 ?_
  refine hp_aload_nR C dL_law_686 e3 ?_
  refine hp_callSX C mx_L_126 (lh_event (d := 1900) x1.isT x2 x3 (cl (d := 1900 - 1) x1 rm (by omega)) (by omega)) (by omega) dL_law_687 rfl rfl (by simp [Value.category]) (fun v_1 h_1 hp => ?_) (fun _ _ hf => hf.elim)
  obtain ⟨⟨rfl, k1, m1, o1⟩, hv⟩ := hp
  refine hp_istore C dL_law_690 (by decide) ?_
  refine hp_aload_nR C dL_law_692 e2 ?_
  refine hp_aload_nR C dL_law_693 e0 ?_
  refine hp_iload C dL_law_694 e4 ?_
  refine hp_iconst (v := 1) C dL_law_696 (by decide) ?_
  refine hp_iadd C dL_law_697 ?_
  refine hp_sld C hX hb (lw_in hi hL (by decide) (by decide)) rfl dL_law_698 ?_
  refine hp_aload_nR C dL_law_699 e0 ?_
  refine hp_iload C dL_law_700 e4 ?_
  refine hp_iconst (v := 2) C dL_law_702 (by decide) ?_
  refine hp_iadd C dL_law_703 ?_
  refine hp_sld C hX hb (lw_in hi hL (by decide) (by decide)) rfl dL_law_704 ?_
  refine hp_callV (ci := 6) C ml_L_128 im_X6_event se_X6_event rfl (by decide) (cr (d := 1900) m1 (by omega)) (by omega) dL_law_705 m1.is rfl rfl (by simp [Value.category]) (fun v_2 h_2 hp => ?_) (fun _ _ hf => hf.elim)
  obtain ⟨⟨y2, rfl, ey⟩, r2⟩ := hp
  obtain ⟨J2, m2, ea⟩ := lw_next hd y1 k1 m1 o1 r2 n1 n2
  refine hp_istore C dL_law_708 (by decide) ?_
  refine hp_goto (tgt := 769) C dL_law_710 (by decide) ?_
  exact kk _ _ _ J2 e0 e1 e2 e3 e4
set_option maxRecDepth 20000 in
set_option maxHeartbeats 4000000 in
theorem lq_total {M : hpM} {G : hpG} {h0 H : hpT} {Q : State → Prop} {lo : Nat → Option Value} {k b N0 S0 i L : Nat} {a : aS} {xs : Nat → Int32} (C : hp_F M G yL_law cL_law 7 2000 h0) (J : LJ G k N0 S0 i H a) (Z0 : LZ G N0 S0) (hX : va_X b L xs (hp_st M) (hp_H0 G)) (hb : b < hp_n0 G) (hi : 7 * i + 7 ≤ L) (hL : L ≤ 3584) (e0 : lo 0 = some (.ref b)) (e1 : lo 1 = some (.ref k)) (e2 : lo 2 = some (.ref (k + 12))) (e3 : lo 3 = some (.ref (k + 12 + 20))) (e4 : lo 4 = some (.int (nI (7 * i))))
    (kk : ∀ (h9 : hpT) (lo9 : Nat → Option Value) (a9 : aS), LJ G k N0 S0 (i + 1) h9 a9 → lo9 0 = some (.ref b) → lo9 1 = some (.ref k) → lo9 2 = some (.ref (k + 12)) → lo9 3 = some (.ref (k + 12 + 20)) → lo9 4 = some (.int (nI (7 * i))) → hp_V M G 7 Q h9 769 lo9 []) : hp_V M G 7 Q H 713 lo [] := by
  have hd := C.en.2.2.2.2.2.2.1
  obtain ⟨y0, ⟨N, S, x1, n1, n2⟩, ⟨c0, x2⟩, x3⟩ := J
  have hi5 : i < 512 := by omega
  have rm := Z0.rm n1 n2 (Nat.le_of_lt hi5)
  obtain ⟨a1, c, w, y1, cl, cr⟩ := lj_total y0 hi5 (xs (nI (7 * i) + 1 : Int32).toNatClampNeg)
  refine hp_aload_nR C dL_law_713 e1 ?_
  refine hp_aload_nR C dL_law_714 e0 ?_
  refine hp_iload C dL_law_715 e4 ?_
  refine hp_iconst (v := 1) C dL_law_717 (by decide) ?_
  refine hp_iadd C dL_law_718 ?_
  refine hp_sld C hX hb (lw_in hi hL (by decide) (by decide)) rfl dL_law_719 ?_
  refine hp_aload_nR C dL_law_720 e3 ?_
  refine hp_callSX C mx_L_129 (lh_total (d := 1900) x1.isT x2 x3 (cl (d := 1900 - 1) x1 rm (by omega)) (by omega)) (by omega) dL_law_721 rfl rfl (by simp [Value.category]) (fun v_1 h_1 hp => ?_) (fun _ _ hf => hf.elim)
  obtain ⟨⟨rfl, k1, m1, o1⟩, hv⟩ := hp
  refine hp_istore C dL_law_724 (by decide) ?_
  refine hp_aload_nR C dL_law_726 e2 ?_
  refine hp_aload_nR C dL_law_727 e0 ?_
  refine hp_iload C dL_law_728 e4 ?_
  refine hp_iconst (v := 1) C dL_law_730 (by decide) ?_
  refine hp_iadd C dL_law_731 ?_
  refine hp_sld C hX hb (lw_in hi hL (by decide) (by decide)) rfl dL_law_732 ?_
  refine hp_callV (ci := 6) C ml_L_131 im_X6_total se_X6_total rfl (by decide) (cr (d := 1900) m1 (by omega)) (by omega) dL_law_733 m1.is rfl rfl (by simp [Value.category]) (fun v_2 h_2 hp => ?_) (fun _ _ hf => hf.elim)
  obtain ⟨⟨y2, rfl, ey⟩, r2⟩ := hp
  obtain ⟨J2, m2, ea⟩ := lw_next hd y1 k1 m1 o1 r2 n1 n2
  refine hp_istore C dL_law_736 (by decide) ?_
  refine hp_aload_nR C dL_law_738 e2 ?_
  refine hp_callV (ci := 6) C ml_L_132 im_X6_thrown se_X6_thrown rfl (by decide) (m2.thr (d := 1900)) (by omega) dL_law_739 m2.is rfl rfl (by simp [Value.category]) (fun v_3 h_3 hp => ?_) (fun _ _ hf => hf.elim)
  obtain ⟨rfl, rfl⟩ := hp
  refine hp_iload C dL_law_742 rfl ?_
  refine hp_icmp_eq (tgt := 749) C dL_law_744 (by decide) (fun _ => ?_) (fun z_9 => absurd rfl z_9)
  refine hp_iload C dL_law_749 rfl ?_
  refine hp_if_ne (tgt := 766) C dL_law_751 (by decide) (fun _ => ?_) (fun c_0 => ?_)
  · refine hp_goto (tgt := 769) C dL_law_766 (by decide) ?_
    exact kk _ _ _ J2 e0 e1 e2 e3 e4
  · have ew := ey c_0
    have hv1 := hv c_0
    subst ew
    refine hp_aload_nR C dL_law_754 e3 ?_
    refine hp_iconst (v := 0) C dL_law_755 (by decide) ?_
    refine hp_lald C dL_law_756 J2.2.2.2.1 (by rw [J2.2.2.2.2]; unfold vp_in; decide) ((congrFun ea 0).trans hv1) ?_
    refine hp_iload C dL_law_757 rfl ?_
    refine hp_i2l C dL_law_759 ?_
    refine hp_lcmp C dL_law_760 ?_
    refine hp_if_eq (tgt := 766) C dL_law_761 (by decide) (fun _ => ?_) (fun z_9 => absurd (lg_self _) z_9)
    refine hp_goto (tgt := 769) C dL_law_766 (by decide) ?_
    exact kk _ _ _ J2 e0 e1 e2 e3 e4
theorem lw_and (v : Int32) : 0 ≤ (v &&& 15).toInt ∧ (v &&& 15).toInt ≤ 15 := by
  have h1 : (v &&& 15).toInt = (v.toBitVec &&& 15#32).toInt := rfl
  have h2 : (v.toBitVec &&& 15#32).toNat ≤ 15 := by
    rw [BitVec.toNat_and]
    exact Nat.and_le_right
  have h3 : (v.toBitVec &&& 15#32).toInt = ((v.toBitVec &&& 15#32).toNat : Int) := BitVec.toInt_eq_toNat_of_lt (by omega)
  omega
theorem lw_16 {w_1 : Int32} (q_1 : 0 ≤ w_1.toInt) (q_2 : w_1.toInt ≤ 15) : w_1 = 0 ∨ w_1 = 1 ∨ w_1 = 2 ∨ w_1 = 3 ∨ w_1 = 4 ∨ w_1 = 5 ∨ w_1 = 6 ∨ w_1 = 7 ∨ w_1 = 8 ∨ w_1 = 9 ∨ w_1 = 10 ∨ w_1 = 11 ∨ w_1 = 12 ∨ w_1 = 13 ∨ w_1 = 14 ∨ w_1 = 15 := by
  have q_3 : w_1.toInt = 0 ∨ w_1.toInt = 1 ∨ w_1.toInt = 2 ∨ w_1.toInt = 3 ∨ w_1.toInt = 4 ∨ w_1.toInt = 5 ∨ w_1.toInt = 6 ∨ w_1.toInt = 7 ∨ w_1.toInt = 8 ∨ w_1.toInt = 9 ∨ w_1.toInt = 10 ∨ w_1.toInt = 11 ∨ w_1.toInt = 12 ∨ w_1.toInt = 13 ∨ w_1.toInt = 14 ∨ w_1.toInt = 15 := by omega
  rcases q_3 with q_3 | q_3 | q_3 | q_3 | q_3 | q_3 | q_3 | q_3 | q_3 | q_3 | q_3 | q_3 | q_3 | q_3 | q_3 | q_3
  · exact Or.inl (Int32.toInt_inj.mp (q_3.trans (by decide)))
  · exact Or.inr (Or.inl (Int32.toInt_inj.mp (q_3.trans (by decide))))
  · exact Or.inr (Or.inr (Or.inl (Int32.toInt_inj.mp (q_3.trans (by decide)))))
  · exact Or.inr (Or.inr (Or.inr (Or.inl (Int32.toInt_inj.mp (q_3.trans (by decide))))))
  · exact Or.inr (Or.inr (Or.inr (Or.inr (Or.inl (Int32.toInt_inj.mp (q_3.trans (by decide)))))))
  · exact Or.inr (Or.inr (Or.inr (Or.inr (Or.inr (Or.inl (Int32.toInt_inj.mp (q_3.trans (by decide))))))))
  · exact Or.inr (Or.inr (Or.inr (Or.inr (Or.inr (Or.inr (Or.inl (Int32.toInt_inj.mp (q_3.trans (by decide)))))))))
  · exact Or.inr (Or.inr (Or.inr (Or.inr (Or.inr (Or.inr (Or.inr (Or.inl (Int32.toInt_inj.mp (q_3.trans (by decide))))))))))
  · exact Or.inr (Or.inr (Or.inr (Or.inr (Or.inr (Or.inr (Or.inr (Or.inr (Or.inl (Int32.toInt_inj.mp (q_3.trans (by decide)))))))))))
  · exact Or.inr (Or.inr (Or.inr (Or.inr (Or.inr (Or.inr (Or.inr (Or.inr (Or.inr (Or.inl (Int32.toInt_inj.mp (q_3.trans (by decide))))))))))))
  · exact Or.inr (Or.inr (Or.inr (Or.inr (Or.inr (Or.inr (Or.inr (Or.inr (Or.inr (Or.inr (Or.inl (Int32.toInt_inj.mp (q_3.trans (by decide)))))))))))))
  · exact Or.inr (Or.inr (Or.inr (Or.inr (Or.inr (Or.inr (Or.inr (Or.inr (Or.inr (Or.inr (Or.inr (Or.inl (Int32.toInt_inj.mp (q_3.trans (by decide))))))))))))))
  · exact Or.inr (Or.inr (Or.inr (Or.inr (Or.inr (Or.inr (Or.inr (Or.inr (Or.inr (Or.inr (Or.inr (Or.inr (Or.inl (Int32.toInt_inj.mp (q_3.trans (by decide)))))))))))))))
  · exact Or.inr (Or.inr (Or.inr (Or.inr (Or.inr (Or.inr (Or.inr (Or.inr (Or.inr (Or.inr (Or.inr (Or.inr (Or.inr (Or.inl (Int32.toInt_inj.mp (q_3.trans (by decide))))))))))))))))
  · exact Or.inr (Or.inr (Or.inr (Or.inr (Or.inr (Or.inr (Or.inr (Or.inr (Or.inr (Or.inr (Or.inr (Or.inr (Or.inr (Or.inr (Or.inl (Int32.toInt_inj.mp (q_3.trans (by decide)))))))))))))))))
  · exact Or.inr (Or.inr (Or.inr (Or.inr (Or.inr (Or.inr (Or.inr (Or.inr (Or.inr (Or.inr (Or.inr (Or.inr (Or.inr (Or.inr (Or.inr ((Int32.toInt_inj.mp (q_3.trans (by decide))))))))))))))))))
set_option maxRecDepth 20000 in
set_option maxHeartbeats 8000000 in
theorem lw_loop {M : hpM} {G : hpG} {h0 : hpT} {Q : State → Prop} {k b N0 S0 L : Nat} {xs : Nat → Int32} (C : hp_F M G yL_law cL_law 7 2000 h0) (Z0 : LZ G N0 S0) (hX : va_X b L xs (hp_st M) (hp_H0 G)) (hb : b < hp_n0 G) (hL : L ≤ 3584) (fin : ∀ (h9 : hpT) (lo9 : Nat → Option Value), hp_V M G 7 Q h9 775 lo9 []) : ∀ (j i : Nat) (H : hpT) (lo : Nat → Option Value) (a : aS), j + i = 512 → LJ G k N0 S0 i H a → lo 0 = some (.ref b) → lo 1 = some (.ref k) → lo 2 = some (.ref (k + 12)) → lo 3 = some (.ref (k + 12 + 20)) → lo 4 = some (.int (nI (7 * i))) → hp_V M G 7 Q H 23 lo [] := by
  intro j
  induction j with
  | zero =>
    intro i H lo a hj J e0 e1 e2 e3 e4
    refine hp_iload C dL_law_23 e4 ?_
    refine hp_aload_nR C dL_law_25 e0 ?_
    refine hp_slen C hX hb dL_law_26 ?_
    refine hp_bipush (v := 7) C dL_law_27 (by decide) ?_
    refine hp_isub C dL_law_29 ?_
    refine hp_icmp_gt (tgt := 775) C dL_law_30 (by decide) (fun _ => fin _ _) (fun c_30 => ?_)
    have hi := lw_go (by omega) hL c_30
    omega
  | succ j ih =>
    intro i H lo a hj J e0 e1 e2 e3 e4
    refine hp_iload C dL_law_23 e4 ?_
    refine hp_aload_nR C dL_law_25 e0 ?_
    refine hp_slen C hX hb dL_law_26 ?_
    refine hp_bipush (v := 7) C dL_law_27 (by decide) ?_
    refine hp_isub C dL_law_29 ?_
    refine hp_icmp_gt (tgt := 775) C dL_law_30 (by decide) (fun _ => fin _ _) (fun c_30 => ?_)
    have hi := lw_go (by omega) hL c_30
    refine hp_aload_nR C dL_law_33 e0 ?_
    refine hp_iload C dL_law_34 e4 ?_
    refine hp_sld C hX hb (lw_in0 hi hL) rfl dL_law_36 ?_
    refine hp_bipush (v := 15) C dL_law_37 (by decide) ?_
    refine hp_iand C dL_law_39 ?_
    have kk : ∀ (h9 : hpT) (lo9 : Nat → Option Value) (a9 : aS), LJ G k N0 S0 (i + 1) h9 a9 → lo9 0 = some (.ref b) → lo9 1 = some (.ref k) → lo9 2 = some (.ref (k + 12)) → lo9 3 = some (.ref (k + 12 + 20)) → lo9 4 = some (.int (nI (7 * i))) → hp_V M G 7 Q h9 769 lo9 [] := by
      intro h9 lo9 a9 J9 g0 g1 g2 g3 g4
      refine hp_iinc C dL_law_769 g4 (by decide) (lw_inc i) ?_
      refine hp_goto (tgt := 23) C dL_law_772 (by decide) ?_
      exact ih (i + 1) h9 _ a9 (by omega) J9 g0 g1 g2 g3 rfl
    obtain ⟨q_1, q_2⟩ := lw_and (xs (nI (7 * i)).toNatClampNeg)
    generalize xs (nI (7 * i)).toNatClampNeg &&& 15 = w_1 at q_1 q_2 ⊢
    rcases lw_16 q_1 q_2 with rfl | rfl | rfl | rfl | rfl | rfl | rfl | rfl | rfl | rfl | rfl | rfl | rfl | rfl | rfl | rfl
    · refine hp_tableIn (tgt := 120) C dL_law_40 (by decide) (by decide) rfl (by decide) ?_
      exact lq_first C J Z0 hX hb hi hL e0 e1 e2 e3 e4 kk
    · refine hp_tableIn (tgt := 169) C dL_law_40 (by decide) (by decide) rfl (by decide) ?_
      exact lq_keeper C J Z0 hX hb hi hL e0 e1 e2 e3 e4 kk
    · refine hp_tableIn (tgt := 245) C dL_law_40 (by decide) (by decide) rfl (by decide) ?_
      exact lq_worker C J Z0 hX hb hi hL e0 e1 e2 e3 e4 kk
    · refine hp_tableIn (tgt := 335) C dL_law_40 (by decide) (by decide) rfl (by decide) ?_
      exact lq_failing C J Z0 hX hb hi hL e0 e1 e2 e3 e4 kk
    · refine hp_tableIn (tgt := 375) C dL_law_40 (by decide) (by decide) rfl (by decide) ?_
      exact lq_begin C J Z0 hX hb hi hL e0 e1 e2 e3 e4 kk
    · refine hp_tableIn (tgt := 391) C dL_law_40 (by decide) (by decide) rfl (by decide) ?_
      exact lq_ends C J Z0 hX hb hi hL e0 e1 e2 e3 e4 kk
    · refine hp_tableIn (tgt := 428) C dL_law_40 (by decide) (by decide) rfl (by decide) ?_
      exact lq_kill C J Z0 hX hb hi hL e0 e1 e2 e3 e4 kk
    · refine hp_tableIn (tgt := 456) C dL_law_40 (by decide) (by decide) rfl (by decide) ?_
      exact lq_stop C J Z0 hX hb hi hL e0 e1 e2 e3 e4 kk
    · refine hp_tableIn (tgt := 481) C dL_law_40 (by decide) (by decide) rfl (by decide) ?_
      exact lq_again C J Z0 hX hb hi hL e0 e1 e2 e3 e4 kk
    · refine hp_tableIn (tgt := 509) C dL_law_40 (by decide) (by decide) rfl (by decide) ?_
      exact lq_remove C J Z0 hX hb hi hL e0 e1 e2 e3 e4 kk
    · refine hp_tableIn (tgt := 537) C dL_law_40 (by decide) (by decide) rfl (by decide) ?_
      exact lq_pass C J Z0 hX hb hi hL e0 e1 e2 e3 e4 kk
    · refine hp_tableIn (tgt := 565) C dL_law_40 (by decide) (by decide) rfl (by decide) ?_
      exact lq_state C J Z0 hX hb hi hL e0 e1 e2 e3 e4 kk
    · refine hp_tableIn (tgt := 593) C dL_law_40 (by decide) (by decide) rfl (by decide) ?_
      exact lq_about C J Z0 hX hb hi hL e0 e1 e2 e3 e4 kk
    · refine hp_tableIn (tgt := 633) C dL_law_40 (by decide) (by decide) rfl (by decide) ?_
      exact lq_child C J Z0 hX hb hi hL e0 e1 e2 e3 e4 kk
    · refine hp_tableIn (tgt := 673) C dL_law_40 (by decide) (by decide) rfl (by decide) ?_
      exact lq_event C J Z0 hX hb hi hL e0 e1 e2 e3 e4 kk
    · refine hp_tableIn (tgt := 713) C dL_law_40 (by decide) (by decide) rfl (by decide) ?_
      exact lq_total C J Z0 hX hb hi hL e0 e1 e2 e3 e4 kk
