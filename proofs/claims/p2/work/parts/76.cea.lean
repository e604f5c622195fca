/-! ===== the reference: ceases ===== -/
set_option maxHeartbeats 4000000 in
theorem mo_ceE {M : hpM} {G : hpG} {d : Nat} {h0 h : hpT} {m : Nat} {Q : State → Prop} (sh : mo_sh G h m) (C : hp_F M G yX6_ceases cX6_ceases 8 d h0) (hd : 1 ≤ d) {k : Bool} {fr : Nat} : ∀ (n lv al : Nat) (lo : Nat → Option Value) (H : hpT) (a : aS) (z : mrZ), MR h m H a z → a_T a → n < a_mk a → (a_ev a).length < 2 ^ 30 → lo 0 = some (.ref m) → lo 2 = some (.int (nI fr)) → lo 3 = some (.int (if k = true then 1 else 0)) → lo 4 = some (.int (nI lv)) → lo 5 = some (.int (nI al)) → lo 6 = some (.int (nI n)) → (∀ (lo' : Nat → Option Value) (H' : hpT) (z' : mrZ), MR h m H' (a_end k n a) z' → (∀ i, i < lv → z'.1 i = z.1 i ∧ z'.2.1 i = z.2.1 i) → z'.2.2 = z.2.2 → lo' 0 = some (.ref m) → lo' 2 = some (.int (nI fr)) → lo' 3 = some (.int (if k = true then 1 else 0)) → lo' 4 = some (.int (nI lv - 1)) → lo' 5 = some (.int (nI (al + 1))) → hp_V M G 8 Q H' 29 lo' []) → hp_V M G 8 Q H 187 lo [] := by
  intro n lv al lo H a z R T hn hv e0 e2 e3 e4 e5 e6 hP
  have hn8 : n < 80 := Nat.lt_of_lt_of_le hn T.1.2
  have r8 := T.r8 hn
  have r10 := T.r10 hn
  have hb := T.kb hn
  cases k with
  | true =>
    have ee : a_end true n a = a_no (a_sn a 3 n 0) 4 n 0 := by unfold a_end; rw [if_neg (fun z => by cases z.2)]; rfl
    rw [ee] at hP
    rcases hb with hk | hk
    · refine hp_iload_n C dX6_ceases_187 e3 ?_
      refine hp_istore C dX6_ceases_188 (by decide) ?_
      refine hp_aload_nR C dX6_ceases_190 e0 ?_
      refine mr_A C sh R fl_X6_7_6 rfl (by decide) dX6_ceases_191 ?_
      refine hp_iload C dX6_ceases_194 e6 ?_
      refine mr_kp C sh R hn8 dX6_ceases_196 ?_
      refine hp_if_ne (tgt := 301) C dX6_ceases_197 (by decide) (fun z_9 => absurd z_9 (fun z_8 => z_8 (by rw [hk]; decide))) (fun _ => ?_)
      refine hp_iload_n C dX6_ceases_200 e3 ?_
      refine hp_if_ne (tgt := 301) C dX6_ceases_201 (by decide) (fun _ => ?_) (fun z_9 => absurd z_9 (show ¬ (1 : Int32) = 0 by decide))
      refine hp_aload_nR C dX6_ceases_301 e0 ?_
      refine mr_A C sh R fl_X6_20_6 rfl (by decide) dX6_ceases_302 ?_
      refine hp_iload C dX6_ceases_305 e6 ?_
      refine hp_iconst (v := 0) C dX6_ceases_307 (by decide) ?_
      refine ms_st C sh R hn8 0 (by omega) (fun z_7 => by cases z_7) (by decide) dX6_ceases_308 (fun H_308 R_308 => ?_)
      refine hp_aload_nR C dX6_ceases_309 e0 ?_
      refine hp_iload C dX6_ceases_310 rfl ?_
      refine hp_if_eq (tgt := 319) C dX6_ceases_312 (by decide) (fun z_9 => absurd z_9 (show ¬ (1 : Int32) = 0 by decide)) (fun _ => ?_)
      refine hp_iconst (v := 4) C dX6_ceases_315 (by decide) ?_
      refine hp_goto (tgt := 320) C dX6_ceases_316 (by decide) ?_
      refine hp_iload C dX6_ceases_320 e6 ?_
      refine hp_iconst (v := 0) C dX6_ceases_322 (by decide) ?_
      refine hp_callV (ci := 6) C ml_X6_89 im_X6_note se_X6_note rfl (by decide) (mc_note (d := d - 1) (w := 4) (n := n) (r := 0) sh R_308 hv) (by omega) dX6_ceases_323 (R_308.o sh) rfl rfl (by simp [Value.category]) (fun v_323 h_323 hp => ?_) (fun _ _ hf => hf.elim)
      obtain ⟨rfl, R_323⟩ := hp
      refine hp_iinc C dX6_ceases_326 e5 (by decide) rfl ?_
      refine hp_iinc C dX6_ceases_329 e4 (by decide) rfl ?_
      refine hp_goto (tgt := 29) C dX6_ceases_332 (by decide) ?_
      exact hP _ _ z R_323 (fun _ _ => ⟨rfl, rfl⟩) rfl e0 e2 e3 ((va_up_self _ _ _).trans (by rw [k_dec])) (by show some (Value.int (nI al + Int32.ofInt 1)) = _; rw [show Int32.ofInt 1 = 1 from rfl, nI_1])
    · refine hp_iload_n C dX6_ceases_187 e3 ?_
      refine hp_istore C dX6_ceases_188 (by decide) ?_
      refine hp_aload_nR C dX6_ceases_190 e0 ?_
      refine mr_A C sh R fl_X6_7_6 rfl (by decide) dX6_ceases_191 ?_
      refine hp_iload C dX6_ceases_194 e6 ?_
      refine mr_kp C sh R hn8 dX6_ceases_196 ?_
      refine hp_if_ne (tgt := 301) C dX6_ceases_197 (by decide) (fun _ => ?_) (fun z_9 => absurd z_9 (show ¬ Int32.ofInt (a_nd a 0 n) = 0 by rw [hk]; decide))
      refine hp_aload_nR C dX6_ceases_301 e0 ?_
      refine mr_A C sh R fl_X6_20_6 rfl (by decide) dX6_ceases_302 ?_
      refine hp_iload C dX6_ceases_305 e6 ?_
      refine hp_iconst (v := 0) C dX6_ceases_307 (by decide) ?_
      refine ms_st C sh R hn8 0 (by omega) (fun z_7 => by cases z_7) (by decide) dX6_ceases_308 (fun H_308 R_308 => ?_)
      refine hp_aload_nR C dX6_ceases_309 e0 ?_
      refine hp_iload C dX6_ceases_310 rfl ?_
      refine hp_if_eq (tgt := 319) C dX6_ceases_312 (by decide) (fun z_9 => absurd z_9 (show ¬ (1 : Int32) = 0 by decide)) (fun _ => ?_)
      refine hp_iconst (v := 4) C dX6_ceases_315 (by decide) ?_
      refine hp_goto (tgt := 320) C dX6_ceases_316 (by decide) ?_
      refine hp_iload C dX6_ceases_320 e6 ?_
      refine hp_iconst (v := 0) C dX6_ceases_322 (by decide) ?_
      refine hp_callV (ci := 6) C ml_X6_89 im_X6_note se_X6_note rfl (by decide) (mc_note (d := d - 1) (w := 4) (n := n) (r := 0) sh R_308 hv) (by omega) dX6_ceases_323 (R_308.o sh) rfl rfl (by simp [Value.category]) (fun v_323 h_323 hp => ?_) (fun _ _ hf => hf.elim)
      obtain ⟨rfl, R_323⟩ := hp
      refine hp_iinc C dX6_ceases_326 e5 (by decide) rfl ?_
      refine hp_iinc C dX6_ceases_329 e4 (by decide) rfl ?_
      refine hp_goto (tgt := 29) C dX6_ceases_332 (by decide) ?_
      exact hP _ _ z R_323 (fun _ _ => ⟨rfl, rfl⟩) rfl e0 e2 e3 ((va_up_self _ _ _).trans (by rw [k_dec])) (by show some (Value.int (nI al + Int32.ofInt 1)) = _; rw [show Int32.ofInt 1 = 1 from rfl, nI_1])
  | false =>
    rcases hb with hk | hk
    · refine hp_iload_n C dX6_ceases_187 e3 ?_
      refine hp_istore C dX6_ceases_188 (by decide) ?_
      refine hp_aload_nR C dX6_ceases_190 e0 ?_
      refine mr_A C sh R fl_X6_7_6 rfl (by decide) dX6_ceases_191 ?_
      refine hp_iload C dX6_ceases_194 e6 ?_
      refine mr_kp C sh R hn8 dX6_ceases_196 ?_
      refine hp_if_ne (tgt := 301) C dX6_ceases_197 (by decide) (fun z_9 => absurd z_9 (fun z_8 => z_8 (by rw [hk]; decide))) (fun _ => ?_)
      refine hp_iload_n C dX6_ceases_200 e3 ?_
      refine hp_if_ne (tgt := 301) C dX6_ceases_201 (by decide) (fun z_9 => absurd z_9 (fun z_8 => z_8 (show (0 : Int32) = 0 by decide))) (fun _ => ?_)
      refine hp_aload_nR C dX6_ceases_204 e0 ?_
      refine mr_A C sh R fl_X6_35_6 rfl (by decide) dX6_ceases_205 ?_
      refine hp_iload C dX6_ceases_208 e6 ?_
      refine mr_nd C sh R 10 8 (by decide) (by decide) rfl hn8 dX6_ceases_210 ?_
      refine hp_if_eq (tgt := 241) C dX6_ceases_211 (by decide) (fun c_211 => ?_) (fun c_211 => ?_)
      · refine hp_iconst (v := 1) C dX6_ceases_241 (by decide) ?_
        refine hp_goto (tgt := 246) C dX6_ceases_242 (by decide) ?_
        have g8 : a_nd a 8 n = 0 := (a_ofI_eq (x := a_nd a 8 n) (y := 0) (by omega) (by omega)).mp c_211
        have ds : a_dies a n = true := by simp [a_dies, g8]
        refine hp_istore C dX6_ceases_246 (by decide) ?_
        refine hp_aload_nR C dX6_ceases_248 e0 ?_
        refine hp_dup C dX6_ceases_249 rfl ?_
        refine mr_S C sh R fl_X6_82_6 (Or.inr (Or.inr (Or.inl ⟨rfl, rfl⟩))) dX6_ceases_250 ?_
        refine hp_aload_nR C dX6_ceases_253 e0 ?_
        refine mr_A C sh R fl_X6_35_6 rfl (by decide) dX6_ceases_254 ?_
        refine hp_iload C dX6_ceases_257 e6 ?_
        refine mr_nd C sh R 10 8 (by decide) (by decide) rfl hn8 dX6_ceases_259 ?_
        refine hp_if_lt (tgt := 280) C dX6_ceases_260 (by decide) (fun c_260 => ?_) (fun c_260 => ?_)
        · have h8 : a_nd a 8 n < 0 := (a_ofI_lt (x := a_nd a 8 n) (y := 0) (by omega) (by omega)).mp c_260
          have lg : a_long a n = (a_nd a 10 n).toNat := by unfold a_long; rw [if_pos (Or.inl h8)]
          refine hp_aload_nR C dX6_ceases_280 e0 ?_
          refine mr_A C sh R fl_X6_41_6 rfl (by decide) dX6_ceases_281 ?_
          refine hp_iload C dX6_ceases_284 e6 ?_
          refine mr_nd C sh R 12 10 (by decide) (by decide) rfl hn8 dX6_ceases_286 ?_
          refine hp_goto (tgt := 297) C dX6_ceases_287 (by decide) ?_
          refine hp_iadd C dX6_ceases_297 ?_
          refine ms_tm C sh R fl_X6_82_6 (a_tm a + a_long a n) (Nat.le_add_right _ _) (by rw [lg, a_ofN (by omega), nI_add]) dX6_ceases_298 (fun H_298 R_298 => ?_)
          refine hp_aload_nR C dX6_ceases_301 e0 ?_
          refine mr_A C sh R_298 fl_X6_20_6 rfl (by decide) dX6_ceases_302 ?_
          refine hp_iload C dX6_ceases_305 e6 ?_
          refine hp_iconst (v := 0) C dX6_ceases_307 (by decide) ?_
          refine ms_st C sh R_298 hn8 0 (by omega) (fun z_7 => by cases z_7) (by decide) dX6_ceases_308 (fun H_308 R_308 => ?_)
          refine hp_aload_nR C dX6_ceases_309 e0 ?_
          refine hp_iload C dX6_ceases_310 rfl ?_
          refine hp_if_eq (tgt := 319) C dX6_ceases_312 (by decide) (fun z_9 => absurd z_9 (by decide)) (fun _ => ?_)
          refine hp_iconst (v := 4) C dX6_ceases_315 (by decide) ?_
          refine hp_goto (tgt := 320) C dX6_ceases_316 (by decide) ?_
          refine hp_iload C dX6_ceases_320 e6 ?_
          refine hp_iconst (v := 0) C dX6_ceases_322 (by decide) ?_
          refine hp_callV (ci := 6) C ml_X6_89 im_X6_note se_X6_note rfl (by decide) (mc_note (d := d - 1) (w := 4) (n := n) (r := 0) sh R_308 hv) (by omega) dX6_ceases_323 (R_308.o sh) rfl rfl (by simp [Value.category]) (fun v_323 h_323 hp => ?_) (fun _ _ hf => hf.elim)
          obtain ⟨rfl, R_323⟩ := hp
          refine hp_iinc C dX6_ceases_326 e5 (by decide) rfl ?_
          refine hp_iinc C dX6_ceases_329 e4 (by decide) rfl ?_
          refine hp_goto (tgt := 29) C dX6_ceases_332 (by decide) ?_
          rw [← a_end_w hk rfl ds] at hP
          exact hP _ _ z R_323 (fun _ _ => ⟨rfl, rfl⟩) rfl e0 e2 e3 ((va_up_self _ _ _).trans (by rw [k_dec])) (by show some (Value.int (nI al + Int32.ofInt 1)) = _; rw [show Int32.ofInt 1 = 1 from rfl, nI_1])
        · refine hp_aload_nR C dX6_ceases_263 e0 ?_
          refine mr_A C sh R fl_X6_41_6 rfl (by decide) dX6_ceases_264 ?_
          refine hp_iload C dX6_ceases_267 e6 ?_
          refine mr_nd C sh R 12 10 (by decide) (by decide) rfl hn8 dX6_ceases_269 ?_
          refine hp_aload_nR C dX6_ceases_270 e0 ?_
          refine mr_A C sh R fl_X6_35_6 rfl (by decide) dX6_ceases_271 ?_
          refine hp_iload C dX6_ceases_274 e6 ?_
          refine mr_nd C sh R 10 8 (by decide) (by decide) rfl hn8 dX6_ceases_276 ?_
          refine hp_icmp_ge (tgt := 290) C dX6_ceases_277 (by decide) (fun c_277 => ?_) (fun c_277 => ?_)
          · have h8 : ¬ a_nd a 8 n < 0 := (not_congr (a_ofI_lt (x := a_nd a 8 n) (y := 0) (by omega) (by omega))).mp c_260
            have h9 : a_nd a 8 n ≤ a_nd a 10 n := (a_ofI_le (by omega) (by omega)).mp c_277
            have lg : a_long a n = (a_nd a 8 n).toNat := by unfold a_long; rw [if_neg (by omega)]
            refine hp_aload_nR C dX6_ceases_290 e0 ?_
            refine mr_A C sh R fl_X6_35_6 rfl (by decide) dX6_ceases_291 ?_
            refine hp_iload C dX6_ceases_294 e6 ?_
            refine mr_nd C sh R 10 8 (by decide) (by decide) rfl hn8 dX6_ceases_296 ?_
            refine hp_iadd C dX6_ceases_297 ?_
            refine ms_tm C sh R fl_X6_82_6 (a_tm a + a_long a n) (Nat.le_add_right _ _) (by rw [lg, a_ofN (by omega), nI_add]) dX6_ceases_298 (fun H_298 R_298 => ?_)
            refine hp_aload_nR C dX6_ceases_301 e0 ?_
            refine mr_A C sh R_298 fl_X6_20_6 rfl (by decide) dX6_ceases_302 ?_
            refine hp_iload C dX6_ceases_305 e6 ?_
            refine hp_iconst (v := 0) C dX6_ceases_307 (by decide) ?_
            refine ms_st C sh R_298 hn8 0 (by omega) (fun z_7 => by cases z_7) (by decide) dX6_ceases_308 (fun H_308 R_308 => ?_)
            refine hp_aload_nR C dX6_ceases_309 e0 ?_
            refine hp_iload C dX6_ceases_310 rfl ?_
            refine hp_if_eq (tgt := 319) C dX6_ceases_312 (by decide) (fun z_9 => absurd z_9 (by decide)) (fun _ => ?_)
            refine hp_iconst (v := 4) C dX6_ceases_315 (by decide) ?_
            refine hp_goto (tgt := 320) C dX6_ceases_316 (by decide) ?_
            refine hp_iload C dX6_ceases_320 e6 ?_
            refine hp_iconst (v := 0) C dX6_ceases_322 (by decide) ?_
            refine hp_callV (ci := 6) C ml_X6_89 im_X6_note se_X6_note rfl (by decide) (mc_note (d := d - 1) (w := 4) (n := n) (r := 0) sh R_308 hv) (by omega) dX6_ceases_323 (R_308.o sh) rfl rfl (by simp [Value.category]) (fun v_323 h_323 hp => ?_) (fun _ _ hf => hf.elim)
            obtain ⟨rfl, R_323⟩ := hp
            refine hp_iinc C dX6_ceases_326 e5 (by decide) rfl ?_
            refine hp_iinc C dX6_ceases_329 e4 (by decide) rfl ?_
            refine hp_goto (tgt := 29) C dX6_ceases_332 (by decide) ?_
            rw [← a_end_w hk rfl ds] at hP
            exact hP _ _ z R_323 (fun _ _ => ⟨rfl, rfl⟩) rfl e0 e2 e3 ((va_up_self _ _ _).trans (by rw [k_dec])) (by show some (Value.int (nI al + Int32.ofInt 1)) = _; rw [show Int32.ofInt 1 = 1 from rfl, nI_1])
          · have h9 : ¬ a_nd a 8 n ≤ a_nd a 10 n := (not_congr (a_ofI_le (by omega) (by omega))).mp c_277
            have lg : a_long a n = (a_nd a 10 n).toNat := by unfold a_long; rw [if_pos (Or.inr (by omega))]
            refine hp_aload_nR C dX6_ceases_280 e0 ?_
            refine mr_A C sh R fl_X6_41_6 rfl (by decide) dX6_ceases_281 ?_
            refine hp_iload C dX6_ceases_284 e6 ?_
            refine mr_nd C sh R 12 10 (by decide) (by decide) rfl hn8 dX6_ceases_286 ?_
            refine hp_goto (tgt := 297) C dX6_ceases_287 (by decide) ?_
            refine hp_iadd C dX6_ceases_297 ?_
            refine ms_tm C sh R fl_X6_82_6 (a_tm a + a_long a n) (Nat.le_add_right _ _) (by rw [lg, a_ofN (by omega), nI_add]) dX6_ceases_298 (fun H_298 R_298 => ?_)
            refine hp_aload_nR C dX6_ceases_301 e0 ?_
            refine mr_A C sh R_298 fl_X6_20_6 rfl (by decide) dX6_ceases_302 ?_
            refine hp_iload C dX6_ceases_305 e6 ?_
            refine hp_iconst (v := 0) C dX6_ceases_307 (by decide) ?_
            refine ms_st C sh R_298 hn8 0 (by omega) (fun z_7 => by cases z_7) (by decide) dX6_ceases_308 (fun H_308 R_308 => ?_)
            refine hp_aload_nR C dX6_ceases_309 e0 ?_
            refine hp_iload C dX6_ceases_310 rfl ?_
            refine hp_if_eq (tgt := 319) C dX6_ceases_312 (by decide) (fun z_9 => absurd z_9 (by decide)) (fun _ => ?_)
            refine hp_iconst (v := 4) C dX6_ceases_315 (by decide) ?_
            refine hp_goto (tgt := 320) C dX6_ceases_316 (by decide) ?_
            refine hp_iload C dX6_ceases_320 e6 ?_
            refine hp_iconst (v := 0) C dX6_ceases_322 (by decide) ?_
            refine hp_callV (ci := 6) C ml_X6_89 im_X6_note se_X6_note rfl (by decide) (mc_note (d := d - 1) (w := 4) (n := n) (r := 0) sh R_308 hv) (by omega) dX6_ceases_323 (R_308.o sh) rfl rfl (by simp [Value.category]) (fun v_323 h_323 hp => ?_) (fun _ _ hf => hf.elim)
            obtain ⟨rfl, R_323⟩ := hp
            refine hp_iinc C dX6_ceases_326 e5 (by decide) rfl ?_
            refine hp_iinc C dX6_ceases_329 e4 (by decide) rfl ?_
            refine hp_goto (tgt := 29) C dX6_ceases_332 (by decide) ?_
            rw [← a_end_w hk rfl ds] at hP
            exact hP _ _ z R_323 (fun _ _ => ⟨rfl, rfl⟩) rfl e0 e2 e3 ((va_up_self _ _ _).trans (by rw [k_dec])) (by show some (Value.int (nI al + Int32.ofInt 1)) = _; rw [show Int32.ofInt 1 = 1 from rfl, nI_1])
      · refine hp_aload_nR C dX6_ceases_214 e0 ?_
        refine mr_A C sh R fl_X6_35_6 rfl (by decide) dX6_ceases_215 ?_
        refine hp_iload C dX6_ceases_218 e6 ?_
        refine mr_nd C sh R 10 8 (by decide) (by decide) rfl hn8 dX6_ceases_220 ?_
        refine hp_if_le (tgt := 245) C dX6_ceases_221 (by decide) (fun c_221 => ?_) (fun c_221 => ?_)
        · refine hp_iconst (v := 0) C dX6_ceases_245 (by decide) ?_
          have g8 : ¬ a_nd a 8 n = 0 := fun e => c_211 (by rw [e]; decide)
          have f8 : a_nd a 8 n ≤ 0 := (a_ofI_le (x := a_nd a 8 n) (y := 0) (by omega) (by omega)).mp c_221
          have ds : a_dies a n = false := by unfold a_dies; simp only [Bool.or_eq_false_iff, Bool.and_eq_false_iff, decide_eq_false_iff_not]; omega
          refine hp_istore C dX6_ceases_246 (by decide) ?_
          refine hp_aload_nR C dX6_ceases_248 e0 ?_
          refine hp_dup C dX6_ceases_249 rfl ?_
          refine mr_S C sh R fl_X6_82_6 (Or.inr (Or.inr (Or.inl ⟨rfl, rfl⟩))) dX6_ceases_250 ?_
          refine hp_aload_nR C dX6_ceases_253 e0 ?_
          refine mr_A C sh R fl_X6_35_6 rfl (by decide) dX6_ceases_254 ?_
          refine hp_iload C dX6_ceases_257 e6 ?_
          refine mr_nd C sh R 10 8 (by decide) (by decide) rfl hn8 dX6_ceases_259 ?_
          refine hp_if_lt (tgt := 280) C dX6_ceases_260 (by decide) (fun c_260 => ?_) (fun c_260 => ?_)
          · have h8 : a_nd a 8 n < 0 := (a_ofI_lt (x := a_nd a 8 n) (y := 0) (by omega) (by omega)).mp c_260
            have lg : a_long a n = (a_nd a 10 n).toNat := by unfold a_long; rw [if_pos (Or.inl h8)]
            refine hp_aload_nR C dX6_ceases_280 e0 ?_
            refine mr_A C sh R fl_X6_41_6 rfl (by decide) dX6_ceases_281 ?_
            refine hp_iload C dX6_ceases_284 e6 ?_
            refine mr_nd C sh R 12 10 (by decide) (by decide) rfl hn8 dX6_ceases_286 ?_
            refine hp_goto (tgt := 297) C dX6_ceases_287 (by decide) ?_
            refine hp_iadd C dX6_ceases_297 ?_
            refine ms_tm C sh R fl_X6_82_6 (a_tm a + a_long a n) (Nat.le_add_right _ _) (by rw [lg, a_ofN (by omega), nI_add]) dX6_ceases_298 (fun H_298 R_298 => ?_)
            refine hp_aload_nR C dX6_ceases_301 e0 ?_
            refine mr_A C sh R_298 fl_X6_20_6 rfl (by decide) dX6_ceases_302 ?_
            refine hp_iload C dX6_ceases_305 e6 ?_
            refine hp_iconst (v := 0) C dX6_ceases_307 (by decide) ?_
            refine ms_st C sh R_298 hn8 0 (by omega) (fun z_7 => by cases z_7) (by decide) dX6_ceases_308 (fun H_308 R_308 => ?_)
            refine hp_aload_nR C dX6_ceases_309 e0 ?_
            refine hp_iload C dX6_ceases_310 rfl ?_
            refine hp_if_eq (tgt := 319) C dX6_ceases_312 (by decide) (fun _ => ?_) (fun z_9 => absurd z_9 (by decide))
            refine hp_iconst (v := 3) C dX6_ceases_319 (by decide) ?_
            refine hp_iload C dX6_ceases_320 e6 ?_
            refine hp_iconst (v := 0) C dX6_ceases_322 (by decide) ?_
            refine hp_callV (ci := 6) C ml_X6_89 im_X6_note se_X6_note rfl (by decide) (mc_note (d := d - 1) (w := 3) (n := n) (r := 0) sh R_308 hv) (by omega) dX6_ceases_323 (R_308.o sh) rfl rfl (by simp [Value.category]) (fun v_323 h_323 hp => ?_) (fun _ _ hf => hf.elim)
            obtain ⟨rfl, R_323⟩ := hp
            refine hp_iinc C dX6_ceases_326 e5 (by decide) rfl ?_
            refine hp_iinc C dX6_ceases_329 e4 (by decide) rfl ?_
            refine hp_goto (tgt := 29) C dX6_ceases_332 (by decide) ?_
            rw [← a_end_w hk rfl ds] at hP
            exact hP _ _ z R_323 (fun _ _ => ⟨rfl, rfl⟩) rfl e0 e2 e3 ((va_up_self _ _ _).trans (by rw [k_dec])) (by show some (Value.int (nI al + Int32.ofInt 1)) = _; rw [show Int32.ofInt 1 = 1 from rfl, nI_1])
          · refine hp_aload_nR C dX6_ceases_263 e0 ?_
            refine mr_A C sh R fl_X6_41_6 rfl (by decide) dX6_ceases_264 ?_
            refine hp_iload C dX6_ceases_267 e6 ?_
            refine mr_nd C sh R 12 10 (by decide) (by decide) rfl hn8 dX6_ceases_269 ?_
            refine hp_aload_nR C dX6_ceases_270 e0 ?_
            refine mr_A C sh R fl_X6_35_6 rfl (by decide) dX6_ceases_271 ?_
            refine hp_iload C dX6_ceases_274 e6 ?_
            refine mr_nd C sh R 10 8 (by decide) (by decide) rfl hn8 dX6_ceases_276 ?_
            refine hp_icmp_ge (tgt := 290) C dX6_ceases_277 (by decide) (fun c_277 => ?_) (fun c_277 => ?_)
            · have h8 : ¬ a_nd a 8 n < 0 := (not_congr (a_ofI_lt (x := a_nd a 8 n) (y := 0) (by omega) (by omega))).mp c_260
              have h9 : a_nd a 8 n ≤ a_nd a 10 n := (a_ofI_le (by omega) (by omega)).mp c_277
              have lg : a_long a n = (a_nd a 8 n).toNat := by unfold a_long; rw [if_neg (by omega)]
              refine hp_aload_nR C dX6_ceases_290 e0 ?_
              refine mr_A C sh R fl_X6_35_6 rfl (by decide) dX6_ceases_291 ?_
              refine hp_iload C dX6_ceases_294 e6 ?_
              refine mr_nd C sh R 10 8 (by decide) (by decide) rfl hn8 dX6_ceases_296 ?_
              refine hp_iadd C dX6_ceases_297 ?_
              refine ms_tm C sh R fl_X6_82_6 (a_tm a + a_long a n) (Nat.le_add_right _ _) (by rw [lg, a_ofN (by omega), nI_add]) dX6_ceases_298 (fun H_298 R_298 => ?_)
              refine hp_aload_nR C dX6_ceases_301 e0 ?_
              refine mr_A C sh R_298 fl_X6_20_6 rfl (by decide) dX6_ceases_302 ?_
              refine hp_iload C dX6_ceases_305 e6 ?_
              refine hp_iconst (v := 0) C dX6_ceases_307 (by decide) ?_
              refine ms_st C sh R_298 hn8 0 (by omega) (fun z_7 => by cases z_7) (by decide) dX6_ceases_308 (fun H_308 R_308 => ?_)
              refine hp_aload_nR C dX6_ceases_309 e0 ?_
              refine hp_iload C dX6_ceases_310 rfl ?_
              refine hp_if_eq (tgt := 319) C dX6_ceases_312 (by decide) (fun _ => ?_) (fun z_9 => absurd z_9 (by decide))
              refine hp_iconst (v := 3) C dX6_ceases_319 (by decide) ?_
              refine hp_iload C dX6_ceases_320 e6 ?_
              refine hp_iconst (v := 0) C dX6_ceases_322 (by decide) ?_
              refine hp_callV (ci := 6) C ml_X6_89 im_X6_note se_X6_note rfl (by decide) (mc_note (d := d - 1) (w := 3) (n := n) (r := 0) sh R_308 hv) (by omega) dX6_ceases_323 (R_308.o sh) rfl rfl (by simp [Value.category]) (fun v_323 h_323 hp => ?_) (fun _ _ hf => hf.elim)
              obtain ⟨rfl, R_323⟩ := hp
              refine hp_iinc C dX6_ceases_326 e5 (by decide) rfl ?_
              refine hp_iinc C dX6_ceases_329 e4 (by decide) rfl ?_
              refine hp_goto (tgt := 29) C dX6_ceases_332 (by decide) ?_
              rw [← a_end_w hk rfl ds] at hP
              exact hP _ _ z R_323 (fun _ _ => ⟨rfl, rfl⟩) rfl e0 e2 e3 ((va_up_self _ _ _).trans (by rw [k_dec])) (by show some (Value.int (nI al + Int32.ofInt 1)) = _; rw [show Int32.ofInt 1 = 1 from rfl, nI_1])
            · have h9 : ¬ a_nd a 8 n ≤ a_nd a 10 n := (not_congr (a_ofI_le (by omega) (by omega))).mp c_277
              have lg : a_long a n = (a_nd a 10 n).toNat := by unfold a_long; rw [if_pos (Or.inr (by omega))]
              refine hp_aload_nR C dX6_ceases_280 e0 ?_
              refine mr_A C sh R fl_X6_41_6 rfl (by decide) dX6_ceases_281 ?_
              refine hp_iload C dX6_ceases_284 e6 ?_
              refine mr_nd C sh R 12 10 (by decide) (by decide) rfl hn8 dX6_ceases_286 ?_
              refine hp_goto (tgt := 297) C dX6_ceases_287 (by decide) ?_
              refine hp_iadd C dX6_ceases_297 ?_
              refine ms_tm C sh R fl_X6_82_6 (a_tm a + a_long a n) (Nat.le_add_right _ _) (by rw [lg, a_ofN (by omega), nI_add]) dX6_ceases_298 (fun H_298 R_298 => ?_)
              refine hp_aload_nR C dX6_ceases_301 e0 ?_
              refine mr_A C sh R_298 fl_X6_20_6 rfl (by decide) dX6_ceases_302 ?_
              refine hp_iload C dX6_ceases_305 e6 ?_
              refine hp_iconst (v := 0) C dX6_ceases_307 (by decide) ?_
              refine ms_st C sh R_298 hn8 0 (by omega) (fun z_7 => by cases z_7) (by decide) dX6_ceases_308 (fun H_308 R_308 => ?_)
              refine hp_aload_nR C dX6_ceases_309 e0 ?_
              refine hp_iload C dX6_ceases_310 rfl ?_
              refine hp_if_eq (tgt := 319) C dX6_ceases_312 (by decide) (fun _ => ?_) (fun z_9 => absurd z_9 (by decide))
              refine hp_iconst (v := 3) C dX6_ceases_319 (by decide) ?_
              refine hp_iload C dX6_ceases_320 e6 ?_
              refine hp_iconst (v := 0) C dX6_ceases_322 (by decide) ?_
              refine hp_callV (ci := 6) C ml_X6_89 im_X6_note se_X6_note rfl (by decide) (mc_note (d := d - 1) (w := 3) (n := n) (r := 0) sh R_308 hv) (by omega) dX6_ceases_323 (R_308.o sh) rfl rfl (by simp [Value.category]) (fun v_323 h_323 hp => ?_) (fun _ _ hf => hf.elim)
              obtain ⟨rfl, R_323⟩ := hp
              refine hp_iinc C dX6_ceases_326 e5 (by decide) rfl ?_
              refine hp_iinc C dX6_ceases_329 e4 (by decide) rfl ?_
              refine hp_goto (tgt := 29) C dX6_ceases_332 (by decide) ?_
              rw [← a_end_w hk rfl ds] at hP
              exact hP _ _ z R_323 (fun _ _ => ⟨rfl, rfl⟩) rfl e0 e2 e3 ((va_up_self _ _ _).trans (by rw [k_dec])) (by show some (Value.int (nI al + Int32.ofInt 1)) = _; rw [show Int32.ofInt 1 = 1 from rfl, nI_1])
        · refine hp_aload_nR C dX6_ceases_224 e0 ?_
          refine mr_A C sh R fl_X6_41_6 rfl (by decide) dX6_ceases_225 ?_
          refine hp_iload C dX6_ceases_228 e6 ?_
          refine mr_nd C sh R 12 10 (by decide) (by decide) rfl hn8 dX6_ceases_230 ?_
          refine hp_aload_nR C dX6_ceases_231 e0 ?_
          refine mr_A C sh R fl_X6_35_6 rfl (by decide) dX6_ceases_232 ?_
          refine hp_iload C dX6_ceases_235 e6 ?_
          refine mr_nd C sh R 10 8 (by decide) (by decide) rfl hn8 dX6_ceases_237 ?_
          refine hp_icmp_le (tgt := 245) C dX6_ceases_238 (by decide) (fun c_238 => ?_) (fun c_238 => ?_)
          · refine hp_iconst (v := 0) C dX6_ceases_245 (by decide) ?_
            have g8 : ¬ a_nd a 8 n = 0 := fun e => c_211 (by rw [e]; decide)
            have f8 : ¬ a_nd a 8 n ≤ 0 := (not_congr (a_ofI_le (x := a_nd a 8 n) (y := 0) (by omega) (by omega))).mp c_221
            have f9 : a_nd a 10 n ≤ a_nd a 8 n := (a_ofI_le (by omega) (by omega)).mp c_238
            have ds : a_dies a n = false := by unfold a_dies; simp only [Bool.or_eq_false_iff, Bool.and_eq_false_iff, decide_eq_false_iff_not]; omega
            refine hp_istore C dX6_ceases_246 (by decide) ?_
            refine hp_aload_nR C dX6_ceases_248 e0 ?_
            refine hp_dup C dX6_ceases_249 rfl ?_
            refine mr_S C sh R fl_X6_82_6 (Or.inr (Or.inr (Or.inl ⟨rfl, rfl⟩))) dX6_ceases_250 ?_
            refine hp_aload_nR C dX6_ceases_253 e0 ?_
            refine mr_A C sh R fl_X6_35_6 rfl (by decide) dX6_ceases_254 ?_
            refine hp_iload C dX6_ceases_257 e6 ?_
            refine mr_nd C sh R 10 8 (by decide) (by decide) rfl hn8 dX6_ceases_259 ?_
            refine hp_if_lt (tgt := 280) C dX6_ceases_260 (by decide) (fun c_260 => ?_) (fun c_260 => ?_)
            · have h8 : a_nd a 8 n < 0 := (a_ofI_lt (x := a_nd a 8 n) (y := 0) (by omega) (by omega)).mp c_260
              have lg : a_long a n = (a_nd a 10 n).toNat := by unfold a_long; rw [if_pos (Or.inl h8)]
              refine hp_aload_nR C dX6_ceases_280 e0 ?_
              refine mr_A C sh R fl_X6_41_6 rfl (by decide) dX6_ceases_281 ?_
              refine hp_iload C dX6_ceases_284 e6 ?_
              refine mr_nd C sh R 12 10 (by decide) (by decide) rfl hn8 dX6_ceases_286 ?_
              refine hp_goto (tgt := 297) C dX6_ceases_287 (by decide) ?_
              refine hp_iadd C dX6_ceases_297 ?_
              refine ms_tm C sh R fl_X6_82_6 (a_tm a + a_long a n) (Nat.le_add_right _ _) (by rw [lg, a_ofN (by omega), nI_add]) dX6_ceases_298 (fun H_298 R_298 => ?_)
              refine hp_aload_nR C dX6_ceases_301 e0 ?_
              refine mr_A C sh R_298 fl_X6_20_6 rfl (by decide) dX6_ceases_302 ?_
              refine hp_iload C dX6_ceases_305 e6 ?_
              refine hp_iconst (v := 0) C dX6_ceases_307 (by decide) ?_
              refine ms_st C sh R_298 hn8 0 (by omega) (fun z_7 => by cases z_7) (by decide) dX6_ceases_308 (fun H_308 R_308 => ?_)
              refine hp_aload_nR C dX6_ceases_309 e0 ?_
              refine hp_iload C dX6_ceases_310 rfl ?_
              refine hp_if_eq (tgt := 319) C dX6_ceases_312 (by decide) (fun _ => ?_) (fun z_9 => absurd z_9 (by decide))
              refine hp_iconst (v := 3) C dX6_ceases_319 (by decide) ?_
              refine hp_iload C dX6_ceases_320 e6 ?_
              refine hp_iconst (v := 0) C dX6_ceases_322 (by decide) ?_
              refine hp_callV (ci := 6) C ml_X6_89 im_X6_note se_X6_note rfl (by decide) (mc_note (d := d - 1) (w := 3) (n := n) (r := 0) sh R_308 hv) (by omega) dX6_ceases_323 (R_308.o sh) rfl rfl (by simp [Value.category]) (fun v_323 h_323 hp => ?_) (fun _ _ hf => hf.elim)
              obtain ⟨rfl, R_323⟩ := hp
              refine hp_iinc C dX6_ceases_326 e5 (by decide) rfl ?_
              refine hp_iinc C dX6_ceases_329 e4 (by decide) rfl ?_
              refine hp_goto (tgt := 29) C dX6_ceases_332 (by decide) ?_
              rw [← a_end_w hk rfl ds] at hP
              exact hP _ _ z R_323 (fun _ _ => ⟨rfl, rfl⟩) rfl e0 e2 e3 ((va_up_self _ _ _).trans (by rw [k_dec])) (by show some (Value.int (nI al + Int32.ofInt 1)) = _; rw [show Int32.ofInt 1 = 1 from rfl, nI_1])
            · refine hp_aload_nR C dX6_ceases_263 e0 ?_
              refine mr_A C sh R fl_X6_41_6 rfl (by decide) dX6_ceases_264 ?_
              refine hp_iload C dX6_ceases_267 e6 ?_
              refine mr_nd C sh R 12 10 (by decide) (by decide) rfl hn8 dX6_ceases_269 ?_
              refine hp_aload_nR C dX6_ceases_270 e0 ?_
              refine mr_A C sh R fl_X6_35_6 rfl (by decide) dX6_ceases_271 ?_
              refine hp_iload C dX6_ceases_274 e6 ?_
              refine mr_nd C sh R 10 8 (by decide) (by decide) rfl hn8 dX6_ceases_276 ?_
              refine hp_icmp_ge (tgt := 290) C dX6_ceases_277 (by decide) (fun c_277 => ?_) (fun c_277 => ?_)
              · have h8 : ¬ a_nd a 8 n < 0 := (not_congr (a_ofI_lt (x := a_nd a 8 n) (y := 0) (by omega) (by omega))).mp c_260
                have h9 : a_nd a 8 n ≤ a_nd a 10 n := (a_ofI_le (by omega) (by omega)).mp c_277
                have lg : a_long a n = (a_nd a 8 n).toNat := by unfold a_long; rw [if_neg (by omega)]
                refine hp_aload_nR C dX6_ceases_290 e0 ?_
                refine mr_A C sh R fl_X6_35_6 rfl (by decide) dX6_ceases_291 ?_
                refine hp_iload C dX6_ceases_294 e6 ?_
                refine mr_nd C sh R 10 8 (by decide) (by decide) rfl hn8 dX6_ceases_296 ?_
                refine hp_iadd C dX6_ceases_297 ?_
                refine ms_tm C sh R fl_X6_82_6 (a_tm a + a_long a n) (Nat.le_add_right _ _) (by rw [lg, a_ofN (by omega), nI_add]) dX6_ceases_298 (fun H_298 R_298 => ?_)
                refine hp_aload_nR C dX6_ceases_301 e0 ?_
                refine mr_A C sh R_298 fl_X6_20_6 rfl (by decide) dX6_ceases_302 ?_
                refine hp_iload C dX6_ceases_305 e6 ?_
                refine hp_iconst (v := 0) C dX6_ceases_307 (by decide) ?_
                refine ms_st C sh R_298 hn8 0 (by omega) (fun z_7 => by cases z_7) (by decide) dX6_ceases_308 (fun H_308 R_308 => ?_)
                refine hp_aload_nR C dX6_ceases_309 e0 ?_
                refine hp_iload C dX6_ceases_310 rfl ?_
                refine hp_if_eq (tgt := 319) C dX6_ceases_312 (by decide) (fun _ => ?_) (fun z_9 => absurd z_9 (by decide))
                refine hp_iconst (v := 3) C dX6_ceases_319 (by decide) ?_
                refine hp_iload C dX6_ceases_320 e6 ?_
                refine hp_iconst (v := 0) C dX6_ceases_322 (by decide) ?_
                refine hp_callV (ci := 6) C ml_X6_89 im_X6_note se_X6_note rfl (by decide) (mc_note (d := d - 1) (w := 3) (n := n) (r := 0) sh R_308 hv) (by omega) dX6_ceases_323 (R_308.o sh) rfl rfl (by simp [Value.category]) (fun v_323 h_323 hp => ?_) (fun _ _ hf => hf.elim)
                obtain ⟨rfl, R_323⟩ := hp
                refine hp_iinc C dX6_ceases_326 e5 (by decide) rfl ?_
                refine hp_iinc C dX6_ceases_329 e4 (by decide) rfl ?_
                refine hp_goto (tgt := 29) C dX6_ceases_332 (by decide) ?_
                rw [← a_end_w hk rfl ds] at hP
                exact hP _ _ z R_323 (fun _ _ => ⟨rfl, rfl⟩) rfl e0 e2 e3 ((va_up_self _ _ _).trans (by rw [k_dec])) (by show some (Value.int (nI al + Int32.ofInt 1)) = _; rw [show Int32.ofInt 1 = 1 from rfl, nI_1])
              · have h9 : ¬ a_nd a 8 n ≤ a_nd a 10 n := (not_congr (a_ofI_le (by omega) (by omega))).mp c_277
                have lg : a_long a n = (a_nd a 10 n).toNat := by unfold a_long; rw [if_pos (Or.inr (by omega))]
                refine hp_aload_nR C dX6_ceases_280 e0 ?_
                refine mr_A C sh R fl_X6_41_6 rfl (by decide) dX6_ceases_281 ?_
                refine hp_iload C dX6_ceases_284 e6 ?_
                refine mr_nd C sh R 12 10 (by decide) (by decide) rfl hn8 dX6_ceases_286 ?_
                refine hp_goto (tgt := 297) C dX6_ceases_287 (by decide) ?_
                refine hp_iadd C dX6_ceases_297 ?_
                refine ms_tm C sh R fl_X6_82_6 (a_tm a + a_long a n) (Nat.le_add_right _ _) (by rw [lg, a_ofN (by omega), nI_add]) dX6_ceases_298 (fun H_298 R_298 => ?_)
                refine hp_aload_nR C dX6_ceases_301 e0 ?_
                refine mr_A C sh R_298 fl_X6_20_6 rfl (by decide) dX6_ceases_302 ?_
                refine hp_iload C dX6_ceases_305 e6 ?_
                refine hp_iconst (v := 0) C dX6_ceases_307 (by decide) ?_
                refine ms_st C sh R_298 hn8 0 (by omega) (fun z_7 => by cases z_7) (by decide) dX6_ceases_308 (fun H_308 R_308 => ?_)
                refine hp_aload_nR C dX6_ceases_309 e0 ?_
                refine hp_iload C dX6_ceases_310 rfl ?_
                refine hp_if_eq (tgt := 319) C dX6_ceases_312 (by decide) (fun _ => ?_) (fun z_9 => absurd z_9 (by decide))
                refine hp_iconst (v := 3) C dX6_ceases_319 (by decide) ?_
                refine hp_iload C dX6_ceases_320 e6 ?_
                refine hp_iconst (v := 0) C dX6_ceases_322 (by decide) ?_
                refine hp_callV (ci := 6) C ml_X6_89 im_X6_note se_X6_note rfl (by decide) (mc_note (d := d - 1) (w := 3) (n := n) (r := 0) sh R_308 hv) (by omega) dX6_ceases_323 (R_308.o sh) rfl rfl (by simp [Value.category]) (fun v_323 h_323 hp => ?_) (fun _ _ hf => hf.elim)
                obtain ⟨rfl, R_323⟩ := hp
                refine hp_iinc C dX6_ceases_326 e5 (by decide) rfl ?_
                refine hp_iinc C dX6_ceases_329 e4 (by decide) rfl ?_
                refine hp_goto (tgt := 29) C dX6_ceases_332 (by decide) ?_
                rw [← a_end_w hk rfl ds] at hP
                exact hP _ _ z R_323 (fun _ _ => ⟨rfl, rfl⟩) rfl e0 e2 e3 ((va_up_self _ _ _).trans (by rw [k_dec])) (by show some (Value.int (nI al + Int32.ofInt 1)) = _; rw [show Int32.ofInt 1 = 1 from rfl, nI_1])
          · refine hp_iconst (v := 1) C dX6_ceases_241 (by decide) ?_
            refine hp_goto (tgt := 246) C dX6_ceases_242 (by decide) ?_
            have g8 : ¬ a_nd a 8 n = 0 := fun e => c_211 (by rw [e]; decide)
            have f8 : ¬ a_nd a 8 n ≤ 0 := (not_congr (a_ofI_le (x := a_nd a 8 n) (y := 0) (by omega) (by omega))).mp c_221
            have f9 : ¬ a_nd a 10 n ≤ a_nd a 8 n := (not_congr (a_ofI_le (by omega) (by omega))).mp c_238
            have ds : a_dies a n = true := by unfold a_dies; simp only [Bool.or_eq_true, Bool.and_eq_true, decide_eq_true_eq]; omega
            refine hp_istore C dX6_ceases_246 (by decide) ?_
            refine hp_aload_nR C dX6_ceases_248 e0 ?_
            refine hp_dup C dX6_ceases_249 rfl ?_
            refine mr_S C sh R fl_X6_82_6 (Or.inr (Or.inr (Or.inl ⟨rfl, rfl⟩))) dX6_ceases_250 ?_
            refine hp_aload_nR C dX6_ceases_253 e0 ?_
            refine mr_A C sh R fl_X6_35_6 rfl (by decide) dX6_ceases_254 ?_
            refine hp_iload C dX6_ceases_257 e6 ?_
            refine mr_nd C sh R 10 8 (by decide) (by decide) rfl hn8 dX6_ceases_259 ?_
            refine hp_if_lt (tgt := 280) C dX6_ceases_260 (by decide) (fun c_260 => ?_) (fun c_260 => ?_)
            · have h8 : a_nd a 8 n < 0 := (a_ofI_lt (x := a_nd a 8 n) (y := 0) (by omega) (by omega)).mp c_260
              have lg : a_long a n = (a_nd a 10 n).toNat := by unfold a_long; rw [if_pos (Or.inl h8)]
              refine hp_aload_nR C dX6_ceases_280 e0 ?_
              refine mr_A C sh R fl_X6_41_6 rfl (by decide) dX6_ceases_281 ?_
              refine hp_iload C dX6_ceases_284 e6 ?_
              refine mr_nd C sh R 12 10 (by decide) (by decide) rfl hn8 dX6_ceases_286 ?_
              refine hp_goto (tgt := 297) C dX6_ceases_287 (by decide) ?_
              refine hp_iadd C dX6_ceases_297 ?_
              refine ms_tm C sh R fl_X6_82_6 (a_tm a + a_long a n) (Nat.le_add_right _ _) (by rw [lg, a_ofN (by omega), nI_add]) dX6_ceases_298 (fun H_298 R_298 => ?_)
              refine hp_aload_nR C dX6_ceases_301 e0 ?_
              refine mr_A C sh R_298 fl_X6_20_6 rfl (by decide) dX6_ceases_302 ?_
              refine hp_iload C dX6_ceases_305 e6 ?_
              refine hp_iconst (v := 0) C dX6_ceases_307 (by decide) ?_
              refine ms_st C sh R_298 hn8 0 (by omega) (fun z_7 => by cases z_7) (by decide) dX6_ceases_308 (fun H_308 R_308 => ?_)
              refine hp_aload_nR C dX6_ceases_309 e0 ?_
              refine hp_iload C dX6_ceases_310 rfl ?_
              refine hp_if_eq (tgt := 319) C dX6_ceases_312 (by decide) (fun z_9 => absurd z_9 (by decide)) (fun _ => ?_)
              refine hp_iconst (v := 4) C dX6_ceases_315 (by decide) ?_
              refine hp_goto (tgt := 320) C dX6_ceases_316 (by decide) ?_
              refine hp_iload C dX6_ceases_320 e6 ?_
              refine hp_iconst (v := 0) C dX6_ceases_322 (by decide) ?_
              refine hp_callV (ci := 6) C ml_X6_89 im_X6_note se_X6_note rfl (by decide) (mc_note (d := d - 1) (w := 4) (n := n) (r := 0) sh R_308 hv) (by omega) dX6_ceases_323 (R_308.o sh) rfl rfl (by simp [Value.category]) (fun v_323 h_323 hp => ?_) (fun _ _ hf => hf.elim)
              obtain ⟨rfl, R_323⟩ := hp
              refine hp_iinc C dX6_ceases_326 e5 (by decide) rfl ?_
              refine hp_iinc C dX6_ceases_329 e4 (by decide) rfl ?_
              refine hp_goto (tgt := 29) C dX6_ceases_332 (by decide) ?_
              rw [← a_end_w hk rfl ds] at hP
              exact hP _ _ z R_323 (fun _ _ => ⟨rfl, rfl⟩) rfl e0 e2 e3 ((va_up_self _ _ _).trans (by rw [k_dec])) (by show some (Value.int (nI al + Int32.ofInt 1)) = _; rw [show Int32.ofInt 1 = 1 from rfl, nI_1])
            · refine hp_aload_nR C dX6_ceases_263 e0 ?_
              refine mr_A C sh R fl_X6_41_6 rfl (by decide) dX6_ceases_264 ?_
              refine hp_iload C dX6_ceases_267 e6 ?_
              refine mr_nd C sh R 12 10 (by decide) (by decide) rfl hn8 dX6_ceases_269 ?_
              refine hp_aload_nR C dX6_ceases_270 e0 ?_
              refine mr_A C sh R fl_X6_35_6 rfl (by decide) dX6_ceases_271 ?_
              refine hp_iload C dX6_ceases_274 e6 ?_
              refine mr_nd C sh R 10 8 (by decide) (by decide) rfl hn8 dX6_ceases_276 ?_
              refine hp_icmp_ge (tgt := 290) C dX6_ceases_277 (by decide) (fun c_277 => ?_) (fun c_277 => ?_)
              · have h8 : ¬ a_nd a 8 n < 0 := (not_congr (a_ofI_lt (x := a_nd a 8 n) (y := 0) (by omega) (by omega))).mp c_260
                have h9 : a_nd a 8 n ≤ a_nd a 10 n := (a_ofI_le (by omega) (by omega)).mp c_277
                have lg : a_long a n = (a_nd a 8 n).toNat := by unfold a_long; rw [if_neg (by omega)]
                refine hp_aload_nR C dX6_ceases_290 e0 ?_
                refine mr_A C sh R fl_X6_35_6 rfl (by decide) dX6_ceases_291 ?_
                refine hp_iload C dX6_ceases_294 e6 ?_
                refine mr_nd C sh R 10 8 (by decide) (by decide) rfl hn8 dX6_ceases_296 ?_
                refine hp_iadd C dX6_ceases_297 ?_
                refine ms_tm C sh R fl_X6_82_6 (a_tm a + a_long a n) (Nat.le_add_right _ _) (by rw [lg, a_ofN (by omega), nI_add]) dX6_ceases_298 (fun H_298 R_298 => ?_)
                refine hp_aload_nR C dX6_ceases_301 e0 ?_
                refine mr_A C sh R_298 fl_X6_20_6 rfl (by decide) dX6_ceases_302 ?_
                refine hp_iload C dX6_ceases_305 e6 ?_
                refine hp_iconst (v := 0) C dX6_ceases_307 (by decide) ?_
                refine ms_st C sh R_298 hn8 0 (by omega) (fun z_7 => by cases z_7) (by decide) dX6_ceases_308 (fun H_308 R_308 => ?_)
                refine hp_aload_nR C dX6_ceases_309 e0 ?_
                refine hp_iload C dX6_ceases_310 rfl ?_
                refine hp_if_eq (tgt := 319) C dX6_ceases_312 (by decide) (fun z_9 => absurd z_9 (by decide)) (fun _ => ?_)
                refine hp_iconst (v := 4) C dX6_ceases_315 (by decide) ?_
                refine hp_goto (tgt := 320) C dX6_ceases_316 (by decide) ?_
                refine hp_iload C dX6_ceases_320 e6 ?_
                refine hp_iconst (v := 0) C dX6_ceases_322 (by decide) ?_
                refine hp_callV (ci := 6) C ml_X6_89 im_X6_note se_X6_note rfl (by decide) (mc_note (d := d - 1) (w := 4) (n := n) (r := 0) sh R_308 hv) (by omega) dX6_ceases_323 (R_308.o sh) rfl rfl (by simp [Value.category]) (fun v_323 h_323 hp => ?_) (fun _ _ hf => hf.elim)
                obtain ⟨rfl, R_323⟩ := hp
                refine hp_iinc C dX6_ceases_326 e5 (by decide) rfl ?_
                refine hp_iinc C dX6_ceases_329 e4 (by decide) rfl ?_
                refine hp_goto (tgt := 29) C dX6_ceases_332 (by decide) ?_
                rw [← a_end_w hk rfl ds] at hP
                exact hP _ _ z R_323 (fun _ _ => ⟨rfl, rfl⟩) rfl e0 e2 e3 ((va_up_self _ _ _).trans (by rw [k_dec])) (by show some (Value.int (nI al + Int32.ofInt 1)) = _; rw [show Int32.ofInt 1 = 1 from rfl, nI_1])
              · have h9 : ¬ a_nd a 8 n ≤ a_nd a 10 n := (not_congr (a_ofI_le (by omega) (by omega))).mp c_277
                have lg : a_long a n = (a_nd a 10 n).toNat := by unfold a_long; rw [if_pos (Or.inr (by omega))]
                refine hp_aload_nR C dX6_ceases_280 e0 ?_
                refine mr_A C sh R fl_X6_41_6 rfl (by decide) dX6_ceases_281 ?_
                refine hp_iload C dX6_ceases_284 e6 ?_
                refine mr_nd C sh R 12 10 (by decide) (by decide) rfl hn8 dX6_ceases_286 ?_
                refine hp_goto (tgt := 297) C dX6_ceases_287 (by decide) ?_
                refine hp_iadd C dX6_ceases_297 ?_
                refine ms_tm C sh R fl_X6_82_6 (a_tm a + a_long a n) (Nat.le_add_right _ _) (by rw [lg, a_ofN (by omega), nI_add]) dX6_ceases_298 (fun H_298 R_298 => ?_)
                refine hp_aload_nR C dX6_ceases_301 e0 ?_
                refine mr_A C sh R_298 fl_X6_20_6 rfl (by decide) dX6_ceases_302 ?_
                refine hp_iload C dX6_ceases_305 e6 ?_
                refine hp_iconst (v := 0) C dX6_ceases_307 (by decide) ?_
                refine ms_st C sh R_298 hn8 0 (by omega) (fun z_7 => by cases z_7) (by decide) dX6_ceases_308 (fun H_308 R_308 => ?_)
                refine hp_aload_nR C dX6_ceases_309 e0 ?_
                refine hp_iload C dX6_ceases_310 rfl ?_
                refine hp_if_eq (tgt := 319) C dX6_ceases_312 (by decide) (fun z_9 => absurd z_9 (by decide)) (fun _ => ?_)
                refine hp_iconst (v := 4) C dX6_ceases_315 (by decide) ?_
                refine hp_goto (tgt := 320) C dX6_ceases_316 (by decide) ?_
                refine hp_iload C dX6_ceases_320 e6 ?_
                refine hp_iconst (v := 0) C dX6_ceases_322 (by decide) ?_
                refine hp_callV (ci := 6) C ml_X6_89 im_X6_note se_X6_note rfl (by decide) (mc_note (d := d - 1) (w := 4) (n := n) (r := 0) sh R_308 hv) (by omega) dX6_ceases_323 (R_308.o sh) rfl rfl (by simp [Value.category]) (fun v_323 h_323 hp => ?_) (fun _ _ hf => hf.elim)
                obtain ⟨rfl, R_323⟩ := hp
                refine hp_iinc C dX6_ceases_326 e5 (by decide) rfl ?_
                refine hp_iinc C dX6_ceases_329 e4 (by decide) rfl ?_
                refine hp_goto (tgt := 29) C dX6_ceases_332 (by decide) ?_
                rw [← a_end_w hk rfl ds] at hP
                exact hP _ _ z R_323 (fun _ _ => ⟨rfl, rfl⟩) rfl e0 e2 e3 ((va_up_self _ _ _).trans (by rw [k_dec])) (by show some (Value.int (nI al + Int32.ofInt 1)) = _; rw [show Int32.ofInt 1 = 1 from rfl, nI_1])
    · have ee : a_end false n a = a_no (a_sn a 3 n 0) 3 n 0 := by unfold a_end; rw [if_neg (fun z => by have := z.1; omega)]; rfl
      rw [ee] at hP
      refine hp_iload_n C dX6_ceases_187 e3 ?_
      refine hp_istore C dX6_ceases_188 (by decide) ?_
      refine hp_aload_nR C dX6_ceases_190 e0 ?_
      refine mr_A C sh R fl_X6_7_6 rfl (by decide) dX6_ceases_191 ?_
      refine hp_iload C dX6_ceases_194 e6 ?_
      refine mr_kp C sh R hn8 dX6_ceases_196 ?_
      refine hp_if_ne (tgt := 301) C dX6_ceases_197 (by decide) (fun _ => ?_) (fun z_9 => absurd z_9 (show ¬ Int32.ofInt (a_nd a 0 n) = 0 by rw [hk]; decide))
      refine hp_aload_nR C dX6_ceases_301 e0 ?_
      refine mr_A C sh R fl_X6_20_6 rfl (by decide) dX6_ceases_302 ?_
      refine hp_iload C dX6_ceases_305 e6 ?_
      refine hp_iconst (v := 0) C dX6_ceases_307 (by decide) ?_
      refine ms_st C sh R hn8 0 (by omega) (fun z_7 => by cases z_7) (by decide) dX6_ceases_308 (fun H_308 R_308 => ?_)
      refine hp_aload_nR C dX6_ceases_309 e0 ?_
      refine hp_iload C dX6_ceases_310 rfl ?_
      refine hp_if_eq (tgt := 319) C dX6_ceases_312 (by decide) (fun _ => ?_) (fun z_9 => absurd (show (0 : Int32) = 0 by decide) z_9)
      refine hp_iconst (v := 3) C dX6_ceases_319 (by decide) ?_
      refine hp_iload C dX6_ceases_320 e6 ?_
      refine hp_iconst (v := 0) C dX6_ceases_322 (by decide) ?_
      refine hp_callV (ci := 6) C ml_X6_89 im_X6_note se_X6_note rfl (by decide) (mc_note (d := d - 1) (w := 3) (n := n) (r := 0) sh R_308 hv) (by omega) dX6_ceases_323 (R_308.o sh) rfl rfl (by simp [Value.category]) (fun v_323 h_323 hp => ?_) (fun _ _ hf => hf.elim)
      obtain ⟨rfl, R_323⟩ := hp
      refine hp_iinc C dX6_ceases_326 e5 (by decide) rfl ?_
      refine hp_iinc C dX6_ceases_329 e4 (by decide) rfl ?_
      refine hp_goto (tgt := 29) C dX6_ceases_332 (by decide) ?_
      exact hP _ _ z R_323 (fun _ _ => ⟨rfl, rfl⟩) rfl e0 e2 e3 ((va_up_self _ _ _).trans (by rw [k_dec])) (by show some (Value.int (nI al + Int32.ofInt 1)) = _; rw [show Int32.ofInt 1 = 1 from rfl, nI_1])
set_option maxHeartbeats 4000000 in
theorem mo_ceJ {M : hpM} {G : hpG} {d : Nat} {h0 h : hpT} {m : Nat} {Q : State → Prop} (sh : mo_sh G h m) (C : hp_F M G yX6_ceases cX6_ceases 8 d h0) (hd : 1 ≤ d) {k : Bool} {fr : Nat} {f n : Nat} {L : List Nat} (hA : ∀ (c lv al : Nat) (lo : Nat → Option Value) (H : hpT) (a : aS) (z : mrZ), MR h m H a z → a_T a → c < a_mk a → (9 : Int) ≤ f + a_nd a 2 c → (lv : Int) ≤ a_nd a 2 c → fr ≤ lv → (a_ev (a_ce k f c a).2).length < 2 ^ 30 → z.1 lv = nI c → z.2.1 lv = nI (a_rw a c).length - 1 → lo 0 = some (.ref m) → lo 2 = some (.int (nI fr)) → lo 3 = some (.int (if k = true then 1 else 0)) → lo 4 = some (.int (nI lv)) → lo 5 = some (.int (nI al)) → (∀ (lo' : Nat → Option Value) (H' : hpT) (z' : mrZ), MR h m H' (a_ce k f c a).2 z' → (∀ i, i < lv → z'.1 i = z.1 i ∧ z'.2.1 i = z.2.1 i) → z'.2.2 = z.2.2 → lo' 0 = some (.ref m) → lo' 2 = some (.int (nI fr)) → lo' 3 = some (.int (if k = true then 1 else 0)) → lo' 4 = some (.int (nI lv - 1)) → lo' 5 = some (.int (nI (al + (a_ce k f c a).1))) → hp_V M G 8 Q H' 29 lo' []) → hp_V M G 8 Q H 29 lo []) : ∀ (j lv al : Nat) (lo : Nat → Option Value) (H : hpT) (a : aS) (z : mrZ), MR h m H a z → a_lv f n L a → j ≤ L.length → (lv : Int) ≤ a_nd a 2 n → fr ≤ lv → (a_ev (a_end k n (a_cR (a_ce k f) (L.take j).reverse a).2)).length < 2 ^ 30 → z.1 lv = nI n → z.2.1 lv = nI j - 1 → lo 0 = some (.ref m) → lo 2 = some (.int (nI fr)) → lo 3 = some (.int (if k = true then 1 else 0)) → lo 4 = some (.int (nI lv)) → lo 5 = some (.int (nI al)) → lo 6 = some (.int (nI n)) → (∀ (lo' : Nat → Option Value) (H' : hpT) (z' : mrZ), MR h m H' (a_end k n (a_cR (a_ce k f) (L.take j).reverse a).2) z' → (∀ i, i < lv → z'.1 i = z.1 i ∧ z'.2.1 i = z.2.1 i) → z'.2.2 = z.2.2 → lo' 0 = some (.ref m) → lo' 2 = some (.int (nI fr)) → lo' 3 = some (.int (if k = true then 1 else 0)) → lo' 4 = some (.int (nI lv - 1)) → lo' 5 = some (.int (nI (al + ((a_cR (a_ce k f) (L.take j).reverse a).1 + 1)))) → hp_V M G 8 Q H' 29 lo' []) → hp_V M G 8 Q H 44 lo [] := by
  intro j
  induction j with
  | zero =>
    intro lv al lo H a z R X hj hlv hfr hv zw zt e0 e2 e3 e4 e5 e6 hP
    have T := X.1
    have hn := X.2.1
    have hk := X.2.2.1
    have hn8 : n < 80 := Nat.lt_of_lt_of_le hn T.1.2
    have r2 := T.r2 hn
    have hl10 : lv < 10 := by omega
    refine hp_aload_nR C dX6_ceases_44 e0 ?_
    refine mr_A C sh R fl_X6_7_6 rfl (by decide) dX6_ceases_45 ?_
    refine hp_iload C dX6_ceases_48 e6 ?_
    refine mr_kp C sh R hn8 dX6_ceases_50 ?_
    refine hp_if_eq (tgt := 105) C dX6_ceases_51 (by decide) (fun z_9 => absurd z_9 (show ¬ Int32.ofInt (a_nd a 0 n) = 0 by rw [hk]; decide)) (fun _ => ?_)
    refine hp_aload_nR C dX6_ceases_54 e0 ?_
    refine mr_A C sh R fl_X6_65_6 rfl (by decide) dX6_ceases_55 ?_
    refine hp_iload C dX6_ceases_58 e4 ?_
    refine mr_at C sh R hl10 zt dX6_ceases_60 ?_
    refine hp_if_lt (tgt := 105) C dX6_ceases_61 (by decide) (fun _ => ?_) (fun z_9 => absurd (show (nI 0 - 1 : Int32) < 0 by decide) z_9)
    refine hp_aload_nR C dX6_ceases_105 e0 ?_
    refine mr_A C sh R fl_X6_7_6 rfl (by decide) dX6_ceases_106 ?_
    refine hp_iload C dX6_ceases_109 e6 ?_
    refine mr_kp C sh R hn8 dX6_ceases_111 ?_
    refine hp_if_eq (tgt := 187) C dX6_ceases_112 (by decide) (fun z_9 => absurd z_9 (show ¬ Int32.ofInt (a_nd a 0 n) = 0 by rw [hk]; decide)) (fun _ => ?_)
    refine hp_aload_nR C dX6_ceases_115 e0 ?_
    refine mr_A C sh R fl_X6_65_6 rfl (by decide) dX6_ceases_116 ?_
    refine hp_iload C dX6_ceases_119 e4 ?_
    refine mr_at C sh R hl10 zt dX6_ceases_121 ?_
    refine hp_if_lt (tgt := 187) C dX6_ceases_122 (by decide) (fun _ => ?_) (fun z_9 => absurd (show (nI 0 - 1 : Int32) < 0 by decide) z_9)
    exact mo_ceE sh C hd n lv al lo H a z R T hn (Nat.lt_of_le_of_lt (a_end_kp k n a).ev hv) e0 e2 e3 e4 e5 e6 hP
  | succ j ih =>
    intro lv al lo H a z R X hj hlv hfr hv zw zt e0 e2 e3 e4 e5 e6 hP
    rw [nI_pred] at zt
    have T := X.1
    have hn := X.2.1
    have hk := X.2.2.1
    have hn8 : n < 80 := Nat.lt_of_lt_of_le hn T.1.2
    have r2 := T.r2 hn
    have hl10 : lv < 10 := by omega
    have eL := X.2.2.2.2
    subst eL
    have hjl : j < (a_rw a n).length := by omega
    have hl79 := T.rl hn
    obtain ⟨hc, h9⟩ := X.c hjl
    have hc8 : (a_rw a n).getD j 0 < 80 := Nat.lt_of_lt_of_le hc T.1.2
    have r3 := T.r3 hc
    have hdc := (T.rc hn (k_rc T hn hjl)).2.2
    rw [k_tk hjl] at hv hP
    generalize hcc : (a_rw a n).getD j 0 = c at hc hc8 h9 r3 hdc hv hP
    refine hp_aload_nR C dX6_ceases_44 e0 ?_
    refine mr_A C sh R fl_X6_7_6 rfl (by decide) dX6_ceases_45 ?_
    refine hp_iload C dX6_ceases_48 e6 ?_
    refine mr_kp C sh R hn8 dX6_ceases_50 ?_
    refine hp_if_eq (tgt := 105) C dX6_ceases_51 (by decide) (fun z_9 => absurd z_9 (show ¬ Int32.ofInt (a_nd a 0 n) = 0 by rw [hk]; decide)) (fun _ => ?_)
    refine hp_aload_nR C dX6_ceases_54 e0 ?_
    refine mr_A C sh R fl_X6_65_6 rfl (by decide) dX6_ceases_55 ?_
    refine hp_iload C dX6_ceases_58 e4 ?_
    refine mr_at C sh R hl10 zt dX6_ceases_60 ?_
    refine hp_if_lt (tgt := 105) C dX6_ceases_61 (by decide) (fun z_9 => absurd z_9 (nI_pos (by omega))) (fun _ => ?_)
    refine hp_aload_nR C dX6_ceases_64 e0 ?_
    refine mr_A C sh R fl_X6_20_6 rfl (by decide) dX6_ceases_65 ?_
    refine hp_aload_nR C dX6_ceases_68 e0 ?_
    refine mr_A C sh R fl_X6_47_6 rfl (by decide) dX6_ceases_69 ?_
    refine hp_bipush (v := 80) C dX6_ceases_72 (by decide) ?_
    refine hp_iload C dX6_ceases_74 e6 ?_
    refine hp_imul C dX6_ceases_76 ?_
    refine hp_aload_nR C dX6_ceases_77 e0 ?_
    refine mr_A C sh R fl_X6_65_6 rfl (by decide) dX6_ceases_78 ?_
    refine hp_iload C dX6_ceases_81 e4 ?_
    refine mr_at C sh R hl10 zt dX6_ceases_83 ?_
    refine hp_iadd C dX6_ceases_84 ?_
    refine mr_row C sh R hn8 hjl rfl dX6_ceases_85 ?_
    rw [hcc]
    refine mr_nd C sh R 5 3 (by decide) (by decide) rfl hc8 dX6_ceases_86 ?_
    refine hp_iconst (v := 1) C dX6_ceases_87 (by decide) ?_
    refine hp_icmp_eq (tgt := 105) C dX6_ceases_88 (by decide) (fun c_88 => ?_) (fun c_88 => ?_)
    · refine hp_aload_nR C dX6_ceases_105 e0 ?_
      refine mr_A C sh R fl_X6_7_6 rfl (by decide) dX6_ceases_106 ?_
      refine hp_iload C dX6_ceases_109 e6 ?_
      refine mr_kp C sh R hn8 dX6_ceases_111 ?_
      refine hp_if_eq (tgt := 187) C dX6_ceases_112 (by decide) (fun z_9 => absurd z_9 (show ¬ Int32.ofInt (a_nd a 0 n) = 0 by rw [hk]; decide)) (fun _ => ?_)
      refine hp_aload_nR C dX6_ceases_115 e0 ?_
      refine mr_A C sh R fl_X6_65_6 rfl (by decide) dX6_ceases_116 ?_
      refine hp_iload C dX6_ceases_119 e4 ?_
      refine mr_at C sh R hl10 zt dX6_ceases_121 ?_
      refine hp_if_lt (tgt := 187) C dX6_ceases_122 (by decide) (fun z_9 => absurd z_9 (nI_pos (by omega))) (fun _ => ?_)
      refine hp_aload_nR C dX6_ceases_125 e0 ?_
      refine mr_A C sh R fl_X6_47_6 rfl (by decide) dX6_ceases_126 ?_
      refine hp_bipush (v := 80) C dX6_ceases_129 (by decide) ?_
      refine hp_iload C dX6_ceases_131 e6 ?_
      refine hp_imul C dX6_ceases_133 ?_
      refine hp_aload_nR C dX6_ceases_134 e0 ?_
      refine mr_A C sh R fl_X6_65_6 rfl (by decide) dX6_ceases_135 ?_
      refine hp_iload C dX6_ceases_138 e4 ?_
      refine mr_at C sh R hl10 zt dX6_ceases_140 ?_
      refine hp_iadd C dX6_ceases_141 ?_
      refine mr_row C sh R hn8 hjl rfl dX6_ceases_142 ?_
      rw [hcc]
      refine hp_istore C dX6_ceases_143 (by decide) ?_
      refine hp_aload_nR C dX6_ceases_145 e0 ?_
      refine mr_A C sh R fl_X6_65_6 rfl (by decide) dX6_ceases_146 ?_
      refine hp_iload C dX6_ceases_149 e4 ?_
      refine hp_dup2 C dX6_ceases_151 rfl rfl ?_
      refine mr_at C sh R hl10 zt dX6_ceases_152 ?_
      refine hp_iconst (v := 1) C dX6_ceases_153 (by decide) ?_
      refine hp_isub C dX6_ceases_154 ?_
      refine ms_at C sh R hl10 dX6_ceases_155 (fun H_155 R_155 => ?_)
      refine hp_iinc C dX6_ceases_156 e4 (by decide) rfl ?_
      rw [show nI lv + Int32.ofInt 1 = nI (lv + 1) from by rw [show Int32.ofInt 1 = 1 from rfl, nI_1]]
      refine hp_aload_nR C dX6_ceases_159 e0 ?_
      refine mr_A C sh R_155 fl_X6_62_6 rfl (by decide) dX6_ceases_160 ?_
      refine hp_iload C dX6_ceases_163 rfl ?_
      refine hp_iload C dX6_ceases_165 rfl ?_
      refine ms_way C sh R_155 (show lv + 1 < 10 by omega) dX6_ceases_167 (fun H_167 R_167 => ?_)
      refine hp_aload_nR C dX6_ceases_168 e0 ?_
      refine mr_A C sh R_167 fl_X6_65_6 rfl (by decide) dX6_ceases_169 ?_
      refine hp_iload C dX6_ceases_172 rfl ?_
      refine hp_aload_nR C dX6_ceases_174 e0 ?_
      refine mr_A C sh R_167 fl_X6_50_6 rfl (by decide) dX6_ceases_175 ?_
      refine hp_iload C dX6_ceases_178 rfl ?_
      refine mr_many C sh R_167 hc8 dX6_ceases_180 ?_
      refine hp_iconst (v := 1) C dX6_ceases_181 (by decide) ?_
      refine hp_isub C dX6_ceases_182 ?_
      refine ms_at C sh R_167 (show lv + 1 < 10 by omega) dX6_ceases_183 (fun H_183 R_183 => ?_)
      refine hp_goto (tgt := 29) C dX6_ceases_184 (by decide) ?_
      have hu : a_nd a 3 c = 1 := (a_ofI_eq (x := a_nd a 3 c) (y := 1) (by omega) (by omega)).mp c_88
      rw [a_cR_up hu] at hv hP
      have kc := a_ce_kp k f c a
      have hvc : (a_ev (a_ce k f c a).2).length < 2 ^ 30 := Nat.lt_of_le_of_lt (Nat.le_trans (a_cR_kp (a_ce_kp k f) ((a_rw a n).take j).reverse _).ev (a_end_kp k n _).ev) hv
      refine hA c (lv + 1) al _ _ a _ R_183 T hc h9 (by omega) (by omega) hvc (va_up_self _ _ _) (va_up_self _ _ _) e0 e2 e3 rfl e5 (fun lo1 H1 z1 R1 g1 g2 f0 f2 f3 f4 f5 => ?_)
      rw [nI_pred] at f4
      have w1 : z1.1 lv = nI n := ((g1 lv (by omega)).1.trans (va_up_ne _ _ (by omega))).trans zw
      have t1 : z1.2.1 lv = nI j - 1 := (g1 lv (by omega)).2.trans ((va_up_ne _ _ (by omega)).trans (va_up_self _ _ _))
      refine hp_iload C dX6_ceases_29 f4 ?_
      refine hp_iload_n C dX6_ceases_31 f2 ?_
      refine hp_icmp_lt (tgt := 335) C dX6_ceases_32 (by decide) (fun z_9 => absurd z_9 (nI_nlt hfr (by omega))) (fun _ => ?_)
      refine hp_aload_nR C dX6_ceases_35 f0 ?_
      refine mr_A C sh R1 fl_X6_62_6 rfl (by decide) dX6_ceases_36 ?_
      refine hp_iload C dX6_ceases_39 f4 ?_
      refine mr_way C sh R1 hl10 w1 dX6_ceases_41 ?_
      refine hp_istore C dX6_ceases_42 (by decide) ?_
      exact ih lv (al + (a_ce k f c a).1) _ _ _ z1 R1 (X.kp kc) (by omega) (by rw [kc.nd]; exact hlv) hfr hv w1 t1 f0 f2 f3 f4 f5 rfl (fun lo' H' z' R' g3 g4 q0 q2 q3 q4 q5 => hP lo' H' z' R' (fun i hi => ⟨(g3 i hi).1.trans ((g1 i (by omega)).1.trans (va_up_ne _ _ (by omega))), (g3 i hi).2.trans ((g1 i (by omega)).2.trans ((va_up_ne _ _ (by omega)).trans (va_up_ne _ _ (by omega))))⟩) (g4.trans g2) q0 q2 q3 q4 (by rw [show al + ((a_ce k f c a).1 + (a_cR (a_ce k f) ((a_rw a n).take j).reverse (a_ce k f c a).2).1 + 1) = al + (a_ce k f c a).1 + ((a_cR (a_ce k f) ((a_rw a n).take j).reverse (a_ce k f c a).2).1 + 1) by omega]; exact q5))
    · refine hp_aload_nR C dX6_ceases_91 e0 ?_
      refine mr_A C sh R fl_X6_65_6 rfl (by decide) dX6_ceases_92 ?_
      refine hp_iload C dX6_ceases_95 e4 ?_
      refine hp_dup2 C dX6_ceases_97 rfl rfl ?_
      refine mr_at C sh R hl10 zt dX6_ceases_98 ?_
      refine hp_iconst (v := 1) C dX6_ceases_99 (by decide) ?_
      refine hp_isub C dX6_ceases_100 ?_
      refine ms_at C sh R hl10 dX6_ceases_101 (fun H_101 R_101 => ?_)
      refine hp_goto (tgt := 44) C dX6_ceases_102 (by decide) ?_
      have hu : ¬ a_nd a 3 c = 1 := fun e => c_88 (by rw [e]; decide)
      rw [a_cR_dn hu] at hv hP
      exact ih lv al _ _ a _ R_101 X (by omega) hlv hfr hv zw (va_up_self _ _ _) e0 e2 e3 e4 e5 e6 (fun lo' H' z' R' g1 => hP lo' H' z' R' (fun i hi => ⟨(g1 i hi).1, (g1 i hi).2.trans (va_up_ne _ _ (by omega))⟩))
set_option maxHeartbeats 4000000 in
theorem mo_ceA {M : hpM} {G : hpG} {d : Nat} {h0 h : hpT} {m : Nat} {Q : State → Prop} (sh : mo_sh G h m) (C : hp_F M G yX6_ceases cX6_ceases 8 d h0) (hd : 1 ≤ d) {k : Bool} {fr : Nat} : ∀ (f : Nat), ∀ (n lv al : Nat) (lo : Nat → Option Value) (H : hpT) (a : aS) (z : mrZ), MR h m H a z → a_T a → n < a_mk a → (9 : Int) ≤ f + a_nd a 2 n → (lv : Int) ≤ a_nd a 2 n → fr ≤ lv → (a_ev (a_ce k f n a).2).length < 2 ^ 30 → z.1 lv = nI n → z.2.1 lv = nI (a_rw a n).length - 1 → lo 0 = some (.ref m) → lo 2 = some (.int (nI fr)) → lo 3 = some (.int (if k = true then 1 else 0)) → lo 4 = some (.int (nI lv)) → lo 5 = some (.int (nI al)) → (∀ (lo' : Nat → Option Value) (H' : hpT) (z' : mrZ), MR h m H' (a_ce k f n a).2 z' → (∀ i, i < lv → z'.1 i = z.1 i ∧ z'.2.1 i = z.2.1 i) → z'.2.2 = z.2.2 → lo' 0 = some (.ref m) → lo' 2 = some (.int (nI fr)) → lo' 3 = some (.int (if k = true then 1 else 0)) → lo' 4 = some (.int (nI lv - 1)) → lo' 5 = some (.int (nI (al + (a_ce k f n a).1))) → hp_V M G 8 Q H' 29 lo' []) → hp_V M G 8 Q H 29 lo [] := by
  intro f
  induction f with
  | zero =>
    intro n lv al lo H a z R T hn h9
    have := (T.r2 hn).2
    omega
  | succ f ih =>
    intro n lv al lo H a z R T hn h9 hlv hfr hv zw zt e0 e2 e3 e4 e5 hP
    have hn8 : n < 80 := Nat.lt_of_lt_of_le hn T.1.2
    have r2 := T.r2 hn
    have hl10 : lv < 10 := by omega
    rcases T.kb hn with hk | hk
    · rw [a_ce_w hk] at hv hP
      refine hp_iload C dX6_ceases_29 e4 ?_
      refine hp_iload_n C dX6_ceases_31 e2 ?_
      refine hp_icmp_lt (tgt := 335) C dX6_ceases_32 (by decide) (fun z_9 => absurd z_9 (nI_nlt hfr (by omega))) (fun _ => ?_)
      refine hp_aload_nR C dX6_ceases_35 e0 ?_
      refine mr_A C sh R fl_X6_62_6 rfl (by decide) dX6_ceases_36 ?_
      refine hp_iload C dX6_ceases_39 e4 ?_
      refine mr_way C sh R hl10 zw dX6_ceases_41 ?_
      refine hp_istore C dX6_ceases_42 (by decide) ?_
      refine hp_aload_nR C dX6_ceases_44 e0 ?_
      refine mr_A C sh R fl_X6_7_6 rfl (by decide) dX6_ceases_45 ?_
      refine hp_iload C dX6_ceases_48 rfl ?_
      refine mr_kp C sh R hn8 dX6_ceases_50 ?_
      refine hp_if_eq (tgt := 105) C dX6_ceases_51 (by decide) (fun _ => ?_) (fun z_9 => absurd (show Int32.ofInt (a_nd a 0 n) = 0 by rw [hk]; decide) z_9)
      refine hp_aload_nR C dX6_ceases_105 e0 ?_
      refine mr_A C sh R fl_X6_7_6 rfl (by decide) dX6_ceases_106 ?_
      refine hp_iload C dX6_ceases_109 rfl ?_
      refine mr_kp C sh R hn8 dX6_ceases_111 ?_
      refine hp_if_eq (tgt := 187) C dX6_ceases_112 (by decide) (fun _ => ?_) (fun z_9 => absurd (show Int32.ofInt (a_nd a 0 n) = 0 by rw [hk]; decide) z_9)
      exact mo_ceE sh C hd n lv al _ H a z R T hn (Nat.lt_of_le_of_lt (a_end_kp k n a).ev hv) e0 e2 e3 e4 e5 rfl hP
    · have X : a_lv f n (a_rw a n) a := ⟨T, hn, hk, by omega, rfl⟩
      have ec : a_ce k (f + 1) n a = ((a_cR (a_ce k f) (a_rw a n).reverse a).1 + 1, a_end k n (a_cR (a_ce k f) (a_rw a n).reverse a).2) := if_neg (by omega)
      rw [ec] at hv hP
      refine hp_iload C dX6_ceases_29 e4 ?_
      refine hp_iload_n C dX6_ceases_31 e2 ?_
      refine hp_icmp_lt (tgt := 335) C dX6_ceases_32 (by decide) (fun z_9 => absurd z_9 (nI_nlt hfr (by omega))) (fun _ => ?_)
      refine hp_aload_nR C dX6_ceases_35 e0 ?_
      refine mr_A C sh R fl_X6_62_6 rfl (by decide) dX6_ceases_36 ?_
      refine hp_iload C dX6_ceases_39 e4 ?_
      refine mr_way C sh R hl10 zw dX6_ceases_41 ?_
      refine hp_istore C dX6_ceases_42 (by decide) ?_
      refine mo_ceJ sh C hd (fun c lv al lo H a z => ih c lv al lo H a z) (a_rw a n).length lv al _ H a z R X (Nat.le_refl _) hlv hfr (by rw [List.take_length]; exact hv) zw zt e0 e2 e3 e4 e5 rfl ?_
      rw [List.take_length]
      exact hP
theorem k_pred1 {x : Nat} (h : x < 1000) : (nI x - 1 : Int32).toInt = (x : Int) - 1 := by
  have e1 := nI_toInt (n := x) (by omega)
  have e3 : (1 : Int32).toInt = 1 := by decide
  rw [Int32.toInt_sub, e1, e3]
  exact Int.bmod_eq_of_le (by omega) (by omega)
set_option maxRecDepth 20000 in
set_option maxHeartbeats 4000000 in
theorem mc_cea {l : Launch} {G : hpG} {h H : hpT} {m d : Nat} {a : aS} {z : mrZ} (sh : mo_sh G h m) (R : MR h m H a z) (T : a_T a) {n f fr : Nat} {k : Bool} (hn : n < a_mk a) (h9 : (9 : Int) ≤ f + a_nd a 2 n) (hlv : (fr : Int) ≤ a_nd a 2 n) (hv : (a_ev (a_ce k f n a).2).length < 2 ^ 30) (hd : 1 ≤ d) : hp_C l G yX6_ceases (.code yX6_ceases cX6_ceases 8 (some .int)) d [.ref m, .int (nI n), .int (nI fr), .int (if k = true then 1 else 0)] (H) (fun v h' => v = some (.int (nI (a_ce k f n a).1)) ∧ ∃ z', MR h m h' (a_ce k f n a).2 z' ∧ (∀ i, i < fr → z'.1 i = z.1 i ∧ z'.2.1 i = z.2.1 i) ∧ z'.2.2 = z.2.2) (fun _ _ => False) := by
  have hn8 : n < 80 := Nat.lt_of_lt_of_le hn T.1.2
  have r2 := T.r2 hn
  have hf10 : fr < 10 := by omega
  refine hp_ofV (by decide) (by simp [Value.category]) (Nat.le_of_ble_eq_true rfl) (fun M C hr hx el => ?_)
  refine hp_iload_n C dX6_ceases_0 rfl ?_
  refine hp_istore C dX6_ceases_1 (by decide) ?_
  refine hp_iconst (v := 0) C dX6_ceases_3 (by decide) ?_
  refine hp_istore C dX6_ceases_4 (by decide) ?_
  refine hp_aload_nR C dX6_ceases_6 rfl ?_
  refine mr_A C sh R fl_X6_62_6 rfl (by decide) dX6_ceases_7 ?_
  refine hp_iload C dX6_ceases_10 rfl ?_
  refine hp_iload_n C dX6_ceases_12 rfl ?_
  refine ms_way C sh R hf10 dX6_ceases_13 (fun H_13 R_13 => ?_)
  refine hp_aload_nR C dX6_ceases_14 rfl ?_
  refine mr_A C sh R_13 fl_X6_65_6 rfl (by decide) dX6_ceases_15 ?_
  refine hp_iload C dX6_ceases_18 rfl ?_
  refine hp_aload_nR C dX6_ceases_20 rfl ?_
  refine mr_A C sh R_13 fl_X6_50_6 rfl (by decide) dX6_ceases_21 ?_
  refine hp_iload_n C dX6_ceases_24 rfl ?_
  refine mr_many C sh R_13 hn8 dX6_ceases_25 ?_
  refine hp_iconst (v := 1) C dX6_ceases_26 (by decide) ?_
  refine hp_isub C dX6_ceases_27 ?_
  refine ms_at C sh R_13 hf10 dX6_ceases_28 (fun H_28 R_28 => ?_)
  refine mo_ceA sh C hd f n fr 0 _ _ a _ R_28 T hn h9 hlv (Nat.le_refl _) hv (va_up_self _ _ _) (va_up_self _ _ _) rfl rfl rfl rfl rfl (fun lo' H' z' R' g1 g2 q0 q2 q3 q4 q5 => ?_)
  rw [Nat.zero_add] at q5
  refine hp_iload C dX6_ceases_29 q4 ?_
  refine hp_iload_n C dX6_ceases_31 q2 ?_
  refine hp_icmp_lt (tgt := 335) C dX6_ceases_32 (by decide) (fun _ => ?_) (fun z_9 => absurd (show nI fr - 1 < nI fr by rw [Int32.lt_iff_toInt_lt, k_pred1 (by omega), nI_toInt (by omega)]; omega) z_9)
  refine hp_iload C dX6_ceases_335 q5 ?_
  refine hp_iret C hr rfl dX6_ceases_337 ?_
  exact ⟨rfl, z', R', fun i hi => ⟨(g1 i hi).1.trans (va_up_ne _ _ (by omega)), (g1 i hi).2.trans (va_up_ne _ _ (by omega))⟩, g2⟩
