/-! ===== ceases: the end of one node ===== -/
/-- a worker that is asked to stop: what is told of it (4: killed for it); how long it takes -/
def mo_die (s : moS) (n : Int32) : Int32 := if s.2 10 n.toNatClampNeg = 0 then 4 else if s.2 10 n.toNatClampNeg ≤ 0 then 3 else if s.2 12 n.toNatClampNeg ≤ s.2 10 n.toNatClampNeg then 3 else 4
def mo_dur (s : moS) (n : Int32) : Int32 := if s.2 10 n.toNatClampNeg < 0 then s.2 12 n.toNatClampNeg else if s.2 10 n.toNatClampNeg ≤ s.2 12 n.toNatClampNeg then s.2 10 n.toNatClampNeg else s.2 12 n.toNatClampNeg
def mo_end (kl n : Int32) (s : moS) : moS := if s.2 2 n.toNatClampNeg = 0 then (if kl = 0 then mo_note (mo_up (mo_pt s 18 (s.1 18 + mo_dur s n)) 5 n.toNatClampNeg 0) (mo_die s n) n 0 else mo_note (mo_up s 5 n.toNatClampNeg 0) 4 n 0) else mo_note (mo_up s 5 n.toNatClampNeg 0) (if kl = 0 then 3 else 4) n 0
set_option maxRecDepth 20000 in
set_option maxHeartbeats 4000000 in
theorem mo_endK {M : hpM} {G : hpG} {d : Nat} {h0 h : hpT} {m : Nat} {s : moS} {Q : State → Prop} (sh : mo_sh G h m) (C : hp_F M G yX6_ceases cX6_ceases 8 d h0) (hd : 1 ≤ d) (hev : mo_evk s) {n kl fr lv al : Int32} (hn : vp_in n 80) {lo : Nat → Option Value} (e0 : lo 0 = some (.ref m)) (e2 : lo 2 = some (.int fr)) (e3 : lo 3 = some (.int kl)) (e4 : lo 4 = some (.int lv)) (e5 : lo 5 = some (.int al)) (e6 : lo 6 = some (.int n))
    (kk : ∀ (lo9 : Nat → Option Value), lo9 0 = some (.ref m) → lo9 2 = some (.int fr) → lo9 3 = some (.int kl) → lo9 4 = some (.int (lv + Int32.ofInt (-1))) → lo9 5 = some (.int (al + Int32.ofInt 1)) → hp_V M G 8 Q (mo_w h m (mo_end kl n s)) 29 lo9 []) : hp_V M G 8 Q (mo_w h m s) 187 lo [] := by
  refine hp_iload_n C dX6_ceases_187 e3 ?_
  refine hp_istore C dX6_ceases_188 (by decide) ?_
  refine hp_aload_nR C dX6_ceases_190 e0 ?_
  refine mo_getA C sh fl_X6_7_6 rfl (by decide) dX6_ceases_191 ?_
  refine hp_iload C dX6_ceases_194 e6 ?_
  refine mo_zld C sh (f := s.2 2) rfl dX6_ceases_196 (by exact hn) ?_
  refine hp_if_ne (tgt := 301) C dX6_ceases_197 (by decide) (fun c_197 => ?_) (fun c_197 => ?_)
  · refine hp_aload_nR C dX6_ceases_301 e0 ?_
    refine mo_getA C sh fl_X6_20_6 rfl (by decide) dX6_ceases_302 ?_
    refine hp_iload C dX6_ceases_305 e6 ?_
    refine hp_iconst (v := 0) C dX6_ceases_307 (by decide) ?_
    refine mo_ast C sh rfl (by decide) dX6_ceases_308 (by exact hn) ?_
    refine hp_aload_nR C dX6_ceases_309 e0 ?_
    refine hp_iload C dX6_ceases_310 rfl ?_
    refine hp_if_eq (tgt := 319) C dX6_ceases_312 (by decide) (fun c_312 => ?_) (fun c_312 => ?_)
    · refine hp_iconst (v := 3) C dX6_ceases_319 (by decide) ?_
      refine hp_iload C dX6_ceases_320 e6 ?_
      refine hp_iconst (v := 0) C dX6_ceases_322 (by decide) ?_
      refine hp_callV (ci := 6) C ml_X6_89 im_X6_note se_X6_note rfl (by decide) (mo_noteC (d := d - 1) sh hev) (by omega) dX6_ceases_323 sh.o rfl rfl (by simp [Value.category]) (fun v_1 h_1 hp => ?_) (fun _ _ hf => hf.elim)
      obtain ⟨rfl, rfl⟩ := hp
      refine hp_iinc C dX6_ceases_326 e5 (by decide) rfl ?_
      refine hp_iinc C dX6_ceases_329 e4 (by decide) rfl ?_
      refine hp_goto (tgt := 29) C dX6_ceases_332 (by decide) ?_
      refine hp_Vc (h2 := mo_w h m (mo_end kl n s)) (by unfold mo_end mo_die mo_dur; (repeat' split) <;> first | rfl | contradiction) ?_
      exact kk _ e0 e2 e3 rfl rfl
    · refine hp_iconst (v := 4) C dX6_ceases_315 (by decide) ?_
      refine hp_goto (tgt := 320) C dX6_ceases_316 (by decide) ?_
      refine hp_iload C dX6_ceases_320 e6 ?_
      refine hp_iconst (v := 0) C dX6_ceases_322 (by decide) ?_
      refine hp_callV (ci := 6) C ml_X6_89 im_X6_note se_X6_note rfl (by decide) (mo_noteC (d := d - 1) sh hev) (by omega) dX6_ceases_323 sh.o rfl rfl (by simp [Value.category]) (fun v_1 h_1 hp => ?_) (fun _ _ hf => hf.elim)
      obtain ⟨rfl, rfl⟩ := hp
      refine hp_iinc C dX6_ceases_326 e5 (by decide) rfl ?_
      refine hp_iinc C dX6_ceases_329 e4 (by decide) rfl ?_
      refine hp_goto (tgt := 29) C dX6_ceases_332 (by decide) ?_
      refine hp_Vc (h2 := mo_w h m (mo_end kl n s)) (by unfold mo_end mo_die mo_dur; (repeat' split) <;> first | rfl | contradiction) ?_
      exact kk _ e0 e2 e3 rfl rfl
  · refine hp_iload_n C dX6_ceases_200 e3 ?_
    refine hp_if_ne (tgt := 301) C dX6_ceases_201 (by decide) (fun c_201 => ?_) (fun c_201 => ?_)
    · refine hp_aload_nR C dX6_ceases_301 e0 ?_
      refine mo_getA C sh fl_X6_20_6 rfl (by decide) dX6_ceases_302 ?_
      refine hp_iload C dX6_ceases_305 e6 ?_
      refine hp_iconst (v := 0) C dX6_ceases_307 (by decide) ?_
      refine mo_ast C sh rfl (by decide) dX6_ceases_308 (by exact hn) ?_
      refine hp_aload_nR C dX6_ceases_309 e0 ?_
      refine hp_iload C dX6_ceases_310 rfl ?_
      refine hp_if_eq (tgt := 319) C dX6_ceases_312 (by decide) (fun c_312 => ?_) (fun c_312 => ?_)
      · refine hp_iconst (v := 3) C dX6_ceases_319 (by decide) ?_
        refine hp_iload C dX6_ceases_320 e6 ?_
        refine hp_iconst (v := 0) C dX6_ceases_322 (by decide) ?_
        refine hp_callV (ci := 6) C ml_X6_89 im_X6_note se_X6_note rfl (by decide) (mo_noteC (d := d - 1) sh hev) (by omega) dX6_ceases_323 sh.o rfl rfl (by simp [Value.category]) (fun v_1 h_1 hp => ?_) (fun _ _ hf => hf.elim)
        obtain ⟨rfl, rfl⟩ := hp
        refine hp_iinc C dX6_ceases_326 e5 (by decide) rfl ?_
        refine hp_iinc C dX6_ceases_329 e4 (by decide) rfl ?_
        refine hp_goto (tgt := 29) C dX6_ceases_332 (by decide) ?_
        refine hp_Vc (h2 := mo_w h m (mo_end kl n s)) (by unfold mo_end mo_die mo_dur; (repeat' split) <;> first | rfl | contradiction) ?_
        exact kk _ e0 e2 e3 rfl rfl
      · refine hp_iconst (v := 4) C dX6_ceases_315 (by decide) ?_
        refine hp_goto (tgt := 320) C dX6_ceases_316 (by decide) ?_
        refine hp_iload C dX6_ceases_320 e6 ?_
        refine hp_iconst (v := 0) C dX6_ceases_322 (by decide) ?_
        refine hp_callV (ci := 6) C ml_X6_89 im_X6_note se_X6_note rfl (by decide) (mo_noteC (d := d - 1) sh hev) (by omega) dX6_ceases_323 sh.o rfl rfl (by simp [Value.category]) (fun v_1 h_1 hp => ?_) (fun _ _ hf => hf.elim)
        obtain ⟨rfl, rfl⟩ := hp
        refine hp_iinc C dX6_ceases_326 e5 (by decide) rfl ?_
        refine hp_iinc C dX6_ceases_329 e4 (by decide) rfl ?_
        refine hp_goto (tgt := 29) C dX6_ceases_332 (by decide) ?_
        refine hp_Vc (h2 := mo_w h m (mo_end kl n s)) (by unfold mo_end mo_die mo_dur; (repeat' split) <;> first | rfl | contradiction) ?_
        exact kk _ e0 e2 e3 rfl rfl
    · refine hp_aload_nR C dX6_ceases_204 e0 ?_
      refine mo_getA C sh fl_X6_35_6 rfl (by decide) dX6_ceases_205 ?_
      refine hp_iload C dX6_ceases_208 e6 ?_
      refine mo_ald C sh (f := s.2 10) rfl (by decide) rfl dX6_ceases_210 (by exact hn) ?_
      refine hp_if_eq (tgt := 241) C dX6_ceases_211 (by decide) (fun c_211 => ?_) (fun c_211 => ?_)
      · refine hp_iconst (v := 1) C dX6_ceases_241 (by decide) ?_
        refine hp_goto (tgt := 246) C dX6_ceases_242 (by decide) ?_
        refine hp_istore C dX6_ceases_246 (by decide) ?_
        refine hp_aload_nR C dX6_ceases_248 e0 ?_
        refine hp_dup C dX6_ceases_249 rfl ?_
        refine mo_getS C sh fl_X6_82_6 rfl (by decide) (v := s.1 18) rfl dX6_ceases_250 ?_
        refine hp_aload_nR C dX6_ceases_253 e0 ?_
        refine mo_getA C sh fl_X6_35_6 rfl (by decide) dX6_ceases_254 ?_
        refine hp_iload C dX6_ceases_257 e6 ?_
        refine mo_ald C sh (f := s.2 10) rfl (by decide) rfl dX6_ceases_259 (by exact hn) ?_
        refine hp_if_lt (tgt := 280) C dX6_ceases_260 (by decide) (fun c_260 => ?_) (fun c_260 => ?_)
        · refine hp_aload_nR C dX6_ceases_280 e0 ?_
          refine mo_getA C sh fl_X6_41_6 rfl (by decide) dX6_ceases_281 ?_
          refine hp_iload C dX6_ceases_284 e6 ?_
          refine mo_ald C sh (f := s.2 12) rfl (by decide) rfl dX6_ceases_286 (by exact hn) ?_
          refine hp_goto (tgt := 297) C dX6_ceases_287 (by decide) ?_
          refine hp_iadd C dX6_ceases_297 ?_
          refine mo_putS C sh fl_X6_82_6 rfl (by decide) rfl rfl rfl dX6_ceases_298 ?_
          refine hp_aload_nR C dX6_ceases_301 e0 ?_
          refine mo_getA C sh fl_X6_20_6 rfl (by decide) dX6_ceases_302 ?_
          refine hp_iload C dX6_ceases_305 e6 ?_
          refine hp_iconst (v := 0) C dX6_ceases_307 (by decide) ?_
          refine mo_ast C sh rfl (by decide) dX6_ceases_308 (by exact hn) ?_
          refine hp_aload_nR C dX6_ceases_309 e0 ?_
          refine hp_iload C dX6_ceases_310 rfl ?_
          refine hp_if_eq (tgt := 319) C dX6_ceases_312 (by decide) (fun z_9 => absurd z_9 (by decide)) (fun _ => ?_)
          refine hp_iconst (v := 4) C dX6_ceases_315 (by decide) ?_
          refine hp_goto (tgt := 320) C dX6_ceases_316 (by decide) ?_
          refine hp_iload C dX6_ceases_320 e6 ?_
          refine hp_iconst (v := 0) C dX6_ceases_322 (by decide) ?_
          refine hp_callV (ci := 6) C ml_X6_89 im_X6_note se_X6_note rfl (by decide) (mo_noteC (d := d - 1) sh hev) (by omega) dX6_ceases_323 sh.o rfl rfl (by simp [Value.category]) (fun v_1 h_1 hp => ?_) (fun _ _ hf => hf.elim)
          obtain ⟨rfl, rfl⟩ := hp
          refine hp_iinc C dX6_ceases_326 e5 (by decide) rfl ?_
          refine hp_iinc C dX6_ceases_329 e4 (by decide) rfl ?_
          refine hp_goto (tgt := 29) C dX6_ceases_332 (by decide) ?_
          refine hp_Vc (h2 := mo_w h m (mo_end kl n s)) (by unfold mo_end mo_die mo_dur; (repeat' split) <;> first | rfl | contradiction) ?_
          exact kk _ e0 e2 e3 rfl rfl
        · refine hp_aload_nR C dX6_ceases_263 e0 ?_
          refine mo_getA C sh fl_X6_41_6 rfl (by decide) dX6_ceases_264 ?_
          refine hp_iload C dX6_ceases_267 e6 ?_
          refine mo_ald C sh (f := s.2 12) rfl (by decide) rfl dX6_ceases_269 (by exact hn) ?_
          refine hp_aload_nR C dX6_ceases_270 e0 ?_
          refine mo_getA C sh fl_X6_35_6 rfl (by decide) dX6_ceases_271 ?_
          refine hp_iload C dX6_ceases_274 e6 ?_
          refine mo_ald C sh (f := s.2 10) rfl (by decide) rfl dX6_ceases_276 (by exact hn) ?_
          refine hp_icmp_ge (tgt := 290) C dX6_ceases_277 (by decide) (fun c_277 => ?_) (fun c_277 => ?_)
          · refine hp_aload_nR C dX6_ceases_290 e0 ?_
            refine mo_getA C sh fl_X6_35_6 rfl (by decide) dX6_ceases_291 ?_
            refine hp_iload C dX6_ceases_294 e6 ?_
            refine mo_ald C sh (f := s.2 10) rfl (by decide) rfl dX6_ceases_296 (by exact hn) ?_
            refine hp_iadd C dX6_ceases_297 ?_
            refine mo_putS C sh fl_X6_82_6 rfl (by decide) rfl rfl rfl dX6_ceases_298 ?_
            refine hp_aload_nR C dX6_ceases_301 e0 ?_
            refine mo_getA C sh fl_X6_20_6 rfl (by decide) dX6_ceases_302 ?_
            refine hp_iload C dX6_ceases_305 e6 ?_
            refine hp_iconst (v := 0) C dX6_ceases_307 (by decide) ?_
            refine mo_ast C sh rfl (by decide) dX6_ceases_308 (by exact hn) ?_
            refine hp_aload_nR C dX6_ceases_309 e0 ?_
            refine hp_iload C dX6_ceases_310 rfl ?_
            refine hp_if_eq (tgt := 319) C dX6_ceases_312 (by decide) (fun z_9 => absurd z_9 (by decide)) (fun _ => ?_)
            refine hp_iconst (v := 4) C dX6_ceases_315 (by decide) ?_
            refine hp_goto (tgt := 320) C dX6_ceases_316 (by decide) ?_
            refine hp_iload C dX6_ceases_320 e6 ?_
            refine hp_iconst (v := 0) C dX6_ceases_322 (by decide) ?_
            refine hp_callV (ci := 6) C ml_X6_89 im_X6_note se_X6_note rfl (by decide) (mo_noteC (d := d - 1) sh hev) (by omega) dX6_ceases_323 sh.o rfl rfl (by simp [Value.category]) (fun v_1 h_1 hp => ?_) (fun _ _ hf => hf.elim)
            obtain ⟨rfl, rfl⟩ := hp
            refine hp_iinc C dX6_ceases_326 e5 (by decide) rfl ?_
            refine hp_iinc C dX6_ceases_329 e4 (by decide) rfl ?_
            refine hp_goto (tgt := 29) C dX6_ceases_332 (by decide) ?_
            refine hp_Vc (h2 := mo_w h m (mo_end kl n s)) (by unfold mo_end mo_die mo_dur; (repeat' split) <;> first | rfl | contradiction) ?_
            exact kk _ e0 e2 e3 rfl rfl
          · refine hp_aload_nR C dX6_ceases_280 e0 ?_
            refine mo_getA C sh fl_X6_41_6 rfl (by decide) dX6_ceases_281 ?_
            refine hp_iload C dX6_ceases_284 e6 ?_
            refine mo_ald C sh (f := s.2 12) rfl (by decide) rfl dX6_ceases_286 (by exact hn) ?_
            refine hp_goto (tgt := 297) C dX6_ceases_287 (by decide) ?_
            refine hp_iadd C dX6_ceases_297 ?_
            refine mo_putS C sh fl_X6_82_6 rfl (by decide) rfl rfl rfl dX6_ceases_298 ?_
            refine hp_aload_nR C dX6_ceases_301 e0 ?_
            refine mo_getA C sh fl_X6_20_6 rfl (by decide) dX6_ceases_302 ?_
            refine hp_iload C dX6_ceases_305 e6 ?_
            refine hp_iconst (v := 0) C dX6_ceases_307 (by decide) ?_
            refine mo_ast C sh rfl (by decide) dX6_ceases_308 (by exact hn) ?_
            refine hp_aload_nR C dX6_ceases_309 e0 ?_
            refine hp_iload C dX6_ceases_310 rfl ?_
            refine hp_if_eq (tgt := 319) C dX6_ceases_312 (by decide) (fun z_9 => absurd z_9 (by decide)) (fun _ => ?_)
            refine hp_iconst (v := 4) C dX6_ceases_315 (by decide) ?_
            refine hp_goto (tgt := 320) C dX6_ceases_316 (by decide) ?_
            refine hp_iload C dX6_ceases_320 e6 ?_
            refine hp_iconst (v := 0) C dX6_ceases_322 (by decide) ?_
            refine hp_callV (ci := 6) C ml_X6_89 im_X6_note se_X6_note rfl (by decide) (mo_noteC (d := d - 1) sh hev) (by omega) dX6_ceases_323 sh.o rfl rfl (by simp [Value.category]) (fun v_1 h_1 hp => ?_) (fun _ _ hf => hf.elim)
            obtain ⟨rfl, rfl⟩ := hp
            refine hp_iinc C dX6_ceases_326 e5 (by decide) rfl ?_
            refine hp_iinc C dX6_ceases_329 e4 (by decide) rfl ?_
            refine hp_goto (tgt := 29) C dX6_ceases_332 (by decide) ?_
            refine hp_Vc (h2 := mo_w h m (mo_end kl n s)) (by unfold mo_end mo_die mo_dur; (repeat' split) <;> first | rfl | contradiction) ?_
            exact kk _ e0 e2 e3 rfl rfl
      · refine hp_aload_nR C dX6_ceases_214 e0 ?_
        refine mo_getA C sh fl_X6_35_6 rfl (by decide) dX6_ceases_215 ?_
        refine hp_iload C dX6_ceases_218 e6 ?_
        refine mo_ald C sh (f := s.2 10) rfl (by decide) rfl dX6_ceases_220 (by exact hn) ?_
        refine hp_if_le (tgt := 245) C dX6_ceases_221 (by decide) (fun c_221 => ?_) (fun c_221 => ?_)
        · refine hp_iconst (v := 0) C dX6_ceases_245 (by decide) ?_
          refine hp_istore C dX6_ceases_246 (by decide) ?_
          refine hp_aload_nR C dX6_ceases_248 e0 ?_
          refine hp_dup C dX6_ceases_249 rfl ?_
          refine mo_getS C sh fl_X6_82_6 rfl (by decide) (v := s.1 18) rfl dX6_ceases_250 ?_
          refine hp_aload_nR C dX6_ceases_253 e0 ?_
          refine mo_getA C sh fl_X6_35_6 rfl (by decide) dX6_ceases_254 ?_
          refine hp_iload C dX6_ceases_257 e6 ?_
          refine mo_ald C sh (f := s.2 10) rfl (by decide) rfl dX6_ceases_259 (by exact hn) ?_
          refine hp_if_lt (tgt := 280) C dX6_ceases_260 (by decide) (fun c_260 => ?_) (fun c_260 => ?_)
          · refine hp_aload_nR C dX6_ceases_280 e0 ?_
            refine mo_getA C sh fl_X6_41_6 rfl (by decide) dX6_ceases_281 ?_
            refine hp_iload C dX6_ceases_284 e6 ?_
            refine mo_ald C sh (f := s.2 12) rfl (by decide) rfl dX6_ceases_286 (by exact hn) ?_
            refine hp_goto (tgt := 297) C dX6_ceases_287 (by decide) ?_
            refine hp_iadd C dX6_ceases_297 ?_
            refine mo_putS C sh fl_X6_82_6 rfl (by decide) rfl rfl rfl dX6_ceases_298 ?_
            refine hp_aload_nR C dX6_ceases_301 e0 ?_
            refine mo_getA C sh fl_X6_20_6 rfl (by decide) dX6_ceases_302 ?_
            refine hp_iload C dX6_ceases_305 e6 ?_
            refine hp_iconst (v := 0) C dX6_ceases_307 (by decide) ?_
            refine mo_ast C sh rfl (by decide) dX6_ceases_308 (by exact hn) ?_
            refine hp_aload_nR C dX6_ceases_309 e0 ?_
            refine hp_iload C dX6_ceases_310 rfl ?_
            refine hp_if_eq (tgt := 319) C dX6_ceases_312 (by decide) (fun _ => ?_) (fun z_9 => absurd z_9 (by decide))
            refine hp_iconst (v := 3) C dX6_ceases_319 (by decide) ?_
            refine hp_iload C dX6_ceases_320 e6 ?_
            refine hp_iconst (v := 0) C dX6_ceases_322 (by decide) ?_
            refine hp_callV (ci := 6) C ml_X6_89 im_X6_note se_X6_note rfl (by decide) (mo_noteC (d := d - 1) sh hev) (by omega) dX6_ceases_323 sh.o rfl rfl (by simp [Value.category]) (fun v_1 h_1 hp => ?_) (fun _ _ hf => hf.elim)
            obtain ⟨rfl, rfl⟩ := hp
            refine hp_iinc C dX6_ceases_326 e5 (by decide) rfl ?_
            refine hp_iinc C dX6_ceases_329 e4 (by decide) rfl ?_
            refine hp_goto (tgt := 29) C dX6_ceases_332 (by decide) ?_
            refine hp_Vc (h2 := mo_w h m (mo_end kl n s)) (by unfold mo_end mo_die mo_dur; (repeat' split) <;> first | rfl | contradiction) ?_
            exact kk _ e0 e2 e3 rfl rfl
          · refine hp_aload_nR C dX6_ceases_263 e0 ?_
            refine mo_getA C sh fl_X6_41_6 rfl (by decide) dX6_ceases_264 ?_
            refine hp_iload C dX6_ceases_267 e6 ?_
            refine mo_ald C sh (f := s.2 12) rfl (by decide) rfl dX6_ceases_269 (by exact hn) ?_
            refine hp_aload_nR C dX6_ceases_270 e0 ?_
            refine mo_getA C sh fl_X6_35_6 rfl (by decide) dX6_ceases_271 ?_
            refine hp_iload C dX6_ceases_274 e6 ?_
            refine mo_ald C sh (f := s.2 10) rfl (by decide) rfl dX6_ceases_276 (by exact hn) ?_
            refine hp_icmp_ge (tgt := 290) C dX6_ceases_277 (by decide) (fun c_277 => ?_) (fun c_277 => ?_)
            · refine hp_aload_nR C dX6_ceases_290 e0 ?_
              refine mo_getA C sh fl_X6_35_6 rfl (by decide) dX6_ceases_291 ?_
              refine hp_iload C dX6_ceases_294 e6 ?_
              refine mo_ald C sh (f := s.2 10) rfl (by decide) rfl dX6_ceases_296 (by exact hn) ?_
              refine hp_iadd C dX6_ceases_297 ?_
              refine mo_putS C sh fl_X6_82_6 rfl (by decide) rfl rfl rfl dX6_ceases_298 ?_
              refine hp_aload_nR C dX6_ceases_301 e0 ?_
              refine mo_getA C sh fl_X6_20_6 rfl (by decide) dX6_ceases_302 ?_
              refine hp_iload C dX6_ceases_305 e6 ?_
              refine hp_iconst (v := 0) C dX6_ceases_307 (by decide) ?_
              refine mo_ast C sh rfl (by decide) dX6_ceases_308 (by exact hn) ?_
              refine hp_aload_nR C dX6_ceases_309 e0 ?_
              refine hp_iload C dX6_ceases_310 rfl ?_
              refine hp_if_eq (tgt := 319) C dX6_ceases_312 (by decide) (fun _ => ?_) (fun z_9 => absurd z_9 (by decide))
              refine hp_iconst (v := 3) C dX6_ceases_319 (by decide) ?_
              refine hp_iload C dX6_ceases_320 e6 ?_
              refine hp_iconst (v := 0) C dX6_ceases_322 (by decide) ?_
              refine hp_callV (ci := 6) C ml_X6_89 im_X6_note se_X6_note rfl (by decide) (mo_noteC (d := d - 1) sh hev) (by omega) dX6_ceases_323 sh.o rfl rfl (by simp [Value.category]) (fun v_1 h_1 hp => ?_) (fun _ _ hf => hf.elim)
              obtain ⟨rfl, rfl⟩ := hp
              refine hp_iinc C dX6_ceases_326 e5 (by decide) rfl ?_
              refine hp_iinc C dX6_ceases_329 e4 (by decide) rfl ?_
              refine hp_goto (tgt := 29) C dX6_ceases_332 (by decide) ?_
              refine hp_Vc (h2 := mo_w h m (mo_end kl n s)) (by unfold mo_end mo_die mo_dur; (repeat' split) <;> first | rfl | contradiction) ?_
              exact kk _ e0 e2 e3 rfl rfl
            · refine hp_aload_nR C dX6_ceases_280 e0 ?_
              refine mo_getA C sh fl_X6_41_6 rfl (by decide) dX6_ceases_281 ?_
              refine hp_iload C dX6_ceases_284 e6 ?_
              refine mo_ald C sh (f := s.2 12) rfl (by decide) rfl dX6_ceases_286 (by exact hn) ?_
              refine hp_goto (tgt := 297) C dX6_ceases_287 (by decide) ?_
              refine hp_iadd C dX6_ceases_297 ?_
              refine mo_putS C sh fl_X6_82_6 rfl (by decide) rfl rfl rfl dX6_ceases_298 ?_
              refine hp_aload_nR C dX6_ceases_301 e0 ?_
              refine mo_getA C sh fl_X6_20_6 rfl (by decide) dX6_ceases_302 ?_
              refine hp_iload C dX6_ceases_305 e6 ?_
              refine hp_iconst (v := 0) C dX6_ceases_307 (by decide) ?_
              refine mo_ast C sh rfl (by decide) dX6_ceases_308 (by exact hn) ?_
              refine hp_aload_nR C dX6_ceases_309 e0 ?_
              refine hp_iload C dX6_ceases_310 rfl ?_
              refine hp_if_eq (tgt := 319) C dX6_ceases_312 (by decide) (fun _ => ?_) (fun z_9 => absurd z_9 (by decide))
              refine hp_iconst (v := 3) C dX6_ceases_319 (by decide) ?_
              refine hp_iload C dX6_ceases_320 e6 ?_
              refine hp_iconst (v := 0) C dX6_ceases_322 (by decide) ?_
              refine hp_callV (ci := 6) C ml_X6_89 im_X6_note se_X6_note rfl (by decide) (mo_noteC (d := d - 1) sh hev) (by omega) dX6_ceases_323 sh.o rfl rfl (by simp [Value.category]) (fun v_1 h_1 hp => ?_) (fun _ _ hf => hf.elim)
              obtain ⟨rfl, rfl⟩ := hp
              refine hp_iinc C dX6_ceases_326 e5 (by decide) rfl ?_
              refine hp_iinc C dX6_ceases_329 e4 (by decide) rfl ?_
              refine hp_goto (tgt := 29) C dX6_ceases_332 (by decide) ?_
              refine hp_Vc (h2 := mo_w h m (mo_end kl n s)) (by unfold mo_end mo_die mo_dur; (repeat' split) <;> first | rfl | contradiction) ?_
              exact kk _ e0 e2 e3 rfl rfl
        · refine hp_aload_nR C dX6_ceases_224 e0 ?_
          refine mo_getA C sh fl_X6_41_6 rfl (by decide) dX6_ceases_225 ?_
          refine hp_iload C dX6_ceases_228 e6 ?_
          refine mo_ald C sh (f := s.2 12) rfl (by decide) rfl dX6_ceases_230 (by exact hn) ?_
          refine hp_aload_nR C dX6_ceases_231 e0 ?_
          refine mo_getA C sh fl_X6_35_6 rfl (by decide) dX6_ceases_232 ?_
          refine hp_iload C dX6_ceases_235 e6 ?_
          refine mo_ald C sh (f := s.2 10) rfl (by decide) rfl dX6_ceases_237 (by exact hn) ?_
          refine hp_icmp_le (tgt := 245) C dX6_ceases_238 (by decide) (fun c_238 => ?_) (fun c_238 => ?_)
          · refine hp_iconst (v := 0) C dX6_ceases_245 (by decide) ?_
            refine hp_istore C dX6_ceases_246 (by decide) ?_
            refine hp_aload_nR C dX6_ceases_248 e0 ?_
            refine hp_dup C dX6_ceases_249 rfl ?_
            refine mo_getS C sh fl_X6_82_6 rfl (by decide) (v := s.1 18) rfl dX6_ceases_250 ?_
            refine hp_aload_nR C dX6_ceases_253 e0 ?_
            refine mo_getA C sh fl_X6_35_6 rfl (by decide) dX6_ceases_254 ?_
            refine hp_iload C dX6_ceases_257 e6 ?_
            refine mo_ald C sh (f := s.2 10) rfl (by decide) rfl dX6_ceases_259 (by exact hn) ?_
            refine hp_if_lt (tgt := 280) C dX6_ceases_260 (by decide) (fun c_260 => ?_) (fun c_260 => ?_)
            · refine hp_aload_nR C dX6_ceases_280 e0 ?_
              refine mo_getA C sh fl_X6_41_6 rfl (by decide) dX6_ceases_281 ?_
              refine hp_iload C dX6_ceases_284 e6 ?_
              refine mo_ald C sh (f := s.2 12) rfl (by decide) rfl dX6_ceases_286 (by exact hn) ?_
              refine hp_goto (tgt := 297) C dX6_ceases_287 (by decide) ?_
              refine hp_iadd C dX6_ceases_297 ?_
              refine mo_putS C sh fl_X6_82_6 rfl (by decide) rfl rfl rfl dX6_ceases_298 ?_
              refine hp_aload_nR C dX6_ceases_301 e0 ?_
              refine mo_getA C sh fl_X6_20_6 rfl (by decide) dX6_ceases_302 ?_
              refine hp_iload C dX6_ceases_305 e6 ?_
              refine hp_iconst (v := 0) C dX6_ceases_307 (by decide) ?_
              refine mo_ast C sh rfl (by decide) dX6_ceases_308 (by exact hn) ?_
              refine hp_aload_nR C dX6_ceases_309 e0 ?_
              refine hp_iload C dX6_ceases_310 rfl ?_
              refine hp_if_eq (tgt := 319) C dX6_ceases_312 (by decide) (fun _ => ?_) (fun z_9 => absurd z_9 (by decide))
              refine hp_iconst (v := 3) C dX6_ceases_319 (by decide) ?_
              refine hp_iload C dX6_ceases_320 e6 ?_
              refine hp_iconst (v := 0) C dX6_ceases_322 (by decide) ?_
              refine hp_callV (ci := 6) C ml_X6_89 im_X6_note se_X6_note rfl (by decide) (mo_noteC (d := d - 1) sh hev) (by omega) dX6_ceases_323 sh.o rfl rfl (by simp [Value.category]) (fun v_1 h_1 hp => ?_) (fun _ _ hf => hf.elim)
              obtain ⟨rfl, rfl⟩ := hp
              refine hp_iinc C dX6_ceases_326 e5 (by decide) rfl ?_
              refine hp_iinc C dX6_ceases_329 e4 (by decide) rfl ?_
              refine hp_goto (tgt := 29) C dX6_ceases_332 (by decide) ?_
              refine hp_Vc (h2 := mo_w h m (mo_end kl n s)) (by unfold mo_end mo_die mo_dur; (repeat' split) <;> first | rfl | contradiction) ?_
              exact kk _ e0 e2 e3 rfl rfl
            · refine hp_aload_nR C dX6_ceases_263 e0 ?_
              refine mo_getA C sh fl_X6_41_6 rfl (by decide) dX6_ceases_264 ?_
              refine hp_iload C dX6_ceases_267 e6 ?_
              refine mo_ald C sh (f := s.2 12) rfl (by decide) rfl dX6_ceases_269 (by exact hn) ?_
              refine hp_aload_nR C dX6_ceases_270 e0 ?_
              refine mo_getA C sh fl_X6_35_6 rfl (by decide) dX6_ceases_271 ?_
              refine hp_iload C dX6_ceases_274 e6 ?_
              refine mo_ald C sh (f := s.2 10) rfl (by decide) rfl dX6_ceases_276 (by exact hn) ?_
              refine hp_icmp_ge (tgt := 290) C dX6_ceases_277 (by decide) (fun c_277 => ?_) (fun c_277 => ?_)
              · refine hp_aload_nR C dX6_ceases_290 e0 ?_
                refine mo_getA C sh fl_X6_35_6 rfl (by decide) dX6_ceases_291 ?_
                refine hp_iload C dX6_ceases_294 e6 ?_
                refine mo_ald C sh (f := s.2 10) rfl (by decide) rfl dX6_ceases_296 (by exact hn) ?_
                refine hp_iadd C dX6_ceases_297 ?_
                refine mo_putS C sh fl_X6_82_6 rfl (by decide) rfl rfl rfl dX6_ceases_298 ?_
                refine hp_aload_nR C dX6_ceases_301 e0 ?_
                refine mo_getA C sh fl_X6_20_6 rfl (by decide) dX6_ceases_302 ?_
                refine hp_iload C dX6_ceases_305 e6 ?_
                refine hp_iconst (v := 0) C dX6_ceases_307 (by decide) ?_
                refine mo_ast C sh rfl (by decide) dX6_ceases_308 (by exact hn) ?_
                refine hp_aload_nR C dX6_ceases_309 e0 ?_
                refine hp_iload C dX6_ceases_310 rfl ?_
                refine hp_if_eq (tgt := 319) C dX6_ceases_312 (by decide) (fun _ => ?_) (fun z_9 => absurd z_9 (by decide))
                refine hp_iconst (v := 3) C dX6_ceases_319 (by decide) ?_
                refine hp_iload C dX6_ceases_320 e6 ?_
                refine hp_iconst (v := 0) C dX6_ceases_322 (by decide) ?_
                refine hp_callV (ci := 6) C ml_X6_89 im_X6_note se_X6_note rfl (by decide) (mo_noteC (d := d - 1) sh hev) (by omega) dX6_ceases_323 sh.o rfl rfl (by simp [Value.category]) (fun v_1 h_1 hp => ?_) (fun _ _ hf => hf.elim)
                obtain ⟨rfl, rfl⟩ := hp
                refine hp_iinc C dX6_ceases_326 e5 (by decide) rfl ?_
                refine hp_iinc C dX6_ceases_329 e4 (by decide) rfl ?_
                refine hp_goto (tgt := 29) C dX6_ceases_332 (by decide) ?_
                refine hp_Vc (h2 := mo_w h m (mo_end kl n s)) (by unfold mo_end mo_die mo_dur; (repeat' split) <;> first | rfl | contradiction) ?_
                exact kk _ e0 e2 e3 rfl rfl
              · refine hp_aload_nR C dX6_ceases_280 e0 ?_
                refine mo_getA C sh fl_X6_41_6 rfl (by decide) dX6_ceases_281 ?_
                refine hp_iload C dX6_ceases_284 e6 ?_
                refine mo_ald C sh (f := s.2 12) rfl (by decide) rfl dX6_ceases_286 (by exact hn) ?_
                refine hp_goto (tgt := 297) C dX6_ceases_287 (by decide) ?_
                refine hp_iadd C dX6_ceases_297 ?_
                refine mo_putS C sh fl_X6_82_6 rfl (by decide) rfl rfl rfl dX6_ceases_298 ?_
                refine hp_aload_nR C dX6_ceases_301 e0 ?_
                refine mo_getA C sh fl_X6_20_6 rfl (by decide) dX6_ceases_302 ?_
                refine hp_iload C dX6_ceases_305 e6 ?_
                refine hp_iconst (v := 0) C dX6_ceases_307 (by decide) ?_
                refine mo_ast C sh rfl (by decide) dX6_ceases_308 (by exact hn) ?_
                refine hp_aload_nR C dX6_ceases_309 e0 ?_
                refine hp_iload C dX6_ceases_310 rfl ?_
                refine hp_if_eq (tgt := 319) C dX6_ceases_312 (by decide) (fun _ => ?_) (fun z_9 => absurd z_9 (by decide))
                refine hp_iconst (v := 3) C dX6_ceases_319 (by decide) ?_
                refine hp_iload C dX6_ceases_320 e6 ?_
                refine hp_iconst (v := 0) C dX6_ceases_322 (by decide) ?_
                refine hp_callV (ci := 6) C ml_X6_89 im_X6_note se_X6_note rfl (by decide) (mo_noteC (d := d - 1) sh hev) (by omega) dX6_ceases_323 sh.o rfl rfl (by simp [Value.category]) (fun v_1 h_1 hp => ?_) (fun _ _ hf => hf.elim)
                obtain ⟨rfl, rfl⟩ := hp
                refine hp_iinc C dX6_ceases_326 e5 (by decide) rfl ?_
                refine hp_iinc C dX6_ceases_329 e4 (by decide) rfl ?_
                refine hp_goto (tgt := 29) C dX6_ceases_332 (by decide) ?_
                refine hp_Vc (h2 := mo_w h m (mo_end kl n s)) (by unfold mo_end mo_die mo_dur; (repeat' split) <;> first | rfl | contradiction) ?_
                exact kk _ e0 e2 e3 rfl rfl
          · refine hp_iconst (v := 1) C dX6_ceases_241 (by decide) ?_
            refine hp_goto (tgt := 246) C dX6_ceases_242 (by decide) ?_
            refine hp_istore C dX6_ceases_246 (by decide) ?_
            refine hp_aload_nR C dX6_ceases_248 e0 ?_
            refine hp_dup C dX6_ceases_249 rfl ?_
            refine mo_getS C sh fl_X6_82_6 rfl (by decide) (v := s.1 18) rfl dX6_ceases_250 ?_
            refine hp_aload_nR C dX6_ceases_253 e0 ?_
            refine mo_getA C sh fl_X6_35_6 rfl (by decide) dX6_ceases_254 ?_
            refine hp_iload C dX6_ceases_257 e6 ?_
            refine mo_ald C sh (f := s.2 10) rfl (by decide) rfl dX6_ceases_259 (by exact hn) ?_
            refine hp_if_lt (tgt := 280) C dX6_ceases_260 (by decide) (fun c_260 => ?_) (fun c_260 => ?_)
            · refine hp_aload_nR C dX6_ceases_280 e0 ?_
              refine mo_getA C sh fl_X6_41_6 rfl (by decide) dX6_ceases_281 ?_
              refine hp_iload C dX6_ceases_284 e6 ?_
              refine mo_ald C sh (f := s.2 12) rfl (by decide) rfl dX6_ceases_286 (by exact hn) ?_
              refine hp_goto (tgt := 297) C dX6_ceases_287 (by decide) ?_
              refine hp_iadd C dX6_ceases_297 ?_
              refine mo_putS C sh fl_X6_82_6 rfl (by decide) rfl rfl rfl dX6_ceases_298 ?_
              refine hp_aload_nR C dX6_ceases_301 e0 ?_
              refine mo_getA C sh fl_X6_20_6 rfl (by decide) dX6_ceases_302 ?_
              refine hp_iload C dX6_ceases_305 e6 ?_
              refine hp_iconst (v := 0) C dX6_ceases_307 (by decide) ?_
              refine mo_ast C sh rfl (by decide) dX6_ceases_308 (by exact hn) ?_
              refine hp_aload_nR C dX6_ceases_309 e0 ?_
              refine hp_iload C dX6_ceases_310 rfl ?_
              refine hp_if_eq (tgt := 319) C dX6_ceases_312 (by decide) (fun z_9 => absurd z_9 (by decide)) (fun _ => ?_)
              refine hp_iconst (v := 4) C dX6_ceases_315 (by decide) ?_
              refine hp_goto (tgt := 320) C dX6_ceases_316 (by decide) ?_
              refine hp_iload C dX6_ceases_320 e6 ?_
              refine hp_iconst (v := 0) C dX6_ceases_322 (by decide) ?_
              refine hp_callV (ci := 6) C ml_X6_89 im_X6_note se_X6_note rfl (by decide) (mo_noteC (d := d - 1) sh hev) (by omega) dX6_ceases_323 sh.o rfl rfl (by simp [Value.category]) (fun v_1 h_1 hp => ?_) (fun _ _ hf => hf.elim)
              obtain ⟨rfl, rfl⟩ := hp
              refine hp_iinc C dX6_ceases_326 e5 (by decide) rfl ?_
              refine hp_iinc C dX6_ceases_329 e4 (by decide) rfl ?_
              refine hp_goto (tgt := 29) C dX6_ceases_332 (by decide) ?_
              refine hp_Vc (h2 := mo_w h m (mo_end kl n s)) (by unfold mo_end mo_die mo_dur; (repeat' split) <;> first | rfl | contradiction) ?_
              exact kk _ e0 e2 e3 rfl rfl
            · refine hp_aload_nR C dX6_ceases_263 e0 ?_
              refine mo_getA C sh fl_X6_41_6 rfl (by decide) dX6_ceases_264 ?_
              refine hp_iload C dX6_ceases_267 e6 ?_
              refine mo_ald C sh (f := s.2 12) rfl (by decide) rfl dX6_ceases_269 (by exact hn) ?_
              refine hp_aload_nR C dX6_ceases_270 e0 ?_
              refine mo_getA C sh fl_X6_35_6 rfl (by decide) dX6_ceases_271 ?_
              refine hp_iload C dX6_ceases_274 e6 ?_
              refine mo_ald C sh (f := s.2 10) rfl (by decide) rfl dX6_ceases_276 (by exact hn) ?_
              refine hp_icmp_ge (tgt := 290) C dX6_ceases_277 (by decide) (fun c_277 => ?_) (fun c_277 => ?_)
              · refine hp_aload_nR C dX6_ceases_290 e0 ?_
                refine mo_getA C sh fl_X6_35_6 rfl (by decide) dX6_ceases_291 ?_
                refine hp_iload C dX6_ceases_294 e6 ?_
                refine mo_ald C sh (f := s.2 10) rfl (by decide) rfl dX6_ceases_296 (by exact hn) ?_
                refine hp_iadd C dX6_ceases_297 ?_
                refine mo_putS C sh fl_X6_82_6 rfl (by decide) rfl rfl rfl dX6_ceases_298 ?_
                refine hp_aload_nR C dX6_ceases_301 e0 ?_
                refine mo_getA C sh fl_X6_20_6 rfl (by decide) dX6_ceases_302 ?_
                refine hp_iload C dX6_ceases_305 e6 ?_
                refine hp_iconst (v := 0) C dX6_ceases_307 (by decide) ?_
                refine mo_ast C sh rfl (by decide) dX6_ceases_308 (by exact hn) ?_
                refine hp_aload_nR C dX6_ceases_309 e0 ?_
                refine hp_iload C dX6_ceases_310 rfl ?_
                refine hp_if_eq (tgt := 319) C dX6_ceases_312 (by decide) (fun z_9 => absurd z_9 (by decide)) (fun _ => ?_)
                refine hp_iconst (v := 4) C dX6_ceases_315 (by decide) ?_
                refine hp_goto (tgt := 320) C dX6_ceases_316 (by decide) ?_
                refine hp_iload C dX6_ceases_320 e6 ?_
                refine hp_iconst (v := 0) C dX6_ceases_322 (by decide) ?_
                refine hp_callV (ci := 6) C ml_X6_89 im_X6_note se_X6_note rfl (by decide) (mo_noteC (d := d - 1) sh hev) (by omega) dX6_ceases_323 sh.o rfl rfl (by simp [Value.category]) (fun v_1 h_1 hp => ?_) (fun _ _ hf => hf.elim)
                obtain ⟨rfl, rfl⟩ := hp
                refine hp_iinc C dX6_ceases_326 e5 (by decide) rfl ?_
                refine hp_iinc C dX6_ceases_329 e4 (by decide) rfl ?_
                refine hp_goto (tgt := 29) C dX6_ceases_332 (by decide) ?_
                refine hp_Vc (h2 := mo_w h m (mo_end kl n s)) (by unfold mo_end mo_die mo_dur; (repeat' split) <;> first | rfl | contradiction) ?_
                exact kk _ e0 e2 e3 rfl rfl
              · refine hp_aload_nR C dX6_ceases_280 e0 ?_
                refine mo_getA C sh fl_X6_41_6 rfl (by decide) dX6_ceases_281 ?_
                refine hp_iload C dX6_ceases_284 e6 ?_
                refine mo_ald C sh (f := s.2 12) rfl (by decide) rfl dX6_ceases_286 (by exact hn) ?_
                refine hp_goto (tgt := 297) C dX6_ceases_287 (by decide) ?_
                refine hp_iadd C dX6_ceases_297 ?_
                refine mo_putS C sh fl_X6_82_6 rfl (by decide) rfl rfl rfl dX6_ceases_298 ?_
                refine hp_aload_nR C dX6_ceases_301 e0 ?_
                refine mo_getA C sh fl_X6_20_6 rfl (by decide) dX6_ceases_302 ?_
                refine hp_iload C dX6_ceases_305 e6 ?_
                refine hp_iconst (v := 0) C dX6_ceases_307 (by decide) ?_
                refine mo_ast C sh rfl (by decide) dX6_ceases_308 (by exact hn) ?_
                refine hp_aload_nR C dX6_ceases_309 e0 ?_
                refine hp_iload C dX6_ceases_310 rfl ?_
                refine hp_if_eq (tgt := 319) C dX6_ceases_312 (by decide) (fun z_9 => absurd z_9 (by decide)) (fun _ => ?_)
                refine hp_iconst (v := 4) C dX6_ceases_315 (by decide) ?_
                refine hp_goto (tgt := 320) C dX6_ceases_316 (by decide) ?_
                refine hp_iload C dX6_ceases_320 e6 ?_
                refine hp_iconst (v := 0) C dX6_ceases_322 (by decide) ?_
                refine hp_callV (ci := 6) C ml_X6_89 im_X6_note se_X6_note rfl (by decide) (mo_noteC (d := d - 1) sh hev) (by omega) dX6_ceases_323 sh.o rfl rfl (by simp [Value.category]) (fun v_1 h_1 hp => ?_) (fun _ _ hf => hf.elim)
                obtain ⟨rfl, rfl⟩ := hp
                refine hp_iinc C dX6_ceases_326 e5 (by decide) rfl ?_
                refine hp_iinc C dX6_ceases_329 e4 (by decide) rfl ?_
                refine hp_goto (tgt := 29) C dX6_ceases_332 (by decide) ?_
                refine hp_Vc (h2 := mo_w h m (mo_end kl n s)) (by unfold mo_end mo_die mo_dur; (repeat' split) <;> first | rfl | contradiction) ?_
                exact kk _ e0 e2 e3 rfl rfl
