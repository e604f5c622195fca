/-! ===== the constructor of a worker; the length of the empty array ===== -/
def kc_Work (h : hpT) (a : Nat) (n : Int32) (ow : Option Nat) (dp kn p b e f : Int32) : hpT := hp_put (hp_put (hp_put (hp_put (kc_Node 4 h a n ow dp kn) (hp_fd 4 5) a (.int p)) (hp_fd 4 6) a (.int b)) (hp_fd 4 7) a (.int e)) (hp_fd 4 8) a (.int f)
set_option maxRecDepth 20000 in
set_option maxHeartbeats 4000000 in
theorem kc_woJ {l : Launch} {G : hpG} {h : hpT} {a u d : Nat} {n kn dp p b e f : Int32} (hd : 2 ≤ d) (hi : hp_is G h a 4) (ho : hp_is G h u 2) (ed : hp_fl h (hp_fd 2 2) u = .int dp) : hp_C l G yX4_init (.code yX4_init cX4_init 8 none) d [.ref a, .int n, .ref u, .int kn, .int p, .int b, .int e, .int f] (h) (fun v h' => v = none ∧ h' = kc_Work h a n (some u) (dp + 1) kn p b e f) (fun _ _ => False) := by
  refine hp_ofV (by decide) (by simp [Value.category]) (Nat.le_of_ble_eq_true rfl) (fun M C hr hx el => ?_)
  refine hp_aload_nR C dX4_init_0 rfl ?_
  refine hp_iload_n C dX4_init_1 rfl ?_
  refine hp_aload_nR C dX4_init_2 rfl ?_
  refine hp_iload_n C dX4_init_3 rfl ?_
  refine hp_callI C ml_X4_3 im_X2_init rfl (kc_noJ4 (d := d - 1) (by omega) hi ho ed) (by omega) dX4_init_4 rfl rfl (by simp [Value.category]) (fun v_1 h_1 hp => ?_)
  obtain ⟨rfl, rfl⟩ := hp
  refine hp_aload_nR C dX4_init_7 rfl ?_
  refine hp_iload C dX4_init_8 rfl ?_
  first | refine hp_putF C fl_X4_9_4 rfl rfl rfl rfl dX4_init_10 hi ?_ | refine hp_putf C fl_X4_9_4 rfl rfl rfl dX4_init_10 hi ?_
  refine hp_aload_nR C dX4_init_13 rfl ?_
  refine hp_iload C dX4_init_14 rfl ?_
  first | refine hp_putF C fl_X4_15_4 rfl rfl rfl rfl dX4_init_16 hi ?_ | refine hp_putf C fl_X4_15_4 rfl rfl rfl dX4_init_16 hi ?_
  refine hp_aload_nR C dX4_init_19 rfl ?_
  refine hp_iload C dX4_init_20 rfl ?_
  first | refine hp_putF C fl_X4_18_4 rfl rfl rfl rfl dX4_init_22 hi ?_ | refine hp_putf C fl_X4_18_4 rfl rfl rfl dX4_init_22 hi ?_
  refine hp_aload_nR C dX4_init_25 rfl ?_
  refine hp_iload C dX4_init_26 rfl ?_
  first | refine hp_putF C fl_X4_21_4 rfl rfl rfl rfl dX4_init_28 hi ?_ | refine hp_putf C fl_X4_21_4 rfl rfl rfl dX4_init_28 hi ?_
  refine hp_vret C hr dX4_init_31 ?_
  exact ⟨rfl, rfl⟩
theorem hp_alenE {M : hpM} {G : hpG} {y : MethodName} {cc : ByteArray} {nL d : Nat} {h0 h : hpT} {Q : State → Prop} {pc : Nat} {lo : Nat → Option Value} {st : List Value} (C : hp_F M G y cc nL d h0) (dd : decode cc pc = .ok (.arraylength, 1)) (kk : hp_V M G nL Q h (pc + 1) lo (.int 0 :: st)) : hp_V M G nL Q h pc lo (.ref (hp_dE G) :: st) := by
  intro H locs cells slots ls hR hl hL
  obtain ⟨cell, hf, hc, hz, hs⟩ := C.en.2.2.2.2.2.1
  have hlt := C.en.2.2.2.2.2.2.1
  obtain ⟨kA, comp, k1, k2, -, -⟩ := (C.en.arr (t := 3) rfl).2
  exact W.alen (n := 0) (ty := .object "java/lang/Object") C.ex C.bc (by rw [hR.2.2.1 _ hlt]; exact hf) ⟨hs, kA, by rw [hc]; exact k1, comp, k2⟩ (by rw [hz]; rfl) rfl rfl dd (kk H locs cells slots ls hR hl hL)
