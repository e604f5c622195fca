theorem mo_note_ne {s : moS} {a b c : Int32} {k : Nat} (hk : k ≠ 20) : (mo_note s a b c).2 k = s.2 k := by
  unfold mo_note
  split
  · rfl
  · show va_up (va_up (va_up (va_up s.2 20 _) 20 _) 20 _) 20 _ k = _
    rw [va_up_ne _ _ hk, va_up_ne _ _ hk, va_up_ne _ _ hk, va_up_ne _ _ hk]
theorem mo_note_1 {s : moS} {a b c : Int32} {k : Nat} (hk : k ≠ 19) : (mo_note s a b c).1 k = s.1 k := by
  unfold mo_note
  split
  · exact va_up_ne _ _ hk
  · exact va_up_ne _ _ hk
/-- behind goes: the row of keeper p without place t, the event -/
def mo_g1 (s : moS) (p t c : Nat) : moS := mo_up (mo_rb s p (mo_shf (fun j => s.2 14 (80 * p + j)) t (c - 1))) 15 p (nI c - 1)
def mo_g2 (s : moS) (a p t c : Nat) : moS := mo_note (mo_g1 s p t c) 7 (nI a) 0
def mo_gz (s : moS) (a mk : Nat) : (Nat → Int32) × Nat := mo_gs (va_up (s.2 5) a 2) (s.2 3) (a + 1) (mk - (a + 1))
theorem mo_g1_ne {s : moS} {p t c k : Nat} (h1 : k ≠ 14) (h2 : k ≠ 15) : (mo_g1 s p t c).2 k = s.2 k := by
  show va_up (mo_rb s p _).2 15 _ k = _
  rw [va_up_ne _ _ h2, mo_rb_ne h1]
theorem mo_g2_ne {s : moS} {a p t c k : Nat} (h1 : k ≠ 14) (h2 : k ≠ 15) (h3 : k ≠ 20) : (mo_g2 s a p t c).2 k = s.2 k := by
  unfold mo_g2
  rw [mo_note_ne h3, mo_g1_ne h1 h2]
set_option maxRecDepth 20000 in
set_option maxHeartbeats 4000000 in
theorem mo_goes {l : Launch} {G : hpG} {h : hpT} {m d : Nat} {s : moS} (sh : mo_sh G h m) (hd : 2 ≤ d) {a p c t mk : Nat} (ha : a < mk) (hmk : mk ≤ 80) (hmn : s.1 1 = nI mk) (hp : p < 80) (hpa : s.2 3 a = nI p) (hc : c ≤ 80) (hcn : s.2 15 p = nI c) (ht : t < c) (hat : s.2 14 (80 * p + t) = nI a) (hno : ∀ j, j < t → ¬ s.2 14 (80 * p + j) = nI a) (hev : mo_evk s) (hpar : ∀ j, a + 1 ≤ j → j < mk → vp_in (s.2 3 j) 80) :
    hp_C l G yX6_goes (.code yX6_goes cX6_goes 5 (some .int)) d [.ref m, .int (nI a)] (mo_w h m s) (fun v h' => v = some (.int (nI (mo_gz s a mk).2)) ∧ h' = mo_w h m (mo_sv (mo_g2 s a p t c) (mo_gz s a mk).1)) (fun _ _ => False) := by
  refine hp_ofV (by decide) (by simp [Value.category]) (Nat.le_of_ble_eq_true rfl) (fun M C hr hx el => ?_)
  obtain ⟨p1, p2⟩ := nI_80 hp
  obtain ⟨a1, a2⟩ := nI_80 (show a < 80 by omega)
  refine hp_aload_nR C dX6_goes_0 rfl ?_
  refine mo_getA C sh fl_X6_13_6 rfl (by decide) dX6_goes_1 ?_
  refine hp_iload_n C dX6_goes_4 rfl ?_
  refine mo_aldv (v := nI p) C sh rfl (by decide) (by rw [a2]; exact hpa) dX6_goes_5 (by exact a1) ?_
  refine hp_istore_n C dX6_goes_6 (by decide) ?_
  refine hp_aload_nR C dX6_goes_7 rfl ?_
  refine hp_iload_n C dX6_goes_8 rfl ?_
  refine hp_callV (ci := 6) C ml_X6_96 im_X6_place se_X6_place rfl (by decide) (mo_place (d := d - 1) sh (p := p) (t := t) a1 (by rw [a2]; exact hpa) hp (by omega) hat hno) (by omega) dX6_goes_9 sh.o rfl rfl (by simp [Value.category]) (fun v_1 h_1 hp9 => ?_) (fun _ _ hf => hf.elim)
  obtain ⟨rfl, rfl⟩ := hp9
  refine hp_istore_n C dX6_goes_12 (by decide) ?_
  refine hp_Vc (h2 := mo_w h m (mo_rb s p (mo_shf (fun j => s.2 14 (80 * p + j)) t t))) (by rw [show mo_shf (fun j => s.2 14 (80 * p + j)) t t = (fun j => s.2 14 (80 * p + j)) from funext fun j => if_neg (by omega), mo_rb_self]) ?_
  refine mo_goeL sh C (n := nI a) hp hc hcn (g := fun j => s.2 14 (80 * p + j)) ht (fun lo e0 e1 e2 => ?_) (c - (t + 1)) _ t (by omega) (Nat.le_refl _) rfl rfl rfl rfl
  refine hp_aload_nR C dX6_goes_55 e0 ?_
  refine mo_getA C sh fl_X6_50_6 rfl (by decide) dX6_goes_56 ?_
  refine hp_iload_n C dX6_goes_59 e2 ?_
  refine hp_dup2 C dX6_goes_60 rfl rfl ?_
  refine mo_aldv (v := nI c) C sh rfl (by decide) (by rw [p2, mo_rb_ne (by decide)]; exact hcn) dX6_goes_61 (by exact p1) ?_
  refine hp_iconst (v := 1) C dX6_goes_62 (by decide) ?_
  refine hp_isub C dX6_goes_63 ?_
  refine mo_ast C sh rfl (by decide) dX6_goes_64 (by exact p1) ?_
  rw [p2]
  refine hp_Vc (h2 := mo_w h m (mo_g1 s p t c)) rfl ?_
  refine hp_aload_nR C dX6_goes_65 e0 ?_
  refine hp_bipush (v := 7) C dX6_goes_66 (by decide) ?_
  refine hp_iload_n C dX6_goes_68 e1 ?_
  refine hp_iconst (v := 0) C dX6_goes_69 (by decide) ?_
  refine hp_callV (ci := 6) C ml_X6_89 im_X6_note se_X6_note rfl (by decide) (mo_noteC (d := d - 1) sh (s := mo_g1 s p t c) hev) (by omega) dX6_goes_70 sh.o rfl rfl (by simp [Value.category]) (fun v_1 h_1 hp9 => ?_) (fun _ _ hf => hf.elim)
  obtain ⟨rfl, rfl⟩ := hp9
  have g5 : (mo_g2 s a p t c).2 5 = s.2 5 := mo_g2_ne (by decide) (by decide) (by decide)
  have g3 : (mo_g2 s a p t c).2 3 = s.2 3 := mo_g2_ne (by decide) (by decide) (by decide)
  have g1 : (mo_g2 s a p t c).1 1 = nI mk := (mo_note_1 (by decide)).trans hmn
  refine hp_Vc (h2 := mo_w h m (mo_sv (mo_g2 s a p t c) (s.2 5))) (by rw [← g5, mo_sv_self]; rfl) ?_
  refine hp_aload_nR C dX6_goes_73 e0 ?_
  refine mo_getA C sh fl_X6_20_6 rfl (by decide) dX6_goes_74 ?_
  refine hp_iload_n C dX6_goes_77 e1 ?_
  refine hp_iconst (v := 2) C dX6_goes_78 (by decide) ?_
  refine mo_ast C sh rfl (by decide) dX6_goes_79 (by exact a1) ?_
  rw [a2, mo_sv_up]
  refine hp_iconst (v := 1) C dX6_goes_80 (by decide) ?_
  refine hp_istore_n C dX6_goes_81 (by decide) ?_
  refine hp_iload_n C dX6_goes_82 e1 ?_
  refine hp_iconst (v := 1) C dX6_goes_83 (by decide) ?_
  refine hp_iadd C dX6_goes_84 ?_
  refine hp_istore C dX6_goes_85 (by decide) ?_
  have en : nI a + 1 = nI (a + 1 + 0) := mo_succ (by omega)
  refine mo_gonL sh C hr hmk g1 (show a + 1 ≤ mk by omega) (by rw [g3]; exact hpar) (st := va_up (s.2 5) a 2) ?_ (mk - (a + 1)) _ 0 (by omega) e0 rfl ((va_up_self _ _ _).trans (by rw [en]))
  rw [g3]
  exact ⟨rfl, rfl⟩
