/-! ===== the class's codes are the reference's ===== -/
theorem ktc_no_eq (n : Int32) : ktc_no n = if n = 0 then 0 else 1 := by
  unfold ktc_no
  by_cases hn : n = 0
  · subst hn; decide
  · rw [if_neg hn]
    unfold kt_sq
    split
    · rename_i e
      rw [if_neg]
      intro z
      have h1 := kt_79 e
      rw [vp_in_iff] at h1
      have h2 : n.toNatClampNeg = n.toInt.toNat := rfl
      exact hn (Int32.toInt_inj.mp (by have h3 : (0 : Int32).toInt = 0 := by decide
                                       omega))
    · rename_i e
      unfold ktc_in at e ⊢
      split
      · rfl
      · rename_i e2; exact absurd (if_neg e2) e
theorem ktc_in_eq (x lw hg : Int32) : ktc_in x lw hg = if mo_inn x lw hg = 0 then 1 else 0 := rfl
theorem lc_bd (a r t : Int32) : ktc_bd a r t = if mo_isKp a r t = 0 then 1 else 0 := by
  unfold ktc_bd kt_sq ktc_in mo_isKp
  by_cases h1 : mo_inn a 0 2 = 0
  · simp [h1]
  · by_cases h2 : mo_inn r 0 50 = 0
    · simp [h1, h2]
    · by_cases h3 : mo_inn t 1 1000 = 0
      · simp [h1, h2, h3]
      · simp [h1, h2, h3]
theorem lc_first (a r t : Int32) : ktc_bd a r t = mo_firC mo_s0 a r t := by
  rw [lc_bd]
  unfold mo_firC
  split
  · rfl
  · rfl
theorem lc_keeper (n b a r t : Int32) : ktc_ke n b a r t = mfc_ke n b a r t := by
  unfold ktc_ke mfc_ke
  rw [lc_bd, ktc_no_eq, ktc_in_eq]
  unfold kt_sq
  by_cases h1 : n = 0
  · by_cases h2 : mo_inn b 0 2 = 0
    · simp [h1, h2]
    · simp [h1, h2]
  · simp [h1]
theorem lc_worker (n b p s e f : Int32) : ktc_wo n b p s e f = mfc_wo n b p s e f := by
  unfold ktc_wo mfc_wo
  simp only [ktc_in_eq, ktc_no_eq]
  unfold kt_sq
  by_cases h1 : n = 0
  · by_cases h2 : mo_inn b 0 2 = 0
    · simp [h1, h2]
    · by_cases h3 : mo_inn p (-1) 1000 = 0
      · simp [h1, h2, h3]
      · by_cases h4 : mo_inn s 0 100 = 0
        · simp [h1, h2, h3, h4]
        · by_cases h5 : mo_inn e 0 100 = 0
          · simp [h1, h2, h3, h4, h5]
          · by_cases h6 : mo_inn f 0 50 = 0
            · simp [h1, h2, h3, h4, h5, h6]
            · simp [h1, h2, h3, h4, h5, h6]
  · simp [h1]
theorem lc_one (n : Int32) : kt_sq (ktc_no n) 1 = 1 := by
  rw [ktc_no_eq]
  unfold kt_sq
  by_cases h1 : n = 0 <;> simp [h1]
theorem lc_failing (n f : Int32) : kt_sq (ktc_no n) 1 = mo_faiC mo_s0 n f := by
  rw [lc_one]
  unfold mo_faiC
  rw [if_pos (mf_W n)]
theorem lc_kill (n : Int32) : kt_sq (ktc_no n) (ktc_st 0) = if n = 0 then 2 else 1 := by
  rw [ktc_no_eq]
  unfold kt_sq
  by_cases h1 : n = 0
  · simp [h1, ktc_st]
  · simp [h1]
theorem lc_pass (n : Int32) : ktc_in n 0 10000 = mo_pasC n := rfl
theorem lc_state (n : Int32) : ktc_no n = mo_staC mo_s0 n := by
  rw [ktc_no_eq]
  unfold mo_staC
  have h0 : (0 : Int32).toInt = 0 := by decide
  have h1 : (1 : Int32).toInt = 1 := by decide
  by_cases hn : n = 0
  · subst hn; decide
  · rw [if_neg hn]
    by_cases a : n < 0
    · rw [if_pos a]
    · rw [if_neg a, if_neg]
      intro z
      have z2 : n < (1 : Int32) := z
      rw [Int32.lt_iff_toInt_lt] at a z2
      exact hn (Int32.toInt_inj.mp (by omega))
theorem lc_sw (w hg : Int32) (h0 : 0 ≤ hg.toInt) : ktc_sw w hg = if mo_inn w 0 hg = 0 then 1 else 0 := by
  unfold ktc_sw mo_inn
  have e0 : (0 : Int32).toInt = 0 := by decide
  by_cases a : w < 0
  · rw [if_pos a, if_pos rfl, if_pos]
    rw [Int32.lt_iff_toInt_lt] at a
    omega
  · by_cases b : hg < w
    · rw [if_neg a, if_pos b, if_pos rfl, if_pos]
      rw [Int32.lt_iff_toInt_lt] at b
      omega
    · rw [if_neg a, if_neg b, if_neg, if_neg (by decide)]
      rw [Int32.lt_iff_toInt_lt] at a b
      omega
theorem lc_about (n w : Int32) : kt_sq (ktc_no n) (ktc_sw w 7) = mfc_ab n w := by
  rw [ktc_no_eq, lc_sw w 7 (by decide)]
  unfold kt_sq mfc_ab
  by_cases h1 : n = 0 <;> simp [h1]
theorem lc_total (w : Int32) : ktc_sw w 6 = mfc_to w := lc_sw w 6 (by decide)
theorem lc_event (w : Int32) : ktc_in w 0 3 = mo_evtC w := rfl
/-! views again, of heaps that say the same -/
theorem kt_of {G : hpG} {h h' : hpT} {k : Nat} {s : ktS} (sh : kt_sh G h k) (hx : hp_nx h ≤ hp_nx h') (e : ∀ b, b < k + 12 → hp_kd h' b = hp_kd h b ∧ hp_ln h' b = hp_ln h b ∧ hp_ar h' b = hp_ar (kt_w G h k s) b ∧ ∀ f, hp_fl h' f b = hp_fl (kt_w G h k s) f b) : kt_sh G h' k ∧ h' = kt_w G h' k s := by
  refine ⟨⟨sh.1, Nat.le_trans sh.2.1 hx, fun o ho => ((e (k + o) (by omega)).1).trans (sh.2.2.1 o ho), fun o ho ha => ((e (k + o) (by omega)).2.1).trans (sh.2.2.2 o ho ha)⟩, hp_ext rfl rfl rfl rfl (fun f b => ?_) (fun b i => ?_)⟩
  · rw [kt_w_fl]
    by_cases c : kt_fi f = true ∧ b = k + kt_off f
    · rw [if_pos c, (e b (by have := kt_off_lt f; omega)).2.2.2 f, kt_w_fl, if_pos c]
    · rw [if_neg c]
  · rw [kt_w_ar]
    by_cases c : (k ≤ b ∧ b < k + 12) ∧ kt_ai (b - k) = true
    · rw [if_pos c, (e b c.1.2).2.2.1, kt_w_ar, if_pos c]
    · rw [if_neg c]
theorem mo_of {G : hpG} {h h' : hpT} {m : Nat} {s : moS} (sh : mo_sh G h m) (hx : hp_nx h ≤ hp_nx h') (e : ∀ b, m ≤ b → b < m + 20 → hp_kd h' b = hp_kd h b ∧ hp_ln h' b = hp_ln h b ∧ hp_ar h' b = hp_ar (mo_w h m s) b ∧ ∀ f, hp_fl h' f b = hp_fl (mo_w h m s) f b) : mo_sh G h' m ∧ h' = mo_w h' m s := by
  refine ⟨⟨sh.1, Nat.lt_of_lt_of_le sh.2.1 hx, ((e m (Nat.le_refl _) (by omega)).1).trans sh.2.2.1, fun k hk => ?_⟩, hp_ext rfl rfl rfl rfl (fun f b => ?_) (fun b i => ?_)⟩
  · have := (mo_kj hk).2
    obtain ⟨e1, e2, -, -⟩ := e (m + 1 + mo_j k) (by omega) (by omega)
    exact ⟨e1.trans (sh.2.2.2 k hk).1, e2.trans (sh.2.2.2 k hk).2⟩
  · rw [mo_w_fl]
    by_cases c : b = m ∧ 192 ≤ f ∧ f < 217
    · rw [if_pos c, (e b (by omega) (by omega)).2.2.2 f, mo_w_fl, if_pos c]
    · rw [if_neg c]
  · rw [mo_w_ar]
    by_cases c : m < b ∧ b < m + 20
    · rw [if_pos c, (e b (by omega) c.2).2.2.1, mo_w_ar, if_pos c]
    · rw [if_neg c]
/-- what the law has after its constructors -/
def lw_H (G : hpG) (H : hpT) (k : Nat) : Prop := kt_sh G H k ∧ H = kt_w G H k kt_s0 ∧ mo_sh G H (k + 12) ∧ H = mo_w H (k + 12) mo_s0 ∧ hp_is G H (k + 32) 12 ∧ hp_ln H (k + 32) = 1 ∧ hp_nx H = k + 33 ∧ hp_nx H + 200 ≤ hp_n0 G + hp_LC ∧ hp_sl H + 30000 ≤ hp_LS
/-- .. and behind the class's call -/
def lw_J (G : hpG) (H : hpT) (k : Nat) : Prop := mo_sh G H (k + 12) ∧ H = mo_w H (k + 12) mo_s0 ∧ hp_is G H (k + 32) 12 ∧ hp_ln H (k + 32) = 1
theorem lw_HJ {G : hpG} {H h1 : hpT} {k : Nat} (x : lw_H G H k) (fr : lw_fr (k + 12) (k + 32) (kt_w G H k kt_s0) h1) : lw_J G h1 k := by
  obtain ⟨-, eK, sM, eM, iq, lq, hx, -, -⟩ := x
  rw [← eK] at fr
  have fr4 := fr.2.2.2
  obtain ⟨sM1, eM1⟩ := mo_of (s := mo_s0) sM fr.1 (fun b c1 c2 => by
    obtain ⟨e1, e2, e3, e4⟩ := fr4 b c1 (by omega)
    rw [← eM]
    exact ⟨e1, e2, e4 (by omega), e3⟩)
  exact ⟨sM1, eM1, fr.is iq (by omega), ((fr4 (k + 32) (by omega) (by omega)).2.1).trans lq⟩
