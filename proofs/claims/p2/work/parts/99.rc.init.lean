def kt_s0 : ktS := ((fun f => if f = 163 then 1 else if f = 72 then 1 else if f = 73 then 5 else 0), fun _ _ => 0)
/-! ===== the class's constructor ===== -/
theorem hp_mkM_fl (h : hpT) (n k : Nat) (f b : Nat) : hp_fl (hp_mkM h n k) f b = hp_fl h f b := rfl
theorem hp_set_fl (h : hpT) (a i : Nat) (v : Value) (f b : Nat) : hp_fl (hp_set h a i v) f b = hp_fl h f b := rfl
theorem hp_mk_kd (h : hpT) (c n b : Nat) : hp_kd (hp_mk h c n) b = if b = hp_nx h then c else hp_kd h b := rfl
theorem hp_mkA_kd (h : hpT) (t n : Nat) (v : Value) (b : Nat) : hp_kd (hp_mkA h t n v) b = if b = hp_nx h then 10 + t else hp_kd h b := rfl
theorem hp_mkM_kd (h : hpT) (n k b : Nat) : hp_kd (hp_mkM h n k) b = if b < hp_nx h then hp_kd h b else if b = hp_nx h then 15 else if b < hp_nx h + 1 + n then 10 else hp_kd h b := rfl
theorem hp_set_kd (h : hpT) (i a b : Nat) (v : Value) : hp_kd (hp_set h a i v) b = hp_kd h b := rfl
theorem hp_mk_ln (h : hpT) (c n b : Nat) : hp_ln (hp_mk h c n) b = hp_ln h b := rfl
theorem hp_mkA_ln (h : hpT) (t n : Nat) (v : Value) (b : Nat) : hp_ln (hp_mkA h t n v) b = if b = hp_nx h then n else hp_ln h b := rfl
theorem hp_mkM_ln (h : hpT) (n k b : Nat) : hp_ln (hp_mkM h n k) b = if b < hp_nx h then hp_ln h b else if b = hp_nx h then n else if b < hp_nx h + 1 + n then k else hp_ln h b := rfl
theorem hp_set_ln (h : hpT) (i a b : Nat) (v : Value) : hp_ln (hp_set h a i v) b = hp_ln h b := rfl
theorem hp_mk_ar (h : hpT) (c n b i : Nat) : hp_ar (hp_mk h c n) b i = hp_ar h b i := rfl
theorem hp_put_ar (h : hpT) (f a b i : Nat) (v : Value) : hp_ar (hp_put h f a v) b i = hp_ar h b i := rfl
theorem hp_mkA_ar (h : hpT) (t n : Nat) (v : Value) (b i : Nat) : hp_ar (hp_mkA h t n v) b i = if b = hp_nx h then v else hp_ar h b i := by
  show va_up (hp_ar h) h.1 (fun _ => v) b i = _
  unfold va_up
  split <;> rfl
theorem hp_mkM_ar (h : hpT) (n k b i : Nat) : hp_ar (hp_mkM h n k) b i = if b < hp_nx h then hp_ar h b i else if b = hp_nx h then .ref (hp_nx h + 1 + i) else if b < hp_nx h + 1 + n then .int 0 else hp_ar h b i := rfl
theorem hp_mkA_nx (h : hpT) (t n : Nat) (v : Value) : hp_nx (hp_mkA h t n v) = hp_nx h + 1 := rfl
theorem hp_mkM_nx (h : hpT) (n k : Nat) : hp_nx (hp_mkM h n k) = hp_nx h + 1 + n := rfl
theorem hp_set_nx (h : hpT) (a i : Nat) (v : Value) : hp_nx (hp_set h a i v) = hp_nx h := rfl
def kc_K1 (h : hpT) (k : Nat) : hpT := hp_put (kc_Jou (hp_mk h 1 3) (k + 1)) (hp_fd 5 0) k (.ref (k + 1))
def kc_K2 (h : hpT) (k : Nat) : hpT := hp_mk (hp_put (hp_mkA (kc_K1 h k) 4 80 .null) (hp_fd 5 1) k (.ref (k + 7))) 2 10
def kc_K3 (G : hpG) (h : hpT) (k : Nat) : hpT := hp_put (hp_put (hp_put (hp_put (kc_Keep G (kc_K2 h k) (k + 8) 0 none 0 0 0 1 5) (hp_fd 5 2) k (.ref (k + 8))) (hp_fd 5 3) k (.int 1)) (hp_fd 5 4) k (.int 0)) (hp_fd 5 5) k (.int 0)
def kc_K4 (G : hpG) (h : hpT) (k : Nat) : hpT := hp_set (kc_K3 G h k) (k + 7) (0 : Int32).toNatClampNeg (.ref (k + 8))
theorem ki_f0 {G : hpG} {h : hpT} {k : Nat} (hx : hp_nx h = k + 1) : hp_fl (kc_K4 G h k) 0 (k + 9) = .int 0 := by
  simp only [if_true, if_false, reduceIte, Nat.reduceEqDiff, kc_K4, kc_K3, kc_K2, kc_K1, kc_Keep, kc_RT, kc_Arr, kc_AL, kc_Node, kc_Jou, hp_put_fl, hp_mk_fl, hp_mkA_fl, hp_mkM_fl, hp_set_fl, hp_mk_nx, hp_mkA_nx, hp_mkM_nx, hp_put_nx, hp_set_nx, hx, show hp_fd 0 0 = 0 from rfl, show hp_fd 0 1 = 1 from rfl, show hp_fd 1 0 = 32 from rfl, show hp_fd 1 1 = 33 from rfl, show hp_fd 1 2 = 34 from rfl, show hp_fd 2 0 = 64 from rfl, show hp_fd 2 1 = 65 from rfl, show hp_fd 2 2 = 66 from rfl, show hp_fd 2 3 = 67 from rfl, show hp_fd 2 4 = 68 from rfl, show hp_fd 2 5 = 69 from rfl, show hp_fd 2 6 = 70 from rfl, show hp_fd 2 7 = 71 from rfl, show hp_fd 2 8 = 72 from rfl, show hp_fd 2 9 = 73 from rfl, show hp_fd 3 0 = 96 from rfl, show hp_fd 3 1 = 97 from rfl, show hp_fd 5 0 = 160 from rfl, show hp_fd 5 1 = 161 from rfl, show hp_fd 5 2 = 162 from rfl, show hp_fd 5 3 = 163 from rfl, show hp_fd 5 4 = 164 from rfl, show hp_fd 5 5 = 165 from rfl]
  repeat (first | rw [if_pos (by omega)] | rw [if_neg (by omega)])
  try rfl
theorem ki_f1 {G : hpG} {h : hpT} {k : Nat} (hx : hp_nx h = k + 1) : hp_fl (kc_K4 G h k) 1 (k + 9) = .ref (hp_dE G) := by
  simp only [if_true, if_false, reduceIte, Nat.reduceEqDiff, kc_K4, kc_K3, kc_K2, kc_K1, kc_Keep, kc_RT, kc_Arr, kc_AL, kc_Node, kc_Jou, hp_put_fl, hp_mk_fl, hp_mkA_fl, hp_mkM_fl, hp_set_fl, hp_mk_nx, hp_mkA_nx, hp_mkM_nx, hp_put_nx, hp_set_nx, hx, show hp_fd 0 0 = 0 from rfl, show hp_fd 0 1 = 1 from rfl, show hp_fd 1 0 = 32 from rfl, show hp_fd 1 1 = 33 from rfl, show hp_fd 1 2 = 34 from rfl, show hp_fd 2 0 = 64 from rfl, show hp_fd 2 1 = 65 from rfl, show hp_fd 2 2 = 66 from rfl, show hp_fd 2 3 = 67 from rfl, show hp_fd 2 4 = 68 from rfl, show hp_fd 2 5 = 69 from rfl, show hp_fd 2 6 = 70 from rfl, show hp_fd 2 7 = 71 from rfl, show hp_fd 2 8 = 72 from rfl, show hp_fd 2 9 = 73 from rfl, show hp_fd 3 0 = 96 from rfl, show hp_fd 3 1 = 97 from rfl, show hp_fd 5 0 = 160 from rfl, show hp_fd 5 1 = 161 from rfl, show hp_fd 5 2 = 162 from rfl, show hp_fd 5 3 = 163 from rfl, show hp_fd 5 4 = 164 from rfl, show hp_fd 5 5 = 165 from rfl]
  repeat (first | rw [if_pos (by omega)] | rw [if_neg (by omega)])
  try rfl
theorem ki_f2 {G : hpG} {h : hpT} {k : Nat} (hx : hp_nx h = k + 1) : hp_fl (kc_K4 G h k) 2 (k + 9) = .int 0 := by
  simp only [if_true, if_false, reduceIte, Nat.reduceEqDiff, kc_K4, kc_K3, kc_K2, kc_K1, kc_Keep, kc_RT, kc_Arr, kc_AL, kc_Node, kc_Jou, hp_put_fl, hp_mk_fl, hp_mkA_fl, hp_mkM_fl, hp_set_fl, hp_mk_nx, hp_mkA_nx, hp_mkM_nx, hp_put_nx, hp_set_nx, hx, show hp_fd 0 0 = 0 from rfl, show hp_fd 0 1 = 1 from rfl, show hp_fd 1 0 = 32 from rfl, show hp_fd 1 1 = 33 from rfl, show hp_fd 1 2 = 34 from rfl, show hp_fd 2 0 = 64 from rfl, show hp_fd 2 1 = 65 from rfl, show hp_fd 2 2 = 66 from rfl, show hp_fd 2 3 = 67 from rfl, show hp_fd 2 4 = 68 from rfl, show hp_fd 2 5 = 69 from rfl, show hp_fd 2 6 = 70 from rfl, show hp_fd 2 7 = 71 from rfl, show hp_fd 2 8 = 72 from rfl, show hp_fd 2 9 = 73 from rfl, show hp_fd 3 0 = 96 from rfl, show hp_fd 3 1 = 97 from rfl, show hp_fd 5 0 = 160 from rfl, show hp_fd 5 1 = 161 from rfl, show hp_fd 5 2 = 162 from rfl, show hp_fd 5 3 = 163 from rfl, show hp_fd 5 4 = 164 from rfl, show hp_fd 5 5 = 165 from rfl]
  repeat (first | rw [if_pos (by omega)] | rw [if_neg (by omega)])
  try rfl
theorem ki_f32 {G : hpG} {h : hpT} {k : Nat} (hx : hp_nx h = k + 1) : hp_fl (kc_K4 G h k) 32 (k + 1) = .ref (k + 2) := by
  simp only [if_true, if_false, reduceIte, Nat.reduceEqDiff, kc_K4, kc_K3, kc_K2, kc_K1, kc_Keep, kc_RT, kc_Arr, kc_AL, kc_Node, kc_Jou, hp_put_fl, hp_mk_fl, hp_mkA_fl, hp_mkM_fl, hp_set_fl, hp_mk_nx, hp_mkA_nx, hp_mkM_nx, hp_put_nx, hp_set_nx, hx, show hp_fd 0 0 = 0 from rfl, show hp_fd 0 1 = 1 from rfl, show hp_fd 1 0 = 32 from rfl, show hp_fd 1 1 = 33 from rfl, show hp_fd 1 2 = 34 from rfl, show hp_fd 2 0 = 64 from rfl, show hp_fd 2 1 = 65 from rfl, show hp_fd 2 2 = 66 from rfl, show hp_fd 2 3 = 67 from rfl, show hp_fd 2 4 = 68 from rfl, show hp_fd 2 5 = 69 from rfl, show hp_fd 2 6 = 70 from rfl, show hp_fd 2 7 = 71 from rfl, show hp_fd 2 8 = 72 from rfl, show hp_fd 2 9 = 73 from rfl, show hp_fd 3 0 = 96 from rfl, show hp_fd 3 1 = 97 from rfl, show hp_fd 5 0 = 160 from rfl, show hp_fd 5 1 = 161 from rfl, show hp_fd 5 2 = 162 from rfl, show hp_fd 5 3 = 163 from rfl, show hp_fd 5 4 = 164 from rfl, show hp_fd 5 5 = 165 from rfl]
  repeat (first | rw [if_pos (by omega)] | rw [if_neg (by omega)])
  try rfl
theorem ki_f33 {G : hpG} {h : hpT} {k : Nat} (hx : hp_nx h = k + 1) : hp_fl (kc_K4 G h k) 33 (k + 1) = .int 0 := by
  simp only [if_true, if_false, reduceIte, Nat.reduceEqDiff, kc_K4, kc_K3, kc_K2, kc_K1, kc_Keep, kc_RT, kc_Arr, kc_AL, kc_Node, kc_Jou, hp_put_fl, hp_mk_fl, hp_mkA_fl, hp_mkM_fl, hp_set_fl, hp_mk_nx, hp_mkA_nx, hp_mkM_nx, hp_put_nx, hp_set_nx, hx, show hp_fd 0 0 = 0 from rfl, show hp_fd 0 1 = 1 from rfl, show hp_fd 1 0 = 32 from rfl, show hp_fd 1 1 = 33 from rfl, show hp_fd 1 2 = 34 from rfl, show hp_fd 2 0 = 64 from rfl, show hp_fd 2 1 = 65 from rfl, show hp_fd 2 2 = 66 from rfl, show hp_fd 2 3 = 67 from rfl, show hp_fd 2 4 = 68 from rfl, show hp_fd 2 5 = 69 from rfl, show hp_fd 2 6 = 70 from rfl, show hp_fd 2 7 = 71 from rfl, show hp_fd 2 8 = 72 from rfl, show hp_fd 2 9 = 73 from rfl, show hp_fd 3 0 = 96 from rfl, show hp_fd 3 1 = 97 from rfl, show hp_fd 5 0 = 160 from rfl, show hp_fd 5 1 = 161 from rfl, show hp_fd 5 2 = 162 from rfl, show hp_fd 5 3 = 163 from rfl, show hp_fd 5 4 = 164 from rfl, show hp_fd 5 5 = 165 from rfl]
  repeat (first | rw [if_pos (by omega)] | rw [if_neg (by omega)])
  try rfl
theorem ki_f34 {G : hpG} {h : hpT} {k : Nat} (hx : hp_nx h = k + 1) : hp_fl (kc_K4 G h k) 34 (k + 1) = .int 0 := by
  simp only [if_true, if_false, reduceIte, Nat.reduceEqDiff, kc_K4, kc_K3, kc_K2, kc_K1, kc_Keep, kc_RT, kc_Arr, kc_AL, kc_Node, kc_Jou, hp_put_fl, hp_mk_fl, hp_mkA_fl, hp_mkM_fl, hp_set_fl, hp_mk_nx, hp_mkA_nx, hp_mkM_nx, hp_put_nx, hp_set_nx, hx, show hp_fd 0 0 = 0 from rfl, show hp_fd 0 1 = 1 from rfl, show hp_fd 1 0 = 32 from rfl, show hp_fd 1 1 = 33 from rfl, show hp_fd 1 2 = 34 from rfl, show hp_fd 2 0 = 64 from rfl, show hp_fd 2 1 = 65 from rfl, show hp_fd 2 2 = 66 from rfl, show hp_fd 2 3 = 67 from rfl, show hp_fd 2 4 = 68 from rfl, show hp_fd 2 5 = 69 from rfl, show hp_fd 2 6 = 70 from rfl, show hp_fd 2 7 = 71 from rfl, show hp_fd 2 8 = 72 from rfl, show hp_fd 2 9 = 73 from rfl, show hp_fd 3 0 = 96 from rfl, show hp_fd 3 1 = 97 from rfl, show hp_fd 5 0 = 160 from rfl, show hp_fd 5 1 = 161 from rfl, show hp_fd 5 2 = 162 from rfl, show hp_fd 5 3 = 163 from rfl, show hp_fd 5 4 = 164 from rfl, show hp_fd 5 5 = 165 from rfl]
  repeat (first | rw [if_pos (by omega)] | rw [if_neg (by omega)])
  try rfl
theorem ki_f64 {G : hpG} {h : hpT} {k : Nat} (hx : hp_nx h = k + 1) : hp_fl (kc_K4 G h k) 64 (k + 8) = .int 0 := by
  simp only [if_true, if_false, reduceIte, Nat.reduceEqDiff, kc_K4, kc_K3, kc_K2, kc_K1, kc_Keep, kc_RT, kc_Arr, kc_AL, kc_Node, kc_Jou, hp_put_fl, hp_mk_fl, hp_mkA_fl, hp_mkM_fl, hp_set_fl, hp_mk_nx, hp_mkA_nx, hp_mkM_nx, hp_put_nx, hp_set_nx, hx, show hp_fd 0 0 = 0 from rfl, show hp_fd 0 1 = 1 from rfl, show hp_fd 1 0 = 32 from rfl, show hp_fd 1 1 = 33 from rfl, show hp_fd 1 2 = 34 from rfl, show hp_fd 2 0 = 64 from rfl, show hp_fd 2 1 = 65 from rfl, show hp_fd 2 2 = 66 from rfl, show hp_fd 2 3 = 67 from rfl, show hp_fd 2 4 = 68 from rfl, show hp_fd 2 5 = 69 from rfl, show hp_fd 2 6 = 70 from rfl, show hp_fd 2 7 = 71 from rfl, show hp_fd 2 8 = 72 from rfl, show hp_fd 2 9 = 73 from rfl, show hp_fd 3 0 = 96 from rfl, show hp_fd 3 1 = 97 from rfl, show hp_fd 5 0 = 160 from rfl, show hp_fd 5 1 = 161 from rfl, show hp_fd 5 2 = 162 from rfl, show hp_fd 5 3 = 163 from rfl, show hp_fd 5 4 = 164 from rfl, show hp_fd 5 5 = 165 from rfl]
  repeat (first | rw [if_pos (by omega)] | rw [if_neg (by omega)])
  try rfl
theorem ki_f65 {G : hpG} {h : hpT} {k : Nat} (hx : hp_nx h = k + 1) : hp_fl (kc_K4 G h k) 65 (k + 8) = .null := by
  simp only [if_true, if_false, reduceIte, Nat.reduceEqDiff, kc_K4, kc_K3, kc_K2, kc_K1, kc_Keep, kc_RT, kc_Arr, kc_AL, kc_Node, kc_Jou, hp_put_fl, hp_mk_fl, hp_mkA_fl, hp_mkM_fl, hp_set_fl, hp_mk_nx, hp_mkA_nx, hp_mkM_nx, hp_put_nx, hp_set_nx, hx, show hp_fd 0 0 = 0 from rfl, show hp_fd 0 1 = 1 from rfl, show hp_fd 1 0 = 32 from rfl, show hp_fd 1 1 = 33 from rfl, show hp_fd 1 2 = 34 from rfl, show hp_fd 2 0 = 64 from rfl, show hp_fd 2 1 = 65 from rfl, show hp_fd 2 2 = 66 from rfl, show hp_fd 2 3 = 67 from rfl, show hp_fd 2 4 = 68 from rfl, show hp_fd 2 5 = 69 from rfl, show hp_fd 2 6 = 70 from rfl, show hp_fd 2 7 = 71 from rfl, show hp_fd 2 8 = 72 from rfl, show hp_fd 2 9 = 73 from rfl, show hp_fd 3 0 = 96 from rfl, show hp_fd 3 1 = 97 from rfl, show hp_fd 5 0 = 160 from rfl, show hp_fd 5 1 = 161 from rfl, show hp_fd 5 2 = 162 from rfl, show hp_fd 5 3 = 163 from rfl, show hp_fd 5 4 = 164 from rfl, show hp_fd 5 5 = 165 from rfl]
  repeat (first | rw [if_pos (by omega)] | rw [if_neg (by omega)])
  try rfl
theorem ki_f66 {G : hpG} {h : hpT} {k : Nat} (hx : hp_nx h = k + 1) : hp_fl (kc_K4 G h k) 66 (k + 8) = .int 0 := by
  simp only [if_true, if_false, reduceIte, Nat.reduceEqDiff, kc_K4, kc_K3, kc_K2, kc_K1, kc_Keep, kc_RT, kc_Arr, kc_AL, kc_Node, kc_Jou, hp_put_fl, hp_mk_fl, hp_mkA_fl, hp_mkM_fl, hp_set_fl, hp_mk_nx, hp_mkA_nx, hp_mkM_nx, hp_put_nx, hp_set_nx, hx, show hp_fd 0 0 = 0 from rfl, show hp_fd 0 1 = 1 from rfl, show hp_fd 1 0 = 32 from rfl, show hp_fd 1 1 = 33 from rfl, show hp_fd 1 2 = 34 from rfl, show hp_fd 2 0 = 64 from rfl, show hp_fd 2 1 = 65 from rfl, show hp_fd 2 2 = 66 from rfl, show hp_fd 2 3 = 67 from rfl, show hp_fd 2 4 = 68 from rfl, show hp_fd 2 5 = 69 from rfl, show hp_fd 2 6 = 70 from rfl, show hp_fd 2 7 = 71 from rfl, show hp_fd 2 8 = 72 from rfl, show hp_fd 2 9 = 73 from rfl, show hp_fd 3 0 = 96 from rfl, show hp_fd 3 1 = 97 from rfl, show hp_fd 5 0 = 160 from rfl, show hp_fd 5 1 = 161 from rfl, show hp_fd 5 2 = 162 from rfl, show hp_fd 5 3 = 163 from rfl, show hp_fd 5 4 = 164 from rfl, show hp_fd 5 5 = 165 from rfl]
  repeat (first | rw [if_pos (by omega)] | rw [if_neg (by omega)])
  try rfl
theorem ki_f67 {G : hpG} {h : hpT} {k : Nat} (hx : hp_nx h = k + 1) : hp_fl (kc_K4 G h k) 67 (k + 8) = .int 0 := by
  simp only [if_true, if_false, reduceIte, Nat.reduceEqDiff, kc_K4, kc_K3, kc_K2, kc_K1, kc_Keep, kc_RT, kc_Arr, kc_AL, kc_Node, kc_Jou, hp_put_fl, hp_mk_fl, hp_mkA_fl, hp_mkM_fl, hp_set_fl, hp_mk_nx, hp_mkA_nx, hp_mkM_nx, hp_put_nx, hp_set_nx, hx, show hp_fd 0 0 = 0 from rfl, show hp_fd 0 1 = 1 from rfl, show hp_fd 1 0 = 32 from rfl, show hp_fd 1 1 = 33 from rfl, show hp_fd 1 2 = 34 from rfl, show hp_fd 2 0 = 64 from rfl, show hp_fd 2 1 = 65 from rfl, show hp_fd 2 2 = 66 from rfl, show hp_fd 2 3 = 67 from rfl, show hp_fd 2 4 = 68 from rfl, show hp_fd 2 5 = 69 from rfl, show hp_fd 2 6 = 70 from rfl, show hp_fd 2 7 = 71 from rfl, show hp_fd 2 8 = 72 from rfl, show hp_fd 2 9 = 73 from rfl, show hp_fd 3 0 = 96 from rfl, show hp_fd 3 1 = 97 from rfl, show hp_fd 5 0 = 160 from rfl, show hp_fd 5 1 = 161 from rfl, show hp_fd 5 2 = 162 from rfl, show hp_fd 5 3 = 163 from rfl, show hp_fd 5 4 = 164 from rfl, show hp_fd 5 5 = 165 from rfl]
  repeat (first | rw [if_pos (by omega)] | rw [if_neg (by omega)])
  try rfl
theorem ki_f68 {G : hpG} {h : hpT} {k : Nat} (hx : hp_nx h = k + 1) : hp_fl (kc_K4 G h k) 68 (k + 8) = .int 0 := by
  simp only [if_true, if_false, reduceIte, Nat.reduceEqDiff, kc_K4, kc_K3, kc_K2, kc_K1, kc_Keep, kc_RT, kc_Arr, kc_AL, kc_Node, kc_Jou, hp_put_fl, hp_mk_fl, hp_mkA_fl, hp_mkM_fl, hp_set_fl, hp_mk_nx, hp_mkA_nx, hp_mkM_nx, hp_put_nx, hp_set_nx, hx, show hp_fd 0 0 = 0 from rfl, show hp_fd 0 1 = 1 from rfl, show hp_fd 1 0 = 32 from rfl, show hp_fd 1 1 = 33 from rfl, show hp_fd 1 2 = 34 from rfl, show hp_fd 2 0 = 64 from rfl, show hp_fd 2 1 = 65 from rfl, show hp_fd 2 2 = 66 from rfl, show hp_fd 2 3 = 67 from rfl, show hp_fd 2 4 = 68 from rfl, show hp_fd 2 5 = 69 from rfl, show hp_fd 2 6 = 70 from rfl, show hp_fd 2 7 = 71 from rfl, show hp_fd 2 8 = 72 from rfl, show hp_fd 2 9 = 73 from rfl, show hp_fd 3 0 = 96 from rfl, show hp_fd 3 1 = 97 from rfl, show hp_fd 5 0 = 160 from rfl, show hp_fd 5 1 = 161 from rfl, show hp_fd 5 2 = 162 from rfl, show hp_fd 5 3 = 163 from rfl, show hp_fd 5 4 = 164 from rfl, show hp_fd 5 5 = 165 from rfl]
  repeat (first | rw [if_pos (by omega)] | rw [if_neg (by omega)])
  try rfl
theorem ki_f69 {G : hpG} {h : hpT} {k : Nat} (hx : hp_nx h = k + 1) : hp_fl (kc_K4 G h k) 69 (k + 8) = .ref (k + 9) := by
  simp only [if_true, if_false, reduceIte, Nat.reduceEqDiff, kc_K4, kc_K3, kc_K2, kc_K1, kc_Keep, kc_RT, kc_Arr, kc_AL, kc_Node, kc_Jou, hp_put_fl, hp_mk_fl, hp_mkA_fl, hp_mkM_fl, hp_set_fl, hp_mk_nx, hp_mkA_nx, hp_mkM_nx, hp_put_nx, hp_set_nx, hx, show hp_fd 0 0 = 0 from rfl, show hp_fd 0 1 = 1 from rfl, show hp_fd 1 0 = 32 from rfl, show hp_fd 1 1 = 33 from rfl, show hp_fd 1 2 = 34 from rfl, show hp_fd 2 0 = 64 from rfl, show hp_fd 2 1 = 65 from rfl, show hp_fd 2 2 = 66 from rfl, show hp_fd 2 3 = 67 from rfl, show hp_fd 2 4 = 68 from rfl, show hp_fd 2 5 = 69 from rfl, show hp_fd 2 6 = 70 from rfl, show hp_fd 2 7 = 71 from rfl, show hp_fd 2 8 = 72 from rfl, show hp_fd 2 9 = 73 from rfl, show hp_fd 3 0 = 96 from rfl, show hp_fd 3 1 = 97 from rfl, show hp_fd 5 0 = 160 from rfl, show hp_fd 5 1 = 161 from rfl, show hp_fd 5 2 = 162 from rfl, show hp_fd 5 3 = 163 from rfl, show hp_fd 5 4 = 164 from rfl, show hp_fd 5 5 = 165 from rfl]
  repeat (first | rw [if_pos (by omega)] | rw [if_neg (by omega)])
  try rfl
theorem ki_f70 {G : hpG} {h : hpT} {k : Nat} (hx : hp_nx h = k + 1) : hp_fl (kc_K4 G h k) 70 (k + 8) = .ref (k + 10) := by
  simp only [if_true, if_false, reduceIte, Nat.reduceEqDiff, kc_K4, kc_K3, kc_K2, kc_K1, kc_Keep, kc_RT, kc_Arr, kc_AL, kc_Node, kc_Jou, hp_put_fl, hp_mk_fl, hp_mkA_fl, hp_mkM_fl, hp_set_fl, hp_mk_nx, hp_mkA_nx, hp_mkM_nx, hp_put_nx, hp_set_nx, hx, show hp_fd 0 0 = 0 from rfl, show hp_fd 0 1 = 1 from rfl, show hp_fd 1 0 = 32 from rfl, show hp_fd 1 1 = 33 from rfl, show hp_fd 1 2 = 34 from rfl, show hp_fd 2 0 = 64 from rfl, show hp_fd 2 1 = 65 from rfl, show hp_fd 2 2 = 66 from rfl, show hp_fd 2 3 = 67 from rfl, show hp_fd 2 4 = 68 from rfl, show hp_fd 2 5 = 69 from rfl, show hp_fd 2 6 = 70 from rfl, show hp_fd 2 7 = 71 from rfl, show hp_fd 2 8 = 72 from rfl, show hp_fd 2 9 = 73 from rfl, show hp_fd 3 0 = 96 from rfl, show hp_fd 3 1 = 97 from rfl, show hp_fd 5 0 = 160 from rfl, show hp_fd 5 1 = 161 from rfl, show hp_fd 5 2 = 162 from rfl, show hp_fd 5 3 = 163 from rfl, show hp_fd 5 4 = 164 from rfl, show hp_fd 5 5 = 165 from rfl]
  repeat (first | rw [if_pos (by omega)] | rw [if_neg (by omega)])
  try rfl
theorem ki_f71 {G : hpG} {h : hpT} {k : Nat} (hx : hp_nx h = k + 1) : hp_fl (kc_K4 G h k) 71 (k + 8) = .int 0 := by
  simp only [if_true, if_false, reduceIte, Nat.reduceEqDiff, kc_K4, kc_K3, kc_K2, kc_K1, kc_Keep, kc_RT, kc_Arr, kc_AL, kc_Node, kc_Jou, hp_put_fl, hp_mk_fl, hp_mkA_fl, hp_mkM_fl, hp_set_fl, hp_mk_nx, hp_mkA_nx, hp_mkM_nx, hp_put_nx, hp_set_nx, hx, show hp_fd 0 0 = 0 from rfl, show hp_fd 0 1 = 1 from rfl, show hp_fd 1 0 = 32 from rfl, show hp_fd 1 1 = 33 from rfl, show hp_fd 1 2 = 34 from rfl, show hp_fd 2 0 = 64 from rfl, show hp_fd 2 1 = 65 from rfl, show hp_fd 2 2 = 66 from rfl, show hp_fd 2 3 = 67 from rfl, show hp_fd 2 4 = 68 from rfl, show hp_fd 2 5 = 69 from rfl, show hp_fd 2 6 = 70 from rfl, show hp_fd 2 7 = 71 from rfl, show hp_fd 2 8 = 72 from rfl, show hp_fd 2 9 = 73 from rfl, show hp_fd 3 0 = 96 from rfl, show hp_fd 3 1 = 97 from rfl, show hp_fd 5 0 = 160 from rfl, show hp_fd 5 1 = 161 from rfl, show hp_fd 5 2 = 162 from rfl, show hp_fd 5 3 = 163 from rfl, show hp_fd 5 4 = 164 from rfl, show hp_fd 5 5 = 165 from rfl]
  repeat (first | rw [if_pos (by omega)] | rw [if_neg (by omega)])
  try rfl
theorem ki_f72 {G : hpG} {h : hpT} {k : Nat} (hx : hp_nx h = k + 1) : hp_fl (kc_K4 G h k) 72 (k + 8) = .int 1 := by
  simp only [if_true, if_false, reduceIte, Nat.reduceEqDiff, kc_K4, kc_K3, kc_K2, kc_K1, kc_Keep, kc_RT, kc_Arr, kc_AL, kc_Node, kc_Jou, hp_put_fl, hp_mk_fl, hp_mkA_fl, hp_mkM_fl, hp_set_fl, hp_mk_nx, hp_mkA_nx, hp_mkM_nx, hp_put_nx, hp_set_nx, hx, show hp_fd 0 0 = 0 from rfl, show hp_fd 0 1 = 1 from rfl, show hp_fd 1 0 = 32 from rfl, show hp_fd 1 1 = 33 from rfl, show hp_fd 1 2 = 34 from rfl, show hp_fd 2 0 = 64 from rfl, show hp_fd 2 1 = 65 from rfl, show hp_fd 2 2 = 66 from rfl, show hp_fd 2 3 = 67 from rfl, show hp_fd 2 4 = 68 from rfl, show hp_fd 2 5 = 69 from rfl, show hp_fd 2 6 = 70 from rfl, show hp_fd 2 7 = 71 from rfl, show hp_fd 2 8 = 72 from rfl, show hp_fd 2 9 = 73 from rfl, show hp_fd 3 0 = 96 from rfl, show hp_fd 3 1 = 97 from rfl, show hp_fd 5 0 = 160 from rfl, show hp_fd 5 1 = 161 from rfl, show hp_fd 5 2 = 162 from rfl, show hp_fd 5 3 = 163 from rfl, show hp_fd 5 4 = 164 from rfl, show hp_fd 5 5 = 165 from rfl]
  repeat (first | rw [if_pos (by omega)] | rw [if_neg (by omega)])
  try rfl
theorem ki_f73 {G : hpG} {h : hpT} {k : Nat} (hx : hp_nx h = k + 1) : hp_fl (kc_K4 G h k) 73 (k + 8) = .int 5 := by
  simp only [if_true, if_false, reduceIte, Nat.reduceEqDiff, kc_K4, kc_K3, kc_K2, kc_K1, kc_Keep, kc_RT, kc_Arr, kc_AL, kc_Node, kc_Jou, hp_put_fl, hp_mk_fl, hp_mkA_fl, hp_mkM_fl, hp_set_fl, hp_mk_nx, hp_mkA_nx, hp_mkM_nx, hp_put_nx, hp_set_nx, hx, show hp_fd 0 0 = 0 from rfl, show hp_fd 0 1 = 1 from rfl, show hp_fd 1 0 = 32 from rfl, show hp_fd 1 1 = 33 from rfl, show hp_fd 1 2 = 34 from rfl, show hp_fd 2 0 = 64 from rfl, show hp_fd 2 1 = 65 from rfl, show hp_fd 2 2 = 66 from rfl, show hp_fd 2 3 = 67 from rfl, show hp_fd 2 4 = 68 from rfl, show hp_fd 2 5 = 69 from rfl, show hp_fd 2 6 = 70 from rfl, show hp_fd 2 7 = 71 from rfl, show hp_fd 2 8 = 72 from rfl, show hp_fd 2 9 = 73 from rfl, show hp_fd 3 0 = 96 from rfl, show hp_fd 3 1 = 97 from rfl, show hp_fd 5 0 = 160 from rfl, show hp_fd 5 1 = 161 from rfl, show hp_fd 5 2 = 162 from rfl, show hp_fd 5 3 = 163 from rfl, show hp_fd 5 4 = 164 from rfl, show hp_fd 5 5 = 165 from rfl]
  repeat (first | rw [if_pos (by omega)] | rw [if_neg (by omega)])
  try rfl
theorem ki_f96 {G : hpG} {h : hpT} {k : Nat} (hx : hp_nx h = k + 1) : hp_fl (kc_K4 G h k) 96 (k + 10) = .ref (k + 11) := by
  simp only [if_true, if_false, reduceIte, Nat.reduceEqDiff, kc_K4, kc_K3, kc_K2, kc_K1, kc_Keep, kc_RT, kc_Arr, kc_AL, kc_Node, kc_Jou, hp_put_fl, hp_mk_fl, hp_mkA_fl, hp_mkM_fl, hp_set_fl, hp_mk_nx, hp_mkA_nx, hp_mkM_nx, hp_put_nx, hp_set_nx, hx, show hp_fd 0 0 = 0 from rfl, show hp_fd 0 1 = 1 from rfl, show hp_fd 1 0 = 32 from rfl, show hp_fd 1 1 = 33 from rfl, show hp_fd 1 2 = 34 from rfl, show hp_fd 2 0 = 64 from rfl, show hp_fd 2 1 = 65 from rfl, show hp_fd 2 2 = 66 from rfl, show hp_fd 2 3 = 67 from rfl, show hp_fd 2 4 = 68 from rfl, show hp_fd 2 5 = 69 from rfl, show hp_fd 2 6 = 70 from rfl, show hp_fd 2 7 = 71 from rfl, show hp_fd 2 8 = 72 from rfl, show hp_fd 2 9 = 73 from rfl, show hp_fd 3 0 = 96 from rfl, show hp_fd 3 1 = 97 from rfl, show hp_fd 5 0 = 160 from rfl, show hp_fd 5 1 = 161 from rfl, show hp_fd 5 2 = 162 from rfl, show hp_fd 5 3 = 163 from rfl, show hp_fd 5 4 = 164 from rfl, show hp_fd 5 5 = 165 from rfl]
  repeat (first | rw [if_pos (by omega)] | rw [if_neg (by omega)])
  try rfl
theorem ki_f97 {G : hpG} {h : hpT} {k : Nat} (hx : hp_nx h = k + 1) : hp_fl (kc_K4 G h k) 97 (k + 10) = .int 0 := by
  simp only [if_true, if_false, reduceIte, Nat.reduceEqDiff, kc_K4, kc_K3, kc_K2, kc_K1, kc_Keep, kc_RT, kc_Arr, kc_AL, kc_Node, kc_Jou, hp_put_fl, hp_mk_fl, hp_mkA_fl, hp_mkM_fl, hp_set_fl, hp_mk_nx, hp_mkA_nx, hp_mkM_nx, hp_put_nx, hp_set_nx, hx, show hp_fd 0 0 = 0 from rfl, show hp_fd 0 1 = 1 from rfl, show hp_fd 1 0 = 32 from rfl, show hp_fd 1 1 = 33 from rfl, show hp_fd 1 2 = 34 from rfl, show hp_fd 2 0 = 64 from rfl, show hp_fd 2 1 = 65 from rfl, show hp_fd 2 2 = 66 from rfl, show hp_fd 2 3 = 67 from rfl, show hp_fd 2 4 = 68 from rfl, show hp_fd 2 5 = 69 from rfl, show hp_fd 2 6 = 70 from rfl, show hp_fd 2 7 = 71 from rfl, show hp_fd 2 8 = 72 from rfl, show hp_fd 2 9 = 73 from rfl, show hp_fd 3 0 = 96 from rfl, show hp_fd 3 1 = 97 from rfl, show hp_fd 5 0 = 160 from rfl, show hp_fd 5 1 = 161 from rfl, show hp_fd 5 2 = 162 from rfl, show hp_fd 5 3 = 163 from rfl, show hp_fd 5 4 = 164 from rfl, show hp_fd 5 5 = 165 from rfl]
  repeat (first | rw [if_pos (by omega)] | rw [if_neg (by omega)])
  try rfl
theorem ki_f160 {G : hpG} {h : hpT} {k : Nat} (hx : hp_nx h = k + 1) : hp_fl (kc_K4 G h k) 160 (k + 0) = .ref (k + 1) := by
  simp only [if_true, if_false, reduceIte, Nat.reduceEqDiff, kc_K4, kc_K3, kc_K2, kc_K1, kc_Keep, kc_RT, kc_Arr, kc_AL, kc_Node, kc_Jou, hp_put_fl, hp_mk_fl, hp_mkA_fl, hp_mkM_fl, hp_set_fl, hp_mk_nx, hp_mkA_nx, hp_mkM_nx, hp_put_nx, hp_set_nx, hx, show hp_fd 0 0 = 0 from rfl, show hp_fd 0 1 = 1 from rfl, show hp_fd 1 0 = 32 from rfl, show hp_fd 1 1 = 33 from rfl, show hp_fd 1 2 = 34 from rfl, show hp_fd 2 0 = 64 from rfl, show hp_fd 2 1 = 65 from rfl, show hp_fd 2 2 = 66 from rfl, show hp_fd 2 3 = 67 from rfl, show hp_fd 2 4 = 68 from rfl, show hp_fd 2 5 = 69 from rfl, show hp_fd 2 6 = 70 from rfl, show hp_fd 2 7 = 71 from rfl, show hp_fd 2 8 = 72 from rfl, show hp_fd 2 9 = 73 from rfl, show hp_fd 3 0 = 96 from rfl, show hp_fd 3 1 = 97 from rfl, show hp_fd 5 0 = 160 from rfl, show hp_fd 5 1 = 161 from rfl, show hp_fd 5 2 = 162 from rfl, show hp_fd 5 3 = 163 from rfl, show hp_fd 5 4 = 164 from rfl, show hp_fd 5 5 = 165 from rfl]
  repeat (first | rw [if_pos (by omega)] | rw [if_neg (by omega)])
  try rfl
theorem ki_f161 {G : hpG} {h : hpT} {k : Nat} (hx : hp_nx h = k + 1) : hp_fl (kc_K4 G h k) 161 (k + 0) = .ref (k + 7) := by
  simp only [if_true, if_false, reduceIte, Nat.reduceEqDiff, kc_K4, kc_K3, kc_K2, kc_K1, kc_Keep, kc_RT, kc_Arr, kc_AL, kc_Node, kc_Jou, hp_put_fl, hp_mk_fl, hp_mkA_fl, hp_mkM_fl, hp_set_fl, hp_mk_nx, hp_mkA_nx, hp_mkM_nx, hp_put_nx, hp_set_nx, hx, show hp_fd 0 0 = 0 from rfl, show hp_fd 0 1 = 1 from rfl, show hp_fd 1 0 = 32 from rfl, show hp_fd 1 1 = 33 from rfl, show hp_fd 1 2 = 34 from rfl, show hp_fd 2 0 = 64 from rfl, show hp_fd 2 1 = 65 from rfl, show hp_fd 2 2 = 66 from rfl, show hp_fd 2 3 = 67 from rfl, show hp_fd 2 4 = 68 from rfl, show hp_fd 2 5 = 69 from rfl, show hp_fd 2 6 = 70 from rfl, show hp_fd 2 7 = 71 from rfl, show hp_fd 2 8 = 72 from rfl, show hp_fd 2 9 = 73 from rfl, show hp_fd 3 0 = 96 from rfl, show hp_fd 3 1 = 97 from rfl, show hp_fd 5 0 = 160 from rfl, show hp_fd 5 1 = 161 from rfl, show hp_fd 5 2 = 162 from rfl, show hp_fd 5 3 = 163 from rfl, show hp_fd 5 4 = 164 from rfl, show hp_fd 5 5 = 165 from rfl]
  repeat (first | rw [if_pos (by omega)] | rw [if_neg (by omega)])
  try rfl
theorem ki_f162 {G : hpG} {h : hpT} {k : Nat} (hx : hp_nx h = k + 1) : hp_fl (kc_K4 G h k) 162 (k + 0) = .ref (k + 8) := by
  simp only [if_true, if_false, reduceIte, Nat.reduceEqDiff, kc_K4, kc_K3, kc_K2, kc_K1, kc_Keep, kc_RT, kc_Arr, kc_AL, kc_Node, kc_Jou, hp_put_fl, hp_mk_fl, hp_mkA_fl, hp_mkM_fl, hp_set_fl, hp_mk_nx, hp_mkA_nx, hp_mkM_nx, hp_put_nx, hp_set_nx, hx, show hp_fd 0 0 = 0 from rfl, show hp_fd 0 1 = 1 from rfl, show hp_fd 1 0 = 32 from rfl, show hp_fd 1 1 = 33 from rfl, show hp_fd 1 2 = 34 from rfl, show hp_fd 2 0 = 64 from rfl, show hp_fd 2 1 = 65 from rfl, show hp_fd 2 2 = 66 from rfl, show hp_fd 2 3 = 67 from rfl, show hp_fd 2 4 = 68 from rfl, show hp_fd 2 5 = 69 from rfl, show hp_fd 2 6 = 70 from rfl, show hp_fd 2 7 = 71 from rfl, show hp_fd 2 8 = 72 from rfl, show hp_fd 2 9 = 73 from rfl, show hp_fd 3 0 = 96 from rfl, show hp_fd 3 1 = 97 from rfl, show hp_fd 5 0 = 160 from rfl, show hp_fd 5 1 = 161 from rfl, show hp_fd 5 2 = 162 from rfl, show hp_fd 5 3 = 163 from rfl, show hp_fd 5 4 = 164 from rfl, show hp_fd 5 5 = 165 from rfl]
  repeat (first | rw [if_pos (by omega)] | rw [if_neg (by omega)])
  try rfl
theorem ki_f163 {G : hpG} {h : hpT} {k : Nat} (hx : hp_nx h = k + 1) : hp_fl (kc_K4 G h k) 163 (k + 0) = .int 1 := by
  simp only [if_true, if_false, reduceIte, Nat.reduceEqDiff, kc_K4, kc_K3, kc_K2, kc_K1, kc_Keep, kc_RT, kc_Arr, kc_AL, kc_Node, kc_Jou, hp_put_fl, hp_mk_fl, hp_mkA_fl, hp_mkM_fl, hp_set_fl, hp_mk_nx, hp_mkA_nx, hp_mkM_nx, hp_put_nx, hp_set_nx, hx, show hp_fd 0 0 = 0 from rfl, show hp_fd 0 1 = 1 from rfl, show hp_fd 1 0 = 32 from rfl, show hp_fd 1 1 = 33 from rfl, show hp_fd 1 2 = 34 from rfl, show hp_fd 2 0 = 64 from rfl, show hp_fd 2 1 = 65 from rfl, show hp_fd 2 2 = 66 from rfl, show hp_fd 2 3 = 67 from rfl, show hp_fd 2 4 = 68 from rfl, show hp_fd 2 5 = 69 from rfl, show hp_fd 2 6 = 70 from rfl, show hp_fd 2 7 = 71 from rfl, show hp_fd 2 8 = 72 from rfl, show hp_fd 2 9 = 73 from rfl, show hp_fd 3 0 = 96 from rfl, show hp_fd 3 1 = 97 from rfl, show hp_fd 5 0 = 160 from rfl, show hp_fd 5 1 = 161 from rfl, show hp_fd 5 2 = 162 from rfl, show hp_fd 5 3 = 163 from rfl, show hp_fd 5 4 = 164 from rfl, show hp_fd 5 5 = 165 from rfl]
  repeat (first | rw [if_pos (by omega)] | rw [if_neg (by omega)])
  try rfl
theorem ki_f164 {G : hpG} {h : hpT} {k : Nat} (hx : hp_nx h = k + 1) : hp_fl (kc_K4 G h k) 164 (k + 0) = .int 0 := by
  simp only [if_true, if_false, reduceIte, Nat.reduceEqDiff, kc_K4, kc_K3, kc_K2, kc_K1, kc_Keep, kc_RT, kc_Arr, kc_AL, kc_Node, kc_Jou, hp_put_fl, hp_mk_fl, hp_mkA_fl, hp_mkM_fl, hp_set_fl, hp_mk_nx, hp_mkA_nx, hp_mkM_nx, hp_put_nx, hp_set_nx, hx, show hp_fd 0 0 = 0 from rfl, show hp_fd 0 1 = 1 from rfl, show hp_fd 1 0 = 32 from rfl, show hp_fd 1 1 = 33 from rfl, show hp_fd 1 2 = 34 from rfl, show hp_fd 2 0 = 64 from rfl, show hp_fd 2 1 = 65 from rfl, show hp_fd 2 2 = 66 from rfl, show hp_fd 2 3 = 67 from rfl, show hp_fd 2 4 = 68 from rfl, show hp_fd 2 5 = 69 from rfl, show hp_fd 2 6 = 70 from rfl, show hp_fd 2 7 = 71 from rfl, show hp_fd 2 8 = 72 from rfl, show hp_fd 2 9 = 73 from rfl, show hp_fd 3 0 = 96 from rfl, show hp_fd 3 1 = 97 from rfl, show hp_fd 5 0 = 160 from rfl, show hp_fd 5 1 = 161 from rfl, show hp_fd 5 2 = 162 from rfl, show hp_fd 5 3 = 163 from rfl, show hp_fd 5 4 = 164 from rfl, show hp_fd 5 5 = 165 from rfl]
  repeat (first | rw [if_pos (by omega)] | rw [if_neg (by omega)])
  try rfl
theorem ki_f165 {G : hpG} {h : hpT} {k : Nat} (hx : hp_nx h = k + 1) : hp_fl (kc_K4 G h k) 165 (k + 0) = .int 0 := by
  simp only [if_true, if_false, reduceIte, Nat.reduceEqDiff, kc_K4, kc_K3, kc_K2, kc_K1, kc_Keep, kc_RT, kc_Arr, kc_AL, kc_Node, kc_Jou, hp_put_fl, hp_mk_fl, hp_mkA_fl, hp_mkM_fl, hp_set_fl, hp_mk_nx, hp_mkA_nx, hp_mkM_nx, hp_put_nx, hp_set_nx, hx, show hp_fd 0 0 = 0 from rfl, show hp_fd 0 1 = 1 from rfl, show hp_fd 1 0 = 32 from rfl, show hp_fd 1 1 = 33 from rfl, show hp_fd 1 2 = 34 from rfl, show hp_fd 2 0 = 64 from rfl, show hp_fd 2 1 = 65 from rfl, show hp_fd 2 2 = 66 from rfl, show hp_fd 2 3 = 67 from rfl, show hp_fd 2 4 = 68 from rfl, show hp_fd 2 5 = 69 from rfl, show hp_fd 2 6 = 70 from rfl, show hp_fd 2 7 = 71 from rfl, show hp_fd 2 8 = 72 from rfl, show hp_fd 2 9 = 73 from rfl, show hp_fd 3 0 = 96 from rfl, show hp_fd 3 1 = 97 from rfl, show hp_fd 5 0 = 160 from rfl, show hp_fd 5 1 = 161 from rfl, show hp_fd 5 2 = 162 from rfl, show hp_fd 5 3 = 163 from rfl, show hp_fd 5 4 = 164 from rfl, show hp_fd 5 5 = 165 from rfl]
  repeat (first | rw [if_pos (by omega)] | rw [if_neg (by omega)])
  try rfl
theorem ki_k0 {G : hpG} {h : hpT} {k : Nat} (hx : hp_nx h = k + 1) (hk : hp_kd h k = 5) : hp_kd (kc_K4 G h k) (k + 0) = 5 := by
  simp only [if_true, if_false, reduceIte, Nat.reduceEqDiff, kc_K4, kc_K3, kc_K2, kc_K1, kc_Keep, kc_RT, kc_Arr, kc_AL, kc_Node, kc_Jou, hp_mk_kd, hp_mkA_kd, hp_mkM_kd, hp_put_kd, hp_set_kd, hp_mk_nx, hp_mkA_nx, hp_mkM_nx, hp_put_nx, hp_set_nx, hx, hk]
  repeat (first | rw [if_pos (by omega)] | rw [if_neg (by omega)])
  try first | rfl | exact hk
theorem ki_k1 {G : hpG} {h : hpT} {k : Nat} (hx : hp_nx h = k + 1) (hk : hp_kd h k = 5) : hp_kd (kc_K4 G h k) (k + 1) = 1 := by
  simp only [if_true, if_false, reduceIte, Nat.reduceEqDiff, kc_K4, kc_K3, kc_K2, kc_K1, kc_Keep, kc_RT, kc_Arr, kc_AL, kc_Node, kc_Jou, hp_mk_kd, hp_mkA_kd, hp_mkM_kd, hp_put_kd, hp_set_kd, hp_mk_nx, hp_mkA_nx, hp_mkM_nx, hp_put_nx, hp_set_nx, hx, hk]
  repeat (first | rw [if_pos (by omega)] | rw [if_neg (by omega)])
  try first | rfl | exact hk
theorem ki_k2 {G : hpG} {h : hpT} {k : Nat} (hx : hp_nx h = k + 1) (hk : hp_kd h k = 5) : hp_kd (kc_K4 G h k) (k + 2) = 15 := by
  simp only [if_true, if_false, reduceIte, Nat.reduceEqDiff, kc_K4, kc_K3, kc_K2, kc_K1, kc_Keep, kc_RT, kc_Arr, kc_AL, kc_Node, kc_Jou, hp_mk_kd, hp_mkA_kd, hp_mkM_kd, hp_put_kd, hp_set_kd, hp_mk_nx, hp_mkA_nx, hp_mkM_nx, hp_put_nx, hp_set_nx, hx, hk]
  repeat (first | rw [if_pos (by omega)] | rw [if_neg (by omega)])
  try first | rfl | exact hk
theorem ki_k3 {G : hpG} {h : hpT} {k : Nat} (hx : hp_nx h = k + 1) (hk : hp_kd h k = 5) : hp_kd (kc_K4 G h k) (k + 3) = 10 := by
  simp only [if_true, if_false, reduceIte, Nat.reduceEqDiff, kc_K4, kc_K3, kc_K2, kc_K1, kc_Keep, kc_RT, kc_Arr, kc_AL, kc_Node, kc_Jou, hp_mk_kd, hp_mkA_kd, hp_mkM_kd, hp_put_kd, hp_set_kd, hp_mk_nx, hp_mkA_nx, hp_mkM_nx, hp_put_nx, hp_set_nx, hx, hk]
  repeat (first | rw [if_pos (by omega)] | rw [if_neg (by omega)])
  try first | rfl | exact hk
theorem ki_k4 {G : hpG} {h : hpT} {k : Nat} (hx : hp_nx h = k + 1) (hk : hp_kd h k = 5) : hp_kd (kc_K4 G h k) (k + 4) = 10 := by
  simp only [if_true, if_false, reduceIte, Nat.reduceEqDiff, kc_K4, kc_K3, kc_K2, kc_K1, kc_Keep, kc_RT, kc_Arr, kc_AL, kc_Node, kc_Jou, hp_mk_kd, hp_mkA_kd, hp_mkM_kd, hp_put_kd, hp_set_kd, hp_mk_nx, hp_mkA_nx, hp_mkM_nx, hp_put_nx, hp_set_nx, hx, hk]
  repeat (first | rw [if_pos (by omega)] | rw [if_neg (by omega)])
  try first | rfl | exact hk
theorem ki_k5 {G : hpG} {h : hpT} {k : Nat} (hx : hp_nx h = k + 1) (hk : hp_kd h k = 5) : hp_kd (kc_K4 G h k) (k + 5) = 10 := by
  simp only [if_true, if_false, reduceIte, Nat.reduceEqDiff, kc_K4, kc_K3, kc_K2, kc_K1, kc_Keep, kc_RT, kc_Arr, kc_AL, kc_Node, kc_Jou, hp_mk_kd, hp_mkA_kd, hp_mkM_kd, hp_put_kd, hp_set_kd, hp_mk_nx, hp_mkA_nx, hp_mkM_nx, hp_put_nx, hp_set_nx, hx, hk]
  repeat (first | rw [if_pos (by omega)] | rw [if_neg (by omega)])
  try first | rfl | exact hk
theorem ki_k6 {G : hpG} {h : hpT} {k : Nat} (hx : hp_nx h = k + 1) (hk : hp_kd h k = 5) : hp_kd (kc_K4 G h k) (k + 6) = 10 := by
  simp only [if_true, if_false, reduceIte, Nat.reduceEqDiff, kc_K4, kc_K3, kc_K2, kc_K1, kc_Keep, kc_RT, kc_Arr, kc_AL, kc_Node, kc_Jou, hp_mk_kd, hp_mkA_kd, hp_mkM_kd, hp_put_kd, hp_set_kd, hp_mk_nx, hp_mkA_nx, hp_mkM_nx, hp_put_nx, hp_set_nx, hx, hk]
  repeat (first | rw [if_pos (by omega)] | rw [if_neg (by omega)])
  try first | rfl | exact hk
theorem ki_k7 {G : hpG} {h : hpT} {k : Nat} (hx : hp_nx h = k + 1) (hk : hp_kd h k = 5) : hp_kd (kc_K4 G h k) (k + 7) = 14 := by
  simp only [if_true, if_false, reduceIte, Nat.reduceEqDiff, kc_K4, kc_K3, kc_K2, kc_K1, kc_Keep, kc_RT, kc_Arr, kc_AL, kc_Node, kc_Jou, hp_mk_kd, hp_mkA_kd, hp_mkM_kd, hp_put_kd, hp_set_kd, hp_mk_nx, hp_mkA_nx, hp_mkM_nx, hp_put_nx, hp_set_nx, hx, hk]
  repeat (first | rw [if_pos (by omega)] | rw [if_neg (by omega)])
  try first | rfl | exact hk
theorem ki_k8 {G : hpG} {h : hpT} {k : Nat} (hx : hp_nx h = k + 1) (hk : hp_kd h k = 5) : hp_kd (kc_K4 G h k) (k + 8) = 2 := by
  simp only [if_true, if_false, reduceIte, Nat.reduceEqDiff, kc_K4, kc_K3, kc_K2, kc_K1, kc_Keep, kc_RT, kc_Arr, kc_AL, kc_Node, kc_Jou, hp_mk_kd, hp_mkA_kd, hp_mkM_kd, hp_put_kd, hp_set_kd, hp_mk_nx, hp_mkA_nx, hp_mkM_nx, hp_put_nx, hp_set_nx, hx, hk]
  repeat (first | rw [if_pos (by omega)] | rw [if_neg (by omega)])
  try first | rfl | exact hk
theorem ki_k9 {G : hpG} {h : hpT} {k : Nat} (hx : hp_nx h = k + 1) (hk : hp_kd h k = 5) : hp_kd (kc_K4 G h k) (k + 9) = 0 := by
  simp only [if_true, if_false, reduceIte, Nat.reduceEqDiff, kc_K4, kc_K3, kc_K2, kc_K1, kc_Keep, kc_RT, kc_Arr, kc_AL, kc_Node, kc_Jou, hp_mk_kd, hp_mkA_kd, hp_mkM_kd, hp_put_kd, hp_set_kd, hp_mk_nx, hp_mkA_nx, hp_mkM_nx, hp_put_nx, hp_set_nx, hx, hk]
  repeat (first | rw [if_pos (by omega)] | rw [if_neg (by omega)])
  try first | rfl | exact hk
theorem ki_k10 {G : hpG} {h : hpT} {k : Nat} (hx : hp_nx h = k + 1) (hk : hp_kd h k = 5) : hp_kd (kc_K4 G h k) (k + 10) = 3 := by
  simp only [if_true, if_false, reduceIte, Nat.reduceEqDiff, kc_K4, kc_K3, kc_K2, kc_K1, kc_Keep, kc_RT, kc_Arr, kc_AL, kc_Node, kc_Jou, hp_mk_kd, hp_mkA_kd, hp_mkM_kd, hp_put_kd, hp_set_kd, hp_mk_nx, hp_mkA_nx, hp_mkM_nx, hp_put_nx, hp_set_nx, hx, hk]
  repeat (first | rw [if_pos (by omega)] | rw [if_neg (by omega)])
  try first | rfl | exact hk
theorem ki_k11 {G : hpG} {h : hpT} {k : Nat} (hx : hp_nx h = k + 1) (hk : hp_kd h k = 5) : hp_kd (kc_K4 G h k) (k + 11) = 10 := by
  simp only [if_true, if_false, reduceIte, Nat.reduceEqDiff, kc_K4, kc_K3, kc_K2, kc_K1, kc_Keep, kc_RT, kc_Arr, kc_AL, kc_Node, kc_Jou, hp_mk_kd, hp_mkA_kd, hp_mkM_kd, hp_put_kd, hp_set_kd, hp_mk_nx, hp_mkA_nx, hp_mkM_nx, hp_put_nx, hp_set_nx, hx, hk]
  repeat (first | rw [if_pos (by omega)] | rw [if_neg (by omega)])
  try first | rfl | exact hk
theorem ki_l2 {G : hpG} {h : hpT} {k : Nat} (hx : hp_nx h = k + 1) : hp_ln (kc_K4 G h k) (k + 2) = 4 := by
  simp only [if_true, if_false, reduceIte, Nat.reduceEqDiff, kc_K4, kc_K3, kc_K2, kc_K1, kc_Keep, kc_RT, kc_Arr, kc_AL, kc_Node, kc_Jou, hp_mk_ln, hp_mkA_ln, hp_mkM_ln, hp_put_ln, hp_set_ln, hp_mk_nx, hp_mkA_nx, hp_mkM_nx, hp_put_nx, hp_set_nx, hx]
  repeat (first | rw [if_pos (by omega)] | rw [if_neg (by omega)])
  try rfl
theorem ki_a2 {G : hpG} {h : hpT} {k : Nat} (hx : hp_nx h = k + 1) (i : Nat) : hp_ar (kc_K4 G h k) (k + 2) i = .ref (k + 3 + i) := by
  simp only [if_true, if_false, reduceIte, Nat.reduceEqDiff, kc_K4, kc_K3, kc_K2, kc_K1, kc_Keep, kc_RT, kc_Arr, kc_AL, kc_Node, kc_Jou, hp_set_ar, hp_mk_ar, hp_mkA_ar, hp_mkM_ar, hp_put_ar, hp_mk_nx, hp_mkA_nx, hp_mkM_nx, hp_put_nx, hp_set_nx, hx, show (0 : Int32).toNatClampNeg = 0 from rfl]
  repeat (first | rw [if_pos (by omega)] | rw [if_neg (by omega)])
  try rfl
theorem ki_l3 {G : hpG} {h : hpT} {k : Nat} (hx : hp_nx h = k + 1) : hp_ln (kc_K4 G h k) (k + 3) = 600 := by
  simp only [if_true, if_false, reduceIte, Nat.reduceEqDiff, kc_K4, kc_K3, kc_K2, kc_K1, kc_Keep, kc_RT, kc_Arr, kc_AL, kc_Node, kc_Jou, hp_mk_ln, hp_mkA_ln, hp_mkM_ln, hp_put_ln, hp_set_ln, hp_mk_nx, hp_mkA_nx, hp_mkM_nx, hp_put_nx, hp_set_nx, hx]
  repeat (first | rw [if_pos (by omega)] | rw [if_neg (by omega)])
  try rfl
theorem ki_a3 {G : hpG} {h : hpT} {k : Nat} (hx : hp_nx h = k + 1) (i : Nat) : hp_ar (kc_K4 G h k) (k + 3) i = .int 0 := by
  simp only [if_true, if_false, reduceIte, Nat.reduceEqDiff, kc_K4, kc_K3, kc_K2, kc_K1, kc_Keep, kc_RT, kc_Arr, kc_AL, kc_Node, kc_Jou, hp_set_ar, hp_mk_ar, hp_mkA_ar, hp_mkM_ar, hp_put_ar, hp_mk_nx, hp_mkA_nx, hp_mkM_nx, hp_put_nx, hp_set_nx, hx, show (0 : Int32).toNatClampNeg = 0 from rfl]
  repeat (first | rw [if_pos (by omega)] | rw [if_neg (by omega)])
  try rfl
theorem ki_l4 {G : hpG} {h : hpT} {k : Nat} (hx : hp_nx h = k + 1) : hp_ln (kc_K4 G h k) (k + 4) = 600 := by
  simp only [if_true, if_false, reduceIte, Nat.reduceEqDiff, kc_K4, kc_K3, kc_K2, kc_K1, kc_Keep, kc_RT, kc_Arr, kc_AL, kc_Node, kc_Jou, hp_mk_ln, hp_mkA_ln, hp_mkM_ln, hp_put_ln, hp_set_ln, hp_mk_nx, hp_mkA_nx, hp_mkM_nx, hp_put_nx, hp_set_nx, hx]
  repeat (first | rw [if_pos (by omega)] | rw [if_neg (by omega)])
  try rfl
theorem ki_a4 {G : hpG} {h : hpT} {k : Nat} (hx : hp_nx h = k + 1) (i : Nat) : hp_ar (kc_K4 G h k) (k + 4) i = .int 0 := by
  simp only [if_true, if_false, reduceIte, Nat.reduceEqDiff, kc_K4, kc_K3, kc_K2, kc_K1, kc_Keep, kc_RT, kc_Arr, kc_AL, kc_Node, kc_Jou, hp_set_ar, hp_mk_ar, hp_mkA_ar, hp_mkM_ar, hp_put_ar, hp_mk_nx, hp_mkA_nx, hp_mkM_nx, hp_put_nx, hp_set_nx, hx, show (0 : Int32).toNatClampNeg = 0 from rfl]
  repeat (first | rw [if_pos (by omega)] | rw [if_neg (by omega)])
  try rfl
theorem ki_l5 {G : hpG} {h : hpT} {k : Nat} (hx : hp_nx h = k + 1) : hp_ln (kc_K4 G h k) (k + 5) = 600 := by
  simp only [if_true, if_false, reduceIte, Nat.reduceEqDiff, kc_K4, kc_K3, kc_K2, kc_K1, kc_Keep, kc_RT, kc_Arr, kc_AL, kc_Node, kc_Jou, hp_mk_ln, hp_mkA_ln, hp_mkM_ln, hp_put_ln, hp_set_ln, hp_mk_nx, hp_mkA_nx, hp_mkM_nx, hp_put_nx, hp_set_nx, hx]
  repeat (first | rw [if_pos (by omega)] | rw [if_neg (by omega)])
  try rfl
theorem ki_a5 {G : hpG} {h : hpT} {k : Nat} (hx : hp_nx h = k + 1) (i : Nat) : hp_ar (kc_K4 G h k) (k + 5) i = .int 0 := by
  simp only [if_true, if_false, reduceIte, Nat.reduceEqDiff, kc_K4, kc_K3, kc_K2, kc_K1, kc_Keep, kc_RT, kc_Arr, kc_AL, kc_Node, kc_Jou, hp_set_ar, hp_mk_ar, hp_mkA_ar, hp_mkM_ar, hp_put_ar, hp_mk_nx, hp_mkA_nx, hp_mkM_nx, hp_put_nx, hp_set_nx, hx, show (0 : Int32).toNatClampNeg = 0 from rfl]
  repeat (first | rw [if_pos (by omega)] | rw [if_neg (by omega)])
  try rfl
theorem ki_l6 {G : hpG} {h : hpT} {k : Nat} (hx : hp_nx h = k + 1) : hp_ln (kc_K4 G h k) (k + 6) = 600 := by
  simp only [if_true, if_false, reduceIte, Nat.reduceEqDiff, kc_K4, kc_K3, kc_K2, kc_K1, kc_Keep, kc_RT, kc_Arr, kc_AL, kc_Node, kc_Jou, hp_mk_ln, hp_mkA_ln, hp_mkM_ln, hp_put_ln, hp_set_ln, hp_mk_nx, hp_mkA_nx, hp_mkM_nx, hp_put_nx, hp_set_nx, hx]
  repeat (first | rw [if_pos (by omega)] | rw [if_neg (by omega)])
  try rfl
theorem ki_a6 {G : hpG} {h : hpT} {k : Nat} (hx : hp_nx h = k + 1) (i : Nat) : hp_ar (kc_K4 G h k) (k + 6) i = .int 0 := by
  simp only [if_true, if_false, reduceIte, Nat.reduceEqDiff, kc_K4, kc_K3, kc_K2, kc_K1, kc_Keep, kc_RT, kc_Arr, kc_AL, kc_Node, kc_Jou, hp_set_ar, hp_mk_ar, hp_mkA_ar, hp_mkM_ar, hp_put_ar, hp_mk_nx, hp_mkA_nx, hp_mkM_nx, hp_put_nx, hp_set_nx, hx, show (0 : Int32).toNatClampNeg = 0 from rfl]
  repeat (first | rw [if_pos (by omega)] | rw [if_neg (by omega)])
  try rfl
theorem ki_l7 {G : hpG} {h : hpT} {k : Nat} (hx : hp_nx h = k + 1) : hp_ln (kc_K4 G h k) (k + 7) = 80 := by
  simp only [if_true, if_false, reduceIte, Nat.reduceEqDiff, kc_K4, kc_K3, kc_K2, kc_K1, kc_Keep, kc_RT, kc_Arr, kc_AL, kc_Node, kc_Jou, hp_mk_ln, hp_mkA_ln, hp_mkM_ln, hp_put_ln, hp_set_ln, hp_mk_nx, hp_mkA_nx, hp_mkM_nx, hp_put_nx, hp_set_nx, hx]
  repeat (first | rw [if_pos (by omega)] | rw [if_neg (by omega)])
  try rfl
theorem ki_a7 {G : hpG} {h : hpT} {k : Nat} (hx : hp_nx h = k + 1) (i : Nat) : hp_ar (kc_K4 G h k) (k + 7) i = (if i = 0 then .ref (k + 8) else .null) := by
  simp only [if_true, if_false, reduceIte, Nat.reduceEqDiff, kc_K4, kc_K3, kc_K2, kc_K1, kc_Keep, kc_RT, kc_Arr, kc_AL, kc_Node, kc_Jou, hp_set_ar, hp_mk_ar, hp_mkA_ar, hp_mkM_ar, hp_put_ar, hp_mk_nx, hp_mkA_nx, hp_mkM_nx, hp_put_nx, hp_set_nx, hx, show (0 : Int32).toNatClampNeg = 0 from rfl]
  repeat (first | rw [if_pos (by omega)] | rw [if_neg (by omega)])
  try rfl
  by_cases e : i = 0
  · rw [if_pos e, if_pos e]
  · rw [if_neg e, if_neg e, if_neg (by omega)]
theorem ki_l11 {G : hpG} {h : hpT} {k : Nat} (hx : hp_nx h = k + 1) : hp_ln (kc_K4 G h k) (k + 11) = 8 := by
  simp only [if_true, if_false, reduceIte, Nat.reduceEqDiff, kc_K4, kc_K3, kc_K2, kc_K1, kc_Keep, kc_RT, kc_Arr, kc_AL, kc_Node, kc_Jou, hp_mk_ln, hp_mkA_ln, hp_mkM_ln, hp_put_ln, hp_set_ln, hp_mk_nx, hp_mkA_nx, hp_mkM_nx, hp_put_nx, hp_set_nx, hx]
  repeat (first | rw [if_pos (by omega)] | rw [if_neg (by omega)])
  try rfl
theorem ki_a11 {G : hpG} {h : hpT} {k : Nat} (hx : hp_nx h = k + 1) (i : Nat) : hp_ar (kc_K4 G h k) (k + 11) i = .int 0 := by
  simp only [if_true, if_false, reduceIte, Nat.reduceEqDiff, kc_K4, kc_K3, kc_K2, kc_K1, kc_Keep, kc_RT, kc_Arr, kc_AL, kc_Node, kc_Jou, hp_set_ar, hp_mk_ar, hp_mkA_ar, hp_mkM_ar, hp_put_ar, hp_mk_nx, hp_mkA_nx, hp_mkM_nx, hp_put_nx, hp_set_nx, hx, show (0 : Int32).toNatClampNeg = 0 from rfl]
  repeat (first | rw [if_pos (by omega)] | rw [if_neg (by omega)])
  try rfl
