/-- the tables' good words: every method's own words -/
def hp_ws : List Cond := lw_tbl.filter goodWord
theorem hp_ws_good : GoodIn hp_ws hp_ws := fun w h => ⟨h, good_of_word (List.mem_filter.mp h).2⟩
theorem hp_ws_hts {args : Array Value} {s : State} (h : ∀ w ∈ lw_tbl, w.before args s = true) : ∀ w ∈ hp_ws, w.before args s = true := fun w hw => h w (List.mem_filter.mp hw).1
theorem hp_in0 {w : Cond} (i : Nat) (h : (k2_sels lw_privs)[i]? = some w) (g : goodWord w = true) : w ∈ hp_ws := List.mem_filter.mpr ⟨List.mem_append_left _ (List.mem_of_getElem? h), g⟩
theorem hp_in1 {w : Cond} (i : Nat) (h : tables_1_1[i]? = some w) (g : goodWord w = true) : w ∈ hp_ws := List.mem_filter.mpr ⟨List.mem_append_right _ (List.mem_append_left _ (List.mem_of_getElem? h)), g⟩
theorem hp_in2 {w : Cond} (i : Nat) (h : tables_1_2[i]? = some w) (g : goodWord w = true) : w ∈ hp_ws := List.mem_filter.mpr ⟨List.mem_append_right _ (List.mem_append_right _ (List.mem_append_left _ (List.mem_of_getElem? h))), g⟩
theorem hp_in3 {w : Cond} (i : Nat) (h : tables_1_3[i]? = some w) (g : goodWord w = true) : w ∈ hp_ws := List.mem_filter.mpr ⟨List.mem_append_right _ (List.mem_append_right _ (List.mem_append_right _ (List.mem_append_left _ (List.mem_of_getElem? h)))), g⟩
theorem hp_in4 {w : Cond} (i : Nat) (h : tables_1_4[i]? = some w) (g : goodWord w = true) : w ∈ hp_ws := List.mem_filter.mpr ⟨List.mem_append_right _ (List.mem_append_right _ (List.mem_append_right _ (List.mem_append_right _ ((List.mem_of_getElem? h))))), g⟩
/-- the number of field k of class c (one number for a field that two classes inherit) -/
def hp_fd (c k : Nat) : Nat := if c = 4 then (if k < 5 then 64 + k else 128 + k) else 32 * c + k
theorem hp_fd_inj {c j k : Nat} (hj : j < 32) (hk : k < 32) (e : hp_fd c j = hp_fd c k) : j = k := by
  unfold hp_fd at e
  (repeat' split at e) <;> omega
theorem hp_fd_mod {c j : Nat} (hj : j < 32) : hp_fd c j % 32 = j := by
  unfold hp_fd
  (repeat' split) <;> omega
/-- the type of field k of class c -/
def hp_ty (c k : Nat) : FieldType := match c with
  | 0 => tyJx4a65c k
  | 1 => tyX0 k
  | 2 => tyX1 k
  | 3 => tyX3 k
  | 4 => tyX4 k
  | 5 => tyX5 k
  | _ => tyX6 k
/-- what a field of a new object holds, by its number -/
def hp_dv (c f : Nat) : Value := if f = hp_fd c (f % 32) then defaultValue (hp_ty c (f % 32)) else .null
abbrev hp_tys (cA : Nat → ClassId) : List (ClassId × FieldType) := [(cA 0, .int), (cA 1, .boolean), (cA 2, .long), (cA 3, .object "java/lang/Object"), (cA 4, .object "KeeperTree$Node"), (cA 5, .array .int)]
/-- words of the tables that are not good ones, but stay -/
def hp_ow : List Cond := [(Jvm.Cond.methodLinkNest "KeeperTree" (9 : Nat) ({ cls := "KeeperTree$Journal", name := "<init>", desc := "()V" } : Jvm.MethodName) "KeeperTree"),
  (Jvm.Cond.arrayOver (Jvm.ClassFile.FieldType.array Jvm.ClassFile.FieldType.int)),
  (Jvm.Cond.arrayOver (Jvm.ClassFile.FieldType.object "KeeperTree$Node")),
  (Jvm.Cond.methodLinkNest "KeeperTree$Keeper" (22 : Nat) ({ cls := "KeeperTree$RestartTimes", name := "<init>", desc := "()V" } : Jvm.MethodName) "KeeperTree"),
  (Jvm.Cond.castable "java/lang/IllegalArgumentException" "java/lang/IllegalArgumentException"),
  (Jvm.Cond.declares ({ cls := "java/lang/RuntimeException", name := "<init>", desc := "()V" } : Jvm.MethodName)),
  (Jvm.Cond.declares ({ cls := "java/lang/RuntimeException", name := "<init>", desc := "(Ljava/lang/String;)V" } : Jvm.MethodName)),
  (Jvm.Cond.declares ({ cls := "java/lang/Exception", name := "<init>", desc := "()V" } : Jvm.MethodName)),
  (Jvm.Cond.declares ({ cls := "java/lang/Exception", name := "<init>", desc := "(Ljava/lang/String;)V" } : Jvm.MethodName)),
  (Jvm.Cond.declares ({ cls := "java/lang/Throwable", name := "<init>", desc := "()V" } : Jvm.MethodName)),
  (Jvm.Cond.declares ({ cls := "java/lang/Throwable", name := "<init>", desc := "(Ljava/lang/String;)V" } : Jvm.MethodName)),
  (Jvm.Cond.castable "java/lang/IllegalStateException" "java/lang/IllegalStateException"),
  (Jvm.Cond.arrayOver (Jvm.ClassFile.FieldType.object "java/lang/Object")),
  (Jvm.Cond.declares ({ cls := "KeeperTree$Node", name := "rise", desc := "(LKeeperTree$Journal;)Z" } : Jvm.MethodName)),
  (Jvm.Cond.declares ({ cls := "KeeperTree$Node", name := "settle", desc := "(ZLKeeperTree$Journal;)Z" } : Jvm.MethodName)),
  (Jvm.Cond.declares ({ cls := "KeeperTree$Node", name := "fall", desc := "(LKeeperTree$Journal;)V" } : Jvm.MethodName)),
  (Jvm.Cond.declares ({ cls := "KeeperTree$Node", name := "vanish", desc := "()I" } : Jvm.MethodName)),
  (Jvm.Cond.declares ({ cls := "KeeperTree$Node", name := "perish", desc := "(LKeeperTree$Journal;)I" } : Jvm.MethodName)),
  (Jvm.Cond.castable "KeeperTree$Keeper" "KeeperTree$Keeper"),
  (Jvm.Cond.castable "KeeperTree$Keeper" "KeeperTree$Node"),
  (Jvm.Cond.castable "KeeperTree$Worker" "KeeperTree$Node"),
  (Jvm.Cond.castable "KeeperTree$Worker" "KeeperTree$Worker"),
  (Jvm.Cond.declares ({ cls := "java/lang/Object", name := "getClass", desc := "()Ljava/lang/Class;" } : Jvm.MethodName)),
  (Jvm.Cond.castable "KeeperTree" "java/lang/Object"),
  (Jvm.Cond.castable "KeeperTree$Journal" "java/lang/Object"),
  (Jvm.Cond.castable "KeeperTree$Keeper" "java/lang/Object"),
  (Jvm.Cond.castable "KeeperTree$RestartTimes" "java/lang/Object"),
  (Jvm.Cond.castable "KeeperTreeModel" "java/lang/Object"),
  (Jvm.Cond.castable "KeeperTree$Worker" "java/lang/Object")]
theorem hp_ow_in : ∀ w ∈ hp_ow, w ∈ lw_tbl := by decide +kernel
def hp_nc : List (String × String) := [("KeeperTree$Keeper", "KeeperTree$Worker"), ("KeeperTree$Worker", "KeeperTree$Keeper"), ("java/lang/IllegalStateException", "java/lang/IllegalArgumentException")]
/-- entry idx of own's pool names field k of class ci -/
def hp_FL (own : String) (idx ci k : Nat) : Prop := ∃ (ref C : String) (T : u_T) (N : Nat), vwCl[ci]? = some (C, T, N) ∧ k < N ∧ N ≤ 32 ∧ ci < 10 ∧ Cond.fieldLink own idx ref (T k).2.1 (T k).2.2.1 ∈ hp_ws ∧ ((T k).1 = ref ∨ Cond.sameField ref (T k).1 (T k).2.1 (T k).2.2.1 ∈ hp_ws) ∧ (∀ w ∈ u_ws C T N, w ∈ hp_ws) ∧
  (∀ j, j < N → parseFieldDescriptor (T j).2.2.1 = some (hp_ty ci j)) ∧ (∀ a, a < N → ∀ b, b < N → a ≠ b → (T a).2.1 ≠ (T b).2.1)
theorem iw_Jx4a65c : ∀ w ∈ u_ws RJx4a65c TJx4a65c 3, w ∈ hp_ws := by decide +kernel
theorem iw_X0 : ∀ w ∈ u_ws RX0 TX0 3, w ∈ hp_ws := by decide +kernel
theorem iw_X1 : ∀ w ∈ u_ws RX1 TX1 10, w ∈ hp_ws := by decide +kernel
theorem iw_X3 : ∀ w ∈ u_ws RX3 TX3 2, w ∈ hp_ws := by decide +kernel
theorem iw_X4 : ∀ w ∈ u_ws RX4 TX4 9, w ∈ hp_ws := by decide +kernel
theorem iw_X5 : ∀ w ∈ u_ws RX5 TX5 6, w ∈ hp_ws := by decide +kernel
theorem iw_X6 : ∀ w ∈ u_ws RX6 TX6 25, w ∈ hp_ws := by decide +kernel
theorem fl_X0_13_1 : hp_FL RX0 13 1 0 := ⟨"KeeperTree$Journal", RX0, TX0, 3, rfl, by decide, by decide, by decide, (hp_in1 38 (by decide +kernel) rfl), Or.inl rfl, iw_X0, tyX0_ok, nmX0⟩
theorem fl_X0_16_1 : hp_FL RX0 16 1 1 := ⟨"KeeperTree$Journal", RX0, TX0, 3, rfl, by decide, by decide, by decide, (hp_in1 39 (by decide +kernel) rfl), Or.inl rfl, iw_X0, tyX0_ok, nmX0⟩
theorem fl_X4_24_1 : hp_FL RX4 24 1 1 := ⟨"KeeperTree$Journal", RX0, TX0, 3, rfl, by decide, by decide, by decide, (hp_in1 40 (by decide +kernel) rfl), Or.inl rfl, iw_X0, tyX0_ok, nmX0⟩
theorem fl_X5_127_1 : hp_FL RX5 127 1 1 := ⟨"KeeperTree$Journal", RX0, TX0, 3, rfl, by decide, by decide, by decide, (hp_in1 41 (by decide +kernel) rfl), Or.inl rfl, iw_X0, tyX0_ok, nmX0⟩
theorem fl_X0_20_1 : hp_FL RX0 20 1 2 := ⟨"KeeperTree$Journal", RX0, TX0, 3, rfl, by decide, by decide, by decide, (hp_in1 42 (by decide +kernel) rfl), Or.inl rfl, iw_X0, tyX0_ok, nmX0⟩
theorem fl_X5_175_1 : hp_FL RX5 175 1 2 := ⟨"KeeperTree$Journal", RX0, TX0, 3, rfl, by decide, by decide, by decide, (hp_in1 43 (by decide +kernel) rfl), Or.inl rfl, iw_X0, tyX0_ok, nmX0⟩
theorem fl_Jx4a65c_9_0 : hp_FL RJx4a65c 9 0 1 := ⟨"java/util/ArrayList", RJx4a65c, TJx4a65c, 3, rfl, by decide, by decide, by decide, (hp_in1 77 (by decide +kernel) rfl), Or.inl rfl, iw_Jx4a65c, tyJx4a65c_ok, nmJx4a65c⟩
theorem fl_Jx4a65c_48_0 : hp_FL RJx4a65c 48 0 2 := ⟨"java/util/ArrayList", RJx4a65c, TJx4a65c, 3, rfl, by decide, by decide, by decide, (hp_in1 78 (by decide +kernel) rfl), Or.inl rfl, iw_Jx4a65c, tyJx4a65c_ok, nmJx4a65c⟩
theorem fl_Jxc12de_7_0 : hp_FL RJxc12de 7 0 0 := ⟨"java/util/AbstractList", RJx4a65c, TJx4a65c, 3, rfl, by decide, by decide, by decide, (hp_in1 79 (by decide +kernel) rfl), Or.inl rfl, iw_Jx4a65c, tyJx4a65c_ok, nmJx4a65c⟩
theorem fl_Jx4a65c_63_0 : hp_FL RJx4a65c 63 0 0 := ⟨"java/util/ArrayList", RJx4a65c, TJx4a65c, 3, rfl, by decide, by decide, by decide, (hp_in1 80 (by decide +kernel) rfl), Or.inr (hp_in1 81 (by decide +kernel) rfl), iw_Jx4a65c, tyJx4a65c_ok, nmJx4a65c⟩
theorem fl_X3_9_3 : hp_FL RX3 9 3 0 := ⟨"KeeperTree$RestartTimes", RX3, TX3, 2, rfl, by decide, by decide, by decide, (hp_in1 95 (by decide +kernel) rfl), Or.inl rfl, iw_X3, tyX3_ok, nmX3⟩
theorem fl_X3_15_3 : hp_FL RX3 15 3 1 := ⟨"KeeperTree$RestartTimes", RX3, TX3, 2, rfl, by decide, by decide, by decide, (hp_in1 96 (by decide +kernel) rfl), Or.inl rfl, iw_X3, tyX3_ok, nmX3⟩
theorem fl_X1_14_2 : hp_FL RX1 14 2 5 := ⟨"KeeperTree$Keeper", RX1, TX1, 10, rfl, by decide, by decide, by decide, (hp_in1 102 (by decide +kernel) rfl), Or.inl rfl, iw_X1, tyX1_ok, nmX1⟩
theorem fl_X5_146_2 : hp_FL RX5 146 2 5 := ⟨"KeeperTree$Keeper", RX1, TX1, 10, rfl, by decide, by decide, by decide, (hp_in1 103 (by decide +kernel) rfl), Or.inl rfl, iw_X1, tyX1_ok, nmX1⟩
theorem fl_X1_23_2 : hp_FL RX1 23 2 6 := ⟨"KeeperTree$Keeper", RX1, TX1, 10, rfl, by decide, by decide, by decide, (hp_in1 104 (by decide +kernel) rfl), Or.inl rfl, iw_X1, tyX1_ok, nmX1⟩
theorem fl_X5_190_2 : hp_FL RX5 190 2 6 := ⟨"KeeperTree$Keeper", RX1, TX1, 10, rfl, by decide, by decide, by decide, (hp_in1 105 (by decide +kernel) rfl), Or.inl rfl, iw_X1, tyX1_ok, nmX1⟩
theorem fl_X1_27_2 : hp_FL RX1 27 2 7 := ⟨"KeeperTree$Keeper", RX1, TX1, 10, rfl, by decide, by decide, by decide, (hp_in1 106 (by decide +kernel) rfl), Or.inl rfl, iw_X1, tyX1_ok, nmX1⟩
theorem fl_X5_52_2 : hp_FL RX5 52 2 7 := ⟨"KeeperTree$Keeper", RX1, TX1, 10, rfl, by decide, by decide, by decide, (hp_in1 107 (by decide +kernel) rfl), Or.inl rfl, iw_X1, tyX1_ok, nmX1⟩
theorem fl_X1_31_2 : hp_FL RX1 31 2 8 := ⟨"KeeperTree$Keeper", RX1, TX1, 10, rfl, by decide, by decide, by decide, (hp_in1 108 (by decide +kernel) rfl), Or.inl rfl, iw_X1, tyX1_ok, nmX1⟩
theorem fl_X5_55_2 : hp_FL RX5 55 2 8 := ⟨"KeeperTree$Keeper", RX1, TX1, 10, rfl, by decide, by decide, by decide, (hp_in1 109 (by decide +kernel) rfl), Or.inl rfl, iw_X1, tyX1_ok, nmX1⟩
theorem fl_X1_34_2 : hp_FL RX1 34 2 9 := ⟨"KeeperTree$Keeper", RX1, TX1, 10, rfl, by decide, by decide, by decide, (hp_in1 110 (by decide +kernel) rfl), Or.inl rfl, iw_X1, tyX1_ok, nmX1⟩
theorem fl_X5_58_2 : hp_FL RX5 58 2 9 := ⟨"KeeperTree$Keeper", RX1, TX1, 10, rfl, by decide, by decide, by decide, (hp_in1 111 (by decide +kernel) rfl), Or.inl rfl, iw_X1, tyX1_ok, nmX1⟩
theorem fl_X2_15_2 : hp_FL RX2 15 2 0 := ⟨"KeeperTree$Node", RX1, TX1, 10, rfl, by decide, by decide, by decide, (hp_in1 112 (by decide +kernel) rfl), Or.inl rfl, iw_X1, tyX1_ok, nmX1⟩
theorem fl_X2_15_4 : hp_FL RX2 15 4 0 := ⟨"KeeperTree$Node", RX4, TX4, 9, rfl, by decide, by decide, by decide, (hp_in1 112 (by decide +kernel) rfl), Or.inl rfl, iw_X4, tyX4_ok, nmX4⟩
theorem fl_X1_55_2 : hp_FL RX1 55 2 0 := ⟨"KeeperTree$Keeper", RX1, TX1, 10, rfl, by decide, by decide, by decide, (hp_in1 113 (by decide +kernel) rfl), Or.inr (hp_in1 114 (by decide +kernel) rfl), iw_X1, tyX1_ok, nmX1⟩
theorem fl_X4_36_4 : hp_FL RX4 36 4 0 := ⟨"KeeperTree$Worker", RX4, TX4, 9, rfl, by decide, by decide, by decide, (hp_in1 115 (by decide +kernel) rfl), Or.inr (hp_in1 116 (by decide +kernel) rfl), iw_X4, tyX4_ok, nmX4⟩
theorem fl_X5_80_2 : hp_FL RX5 80 2 0 := ⟨"KeeperTree$Keeper", RX1, TX1, 10, rfl, by decide, by decide, by decide, (hp_in1 117 (by decide +kernel) rfl), Or.inr (hp_in1 114 (by decide +kernel) rfl), iw_X1, tyX1_ok, nmX1⟩
theorem fl_X5_93_4 : hp_FL RX5 93 4 0 := ⟨"KeeperTree$Worker", RX4, TX4, 9, rfl, by decide, by decide, by decide, (hp_in1 118 (by decide +kernel) rfl), Or.inr (hp_in1 116 (by decide +kernel) rfl), iw_X4, tyX4_ok, nmX4⟩
theorem fl_X1_101_2 : hp_FL RX1 101 2 0 := ⟨"KeeperTree$Node", RX1, TX1, 10, rfl, by decide, by decide, by decide, (hp_in1 119 (by decide +kernel) rfl), Or.inl rfl, iw_X1, tyX1_ok, nmX1⟩
theorem fl_X1_101_4 : hp_FL RX1 101 4 0 := ⟨"KeeperTree$Node", RX4, TX4, 9, rfl, by decide, by decide, by decide, (hp_in1 119 (by decide +kernel) rfl), Or.inl rfl, iw_X4, tyX4_ok, nmX4⟩
theorem fl_X5_167_2 : hp_FL RX5 167 2 0 := ⟨"KeeperTree$Node", RX1, TX1, 10, rfl, by decide, by decide, by decide, (hp_in1 120 (by decide +kernel) rfl), Or.inl rfl, iw_X1, tyX1_ok, nmX1⟩
theorem fl_X5_167_4 : hp_FL RX5 167 4 0 := ⟨"KeeperTree$Node", RX4, TX4, 9, rfl, by decide, by decide, by decide, (hp_in1 120 (by decide +kernel) rfl), Or.inl rfl, iw_X4, tyX4_ok, nmX4⟩
theorem fl_X2_18_2 : hp_FL RX2 18 2 1 := ⟨"KeeperTree$Node", RX1, TX1, 10, rfl, by decide, by decide, by decide, (hp_in1 121 (by decide +kernel) rfl), Or.inl rfl, iw_X1, tyX1_ok, nmX1⟩
theorem fl_X2_18_4 : hp_FL RX2 18 4 1 := ⟨"KeeperTree$Node", RX4, TX4, 9, rfl, by decide, by decide, by decide, (hp_in1 121 (by decide +kernel) rfl), Or.inl rfl, iw_X4, tyX4_ok, nmX4⟩
theorem fl_X5_133_2 : hp_FL RX5 133 2 1 := ⟨"KeeperTree$Node", RX1, TX1, 10, rfl, by decide, by decide, by decide, (hp_in1 122 (by decide +kernel) rfl), Or.inl rfl, iw_X1, tyX1_ok, nmX1⟩
theorem fl_X5_133_4 : hp_FL RX5 133 4 1 := ⟨"KeeperTree$Node", RX4, TX4, 9, rfl, by decide, by decide, by decide, (hp_in1 122 (by decide +kernel) rfl), Or.inl rfl, iw_X4, tyX4_ok, nmX4⟩
theorem fl_X2_22_2 : hp_FL RX2 22 2 2 := ⟨"KeeperTree$Keeper", RX1, TX1, 10, rfl, by decide, by decide, by decide, (hp_in1 123 (by decide +kernel) rfl), Or.inr (hp_in1 124 (by decide +kernel) rfl), iw_X1, tyX1_ok, nmX1⟩
theorem fl_X2_27_2 : hp_FL RX2 27 2 2 := ⟨"KeeperTree$Node", RX1, TX1, 10, rfl, by decide, by decide, by decide, (hp_in1 125 (by decide +kernel) rfl), Or.inl rfl, iw_X1, tyX1_ok, nmX1⟩
theorem fl_X2_27_4 : hp_FL RX2 27 4 2 := ⟨"KeeperTree$Node", RX4, TX4, 9, rfl, by decide, by decide, by decide, (hp_in1 125 (by decide +kernel) rfl), Or.inl rfl, iw_X4, tyX4_ok, nmX4⟩
theorem fl_X5_140_2 : hp_FL RX5 140 2 2 := ⟨"KeeperTree$Node", RX1, TX1, 10, rfl, by decide, by decide, by decide, (hp_in1 126 (by decide +kernel) rfl), Or.inl rfl, iw_X1, tyX1_ok, nmX1⟩
theorem fl_X5_140_4 : hp_FL RX5 140 4 2 := ⟨"KeeperTree$Node", RX4, TX4, 9, rfl, by decide, by decide, by decide, (hp_in1 126 (by decide +kernel) rfl), Or.inl rfl, iw_X4, tyX4_ok, nmX4⟩
theorem fl_X5_180_2 : hp_FL RX5 180 2 2 := ⟨"KeeperTree$Keeper", RX1, TX1, 10, rfl, by decide, by decide, by decide, (hp_in1 127 (by decide +kernel) rfl), Or.inr (hp_in1 124 (by decide +kernel) rfl), iw_X1, tyX1_ok, nmX1⟩
theorem fl_X2_28_2 : hp_FL RX2 28 2 3 := ⟨"KeeperTree$Node", RX1, TX1, 10, rfl, by decide, by decide, by decide, (hp_in1 128 (by decide +kernel) rfl), Or.inl rfl, iw_X1, tyX1_ok, nmX1⟩
theorem fl_X2_28_4 : hp_FL RX2 28 4 3 := ⟨"KeeperTree$Node", RX4, TX4, 9, rfl, by decide, by decide, by decide, (hp_in1 128 (by decide +kernel) rfl), Or.inl rfl, iw_X4, tyX4_ok, nmX4⟩
theorem fl_X1_87_2 : hp_FL RX1 87 2 3 := ⟨"KeeperTree$Node", RX1, TX1, 10, rfl, by decide, by decide, by decide, (hp_in1 129 (by decide +kernel) rfl), Or.inl rfl, iw_X1, tyX1_ok, nmX1⟩
theorem fl_X1_87_4 : hp_FL RX1 87 4 3 := ⟨"KeeperTree$Node", RX4, TX4, 9, rfl, by decide, by decide, by decide, (hp_in1 129 (by decide +kernel) rfl), Or.inl rfl, iw_X4, tyX4_ok, nmX4⟩
theorem fl_X5_143_2 : hp_FL RX5 143 2 3 := ⟨"KeeperTree$Node", RX1, TX1, 10, rfl, by decide, by decide, by decide, (hp_in1 130 (by decide +kernel) rfl), Or.inl rfl, iw_X1, tyX1_ok, nmX1⟩
theorem fl_X5_143_4 : hp_FL RX5 143 4 3 := ⟨"KeeperTree$Node", RX4, TX4, 9, rfl, by decide, by decide, by decide, (hp_in1 130 (by decide +kernel) rfl), Or.inl rfl, iw_X4, tyX4_ok, nmX4⟩
theorem fl_X2_9_2 : hp_FL RX2 9 2 4 := ⟨"KeeperTree$Node", RX1, TX1, 10, rfl, by decide, by decide, by decide, (hp_in1 131 (by decide +kernel) rfl), Or.inl rfl, iw_X1, tyX1_ok, nmX1⟩
theorem fl_X2_9_4 : hp_FL RX2 9 4 4 := ⟨"KeeperTree$Node", RX4, TX4, 9, rfl, by decide, by decide, by decide, (hp_in1 131 (by decide +kernel) rfl), Or.inl rfl, iw_X4, tyX4_ok, nmX4⟩
theorem fl_X5_45_2 : hp_FL RX5 45 2 4 := ⟨"KeeperTree$Keeper", RX1, TX1, 10, rfl, by decide, by decide, by decide, (hp_in1 132 (by decide +kernel) rfl), Or.inr (hp_in1 133 (by decide +kernel) rfl), iw_X1, tyX1_ok, nmX1⟩
theorem fl_X1_52_2 : hp_FL RX1 52 2 4 := ⟨"KeeperTree$Keeper", RX1, TX1, 10, rfl, by decide, by decide, by decide, (hp_in1 134 (by decide +kernel) rfl), Or.inr (hp_in1 133 (by decide +kernel) rfl), iw_X1, tyX1_ok, nmX1⟩
theorem fl_X4_33_4 : hp_FL RX4 33 4 4 := ⟨"KeeperTree$Worker", RX4, TX4, 9, rfl, by decide, by decide, by decide, (hp_in1 135 (by decide +kernel) rfl), Or.inr (hp_in1 136 (by decide +kernel) rfl), iw_X4, tyX4_ok, nmX4⟩
theorem fl_X1_72_2 : hp_FL RX1 72 2 4 := ⟨"KeeperTree$Node", RX1, TX1, 10, rfl, by decide, by decide, by decide, (hp_in1 137 (by decide +kernel) rfl), Or.inl rfl, iw_X1, tyX1_ok, nmX1⟩
theorem fl_X1_72_4 : hp_FL RX1 72 4 4 := ⟨"KeeperTree$Node", RX4, TX4, 9, rfl, by decide, by decide, by decide, (hp_in1 137 (by decide +kernel) rfl), Or.inl rfl, iw_X4, tyX4_ok, nmX4⟩
theorem fl_X5_101_4 : hp_FL RX5 101 4 4 := ⟨"KeeperTree$Worker", RX4, TX4, 9, rfl, by decide, by decide, by decide, (hp_in1 138 (by decide +kernel) rfl), Or.inr (hp_in1 136 (by decide +kernel) rfl), iw_X4, tyX4_ok, nmX4⟩
theorem fl_X5_113_2 : hp_FL RX5 113 2 4 := ⟨"KeeperTree$Node", RX1, TX1, 10, rfl, by decide, by decide, by decide, (hp_in1 139 (by decide +kernel) rfl), Or.inl rfl, iw_X1, tyX1_ok, nmX1⟩
theorem fl_X5_113_4 : hp_FL RX5 113 4 4 := ⟨"KeeperTree$Node", RX4, TX4, 9, rfl, by decide, by decide, by decide, (hp_in1 139 (by decide +kernel) rfl), Or.inl rfl, iw_X4, tyX4_ok, nmX4⟩
theorem fl_X5_10_5 : hp_FL RX5 10 5 0 := ⟨"KeeperTree", RX5, TX5, 6, rfl, by decide, by decide, by decide, (hp_in1 161 (by decide +kernel) rfl), Or.inl rfl, iw_X5, tyX5_ok, nmX5⟩
theorem fl_X5_18_5 : hp_FL RX5 18 5 1 := ⟨"KeeperTree", RX5, TX5, 6, rfl, by decide, by decide, by decide, (hp_in1 162 (by decide +kernel) rfl), Or.inl rfl, iw_X5, tyX5_ok, nmX5⟩
theorem fl_X5_27_5 : hp_FL RX5 27 5 2 := ⟨"KeeperTree", RX5, TX5, 6, rfl, by decide, by decide, by decide, (hp_in1 163 (by decide +kernel) rfl), Or.inl rfl, iw_X5, tyX5_ok, nmX5⟩
theorem fl_X5_31_5 : hp_FL RX5 31 5 3 := ⟨"KeeperTree", RX5, TX5, 6, rfl, by decide, by decide, by decide, (hp_in1 164 (by decide +kernel) rfl), Or.inl rfl, iw_X5, tyX5_ok, nmX5⟩
theorem fl_X5_35_5 : hp_FL RX5 35 5 4 := ⟨"KeeperTree", RX5, TX5, 6, rfl, by decide, by decide, by decide, (hp_in1 165 (by decide +kernel) rfl), Or.inl rfl, iw_X5, tyX5_ok, nmX5⟩
theorem fl_X5_38_5 : hp_FL RX5 38 5 5 := ⟨"KeeperTree", RX5, TX5, 6, rfl, by decide, by decide, by decide, (hp_in1 166 (by decide +kernel) rfl), Or.inl rfl, iw_X5, tyX5_ok, nmX5⟩
theorem fl_X4_9_4 : hp_FL RX4 9 4 5 := ⟨"KeeperTree$Worker", RX4, TX4, 9, rfl, by decide, by decide, by decide, (hp_in2 198 (by decide +kernel) rfl), Or.inl rfl, iw_X4, tyX4_ok, nmX4⟩
theorem fl_X4_15_4 : hp_FL RX4 15 4 6 := ⟨"KeeperTree$Worker", RX4, TX4, 9, rfl, by decide, by decide, by decide, (hp_in2 199 (by decide +kernel) rfl), Or.inl rfl, iw_X4, tyX4_ok, nmX4⟩
theorem fl_X4_18_4 : hp_FL RX4 18 4 7 := ⟨"KeeperTree$Worker", RX4, TX4, 9, rfl, by decide, by decide, by decide, (hp_in2 200 (by decide +kernel) rfl), Or.inl rfl, iw_X4, tyX4_ok, nmX4⟩
theorem fl_X4_21_4 : hp_FL RX4 21 4 8 := ⟨"KeeperTree$Worker", RX4, TX4, 9, rfl, by decide, by decide, by decide, (hp_in2 201 (by decide +kernel) rfl), Or.inl rfl, iw_X4, tyX4_ok, nmX4⟩
theorem fl_X5_98_4 : hp_FL RX5 98 4 8 := ⟨"KeeperTree$Worker", RX4, TX4, 9, rfl, by decide, by decide, by decide, (hp_in2 202 (by decide +kernel) rfl), Or.inl rfl, iw_X4, tyX4_ok, nmX4⟩
theorem fl_X6_72_6 : hp_FL RX6 72 6 0 := ⟨"KeeperTreeModel", RX6, TX6, 25, rfl, by decide, by decide, by decide, (hp_in3 173 (by decide +kernel) rfl), Or.inl rfl, iw_X6, tyX6_ok, nmX6⟩
theorem fl_X6_68_6 : hp_FL RX6 68 6 1 := ⟨"KeeperTreeModel", RX6, TX6, 25, rfl, by decide, by decide, by decide, (hp_in3 174 (by decide +kernel) rfl), Or.inl rfl, iw_X6, tyX6_ok, nmX6⟩
theorem fl_X6_7_6 : hp_FL RX6 7 6 2 := ⟨"KeeperTreeModel", RX6, TX6, 25, rfl, by decide, by decide, by decide, (hp_in3 175 (by decide +kernel) rfl), Or.inl rfl, iw_X6, tyX6_ok, nmX6⟩
theorem fl_X6_13_6 : hp_FL RX6 13 6 3 := ⟨"KeeperTreeModel", RX6, TX6, 25, rfl, by decide, by decide, by decide, (hp_in3 176 (by decide +kernel) rfl), Or.inl rfl, iw_X6, tyX6_ok, nmX6⟩
theorem fl_X6_17_6 : hp_FL RX6 17 6 4 := ⟨"KeeperTreeModel", RX6, TX6, 25, rfl, by decide, by decide, by decide, (hp_in3 177 (by decide +kernel) rfl), Or.inl rfl, iw_X6, tyX6_ok, nmX6⟩
theorem fl_X6_20_6 : hp_FL RX6 20 6 5 := ⟨"KeeperTreeModel", RX6, TX6, 25, rfl, by decide, by decide, by decide, (hp_in3 178 (by decide +kernel) rfl), Or.inl rfl, iw_X6, tyX6_ok, nmX6⟩
theorem fl_X6_23_6 : hp_FL RX6 23 6 6 := ⟨"KeeperTreeModel", RX6, TX6, 25, rfl, by decide, by decide, by decide, (hp_in3 179 (by decide +kernel) rfl), Or.inl rfl, iw_X6, tyX6_ok, nmX6⟩
theorem fl_X6_26_6 : hp_FL RX6 26 6 7 := ⟨"KeeperTreeModel", RX6, TX6, 25, rfl, by decide, by decide, by decide, (hp_in3 180 (by decide +kernel) rfl), Or.inl rfl, iw_X6, tyX6_ok, nmX6⟩
theorem fl_X6_29_6 : hp_FL RX6 29 6 8 := ⟨"KeeperTreeModel", RX6, TX6, 25, rfl, by decide, by decide, by decide, (hp_in3 181 (by decide +kernel) rfl), Or.inl rfl, iw_X6, tyX6_ok, nmX6⟩
theorem fl_X6_32_6 : hp_FL RX6 32 6 9 := ⟨"KeeperTreeModel", RX6, TX6, 25, rfl, by decide, by decide, by decide, (hp_in3 182 (by decide +kernel) rfl), Or.inl rfl, iw_X6, tyX6_ok, nmX6⟩
theorem fl_X6_35_6 : hp_FL RX6 35 6 10 := ⟨"KeeperTreeModel", RX6, TX6, 25, rfl, by decide, by decide, by decide, (hp_in3 183 (by decide +kernel) rfl), Or.inl rfl, iw_X6, tyX6_ok, nmX6⟩
theorem fl_X6_38_6 : hp_FL RX6 38 6 11 := ⟨"KeeperTreeModel", RX6, TX6, 25, rfl, by decide, by decide, by decide, (hp_in3 184 (by decide +kernel) rfl), Or.inl rfl, iw_X6, tyX6_ok, nmX6⟩
theorem fl_X6_41_6 : hp_FL RX6 41 6 12 := ⟨"KeeperTreeModel", RX6, TX6, 25, rfl, by decide, by decide, by decide, (hp_in3 185 (by decide +kernel) rfl), Or.inl rfl, iw_X6, tyX6_ok, nmX6⟩
theorem fl_X6_44_6 : hp_FL RX6 44 6 13 := ⟨"KeeperTreeModel", RX6, TX6, 25, rfl, by decide, by decide, by decide, (hp_in3 186 (by decide +kernel) rfl), Or.inl rfl, iw_X6, tyX6_ok, nmX6⟩
theorem fl_X6_47_6 : hp_FL RX6 47 6 14 := ⟨"KeeperTreeModel", RX6, TX6, 25, rfl, by decide, by decide, by decide, (hp_in3 187 (by decide +kernel) rfl), Or.inl rfl, iw_X6, tyX6_ok, nmX6⟩
theorem fl_X6_50_6 : hp_FL RX6 50 6 15 := ⟨"KeeperTreeModel", RX6, TX6, 25, rfl, by decide, by decide, by decide, (hp_in3 188 (by decide +kernel) rfl), Or.inl rfl, iw_X6, tyX6_ok, nmX6⟩
theorem fl_X6_53_6 : hp_FL RX6 53 6 16 := ⟨"KeeperTreeModel", RX6, TX6, 25, rfl, by decide, by decide, by decide, (hp_in3 189 (by decide +kernel) rfl), Or.inl rfl, iw_X6, tyX6_ok, nmX6⟩
theorem fl_X6_56_6 : hp_FL RX6 56 6 17 := ⟨"KeeperTreeModel", RX6, TX6, 25, rfl, by decide, by decide, by decide, (hp_in3 190 (by decide +kernel) rfl), Or.inl rfl, iw_X6, tyX6_ok, nmX6⟩
theorem fl_X6_82_6 : hp_FL RX6 82 6 18 := ⟨"KeeperTreeModel", RX6, TX6, 25, rfl, by decide, by decide, by decide, (hp_in3 191 (by decide +kernel) rfl), Or.inl rfl, iw_X6, tyX6_ok, nmX6⟩
theorem fl_X6_79_6 : hp_FL RX6 79 6 19 := ⟨"KeeperTreeModel", RX6, TX6, 25, rfl, by decide, by decide, by decide, (hp_in3 192 (by decide +kernel) rfl), Or.inl rfl, iw_X6, tyX6_ok, nmX6⟩
theorem fl_X6_59_6 : hp_FL RX6 59 6 20 := ⟨"KeeperTreeModel", RX6, TX6, 25, rfl, by decide, by decide, by decide, (hp_in3 193 (by decide +kernel) rfl), Or.inl rfl, iw_X6, tyX6_ok, nmX6⟩
theorem fl_X6_100_6 : hp_FL RX6 100 6 21 := ⟨"KeeperTreeModel", RX6, TX6, 25, rfl, by decide, by decide, by decide, (hp_in3 194 (by decide +kernel) rfl), Or.inl rfl, iw_X6, tyX6_ok, nmX6⟩
theorem fl_X6_112_6 : hp_FL RX6 112 6 22 := ⟨"KeeperTreeModel", RX6, TX6, 25, rfl, by decide, by decide, by decide, (hp_in3 195 (by decide +kernel) rfl), Or.inl rfl, iw_X6, tyX6_ok, nmX6⟩
theorem fl_X6_62_6 : hp_FL RX6 62 6 23 := ⟨"KeeperTreeModel", RX6, TX6, 25, rfl, by decide, by decide, by decide, (hp_in3 196 (by decide +kernel) rfl), Or.inl rfl, iw_X6, tyX6_ok, nmX6⟩
theorem fl_X6_65_6 : hp_FL RX6 65 6 24 := ⟨"KeeperTreeModel", RX6, TX6, 25, rfl, by decide, by decide, by decide, (hp_in3 197 (by decide +kernel) rfl), Or.inl rfl, iw_X6, tyX6_ok, nmX6⟩
/-- entry idx of own's pool names class ci, of N slots -/
def hp_NL (own : String) (idx ci N : Nat) : Prop := ∃ (C : String) (T : u_T), vwCl[ci]? = some (C, T, N) ∧ N ≤ 32 ∧ ci < 10 ∧ Cond.classLink own idx C ∈ hp_ws ∧ Cond.instantiable C N ∈ hp_ws ∧ Cond.initialized C ∈ hp_ws ∧ (∀ w ∈ u_ws C T N, w ∈ hp_ws) ∧ (∀ j, j < N → parseFieldDescriptor (T j).2.2.1 = some (hp_ty ci j))
theorem nl_L_8 : hp_NL RL 8 5 6 := ⟨RX5, TX5, rfl, by decide, by decide, (hp_in1 22 (by decide +kernel) rfl), (hp_in1 23 (by decide +kernel) rfl), (hp_in1 1 (by decide +kernel) rfl), iw_X5, tyX5_ok⟩
theorem nl_X5_7 : hp_NL RX5 7 1 3 := ⟨RX0, TX0, rfl, by decide, by decide, (hp_in1 30 (by decide +kernel) rfl), (hp_in1 31 (by decide +kernel) rfl), (hp_in1 2 (by decide +kernel) rfl), iw_X0, tyX0_ok⟩
theorem nl_X5_22 : hp_NL RX5 22 2 10 := ⟨RX1, TX1, rfl, by decide, by decide, (hp_in1 54 (by decide +kernel) rfl), (hp_in1 55 (by decide +kernel) rfl), (hp_in1 4 (by decide +kernel) rfl), iw_X1, tyX1_ok⟩
theorem nl_X1_9 : hp_NL RX1 9 0 3 := ⟨RJx4a65c, TJx4a65c, rfl, by decide, by decide, (hp_in1 63 (by decide +kernel) rfl), (hp_in1 64 (by decide +kernel) rfl), (hp_in1 7 (by decide +kernel) rfl), iw_Jx4a65c, tyJx4a65c_ok⟩
theorem nl_X1_20 : hp_NL RX1 20 3 2 := ⟨RX3, TX3, rfl, by decide, by decide, (hp_in1 89 (by decide +kernel) rfl), (hp_in1 90 (by decide +kernel) rfl), (hp_in1 8 (by decide +kernel) rfl), iw_X3, tyX3_ok⟩
theorem nl_X5_83 : hp_NL RX5 83 4 9 := ⟨RX4, TX4, rfl, by decide, by decide, (hp_in2 192 (by decide +kernel) rfl), (hp_in2 193 (by decide +kernel) rfl), (hp_in1 21 (by decide +kernel) rfl), iw_X4, tyX4_ok⟩
theorem nl_L_71 : hp_NL RL 71 6 25 := ⟨RX6, TX6, rfl, by decide, by decide, (hp_in3 167 (by decide +kernel) rfl), (hp_in3 168 (by decide +kernel) rfl), (hp_in1 9 (by decide +kernel) rfl), iw_X6, tyX6_ok⟩
