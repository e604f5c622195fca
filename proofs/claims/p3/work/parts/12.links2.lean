theorem mx_L_74 : hp_MLX RL 74 yL_first cL_first 5 (some .int) [(0, 7, 10, 13), (0, 7, 14, 15)] 4 := ⟨(hp_in1 182 rfl rfl), (hp_in1 0 rfl rfl), (hp_in1 180 rfl rfl), (hp_in1 181 rfl rfl), ⟨by decide, by decide, by decide +kernel⟩, by decide⟩
theorem mx_L_80 : hp_MLX RL 80 yL_keeper cL_keeper 8 (some .int) [(0, 16, 19, 13), (0, 16, 23, 15)] 7 := ⟨(hp_in2 37 rfl rfl), (hp_in1 0 rfl rfl), (hp_in2 35 rfl rfl), (hp_in2 36 rfl rfl), ⟨by decide, by decide, by decide +kernel⟩, by decide⟩
theorem mx_L_88 : hp_MLX RL 88 yL_worker cL_worker 9 (some .int) [(0, 18, 21, 13), (0, 18, 25, 15)] 8 := ⟨(hp_in2 187 rfl rfl), (hp_in1 0 rfl rfl), (hp_in2 185 rfl rfl), (hp_in2 186 rfl rfl), ⟨by decide, by decide, by decide +kernel⟩, by decide⟩
theorem mx_L_92 : hp_MLX RL 92 yL_failing cL_failing 5 (some .int) [(0, 10, 13, 13)] 4 := ⟨(hp_in3 6 rfl rfl), (hp_in1 0 rfl rfl), (hp_in3 4 rfl rfl), (hp_in3 5 rfl rfl), ⟨by decide, by decide, by decide +kernel⟩, by decide⟩
theorem mx_L_96 : hp_MLX RL 96 yL_begin cL_begin 3 (some .int) [(0, 15, 18, 15)] 2 := ⟨(hp_in3 17 rfl rfl), (hp_in1 0 rfl rfl), (hp_in3 15 rfl rfl), (hp_in3 16 rfl rfl), ⟨by decide, by decide, by decide +kernel⟩, by decide⟩
theorem mx_L_100 : hp_MLX RL 100 yL_ends cL_ends 4 (some .int) [(0, 6, 9, 13), (0, 6, 12, 15)] 3 := ⟨(hp_in3 24 rfl rfl), (hp_in1 0 rfl rfl), (hp_in3 22 rfl rfl), (hp_in3 23 rfl rfl), ⟨by decide, by decide, by decide +kernel⟩, by decide⟩
theorem mx_L_104 : hp_MLX RL 104 yL_kill cL_kill 4 (some .int) [(0, 9, 12, 13), (0, 9, 15, 15)] 3 := ⟨(hp_in3 75 rfl rfl), (hp_in1 0 rfl rfl), (hp_in3 73 rfl rfl), (hp_in3 74 rfl rfl), ⟨by decide, by decide, by decide +kernel⟩, by decide⟩
theorem mx_L_108 : hp_MLX RL 108 yL_stop cL_stop 3 (some .int) [(0, 5, 8, 13), (0, 5, 11, 15)] 2 := ⟨(hp_in3 92 rfl rfl), (hp_in1 0 rfl rfl), (hp_in3 90 rfl rfl), (hp_in3 91 rfl rfl), ⟨by decide, by decide, by decide +kernel⟩, by decide⟩
theorem mx_L_112 : hp_MLX RL 112 yL_again cL_again 4 (some .int) [(0, 16, 19, 13), (0, 16, 22, 15)] 3 := ⟨(hp_in3 103 rfl rfl), (hp_in1 0 rfl rfl), (hp_in3 101 rfl rfl), (hp_in3 102 rfl rfl), ⟨by decide, by decide, by decide +kernel⟩, by decide⟩
theorem mx_L_115 : hp_MLX RL 115 yL_remove cL_remove 4 (some .int) [(0, 9, 12, 13), (0, 9, 15, 15)] 3 := ⟨(hp_in3 110 rfl rfl), (hp_in1 0 rfl rfl), (hp_in3 108 rfl rfl), (hp_in3 109 rfl rfl), ⟨by decide, by decide, by decide +kernel⟩, by decide⟩
theorem mx_L_118 : hp_MLX RL 118 yL_pass cL_pass 4 (some .int) [(0, 9, 12, 13)] 3 := ⟨(hp_in3 117 rfl rfl), (hp_in1 0 rfl rfl), (hp_in3 115 rfl rfl), (hp_in3 116 rfl rfl), ⟨by decide, by decide, by decide +kernel⟩, by decide⟩
theorem mx_L_121 : hp_MLX RL 121 yL_state cL_state 4 (some .int) [(0, 9, 12, 13)] 3 := ⟨(hp_in3 124 rfl rfl), (hp_in1 0 rfl rfl), (hp_in3 122 rfl rfl), (hp_in3 123 rfl rfl), ⟨by decide, by decide, by decide +kernel⟩, by decide⟩
theorem mx_L_124 : hp_MLX RL 124 yL_about cL_about 5 (some .int) [(0, 10, 13, 13)] 4 := ⟨(hp_in3 131 rfl rfl), (hp_in1 0 rfl rfl), (hp_in3 129 rfl rfl), (hp_in3 130 rfl rfl), ⟨by decide, by decide, by decide +kernel⟩, by decide⟩
theorem mx_L_127 : hp_MLX RL 127 yL_child cL_child 5 (some .int) [(0, 10, 13, 13)] 4 := ⟨(hp_in3 139 rfl rfl), (hp_in1 0 rfl rfl), (hp_in3 137 rfl rfl), (hp_in3 138 rfl rfl), ⟨by decide, by decide, by decide +kernel⟩, by decide⟩
theorem mx_L_130 : hp_MLX RL 130 yL_event cL_event 5 (some .int) [(0, 10, 13, 13)] 4 := ⟨(hp_in3 147 rfl rfl), (hp_in1 0 rfl rfl), (hp_in3 145 rfl rfl), (hp_in3 146 rfl rfl), ⟨by decide, by decide, by decide +kernel⟩, by decide⟩
theorem mx_L_133 : hp_MLX RL 133 yL_total cL_total 4 (some .int) [(0, 9, 12, 13)] 3 := ⟨(hp_in3 158 rfl rfl), (hp_in1 0 rfl rfl), (hp_in3 156 rfl rfl), (hp_in3 157 rfl rfl), ⟨by decide, by decide, by decide +kernel⟩, by decide⟩
theorem cl_L_8 : Cond.classLink RL 8 "KeeperTree" ∈ hp_ws := (hp_in1 22 rfl rfl)
theorem cl_X5_7 : Cond.classLink RX5 7 "KeeperTree$Journal" ∈ hp_ws := (hp_in1 30 rfl rfl)
theorem cl_X0_11 : Cond.classLink RX0 11 "[[I" ∈ hp_ws := (hp_in1 36 rfl rfl)
theorem cl_X5_16 : Cond.classLink RX5 16 "KeeperTree$Node" ∈ hp_ws := (hp_in1 52 rfl rfl)
theorem cl_X5_22 : Cond.classLink RX5 22 "KeeperTree$Keeper" ∈ hp_ws := (hp_in1 54 rfl rfl)
theorem cl_X1_9 : Cond.classLink RX1 9 "java/util/ArrayList" ∈ hp_ws := (hp_in1 63 rfl rfl)
theorem gs_Jx4a65c_39 : Cond.fieldLink RJx4a65c 39 "java/util/ArrayList" "DEFAULTCAPACITY_EMPTY_ELEMENTDATA" "[Ljava/lang/Object;" ∈ hp_ws := (hp_in1 75 rfl rfl)
theorem cl_X1_20 : Cond.classLink RX1 20 "KeeperTree$RestartTimes" ∈ hp_ws := (hp_in1 89 rfl rfl)
theorem cl_L_13 : Cond.classLink RL 13 "java/lang/IllegalArgumentException" ∈ hp_ws := (hp_in1 183 rfl rfl)
theorem cl_L_15 : Cond.classLink RL 15 "java/lang/IllegalStateException" ∈ hp_ws := (hp_in1 184 rfl rfl)
theorem cl_X5_160 : Cond.classLink RX5 160 "java/lang/IllegalArgumentException" ∈ hp_ws := (hp_in1 195 rfl rfl)
theorem cl_X5_177 : Cond.classLink RX5 177 "java/lang/IllegalStateException" ∈ hp_ws := (hp_in2 20 rfl rfl)
theorem cl_J7_110 : Cond.classLink RJ7 110 "[Ljava/lang/Object;" ∈ hp_ws := (hp_in2 107 rfl rfl)
theorem cl_J7_2 : Cond.classLink RJ7 2 "java/lang/Object" ∈ hp_ws := (hp_in2 109 rfl rfl)
theorem cl_Jx4a65c_7 : Cond.classLink RJx4a65c 7 "java/lang/Object" ∈ hp_ws := (hp_in2 117 rfl rfl)
theorem cl_X1_4 : Cond.classLink RX1 4 "KeeperTree$Node" ∈ hp_ws := (hp_in2 149 rfl rfl)
theorem cl_X5_83 : Cond.classLink RX5 83 "KeeperTree$Worker" ∈ hp_ws := (hp_in2 192 rfl rfl)
theorem cl_L_71 : Cond.classLink RL 71 "KeeperTreeModel" ∈ hp_ws := (hp_in3 167 rfl rfl)
theorem ob_X5_1 : Cond.methodLink RX5 1 objectInit ∈ hp_ws := (hp_in1 27 rfl rfl)
theorem nk_X5_9 : Cond.methodLinkNest RX5 9 yX0_init "KeeperTree" ∈ hp_ow := by decide +kernel
theorem cw_X0_init : Cond.code yX0_init cX0_init 1 none ∈ hp_ws := (hp_in1 34 rfl rfl)
theorem in_X0_init : Cond.initialized yX0_init.cls ∈ hp_ws := (hp_in1 2 rfl rfl)
theorem im_X0_init : Cond.instanceMethod yX0_init ∈ hp_ws := (hp_in1 33 rfl rfl)
theorem ob_X0_3 : Cond.methodLink RX0 3 objectInit ∈ hp_ws := (hp_in1 35 rfl rfl)
theorem ac_int : Cond.arrayClass .int ∈ hp_ws := (hp_in1 51 rfl rfl)
theorem ob_X2_3 : Cond.methodLink RX2 3 objectInit ∈ hp_ws := (hp_in1 62 rfl rfl)
theorem ob_Jxa1e45_1 : Cond.methodLink RJxa1e45 1 objectInit ∈ hp_ws := (hp_in1 74 rfl rfl)
theorem nk_X1_22 : Cond.methodLinkNest RX1 22 yX3_init "KeeperTree" ∈ hp_ow := by decide +kernel
theorem cw_X3_init : Cond.code yX3_init cX3_init 1 none ∈ hp_ws := (hp_in1 93 rfl rfl)
theorem in_X3_init : Cond.initialized yX3_init.cls ∈ hp_ws := (hp_in1 8 rfl rfl)
theorem im_X3_init : Cond.instanceMethod yX3_init ∈ hp_ws := (hp_in1 92 rfl rfl)
theorem ob_X3_3 : Cond.methodLink RX3 3 objectInit ∈ hp_ws := (hp_in1 94 rfl rfl)
theorem ob_X6_1 : Cond.methodLink RX6 1 objectInit ∈ hp_ws := (hp_in3 172 rfl rfl)
theorem ac_boolean : Cond.arrayClass .boolean ∈ hp_ws := (hp_in4 9 rfl rfl)
theorem ac_long : Cond.arrayClass .long ∈ hp_ws := (hp_in4 140 rfl rfl)
theorem mx_J8_194 : hp_MX RJ8 194 := ⟨(hp_in2 81 rfl rfl), (hp_in2 82 rfl rfl), (hp_in1 16 rfl rfl), (hp_in2 83 rfl rfl)⟩
theorem mx_Jx4a65c_79 : hp_MX RJx4a65c 79 := ⟨(hp_in2 116 rfl rfl), (hp_in2 82 rfl rfl), (hp_in1 16 rfl rfl), (hp_in2 83 rfl rfl)⟩
theorem mx_X1_106 : hp_MX RX1 106 := ⟨(hp_in2 130 rfl rfl), (hp_in2 82 rfl rfl), (hp_in1 16 rfl rfl), (hp_in2 83 rfl rfl)⟩
theorem ul_X1_112_X1 : hp_UL RX1 112 ⟨"KeeperTree$Node", "rise", "(LKeeperTree$Journal;)Z"⟩ "KeeperTree$Node" "KeeperTree$Keeper" yX1_rise cX1_rise 3 (some .boolean) 1 := ⟨(hp_in2 121 rfl rfl), (hp_in2 150 rfl rfl), (hp_in2 152 rfl rfl), (hp_in2 153 rfl rfl), (hp_in2 119 rfl rfl), (hp_in1 4 rfl rfl), by decide +kernel, ⟨by decide, by decide, by decide +kernel⟩, by decide⟩
theorem ul_X1_112_X4 : hp_UL RX1 112 ⟨"KeeperTree$Node", "rise", "(LKeeperTree$Journal;)Z"⟩ "KeeperTree$Node" "KeeperTree$Worker" yX4_rise cX4_rise 3 (some .boolean) 1 := ⟨(hp_in2 156 rfl rfl), (hp_in2 150 rfl rfl), (hp_in2 152 rfl rfl), (hp_in2 154 rfl rfl), (hp_in2 155 rfl rfl), (hp_in1 21 rfl rfl), by decide +kernel, ⟨by decide, by decide, by decide +kernel⟩, by decide⟩
theorem ul_X4_29_X4 : hp_UL RX4 29 ⟨"KeeperTree$Worker", "settle", "(ZLKeeperTree$Journal;)Z"⟩ "KeeperTree$Node" "KeeperTree$Worker" yX2_settle cX2_settle 3 (some .boolean) 2 := ⟨(hp_in2 162 rfl rfl), (hp_in2 157 rfl rfl), (hp_in2 158 rfl rfl), (hp_in2 160 rfl rfl), (hp_in2 161 rfl rfl), (hp_in1 3 rfl rfl), by decide +kernel, ⟨by decide, by decide, by decide +kernel⟩, by decide⟩
theorem ul_X1_84_X1 : hp_UL RX1 84 ⟨"KeeperTree$Node", "fall", "(LKeeperTree$Journal;)V"⟩ "KeeperTree$Node" "KeeperTree$Keeper" yX1_fall cX1_fall 2 none 1 := ⟨(hp_in2 176 rfl rfl), (hp_in2 171 rfl rfl), (hp_in2 173 rfl rfl), (hp_in2 174 rfl rfl), (hp_in2 175 rfl rfl), (hp_in1 4 rfl rfl), by decide +kernel, ⟨by decide, by decide, by decide +kernel⟩, by decide⟩
theorem ul_X1_84_X4 : hp_UL RX1 84 ⟨"KeeperTree$Node", "fall", "(LKeeperTree$Journal;)V"⟩ "KeeperTree$Node" "KeeperTree$Worker" yX4_fall cX4_fall 3 none 1 := ⟨(hp_in2 180 rfl rfl), (hp_in2 171 rfl rfl), (hp_in2 173 rfl rfl), (hp_in2 178 rfl rfl), (hp_in2 179 rfl rfl), (hp_in1 21 rfl rfl), by decide +kernel, ⟨by decide, by decide, by decide +kernel⟩, by decide⟩
theorem ul_X1_48_X1 : hp_UL RX1 48 ⟨"KeeperTree$Keeper", "settle", "(ZLKeeperTree$Journal;)Z"⟩ "KeeperTree$Node" "KeeperTree$Keeper" yX2_settle cX2_settle 3 (some .boolean) 2 := ⟨(hp_in2 162 rfl rfl), (hp_in2 182 rfl rfl), (hp_in2 183 rfl rfl), (hp_in2 184 rfl rfl), (hp_in2 161 rfl rfl), (hp_in1 3 rfl rfl), by decide +kernel, ⟨by decide, by decide, by decide +kernel⟩, by decide⟩
theorem ul_X1_77_X1 : hp_UL RX1 77 ⟨"KeeperTree$Node", "vanish", "()I"⟩ "KeeperTree$Node" "KeeperTree$Keeper" yX1_vanish cX1_vanish 3 (some .int) 0 := ⟨(hp_in3 0 rfl rfl), (hp_in2 235 rfl rfl), (hp_in2 237 rfl rfl), (hp_in2 238 rfl rfl), (hp_in2 239 rfl rfl), (hp_in1 4 rfl rfl), by decide +kernel, ⟨by decide, by decide, by decide +kernel⟩, by decide⟩
theorem ul_X1_77_X4 : hp_UL RX1 77 ⟨"KeeperTree$Node", "vanish", "()I"⟩ "KeeperTree$Node" "KeeperTree$Worker" yX4_vanish cX4_vanish 1 (some .int) 0 := ⟨(hp_in3 2 rfl rfl), (hp_in2 235 rfl rfl), (hp_in2 237 rfl rfl), (hp_in3 3 rfl rfl), (hp_in3 1 rfl rfl), (hp_in1 21 rfl rfl), by decide +kernel, ⟨by decide, by decide, by decide +kernel⟩, by decide⟩
theorem ul_X5_126_X1 : hp_UL RX5 126 ⟨"KeeperTree$Node", "rise", "(LKeeperTree$Journal;)Z"⟩ "KeeperTree$Node" "KeeperTree$Keeper" yX1_rise cX1_rise 3 (some .boolean) 1 := ⟨(hp_in2 121 rfl rfl), (hp_in3 61 rfl rfl), (hp_in2 152 rfl rfl), (hp_in2 153 rfl rfl), (hp_in2 119 rfl rfl), (hp_in1 4 rfl rfl), by decide +kernel, ⟨by decide, by decide, by decide +kernel⟩, by decide⟩
theorem ul_X5_126_X4 : hp_UL RX5 126 ⟨"KeeperTree$Node", "rise", "(LKeeperTree$Journal;)Z"⟩ "KeeperTree$Node" "KeeperTree$Worker" yX4_rise cX4_rise 3 (some .boolean) 1 := ⟨(hp_in2 156 rfl rfl), (hp_in3 61 rfl rfl), (hp_in2 152 rfl rfl), (hp_in2 154 rfl rfl), (hp_in2 155 rfl rfl), (hp_in1 21 rfl rfl), by decide +kernel, ⟨by decide, by decide, by decide +kernel⟩, by decide⟩
theorem ul_X5_114_X1 : hp_UL RX5 114 ⟨"KeeperTree$Node", "perish", "(LKeeperTree$Journal;)I"⟩ "KeeperTree$Node" "KeeperTree$Keeper" yX1_perish cX1_perish 5 (some .int) 1 := ⟨(hp_in3 85 rfl rfl), (hp_in3 80 rfl rfl), (hp_in3 82 rfl rfl), (hp_in3 83 rfl rfl), (hp_in3 84 rfl rfl), (hp_in1 4 rfl rfl), by decide +kernel, ⟨by decide, by decide, by decide +kernel⟩, by decide⟩
theorem ul_X5_114_X4 : hp_UL RX5 114 ⟨"KeeperTree$Node", "perish", "(LKeeperTree$Journal;)I"⟩ "KeeperTree$Node" "KeeperTree$Worker" yX4_perish cX4_perish 2 (some .int) 1 := ⟨(hp_in3 88 rfl rfl), (hp_in3 80 rfl rfl), (hp_in3 82 rfl rfl), (hp_in3 89 rfl rfl), (hp_in3 87 rfl rfl), (hp_in1 21 rfl rfl), by decide +kernel, ⟨by decide, by decide, by decide +kernel⟩, by decide⟩
theorem ul_X1_73_X1 : hp_UL RX1 73 ⟨"KeeperTree$Node", "perish", "(LKeeperTree$Journal;)I"⟩ "KeeperTree$Node" "KeeperTree$Keeper" yX1_perish cX1_perish 5 (some .int) 1 := ⟨(hp_in3 85 rfl rfl), (hp_in3 86 rfl rfl), (hp_in3 82 rfl rfl), (hp_in3 83 rfl rfl), (hp_in3 84 rfl rfl), (hp_in1 4 rfl rfl), by decide +kernel, ⟨by decide, by decide, by decide +kernel⟩, by decide⟩
theorem ul_X1_73_X4 : hp_UL RX1 73 ⟨"KeeperTree$Node", "perish", "(LKeeperTree$Journal;)I"⟩ "KeeperTree$Node" "KeeperTree$Worker" yX4_perish cX4_perish 2 (some .int) 1 := ⟨(hp_in3 88 rfl rfl), (hp_in3 86 rfl rfl), (hp_in3 82 rfl rfl), (hp_in3 89 rfl rfl), (hp_in3 87 rfl rfl), (hp_in1 21 rfl rfl), by decide +kernel, ⟨by decide, by decide, by decide +kernel⟩, by decide⟩
theorem ob_i : Cond.instanceMethod objectInit ∈ hp_ws := (hp_in1 28 rfl rfl)
theorem ob_c : Cond.code objectInit ⟨#[0xb1]⟩ 1 none ∈ hp_ws := (hp_in1 29 rfl rfl)
theorem tx_A : ∀ w ∈ (vx_at0 RX5 162 "java/lang/IllegalArgumentException" ["java/lang/RuntimeException", "java/lang/Exception"]).filter goodWord, w ∈ lw_tbl := by decide +kernel
theorem ty_A : ∀ w ∈ (vx_at0 RX5 162 "java/lang/IllegalArgumentException" ["java/lang/RuntimeException", "java/lang/Exception"]).filter (fun w => !goodWord w), w ∈ hp_ow ∧ w.onTables = true := by decide +kernel
theorem tz_A : ∀ w ∈ Cond.classLink RX5 160 "java/lang/IllegalArgumentException" :: Cond.initialized "java/lang/IllegalArgumentException" :: vx_at0 RX5 162 "java/lang/IllegalArgumentException" ["java/lang/RuntimeException", "java/lang/Exception"], vx_ot w = true := by decide +kernel
theorem tl_A : hp_TL RX5 160 162 "java/lang/IllegalArgumentException" := ⟨by decide +kernel, cl_X5_160, (hp_in1 13 rfl rfl), fun w hw => by
  by_cases g : goodWord w = true
  · exact Or.inl ⟨List.mem_filter.mpr ⟨tx_A w (List.mem_filter.mpr ⟨hw, g⟩), g⟩, g⟩
  · exact Or.inr (ty_A w (List.mem_filter.mpr ⟨hw, by cases e : goodWord w <;> simp_all⟩)), tz_A⟩
theorem tx_S : ∀ w ∈ (vx_at0 RX5 179 "java/lang/IllegalStateException" ["java/lang/RuntimeException", "java/lang/Exception"]).filter goodWord, w ∈ lw_tbl := by decide +kernel
theorem ty_S : ∀ w ∈ (vx_at0 RX5 179 "java/lang/IllegalStateException" ["java/lang/RuntimeException", "java/lang/Exception"]).filter (fun w => !goodWord w), w ∈ hp_ow ∧ w.onTables = true := by decide +kernel
theorem tz_S : ∀ w ∈ Cond.classLink RX5 177 "java/lang/IllegalStateException" :: Cond.initialized "java/lang/IllegalStateException" :: vx_at0 RX5 179 "java/lang/IllegalStateException" ["java/lang/RuntimeException", "java/lang/Exception"], vx_ot w = true := by decide +kernel
theorem tl_S : hp_TL RX5 177 179 "java/lang/IllegalStateException" := ⟨by decide +kernel, cl_X5_177, (hp_in1 14 rfl rfl), fun w hw => by
  by_cases g : goodWord w = true
  · exact Or.inl ⟨List.mem_filter.mpr ⟨tx_S w (List.mem_filter.mpr ⟨hw, g⟩), g⟩, g⟩
  · exact Or.inr (ty_S w (List.mem_filter.mpr ⟨hw, by cases e : goodWord w <;> simp_all⟩)), tz_S⟩
