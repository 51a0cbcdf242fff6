/-! WORDS AND DECODE ROWS of the law -/
theorem wml_L_23 : Cond.methodLink RL 23 Lib.Math.abs.name ∈ lw_big := b4_at 163 rfl rfl
theorem wc_X11_count : CWd yX11_count cX11_count 2 (some .int) 1 := ⟨b4_at 130 rfl rfl, wini_X11, by decide, by decide, by decide +kernel⟩
theorem wsel_X11_X11_count : Cond.selects RX11 yX11_count yX11_count ∈ lw_big := b4_at 129 rfl rfl
theorem wsl_11_X11_count : ∀ t ∈ ([11] : List Nat), t < 13 ∧ Cond.selects (RXX t) yX11_count yX11_count ∈ lw_big := fun t ht => by simp only [List.mem_cons, List.not_mem_nil, or_false] at ht; subst ht; exact ⟨by decide, wsel_X11_X11_count⟩
theorem wml_L_18 : Cond.methodLink RL 18 yX11_count ∈ lw_big := b4_at 127 rfl rfl
theorem wim_X11_count : Cond.instanceMethod yX11_count ∈ lw_big := b4_at 128 rfl rfl
theorem wml_L_7 : Cond.methodLink RL 7 Lib.Math.min.name ∈ lw_big := b4_at 143 rfl rfl
theorem wc_X11_feed : CWd yX11_feed cX11_feed 4 (some .int) 2 := ⟨b4_at 147 rfl rfl, wini_X11, by decide, by decide, by decide +kernel⟩
theorem wsel_X11_X11_feed : Cond.selects RX11 yX11_feed yX11_feed ∈ lw_big := b4_at 146 rfl rfl
theorem wsl_11_X11_feed : ∀ t ∈ ([11] : List Nat), t < 13 ∧ Cond.selects (RXX t) yX11_feed yX11_feed ∈ lw_big := fun t ht => by simp only [List.mem_cons, List.not_mem_nil, or_false] at ht; subst ht; exact ⟨by decide, wsel_X11_X11_feed⟩
theorem wml_L_13 : Cond.methodLink RL 13 yX11_feed ∈ lw_big := b4_at 144 rfl rfl
theorem wim_X11_feed : Cond.instanceMethod yX11_feed ∈ lw_big := b4_at 145 rfl rfl
theorem wk_RL_22 : Cond.constant RL 22 (16777215) ∈ lw_big := b4_at 159 rfl rfl
theorem wini_L : Cond.initialized RL ∈ lw_big := b1_at 0 rfl rfl
theorem wc_L_cell : CWd yL_cell cL_cell 2 (some .int) 2 := ⟨b4_at 158 rfl rfl, wini_L, by decide, by decide, by decide +kernel⟩
theorem wcl_L_14 : Cond.classLink RL 14 RX11 ∈ lw_big := b1_at 20 rfl rfl
theorem wins_X11 : Cond.instantiable RX11 6 ∈ lw_big := b1_at 21 rfl rfl
theorem wc_X11_init : CWd yX11_init cX11_init 2 none 0 := ⟨b1_at 24 rfl rfl, wini_X11, by decide, by decide, by decide +kernel⟩
theorem wml_L_26 : Cond.methodLink RL 26 yX11_init ∈ lw_big := b1_at 22 rfl rfl
theorem wim_X11_init : Cond.instanceMethod yX11_init ∈ lw_big := b1_at 23 rfl rfl
theorem wml_L_27 : Cond.methodLink RL 27 yL_cell ∈ lw_big := b4_at 156 rfl rfl
theorem wst_L_cell : Cond.static yL_cell ∈ lw_big := b4_at 157 rfl rfl
theorem wac_28 : Cond.arrayClass (aty 28) ∈ lw_big := b1_at 77 rfl rfl
theorem wc_L_tell : CWd yL_tell cL_tell 7 (some .boolean) 3 := ⟨b4_at 142 rfl rfl, wini_L, by decide, by decide, by decide +kernel⟩
theorem wml_L_33 : Cond.methodLink RL 33 yL_tell ∈ lw_big := b4_at 140 rfl rfl
theorem wst_L_tell : Cond.static yL_tell ∈ lw_big := b4_at 141 rfl rfl
theorem wc_X11_rule : CWd yX11_rule cX11_rule 3 (some .int) 2 := ⟨b3_at 153 rfl rfl, wini_X11, by decide, by decide, by decide +kernel⟩
theorem wsel_X11_X11_rule : Cond.selects RX11 yX11_rule yX11_rule ∈ lw_big := b3_at 152 rfl rfl
theorem wsl_11_X11_rule : ∀ t ∈ ([11] : List Nat), t < 13 ∧ Cond.selects (RXX t) yX11_rule yX11_rule ∈ lw_big := fun t ht => by simp only [List.mem_cons, List.not_mem_nil, or_false] at ht; subst ht; exact ⟨by decide, wsel_X11_X11_rule⟩
theorem wml_L_37 : Cond.methodLink RL 37 yX11_rule ∈ lw_big := b3_at 150 rfl rfl
theorem wim_X11_rule : Cond.instanceMethod yX11_rule ∈ lw_big := b3_at 151 rfl rfl
theorem wcl_L_46 : Cond.classLink RL 46 "[[I" ∈ lw_big := b4_at 164 rfl rfl
theorem wac_30 : Cond.arrayClass (aty 30) ∈ lw_big := b1_at 211 rfl rfl
theorem wc_X11_hide : CWd yX11_hide cX11_hide 7 (some .int) 3 := ⟨b2_at 237 rfl rfl, wini_X11, by decide, by decide, by decide +kernel⟩
theorem wsel_X11_X11_hide : Cond.selects RX11 yX11_hide yX11_hide ∈ lw_big := b2_at 236 rfl rfl
theorem wsl_11_X11_hide : ∀ t ∈ ([11] : List Nat), t < 13 ∧ Cond.selects (RXX t) yX11_hide yX11_hide ∈ lw_big := fun t ht => by simp only [List.mem_cons, List.not_mem_nil, or_false] at ht; subst ht; exact ⟨by decide, wsel_X11_X11_hide⟩
theorem wml_L_64 : Cond.methodLink RL 64 yX11_hide ∈ lw_big := b2_at 234 rfl rfl
theorem wim_X11_hide : Cond.instanceMethod yX11_hide ∈ lw_big := b2_at 235 rfl rfl
theorem wc_X11_why : CWd yX11_why cX11_why 7 (some .int) 4 := ⟨b2_at 123 rfl rfl, wini_X11, by decide, by decide, by decide +kernel⟩
theorem wsel_X11_X11_why : Cond.selects RX11 yX11_why yX11_why ∈ lw_big := b2_at 122 rfl rfl
theorem wsl_11_X11_why : ∀ t ∈ ([11] : List Nat), t < 13 ∧ Cond.selects (RXX t) yX11_why yX11_why ∈ lw_big := fun t ht => by simp only [List.mem_cons, List.not_mem_nil, or_false] at ht; subst ht; exact ⟨by decide, wsel_X11_X11_why⟩
theorem wml_L_60 : Cond.methodLink RL 60 yX11_why ∈ lw_big := b2_at 120 rfl rfl
theorem wim_X11_why : Cond.instanceMethod yX11_why ∈ lw_big := b2_at 121 rfl rfl
theorem wc_X11_ofBody : CWd yX11_ofBody cX11_ofBody 4 (some .int) 2 := ⟨b3_at 127 rfl rfl, wini_X11, by decide, by decide, by decide +kernel⟩
theorem wsel_X11_X11_ofBody : Cond.selects RX11 yX11_ofBody yX11_ofBody ∈ lw_big := b3_at 126 rfl rfl
theorem wsl_11_X11_ofBody : ∀ t ∈ ([11] : List Nat), t < 13 ∧ Cond.selects (RXX t) yX11_ofBody yX11_ofBody ∈ lw_big := fun t ht => by simp only [List.mem_cons, List.not_mem_nil, or_false] at ht; subst ht; exact ⟨by decide, wsel_X11_X11_ofBody⟩
theorem wml_L_54 : Cond.methodLink RL 54 yX11_ofBody ∈ lw_big := b3_at 124 rfl rfl
theorem wim_X11_ofBody : Cond.instanceMethod yX11_ofBody ∈ lw_big := b3_at 125 rfl rfl
theorem wc_L_far : CWd yL_far cL_far 2 (some .int) 2 := ⟨b4_at 162 rfl rfl, wini_L, by decide, by decide, by decide +kernel⟩
theorem wml_L_57 : Cond.methodLink RL 57 yL_far ∈ lw_big := b4_at 160 rfl rfl
theorem wst_L_far : Cond.static yL_far ∈ lw_big := b4_at 161 rfl rfl
theorem wc_X11_down : CWd yX11_down cX11_down 3 (some .int) 1 := ⟨b3_at 121 rfl rfl, wini_X11, by decide, by decide, by decide +kernel⟩
theorem wsel_X11_X11_down : Cond.selects RX11 yX11_down yX11_down ∈ lw_big := b3_at 120 rfl rfl
theorem wsl_11_X11_down : ∀ t ∈ ([11] : List Nat), t < 13 ∧ Cond.selects (RXX t) yX11_down yX11_down ∈ lw_big := fun t ht => by simp only [List.mem_cons, List.not_mem_nil, or_false] at ht; subst ht; exact ⟨by decide, wsel_X11_X11_down⟩
theorem wml_L_51 : Cond.methodLink RL 51 yX11_down ∈ lw_big := b3_at 118 rfl rfl
theorem wim_X11_down : Cond.instanceMethod yX11_down ∈ lw_big := b3_at 119 rfl rfl
theorem wc_X11_step : CWd yX11_step cX11_step 2 (some .int) 1 := ⟨b2_at 119 rfl rfl, wini_X11, by decide, by decide, by decide +kernel⟩
theorem wsel_X11_X11_step : Cond.selects RX11 yX11_step yX11_step ∈ lw_big := b2_at 118 rfl rfl
theorem wsl_11_X11_step : ∀ t ∈ ([11] : List Nat), t < 13 ∧ Cond.selects (RXX t) yX11_step yX11_step ∈ lw_big := fun t ht => by simp only [List.mem_cons, List.not_mem_nil, or_false] at ht; subst ht; exact ⟨by decide, wsel_X11_X11_step⟩
theorem wml_L_48 : Cond.methodLink RL 48 yX11_step ∈ lw_big := b2_at 116 rfl rfl
theorem wim_X11_step : Cond.instanceMethod yX11_step ∈ lw_big := b2_at 117 rfl rfl
theorem wc_X11_owner : CWd yX11_owner cX11_owner 4 (some .int) 2 := ⟨b2_at 62 rfl rfl, wini_X11, by decide, by decide, by decide +kernel⟩
theorem wsel_X11_X11_owner : Cond.selects RX11 yX11_owner yX11_owner ∈ lw_big := b2_at 61 rfl rfl
theorem wsl_11_X11_owner : ∀ t ∈ ([11] : List Nat), t < 13 ∧ Cond.selects (RXX t) yX11_owner yX11_owner ∈ lw_big := fun t ht => by simp only [List.mem_cons, List.not_mem_nil, or_false] at ht; subst ht; exact ⟨by decide, wsel_X11_X11_owner⟩
theorem wml_L_43 : Cond.methodLink RL 43 yX11_owner ∈ lw_big := b2_at 59 rfl rfl
theorem wim_X11_owner : Cond.instanceMethod yX11_owner ∈ lw_big := b2_at 60 rfl rfl
theorem wc_X11_finder : CWd yX11_finder cX11_finder 2 (some .int) 1 := ⟨b2_at 70 rfl rfl, wini_X11, by decide, by decide, by decide +kernel⟩
theorem wsel_X11_X11_finder : Cond.selects RX11 yX11_finder yX11_finder ∈ lw_big := b2_at 69 rfl rfl
theorem wsl_11_X11_finder : ∀ t ∈ ([11] : List Nat), t < 13 ∧ Cond.selects (RXX t) yX11_finder yX11_finder ∈ lw_big := fun t ht => by simp only [List.mem_cons, List.not_mem_nil, or_false] at ht; subst ht; exact ⟨by decide, wsel_X11_X11_finder⟩
theorem wml_L_40 : Cond.methodLink RL 40 yX11_finder ∈ lw_big := b2_at 67 rfl rfl
theorem wim_X11_finder : Cond.instanceMethod yX11_finder ∈ lw_big := b2_at 68 rfl rfl
theorem dL_law_0 : decode cL_law 0 = .ok (.new 14, 3) := by decide +kernel
theorem dL_law_3 : decode cL_law 3 = .ok (.dup, 1) := by decide +kernel
theorem dL_law_4 : decode cL_law 4 = .ok (.invokespecial 26, 3) := by decide +kernel
theorem dL_law_7 : decode cL_law 7 = .ok (.astore_n 1, 1) := by decide +kernel
theorem dL_law_8 : decode cL_law 8 = .ok (.aload_n 0, 1) := by decide +kernel
theorem dL_law_9 : decode cL_law 9 = .ok (.iconst 0, 1) := by decide +kernel
theorem dL_law_10 : decode cL_law 10 = .ok (.invokestatic 27, 3) := by decide +kernel
theorem dL_law_13 : decode cL_law 13 = .ok (.bipush 8, 2) := by decide +kernel
theorem dL_law_15 : decode cL_law 15 = .ok (.irem, 1) := by decide +kernel
theorem dL_law_16 : decode cL_law 16 = .ok (.istore_n 2, 1) := by decide +kernel
theorem dL_law_17 : decode cL_law 17 = .ok (.iconst 1, 1) := by decide +kernel
theorem dL_law_18 : decode cL_law 18 = .ok (.newarray .int, 2) := by decide +kernel
theorem dL_law_20 : decode cL_law 20 = .ok (.dup, 1) := by decide +kernel
theorem dL_law_21 : decode cL_law 21 = .ok (.iconst 0, 1) := by decide +kernel
theorem dL_law_22 : decode cL_law 22 = .ok (.bipush 48, 2) := by decide +kernel
theorem dL_law_24 : decode cL_law 24 = .ok (.iload_n 2, 1) := by decide +kernel
theorem dL_law_25 : decode cL_law 25 = .ok (.iadd, 1) := by decide +kernel
theorem dL_law_26 : decode cL_law 26 = .ok (.iastore, 1) := by decide +kernel
theorem dL_law_27 : decode cL_law 27 = .ok (.astore_n 3, 1) := by decide +kernel
theorem dL_law_28 : decode cL_law 28 = .ok (.bipush 16, 2) := by decide +kernel
theorem dL_law_30 : decode cL_law 30 = .ok (.newarray .int, 2) := by decide +kernel
theorem dL_law_32 : decode cL_law 32 = .ok (.dup, 1) := by decide +kernel
theorem dL_law_33 : decode cL_law 33 = .ok (.iconst 0, 1) := by decide +kernel
theorem dL_law_34 : decode cL_law 34 = .ok (.bipush 107, 2) := by decide +kernel
theorem dL_law_36 : decode cL_law 36 = .ok (.iastore, 1) := by decide +kernel
theorem dL_law_37 : decode cL_law 37 = .ok (.dup, 1) := by decide +kernel
theorem dL_law_38 : decode cL_law 38 = .ok (.iconst 1, 1) := by decide +kernel
theorem dL_law_39 : decode cL_law 39 = .ok (.bipush 105, 2) := by decide +kernel
theorem dL_law_41 : decode cL_law 41 = .ok (.iastore, 1) := by decide +kernel
theorem dL_law_42 : decode cL_law 42 = .ok (.dup, 1) := by decide +kernel
theorem dL_law_43 : decode cL_law 43 = .ok (.iconst 2, 1) := by decide +kernel
theorem dL_law_44 : decode cL_law 44 = .ok (.bipush 110, 2) := by decide +kernel
theorem dL_law_46 : decode cL_law 46 = .ok (.iastore, 1) := by decide +kernel
theorem dL_law_47 : decode cL_law 47 = .ok (.dup, 1) := by decide +kernel
theorem dL_law_48 : decode cL_law 48 = .ok (.iconst 3, 1) := by decide +kernel
theorem dL_law_49 : decode cL_law 49 = .ok (.bipush 100, 2) := by decide +kernel
theorem dL_law_51 : decode cL_law 51 = .ok (.iastore, 1) := by decide +kernel
theorem dL_law_52 : decode cL_law 52 = .ok (.dup, 1) := by decide +kernel
theorem dL_law_53 : decode cL_law 53 = .ok (.iconst 4, 1) := by decide +kernel
theorem dL_law_54 : decode cL_law 54 = .ok (.bipush 61, 2) := by decide +kernel
theorem dL_law_56 : decode cL_law 56 = .ok (.iastore, 1) := by decide +kernel
theorem dL_law_57 : decode cL_law 57 = .ok (.dup, 1) := by decide +kernel
theorem dL_law_58 : decode cL_law 58 = .ok (.iconst 5, 1) := by decide +kernel
theorem dL_law_59 : decode cL_law 59 = .ok (.bipush 49, 2) := by decide +kernel
theorem dL_law_61 : decode cL_law 61 = .ok (.iastore, 1) := by decide +kernel
theorem dL_law_62 : decode cL_law 62 = .ok (.dup, 1) := by decide +kernel
theorem dL_law_63 : decode cL_law 63 = .ok (.bipush 6, 2) := by decide +kernel
theorem dL_law_65 : decode cL_law 65 = .ok (.bipush 32, 2) := by decide +kernel
theorem dL_law_67 : decode cL_law 67 = .ok (.iastore, 1) := by decide +kernel
theorem dL_law_68 : decode cL_law 68 = .ok (.dup, 1) := by decide +kernel
theorem dL_law_69 : decode cL_law 69 = .ok (.bipush 7, 2) := by decide +kernel
theorem dL_law_71 : decode cL_law 71 = .ok (.bipush 111, 2) := by decide +kernel
theorem dL_law_73 : decode cL_law 73 = .ok (.iastore, 1) := by decide +kernel
theorem dL_law_74 : decode cL_law 74 = .ok (.dup, 1) := by decide +kernel
theorem dL_law_75 : decode cL_law 75 = .ok (.bipush 8, 2) := by decide +kernel
theorem dL_law_77 : decode cL_law 77 = .ok (.bipush 114, 2) := by decide +kernel
theorem dL_law_79 : decode cL_law 79 = .ok (.iastore, 1) := by decide +kernel
theorem dL_law_80 : decode cL_law 80 = .ok (.dup, 1) := by decide +kernel
theorem dL_law_81 : decode cL_law 81 = .ok (.bipush 9, 2) := by decide +kernel
theorem dL_law_83 : decode cL_law 83 = .ok (.bipush 32, 2) := by decide +kernel
theorem dL_law_85 : decode cL_law 85 = .ok (.iastore, 1) := by decide +kernel
theorem dL_law_86 : decode cL_law 86 = .ok (.dup, 1) := by decide +kernel
theorem dL_law_87 : decode cL_law 87 = .ok (.bipush 10, 2) := by decide +kernel
theorem dL_law_89 : decode cL_law 89 = .ok (.bipush 104, 2) := by decide +kernel
theorem dL_law_91 : decode cL_law 91 = .ok (.iastore, 1) := by decide +kernel
theorem dL_law_92 : decode cL_law 92 = .ok (.dup, 1) := by decide +kernel
theorem dL_law_93 : decode cL_law 93 = .ok (.bipush 11, 2) := by decide +kernel
theorem dL_law_95 : decode cL_law 95 = .ok (.bipush 111, 2) := by decide +kernel
theorem dL_law_97 : decode cL_law 97 = .ok (.iastore, 1) := by decide +kernel
theorem dL_law_98 : decode cL_law 98 = .ok (.dup, 1) := by decide +kernel
theorem dL_law_99 : decode cL_law 99 = .ok (.bipush 12, 2) := by decide +kernel
theorem dL_law_101 : decode cL_law 101 = .ok (.bipush 109, 2) := by decide +kernel
theorem dL_law_103 : decode cL_law 103 = .ok (.iastore, 1) := by decide +kernel
theorem dL_law_104 : decode cL_law 104 = .ok (.dup, 1) := by decide +kernel
theorem dL_law_105 : decode cL_law 105 = .ok (.bipush 13, 2) := by decide +kernel
theorem dL_law_107 : decode cL_law 107 = .ok (.bipush 101, 2) := by decide +kernel
theorem dL_law_109 : decode cL_law 109 = .ok (.iastore, 1) := by decide +kernel
theorem dL_law_110 : decode cL_law 110 = .ok (.dup, 1) := by decide +kernel
theorem dL_law_111 : decode cL_law 111 = .ok (.bipush 14, 2) := by decide +kernel
theorem dL_law_113 : decode cL_law 113 = .ok (.bipush 60, 2) := by decide +kernel
theorem dL_law_115 : decode cL_law 115 = .ok (.iastore, 1) := by decide +kernel
theorem dL_law_116 : decode cL_law 116 = .ok (.dup, 1) := by decide +kernel
theorem dL_law_117 : decode cL_law 117 = .ok (.bipush 15, 2) := by decide +kernel
theorem dL_law_119 : decode cL_law 119 = .ok (.bipush 52, 2) := by decide +kernel
theorem dL_law_121 : decode cL_law 121 = .ok (.iastore, 1) := by decide +kernel
theorem dL_law_122 : decode cL_law 122 = .ok (.astore 4, 2) := by decide +kernel
theorem dL_law_124 : decode cL_law 124 = .ok (.bipush 16, 2) := by decide +kernel
theorem dL_law_126 : decode cL_law 126 = .ok (.newarray .int, 2) := by decide +kernel
theorem dL_law_128 : decode cL_law 128 = .ok (.dup, 1) := by decide +kernel
theorem dL_law_129 : decode cL_law 129 = .ok (.iconst 0, 1) := by decide +kernel
theorem dL_law_130 : decode cL_law 130 = .ok (.bipush 117, 2) := by decide +kernel
theorem dL_law_132 : decode cL_law 132 = .ok (.iastore, 1) := by decide +kernel
theorem dL_law_133 : decode cL_law 133 = .ok (.dup, 1) := by decide +kernel
theorem dL_law_134 : decode cL_law 134 = .ok (.iconst 1, 1) := by decide +kernel
theorem dL_law_135 : decode cL_law 135 = .ok (.bipush 110, 2) := by decide +kernel
theorem dL_law_137 : decode cL_law 137 = .ok (.iastore, 1) := by decide +kernel
theorem dL_law_138 : decode cL_law 138 = .ok (.dup, 1) := by decide +kernel
theorem dL_law_139 : decode cL_law 139 = .ok (.iconst 2, 1) := by decide +kernel
theorem dL_law_140 : decode cL_law 140 = .ok (.bipush 108, 2) := by decide +kernel
theorem dL_law_142 : decode cL_law 142 = .ok (.iastore, 1) := by decide +kernel
theorem dL_law_143 : decode cL_law 143 = .ok (.dup, 1) := by decide +kernel
theorem dL_law_144 : decode cL_law 144 = .ok (.iconst 3, 1) := by decide +kernel
theorem dL_law_145 : decode cL_law 145 = .ok (.bipush 101, 2) := by decide +kernel
theorem dL_law_147 : decode cL_law 147 = .ok (.iastore, 1) := by decide +kernel
theorem dL_law_148 : decode cL_law 148 = .ok (.dup, 1) := by decide +kernel
theorem dL_law_149 : decode cL_law 149 = .ok (.iconst 4, 1) := by decide +kernel
theorem dL_law_150 : decode cL_law 150 = .ok (.bipush 115, 2) := by decide +kernel
theorem dL_law_152 : decode cL_law 152 = .ok (.iastore, 1) := by decide +kernel
theorem dL_law_153 : decode cL_law 153 = .ok (.dup, 1) := by decide +kernel
theorem dL_law_154 : decode cL_law 154 = .ok (.iconst 5, 1) := by decide +kernel
theorem dL_law_155 : decode cL_law 155 = .ok (.bipush 115, 2) := by decide +kernel
theorem dL_law_157 : decode cL_law 157 = .ok (.iastore, 1) := by decide +kernel
theorem dL_law_158 : decode cL_law 158 = .ok (.dup, 1) := by decide +kernel
theorem dL_law_159 : decode cL_law 159 = .ok (.bipush 6, 2) := by decide +kernel
theorem dL_law_161 : decode cL_law 161 = .ok (.bipush 32, 2) := by decide +kernel
theorem dL_law_163 : decode cL_law 163 = .ok (.iastore, 1) := by decide +kernel
theorem dL_law_164 : decode cL_law 164 = .ok (.dup, 1) := by decide +kernel
theorem dL_law_165 : decode cL_law 165 = .ok (.bipush 7, 2) := by decide +kernel
theorem dL_law_167 : decode cL_law 167 = .ok (.bipush 111, 2) := by decide +kernel
theorem dL_law_169 : decode cL_law 169 = .ok (.iastore, 1) := by decide +kernel
theorem dL_law_170 : decode cL_law 170 = .ok (.dup, 1) := by decide +kernel
theorem dL_law_171 : decode cL_law 171 = .ok (.bipush 8, 2) := by decide +kernel
theorem dL_law_173 : decode cL_law 173 = .ok (.bipush 119, 2) := by decide +kernel
theorem dL_law_175 : decode cL_law 175 = .ok (.iastore, 1) := by decide +kernel
theorem dL_law_176 : decode cL_law 176 = .ok (.dup, 1) := by decide +kernel
theorem dL_law_177 : decode cL_law 177 = .ok (.bipush 9, 2) := by decide +kernel
theorem dL_law_179 : decode cL_law 179 = .ok (.bipush 110, 2) := by decide +kernel
theorem dL_law_181 : decode cL_law 181 = .ok (.iastore, 1) := by decide +kernel
theorem dL_law_182 : decode cL_law 182 = .ok (.dup, 1) := by decide +kernel
theorem dL_law_183 : decode cL_law 183 = .ok (.bipush 10, 2) := by decide +kernel
theorem dL_law_185 : decode cL_law 185 = .ok (.bipush 60, 2) := by decide +kernel
theorem dL_law_187 : decode cL_law 187 = .ok (.iastore, 1) := by decide +kernel
theorem dL_law_188 : decode cL_law 188 = .ok (.dup, 1) := by decide +kernel
theorem dL_law_189 : decode cL_law 189 = .ok (.bipush 11, 2) := by decide +kernel
theorem dL_law_191 : decode cL_law 191 = .ok (.bipush 51, 2) := by decide +kernel
theorem dL_law_193 : decode cL_law 193 = .ok (.iastore, 1) := by decide +kernel
theorem dL_law_194 : decode cL_law 194 = .ok (.dup, 1) := by decide +kernel
theorem dL_law_195 : decode cL_law 195 = .ok (.bipush 12, 2) := by decide +kernel
theorem dL_law_197 : decode cL_law 197 = .ok (.bipush 58, 2) := by decide +kernel
theorem dL_law_199 : decode cL_law 199 = .ok (.iastore, 1) := by decide +kernel
theorem dL_law_200 : decode cL_law 200 = .ok (.dup, 1) := by decide +kernel
theorem dL_law_201 : decode cL_law 201 = .ok (.bipush 13, 2) := by decide +kernel
theorem dL_law_203 : decode cL_law 203 = .ok (.bipush 48, 2) := by decide +kernel
theorem dL_law_205 : decode cL_law 205 = .ok (.iastore, 1) := by decide +kernel
theorem dL_law_206 : decode cL_law 206 = .ok (.dup, 1) := by decide +kernel
theorem dL_law_207 : decode cL_law 207 = .ok (.bipush 14, 2) := by decide +kernel
theorem dL_law_209 : decode cL_law 209 = .ok (.bipush 59, 2) := by decide +kernel
theorem dL_law_211 : decode cL_law 211 = .ok (.iastore, 1) := by decide +kernel
theorem dL_law_212 : decode cL_law 212 = .ok (.dup, 1) := by decide +kernel
theorem dL_law_213 : decode cL_law 213 = .ok (.bipush 15, 2) := by decide +kernel
theorem dL_law_215 : decode cL_law 215 = .ok (.bipush 49, 2) := by decide +kernel
theorem dL_law_217 : decode cL_law 217 = .ok (.iastore, 1) := by decide +kernel
theorem dL_law_218 : decode cL_law 218 = .ok (.astore 5, 2) := by decide +kernel
theorem dL_law_220 : decode cL_law 220 = .ok (.aload_n 1, 1) := by decide +kernel
theorem dL_law_221 : decode cL_law 221 = .ok (.aload_n 3, 1) := by decide +kernel
theorem dL_law_222 : decode cL_law 222 = .ok (.iconst 1, 1) := by decide +kernel
theorem dL_law_223 : decode cL_law 223 = .ok (.invokestatic 33, 3) := by decide +kernel
theorem dL_law_226 : decode cL_law 226 = .ok (.ifCond .eq 57, 3) := by decide +kernel
theorem dL_law_229 : decode cL_law 229 = .ok (.aload_n 1, 1) := by decide +kernel
theorem dL_law_230 : decode cL_law 230 = .ok (.iconst 0, 1) := by decide +kernel
theorem dL_law_231 : decode cL_law 231 = .ok (.iconst 0, 1) := by decide +kernel
theorem dL_law_232 : decode cL_law 232 = .ok (.invokevirtual 37, 3) := by decide +kernel
theorem dL_law_235 : decode cL_law 235 = .ok (.ifCond .ne 48, 3) := by decide +kernel
theorem dL_law_238 : decode cL_law 238 = .ok (.aload_n 1, 1) := by decide +kernel
theorem dL_law_239 : decode cL_law 239 = .ok (.aload 4, 2) := by decide +kernel
theorem dL_law_241 : decode cL_law 241 = .ok (.aload 4, 2) := by decide +kernel
theorem dL_law_243 : decode cL_law 243 = .ok (.arraylength, 1) := by decide +kernel
theorem dL_law_244 : decode cL_law 244 = .ok (.invokestatic 33, 3) := by decide +kernel
theorem dL_law_247 : decode cL_law 247 = .ok (.ifCond .eq 36, 3) := by decide +kernel
theorem dL_law_250 : decode cL_law 250 = .ok (.aload_n 1, 1) := by decide +kernel
theorem dL_law_251 : decode cL_law 251 = .ok (.bipush 13, 2) := by decide +kernel
theorem dL_law_253 : decode cL_law 253 = .ok (.iconst 0, 1) := by decide +kernel
theorem dL_law_254 : decode cL_law 254 = .ok (.invokevirtual 37, 3) := by decide +kernel
theorem dL_law_257 : decode cL_law 257 = .ok (.iconst 1, 1) := by decide +kernel
theorem dL_law_258 : decode cL_law 258 = .ok (.if_icmp .ne 25, 3) := by decide +kernel
theorem dL_law_261 : decode cL_law 261 = .ok (.aload_n 1, 1) := by decide +kernel
theorem dL_law_262 : decode cL_law 262 = .ok (.aload 5, 2) := by decide +kernel
theorem dL_law_264 : decode cL_law 264 = .ok (.aload 5, 2) := by decide +kernel
theorem dL_law_266 : decode cL_law 266 = .ok (.arraylength, 1) := by decide +kernel
theorem dL_law_267 : decode cL_law 267 = .ok (.invokestatic 33, 3) := by decide +kernel
theorem dL_law_270 : decode cL_law 270 = .ok (.ifCond .eq 13, 3) := by decide +kernel
theorem dL_law_273 : decode cL_law 273 = .ok (.aload_n 1, 1) := by decide +kernel
theorem dL_law_274 : decode cL_law 274 = .ok (.iconst 1, 1) := by decide +kernel
theorem dL_law_275 : decode cL_law 275 = .ok (.iconst 0, 1) := by decide +kernel
theorem dL_law_276 : decode cL_law 276 = .ok (.invokevirtual 37, 3) := by decide +kernel
theorem dL_law_279 : decode cL_law 279 = .ok (.iconst 2, 1) := by decide +kernel
theorem dL_law_280 : decode cL_law 280 = .ok (.if_icmp .eq 5, 3) := by decide +kernel
theorem dL_law_283 : decode cL_law 283 = .ok (.iconst 0, 1) := by decide +kernel
theorem dL_law_284 : decode cL_law 284 = .ok (.ireturn, 1) := by decide +kernel
theorem dL_law_285 : decode cL_law 285 = .ok (.iconst 0, 1) := by decide +kernel
theorem dL_law_286 : decode cL_law 286 = .ok (.istore 6, 2) := by decide +kernel
theorem dL_law_288 : decode cL_law 288 = .ok (.iload 6, 2) := by decide +kernel
theorem dL_law_290 : decode cL_law 290 = .ok (.iconst 3, 1) := by decide +kernel
theorem dL_law_291 : decode cL_law 291 = .ok (.if_icmp .ge 31, 3) := by decide +kernel
theorem dL_law_294 : decode cL_law 294 = .ok (.aload_n 1, 1) := by decide +kernel
theorem dL_law_295 : decode cL_law 295 = .ok (.aload_n 0, 1) := by decide +kernel
theorem dL_law_296 : decode cL_law 296 = .ok (.iconst 1, 1) := by decide +kernel
theorem dL_law_297 : decode cL_law 297 = .ok (.iload 6, 2) := by decide +kernel
theorem dL_law_299 : decode cL_law 299 = .ok (.iadd, 1) := by decide +kernel
theorem dL_law_300 : decode cL_law 300 = .ok (.invokestatic 27, 3) := by decide +kernel
theorem dL_law_303 : decode cL_law 303 = .ok (.bipush 60, 2) := by decide +kernel
theorem dL_law_305 : decode cL_law 305 = .ok (.irem, 1) := by decide +kernel
theorem dL_law_306 : decode cL_law 306 = .ok (.invokevirtual 40, 3) := by decide +kernel
theorem dL_law_309 : decode cL_law 309 = .ok (.iload 6, 2) := by decide +kernel
theorem dL_law_311 : decode cL_law 311 = .ok (.if_icmp .eq 5, 3) := by decide +kernel
theorem dL_law_314 : decode cL_law 314 = .ok (.iconst 0, 1) := by decide +kernel
theorem dL_law_315 : decode cL_law 315 = .ok (.ireturn, 1) := by decide +kernel
theorem dL_law_316 : decode cL_law 316 = .ok (.iinc 6 1, 3) := by decide +kernel
theorem dL_law_319 : decode cL_law 319 = .ok (.goto (-31), 3) := by decide +kernel
theorem dL_law_322 : decode cL_law 322 = .ok (.bipush 60, 2) := by decide +kernel
theorem dL_law_324 : decode cL_law 324 = .ok (.newarray .int, 2) := by decide +kernel
theorem dL_law_326 : decode cL_law 326 = .ok (.astore 6, 2) := by decide +kernel
theorem dL_law_328 : decode cL_law 328 = .ok (.iconst 0, 1) := by decide +kernel
theorem dL_law_329 : decode cL_law 329 = .ok (.istore 7, 2) := by decide +kernel
theorem dL_law_331 : decode cL_law 331 = .ok (.iload 7, 2) := by decide +kernel
theorem dL_law_333 : decode cL_law 333 = .ok (.bipush 60, 2) := by decide +kernel
theorem dL_law_335 : decode cL_law 335 = .ok (.if_icmp .ge 73, 3) := by decide +kernel
theorem dL_law_338 : decode cL_law 338 = .ok (.aload_n 0, 1) := by decide +kernel
theorem dL_law_339 : decode cL_law 339 = .ok (.iconst 4, 1) := by decide +kernel
theorem dL_law_340 : decode cL_law 340 = .ok (.iload 7, 2) := by decide +kernel
theorem dL_law_342 : decode cL_law 342 = .ok (.bipush 20, 2) := by decide +kernel
theorem dL_law_344 : decode cL_law 344 = .ok (.irem, 1) := by decide +kernel
theorem dL_law_345 : decode cL_law 345 = .ok (.iadd, 1) := by decide +kernel
theorem dL_law_346 : decode cL_law 346 = .ok (.invokestatic 27, 3) := by decide +kernel
theorem dL_law_349 : decode cL_law 349 = .ok (.iload 7, 2) := by decide +kernel
theorem dL_law_351 : decode cL_law 351 = .ok (.bipush 12, 2) := by decide +kernel
theorem dL_law_353 : decode cL_law 353 = .ok (.irem, 1) := by decide +kernel
theorem dL_law_354 : decode cL_law 354 = .ok (.ishr, 1) := by decide +kernel
theorem dL_law_355 : decode cL_law 355 = .ok (.bipush 7, 2) := by decide +kernel
theorem dL_law_357 : decode cL_law 357 = .ok (.iand, 1) := by decide +kernel
theorem dL_law_358 : decode cL_law 358 = .ok (.istore 8, 2) := by decide +kernel
theorem dL_law_360 : decode cL_law 360 = .ok (.aload 6, 2) := by decide +kernel
theorem dL_law_362 : decode cL_law 362 = .ok (.iload 7, 2) := by decide +kernel
theorem dL_law_364 : decode cL_law 364 = .ok (.iload 8, 2) := by decide +kernel
theorem dL_law_366 : decode cL_law 366 = .ok (.ifCond .ne 7, 3) := by decide +kernel
theorem dL_law_369 : decode cL_law 369 = .ok (.iconst 3, 1) := by decide +kernel
theorem dL_law_370 : decode cL_law 370 = .ok (.goto 14, 3) := by decide +kernel
theorem dL_law_373 : decode cL_law 373 = .ok (.iload 8, 2) := by decide +kernel
theorem dL_law_375 : decode cL_law 375 = .ok (.iconst 1, 1) := by decide +kernel
theorem dL_law_376 : decode cL_law 376 = .ok (.if_icmp .ne 7, 3) := by decide +kernel
theorem dL_law_379 : decode cL_law 379 = .ok (.iconst 5, 1) := by decide +kernel
theorem dL_law_380 : decode cL_law 380 = .ok (.goto 4, 3) := by decide +kernel
theorem dL_law_383 : decode cL_law 383 = .ok (.iconst (-1), 1) := by decide +kernel
theorem dL_law_384 : decode cL_law 384 = .ok (.iastore, 1) := by decide +kernel
theorem dL_law_385 : decode cL_law 385 = .ok (.aload_n 1, 1) := by decide +kernel
theorem dL_law_386 : decode cL_law 386 = .ok (.iload 7, 2) := by decide +kernel
theorem dL_law_388 : decode cL_law 388 = .ok (.aload 6, 2) := by decide +kernel
theorem dL_law_390 : decode cL_law 390 = .ok (.iload 7, 2) := by decide +kernel
theorem dL_law_392 : decode cL_law 392 = .ok (.iaload, 1) := by decide +kernel
theorem dL_law_393 : decode cL_law 393 = .ok (.invokevirtual 43, 3) := by decide +kernel
theorem dL_law_396 : decode cL_law 396 = .ok (.iconst (-1), 1) := by decide +kernel
theorem dL_law_397 : decode cL_law 397 = .ok (.if_icmp .eq 5, 3) := by decide +kernel
theorem dL_law_400 : decode cL_law 400 = .ok (.iconst 0, 1) := by decide +kernel
theorem dL_law_401 : decode cL_law 401 = .ok (.ireturn, 1) := by decide +kernel
theorem dL_law_402 : decode cL_law 402 = .ok (.iinc 7 1, 3) := by decide +kernel
theorem dL_law_405 : decode cL_law 405 = .ok (.goto (-74), 3) := by decide +kernel
theorem dL_law_408 : decode cL_law 408 = .ok (.bipush 60, 2) := by decide +kernel
theorem dL_law_410 : decode cL_law 410 = .ok (.newarray .int, 2) := by decide +kernel
theorem dL_law_412 : decode cL_law 412 = .ok (.astore 7, 2) := by decide +kernel
theorem dL_law_414 : decode cL_law 414 = .ok (.iconst 3, 1) := by decide +kernel
theorem dL_law_415 : decode cL_law 415 = .ok (.newarray .int, 2) := by decide +kernel
theorem dL_law_417 : decode cL_law 417 = .ok (.astore 8, 2) := by decide +kernel
theorem dL_law_419 : decode cL_law 419 = .ok (.bipush 60, 2) := by decide +kernel
theorem dL_law_421 : decode cL_law 421 = .ok (.iconst 5, 1) := by decide +kernel
theorem dL_law_422 : decode cL_law 422 = .ok (.multianewarray 46 2, 4) := by decide +kernel
theorem dL_law_426 : decode cL_law 426 = .ok (.astore 9, 2) := by decide +kernel
theorem dL_law_428 : decode cL_law 428 = .ok (.bipush 60, 2) := by decide +kernel
theorem dL_law_430 : decode cL_law 430 = .ok (.newarray .int, 2) := by decide +kernel
theorem dL_law_432 : decode cL_law 432 = .ok (.astore 10, 2) := by decide +kernel
theorem dL_law_434 : decode cL_law 434 = .ok (.bipush 60, 2) := by decide +kernel
theorem dL_law_436 : decode cL_law 436 = .ok (.newarray .boolean, 2) := by decide +kernel
theorem dL_law_438 : decode cL_law 438 = .ok (.astore 11, 2) := by decide +kernel
theorem dL_law_440 : decode cL_law 440 = .ok (.iconst 0, 1) := by decide +kernel
theorem dL_law_441 : decode cL_law 441 = .ok (.istore 12, 2) := by decide +kernel
theorem dL_law_443 : decode cL_law 443 = .ok (.bipush 24, 2) := by decide +kernel
theorem dL_law_445 : decode cL_law 445 = .ok (.istore 13, 2) := by decide +kernel
theorem dL_law_447 : decode cL_law 447 = .ok (.iload 13, 2) := by decide +kernel
theorem dL_law_449 : decode cL_law 449 = .ok (.bipush 80, 2) := by decide +kernel
theorem dL_law_451 : decode cL_law 451 = .ok (.if_icmp .ge 721, 3) := by decide +kernel
theorem dL_law_454 : decode cL_law 454 = .ok (.aload_n 0, 1) := by decide +kernel
theorem dL_law_455 : decode cL_law 455 = .ok (.iload 13, 2) := by decide +kernel
theorem dL_law_457 : decode cL_law 457 = .ok (.invokestatic 27, 3) := by decide +kernel
theorem dL_law_460 : decode cL_law 460 = .ok (.istore 14, 2) := by decide +kernel
theorem dL_law_462 : decode cL_law 462 = .ok (.iload 14, 2) := by decide +kernel
theorem dL_law_464 : decode cL_law 464 = .ok (.iconst 3, 1) := by decide +kernel
theorem dL_law_465 : decode cL_law 465 = .ok (.iand, 1) := by decide +kernel
theorem dL_law_466 : decode cL_law 466 = .ok (.iconst 3, 1) := by decide +kernel
theorem dL_law_467 : decode cL_law 467 = .ok (.irem, 1) := by decide +kernel
theorem dL_law_468 : decode cL_law 468 = .ok (.istore 15, 2) := by decide +kernel
theorem dL_law_470 : decode cL_law 470 = .ok (.iconst 1, 1) := by decide +kernel
theorem dL_law_471 : decode cL_law 471 = .ok (.iload 14, 2) := by decide +kernel
theorem dL_law_473 : decode cL_law 473 = .ok (.iconst 2, 1) := by decide +kernel
theorem dL_law_474 : decode cL_law 474 = .ok (.ishr, 1) := by decide +kernel
theorem dL_law_475 : decode cL_law 475 = .ok (.bipush 7, 2) := by decide +kernel
theorem dL_law_477 : decode cL_law 477 = .ok (.iand, 1) := by decide +kernel
theorem dL_law_478 : decode cL_law 478 = .ok (.iconst 5, 1) := by decide +kernel
theorem dL_law_479 : decode cL_law 479 = .ok (.irem, 1) := by decide +kernel
theorem dL_law_480 : decode cL_law 480 = .ok (.iadd, 1) := by decide +kernel
theorem dL_law_481 : decode cL_law 481 = .ok (.istore 16, 2) := by decide +kernel
theorem dL_law_483 : decode cL_law 483 = .ok (.iload 14, 2) := by decide +kernel
theorem dL_law_485 : decode cL_law 485 = .ok (.iconst 5, 1) := by decide +kernel
theorem dL_law_486 : decode cL_law 486 = .ok (.ishr, 1) := by decide +kernel
theorem dL_law_487 : decode cL_law 487 = .ok (.bipush 60, 2) := by decide +kernel
theorem dL_law_489 : decode cL_law 489 = .ok (.irem, 1) := by decide +kernel
theorem dL_law_490 : decode cL_law 490 = .ok (.istore 17, 2) := by decide +kernel
theorem dL_law_492 : decode cL_law 492 = .ok (.iload 16, 2) := by decide +kernel
theorem dL_law_494 : decode cL_law 494 = .ok (.iconst 3, 1) := by decide +kernel
theorem dL_law_495 : decode cL_law 495 = .ok (.if_icmp .ne 15, 3) := by decide +kernel
theorem dL_law_498 : decode cL_law 498 = .ok (.iconst 1, 1) := by decide +kernel
theorem dL_law_499 : decode cL_law 499 = .ok (.iload 14, 2) := by decide +kernel
theorem dL_law_501 : decode cL_law 501 = .ok (.bipush 11, 2) := by decide +kernel
theorem dL_law_503 : decode cL_law 503 = .ok (.ishr, 1) := by decide +kernel
theorem dL_law_504 : decode cL_law 504 = .ok (.iconst 1, 1) := by decide +kernel
theorem dL_law_505 : decode cL_law 505 = .ok (.iand, 1) := by decide +kernel
theorem dL_law_506 : decode cL_law 506 = .ok (.iadd, 1) := by decide +kernel
theorem dL_law_507 : decode cL_law 507 = .ok (.goto 4, 3) := by decide +kernel
theorem dL_law_510 : decode cL_law 510 = .ok (.iconst 0, 1) := by decide +kernel
theorem dL_law_511 : decode cL_law 511 = .ok (.istore 18, 2) := by decide +kernel
theorem dL_law_513 : decode cL_law 513 = .ok (.iconst 3, 1) := by decide +kernel
theorem dL_law_514 : decode cL_law 514 = .ok (.newarray .int, 2) := by decide +kernel
theorem dL_law_516 : decode cL_law 516 = .ok (.dup, 1) := by decide +kernel
theorem dL_law_517 : decode cL_law 517 = .ok (.iconst 0, 1) := by decide +kernel
theorem dL_law_518 : decode cL_law 518 = .ok (.iload 17, 2) := by decide +kernel
theorem dL_law_520 : decode cL_law 520 = .ok (.iastore, 1) := by decide +kernel
theorem dL_law_521 : decode cL_law 521 = .ok (.dup, 1) := by decide +kernel
theorem dL_law_522 : decode cL_law 522 = .ok (.iconst 1, 1) := by decide +kernel
theorem dL_law_523 : decode cL_law 523 = .ok (.iload 14, 2) := by decide +kernel
theorem dL_law_525 : decode cL_law 525 = .ok (.bipush 12, 2) := by decide +kernel
theorem dL_law_527 : decode cL_law 527 = .ok (.ishr, 1) := by decide +kernel
theorem dL_law_528 : decode cL_law 528 = .ok (.bipush 60, 2) := by decide +kernel
theorem dL_law_530 : decode cL_law 530 = .ok (.irem, 1) := by decide +kernel
theorem dL_law_531 : decode cL_law 531 = .ok (.iastore, 1) := by decide +kernel
theorem dL_law_532 : decode cL_law 532 = .ok (.dup, 1) := by decide +kernel
theorem dL_law_533 : decode cL_law 533 = .ok (.iconst 2, 1) := by decide +kernel
theorem dL_law_534 : decode cL_law 534 = .ok (.iload 14, 2) := by decide +kernel
theorem dL_law_536 : decode cL_law 536 = .ok (.bipush 15, 2) := by decide +kernel
theorem dL_law_538 : decode cL_law 538 = .ok (.ishr, 1) := by decide +kernel
theorem dL_law_539 : decode cL_law 539 = .ok (.bipush 60, 2) := by decide +kernel
theorem dL_law_541 : decode cL_law 541 = .ok (.irem, 1) := by decide +kernel
theorem dL_law_542 : decode cL_law 542 = .ok (.iastore, 1) := by decide +kernel
theorem dL_law_543 : decode cL_law 543 = .ok (.astore 19, 2) := by decide +kernel
theorem dL_law_545 : decode cL_law 545 = .ok (.iconst 1, 1) := by decide +kernel
theorem dL_law_546 : decode cL_law 546 = .ok (.istore 20, 2) := by decide +kernel
theorem dL_law_548 : decode cL_law 548 = .ok (.iload 20, 2) := by decide +kernel
theorem dL_law_550 : decode cL_law 550 = .ok (.iload 18, 2) := by decide +kernel
theorem dL_law_552 : decode cL_law 552 = .ok (.if_icmp .gt 25, 3) := by decide +kernel
theorem dL_law_555 : decode cL_law 555 = .ok (.aload_n 1, 1) := by decide +kernel
theorem dL_law_556 : decode cL_law 556 = .ok (.aload 19, 2) := by decide +kernel
theorem dL_law_558 : decode cL_law 558 = .ok (.iload 20, 2) := by decide +kernel
theorem dL_law_560 : decode cL_law 560 = .ok (.iaload, 1) := by decide +kernel
theorem dL_law_561 : decode cL_law 561 = .ok (.invokevirtual 48, 3) := by decide +kernel
theorem dL_law_564 : decode cL_law 564 = .ok (.iload 20, 2) := by decide +kernel
theorem dL_law_566 : decode cL_law 566 = .ok (.if_icmp .eq 5, 3) := by decide +kernel
theorem dL_law_569 : decode cL_law 569 = .ok (.iconst 0, 1) := by decide +kernel
theorem dL_law_570 : decode cL_law 570 = .ok (.ireturn, 1) := by decide +kernel
theorem dL_law_571 : decode cL_law 571 = .ok (.iinc 20 1, 3) := by decide +kernel
theorem dL_law_574 : decode cL_law 574 = .ok (.goto (-26), 3) := by decide +kernel
theorem dL_law_577 : decode cL_law 577 = .ok (.iload 14, 2) := by decide +kernel
theorem dL_law_579 : decode cL_law 579 = .ok (.bipush 21, 2) := by decide +kernel
theorem dL_law_581 : decode cL_law 581 = .ok (.ishr, 1) := by decide +kernel
theorem dL_law_582 : decode cL_law 582 = .ok (.bipush 7, 2) := by decide +kernel
theorem dL_law_584 : decode cL_law 584 = .ok (.iand, 1) := by decide +kernel
theorem dL_law_585 : decode cL_law 585 = .ok (.ifCond .ne 74, 3) := by decide +kernel
theorem dL_law_588 : decode cL_law 588 = .ok (.iload 12, 2) := by decide +kernel
theorem dL_law_590 : decode cL_law 590 = .ok (.ifCond .le 69, 3) := by decide +kernel
theorem dL_law_593 : decode cL_law 593 = .ok (.iload 14, 2) := by decide +kernel
theorem dL_law_595 : decode cL_law 595 = .ok (.iconst 5, 1) := by decide +kernel
theorem dL_law_596 : decode cL_law 596 = .ok (.ishr, 1) := by decide +kernel
theorem dL_law_597 : decode cL_law 597 = .ok (.iload 12, 2) := by decide +kernel
theorem dL_law_599 : decode cL_law 599 = .ok (.irem, 1) := by decide +kernel
theorem dL_law_600 : decode cL_law 600 = .ok (.istore 20, 2) := by decide +kernel
theorem dL_law_602 : decode cL_law 602 = .ok (.aload_n 1, 1) := by decide +kernel
theorem dL_law_603 : decode cL_law 603 = .ok (.iconst 3, 1) := by decide +kernel
theorem dL_law_604 : decode cL_law 604 = .ok (.iload 20, 2) := by decide +kernel
theorem dL_law_606 : decode cL_law 606 = .ok (.iadd, 1) := by decide +kernel
theorem dL_law_607 : decode cL_law 607 = .ok (.invokevirtual 51, 3) := by decide +kernel
theorem dL_law_610 : decode cL_law 610 = .ok (.aload 11, 2) := by decide +kernel
theorem dL_law_612 : decode cL_law 612 = .ok (.iload 20, 2) := by decide +kernel
theorem dL_law_614 : decode cL_law 614 = .ok (.baload, 1) := by decide +kernel
theorem dL_law_615 : decode cL_law 615 = .ok (.ifCond .eq 8, 3) := by decide +kernel
theorem dL_law_618 : decode cL_law 618 = .ok (.bipush (-2), 2) := by decide +kernel
theorem dL_law_620 : decode cL_law 620 = .ok (.goto 4, 3) := by decide +kernel
theorem dL_law_623 : decode cL_law 623 = .ok (.iconst 1, 1) := by decide +kernel
theorem dL_law_624 : decode cL_law 624 = .ok (.if_icmp .eq 5, 3) := by decide +kernel
theorem dL_law_627 : decode cL_law 627 = .ok (.iconst 0, 1) := by decide +kernel
theorem dL_law_628 : decode cL_law 628 = .ok (.ireturn, 1) := by decide +kernel
theorem dL_law_629 : decode cL_law 629 = .ok (.aload 11, 2) := by decide +kernel
theorem dL_law_631 : decode cL_law 631 = .ok (.iload 20, 2) := by decide +kernel
theorem dL_law_633 : decode cL_law 633 = .ok (.baload, 1) := by decide +kernel
theorem dL_law_634 : decode cL_law 634 = .ok (.ifCond .ne 19, 3) := by decide +kernel
theorem dL_law_637 : decode cL_law 637 = .ok (.aload 8, 2) := by decide +kernel
theorem dL_law_639 : decode cL_law 639 = .ok (.aload_n 1, 1) := by decide +kernel
theorem dL_law_640 : decode cL_law 640 = .ok (.iconst 3, 1) := by decide +kernel
theorem dL_law_641 : decode cL_law 641 = .ok (.iload 20, 2) := by decide +kernel
theorem dL_law_643 : decode cL_law 643 = .ok (.iadd, 1) := by decide +kernel
theorem dL_law_644 : decode cL_law 644 = .ok (.iconst 1, 1) := by decide +kernel
theorem dL_law_645 : decode cL_law 645 = .ok (.invokevirtual 54, 3) := by decide +kernel
theorem dL_law_648 : decode cL_law 648 = .ok (.dup2, 1) := by decide +kernel
theorem dL_law_649 : decode cL_law 649 = .ok (.iaload, 1) := by decide +kernel
theorem dL_law_650 : decode cL_law 650 = .ok (.iconst 1, 1) := by decide +kernel
theorem dL_law_651 : decode cL_law 651 = .ok (.isub, 1) := by decide +kernel
theorem dL_law_652 : decode cL_law 652 = .ok (.iastore, 1) := by decide +kernel
theorem dL_law_653 : decode cL_law 653 = .ok (.aload 11, 2) := by decide +kernel
theorem dL_law_655 : decode cL_law 655 = .ok (.iload 20, 2) := by decide +kernel
theorem dL_law_657 : decode cL_law 657 = .ok (.iconst 1, 1) := by decide +kernel
theorem dL_law_658 : decode cL_law 658 = .ok (.bastore, 1) := by decide +kernel
theorem dL_law_659 : decode cL_law 659 = .ok (.aload_n 1, 1) := by decide +kernel
theorem dL_law_660 : decode cL_law 660 = .ok (.iload 15, 2) := by decide +kernel
theorem dL_law_662 : decode cL_law 662 = .ok (.iconst 1, 1) := by decide +kernel
theorem dL_law_663 : decode cL_law 663 = .ok (.invokevirtual 54, 3) := by decide +kernel
theorem dL_law_666 : decode cL_law 666 = .ok (.istore 20, 2) := by decide +kernel
theorem dL_law_668 : decode cL_law 668 = .ok (.aload 8, 2) := by decide +kernel
theorem dL_law_670 : decode cL_law 670 = .ok (.iload 15, 2) := by decide +kernel
theorem dL_law_672 : decode cL_law 672 = .ok (.iaload, 1) := by decide +kernel
theorem dL_law_673 : decode cL_law 673 = .ok (.iconst 3, 1) := by decide +kernel
theorem dL_law_674 : decode cL_law 674 = .ok (.if_icmp .ge 7, 3) := by decide +kernel
theorem dL_law_677 : decode cL_law 677 = .ok (.iconst 1, 1) := by decide +kernel
theorem dL_law_678 : decode cL_law 678 = .ok (.goto 4, 3) := by decide +kernel
theorem dL_law_681 : decode cL_law 681 = .ok (.iconst 0, 1) := by decide +kernel
theorem dL_law_682 : decode cL_law 682 = .ok (.istore 21, 2) := by decide +kernel
theorem dL_law_684 : decode cL_law 684 = .ok (.iconst 1, 1) := by decide +kernel
theorem dL_law_685 : decode cL_law 685 = .ok (.istore 22, 2) := by decide +kernel
theorem dL_law_687 : decode cL_law 687 = .ok (.iconst 0, 1) := by decide +kernel
theorem dL_law_688 : decode cL_law 688 = .ok (.istore 23, 2) := by decide +kernel
theorem dL_law_690 : decode cL_law 690 = .ok (.iload 23, 2) := by decide +kernel
theorem dL_law_692 : decode cL_law 692 = .ok (.iload 18, 2) := by decide +kernel
theorem dL_law_694 : decode cL_law 694 = .ok (.if_icmp .gt 62, 3) := by decide +kernel
theorem dL_law_697 : decode cL_law 697 = .ok (.iload 22, 2) := by decide +kernel
theorem dL_law_699 : decode cL_law 699 = .ok (.aload 6, 2) := by decide +kernel
theorem dL_law_701 : decode cL_law 701 = .ok (.aload 19, 2) := by decide +kernel
theorem dL_law_703 : decode cL_law 703 = .ok (.iload 23, 2) := by decide +kernel
theorem dL_law_705 : decode cL_law 705 = .ok (.iaload, 1) := by decide +kernel
theorem dL_law_706 : decode cL_law 706 = .ok (.iaload, 1) := by decide +kernel
theorem dL_law_707 : decode cL_law 707 = .ok (.ifCond .lt 35, 3) := by decide +kernel
theorem dL_law_710 : decode cL_law 710 = .ok (.aload 6, 2) := by decide +kernel
theorem dL_law_712 : decode cL_law 712 = .ok (.aload 19, 2) := by decide +kernel
theorem dL_law_714 : decode cL_law 714 = .ok (.iload 23, 2) := by decide +kernel
theorem dL_law_716 : decode cL_law 716 = .ok (.iaload, 1) := by decide +kernel
theorem dL_law_717 : decode cL_law 717 = .ok (.iaload, 1) := by decide +kernel
theorem dL_law_718 : decode cL_law 718 = .ok (.iconst 3, 1) := by decide +kernel
theorem dL_law_719 : decode cL_law 719 = .ok (.if_icmp .ne 27, 3) := by decide +kernel
theorem dL_law_722 : decode cL_law 722 = .ok (.iload 16, 2) := by decide +kernel
theorem dL_law_724 : decode cL_law 724 = .ok (.iconst 1, 1) := by decide +kernel
theorem dL_law_725 : decode cL_law 725 = .ok (.if_icmp .eq 17, 3) := by decide +kernel
theorem dL_law_728 : decode cL_law 728 = .ok (.iload 20, 2) := by decide +kernel
theorem dL_law_730 : decode cL_law 730 = .ok (.aload 19, 2) := by decide +kernel
theorem dL_law_732 : decode cL_law 732 = .ok (.iload 23, 2) := by decide +kernel
theorem dL_law_734 : decode cL_law 734 = .ok (.iaload, 1) := by decide +kernel
theorem dL_law_735 : decode cL_law 735 = .ok (.invokestatic 57, 3) := by decide +kernel
theorem dL_law_738 : decode cL_law 738 = .ok (.iconst 4, 1) := by decide +kernel
theorem dL_law_739 : decode cL_law 739 = .ok (.if_icmp .ge 7, 3) := by decide +kernel
theorem dL_law_742 : decode cL_law 742 = .ok (.iconst 1, 1) := by decide +kernel
theorem dL_law_743 : decode cL_law 743 = .ok (.goto 4, 3) := by decide +kernel
theorem dL_law_746 : decode cL_law 746 = .ok (.iconst 0, 1) := by decide +kernel
theorem dL_law_747 : decode cL_law 747 = .ok (.iand, 1) := by decide +kernel
theorem dL_law_748 : decode cL_law 748 = .ok (.istore 22, 2) := by decide +kernel
theorem dL_law_750 : decode cL_law 750 = .ok (.iinc 23 1, 3) := by decide +kernel
theorem dL_law_753 : decode cL_law 753 = .ok (.goto (-63), 3) := by decide +kernel
theorem dL_law_756 : decode cL_law 756 = .ok (.aload 19, 2) := by decide +kernel
theorem dL_law_758 : decode cL_law 758 = .ok (.iload 18, 2) := by decide +kernel
theorem dL_law_760 : decode cL_law 760 = .ok (.iaload, 1) := by decide +kernel
theorem dL_law_761 : decode cL_law 761 = .ok (.istore 23, 2) := by decide +kernel
theorem dL_law_763 : decode cL_law 763 = .ok (.iconst 0, 1) := by decide +kernel
theorem dL_law_764 : decode cL_law 764 = .ok (.istore 24, 2) := by decide +kernel
theorem dL_law_766 : decode cL_law 766 = .ok (.iconst 0, 1) := by decide +kernel
theorem dL_law_767 : decode cL_law 767 = .ok (.istore 25, 2) := by decide +kernel
theorem dL_law_769 : decode cL_law 769 = .ok (.iconst 0, 1) := by decide +kernel
theorem dL_law_770 : decode cL_law 770 = .ok (.istore 26, 2) := by decide +kernel
theorem dL_law_772 : decode cL_law 772 = .ok (.iload 26, 2) := by decide +kernel
theorem dL_law_774 : decode cL_law 774 = .ok (.iload 12, 2) := by decide +kernel
theorem dL_law_776 : decode cL_law 776 = .ok (.if_icmp .ge 114, 3) := by decide +kernel
theorem dL_law_779 : decode cL_law 779 = .ok (.aload 11, 2) := by decide +kernel
theorem dL_law_781 : decode cL_law 781 = .ok (.iload 26, 2) := by decide +kernel
theorem dL_law_783 : decode cL_law 783 = .ok (.baload, 1) := by decide +kernel
theorem dL_law_784 : decode cL_law 784 = .ok (.ifCond .eq 6, 3) := by decide +kernel
theorem dL_law_787 : decode cL_law 787 = .ok (.goto 97, 3) := by decide +kernel
theorem dL_law_790 : decode cL_law 790 = .ok (.iload 24, 2) := by decide +kernel
theorem dL_law_792 : decode cL_law 792 = .ok (.iload 23, 2) := by decide +kernel
theorem dL_law_794 : decode cL_law 794 = .ok (.aload 7, 2) := by decide +kernel
theorem dL_law_796 : decode cL_law 796 = .ok (.iload 26, 2) := by decide +kernel
theorem dL_law_798 : decode cL_law 798 = .ok (.iaload, 1) := by decide +kernel
theorem dL_law_799 : decode cL_law 799 = .ok (.invokestatic 57, 3) := by decide +kernel
theorem dL_law_802 : decode cL_law 802 = .ok (.iload_n 2, 1) := by decide +kernel
theorem dL_law_803 : decode cL_law 803 = .ok (.if_icmp .lt 27, 3) := by decide +kernel
theorem dL_law_806 : decode cL_law 806 = .ok (.aload 10, 2) := by decide +kernel
theorem dL_law_808 : decode cL_law 808 = .ok (.iload 26, 2) := by decide +kernel
theorem dL_law_810 : decode cL_law 810 = .ok (.iaload, 1) := by decide +kernel
theorem dL_law_811 : decode cL_law 811 = .ok (.ifCond .le 23, 3) := by decide +kernel
theorem dL_law_814 : decode cL_law 814 = .ok (.iload 23, 2) := by decide +kernel
theorem dL_law_816 : decode cL_law 816 = .ok (.aload 9, 2) := by decide +kernel
theorem dL_law_818 : decode cL_law 818 = .ok (.iload 26, 2) := by decide +kernel
theorem dL_law_820 : decode cL_law 820 = .ok (.aaload, 1) := by decide +kernel
theorem dL_law_821 : decode cL_law 821 = .ok (.iconst 0, 1) := by decide +kernel
theorem dL_law_822 : decode cL_law 822 = .ok (.iaload, 1) := by decide +kernel
theorem dL_law_823 : decode cL_law 823 = .ok (.invokestatic 57, 3) := by decide +kernel
theorem dL_law_826 : decode cL_law 826 = .ok (.iload_n 2, 1) := by decide +kernel
theorem dL_law_827 : decode cL_law 827 = .ok (.if_icmp .ge 7, 3) := by decide +kernel
theorem dL_law_830 : decode cL_law 830 = .ok (.iconst 1, 1) := by decide +kernel
theorem dL_law_831 : decode cL_law 831 = .ok (.goto 4, 3) := by decide +kernel
theorem dL_law_834 : decode cL_law 834 = .ok (.iconst 0, 1) := by decide +kernel
theorem dL_law_835 : decode cL_law 835 = .ok (.ior, 1) := by decide +kernel
theorem dL_law_836 : decode cL_law 836 = .ok (.istore 24, 2) := by decide +kernel
theorem dL_law_838 : decode cL_law 838 = .ok (.iconst 1, 1) := by decide +kernel
theorem dL_law_839 : decode cL_law 839 = .ok (.istore 27, 2) := by decide +kernel
theorem dL_law_841 : decode cL_law 841 = .ok (.iload 27, 2) := by decide +kernel
theorem dL_law_843 : decode cL_law 843 = .ok (.aload 10, 2) := by decide +kernel
theorem dL_law_845 : decode cL_law 845 = .ok (.iload 26, 2) := by decide +kernel
theorem dL_law_847 : decode cL_law 847 = .ok (.iaload, 1) := by decide +kernel
theorem dL_law_848 : decode cL_law 848 = .ok (.if_icmp .ge 36, 3) := by decide +kernel
theorem dL_law_851 : decode cL_law 851 = .ok (.iload 25, 2) := by decide +kernel
theorem dL_law_853 : decode cL_law 853 = .ok (.iload 23, 2) := by decide +kernel
theorem dL_law_855 : decode cL_law 855 = .ok (.aload 9, 2) := by decide +kernel
theorem dL_law_857 : decode cL_law 857 = .ok (.iload 26, 2) := by decide +kernel
theorem dL_law_859 : decode cL_law 859 = .ok (.aaload, 1) := by decide +kernel
theorem dL_law_860 : decode cL_law 860 = .ok (.iload 27, 2) := by decide +kernel
theorem dL_law_862 : decode cL_law 862 = .ok (.iaload, 1) := by decide +kernel
theorem dL_law_863 : decode cL_law 863 = .ok (.invokestatic 57, 3) := by decide +kernel
theorem dL_law_866 : decode cL_law 866 = .ok (.iload_n 2, 1) := by decide +kernel
theorem dL_law_867 : decode cL_law 867 = .ok (.if_icmp .ge 7, 3) := by decide +kernel
theorem dL_law_870 : decode cL_law 870 = .ok (.iconst 1, 1) := by decide +kernel
theorem dL_law_871 : decode cL_law 871 = .ok (.goto 4, 3) := by decide +kernel
theorem dL_law_874 : decode cL_law 874 = .ok (.iconst 0, 1) := by decide +kernel
theorem dL_law_875 : decode cL_law 875 = .ok (.ior, 1) := by decide +kernel
theorem dL_law_876 : decode cL_law 876 = .ok (.istore 25, 2) := by decide +kernel
theorem dL_law_878 : decode cL_law 878 = .ok (.iinc 27 1, 3) := by decide +kernel
theorem dL_law_881 : decode cL_law 881 = .ok (.goto (-40), 3) := by decide +kernel
theorem dL_law_884 : decode cL_law 884 = .ok (.iinc 26 1, 3) := by decide +kernel
theorem dL_law_887 : decode cL_law 887 = .ok (.goto (-115), 3) := by decide +kernel
theorem dL_law_890 : decode cL_law 890 = .ok (.iload 21, 2) := by decide +kernel
theorem dL_law_892 : decode cL_law 892 = .ok (.ifCond .ne 7, 3) := by decide +kernel
theorem dL_law_895 : decode cL_law 895 = .ok (.iconst 1, 1) := by decide +kernel
theorem dL_law_896 : decode cL_law 896 = .ok (.goto 31, 3) := by decide +kernel
theorem dL_law_899 : decode cL_law 899 = .ok (.iload 22, 2) := by decide +kernel
theorem dL_law_901 : decode cL_law 901 = .ok (.ifCond .ne 7, 3) := by decide +kernel
theorem dL_law_904 : decode cL_law 904 = .ok (.iconst 2, 1) := by decide +kernel
theorem dL_law_905 : decode cL_law 905 = .ok (.goto 22, 3) := by decide +kernel
theorem dL_law_908 : decode cL_law 908 = .ok (.iload 24, 2) := by decide +kernel
theorem dL_law_910 : decode cL_law 910 = .ok (.ifCond .eq 7, 3) := by decide +kernel
theorem dL_law_913 : decode cL_law 913 = .ok (.iconst 3, 1) := by decide +kernel
theorem dL_law_914 : decode cL_law 914 = .ok (.goto 13, 3) := by decide +kernel
theorem dL_law_917 : decode cL_law 917 = .ok (.iload 25, 2) := by decide +kernel
theorem dL_law_919 : decode cL_law 919 = .ok (.ifCond .eq 7, 3) := by decide +kernel
theorem dL_law_922 : decode cL_law 922 = .ok (.iconst 4, 1) := by decide +kernel
theorem dL_law_923 : decode cL_law 923 = .ok (.goto 4, 3) := by decide +kernel
theorem dL_law_926 : decode cL_law 926 = .ok (.iconst 0, 1) := by decide +kernel
theorem dL_law_927 : decode cL_law 927 = .ok (.istore 26, 2) := by decide +kernel
theorem dL_law_929 : decode cL_law 929 = .ok (.iload 26, 2) := by decide +kernel
theorem dL_law_931 : decode cL_law 931 = .ok (.iconst 4, 1) := by decide +kernel
theorem dL_law_932 : decode cL_law 932 = .ok (.if_icmp .ne 7, 3) := by decide +kernel
theorem dL_law_935 : decode cL_law 935 = .ok (.iconst 3, 1) := by decide +kernel
theorem dL_law_936 : decode cL_law 936 = .ok (.goto 5, 3) := by decide +kernel
theorem dL_law_939 : decode cL_law 939 = .ok (.iload 26, 2) := by decide +kernel
theorem dL_law_941 : decode cL_law 941 = .ok (.istore 27, 2) := by decide +kernel
theorem dL_law_943 : decode cL_law 943 = .ok (.aload_n 1, 1) := by decide +kernel
theorem dL_law_944 : decode cL_law 944 = .ok (.iload 15, 2) := by decide +kernel
theorem dL_law_946 : decode cL_law 946 = .ok (.iload 16, 2) := by decide +kernel
theorem dL_law_948 : decode cL_law 948 = .ok (.iload 17, 2) := by decide +kernel
theorem dL_law_950 : decode cL_law 950 = .ok (.iconst 0, 1) := by decide +kernel
theorem dL_law_951 : decode cL_law 951 = .ok (.invokevirtual 60, 3) := by decide +kernel
theorem dL_law_954 : decode cL_law 954 = .ok (.iload 27, 2) := by decide +kernel
theorem dL_law_956 : decode cL_law 956 = .ok (.if_icmp .ne 35, 3) := by decide +kernel
theorem dL_law_959 : decode cL_law 959 = .ok (.aload_n 1, 1) := by decide +kernel
theorem dL_law_960 : decode cL_law 960 = .ok (.iload 15, 2) := by decide +kernel
theorem dL_law_962 : decode cL_law 962 = .ok (.iload 16, 2) := by decide +kernel
theorem dL_law_964 : decode cL_law 964 = .ok (.iload 17, 2) := by decide +kernel
theorem dL_law_966 : decode cL_law 966 = .ok (.iconst 1, 1) := by decide +kernel
theorem dL_law_967 : decode cL_law 967 = .ok (.invokevirtual 60, 3) := by decide +kernel
theorem dL_law_970 : decode cL_law 970 = .ok (.iload 26, 2) := by decide +kernel
theorem dL_law_972 : decode cL_law 972 = .ok (.if_icmp .ne 19, 3) := by decide +kernel
theorem dL_law_975 : decode cL_law 975 = .ok (.aload_n 1, 1) := by decide +kernel
theorem dL_law_976 : decode cL_law 976 = .ok (.iload 15, 2) := by decide +kernel
theorem dL_law_978 : decode cL_law 978 = .ok (.iload 16, 2) := by decide +kernel
theorem dL_law_980 : decode cL_law 980 = .ok (.iload 17, 2) := by decide +kernel
theorem dL_law_982 : decode cL_law 982 = .ok (.iconst 0, 1) := by decide +kernel
theorem dL_law_983 : decode cL_law 983 = .ok (.invokevirtual 60, 3) := by decide +kernel
theorem dL_law_986 : decode cL_law 986 = .ok (.iload 27, 2) := by decide +kernel
theorem dL_law_988 : decode cL_law 988 = .ok (.if_icmp .eq 5, 3) := by decide +kernel
theorem dL_law_991 : decode cL_law 991 = .ok (.iconst 0, 1) := by decide +kernel
theorem dL_law_992 : decode cL_law 992 = .ok (.ireturn, 1) := by decide +kernel
theorem dL_law_993 : decode cL_law 993 = .ok (.aload_n 1, 1) := by decide +kernel
theorem dL_law_994 : decode cL_law 994 = .ok (.iload 15, 2) := by decide +kernel
theorem dL_law_996 : decode cL_law 996 = .ok (.iload 16, 2) := by decide +kernel
theorem dL_law_998 : decode cL_law 998 = .ok (.iload 17, 2) := by decide +kernel
theorem dL_law_1000 : decode cL_law 1000 = .ok (.invokevirtual 64, 3) := by decide +kernel
theorem dL_law_1003 : decode cL_law 1003 = .ok (.iload 26, 2) := by decide +kernel
theorem dL_law_1005 : decode cL_law 1005 = .ok (.ifCond .le 11, 3) := by decide +kernel
theorem dL_law_1008 : decode cL_law 1008 = .ok (.bipush (-20), 2) := by decide +kernel
theorem dL_law_1010 : decode cL_law 1010 = .ok (.iload 27, 2) := by decide +kernel
theorem dL_law_1012 : decode cL_law 1012 = .ok (.isub, 1) := by decide +kernel
theorem dL_law_1013 : decode cL_law 1013 = .ok (.goto 7, 3) := by decide +kernel
theorem dL_law_1016 : decode cL_law 1016 = .ok (.iconst 3, 1) := by decide +kernel
theorem dL_law_1017 : decode cL_law 1017 = .ok (.iload 12, 2) := by decide +kernel
theorem dL_law_1019 : decode cL_law 1019 = .ok (.iadd, 1) := by decide +kernel
theorem dL_law_1020 : decode cL_law 1020 = .ok (.if_icmp .eq 5, 3) := by decide +kernel
theorem dL_law_1023 : decode cL_law 1023 = .ok (.iconst 0, 1) := by decide +kernel
theorem dL_law_1024 : decode cL_law 1024 = .ok (.ireturn, 1) := by decide +kernel
theorem dL_law_1025 : decode cL_law 1025 = .ok (.iload 26, 2) := by decide +kernel
theorem dL_law_1027 : decode cL_law 1027 = .ok (.ifCond .le 44, 3) := by decide +kernel
theorem dL_law_1030 : decode cL_law 1030 = .ok (.iload 18, 2) := by decide +kernel
theorem dL_law_1032 : decode cL_law 1032 = .ok (.ifCond .le 16, 3) := by decide +kernel
theorem dL_law_1035 : decode cL_law 1035 = .ok (.aload_n 1, 1) := by decide +kernel
theorem dL_law_1036 : decode cL_law 1036 = .ok (.bipush 9, 2) := by decide +kernel
theorem dL_law_1038 : decode cL_law 1038 = .ok (.invokevirtual 18, 3) := by decide +kernel
theorem dL_law_1041 : decode cL_law 1041 = .ok (.iload 18, 2) := by decide +kernel
theorem dL_law_1043 : decode cL_law 1043 = .ok (.if_icmp .eq 5, 3) := by decide +kernel
theorem dL_law_1046 : decode cL_law 1046 = .ok (.iconst 0, 1) := by decide +kernel
theorem dL_law_1047 : decode cL_law 1047 = .ok (.ireturn, 1) := by decide +kernel
theorem dL_law_1048 : decode cL_law 1048 = .ok (.aload_n 1, 1) := by decide +kernel
theorem dL_law_1049 : decode cL_law 1049 = .ok (.bipush 9, 2) := by decide +kernel
theorem dL_law_1051 : decode cL_law 1051 = .ok (.invokevirtual 18, 3) := by decide +kernel
theorem dL_law_1054 : decode cL_law 1054 = .ok (.ifCond .le 10, 3) := by decide +kernel
theorem dL_law_1057 : decode cL_law 1057 = .ok (.iload 18, 2) := by decide +kernel
theorem dL_law_1059 : decode cL_law 1059 = .ok (.ifCond .ne 5, 3) := by decide +kernel
theorem dL_law_1062 : decode cL_law 1062 = .ok (.iconst 0, 1) := by decide +kernel
theorem dL_law_1063 : decode cL_law 1063 = .ok (.ireturn, 1) := by decide +kernel
theorem dL_law_1064 : decode cL_law 1064 = .ok (.iload 18, 2) := by decide +kernel
theorem dL_law_1066 : decode cL_law 1066 = .ok (.ifCond .le 100, 3) := by decide +kernel
theorem dL_law_1069 : decode cL_law 1069 = .ok (.iconst 1, 1) := by decide +kernel
theorem dL_law_1070 : decode cL_law 1070 = .ok (.ireturn, 1) := by decide +kernel
theorem dL_law_1071 : decode cL_law 1071 = .ok (.aload 7, 2) := by decide +kernel
theorem dL_law_1073 : decode cL_law 1073 = .ok (.iload 12, 2) := by decide +kernel
theorem dL_law_1075 : decode cL_law 1075 = .ok (.iload 23, 2) := by decide +kernel
theorem dL_law_1077 : decode cL_law 1077 = .ok (.iastore, 1) := by decide +kernel
theorem dL_law_1078 : decode cL_law 1078 = .ok (.aload 10, 2) := by decide +kernel
theorem dL_law_1080 : decode cL_law 1080 = .ok (.iload 12, 2) := by decide +kernel
theorem dL_law_1082 : decode cL_law 1082 = .ok (.iload 18, 2) := by decide +kernel
theorem dL_law_1084 : decode cL_law 1084 = .ok (.iastore, 1) := by decide +kernel
theorem dL_law_1085 : decode cL_law 1085 = .ok (.iconst 0, 1) := by decide +kernel
theorem dL_law_1086 : decode cL_law 1086 = .ok (.istore 28, 2) := by decide +kernel
theorem dL_law_1088 : decode cL_law 1088 = .ok (.iload 28, 2) := by decide +kernel
theorem dL_law_1090 : decode cL_law 1090 = .ok (.iload 18, 2) := by decide +kernel
theorem dL_law_1092 : decode cL_law 1092 = .ok (.if_icmp .gt 22, 3) := by decide +kernel
theorem dL_law_1095 : decode cL_law 1095 = .ok (.aload 9, 2) := by decide +kernel
theorem dL_law_1097 : decode cL_law 1097 = .ok (.iload 12, 2) := by decide +kernel
theorem dL_law_1099 : decode cL_law 1099 = .ok (.aaload, 1) := by decide +kernel
theorem dL_law_1100 : decode cL_law 1100 = .ok (.iload 28, 2) := by decide +kernel
theorem dL_law_1102 : decode cL_law 1102 = .ok (.aload 19, 2) := by decide +kernel
theorem dL_law_1104 : decode cL_law 1104 = .ok (.iload 28, 2) := by decide +kernel
theorem dL_law_1106 : decode cL_law 1106 = .ok (.iaload, 1) := by decide +kernel
theorem dL_law_1107 : decode cL_law 1107 = .ok (.iastore, 1) := by decide +kernel
theorem dL_law_1108 : decode cL_law 1108 = .ok (.iinc 28 1, 3) := by decide +kernel
theorem dL_law_1111 : decode cL_law 1111 = .ok (.goto (-23), 3) := by decide +kernel
theorem dL_law_1114 : decode cL_law 1114 = .ok (.aload 8, 2) := by decide +kernel
theorem dL_law_1116 : decode cL_law 1116 = .ok (.iload 15, 2) := by decide +kernel
theorem dL_law_1118 : decode cL_law 1118 = .ok (.dup2, 1) := by decide +kernel
theorem dL_law_1119 : decode cL_law 1119 = .ok (.iaload, 1) := by decide +kernel
theorem dL_law_1120 : decode cL_law 1120 = .ok (.iconst 1, 1) := by decide +kernel
theorem dL_law_1121 : decode cL_law 1121 = .ok (.iadd, 1) := by decide +kernel
theorem dL_law_1122 : decode cL_law 1122 = .ok (.iastore, 1) := by decide +kernel
theorem dL_law_1123 : decode cL_law 1123 = .ok (.iinc 12 1, 3) := by decide +kernel
theorem dL_law_1126 : decode cL_law 1126 = .ok (.aload_n 1, 1) := by decide +kernel
theorem dL_law_1127 : decode cL_law 1127 = .ok (.bipush 9, 2) := by decide +kernel
theorem dL_law_1129 : decode cL_law 1129 = .ok (.invokevirtual 18, 3) := by decide +kernel
theorem dL_law_1132 : decode cL_law 1132 = .ok (.ifCond .ne 32, 3) := by decide +kernel
theorem dL_law_1135 : decode cL_law 1135 = .ok (.aload_n 1, 1) := by decide +kernel
theorem dL_law_1136 : decode cL_law 1136 = .ok (.iload 15, 2) := by decide +kernel
theorem dL_law_1138 : decode cL_law 1138 = .ok (.iconst 4, 1) := by decide +kernel
theorem dL_law_1139 : decode cL_law 1139 = .ok (.invokevirtual 54, 3) := by decide +kernel
theorem dL_law_1142 : decode cL_law 1142 = .ok (.aload 8, 2) := by decide +kernel
theorem dL_law_1144 : decode cL_law 1144 = .ok (.iload 15, 2) := by decide +kernel
theorem dL_law_1146 : decode cL_law 1146 = .ok (.iaload, 1) := by decide +kernel
theorem dL_law_1147 : decode cL_law 1147 = .ok (.if_icmp .ne 17, 3) := by decide +kernel
theorem dL_law_1150 : decode cL_law 1150 = .ok (.aload_n 1, 1) := by decide +kernel
theorem dL_law_1151 : decode cL_law 1151 = .ok (.iconst 2, 1) := by decide +kernel
theorem dL_law_1152 : decode cL_law 1152 = .ok (.iload 12, 2) := by decide +kernel
theorem dL_law_1154 : decode cL_law 1154 = .ok (.iadd, 1) := by decide +kernel
theorem dL_law_1155 : decode cL_law 1155 = .ok (.iconst 5, 1) := by decide +kernel
theorem dL_law_1156 : decode cL_law 1156 = .ok (.invokevirtual 54, 3) := by decide +kernel
theorem dL_law_1159 : decode cL_law 1159 = .ok (.iload 23, 2) := by decide +kernel
theorem dL_law_1161 : decode cL_law 1161 = .ok (.if_icmp .eq 5, 3) := by decide +kernel
theorem dL_law_1164 : decode cL_law 1164 = .ok (.iconst 0, 1) := by decide +kernel
theorem dL_law_1165 : decode cL_law 1165 = .ok (.ireturn, 1) := by decide +kernel
theorem dL_law_1166 : decode cL_law 1166 = .ok (.iinc 13 1, 3) := by decide +kernel
theorem dL_law_1169 : decode cL_law 1169 = .ok (.goto (-722), 3) := by decide +kernel
theorem dL_law_1172 : decode cL_law 1172 = .ok (.aload_n 1, 1) := by decide +kernel
theorem dL_law_1173 : decode cL_law 1173 = .ok (.iconst 0, 1) := by decide +kernel
theorem dL_law_1174 : decode cL_law 1174 = .ok (.iconst 3, 1) := by decide +kernel
theorem dL_law_1175 : decode cL_law 1175 = .ok (.iconst 5, 1) := by decide +kernel
theorem dL_law_1176 : decode cL_law 1176 = .ok (.invokevirtual 64, 3) := by decide +kernel
theorem dL_law_1179 : decode cL_law 1179 = .ok (.iconst (-1), 1) := by decide +kernel
theorem dL_law_1180 : decode cL_law 1180 = .ok (.if_icmp .ne 31, 3) := by decide +kernel
theorem dL_law_1183 : decode cL_law 1183 = .ok (.aload_n 1, 1) := by decide +kernel
theorem dL_law_1184 : decode cL_law 1184 = .ok (.iconst 3, 1) := by decide +kernel
theorem dL_law_1185 : decode cL_law 1185 = .ok (.iconst 1, 1) := by decide +kernel
theorem dL_law_1186 : decode cL_law 1186 = .ok (.iconst 5, 1) := by decide +kernel
theorem dL_law_1187 : decode cL_law 1187 = .ok (.invokevirtual 64, 3) := by decide +kernel
theorem dL_law_1190 : decode cL_law 1190 = .ok (.iconst (-1), 1) := by decide +kernel
theorem dL_law_1191 : decode cL_law 1191 = .ok (.if_icmp .ne 20, 3) := by decide +kernel
theorem dL_law_1194 : decode cL_law 1194 = .ok (.aload_n 1, 1) := by decide +kernel
theorem dL_law_1195 : decode cL_law 1195 = .ok (.iconst 0, 1) := by decide +kernel
theorem dL_law_1196 : decode cL_law 1196 = .ok (.bipush 6, 2) := by decide +kernel
theorem dL_law_1198 : decode cL_law 1198 = .ok (.iconst 5, 1) := by decide +kernel
theorem dL_law_1199 : decode cL_law 1199 = .ok (.iconst 0, 1) := by decide +kernel
theorem dL_law_1200 : decode cL_law 1200 = .ok (.invokevirtual 60, 3) := by decide +kernel
theorem dL_law_1203 : decode cL_law 1203 = .ok (.iconst (-1), 1) := by decide +kernel
theorem dL_law_1204 : decode cL_law 1204 = .ok (.if_icmp .ne 7, 3) := by decide +kernel
theorem dL_law_1207 : decode cL_law 1207 = .ok (.iconst 1, 1) := by decide +kernel
theorem dL_law_1208 : decode cL_law 1208 = .ok (.goto 4, 3) := by decide +kernel
theorem dL_law_1211 : decode cL_law 1211 = .ok (.iconst 0, 1) := by decide +kernel
theorem dL_law_1212 : decode cL_law 1212 = .ok (.ireturn, 1) := by decide +kernel
theorem dL_tell_0 : decode cL_tell 0 = .ok (.iconst 0, 1) := by decide +kernel
theorem dL_tell_1 : decode cL_tell 1 = .ok (.istore_n 3, 1) := by decide +kernel
theorem dL_tell_2 : decode cL_tell 2 = .ok (.iload_n 3, 1) := by decide +kernel
theorem dL_tell_3 : decode cL_tell 3 = .ok (.iload_n 2, 1) := by decide +kernel
theorem dL_tell_4 : decode cL_tell 4 = .ok (.if_icmp .ge 71, 3) := by decide +kernel
theorem dL_tell_7 : decode cL_tell 7 = .ok (.iconst 4, 1) := by decide +kernel
theorem dL_tell_8 : decode cL_tell 8 = .ok (.iload_n 2, 1) := by decide +kernel
theorem dL_tell_9 : decode cL_tell 9 = .ok (.iload_n 3, 1) := by decide +kernel
theorem dL_tell_10 : decode cL_tell 10 = .ok (.isub, 1) := by decide +kernel
theorem dL_tell_11 : decode cL_tell 11 = .ok (.invokestatic 7, 3) := by decide +kernel
theorem dL_tell_14 : decode cL_tell 14 = .ok (.istore 4, 2) := by decide +kernel
theorem dL_tell_16 : decode cL_tell 16 = .ok (.iconst 0, 1) := by decide +kernel
theorem dL_tell_17 : decode cL_tell 17 = .ok (.istore 5, 2) := by decide +kernel
theorem dL_tell_19 : decode cL_tell 19 = .ok (.iconst 0, 1) := by decide +kernel
theorem dL_tell_20 : decode cL_tell 20 = .ok (.istore 6, 2) := by decide +kernel
theorem dL_tell_22 : decode cL_tell 22 = .ok (.iload 6, 2) := by decide +kernel
theorem dL_tell_24 : decode cL_tell 24 = .ok (.iload 4, 2) := by decide +kernel
theorem dL_tell_26 : decode cL_tell 26 = .ok (.if_icmp .ge 26, 3) := by decide +kernel
theorem dL_tell_29 : decode cL_tell 29 = .ok (.iload 5, 2) := by decide +kernel
theorem dL_tell_31 : decode cL_tell 31 = .ok (.aload_n 1, 1) := by decide +kernel
theorem dL_tell_32 : decode cL_tell 32 = .ok (.iload_n 3, 1) := by decide +kernel
theorem dL_tell_33 : decode cL_tell 33 = .ok (.iload 6, 2) := by decide +kernel
theorem dL_tell_35 : decode cL_tell 35 = .ok (.iadd, 1) := by decide +kernel
theorem dL_tell_36 : decode cL_tell 36 = .ok (.iaload, 1) := by decide +kernel
theorem dL_tell_37 : decode cL_tell 37 = .ok (.bipush 8, 2) := by decide +kernel
theorem dL_tell_39 : decode cL_tell 39 = .ok (.iload 6, 2) := by decide +kernel
theorem dL_tell_41 : decode cL_tell 41 = .ok (.imul, 1) := by decide +kernel
theorem dL_tell_42 : decode cL_tell 42 = .ok (.ishl, 1) := by decide +kernel
theorem dL_tell_43 : decode cL_tell 43 = .ok (.ior, 1) := by decide +kernel
theorem dL_tell_44 : decode cL_tell 44 = .ok (.istore 5, 2) := by decide +kernel
theorem dL_tell_46 : decode cL_tell 46 = .ok (.iinc 6 1, 3) := by decide +kernel
theorem dL_tell_49 : decode cL_tell 49 = .ok (.goto (-27), 3) := by decide +kernel
theorem dL_tell_52 : decode cL_tell 52 = .ok (.aload_n 0, 1) := by decide +kernel
theorem dL_tell_53 : decode cL_tell 53 = .ok (.iload 4, 2) := by decide +kernel
theorem dL_tell_55 : decode cL_tell 55 = .ok (.iload 5, 2) := by decide +kernel
theorem dL_tell_57 : decode cL_tell 57 = .ok (.invokevirtual 13, 3) := by decide +kernel
theorem dL_tell_60 : decode cL_tell 60 = .ok (.iload_n 3, 1) := by decide +kernel
theorem dL_tell_61 : decode cL_tell 61 = .ok (.iload 4, 2) := by decide +kernel
theorem dL_tell_63 : decode cL_tell 63 = .ok (.iadd, 1) := by decide +kernel
theorem dL_tell_64 : decode cL_tell 64 = .ok (.if_icmp .eq 5, 3) := by decide +kernel
theorem dL_tell_67 : decode cL_tell 67 = .ok (.iconst 0, 1) := by decide +kernel
theorem dL_tell_68 : decode cL_tell 68 = .ok (.ireturn, 1) := by decide +kernel
theorem dL_tell_69 : decode cL_tell 69 = .ok (.iinc 3 4, 3) := by decide +kernel
theorem dL_tell_72 : decode cL_tell 72 = .ok (.goto (-70), 3) := by decide +kernel
theorem dL_tell_75 : decode cL_tell 75 = .ok (.aload_n 0, 1) := by decide +kernel
theorem dL_tell_76 : decode cL_tell 76 = .ok (.bipush 7, 2) := by decide +kernel
theorem dL_tell_78 : decode cL_tell 78 = .ok (.invokevirtual 18, 3) := by decide +kernel
theorem dL_tell_81 : decode cL_tell 81 = .ok (.iload_n 2, 1) := by decide +kernel
theorem dL_tell_82 : decode cL_tell 82 = .ok (.if_icmp .ne 7, 3) := by decide +kernel
theorem dL_tell_85 : decode cL_tell 85 = .ok (.iconst 1, 1) := by decide +kernel
theorem dL_tell_86 : decode cL_tell 86 = .ok (.goto 4, 3) := by decide +kernel
theorem dL_tell_89 : decode cL_tell 89 = .ok (.iconst 0, 1) := by decide +kernel
theorem dL_tell_90 : decode cL_tell 90 = .ok (.ireturn, 1) := by decide +kernel
theorem dL_cell_0 : decode cL_cell 0 = .ok (.iload_n 1, 1) := by decide +kernel
theorem dL_cell_1 : decode cL_cell 1 = .ok (.aload_n 0, 1) := by decide +kernel
theorem dL_cell_2 : decode cL_cell 2 = .ok (.arraylength, 1) := by decide +kernel
theorem dL_cell_3 : decode cL_cell 3 = .ok (.if_icmp .ge 12, 3) := by decide +kernel
theorem dL_cell_6 : decode cL_cell 6 = .ok (.aload_n 0, 1) := by decide +kernel
theorem dL_cell_7 : decode cL_cell 7 = .ok (.iload_n 1, 1) := by decide +kernel
theorem dL_cell_8 : decode cL_cell 8 = .ok (.iaload, 1) := by decide +kernel
theorem dL_cell_9 : decode cL_cell 9 = .ok (.ldc 22, 2) := by decide +kernel
theorem dL_cell_11 : decode cL_cell 11 = .ok (.iand, 1) := by decide +kernel
theorem dL_cell_12 : decode cL_cell 12 = .ok (.goto 8, 3) := by decide +kernel
theorem dL_cell_15 : decode cL_cell 15 = .ok (.iload_n 1, 1) := by decide +kernel
theorem dL_cell_16 : decode cL_cell 16 = .ok (.sipush 6577, 3) := by decide +kernel
theorem dL_cell_19 : decode cL_cell 19 = .ok (.imul, 1) := by decide +kernel
theorem dL_cell_20 : decode cL_cell 20 = .ok (.ireturn, 1) := by decide +kernel
theorem dL_far_0 : decode cL_far 0 = .ok (.iload_n 0, 1) := by decide +kernel
theorem dL_far_1 : decode cL_far 1 = .ok (.bipush 10, 2) := by decide +kernel
theorem dL_far_3 : decode cL_far 3 = .ok (.idiv, 1) := by decide +kernel
theorem dL_far_4 : decode cL_far 4 = .ok (.iload_n 1, 1) := by decide +kernel
theorem dL_far_5 : decode cL_far 5 = .ok (.bipush 10, 2) := by decide +kernel
theorem dL_far_7 : decode cL_far 7 = .ok (.idiv, 1) := by decide +kernel
theorem dL_far_8 : decode cL_far 8 = .ok (.isub, 1) := by decide +kernel
theorem dL_far_9 : decode cL_far 9 = .ok (.invokestatic 23, 3) := by decide +kernel
theorem dL_far_12 : decode cL_far 12 = .ok (.iload_n 0, 1) := by decide +kernel
theorem dL_far_13 : decode cL_far 13 = .ok (.bipush 10, 2) := by decide +kernel
theorem dL_far_15 : decode cL_far 15 = .ok (.irem, 1) := by decide +kernel
theorem dL_far_16 : decode cL_far 16 = .ok (.iload_n 1, 1) := by decide +kernel
theorem dL_far_17 : decode cL_far 17 = .ok (.bipush 10, 2) := by decide +kernel
theorem dL_far_19 : decode cL_far 19 = .ok (.irem, 1) := by decide +kernel
theorem dL_far_20 : decode cL_far 20 = .ok (.isub, 1) := by decide +kernel
theorem dL_far_21 : decode cL_far 21 = .ok (.invokestatic 23, 3) := by decide +kernel
theorem dL_far_24 : decode cL_far 24 = .ok (.iadd, 1) := by decide +kernel
theorem dL_far_25 : decode cL_far 25 = .ok (.ireturn, 1) := by decide +kernel
