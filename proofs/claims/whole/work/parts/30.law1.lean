theorem wcl_L_7 : Cond.classLink RL 7 RX11 ∈ lw_big := b1_at 22 rfl rfl
theorem wins_X11 : Cond.instantiable RX11 6 ∈ lw_big := b1_at 23 rfl rfl
theorem wc_X11_init : CWd yX11_init cX11_init 2 none 0 := ⟨b1_at 26 rfl rfl, wini_X11, by decide, by decide, by decide +kernel⟩
theorem wml_L_9 : Cond.methodLink RL 9 yX11_init ∈ lw_big := b1_at 24 rfl rfl
theorem wim_X11_init : Cond.instanceMethod yX11_init ∈ lw_big := b1_at 25 rfl rfl
theorem wcl_L_10 : Cond.classLink RL 10 RX12 ∈ lw_big := b7_at 82 rfl rfl
theorem wins_X12 : Cond.instantiable RX12 90 ∈ lw_big := b7_at 83 rfl rfl
theorem wc_X12_init : CWd yX12_init cX12_init 1 none 0 := ⟨b7_at 86 rfl rfl, wini_X12, by decide, by decide, by decide +kernel⟩
theorem wml_L_12 : Cond.methodLink RL 12 yX12_init ∈ lw_big := b7_at 84 rfl rfl
theorem wim_X12_init : Cond.instanceMethod yX12_init ∈ lw_big := b7_at 85 rfl rfl
theorem wc_X11_days : CWd yX11_days cX11_days 2 (some .int) 1 := ⟨b2_at 92 rfl rfl, wini_X11, by decide, by decide, by decide +kernel⟩
theorem wsel_X11_X11_days : Cond.selects RX11 yX11_days yX11_days ∈ lw_big := b2_at 91 rfl rfl
theorem wsl_11_X11_days : ∀ t ∈ ([11] : List Nat), t < 13 ∧ Cond.selects (RXX t) yX11_days yX11_days ∈ lw_big := fun t ht => by simp only [List.mem_cons, List.not_mem_nil, or_false] at ht; subst ht; exact ⟨by decide, wsel_X11_X11_days⟩
theorem wml_L_13 : Cond.methodLink RL 13 yX11_days ∈ lw_big := b2_at 89 rfl rfl
theorem wim_X11_days : Cond.instanceMethod yX11_days ∈ lw_big := b2_at 90 rfl rfl
theorem wc_X12_days : CWd yX12_days cX12_days 2 (some .int) 1 := ⟨b8_at 122 rfl rfl, wini_X12, by decide, by decide, by decide +kernel⟩
theorem wsel_X12_X12_days : Cond.selects RX12 yX12_days yX12_days ∈ lw_big := b8_at 121 rfl rfl
theorem wsl_12_X12_days : ∀ t ∈ ([12] : List Nat), t < 13 ∧ Cond.selects (RXX t) yX12_days yX12_days ∈ lw_big := fun t ht => by simp only [List.mem_cons, List.not_mem_nil, or_false] at ht; subst ht; exact ⟨by decide, wsel_X12_X12_days⟩
theorem wml_L_17 : Cond.methodLink RL 17 yX12_days ∈ lw_big := b8_at 119 rfl rfl
theorem wim_X12_days : Cond.instanceMethod yX12_days ∈ lw_big := b8_at 120 rfl rfl
theorem wc_X11_owner : CWd yX11_owner cX11_owner 4 (some .int) 2 := ⟨b2_at 96 rfl rfl, wini_X11, by decide, by decide, by decide +kernel⟩
theorem wsel_X11_X11_owner : Cond.selects RX11 yX11_owner yX11_owner ∈ lw_big := b2_at 95 rfl rfl
theorem wsl_11_X11_owner : ∀ t ∈ ([11] : List Nat), t < 13 ∧ Cond.selects (RXX t) yX11_owner yX11_owner ∈ lw_big := fun t ht => by simp only [List.mem_cons, List.not_mem_nil, or_false] at ht; subst ht; exact ⟨by decide, wsel_X11_X11_owner⟩
theorem wml_L_18 : Cond.methodLink RL 18 yX11_owner ∈ lw_big := b2_at 93 rfl rfl
theorem wim_X11_owner : Cond.instanceMethod yX11_owner ∈ lw_big := b2_at 94 rfl rfl
theorem wc_X12_owner : CWd yX12_owner cX12_owner 4 (some .int) 2 := ⟨b8_at 129 rfl rfl, wini_X12, by decide, by decide, by decide +kernel⟩
theorem wsel_X12_X12_owner : Cond.selects RX12 yX12_owner yX12_owner ∈ lw_big := b8_at 128 rfl rfl
theorem wsl_12_X12_owner : ∀ t ∈ ([12] : List Nat), t < 13 ∧ Cond.selects (RXX t) yX12_owner yX12_owner ∈ lw_big := fun t ht => by simp only [List.mem_cons, List.not_mem_nil, or_false] at ht; subst ht; exact ⟨by decide, wsel_X12_X12_owner⟩
theorem wml_L_22 : Cond.methodLink RL 22 yX12_owner ∈ lw_big := b8_at 126 rfl rfl
theorem wim_X12_owner : Cond.instanceMethod yX12_owner ∈ lw_big := b8_at 127 rfl rfl
theorem wc_X11_body : CWd yX11_body cX11_body 2 (some .int) 1 := ⟨b2_at 104 rfl rfl, wini_X11, by decide, by decide, by decide +kernel⟩
theorem wsel_X11_X11_body : Cond.selects RX11 yX11_body yX11_body ∈ lw_big := b2_at 103 rfl rfl
theorem wsl_11_X11_body : ∀ t ∈ ([11] : List Nat), t < 13 ∧ Cond.selects (RXX t) yX11_body yX11_body ∈ lw_big := fun t ht => by simp only [List.mem_cons, List.not_mem_nil, or_false] at ht; subst ht; exact ⟨by decide, wsel_X11_X11_body⟩
theorem wml_L_23 : Cond.methodLink RL 23 yX11_body ∈ lw_big := b2_at 101 rfl rfl
theorem wim_X11_body : Cond.instanceMethod yX11_body ∈ lw_big := b2_at 102 rfl rfl
theorem wc_X12_body : CWd yX12_body cX12_body 2 (some .int) 1 := ⟨b8_at 141 rfl rfl, wini_X12, by decide, by decide, by decide +kernel⟩
theorem wsel_X12_X12_body : Cond.selects RX12 yX12_body yX12_body ∈ lw_big := b8_at 140 rfl rfl
theorem wsl_12_X12_body : ∀ t ∈ ([12] : List Nat), t < 13 ∧ Cond.selects (RXX t) yX12_body yX12_body ∈ lw_big := fun t ht => by simp only [List.mem_cons, List.not_mem_nil, or_false] at ht; subst ht; exact ⟨by decide, wsel_X12_X12_body⟩
theorem wml_L_26 : Cond.methodLink RL 26 yX12_body ∈ lw_big := b8_at 138 rfl rfl
theorem wim_X12_body : Cond.instanceMethod yX12_body ∈ lw_big := b8_at 139 rfl rfl
theorem wc_X11_finder : CWd yX11_finder cX11_finder 2 (some .int) 1 := ⟨b2_at 167 rfl rfl, wini_X11, by decide, by decide, by decide +kernel⟩
theorem wsel_X11_X11_finder : Cond.selects RX11 yX11_finder yX11_finder ∈ lw_big := b2_at 166 rfl rfl
theorem wsl_11_X11_finder : ∀ t ∈ ([11] : List Nat), t < 13 ∧ Cond.selects (RXX t) yX11_finder yX11_finder ∈ lw_big := fun t ht => by simp only [List.mem_cons, List.not_mem_nil, or_false] at ht; subst ht; exact ⟨by decide, wsel_X11_X11_finder⟩
theorem wml_L_27 : Cond.methodLink RL 27 yX11_finder ∈ lw_big := b2_at 164 rfl rfl
theorem wim_X11_finder : Cond.instanceMethod yX11_finder ∈ lw_big := b2_at 165 rfl rfl
theorem wc_X12_finder : CWd yX12_finder cX12_finder 3 (some .int) 1 := ⟨b8_at 149 rfl rfl, wini_X12, by decide, by decide, by decide +kernel⟩
theorem wsel_X12_X12_finder : Cond.selects RX12 yX12_finder yX12_finder ∈ lw_big := b8_at 148 rfl rfl
theorem wsl_12_X12_finder : ∀ t ∈ ([12] : List Nat), t < 13 ∧ Cond.selects (RXX t) yX12_finder yX12_finder ∈ lw_big := fun t ht => by simp only [List.mem_cons, List.not_mem_nil, or_false] at ht; subst ht; exact ⟨by decide, wsel_X12_X12_finder⟩
theorem wml_L_30 : Cond.methodLink RL 30 yX12_finder ∈ lw_big := b8_at 146 rfl rfl
theorem wim_X12_finder : Cond.instanceMethod yX12_finder ∈ lw_big := b8_at 147 rfl rfl
theorem wc_X11_leaves : CWd yX11_leaves cX11_leaves 3 (some .int) 1 := ⟨b2_at 194 rfl rfl, wini_X11, by decide, by decide, by decide +kernel⟩
theorem wsel_X11_X11_leaves : Cond.selects RX11 yX11_leaves yX11_leaves ∈ lw_big := b2_at 193 rfl rfl
theorem wsl_11_X11_leaves : ∀ t ∈ ([11] : List Nat), t < 13 ∧ Cond.selects (RXX t) yX11_leaves yX11_leaves ∈ lw_big := fun t ht => by simp only [List.mem_cons, List.not_mem_nil, or_false] at ht; subst ht; exact ⟨by decide, wsel_X11_X11_leaves⟩
theorem wml_L_31 : Cond.methodLink RL 31 yX11_leaves ∈ lw_big := b2_at 191 rfl rfl
theorem wim_X11_leaves : Cond.instanceMethod yX11_leaves ∈ lw_big := b2_at 192 rfl rfl
theorem wc_X12_leaves : CWd yX12_leaves cX12_leaves 2 (some .int) 1 := ⟨b8_at 153 rfl rfl, wini_X12, by decide, by decide, by decide +kernel⟩
theorem wsel_X12_X12_leaves : Cond.selects RX12 yX12_leaves yX12_leaves ∈ lw_big := b8_at 152 rfl rfl
theorem wsl_12_X12_leaves : ∀ t ∈ ([12] : List Nat), t < 13 ∧ Cond.selects (RXX t) yX12_leaves yX12_leaves ∈ lw_big := fun t ht => by simp only [List.mem_cons, List.not_mem_nil, or_false] at ht; subst ht; exact ⟨by decide, wsel_X12_X12_leaves⟩
theorem wml_L_34 : Cond.methodLink RL 34 yX12_leaves ∈ lw_big := b8_at 150 rfl rfl
theorem wim_X12_leaves : Cond.instanceMethod yX12_leaves ∈ lw_big := b8_at 151 rfl rfl
theorem wc_X11_step : CWd yX11_step cX11_step 2 (some .int) 1 := ⟨b2_at 207 rfl rfl, wini_X11, by decide, by decide, by decide +kernel⟩
theorem wsel_X11_X11_step : Cond.selects RX11 yX11_step yX11_step ∈ lw_big := b2_at 206 rfl rfl
theorem wsl_11_X11_step : ∀ t ∈ ([11] : List Nat), t < 13 ∧ Cond.selects (RXX t) yX11_step yX11_step ∈ lw_big := fun t ht => by simp only [List.mem_cons, List.not_mem_nil, or_false] at ht; subst ht; exact ⟨by decide, wsel_X11_X11_step⟩
theorem wml_L_35 : Cond.methodLink RL 35 yX11_step ∈ lw_big := b2_at 204 rfl rfl
theorem wim_X11_step : Cond.instanceMethod yX11_step ∈ lw_big := b2_at 205 rfl rfl
theorem wc_X12_step : CWd yX12_step cX12_step 2 (some .int) 1 := ⟨b8_at 165 rfl rfl, wini_X12, by decide, by decide, by decide +kernel⟩
theorem wsel_X12_X12_step : Cond.selects RX12 yX12_step yX12_step ∈ lw_big := b8_at 164 rfl rfl
theorem wsl_12_X12_step : ∀ t ∈ ([12] : List Nat), t < 13 ∧ Cond.selects (RXX t) yX12_step yX12_step ∈ lw_big := fun t ht => by simp only [List.mem_cons, List.not_mem_nil, or_false] at ht; subst ht; exact ⟨by decide, wsel_X12_X12_step⟩
theorem wml_L_38 : Cond.methodLink RL 38 yX12_step ∈ lw_big := b8_at 162 rfl rfl
theorem wim_X12_step : Cond.instanceMethod yX12_step ∈ lw_big := b8_at 163 rfl rfl
theorem wc_X11_why : CWd yX11_why cX11_why 7 (some .int) 4 := ⟨b2_at 211 rfl rfl, wini_X11, by decide, by decide, by decide +kernel⟩
theorem wsel_X11_X11_why : Cond.selects RX11 yX11_why yX11_why ∈ lw_big := b2_at 210 rfl rfl
theorem wsl_11_X11_why : ∀ t ∈ ([11] : List Nat), t < 13 ∧ Cond.selects (RXX t) yX11_why yX11_why ∈ lw_big := fun t ht => by simp only [List.mem_cons, List.not_mem_nil, or_false] at ht; subst ht; exact ⟨by decide, wsel_X11_X11_why⟩
theorem wml_L_39 : Cond.methodLink RL 39 yX11_why ∈ lw_big := b2_at 208 rfl rfl
theorem wim_X11_why : Cond.instanceMethod yX11_why ∈ lw_big := b2_at 209 rfl rfl
theorem wc_X12_why : CWd yX12_why cX12_why 6 (some .int) 4 := ⟨b9_at 212 rfl rfl, wini_X12, by decide, by decide, by decide +kernel⟩
theorem wsel_X12_X12_why : Cond.selects RX12 yX12_why yX12_why ∈ lw_big := b9_at 211 rfl rfl
theorem wsl_12_X12_why : ∀ t ∈ ([12] : List Nat), t < 13 ∧ Cond.selects (RXX t) yX12_why yX12_why ∈ lw_big := fun t ht => by simp only [List.mem_cons, List.not_mem_nil, or_false] at ht; subst ht; exact ⟨by decide, wsel_X12_X12_why⟩
theorem wml_L_43 : Cond.methodLink RL 43 yX12_why ∈ lw_big := b9_at 209 rfl rfl
theorem wim_X12_why : Cond.instanceMethod yX12_why ∈ lw_big := b9_at 210 rfl rfl
theorem wc_X11_hide : CWd yX11_hide cX11_hide 7 (some .int) 3 := ⟨b3_at 77 rfl rfl, wini_X11, by decide, by decide, by decide +kernel⟩
theorem wsel_X11_X11_hide : Cond.selects RX11 yX11_hide yX11_hide ∈ lw_big := b3_at 76 rfl rfl
theorem wsl_11_X11_hide : ∀ t ∈ ([11] : List Nat), t < 13 ∧ Cond.selects (RXX t) yX11_hide yX11_hide ∈ lw_big := fun t ht => by simp only [List.mem_cons, List.not_mem_nil, or_false] at ht; subst ht; exact ⟨by decide, wsel_X11_X11_hide⟩
theorem wml_L_44 : Cond.methodLink RL 44 yX11_hide ∈ lw_big := b3_at 74 rfl rfl
theorem wim_X11_hide : Cond.instanceMethod yX11_hide ∈ lw_big := b3_at 75 rfl rfl
theorem wc_X12_hide : CWd yX12_hide cX12_hide 7 (some .int) 3 := ⟨b9_at 228 rfl rfl, wini_X12, by decide, by decide, by decide +kernel⟩
theorem wsel_X12_X12_hide : Cond.selects RX12 yX12_hide yX12_hide ∈ lw_big := b9_at 227 rfl rfl
theorem wsl_12_X12_hide : ∀ t ∈ ([12] : List Nat), t < 13 ∧ Cond.selects (RXX t) yX12_hide yX12_hide ∈ lw_big := fun t ht => by simp only [List.mem_cons, List.not_mem_nil, or_false] at ht; subst ht; exact ⟨by decide, wsel_X12_X12_hide⟩
theorem wml_L_48 : Cond.methodLink RL 48 yX12_hide ∈ lw_big := b9_at 225 rfl rfl
theorem wim_X12_hide : Cond.instanceMethod yX12_hide ∈ lw_big := b9_at 226 rfl rfl
theorem wc_X11_move : CWd yX11_move cX11_move 6 (some .int) 3 := ⟨b3_at 227 rfl rfl, wini_X11, by decide, by decide, by decide +kernel⟩
theorem wsel_X11_X11_move : Cond.selects RX11 yX11_move yX11_move ∈ lw_big := b3_at 226 rfl rfl
theorem wsl_11_X11_move : ∀ t ∈ ([11] : List Nat), t < 13 ∧ Cond.selects (RXX t) yX11_move yX11_move ∈ lw_big := fun t ht => by simp only [List.mem_cons, List.not_mem_nil, or_false] at ht; subst ht; exact ⟨by decide, wsel_X11_X11_move⟩
theorem wml_L_49 : Cond.methodLink RL 49 yX11_move ∈ lw_big := b3_at 224 rfl rfl
theorem wim_X11_move : Cond.instanceMethod yX11_move ∈ lw_big := b3_at 225 rfl rfl
theorem wc_X12_move : CWd yX12_move cX12_move 6 (some .int) 3 := ⟨b8_at 195 rfl rfl, wini_X12, by decide, by decide, by decide +kernel⟩
theorem wsel_X12_X12_move : Cond.selects RX12 yX12_move yX12_move ∈ lw_big := b8_at 194 rfl rfl
theorem wsl_12_X12_move : ∀ t ∈ ([12] : List Nat), t < 13 ∧ Cond.selects (RXX t) yX12_move yX12_move ∈ lw_big := fun t ht => by simp only [List.mem_cons, List.not_mem_nil, or_false] at ht; subst ht; exact ⟨by decide, wsel_X12_X12_move⟩
theorem wml_L_52 : Cond.methodLink RL 52 yX12_move ∈ lw_big := b8_at 192 rfl rfl
theorem wim_X12_move : Cond.instanceMethod yX12_move ∈ lw_big := b8_at 193 rfl rfl
theorem wc_X11_down : CWd yX11_down cX11_down 3 (some .int) 1 := ⟨b4_at 5 rfl rfl, wini_X11, by decide, by decide, by decide +kernel⟩
theorem wsel_X11_X11_down : Cond.selects RX11 yX11_down yX11_down ∈ lw_big := b4_at 4 rfl rfl
theorem wsl_11_X11_down : ∀ t ∈ ([11] : List Nat), t < 13 ∧ Cond.selects (RXX t) yX11_down yX11_down ∈ lw_big := fun t ht => by simp only [List.mem_cons, List.not_mem_nil, or_false] at ht; subst ht; exact ⟨by decide, wsel_X11_X11_down⟩
theorem wml_L_53 : Cond.methodLink RL 53 yX11_down ∈ lw_big := b4_at 2 rfl rfl
theorem wim_X11_down : Cond.instanceMethod yX11_down ∈ lw_big := b4_at 3 rfl rfl
theorem wc_X12_down : CWd yX12_down cX12_down 2 (some .int) 1 := ⟨b8_at 199 rfl rfl, wini_X12, by decide, by decide, by decide +kernel⟩
theorem wsel_X12_X12_down : Cond.selects RX12 yX12_down yX12_down ∈ lw_big := b8_at 198 rfl rfl
theorem wsl_12_X12_down : ∀ t ∈ ([12] : List Nat), t < 13 ∧ Cond.selects (RXX t) yX12_down yX12_down ∈ lw_big := fun t ht => by simp only [List.mem_cons, List.not_mem_nil, or_false] at ht; subst ht; exact ⟨by decide, wsel_X12_X12_down⟩
theorem wml_L_56 : Cond.methodLink RL 56 yX12_down ∈ lw_big := b8_at 196 rfl rfl
theorem wim_X12_down : Cond.instanceMethod yX12_down ∈ lw_big := b8_at 197 rfl rfl
theorem wc_X11_ofBody : CWd yX11_ofBody cX11_ofBody 4 (some .int) 2 := ⟨b4_at 9 rfl rfl, wini_X11, by decide, by decide, by decide +kernel⟩
theorem wsel_X11_X11_ofBody : Cond.selects RX11 yX11_ofBody yX11_ofBody ∈ lw_big := b4_at 8 rfl rfl
theorem wsl_11_X11_ofBody : ∀ t ∈ ([11] : List Nat), t < 13 ∧ Cond.selects (RXX t) yX11_ofBody yX11_ofBody ∈ lw_big := fun t ht => by simp only [List.mem_cons, List.not_mem_nil, or_false] at ht; subst ht; exact ⟨by decide, wsel_X11_X11_ofBody⟩
theorem wml_L_57 : Cond.methodLink RL 57 yX11_ofBody ∈ lw_big := b4_at 6 rfl rfl
theorem wim_X11_ofBody : Cond.instanceMethod yX11_ofBody ∈ lw_big := b4_at 7 rfl rfl
theorem wc_X12_ofBody : CWd yX12_ofBody cX12_ofBody 3 (some .int) 2 := ⟨b8_at 203 rfl rfl, wini_X12, by decide, by decide, by decide +kernel⟩
theorem wsel_X12_X12_ofBody : Cond.selects RX12 yX12_ofBody yX12_ofBody ∈ lw_big := b8_at 202 rfl rfl
theorem wsl_12_X12_ofBody : ∀ t ∈ ([12] : List Nat), t < 13 ∧ Cond.selects (RXX t) yX12_ofBody yX12_ofBody ∈ lw_big := fun t ht => by simp only [List.mem_cons, List.not_mem_nil, or_false] at ht; subst ht; exact ⟨by decide, wsel_X12_X12_ofBody⟩
theorem wml_L_60 : Cond.methodLink RL 60 yX12_ofBody ∈ lw_big := b8_at 200 rfl rfl
theorem wim_X12_ofBody : Cond.instanceMethod yX12_ofBody ∈ lw_big := b8_at 201 rfl rfl
theorem wc_X11_liesAt : CWd yX11_liesAt cX11_liesAt 6 (some .int) 3 := ⟨b4_at 34 rfl rfl, wini_X11, by decide, by decide, by decide +kernel⟩
theorem wsel_X11_X11_liesAt : Cond.selects RX11 yX11_liesAt yX11_liesAt ∈ lw_big := b4_at 33 rfl rfl
theorem wsl_11_X11_liesAt : ∀ t ∈ ([11] : List Nat), t < 13 ∧ Cond.selects (RXX t) yX11_liesAt yX11_liesAt ∈ lw_big := fun t ht => by simp only [List.mem_cons, List.not_mem_nil, or_false] at ht; subst ht; exact ⟨by decide, wsel_X11_X11_liesAt⟩
theorem wml_L_61 : Cond.methodLink RL 61 yX11_liesAt ∈ lw_big := b4_at 31 rfl rfl
theorem wim_X11_liesAt : Cond.instanceMethod yX11_liesAt ∈ lw_big := b4_at 32 rfl rfl
theorem wc_X12_liesAt : CWd yX12_liesAt cX12_liesAt 4 (some .int) 3 := ⟨b8_at 169 rfl rfl, wini_X12, by decide, by decide, by decide +kernel⟩
theorem wsel_X12_X12_liesAt : Cond.selects RX12 yX12_liesAt yX12_liesAt ∈ lw_big := b8_at 168 rfl rfl
theorem wsl_12_X12_liesAt : ∀ t ∈ ([12] : List Nat), t < 13 ∧ Cond.selects (RXX t) yX12_liesAt yX12_liesAt ∈ lw_big := fun t ht => by simp only [List.mem_cons, List.not_mem_nil, or_false] at ht; subst ht; exact ⟨by decide, wsel_X12_X12_liesAt⟩
theorem wml_L_64 : Cond.methodLink RL 64 yX12_liesAt ∈ lw_big := b8_at 166 rfl rfl
theorem wim_X12_liesAt : Cond.instanceMethod yX12_liesAt ∈ lw_big := b8_at 167 rfl rfl
theorem wc_X11_feed : CWd yX11_feed cX11_feed 4 (some .int) 2 := ⟨b4_at 47 rfl rfl, wini_X11, by decide, by decide, by decide +kernel⟩
theorem wsel_X11_X11_feed : Cond.selects RX11 yX11_feed yX11_feed ∈ lw_big := b4_at 46 rfl rfl
theorem wsl_11_X11_feed : ∀ t ∈ ([11] : List Nat), t < 13 ∧ Cond.selects (RXX t) yX11_feed yX11_feed ∈ lw_big := fun t ht => by simp only [List.mem_cons, List.not_mem_nil, or_false] at ht; subst ht; exact ⟨by decide, wsel_X11_X11_feed⟩
theorem wml_L_65 : Cond.methodLink RL 65 yX11_feed ∈ lw_big := b4_at 44 rfl rfl
theorem wim_X11_feed : Cond.instanceMethod yX11_feed ∈ lw_big := b4_at 45 rfl rfl
theorem wc_X12_feed : CWd yX12_feed cX12_feed 4 (some .int) 2 := ⟨b9_at 103 rfl rfl, wini_X12, by decide, by decide, by decide +kernel⟩
theorem wsel_X12_X12_feed : Cond.selects RX12 yX12_feed yX12_feed ∈ lw_big := b9_at 102 rfl rfl
theorem wsl_12_X12_feed : ∀ t ∈ ([12] : List Nat), t < 13 ∧ Cond.selects (RXX t) yX12_feed yX12_feed ∈ lw_big := fun t ht => by simp only [List.mem_cons, List.not_mem_nil, or_false] at ht; subst ht; exact ⟨by decide, wsel_X12_X12_feed⟩
theorem wml_L_68 : Cond.methodLink RL 68 yX12_feed ∈ lw_big := b9_at 100 rfl rfl
theorem wim_X12_feed : Cond.instanceMethod yX12_feed ∈ lw_big := b9_at 101 rfl rfl
theorem wc_X11_rule : CWd yX11_rule cX11_rule 3 (some .int) 2 := ⟨b4_at 59 rfl rfl, wini_X11, by decide, by decide, by decide +kernel⟩
theorem wsel_X11_X11_rule : Cond.selects RX11 yX11_rule yX11_rule ∈ lw_big := b4_at 58 rfl rfl
theorem wsl_11_X11_rule : ∀ t ∈ ([11] : List Nat), t < 13 ∧ Cond.selects (RXX t) yX11_rule yX11_rule ∈ lw_big := fun t ht => by simp only [List.mem_cons, List.not_mem_nil, or_false] at ht; subst ht; exact ⟨by decide, wsel_X11_X11_rule⟩
theorem wml_L_69 : Cond.methodLink RL 69 yX11_rule ∈ lw_big := b4_at 56 rfl rfl
theorem wim_X11_rule : Cond.instanceMethod yX11_rule ∈ lw_big := b4_at 57 rfl rfl
theorem wc_X12_rule : CWd yX12_rule cX12_rule 3 (some .int) 2 := ⟨b9_at 107 rfl rfl, wini_X12, by decide, by decide, by decide +kernel⟩
theorem wsel_X12_X12_rule : Cond.selects RX12 yX12_rule yX12_rule ∈ lw_big := b9_at 106 rfl rfl
theorem wsl_12_X12_rule : ∀ t ∈ ([12] : List Nat), t < 13 ∧ Cond.selects (RXX t) yX12_rule yX12_rule ∈ lw_big := fun t ht => by simp only [List.mem_cons, List.not_mem_nil, or_false] at ht; subst ht; exact ⟨by decide, wsel_X12_X12_rule⟩
theorem wml_L_72 : Cond.methodLink RL 72 yX12_rule ∈ lw_big := b9_at 104 rfl rfl
theorem wim_X12_rule : Cond.instanceMethod yX12_rule ∈ lw_big := b9_at 105 rfl rfl
theorem wc_X11_inForce : CWd yX11_inForce cX11_inForce 5 (some .int) 3 := ⟨b5_at 33 rfl rfl, wini_X11, by decide, by decide, by decide +kernel⟩
theorem wsel_X11_X11_inForce : Cond.selects RX11 yX11_inForce yX11_inForce ∈ lw_big := b5_at 32 rfl rfl
theorem wsl_11_X11_inForce : ∀ t ∈ ([11] : List Nat), t < 13 ∧ Cond.selects (RXX t) yX11_inForce yX11_inForce ∈ lw_big := fun t ht => by simp only [List.mem_cons, List.not_mem_nil, or_false] at ht; subst ht; exact ⟨by decide, wsel_X11_X11_inForce⟩
theorem wml_L_73 : Cond.methodLink RL 73 yX11_inForce ∈ lw_big := b5_at 30 rfl rfl
theorem wim_X11_inForce : Cond.instanceMethod yX11_inForce ∈ lw_big := b5_at 31 rfl rfl
theorem wc_X12_inForce : CWd yX12_inForce cX12_inForce 4 (some .int) 3 := ⟨b9_at 184 rfl rfl, wini_X12, by decide, by decide, by decide +kernel⟩
theorem wsel_X12_X12_inForce : Cond.selects RX12 yX12_inForce yX12_inForce ∈ lw_big := b9_at 183 rfl rfl
theorem wsl_12_X12_inForce : ∀ t ∈ ([12] : List Nat), t < 13 ∧ Cond.selects (RXX t) yX12_inForce yX12_inForce ∈ lw_big := fun t ht => by simp only [List.mem_cons, List.not_mem_nil, or_false] at ht; subst ht; exact ⟨by decide, wsel_X12_X12_inForce⟩
theorem wml_L_76 : Cond.methodLink RL 76 yX12_inForce ∈ lw_big := b9_at 181 rfl rfl
theorem wim_X12_inForce : Cond.instanceMethod yX12_inForce ∈ lw_big := b9_at 182 rfl rfl
theorem wc_X11_says : CWd yX11_says cX11_says 6 (some .int) 4 := ⟨b5_at 38 rfl rfl, wini_X11, by decide, by decide, by decide +kernel⟩
theorem wsel_X11_X11_says : Cond.selects RX11 yX11_says yX11_says ∈ lw_big := b5_at 37 rfl rfl
theorem wsl_11_X11_says : ∀ t ∈ ([11] : List Nat), t < 13 ∧ Cond.selects (RXX t) yX11_says yX11_says ∈ lw_big := fun t ht => by simp only [List.mem_cons, List.not_mem_nil, or_false] at ht; subst ht; exact ⟨by decide, wsel_X11_X11_says⟩
theorem wml_L_77 : Cond.methodLink RL 77 yX11_says ∈ lw_big := b5_at 35 rfl rfl
theorem wim_X11_says : Cond.instanceMethod yX11_says ∈ lw_big := b5_at 36 rfl rfl
theorem wc_X12_says : CWd yX12_says cX12_says 6 (some .int) 4 := ⟨b9_at 188 rfl rfl, wini_X12, by decide, by decide, by decide +kernel⟩
theorem wsel_X12_X12_says : Cond.selects RX12 yX12_says yX12_says ∈ lw_big := b9_at 187 rfl rfl
theorem wsl_12_X12_says : ∀ t ∈ ([12] : List Nat), t < 13 ∧ Cond.selects (RXX t) yX12_says yX12_says ∈ lw_big := fun t ht => by simp only [List.mem_cons, List.not_mem_nil, or_false] at ht; subst ht; exact ⟨by decide, wsel_X12_X12_says⟩
theorem wml_L_80 : Cond.methodLink RL 80 yX12_says ∈ lw_big := b9_at 185 rfl rfl
theorem wim_X12_says : Cond.instanceMethod yX12_says ∈ lw_big := b9_at 186 rfl rfl
theorem wc_X11_nearest : CWd yX11_nearest cX11_nearest 8 (some .int) 2 := ⟨b5_at 49 rfl rfl, wini_X11, by decide, by decide, by decide +kernel⟩
theorem wsel_X11_X11_nearest : Cond.selects RX11 yX11_nearest yX11_nearest ∈ lw_big := b5_at 48 rfl rfl
theorem wsl_11_X11_nearest : ∀ t ∈ ([11] : List Nat), t < 13 ∧ Cond.selects (RXX t) yX11_nearest yX11_nearest ∈ lw_big := fun t ht => by simp only [List.mem_cons, List.not_mem_nil, or_false] at ht; subst ht; exact ⟨by decide, wsel_X11_X11_nearest⟩
theorem wml_L_81 : Cond.methodLink RL 81 yX11_nearest ∈ lw_big := b5_at 46 rfl rfl
theorem wim_X11_nearest : Cond.instanceMethod yX11_nearest ∈ lw_big := b5_at 47 rfl rfl
theorem wc_X12_nearest : CWd yX12_nearest cX12_nearest 6 (some .int) 2 := ⟨b9_at 208 rfl rfl, wini_X12, by decide, by decide, by decide +kernel⟩
theorem wsel_X12_X12_nearest : Cond.selects RX12 yX12_nearest yX12_nearest ∈ lw_big := b9_at 207 rfl rfl
theorem wsl_12_X12_nearest : ∀ t ∈ ([12] : List Nat), t < 13 ∧ Cond.selects (RXX t) yX12_nearest yX12_nearest ∈ lw_big := fun t ht => by simp only [List.mem_cons, List.not_mem_nil, or_false] at ht; subst ht; exact ⟨by decide, wsel_X12_X12_nearest⟩
theorem wml_L_84 : Cond.methodLink RL 84 yX12_nearest ∈ lw_big := b9_at 205 rfl rfl
theorem wim_X12_nearest : Cond.instanceMethod yX12_nearest ∈ lw_big := b9_at 206 rfl rfl
theorem wc_X11_riddle : CWd yX11_riddle cX11_riddle 7 (some .int) 4 := ⟨b5_at 58 rfl rfl, wini_X11, by decide, by decide, by decide +kernel⟩
theorem wsel_X11_X11_riddle : Cond.selects RX11 yX11_riddle yX11_riddle ∈ lw_big := b5_at 57 rfl rfl
theorem wsl_11_X11_riddle : ∀ t ∈ ([11] : List Nat), t < 13 ∧ Cond.selects (RXX t) yX11_riddle yX11_riddle ∈ lw_big := fun t ht => by simp only [List.mem_cons, List.not_mem_nil, or_false] at ht; subst ht; exact ⟨by decide, wsel_X11_X11_riddle⟩
theorem wml_L_85 : Cond.methodLink RL 85 yX11_riddle ∈ lw_big := b5_at 55 rfl rfl
theorem wim_X11_riddle : Cond.instanceMethod yX11_riddle ∈ lw_big := b5_at 56 rfl rfl
theorem wc_X12_riddle : CWd yX12_riddle cX12_riddle 10 (some .int) 4 := ⟨b9_at 232 rfl rfl, wini_X12, by decide, by decide, by decide +kernel⟩
theorem wsel_X12_X12_riddle : Cond.selects RX12 yX12_riddle yX12_riddle ∈ lw_big := b9_at 231 rfl rfl
theorem wsl_12_X12_riddle : ∀ t ∈ ([12] : List Nat), t < 13 ∧ Cond.selects (RXX t) yX12_riddle yX12_riddle ∈ lw_big := fun t ht => by simp only [List.mem_cons, List.not_mem_nil, or_false] at ht; subst ht; exact ⟨by decide, wsel_X12_X12_riddle⟩
theorem wml_L_88 : Cond.methodLink RL 88 yX12_riddle ∈ lw_big := b9_at 229 rfl rfl
theorem wim_X12_riddle : Cond.instanceMethod yX12_riddle ∈ lw_big := b9_at 230 rfl rfl
theorem wc_X11_solve : CWd yX11_solve cX11_solve 4 (some .int) 2 := ⟨b5_at 108 rfl rfl, wini_X11, by decide, by decide, by decide +kernel⟩
theorem wsel_X11_X11_solve : Cond.selects RX11 yX11_solve yX11_solve ∈ lw_big := b5_at 107 rfl rfl
theorem wsl_11_X11_solve : ∀ t ∈ ([11] : List Nat), t < 13 ∧ Cond.selects (RXX t) yX11_solve yX11_solve ∈ lw_big := fun t ht => by simp only [List.mem_cons, List.not_mem_nil, or_false] at ht; subst ht; exact ⟨by decide, wsel_X11_X11_solve⟩
theorem wml_L_89 : Cond.methodLink RL 89 yX11_solve ∈ lw_big := b5_at 105 rfl rfl
theorem wim_X11_solve : Cond.instanceMethod yX11_solve ∈ lw_big := b5_at 106 rfl rfl
theorem wc_X12_solve : CWd yX12_solve cX12_solve 3 (some .int) 2 := ⟨b10_at 4 rfl rfl, wini_X12, by decide, by decide, by decide +kernel⟩
theorem wsel_X12_X12_solve : Cond.selects RX12 yX12_solve yX12_solve ∈ lw_big := b10_at 3 rfl rfl
theorem wsl_12_X12_solve : ∀ t ∈ ([12] : List Nat), t < 13 ∧ Cond.selects (RXX t) yX12_solve yX12_solve ∈ lw_big := fun t ht => by simp only [List.mem_cons, List.not_mem_nil, or_false] at ht; subst ht; exact ⟨by decide, wsel_X12_X12_solve⟩
theorem wml_L_92 : Cond.methodLink RL 92 yX12_solve ∈ lw_big := b10_at 1 rfl rfl
theorem wim_X12_solve : Cond.instanceMethod yX12_solve ∈ lw_big := b10_at 2 rfl rfl
theorem wc_X11_solved : CWd yX11_solved cX11_solved 4 (some .int) 2 := ⟨b5_at 161 rfl rfl, wini_X11, by decide, by decide, by decide +kernel⟩
theorem wsel_X11_X11_solved : Cond.selects RX11 yX11_solved yX11_solved ∈ lw_big := b5_at 160 rfl rfl
theorem wsl_11_X11_solved : ∀ t ∈ ([11] : List Nat), t < 13 ∧ Cond.selects (RXX t) yX11_solved yX11_solved ∈ lw_big := fun t ht => by simp only [List.mem_cons, List.not_mem_nil, or_false] at ht; subst ht; exact ⟨by decide, wsel_X11_X11_solved⟩
theorem wml_L_93 : Cond.methodLink RL 93 yX11_solved ∈ lw_big := b5_at 158 rfl rfl
theorem wim_X11_solved : Cond.instanceMethod yX11_solved ∈ lw_big := b5_at 159 rfl rfl
theorem wc_X12_solved : CWd yX12_solved cX12_solved 3 (some .int) 2 := ⟨b10_at 40 rfl rfl, wini_X12, by decide, by decide, by decide +kernel⟩
theorem wsel_X12_X12_solved : Cond.selects RX12 yX12_solved yX12_solved ∈ lw_big := b10_at 39 rfl rfl
theorem wsl_12_X12_solved : ∀ t ∈ ([12] : List Nat), t < 13 ∧ Cond.selects (RXX t) yX12_solved yX12_solved ∈ lw_big := fun t ht => by simp only [List.mem_cons, List.not_mem_nil, or_false] at ht; subst ht; exact ⟨by decide, wsel_X12_X12_solved⟩
theorem wml_L_96 : Cond.methodLink RL 96 yX12_solved ∈ lw_big := b10_at 37 rfl rfl
theorem wim_X12_solved : Cond.instanceMethod yX12_solved ∈ lw_big := b10_at 38 rfl rfl
theorem wc_X11_others : CWd yX11_others cX11_others 5 (some .long) 2 := ⟨b5_at 165 rfl rfl, wini_X11, by decide, by decide, by decide +kernel⟩
theorem wsel_X11_X11_others : Cond.selects RX11 yX11_others yX11_others ∈ lw_big := b5_at 164 rfl rfl
theorem wsl_11_X11_others : ∀ t ∈ ([11] : List Nat), t < 13 ∧ Cond.selects (RXX t) yX11_others yX11_others ∈ lw_big := fun t ht => by simp only [List.mem_cons, List.not_mem_nil, or_false] at ht; subst ht; exact ⟨by decide, wsel_X11_X11_others⟩
theorem wml_L_97 : Cond.methodLink RL 97 yX11_others ∈ lw_big := b5_at 162 rfl rfl
theorem wim_X11_others : Cond.instanceMethod yX11_others ∈ lw_big := b5_at 163 rfl rfl
theorem wc_X12_others : CWd yX12_others cX12_others 3 (some .long) 2 := ⟨b10_at 44 rfl rfl, wini_X12, by decide, by decide, by decide +kernel⟩
theorem wsel_X12_X12_others : Cond.selects RX12 yX12_others yX12_others ∈ lw_big := b10_at 43 rfl rfl
theorem wsl_12_X12_others : ∀ t ∈ ([12] : List Nat), t < 13 ∧ Cond.selects (RXX t) yX12_others yX12_others ∈ lw_big := fun t ht => by simp only [List.mem_cons, List.not_mem_nil, or_false] at ht; subst ht; exact ⟨by decide, wsel_X12_X12_others⟩
theorem wml_L_101 : Cond.methodLink RL 101 yX12_others ∈ lw_big := b10_at 41 rfl rfl
theorem wim_X12_others : Cond.instanceMethod yX12_others ∈ lw_big := b10_at 42 rfl rfl
theorem wc_X11_log : CWd yX11_log cX11_log 5 (some .int) 4 := ⟨b5_at 172 rfl rfl, wini_X11, by decide, by decide, by decide +kernel⟩
theorem wsel_X11_X11_log : Cond.selects RX11 yX11_log yX11_log ∈ lw_big := b5_at 171 rfl rfl
theorem wsl_11_X11_log : ∀ t ∈ ([11] : List Nat), t < 13 ∧ Cond.selects (RXX t) yX11_log yX11_log ∈ lw_big := fun t ht => by simp only [List.mem_cons, List.not_mem_nil, or_false] at ht; subst ht; exact ⟨by decide, wsel_X11_X11_log⟩
theorem wml_L_102 : Cond.methodLink RL 102 yX11_log ∈ lw_big := b5_at 169 rfl rfl
theorem wim_X11_log : Cond.instanceMethod yX11_log ∈ lw_big := b5_at 170 rfl rfl
theorem wc_X12_log : CWd yX12_log cX12_log 5 (some .int) 4 := ⟨b8_at 235 rfl rfl, wini_X12, by decide, by decide, by decide +kernel⟩
theorem wsel_X12_X12_log : Cond.selects RX12 yX12_log yX12_log ∈ lw_big := b8_at 234 rfl rfl
theorem wsl_12_X12_log : ∀ t ∈ ([12] : List Nat), t < 13 ∧ Cond.selects (RXX t) yX12_log yX12_log ∈ lw_big := fun t ht => by simp only [List.mem_cons, List.not_mem_nil, or_false] at ht; subst ht; exact ⟨by decide, wsel_X12_X12_log⟩
theorem wml_L_105 : Cond.methodLink RL 105 yX12_log ∈ lw_big := b8_at 232 rfl rfl
theorem wim_X12_log : Cond.instanceMethod yX12_log ∈ lw_big := b8_at 233 rfl rfl
theorem wc_X11_paper : CWd yX11_paper cX11_paper 9 (some .int) 4 := ⟨b5_at 193 rfl rfl, wini_X11, by decide, by decide, by decide +kernel⟩
theorem wsel_X11_X11_paper : Cond.selects RX11 yX11_paper yX11_paper ∈ lw_big := b5_at 192 rfl rfl
theorem wsl_11_X11_paper : ∀ t ∈ ([11] : List Nat), t < 13 ∧ Cond.selects (RXX t) yX11_paper yX11_paper ∈ lw_big := fun t ht => by simp only [List.mem_cons, List.not_mem_nil, or_false] at ht; subst ht; exact ⟨by decide, wsel_X11_X11_paper⟩
theorem wml_L_106 : Cond.methodLink RL 106 yX11_paper ∈ lw_big := b5_at 190 rfl rfl
theorem wim_X11_paper : Cond.instanceMethod yX11_paper ∈ lw_big := b5_at 191 rfl rfl
theorem wc_X12_paper : CWd yX12_paper cX12_paper 8 (some .int) 4 := ⟨b8_at 239 rfl rfl, wini_X12, by decide, by decide, by decide +kernel⟩
theorem wsel_X12_X12_paper : Cond.selects RX12 yX12_paper yX12_paper ∈ lw_big := b8_at 238 rfl rfl
theorem wsl_12_X12_paper : ∀ t ∈ ([12] : List Nat), t < 13 ∧ Cond.selects (RXX t) yX12_paper yX12_paper ∈ lw_big := fun t ht => by simp only [List.mem_cons, List.not_mem_nil, or_false] at ht; subst ht; exact ⟨by decide, wsel_X12_X12_paper⟩
theorem wml_L_109 : Cond.methodLink RL 109 yX12_paper ∈ lw_big := b8_at 236 rfl rfl
theorem wim_X12_paper : Cond.instanceMethod yX12_paper ∈ lw_big := b8_at 237 rfl rfl
theorem wc_X11_join : CWd yX11_join cX11_join 7 (some .int) 3 := ⟨b5_at 198 rfl rfl, wini_X11, by decide, by decide, by decide +kernel⟩
theorem wsel_X11_X11_join : Cond.selects RX11 yX11_join yX11_join ∈ lw_big := b5_at 197 rfl rfl
theorem wsl_11_X11_join : ∀ t ∈ ([11] : List Nat), t < 13 ∧ Cond.selects (RXX t) yX11_join yX11_join ∈ lw_big := fun t ht => by simp only [List.mem_cons, List.not_mem_nil, or_false] at ht; subst ht; exact ⟨by decide, wsel_X11_X11_join⟩
theorem wml_L_110 : Cond.methodLink RL 110 yX11_join ∈ lw_big := b5_at 195 rfl rfl
theorem wim_X11_join : Cond.instanceMethod yX11_join ∈ lw_big := b5_at 196 rfl rfl
theorem wc_X12_join : CWd yX12_join cX12_join 6 (some .int) 3 := ⟨b9_at 6 rfl rfl, wini_X12, by decide, by decide, by decide +kernel⟩
theorem wsel_X12_X12_join : Cond.selects RX12 yX12_join yX12_join ∈ lw_big := b9_at 5 rfl rfl
theorem wsl_12_X12_join : ∀ t ∈ ([12] : List Nat), t < 13 ∧ Cond.selects (RXX t) yX12_join yX12_join ∈ lw_big := fun t ht => by simp only [List.mem_cons, List.not_mem_nil, or_false] at ht; subst ht; exact ⟨by decide, wsel_X12_X12_join⟩
theorem wml_L_113 : Cond.methodLink RL 113 yX12_join ∈ lw_big := b9_at 3 rfl rfl
theorem wim_X12_join : Cond.instanceMethod yX12_join ∈ lw_big := b9_at 4 rfl rfl
theorem wc_X11_first : CWd yX11_first cX11_first 4 (some .int) 1 := ⟨b5_at 207 rfl rfl, wini_X11, by decide, by decide, by decide +kernel⟩
theorem wsel_X11_X11_first : Cond.selects RX11 yX11_first yX11_first ∈ lw_big := b5_at 206 rfl rfl
theorem wsl_11_X11_first : ∀ t ∈ ([11] : List Nat), t < 13 ∧ Cond.selects (RXX t) yX11_first yX11_first ∈ lw_big := fun t ht => by simp only [List.mem_cons, List.not_mem_nil, or_false] at ht; subst ht; exact ⟨by decide, wsel_X11_X11_first⟩
theorem wml_L_114 : Cond.methodLink RL 114 yX11_first ∈ lw_big := b5_at 204 rfl rfl
theorem wim_X11_first : Cond.instanceMethod yX11_first ∈ lw_big := b5_at 205 rfl rfl
theorem wc_X12_first : CWd yX12_first cX12_first 4 (some .int) 1 := ⟨b9_at 22 rfl rfl, wini_X12, by decide, by decide, by decide +kernel⟩
theorem wsel_X12_X12_first : Cond.selects RX12 yX12_first yX12_first ∈ lw_big := b9_at 21 rfl rfl
theorem wsl_12_X12_first : ∀ t ∈ ([12] : List Nat), t < 13 ∧ Cond.selects (RXX t) yX12_first yX12_first ∈ lw_big := fun t ht => by simp only [List.mem_cons, List.not_mem_nil, or_false] at ht; subst ht; exact ⟨by decide, wsel_X12_X12_first⟩
theorem wml_L_117 : Cond.methodLink RL 117 yX12_first ∈ lw_big := b9_at 19 rfl rfl
theorem wim_X12_first : Cond.instanceMethod yX12_first ∈ lw_big := b9_at 20 rfl rfl
theorem wc_X11_isFalse : CWd yX11_isFalse cX11_isFalse 4 (some .int) 2 := ⟨b5_at 220 rfl rfl, wini_X11, by decide, by decide, by decide +kernel⟩
theorem wsel_X11_X11_isFalse : Cond.selects RX11 yX11_isFalse yX11_isFalse ∈ lw_big := b5_at 219 rfl rfl
theorem wsl_11_X11_isFalse : ∀ t ∈ ([11] : List Nat), t < 13 ∧ Cond.selects (RXX t) yX11_isFalse yX11_isFalse ∈ lw_big := fun t ht => by simp only [List.mem_cons, List.not_mem_nil, or_false] at ht; subst ht; exact ⟨by decide, wsel_X11_X11_isFalse⟩
theorem wml_L_118 : Cond.methodLink RL 118 yX11_isFalse ∈ lw_big := b5_at 217 rfl rfl
theorem wim_X11_isFalse : Cond.instanceMethod yX11_isFalse ∈ lw_big := b5_at 218 rfl rfl
theorem wc_X12_isFalse : CWd yX12_isFalse cX12_isFalse 4 (some .int) 2 := ⟨b9_at 71 rfl rfl, wini_X12, by decide, by decide, by decide +kernel⟩
theorem wsel_X12_X12_isFalse : Cond.selects RX12 yX12_isFalse yX12_isFalse ∈ lw_big := b9_at 70 rfl rfl
theorem wsl_12_X12_isFalse : ∀ t ∈ ([12] : List Nat), t < 13 ∧ Cond.selects (RXX t) yX12_isFalse yX12_isFalse ∈ lw_big := fun t ht => by simp only [List.mem_cons, List.not_mem_nil, or_false] at ht; subst ht; exact ⟨by decide, wsel_X12_X12_isFalse⟩
theorem wml_L_121 : Cond.methodLink RL 121 yX12_isFalse ∈ lw_big := b9_at 68 rfl rfl
theorem wim_X12_isFalse : Cond.instanceMethod yX12_isFalse ∈ lw_big := b9_at 69 rfl rfl
theorem wc_X11_gone : CWd yX11_gone cX11_gone 5 (some .int) 2 := ⟨b6_at 14 rfl rfl, wini_X11, by decide, by decide, by decide +kernel⟩
theorem wsel_X11_X11_gone : Cond.selects RX11 yX11_gone yX11_gone ∈ lw_big := b6_at 13 rfl rfl
theorem wsl_11_X11_gone : ∀ t ∈ ([11] : List Nat), t < 13 ∧ Cond.selects (RXX t) yX11_gone yX11_gone ∈ lw_big := fun t ht => by simp only [List.mem_cons, List.not_mem_nil, or_false] at ht; subst ht; exact ⟨by decide, wsel_X11_X11_gone⟩
theorem wml_L_122 : Cond.methodLink RL 122 yX11_gone ∈ lw_big := b6_at 11 rfl rfl
theorem wim_X11_gone : Cond.instanceMethod yX11_gone ∈ lw_big := b6_at 12 rfl rfl
theorem wc_X12_gone : CWd yX12_gone cX12_gone 7 (some .int) 2 := ⟨b9_at 91 rfl rfl, wini_X12, by decide, by decide, by decide +kernel⟩
theorem wsel_X12_X12_gone : Cond.selects RX12 yX12_gone yX12_gone ∈ lw_big := b9_at 90 rfl rfl
theorem wsl_12_X12_gone : ∀ t ∈ ([12] : List Nat), t < 13 ∧ Cond.selects (RXX t) yX12_gone yX12_gone ∈ lw_big := fun t ht => by simp only [List.mem_cons, List.not_mem_nil, or_false] at ht; subst ht; exact ⟨by decide, wsel_X12_X12_gone⟩
theorem wml_L_125 : Cond.methodLink RL 125 yX12_gone ∈ lw_big := b9_at 88 rfl rfl
theorem wim_X12_gone : Cond.instanceMethod yX12_gone ∈ lw_big := b9_at 89 rfl rfl
theorem wc_X11_chance : CWd yX11_chance cX11_chance 2 (some .int) 1 := ⟨b6_at 26 rfl rfl, wini_X11, by decide, by decide, by decide +kernel⟩
theorem wsel_X11_X11_chance : Cond.selects RX11 yX11_chance yX11_chance ∈ lw_big := b6_at 25 rfl rfl
theorem wsl_11_X11_chance : ∀ t ∈ ([11] : List Nat), t < 13 ∧ Cond.selects (RXX t) yX11_chance yX11_chance ∈ lw_big := fun t ht => by simp only [List.mem_cons, List.not_mem_nil, or_false] at ht; subst ht; exact ⟨by decide, wsel_X11_X11_chance⟩
theorem wml_L_126 : Cond.methodLink RL 126 yX11_chance ∈ lw_big := b6_at 23 rfl rfl
theorem wim_X11_chance : Cond.instanceMethod yX11_chance ∈ lw_big := b6_at 24 rfl rfl
theorem wc_X12_chance : CWd yX12_chance cX12_chance 4 (some .int) 1 := ⟨b9_at 95 rfl rfl, wini_X12, by decide, by decide, by decide +kernel⟩
theorem wsel_X12_X12_chance : Cond.selects RX12 yX12_chance yX12_chance ∈ lw_big := b9_at 94 rfl rfl
theorem wsl_12_X12_chance : ∀ t ∈ ([12] : List Nat), t < 13 ∧ Cond.selects (RXX t) yX12_chance yX12_chance ∈ lw_big := fun t ht => by simp only [List.mem_cons, List.not_mem_nil, or_false] at ht; subst ht; exact ⟨by decide, wsel_X12_X12_chance⟩
theorem wml_L_129 : Cond.methodLink RL 129 yX12_chance ∈ lw_big := b9_at 92 rfl rfl
theorem wim_X12_chance : Cond.instanceMethod yX12_chance ∈ lw_big := b9_at 93 rfl rfl
theorem wc_X11_tell : CWd yX11_tell cX11_tell 5 (some .int) 3 := ⟨b6_at 39 rfl rfl, wini_X11, by decide, by decide, by decide +kernel⟩
theorem wsel_X11_X11_tell : Cond.selects RX11 yX11_tell yX11_tell ∈ lw_big := b6_at 38 rfl rfl
theorem wsl_11_X11_tell : ∀ t ∈ ([11] : List Nat), t < 13 ∧ Cond.selects (RXX t) yX11_tell yX11_tell ∈ lw_big := fun t ht => by simp only [List.mem_cons, List.not_mem_nil, or_false] at ht; subst ht; exact ⟨by decide, wsel_X11_X11_tell⟩
theorem wml_L_130 : Cond.methodLink RL 130 yX11_tell ∈ lw_big := b6_at 36 rfl rfl
theorem wim_X11_tell : Cond.instanceMethod yX11_tell ∈ lw_big := b6_at 37 rfl rfl
theorem wc_X12_tell : CWd yX12_tell cX12_tell 4 (some .int) 3 := ⟨b10_at 50 rfl rfl, wini_X12, by decide, by decide, by decide +kernel⟩
theorem wsel_X12_X12_tell : Cond.selects RX12 yX12_tell yX12_tell ∈ lw_big := b10_at 49 rfl rfl
theorem wsl_12_X12_tell : ∀ t ∈ ([12] : List Nat), t < 13 ∧ Cond.selects (RXX t) yX12_tell yX12_tell ∈ lw_big := fun t ht => by simp only [List.mem_cons, List.not_mem_nil, or_false] at ht; subst ht; exact ⟨by decide, wsel_X12_X12_tell⟩
theorem wml_L_133 : Cond.methodLink RL 133 yX12_tell ∈ lw_big := b10_at 47 rfl rfl
theorem wim_X12_tell : Cond.instanceMethod yX12_tell ∈ lw_big := b10_at 48 rfl rfl
theorem wc_X11_jump : CWd yX11_jump cX11_jump 6 (some .int) 2 := ⟨b6_at 48 rfl rfl, wini_X11, by decide, by decide, by decide +kernel⟩
theorem wsel_X11_X11_jump : Cond.selects RX11 yX11_jump yX11_jump ∈ lw_big := b6_at 47 rfl rfl
theorem wsl_11_X11_jump : ∀ t ∈ ([11] : List Nat), t < 13 ∧ Cond.selects (RXX t) yX11_jump yX11_jump ∈ lw_big := fun t ht => by simp only [List.mem_cons, List.not_mem_nil, or_false] at ht; subst ht; exact ⟨by decide, wsel_X11_X11_jump⟩
theorem wml_L_134 : Cond.methodLink RL 134 yX11_jump ∈ lw_big := b6_at 45 rfl rfl
theorem wim_X11_jump : Cond.instanceMethod yX11_jump ∈ lw_big := b6_at 46 rfl rfl
theorem wc_X12_jump : CWd yX12_jump cX12_jump 5 (some .int) 2 := ⟨b10_at 58 rfl rfl, wini_X12, by decide, by decide, by decide +kernel⟩
theorem wsel_X12_X12_jump : Cond.selects RX12 yX12_jump yX12_jump ∈ lw_big := b10_at 57 rfl rfl
theorem wsl_12_X12_jump : ∀ t ∈ ([12] : List Nat), t < 13 ∧ Cond.selects (RXX t) yX12_jump yX12_jump ∈ lw_big := fun t ht => by simp only [List.mem_cons, List.not_mem_nil, or_false] at ht; subst ht; exact ⟨by decide, wsel_X12_X12_jump⟩
theorem wml_L_137 : Cond.methodLink RL 137 yX12_jump ∈ lw_big := b10_at 55 rfl rfl
theorem wim_X12_jump : Cond.instanceMethod yX12_jump ∈ lw_big := b10_at 56 rfl rfl
theorem wc_X11_chain : CWd yX11_chain cX11_chain 3 (some .int) 1 := ⟨b6_at 57 rfl rfl, wini_X11, by decide, by decide, by decide +kernel⟩
theorem wsel_X11_X11_chain : Cond.selects RX11 yX11_chain yX11_chain ∈ lw_big := b6_at 56 rfl rfl
theorem wsl_11_X11_chain : ∀ t ∈ ([11] : List Nat), t < 13 ∧ Cond.selects (RXX t) yX11_chain yX11_chain ∈ lw_big := fun t ht => by simp only [List.mem_cons, List.not_mem_nil, or_false] at ht; subst ht; exact ⟨by decide, wsel_X11_X11_chain⟩
theorem wml_L_138 : Cond.methodLink RL 138 yX11_chain ∈ lw_big := b6_at 54 rfl rfl
theorem wim_X11_chain : Cond.instanceMethod yX11_chain ∈ lw_big := b6_at 55 rfl rfl
theorem wc_X12_chain : CWd yX12_chain cX12_chain 8 (some .int) 1 := ⟨b10_at 66 rfl rfl, wini_X12, by decide, by decide, by decide +kernel⟩
theorem wsel_X12_X12_chain : Cond.selects RX12 yX12_chain yX12_chain ∈ lw_big := b10_at 65 rfl rfl
theorem wsl_12_X12_chain : ∀ t ∈ ([12] : List Nat), t < 13 ∧ Cond.selects (RXX t) yX12_chain yX12_chain ∈ lw_big := fun t ht => by simp only [List.mem_cons, List.not_mem_nil, or_false] at ht; subst ht; exact ⟨by decide, wsel_X12_X12_chain⟩
theorem wml_L_141 : Cond.methodLink RL 141 yX12_chain ∈ lw_big := b10_at 63 rfl rfl
theorem wim_X12_chain : Cond.instanceMethod yX12_chain ∈ lw_big := b10_at 64 rfl rfl
theorem wc_X11_asks : CWd yX11_asks cX11_asks 6 (some .int) 2 := ⟨b6_at 66 rfl rfl, wini_X11, by decide, by decide, by decide +kernel⟩
theorem wsel_X11_X11_asks : Cond.selects RX11 yX11_asks yX11_asks ∈ lw_big := b6_at 65 rfl rfl
theorem wsl_11_X11_asks : ∀ t ∈ ([11] : List Nat), t < 13 ∧ Cond.selects (RXX t) yX11_asks yX11_asks ∈ lw_big := fun t ht => by simp only [List.mem_cons, List.not_mem_nil, or_false] at ht; subst ht; exact ⟨by decide, wsel_X11_X11_asks⟩
theorem wml_L_142 : Cond.methodLink RL 142 yX11_asks ∈ lw_big := b6_at 63 rfl rfl
theorem wim_X11_asks : Cond.instanceMethod yX11_asks ∈ lw_big := b6_at 64 rfl rfl
theorem wc_X12_asks : CWd yX12_asks cX12_asks 4 (some .int) 2 := ⟨b10_at 70 rfl rfl, wini_X12, by decide, by decide, by decide +kernel⟩
theorem wsel_X12_X12_asks : Cond.selects RX12 yX12_asks yX12_asks ∈ lw_big := b10_at 69 rfl rfl
theorem wsl_12_X12_asks : ∀ t ∈ ([12] : List Nat), t < 13 ∧ Cond.selects (RXX t) yX12_asks yX12_asks ∈ lw_big := fun t ht => by simp only [List.mem_cons, List.not_mem_nil, or_false] at ht; subst ht; exact ⟨by decide, wsel_X12_X12_asks⟩
theorem wml_L_145 : Cond.methodLink RL 145 yX12_asks ∈ lw_big := b10_at 67 rfl rfl
theorem wim_X12_asks : Cond.instanceMethod yX12_asks ∈ lw_big := b10_at 68 rfl rfl
theorem wc_X11_taker : CWd yX11_taker cX11_taker 3 (some .int) 1 := ⟨b6_at 74 rfl rfl, wini_X11, by decide, by decide, by decide +kernel⟩
theorem wsel_X11_X11_taker : Cond.selects RX11 yX11_taker yX11_taker ∈ lw_big := b6_at 73 rfl rfl
theorem wsl_11_X11_taker : ∀ t ∈ ([11] : List Nat), t < 13 ∧ Cond.selects (RXX t) yX11_taker yX11_taker ∈ lw_big := fun t ht => by simp only [List.mem_cons, List.not_mem_nil, or_false] at ht; subst ht; exact ⟨by decide, wsel_X11_X11_taker⟩
theorem wml_L_146 : Cond.methodLink RL 146 yX11_taker ∈ lw_big := b6_at 71 rfl rfl
theorem wim_X11_taker : Cond.instanceMethod yX11_taker ∈ lw_big := b6_at 72 rfl rfl
theorem wc_X12_taker : CWd yX12_taker cX12_taker 2 (some .int) 1 := ⟨b10_at 74 rfl rfl, wini_X12, by decide, by decide, by decide +kernel⟩
theorem wsel_X12_X12_taker : Cond.selects RX12 yX12_taker yX12_taker ∈ lw_big := b10_at 73 rfl rfl
theorem wsl_12_X12_taker : ∀ t ∈ ([12] : List Nat), t < 13 ∧ Cond.selects (RXX t) yX12_taker yX12_taker ∈ lw_big := fun t ht => by simp only [List.mem_cons, List.not_mem_nil, or_false] at ht; subst ht; exact ⟨by decide, wsel_X12_X12_taker⟩
theorem wml_L_149 : Cond.methodLink RL 149 yX12_taker ∈ lw_big := b10_at 71 rfl rfl
theorem wim_X12_taker : Cond.instanceMethod yX12_taker ∈ lw_big := b10_at 72 rfl rfl
theorem wc_X11_take : CWd yX11_take cX11_take 4 (some .int) 1 := ⟨b6_at 83 rfl rfl, wini_X11, by decide, by decide, by decide +kernel⟩
theorem wsel_X11_X11_take : Cond.selects RX11 yX11_take yX11_take ∈ lw_big := b6_at 82 rfl rfl
theorem wsl_11_X11_take : ∀ t ∈ ([11] : List Nat), t < 13 ∧ Cond.selects (RXX t) yX11_take yX11_take ∈ lw_big := fun t ht => by simp only [List.mem_cons, List.not_mem_nil, or_false] at ht; subst ht; exact ⟨by decide, wsel_X11_X11_take⟩
theorem wml_L_150 : Cond.methodLink RL 150 yX11_take ∈ lw_big := b6_at 80 rfl rfl
theorem wim_X11_take : Cond.instanceMethod yX11_take ∈ lw_big := b6_at 81 rfl rfl
theorem wc_X12_take : CWd yX12_take cX12_take 3 (some .int) 1 := ⟨b10_at 82 rfl rfl, wini_X12, by decide, by decide, by decide +kernel⟩
theorem wsel_X12_X12_take : Cond.selects RX12 yX12_take yX12_take ∈ lw_big := b10_at 81 rfl rfl
theorem wsl_12_X12_take : ∀ t ∈ ([12] : List Nat), t < 13 ∧ Cond.selects (RXX t) yX12_take yX12_take ∈ lw_big := fun t ht => by simp only [List.mem_cons, List.not_mem_nil, or_false] at ht; subst ht; exact ⟨by decide, wsel_X12_X12_take⟩
theorem wml_L_153 : Cond.methodLink RL 153 yX12_take ∈ lw_big := b10_at 79 rfl rfl
theorem wim_X12_take : Cond.instanceMethod yX12_take ∈ lw_big := b10_at 80 rfl rfl
theorem wc_X11_toPut : CWd yX11_toPut cX11_toPut 4 (some .int) 1 := ⟨b6_at 87 rfl rfl, wini_X11, by decide, by decide, by decide +kernel⟩
theorem wsel_X11_X11_toPut : Cond.selects RX11 yX11_toPut yX11_toPut ∈ lw_big := b6_at 86 rfl rfl
theorem wsl_11_X11_toPut : ∀ t ∈ ([11] : List Nat), t < 13 ∧ Cond.selects (RXX t) yX11_toPut yX11_toPut ∈ lw_big := fun t ht => by simp only [List.mem_cons, List.not_mem_nil, or_false] at ht; subst ht; exact ⟨by decide, wsel_X11_X11_toPut⟩
theorem wml_L_154 : Cond.methodLink RL 154 yX11_toPut ∈ lw_big := b6_at 84 rfl rfl
theorem wim_X11_toPut : Cond.instanceMethod yX11_toPut ∈ lw_big := b6_at 85 rfl rfl
theorem wc_X12_toPut : CWd yX12_toPut cX12_toPut 4 (some .int) 1 := ⟨b10_at 86 rfl rfl, wini_X12, by decide, by decide, by decide +kernel⟩
theorem wsel_X12_X12_toPut : Cond.selects RX12 yX12_toPut yX12_toPut ∈ lw_big := b10_at 85 rfl rfl
theorem wsl_12_X12_toPut : ∀ t ∈ ([12] : List Nat), t < 13 ∧ Cond.selects (RXX t) yX12_toPut yX12_toPut ∈ lw_big := fun t ht => by simp only [List.mem_cons, List.not_mem_nil, or_false] at ht; subst ht; exact ⟨by decide, wsel_X12_X12_toPut⟩
theorem wml_L_157 : Cond.methodLink RL 157 yX12_toPut ∈ lw_big := b10_at 83 rfl rfl
theorem wim_X12_toPut : Cond.instanceMethod yX12_toPut ∈ lw_big := b10_at 84 rfl rfl
theorem wc_X11_putAll : CWd yX11_putAll cX11_putAll 4 (some .int) 0 := ⟨b6_at 99 rfl rfl, wini_X11, by decide, by decide, by decide +kernel⟩
theorem wsel_X11_X11_putAll : Cond.selects RX11 yX11_putAll yX11_putAll ∈ lw_big := b6_at 98 rfl rfl
theorem wsl_11_X11_putAll : ∀ t ∈ ([11] : List Nat), t < 13 ∧ Cond.selects (RXX t) yX11_putAll yX11_putAll ∈ lw_big := fun t ht => by simp only [List.mem_cons, List.not_mem_nil, or_false] at ht; subst ht; exact ⟨by decide, wsel_X11_X11_putAll⟩
theorem wml_L_158 : Cond.methodLink RL 158 yX11_putAll ∈ lw_big := b6_at 96 rfl rfl
theorem wim_X11_putAll : Cond.instanceMethod yX11_putAll ∈ lw_big := b6_at 97 rfl rfl
theorem wc_X12_putAll : CWd yX12_putAll cX12_putAll 3 (some .int) 0 := ⟨b10_at 90 rfl rfl, wini_X12, by decide, by decide, by decide +kernel⟩
theorem wsel_X12_X12_putAll : Cond.selects RX12 yX12_putAll yX12_putAll ∈ lw_big := b10_at 89 rfl rfl
theorem wsl_12_X12_putAll : ∀ t ∈ ([12] : List Nat), t < 13 ∧ Cond.selects (RXX t) yX12_putAll yX12_putAll ∈ lw_big := fun t ht => by simp only [List.mem_cons, List.not_mem_nil, or_false] at ht; subst ht; exact ⟨by decide, wsel_X12_X12_putAll⟩
theorem wml_L_162 : Cond.methodLink RL 162 yX12_putAll ∈ lw_big := b10_at 87 rfl rfl
theorem wim_X12_putAll : Cond.instanceMethod yX12_putAll ∈ lw_big := b10_at 88 rfl rfl
theorem wc_X11_wish : CWd yX11_wish cX11_wish 5 (some .int) 3 := ⟨b6_at 103 rfl rfl, wini_X11, by decide, by decide, by decide +kernel⟩
theorem wsel_X11_X11_wish : Cond.selects RX11 yX11_wish yX11_wish ∈ lw_big := b6_at 102 rfl rfl
theorem wsl_11_X11_wish : ∀ t ∈ ([11] : List Nat), t < 13 ∧ Cond.selects (RXX t) yX11_wish yX11_wish ∈ lw_big := fun t ht => by simp only [List.mem_cons, List.not_mem_nil, or_false] at ht; subst ht; exact ⟨by decide, wsel_X11_X11_wish⟩
theorem wml_L_163 : Cond.methodLink RL 163 yX11_wish ∈ lw_big := b6_at 100 rfl rfl
theorem wim_X11_wish : Cond.instanceMethod yX11_wish ∈ lw_big := b6_at 101 rfl rfl
theorem wc_X12_wish : CWd yX12_wish cX12_wish 5 (some .int) 3 := ⟨b10_at 94 rfl rfl, wini_X12, by decide, by decide, by decide +kernel⟩
theorem wsel_X12_X12_wish : Cond.selects RX12 yX12_wish yX12_wish ∈ lw_big := b10_at 93 rfl rfl
theorem wsl_12_X12_wish : ∀ t ∈ ([12] : List Nat), t < 13 ∧ Cond.selects (RXX t) yX12_wish yX12_wish ∈ lw_big := fun t ht => by simp only [List.mem_cons, List.not_mem_nil, or_false] at ht; subst ht; exact ⟨by decide, wsel_X12_X12_wish⟩
theorem wml_L_166 : Cond.methodLink RL 166 yX12_wish ∈ lw_big := b10_at 91 rfl rfl
theorem wim_X12_wish : Cond.instanceMethod yX12_wish ∈ lw_big := b10_at 92 rfl rfl
theorem wc_X11_walk : CWd yX11_walk cX11_walk 3 (some .int) 2 := ⟨b6_at 115 rfl rfl, wini_X11, by decide, by decide, by decide +kernel⟩
theorem wsel_X11_X11_walk : Cond.selects RX11 yX11_walk yX11_walk ∈ lw_big := b6_at 114 rfl rfl
theorem wsl_11_X11_walk : ∀ t ∈ ([11] : List Nat), t < 13 ∧ Cond.selects (RXX t) yX11_walk yX11_walk ∈ lw_big := fun t ht => by simp only [List.mem_cons, List.not_mem_nil, or_false] at ht; subst ht; exact ⟨by decide, wsel_X11_X11_walk⟩
theorem wml_L_167 : Cond.methodLink RL 167 yX11_walk ∈ lw_big := b6_at 112 rfl rfl
theorem wim_X11_walk : Cond.instanceMethod yX11_walk ∈ lw_big := b6_at 113 rfl rfl
theorem wc_X12_walk : CWd yX12_walk cX12_walk 4 (some .int) 2 := ⟨b10_at 98 rfl rfl, wini_X12, by decide, by decide, by decide +kernel⟩
theorem wsel_X12_X12_walk : Cond.selects RX12 yX12_walk yX12_walk ∈ lw_big := b10_at 97 rfl rfl
theorem wsl_12_X12_walk : ∀ t ∈ ([12] : List Nat), t < 13 ∧ Cond.selects (RXX t) yX12_walk yX12_walk ∈ lw_big := fun t ht => by simp only [List.mem_cons, List.not_mem_nil, or_false] at ht; subst ht; exact ⟨by decide, wsel_X12_X12_walk⟩
theorem wml_L_170 : Cond.methodLink RL 170 yX12_walk ∈ lw_big := b10_at 95 rfl rfl
theorem wim_X12_walk : Cond.instanceMethod yX12_walk ∈ lw_big := b10_at 96 rfl rfl
theorem wc_X11_walked : CWd yX11_walked cX11_walked 2 (some .int) 1 := ⟨b6_at 158 rfl rfl, wini_X11, by decide, by decide, by decide +kernel⟩
theorem wsel_X11_X11_walked : Cond.selects RX11 yX11_walked yX11_walked ∈ lw_big := b6_at 157 rfl rfl
theorem wsl_11_X11_walked : ∀ t ∈ ([11] : List Nat), t < 13 ∧ Cond.selects (RXX t) yX11_walked yX11_walked ∈ lw_big := fun t ht => by simp only [List.mem_cons, List.not_mem_nil, or_false] at ht; subst ht; exact ⟨by decide, wsel_X11_X11_walked⟩
theorem wml_L_171 : Cond.methodLink RL 171 yX11_walked ∈ lw_big := b6_at 155 rfl rfl
theorem wim_X11_walked : Cond.instanceMethod yX11_walked ∈ lw_big := b6_at 156 rfl rfl
theorem wc_X12_walked : CWd yX12_walked cX12_walked 2 (some .int) 1 := ⟨b10_at 121 rfl rfl, wini_X12, by decide, by decide, by decide +kernel⟩
theorem wsel_X12_X12_walked : Cond.selects RX12 yX12_walked yX12_walked ∈ lw_big := b10_at 120 rfl rfl
theorem wsl_12_X12_walked : ∀ t ∈ ([12] : List Nat), t < 13 ∧ Cond.selects (RXX t) yX12_walked yX12_walked ∈ lw_big := fun t ht => by simp only [List.mem_cons, List.not_mem_nil, or_false] at ht; subst ht; exact ⟨by decide, wsel_X12_X12_walked⟩
theorem wml_L_174 : Cond.methodLink RL 174 yX12_walked ∈ lw_big := b10_at 118 rfl rfl
theorem wim_X12_walked : Cond.instanceMethod yX12_walked ∈ lw_big := b10_at 119 rfl rfl
theorem wc_X11_judge : CWd yX11_judge cX11_judge 5 (some .int) 3 := ⟨b6_at 162 rfl rfl, wini_X11, by decide, by decide, by decide +kernel⟩
theorem wsel_X11_X11_judge : Cond.selects RX11 yX11_judge yX11_judge ∈ lw_big := b6_at 161 rfl rfl
theorem wsl_11_X11_judge : ∀ t ∈ ([11] : List Nat), t < 13 ∧ Cond.selects (RXX t) yX11_judge yX11_judge ∈ lw_big := fun t ht => by simp only [List.mem_cons, List.not_mem_nil, or_false] at ht; subst ht; exact ⟨by decide, wsel_X11_X11_judge⟩
theorem wml_L_175 : Cond.methodLink RL 175 yX11_judge ∈ lw_big := b6_at 159 rfl rfl
theorem wim_X11_judge : Cond.instanceMethod yX11_judge ∈ lw_big := b6_at 160 rfl rfl
theorem wc_X12_judge : CWd yX12_judge cX12_judge 10 (some .int) 3 := ⟨b10_at 125 rfl rfl, wini_X12, by decide, by decide, by decide +kernel⟩
theorem wsel_X12_X12_judge : Cond.selects RX12 yX12_judge yX12_judge ∈ lw_big := b10_at 124 rfl rfl
theorem wsl_12_X12_judge : ∀ t ∈ ([12] : List Nat), t < 13 ∧ Cond.selects (RXX t) yX12_judge yX12_judge ∈ lw_big := fun t ht => by simp only [List.mem_cons, List.not_mem_nil, or_false] at ht; subst ht; exact ⟨by decide, wsel_X12_X12_judge⟩
theorem wml_L_178 : Cond.methodLink RL 178 yX12_judge ∈ lw_big := b10_at 122 rfl rfl
theorem wim_X12_judge : Cond.instanceMethod yX12_judge ∈ lw_big := b10_at 123 rfl rfl
theorem wc_X11_lookAt : CWd yX11_lookAt cX11_lookAt 7 (some .int) 2 := ⟨b6_at 174 rfl rfl, wini_X11, by decide, by decide, by decide +kernel⟩
theorem wsel_X11_X11_lookAt : Cond.selects RX11 yX11_lookAt yX11_lookAt ∈ lw_big := b6_at 173 rfl rfl
theorem wsl_11_X11_lookAt : ∀ t ∈ ([11] : List Nat), t < 13 ∧ Cond.selects (RXX t) yX11_lookAt yX11_lookAt ∈ lw_big := fun t ht => by simp only [List.mem_cons, List.not_mem_nil, or_false] at ht; subst ht; exact ⟨by decide, wsel_X11_X11_lookAt⟩
theorem wml_L_179 : Cond.methodLink RL 179 yX11_lookAt ∈ lw_big := b6_at 171 rfl rfl
theorem wim_X11_lookAt : Cond.instanceMethod yX11_lookAt ∈ lw_big := b6_at 172 rfl rfl
theorem wc_X12_lookAt : CWd yX12_lookAt cX12_lookAt 5 (some .int) 2 := ⟨b10_at 129 rfl rfl, wini_X12, by decide, by decide, by decide +kernel⟩
theorem wsel_X12_X12_lookAt : Cond.selects RX12 yX12_lookAt yX12_lookAt ∈ lw_big := b10_at 128 rfl rfl
theorem wsl_12_X12_lookAt : ∀ t ∈ ([12] : List Nat), t < 13 ∧ Cond.selects (RXX t) yX12_lookAt yX12_lookAt ∈ lw_big := fun t ht => by simp only [List.mem_cons, List.not_mem_nil, or_false] at ht; subst ht; exact ⟨by decide, wsel_X12_X12_lookAt⟩
theorem wml_L_182 : Cond.methodLink RL 182 yX12_lookAt ∈ lw_big := b10_at 126 rfl rfl
theorem wim_X12_lookAt : Cond.instanceMethod yX12_lookAt ∈ lw_big := b10_at 127 rfl rfl
theorem wc_X11_nobody : CWd yX11_nobody cX11_nobody 7 (some .int) 1 := ⟨b6_at 182 rfl rfl, wini_X11, by decide, by decide, by decide +kernel⟩
theorem wsel_X11_X11_nobody : Cond.selects RX11 yX11_nobody yX11_nobody ∈ lw_big := b6_at 181 rfl rfl
theorem wsl_11_X11_nobody : ∀ t ∈ ([11] : List Nat), t < 13 ∧ Cond.selects (RXX t) yX11_nobody yX11_nobody ∈ lw_big := fun t ht => by simp only [List.mem_cons, List.not_mem_nil, or_false] at ht; subst ht; exact ⟨by decide, wsel_X11_X11_nobody⟩
theorem wml_L_183 : Cond.methodLink RL 183 yX11_nobody ∈ lw_big := b6_at 179 rfl rfl
theorem wim_X11_nobody : Cond.instanceMethod yX11_nobody ∈ lw_big := b6_at 180 rfl rfl
theorem wc_X12_nobody : CWd yX12_nobody cX12_nobody 6 (some .int) 1 := ⟨b10_at 137 rfl rfl, wini_X12, by decide, by decide, by decide +kernel⟩
theorem wsel_X12_X12_nobody : Cond.selects RX12 yX12_nobody yX12_nobody ∈ lw_big := b10_at 136 rfl rfl
theorem wsl_12_X12_nobody : ∀ t ∈ ([12] : List Nat), t < 13 ∧ Cond.selects (RXX t) yX12_nobody yX12_nobody ∈ lw_big := fun t ht => by simp only [List.mem_cons, List.not_mem_nil, or_false] at ht; subst ht; exact ⟨by decide, wsel_X12_X12_nobody⟩
theorem wml_L_186 : Cond.methodLink RL 186 yX12_nobody ∈ lw_big := b10_at 134 rfl rfl
theorem wim_X12_nobody : Cond.instanceMethod yX12_nobody ∈ lw_big := b10_at 135 rfl rfl
theorem wc_X11_rank : CWd yX11_rank cX11_rank 5 (some .int) 4 := ⟨b6_at 196 rfl rfl, wini_X11, by decide, by decide, by decide +kernel⟩
theorem wsel_X11_X11_rank : Cond.selects RX11 yX11_rank yX11_rank ∈ lw_big := b6_at 195 rfl rfl
theorem wsl_11_X11_rank : ∀ t ∈ ([11] : List Nat), t < 13 ∧ Cond.selects (RXX t) yX11_rank yX11_rank ∈ lw_big := fun t ht => by simp only [List.mem_cons, List.not_mem_nil, or_false] at ht; subst ht; exact ⟨by decide, wsel_X11_X11_rank⟩
theorem wml_L_187 : Cond.methodLink RL 187 yX11_rank ∈ lw_big := b6_at 193 rfl rfl
theorem wim_X11_rank : Cond.instanceMethod yX11_rank ∈ lw_big := b6_at 194 rfl rfl
theorem wc_X12_rank : CWd yX12_rank cX12_rank 7 (some .int) 4 := ⟨b10_at 151 rfl rfl, wini_X12, by decide, by decide, by decide +kernel⟩
theorem wsel_X12_X12_rank : Cond.selects RX12 yX12_rank yX12_rank ∈ lw_big := b10_at 150 rfl rfl
theorem wsl_12_X12_rank : ∀ t ∈ ([12] : List Nat), t < 13 ∧ Cond.selects (RXX t) yX12_rank yX12_rank ∈ lw_big := fun t ht => by simp only [List.mem_cons, List.not_mem_nil, or_false] at ht; subst ht; exact ⟨by decide, wsel_X12_X12_rank⟩
theorem wml_L_190 : Cond.methodLink RL 190 yX12_rank ∈ lw_big := b10_at 148 rfl rfl
theorem wim_X12_rank : Cond.instanceMethod yX12_rank ∈ lw_big := b10_at 149 rfl rfl
theorem wc_X11_act : CWd yX11_act cX11_act 5 (some .int) 3 := ⟨b6_at 217 rfl rfl, wini_X11, by decide, by decide, by decide +kernel⟩
theorem wsel_X11_X11_act : Cond.selects RX11 yX11_act yX11_act ∈ lw_big := b6_at 216 rfl rfl
theorem wsl_11_X11_act : ∀ t ∈ ([11] : List Nat), t < 13 ∧ Cond.selects (RXX t) yX11_act yX11_act ∈ lw_big := fun t ht => by simp only [List.mem_cons, List.not_mem_nil, or_false] at ht; subst ht; exact ⟨by decide, wsel_X11_X11_act⟩
theorem wml_L_191 : Cond.methodLink RL 191 yX11_act ∈ lw_big := b6_at 214 rfl rfl
theorem wim_X11_act : Cond.instanceMethod yX11_act ∈ lw_big := b6_at 215 rfl rfl
theorem wc_X12_act : CWd yX12_act cX12_act 4 (some .int) 3 := ⟨b10_at 159 rfl rfl, wini_X12, by decide, by decide, by decide +kernel⟩
theorem wsel_X12_X12_act : Cond.selects RX12 yX12_act yX12_act ∈ lw_big := b10_at 158 rfl rfl
theorem wsl_12_X12_act : ∀ t ∈ ([12] : List Nat), t < 13 ∧ Cond.selects (RXX t) yX12_act yX12_act ∈ lw_big := fun t ht => by simp only [List.mem_cons, List.not_mem_nil, or_false] at ht; subst ht; exact ⟨by decide, wsel_X12_X12_act⟩
theorem wml_L_194 : Cond.methodLink RL 194 yX12_act ∈ lw_big := b10_at 156 rfl rfl
theorem wim_X12_act : Cond.instanceMethod yX12_act ∈ lw_big := b10_at 157 rfl rfl
theorem wc_X11_trace : CWd yX11_trace cX11_trace 2 (some .int) 1 := ⟨b7_at 11 rfl rfl, wini_X11, by decide, by decide, by decide +kernel⟩
theorem wsel_X11_X11_trace : Cond.selects RX11 yX11_trace yX11_trace ∈ lw_big := b7_at 10 rfl rfl
theorem wsl_11_X11_trace : ∀ t ∈ ([11] : List Nat), t < 13 ∧ Cond.selects (RXX t) yX11_trace yX11_trace ∈ lw_big := fun t ht => by simp only [List.mem_cons, List.not_mem_nil, or_false] at ht; subst ht; exact ⟨by decide, wsel_X11_X11_trace⟩
theorem wml_L_195 : Cond.methodLink RL 195 yX11_trace ∈ lw_big := b7_at 8 rfl rfl
theorem wim_X11_trace : Cond.instanceMethod yX11_trace ∈ lw_big := b7_at 9 rfl rfl
theorem wc_X12_trace : CWd yX12_trace cX12_trace 2 (some .int) 1 := ⟨b10_at 207 rfl rfl, wini_X12, by decide, by decide, by decide +kernel⟩
theorem wsel_X12_X12_trace : Cond.selects RX12 yX12_trace yX12_trace ∈ lw_big := b10_at 206 rfl rfl
theorem wsl_12_X12_trace : ∀ t ∈ ([12] : List Nat), t < 13 ∧ Cond.selects (RXX t) yX12_trace yX12_trace ∈ lw_big := fun t ht => by simp only [List.mem_cons, List.not_mem_nil, or_false] at ht; subst ht; exact ⟨by decide, wsel_X12_X12_trace⟩
theorem wml_L_198 : Cond.methodLink RL 198 yX12_trace ∈ lw_big := b10_at 204 rfl rfl
theorem wim_X12_trace : Cond.instanceMethod yX12_trace ∈ lw_big := b10_at 205 rfl rfl
theorem wc_X11_keep : CWd yX11_keep cX11_keep 5 (some .int) 2 := ⟨b7_at 15 rfl rfl, wini_X11, by decide, by decide, by decide +kernel⟩
theorem wsel_X11_X11_keep : Cond.selects RX11 yX11_keep yX11_keep ∈ lw_big := b7_at 14 rfl rfl
theorem wsl_11_X11_keep : ∀ t ∈ ([11] : List Nat), t < 13 ∧ Cond.selects (RXX t) yX11_keep yX11_keep ∈ lw_big := fun t ht => by simp only [List.mem_cons, List.not_mem_nil, or_false] at ht; subst ht; exact ⟨by decide, wsel_X11_X11_keep⟩
theorem wml_L_199 : Cond.methodLink RL 199 yX11_keep ∈ lw_big := b7_at 12 rfl rfl
theorem wim_X11_keep : Cond.instanceMethod yX11_keep ∈ lw_big := b7_at 13 rfl rfl
theorem wc_X12_keep : CWd yX12_keep cX12_keep 3 (some .int) 2 := ⟨b10_at 215 rfl rfl, wini_X12, by decide, by decide, by decide +kernel⟩
theorem wsel_X12_X12_keep : Cond.selects RX12 yX12_keep yX12_keep ∈ lw_big := b10_at 214 rfl rfl
theorem wsl_12_X12_keep : ∀ t ∈ ([12] : List Nat), t < 13 ∧ Cond.selects (RXX t) yX12_keep yX12_keep ∈ lw_big := fun t ht => by simp only [List.mem_cons, List.not_mem_nil, or_false] at ht; subst ht; exact ⟨by decide, wsel_X12_X12_keep⟩
theorem wml_L_202 : Cond.methodLink RL 202 yX12_keep ∈ lw_big := b10_at 212 rfl rfl
theorem wim_X12_keep : Cond.instanceMethod yX12_keep ∈ lw_big := b10_at 213 rfl rfl
theorem wc_X11_row : CWd yX11_row cX11_row 5 (some .int) 3 := ⟨b7_at 23 rfl rfl, wini_X11, by decide, by decide, by decide +kernel⟩
theorem wsel_X11_X11_row : Cond.selects RX11 yX11_row yX11_row ∈ lw_big := b7_at 22 rfl rfl
theorem wsl_11_X11_row : ∀ t ∈ ([11] : List Nat), t < 13 ∧ Cond.selects (RXX t) yX11_row yX11_row ∈ lw_big := fun t ht => by simp only [List.mem_cons, List.not_mem_nil, or_false] at ht; subst ht; exact ⟨by decide, wsel_X11_X11_row⟩
theorem wml_L_203 : Cond.methodLink RL 203 yX11_row ∈ lw_big := b7_at 20 rfl rfl
theorem wim_X11_row : Cond.instanceMethod yX11_row ∈ lw_big := b7_at 21 rfl rfl
theorem wc_X12_row : CWd yX12_row cX12_row 5 (some .int) 3 := ⟨b10_at 219 rfl rfl, wini_X12, by decide, by decide, by decide +kernel⟩
theorem wsel_X12_X12_row : Cond.selects RX12 yX12_row yX12_row ∈ lw_big := b10_at 218 rfl rfl
theorem wsl_12_X12_row : ∀ t ∈ ([12] : List Nat), t < 13 ∧ Cond.selects (RXX t) yX12_row yX12_row ∈ lw_big := fun t ht => by simp only [List.mem_cons, List.not_mem_nil, or_false] at ht; subst ht; exact ⟨by decide, wsel_X12_X12_row⟩
theorem wml_L_206 : Cond.methodLink RL 206 yX12_row ∈ lw_big := b10_at 216 rfl rfl
theorem wim_X12_row : Cond.instanceMethod yX12_row ∈ lw_big := b10_at 217 rfl rfl
theorem wk_L_207 : Cond.constantLong RL 207 (4294967295) ∈ lw_big := b11_at 0 rfl rfl
theorem wc_X11_put : CWd yX11_put cX11_put 7 (some .int) 3 := ⟨b7_at 34 rfl rfl, wini_X11, by decide, by decide, by decide +kernel⟩
theorem wsel_X11_X11_put : Cond.selects RX11 yX11_put yX11_put ∈ lw_big := b7_at 33 rfl rfl
theorem wsl_11_X11_put : ∀ t ∈ ([11] : List Nat), t < 13 ∧ Cond.selects (RXX t) yX11_put yX11_put ∈ lw_big := fun t ht => by simp only [List.mem_cons, List.not_mem_nil, or_false] at ht; subst ht; exact ⟨by decide, wsel_X11_X11_put⟩
theorem wml_L_209 : Cond.methodLink RL 209 yX11_put ∈ lw_big := b7_at 31 rfl rfl
theorem wim_X11_put : Cond.instanceMethod yX11_put ∈ lw_big := b7_at 32 rfl rfl
theorem wc_X12_put : CWd yX12_put cX12_put 7 (some .int) 3 := ⟨b10_at 223 rfl rfl, wini_X12, by decide, by decide, by decide +kernel⟩
theorem wsel_X12_X12_put : Cond.selects RX12 yX12_put yX12_put ∈ lw_big := b10_at 222 rfl rfl
theorem wsl_12_X12_put : ∀ t ∈ ([12] : List Nat), t < 13 ∧ Cond.selects (RXX t) yX12_put yX12_put ∈ lw_big := fun t ht => by simp only [List.mem_cons, List.not_mem_nil, or_false] at ht; subst ht; exact ⟨by decide, wsel_X12_X12_put⟩
theorem wml_L_213 : Cond.methodLink RL 213 yX12_put ∈ lw_big := b10_at 220 rfl rfl
theorem wim_X12_put : Cond.instanceMethod yX12_put ∈ lw_big := b10_at 221 rfl rfl
theorem wc_X11_element : CWd yX11_element cX11_element 4 (some .long) 2 := ⟨b7_at 51 rfl rfl, wini_X11, by decide, by decide, by decide +kernel⟩
theorem wsel_X11_X11_element : Cond.selects RX11 yX11_element yX11_element ∈ lw_big := b7_at 50 rfl rfl
theorem wsl_11_X11_element : ∀ t ∈ ([11] : List Nat), t < 13 ∧ Cond.selects (RXX t) yX11_element yX11_element ∈ lw_big := fun t ht => by simp only [List.mem_cons, List.not_mem_nil, or_false] at ht; subst ht; exact ⟨by decide, wsel_X11_X11_element⟩
theorem wml_L_214 : Cond.methodLink RL 214 yX11_element ∈ lw_big := b7_at 48 rfl rfl
theorem wim_X11_element : Cond.instanceMethod yX11_element ∈ lw_big := b7_at 49 rfl rfl
theorem wc_X12_element : CWd yX12_element cX12_element 3 (some .long) 2 := ⟨b10_at 231 rfl rfl, wini_X12, by decide, by decide, by decide +kernel⟩
theorem wsel_X12_X12_element : Cond.selects RX12 yX12_element yX12_element ∈ lw_big := b10_at 230 rfl rfl
theorem wsl_12_X12_element : ∀ t ∈ ([12] : List Nat), t < 13 ∧ Cond.selects (RXX t) yX12_element yX12_element ∈ lw_big := fun t ht => by simp only [List.mem_cons, List.not_mem_nil, or_false] at ht; subst ht; exact ⟨by decide, wsel_X12_X12_element⟩
theorem wml_L_217 : Cond.methodLink RL 217 yX12_element ∈ lw_big := b10_at 228 rfl rfl
theorem wim_X12_element : Cond.instanceMethod yX12_element ∈ lw_big := b10_at 229 rfl rfl
theorem wc_X11_shift : CWd yX11_shift cX11_shift 8 (some .int) 5 := ⟨b7_at 55 rfl rfl, wini_X11, by decide, by decide, by decide +kernel⟩
theorem wsel_X11_X11_shift : Cond.selects RX11 yX11_shift yX11_shift ∈ lw_big := b7_at 54 rfl rfl
theorem wsl_11_X11_shift : ∀ t ∈ ([11] : List Nat), t < 13 ∧ Cond.selects (RXX t) yX11_shift yX11_shift ∈ lw_big := fun t ht => by simp only [List.mem_cons, List.not_mem_nil, or_false] at ht; subst ht; exact ⟨by decide, wsel_X11_X11_shift⟩
theorem wml_L_218 : Cond.methodLink RL 218 yX11_shift ∈ lw_big := b7_at 52 rfl rfl
theorem wim_X11_shift : Cond.instanceMethod yX11_shift ∈ lw_big := b7_at 53 rfl rfl
theorem wc_X12_shift : CWd yX12_shift cX12_shift 7 (some .int) 5 := ⟨b10_at 235 rfl rfl, wini_X12, by decide, by decide, by decide +kernel⟩
theorem wsel_X12_X12_shift : Cond.selects RX12 yX12_shift yX12_shift ∈ lw_big := b10_at 234 rfl rfl
theorem wsl_12_X12_shift : ∀ t ∈ ([12] : List Nat), t < 13 ∧ Cond.selects (RXX t) yX12_shift yX12_shift ∈ lw_big := fun t ht => by simp only [List.mem_cons, List.not_mem_nil, or_false] at ht; subst ht; exact ⟨by decide, wsel_X12_X12_shift⟩
theorem wml_L_222 : Cond.methodLink RL 222 yX12_shift ∈ lw_big := b10_at 232 rfl rfl
theorem wim_X12_shift : Cond.instanceMethod yX12_shift ∈ lw_big := b10_at 233 rfl rfl
theorem wc_X11_taken : CWd yX11_taken cX11_taken 5 (some .int) 2 := ⟨b7_at 61 rfl rfl, wini_X11, by decide, by decide, by decide +kernel⟩
theorem wsel_X11_X11_taken : Cond.selects RX11 yX11_taken yX11_taken ∈ lw_big := b7_at 60 rfl rfl
theorem wsl_11_X11_taken : ∀ t ∈ ([11] : List Nat), t < 13 ∧ Cond.selects (RXX t) yX11_taken yX11_taken ∈ lw_big := fun t ht => by simp only [List.mem_cons, List.not_mem_nil, or_false] at ht; subst ht; exact ⟨by decide, wsel_X11_X11_taken⟩
theorem wml_L_223 : Cond.methodLink RL 223 yX11_taken ∈ lw_big := b7_at 58 rfl rfl
theorem wim_X11_taken : Cond.instanceMethod yX11_taken ∈ lw_big := b7_at 59 rfl rfl
theorem wc_X12_taken : CWd yX12_taken cX12_taken 3 (some .int) 2 := ⟨b10_at 239 rfl rfl, wini_X12, by decide, by decide, by decide +kernel⟩
theorem wsel_X12_X12_taken : Cond.selects RX12 yX12_taken yX12_taken ∈ lw_big := b10_at 238 rfl rfl
theorem wsl_12_X12_taken : ∀ t ∈ ([12] : List Nat), t < 13 ∧ Cond.selects (RXX t) yX12_taken yX12_taken ∈ lw_big := fun t ht => by simp only [List.mem_cons, List.not_mem_nil, or_false] at ht; subst ht; exact ⟨by decide, wsel_X12_X12_taken⟩
theorem wml_L_226 : Cond.methodLink RL 226 yX12_taken ∈ lw_big := b10_at 236 rfl rfl
theorem wim_X12_taken : Cond.instanceMethod yX12_taken ∈ lw_big := b10_at 237 rfl rfl
theorem wc_X11_count : CWd yX11_count cX11_count 2 (some .int) 1 := ⟨b7_at 73 rfl rfl, wini_X11, by decide, by decide, by decide +kernel⟩
theorem wsel_X11_X11_count : Cond.selects RX11 yX11_count yX11_count ∈ lw_big := b7_at 72 rfl rfl
theorem wsl_11_X11_count : ∀ t ∈ ([11] : List Nat), t < 13 ∧ Cond.selects (RXX t) yX11_count yX11_count ∈ lw_big := fun t ht => by simp only [List.mem_cons, List.not_mem_nil, or_false] at ht; subst ht; exact ⟨by decide, wsel_X11_X11_count⟩
theorem wml_L_227 : Cond.methodLink RL 227 yX11_count ∈ lw_big := b7_at 70 rfl rfl
theorem wim_X11_count : Cond.instanceMethod yX11_count ∈ lw_big := b7_at 71 rfl rfl
theorem wc_X12_count : CWd yX12_count cX12_count 4 (some .int) 1 := ⟨b10_at 211 rfl rfl, wini_X12, by decide, by decide, by decide +kernel⟩
theorem wsel_X12_X12_count : Cond.selects RX12 yX12_count yX12_count ∈ lw_big := b10_at 210 rfl rfl
theorem wsl_12_X12_count : ∀ t ∈ ([12] : List Nat), t < 13 ∧ Cond.selects (RXX t) yX12_count yX12_count ∈ lw_big := fun t ht => by simp only [List.mem_cons, List.not_mem_nil, or_false] at ht; subst ht; exact ⟨by decide, wsel_X12_X12_count⟩
theorem wml_L_230 : Cond.methodLink RL 230 yX12_count ∈ lw_big := b10_at 208 rfl rfl
theorem wim_X12_count : Cond.instanceMethod yX12_count ∈ lw_big := b10_at 209 rfl rfl
theorem dL_law_0 : decode cL_law 0 = .ok (.new 7, 3) := by decide +kernel
theorem dL_law_3 : decode cL_law 3 = .ok (.dup, 1) := by decide +kernel
theorem dL_law_4 : decode cL_law 4 = .ok (.invokespecial 9, 3) := by decide +kernel
theorem dL_law_7 : decode cL_law 7 = .ok (.astore_n 1, 1) := by decide +kernel
theorem dL_law_8 : decode cL_law 8 = .ok (.new 10, 3) := by decide +kernel
theorem dL_law_11 : decode cL_law 11 = .ok (.dup, 1) := by decide +kernel
theorem dL_law_12 : decode cL_law 12 = .ok (.invokespecial 12, 3) := by decide +kernel
theorem dL_law_15 : decode cL_law 15 = .ok (.astore_n 2, 1) := by decide +kernel
theorem dL_law_16 : decode cL_law 16 = .ok (.iconst 0, 1) := by decide +kernel
theorem dL_law_17 : decode cL_law 17 = .ok (.istore_n 3, 1) := by decide +kernel
theorem dL_law_18 : decode cL_law 18 = .ok (.iload_n 3, 1) := by decide +kernel
theorem dL_law_19 : decode cL_law 19 = .ok (.aload_n 0, 1) := by decide +kernel
theorem dL_law_20 : decode cL_law 20 = .ok (.arraylength, 1) := by decide +kernel
theorem dL_law_21 : decode cL_law 21 = .ok (.bipush 6, 2) := by decide +kernel
theorem dL_law_23 : decode cL_law 23 = .ok (.isub, 1) := by decide +kernel
theorem dL_law_24 : decode cL_law 24 = .ok (.if_icmp .gt 2066, 3) := by decide +kernel
theorem dL_law_27 : decode cL_law 27 = .ok (.aload_n 0, 1) := by decide +kernel
theorem dL_law_28 : decode cL_law 28 = .ok (.iload_n 3, 1) := by decide +kernel
theorem dL_law_29 : decode cL_law 29 = .ok (.iaload, 1) := by decide +kernel
theorem dL_law_30 : decode cL_law 30 = .ok (.bipush 63, 2) := by decide +kernel
theorem dL_law_32 : decode cL_law 32 = .ok (.iand, 1) := by decide +kernel
theorem dL_law_33 : decode cL_law 33 = .ok (.tableswitch 2051 0 51 #[223, 246, 279, 302, 325, 348, 371, 424, 467, 510, 533, 566, 609, 642, 675, 718, 771, 804, 857, 890, 923, 957, 1010, 1063, 1106, 1129, 1162, 1195, 1218, 1261, 1294, 1317, 1350, 1373, 1396, 1419, 1432, 1475, 1508, 1531, 1574, 1607, 1630, 1683, 1726, 1749, 1782, 1825, 1898, 1932, 1995, 2028], 223) := by decide +kernel
theorem dL_law_256 : decode cL_law 256 = .ok (.aload_n 1, 1) := by decide +kernel
theorem dL_law_257 : decode cL_law 257 = .ok (.aload_n 0, 1) := by decide +kernel
theorem dL_law_258 : decode cL_law 258 = .ok (.iload_n 3, 1) := by decide +kernel
theorem dL_law_259 : decode cL_law 259 = .ok (.iconst 1, 1) := by decide +kernel
theorem dL_law_260 : decode cL_law 260 = .ok (.iadd, 1) := by decide +kernel
theorem dL_law_261 : decode cL_law 261 = .ok (.iaload, 1) := by decide +kernel
theorem dL_law_262 : decode cL_law 262 = .ok (.invokevirtual 13, 3) := by decide +kernel
theorem dL_law_265 : decode cL_law 265 = .ok (.aload_n 2, 1) := by decide +kernel
theorem dL_law_266 : decode cL_law 266 = .ok (.aload_n 0, 1) := by decide +kernel
theorem dL_law_267 : decode cL_law 267 = .ok (.iload_n 3, 1) := by decide +kernel
theorem dL_law_268 : decode cL_law 268 = .ok (.iconst 1, 1) := by decide +kernel
theorem dL_law_269 : decode cL_law 269 = .ok (.iadd, 1) := by decide +kernel
theorem dL_law_270 : decode cL_law 270 = .ok (.iaload, 1) := by decide +kernel
theorem dL_law_271 : decode cL_law 271 = .ok (.invokevirtual 17, 3) := by decide +kernel
theorem dL_law_274 : decode cL_law 274 = .ok (.if_icmp .eq 1810, 3) := by decide +kernel
theorem dL_law_277 : decode cL_law 277 = .ok (.iconst 0, 1) := by decide +kernel
theorem dL_law_278 : decode cL_law 278 = .ok (.ireturn, 1) := by decide +kernel
theorem dL_law_279 : decode cL_law 279 = .ok (.aload_n 1, 1) := by decide +kernel
theorem dL_law_280 : decode cL_law 280 = .ok (.aload_n 0, 1) := by decide +kernel
theorem dL_law_281 : decode cL_law 281 = .ok (.iload_n 3, 1) := by decide +kernel
theorem dL_law_282 : decode cL_law 282 = .ok (.iconst 1, 1) := by decide +kernel
theorem dL_law_283 : decode cL_law 283 = .ok (.iadd, 1) := by decide +kernel
theorem dL_law_284 : decode cL_law 284 = .ok (.iaload, 1) := by decide +kernel
theorem dL_law_285 : decode cL_law 285 = .ok (.aload_n 0, 1) := by decide +kernel
theorem dL_law_286 : decode cL_law 286 = .ok (.iload_n 3, 1) := by decide +kernel
theorem dL_law_287 : decode cL_law 287 = .ok (.iconst 2, 1) := by decide +kernel
theorem dL_law_288 : decode cL_law 288 = .ok (.iadd, 1) := by decide +kernel
theorem dL_law_289 : decode cL_law 289 = .ok (.iaload, 1) := by decide +kernel
theorem dL_law_290 : decode cL_law 290 = .ok (.invokevirtual 18, 3) := by decide +kernel
theorem dL_law_293 : decode cL_law 293 = .ok (.aload_n 2, 1) := by decide +kernel
theorem dL_law_294 : decode cL_law 294 = .ok (.aload_n 0, 1) := by decide +kernel
theorem dL_law_295 : decode cL_law 295 = .ok (.iload_n 3, 1) := by decide +kernel
theorem dL_law_296 : decode cL_law 296 = .ok (.iconst 1, 1) := by decide +kernel
theorem dL_law_297 : decode cL_law 297 = .ok (.iadd, 1) := by decide +kernel
theorem dL_law_298 : decode cL_law 298 = .ok (.iaload, 1) := by decide +kernel
theorem dL_law_299 : decode cL_law 299 = .ok (.aload_n 0, 1) := by decide +kernel
theorem dL_law_300 : decode cL_law 300 = .ok (.iload_n 3, 1) := by decide +kernel
theorem dL_law_301 : decode cL_law 301 = .ok (.iconst 2, 1) := by decide +kernel
theorem dL_law_302 : decode cL_law 302 = .ok (.iadd, 1) := by decide +kernel
theorem dL_law_303 : decode cL_law 303 = .ok (.iaload, 1) := by decide +kernel
theorem dL_law_304 : decode cL_law 304 = .ok (.invokevirtual 22, 3) := by decide +kernel
theorem dL_law_307 : decode cL_law 307 = .ok (.if_icmp .eq 1777, 3) := by decide +kernel
theorem dL_law_310 : decode cL_law 310 = .ok (.iconst 0, 1) := by decide +kernel
theorem dL_law_311 : decode cL_law 311 = .ok (.ireturn, 1) := by decide +kernel
theorem dL_law_312 : decode cL_law 312 = .ok (.aload_n 1, 1) := by decide +kernel
theorem dL_law_313 : decode cL_law 313 = .ok (.aload_n 0, 1) := by decide +kernel
theorem dL_law_314 : decode cL_law 314 = .ok (.iload_n 3, 1) := by decide +kernel
theorem dL_law_315 : decode cL_law 315 = .ok (.iconst 1, 1) := by decide +kernel
theorem dL_law_316 : decode cL_law 316 = .ok (.iadd, 1) := by decide +kernel
theorem dL_law_317 : decode cL_law 317 = .ok (.iaload, 1) := by decide +kernel
theorem dL_law_318 : decode cL_law 318 = .ok (.invokevirtual 23, 3) := by decide +kernel
theorem dL_law_321 : decode cL_law 321 = .ok (.aload_n 2, 1) := by decide +kernel
theorem dL_law_322 : decode cL_law 322 = .ok (.aload_n 0, 1) := by decide +kernel
theorem dL_law_323 : decode cL_law 323 = .ok (.iload_n 3, 1) := by decide +kernel
theorem dL_law_324 : decode cL_law 324 = .ok (.iconst 1, 1) := by decide +kernel
theorem dL_law_325 : decode cL_law 325 = .ok (.iadd, 1) := by decide +kernel
theorem dL_law_326 : decode cL_law 326 = .ok (.iaload, 1) := by decide +kernel
theorem dL_law_327 : decode cL_law 327 = .ok (.invokevirtual 26, 3) := by decide +kernel
theorem dL_law_330 : decode cL_law 330 = .ok (.if_icmp .eq 1754, 3) := by decide +kernel
theorem dL_law_333 : decode cL_law 333 = .ok (.iconst 0, 1) := by decide +kernel
theorem dL_law_334 : decode cL_law 334 = .ok (.ireturn, 1) := by decide +kernel
theorem dL_law_335 : decode cL_law 335 = .ok (.aload_n 1, 1) := by decide +kernel
theorem dL_law_336 : decode cL_law 336 = .ok (.aload_n 0, 1) := by decide +kernel
theorem dL_law_337 : decode cL_law 337 = .ok (.iload_n 3, 1) := by decide +kernel
theorem dL_law_338 : decode cL_law 338 = .ok (.iconst 1, 1) := by decide +kernel
theorem dL_law_339 : decode cL_law 339 = .ok (.iadd, 1) := by decide +kernel
theorem dL_law_340 : decode cL_law 340 = .ok (.iaload, 1) := by decide +kernel
theorem dL_law_341 : decode cL_law 341 = .ok (.invokevirtual 27, 3) := by decide +kernel
theorem dL_law_344 : decode cL_law 344 = .ok (.aload_n 2, 1) := by decide +kernel
theorem dL_law_345 : decode cL_law 345 = .ok (.aload_n 0, 1) := by decide +kernel
theorem dL_law_346 : decode cL_law 346 = .ok (.iload_n 3, 1) := by decide +kernel
theorem dL_law_347 : decode cL_law 347 = .ok (.iconst 1, 1) := by decide +kernel
theorem dL_law_348 : decode cL_law 348 = .ok (.iadd, 1) := by decide +kernel
theorem dL_law_349 : decode cL_law 349 = .ok (.iaload, 1) := by decide +kernel
theorem dL_law_350 : decode cL_law 350 = .ok (.invokevirtual 30, 3) := by decide +kernel
theorem dL_law_353 : decode cL_law 353 = .ok (.if_icmp .eq 1731, 3) := by decide +kernel
theorem dL_law_356 : decode cL_law 356 = .ok (.iconst 0, 1) := by decide +kernel
theorem dL_law_357 : decode cL_law 357 = .ok (.ireturn, 1) := by decide +kernel
theorem dL_law_358 : decode cL_law 358 = .ok (.aload_n 1, 1) := by decide +kernel
theorem dL_law_359 : decode cL_law 359 = .ok (.aload_n 0, 1) := by decide +kernel
theorem dL_law_360 : decode cL_law 360 = .ok (.iload_n 3, 1) := by decide +kernel
theorem dL_law_361 : decode cL_law 361 = .ok (.iconst 1, 1) := by decide +kernel
theorem dL_law_362 : decode cL_law 362 = .ok (.iadd, 1) := by decide +kernel
theorem dL_law_363 : decode cL_law 363 = .ok (.iaload, 1) := by decide +kernel
theorem dL_law_364 : decode cL_law 364 = .ok (.invokevirtual 31, 3) := by decide +kernel
theorem dL_law_367 : decode cL_law 367 = .ok (.aload_n 2, 1) := by decide +kernel
theorem dL_law_368 : decode cL_law 368 = .ok (.aload_n 0, 1) := by decide +kernel
theorem dL_law_369 : decode cL_law 369 = .ok (.iload_n 3, 1) := by decide +kernel
theorem dL_law_370 : decode cL_law 370 = .ok (.iconst 1, 1) := by decide +kernel
theorem dL_law_371 : decode cL_law 371 = .ok (.iadd, 1) := by decide +kernel
theorem dL_law_372 : decode cL_law 372 = .ok (.iaload, 1) := by decide +kernel
theorem dL_law_373 : decode cL_law 373 = .ok (.invokevirtual 34, 3) := by decide +kernel
theorem dL_law_376 : decode cL_law 376 = .ok (.if_icmp .eq 1708, 3) := by decide +kernel
theorem dL_law_379 : decode cL_law 379 = .ok (.iconst 0, 1) := by decide +kernel
theorem dL_law_380 : decode cL_law 380 = .ok (.ireturn, 1) := by decide +kernel
theorem dL_law_381 : decode cL_law 381 = .ok (.aload_n 1, 1) := by decide +kernel
theorem dL_law_382 : decode cL_law 382 = .ok (.aload_n 0, 1) := by decide +kernel
theorem dL_law_383 : decode cL_law 383 = .ok (.iload_n 3, 1) := by decide +kernel
theorem dL_law_384 : decode cL_law 384 = .ok (.iconst 1, 1) := by decide +kernel
theorem dL_law_385 : decode cL_law 385 = .ok (.iadd, 1) := by decide +kernel
theorem dL_law_386 : decode cL_law 386 = .ok (.iaload, 1) := by decide +kernel
theorem dL_law_387 : decode cL_law 387 = .ok (.invokevirtual 35, 3) := by decide +kernel
theorem dL_law_390 : decode cL_law 390 = .ok (.aload_n 2, 1) := by decide +kernel
theorem dL_law_391 : decode cL_law 391 = .ok (.aload_n 0, 1) := by decide +kernel
theorem dL_law_392 : decode cL_law 392 = .ok (.iload_n 3, 1) := by decide +kernel
theorem dL_law_393 : decode cL_law 393 = .ok (.iconst 1, 1) := by decide +kernel
theorem dL_law_394 : decode cL_law 394 = .ok (.iadd, 1) := by decide +kernel
theorem dL_law_395 : decode cL_law 395 = .ok (.iaload, 1) := by decide +kernel
theorem dL_law_396 : decode cL_law 396 = .ok (.invokevirtual 38, 3) := by decide +kernel
theorem dL_law_399 : decode cL_law 399 = .ok (.if_icmp .eq 1685, 3) := by decide +kernel
theorem dL_law_402 : decode cL_law 402 = .ok (.iconst 0, 1) := by decide +kernel
theorem dL_law_403 : decode cL_law 403 = .ok (.ireturn, 1) := by decide +kernel
theorem dL_law_404 : decode cL_law 404 = .ok (.aload_n 1, 1) := by decide +kernel
theorem dL_law_405 : decode cL_law 405 = .ok (.aload_n 0, 1) := by decide +kernel
theorem dL_law_406 : decode cL_law 406 = .ok (.iload_n 3, 1) := by decide +kernel
theorem dL_law_407 : decode cL_law 407 = .ok (.iconst 1, 1) := by decide +kernel
theorem dL_law_408 : decode cL_law 408 = .ok (.iadd, 1) := by decide +kernel
theorem dL_law_409 : decode cL_law 409 = .ok (.iaload, 1) := by decide +kernel
theorem dL_law_410 : decode cL_law 410 = .ok (.aload_n 0, 1) := by decide +kernel
theorem dL_law_411 : decode cL_law 411 = .ok (.iload_n 3, 1) := by decide +kernel
theorem dL_law_412 : decode cL_law 412 = .ok (.iconst 2, 1) := by decide +kernel
theorem dL_law_413 : decode cL_law 413 = .ok (.iadd, 1) := by decide +kernel
theorem dL_law_414 : decode cL_law 414 = .ok (.iaload, 1) := by decide +kernel
theorem dL_law_415 : decode cL_law 415 = .ok (.aload_n 0, 1) := by decide +kernel
theorem dL_law_416 : decode cL_law 416 = .ok (.iload_n 3, 1) := by decide +kernel
theorem dL_law_417 : decode cL_law 417 = .ok (.iconst 3, 1) := by decide +kernel
theorem dL_law_418 : decode cL_law 418 = .ok (.iadd, 1) := by decide +kernel
theorem dL_law_419 : decode cL_law 419 = .ok (.iaload, 1) := by decide +kernel
theorem dL_law_420 : decode cL_law 420 = .ok (.aload_n 0, 1) := by decide +kernel
theorem dL_law_421 : decode cL_law 421 = .ok (.iload_n 3, 1) := by decide +kernel
theorem dL_law_422 : decode cL_law 422 = .ok (.iconst 4, 1) := by decide +kernel
theorem dL_law_423 : decode cL_law 423 = .ok (.iadd, 1) := by decide +kernel
theorem dL_law_424 : decode cL_law 424 = .ok (.iaload, 1) := by decide +kernel
theorem dL_law_425 : decode cL_law 425 = .ok (.invokevirtual 39, 3) := by decide +kernel
theorem dL_law_428 : decode cL_law 428 = .ok (.aload_n 2, 1) := by decide +kernel
theorem dL_law_429 : decode cL_law 429 = .ok (.aload_n 0, 1) := by decide +kernel
theorem dL_law_430 : decode cL_law 430 = .ok (.iload_n 3, 1) := by decide +kernel
theorem dL_law_431 : decode cL_law 431 = .ok (.iconst 1, 1) := by decide +kernel
theorem dL_law_432 : decode cL_law 432 = .ok (.iadd, 1) := by decide +kernel
theorem dL_law_433 : decode cL_law 433 = .ok (.iaload, 1) := by decide +kernel
theorem dL_law_434 : decode cL_law 434 = .ok (.aload_n 0, 1) := by decide +kernel
theorem dL_law_435 : decode cL_law 435 = .ok (.iload_n 3, 1) := by decide +kernel
theorem dL_law_436 : decode cL_law 436 = .ok (.iconst 2, 1) := by decide +kernel
theorem dL_law_437 : decode cL_law 437 = .ok (.iadd, 1) := by decide +kernel
theorem dL_law_438 : decode cL_law 438 = .ok (.iaload, 1) := by decide +kernel
theorem dL_law_439 : decode cL_law 439 = .ok (.aload_n 0, 1) := by decide +kernel
theorem dL_law_440 : decode cL_law 440 = .ok (.iload_n 3, 1) := by decide +kernel
theorem dL_law_441 : decode cL_law 441 = .ok (.iconst 3, 1) := by decide +kernel
theorem dL_law_442 : decode cL_law 442 = .ok (.iadd, 1) := by decide +kernel
theorem dL_law_443 : decode cL_law 443 = .ok (.iaload, 1) := by decide +kernel
theorem dL_law_444 : decode cL_law 444 = .ok (.aload_n 0, 1) := by decide +kernel
theorem dL_law_445 : decode cL_law 445 = .ok (.iload_n 3, 1) := by decide +kernel
theorem dL_law_446 : decode cL_law 446 = .ok (.iconst 4, 1) := by decide +kernel
theorem dL_law_447 : decode cL_law 447 = .ok (.iadd, 1) := by decide +kernel
theorem dL_law_448 : decode cL_law 448 = .ok (.iaload, 1) := by decide +kernel
theorem dL_law_449 : decode cL_law 449 = .ok (.invokevirtual 43, 3) := by decide +kernel
theorem dL_law_452 : decode cL_law 452 = .ok (.if_icmp .eq 1632, 3) := by decide +kernel
theorem dL_law_455 : decode cL_law 455 = .ok (.iconst 0, 1) := by decide +kernel
theorem dL_law_456 : decode cL_law 456 = .ok (.ireturn, 1) := by decide +kernel
theorem dL_law_457 : decode cL_law 457 = .ok (.aload_n 1, 1) := by decide +kernel
theorem dL_law_458 : decode cL_law 458 = .ok (.aload_n 0, 1) := by decide +kernel
theorem dL_law_459 : decode cL_law 459 = .ok (.iload_n 3, 1) := by decide +kernel
theorem dL_law_460 : decode cL_law 460 = .ok (.iconst 1, 1) := by decide +kernel
theorem dL_law_461 : decode cL_law 461 = .ok (.iadd, 1) := by decide +kernel
theorem dL_law_462 : decode cL_law 462 = .ok (.iaload, 1) := by decide +kernel
theorem dL_law_463 : decode cL_law 463 = .ok (.aload_n 0, 1) := by decide +kernel
theorem dL_law_464 : decode cL_law 464 = .ok (.iload_n 3, 1) := by decide +kernel
theorem dL_law_465 : decode cL_law 465 = .ok (.iconst 2, 1) := by decide +kernel
theorem dL_law_466 : decode cL_law 466 = .ok (.iadd, 1) := by decide +kernel
theorem dL_law_467 : decode cL_law 467 = .ok (.iaload, 1) := by decide +kernel
theorem dL_law_468 : decode cL_law 468 = .ok (.aload_n 0, 1) := by decide +kernel
theorem dL_law_469 : decode cL_law 469 = .ok (.iload_n 3, 1) := by decide +kernel
theorem dL_law_470 : decode cL_law 470 = .ok (.iconst 3, 1) := by decide +kernel
theorem dL_law_471 : decode cL_law 471 = .ok (.iadd, 1) := by decide +kernel
theorem dL_law_472 : decode cL_law 472 = .ok (.iaload, 1) := by decide +kernel
theorem dL_law_473 : decode cL_law 473 = .ok (.invokevirtual 44, 3) := by decide +kernel
theorem dL_law_476 : decode cL_law 476 = .ok (.aload_n 2, 1) := by decide +kernel
theorem dL_law_477 : decode cL_law 477 = .ok (.aload_n 0, 1) := by decide +kernel
theorem dL_law_478 : decode cL_law 478 = .ok (.iload_n 3, 1) := by decide +kernel
theorem dL_law_479 : decode cL_law 479 = .ok (.iconst 1, 1) := by decide +kernel
theorem dL_law_480 : decode cL_law 480 = .ok (.iadd, 1) := by decide +kernel
theorem dL_law_481 : decode cL_law 481 = .ok (.iaload, 1) := by decide +kernel
theorem dL_law_482 : decode cL_law 482 = .ok (.aload_n 0, 1) := by decide +kernel
theorem dL_law_483 : decode cL_law 483 = .ok (.iload_n 3, 1) := by decide +kernel
theorem dL_law_484 : decode cL_law 484 = .ok (.iconst 2, 1) := by decide +kernel
theorem dL_law_485 : decode cL_law 485 = .ok (.iadd, 1) := by decide +kernel
theorem dL_law_486 : decode cL_law 486 = .ok (.iaload, 1) := by decide +kernel
theorem dL_law_487 : decode cL_law 487 = .ok (.aload_n 0, 1) := by decide +kernel
theorem dL_law_488 : decode cL_law 488 = .ok (.iload_n 3, 1) := by decide +kernel
theorem dL_law_489 : decode cL_law 489 = .ok (.iconst 3, 1) := by decide +kernel
theorem dL_law_490 : decode cL_law 490 = .ok (.iadd, 1) := by decide +kernel
theorem dL_law_491 : decode cL_law 491 = .ok (.iaload, 1) := by decide +kernel
theorem dL_law_492 : decode cL_law 492 = .ok (.invokevirtual 48, 3) := by decide +kernel
theorem dL_law_495 : decode cL_law 495 = .ok (.if_icmp .eq 1589, 3) := by decide +kernel
theorem dL_law_498 : decode cL_law 498 = .ok (.iconst 0, 1) := by decide +kernel
theorem dL_law_499 : decode cL_law 499 = .ok (.ireturn, 1) := by decide +kernel
theorem dL_law_500 : decode cL_law 500 = .ok (.aload_n 1, 1) := by decide +kernel
theorem dL_law_501 : decode cL_law 501 = .ok (.aload_n 0, 1) := by decide +kernel
theorem dL_law_502 : decode cL_law 502 = .ok (.iload_n 3, 1) := by decide +kernel
theorem dL_law_503 : decode cL_law 503 = .ok (.iconst 1, 1) := by decide +kernel
theorem dL_law_504 : decode cL_law 504 = .ok (.iadd, 1) := by decide +kernel
theorem dL_law_505 : decode cL_law 505 = .ok (.iaload, 1) := by decide +kernel
theorem dL_law_506 : decode cL_law 506 = .ok (.aload_n 0, 1) := by decide +kernel
theorem dL_law_507 : decode cL_law 507 = .ok (.iload_n 3, 1) := by decide +kernel
theorem dL_law_508 : decode cL_law 508 = .ok (.iconst 2, 1) := by decide +kernel
theorem dL_law_509 : decode cL_law 509 = .ok (.iadd, 1) := by decide +kernel
theorem dL_law_510 : decode cL_law 510 = .ok (.iaload, 1) := by decide +kernel
theorem dL_law_511 : decode cL_law 511 = .ok (.aload_n 0, 1) := by decide +kernel
theorem dL_law_512 : decode cL_law 512 = .ok (.iload_n 3, 1) := by decide +kernel
theorem dL_law_513 : decode cL_law 513 = .ok (.iconst 3, 1) := by decide +kernel
theorem dL_law_514 : decode cL_law 514 = .ok (.iadd, 1) := by decide +kernel
theorem dL_law_515 : decode cL_law 515 = .ok (.iaload, 1) := by decide +kernel
theorem dL_law_516 : decode cL_law 516 = .ok (.invokevirtual 49, 3) := by decide +kernel
theorem dL_law_519 : decode cL_law 519 = .ok (.aload_n 2, 1) := by decide +kernel
theorem dL_law_520 : decode cL_law 520 = .ok (.aload_n 0, 1) := by decide +kernel
theorem dL_law_521 : decode cL_law 521 = .ok (.iload_n 3, 1) := by decide +kernel
theorem dL_law_522 : decode cL_law 522 = .ok (.iconst 1, 1) := by decide +kernel
theorem dL_law_523 : decode cL_law 523 = .ok (.iadd, 1) := by decide +kernel
theorem dL_law_524 : decode cL_law 524 = .ok (.iaload, 1) := by decide +kernel
theorem dL_law_525 : decode cL_law 525 = .ok (.aload_n 0, 1) := by decide +kernel
theorem dL_law_526 : decode cL_law 526 = .ok (.iload_n 3, 1) := by decide +kernel
theorem dL_law_527 : decode cL_law 527 = .ok (.iconst 2, 1) := by decide +kernel
theorem dL_law_528 : decode cL_law 528 = .ok (.iadd, 1) := by decide +kernel
theorem dL_law_529 : decode cL_law 529 = .ok (.iaload, 1) := by decide +kernel
theorem dL_law_530 : decode cL_law 530 = .ok (.aload_n 0, 1) := by decide +kernel
theorem dL_law_531 : decode cL_law 531 = .ok (.iload_n 3, 1) := by decide +kernel
theorem dL_law_532 : decode cL_law 532 = .ok (.iconst 3, 1) := by decide +kernel
theorem dL_law_533 : decode cL_law 533 = .ok (.iadd, 1) := by decide +kernel
theorem dL_law_534 : decode cL_law 534 = .ok (.iaload, 1) := by decide +kernel
theorem dL_law_535 : decode cL_law 535 = .ok (.invokevirtual 52, 3) := by decide +kernel
theorem dL_law_538 : decode cL_law 538 = .ok (.if_icmp .eq 1546, 3) := by decide +kernel
theorem dL_law_541 : decode cL_law 541 = .ok (.iconst 0, 1) := by decide +kernel
theorem dL_law_542 : decode cL_law 542 = .ok (.ireturn, 1) := by decide +kernel
theorem dL_law_543 : decode cL_law 543 = .ok (.aload_n 1, 1) := by decide +kernel
theorem dL_law_544 : decode cL_law 544 = .ok (.aload_n 0, 1) := by decide +kernel
theorem dL_law_545 : decode cL_law 545 = .ok (.iload_n 3, 1) := by decide +kernel
theorem dL_law_546 : decode cL_law 546 = .ok (.iconst 1, 1) := by decide +kernel
theorem dL_law_547 : decode cL_law 547 = .ok (.iadd, 1) := by decide +kernel
theorem dL_law_548 : decode cL_law 548 = .ok (.iaload, 1) := by decide +kernel
theorem dL_law_549 : decode cL_law 549 = .ok (.invokevirtual 53, 3) := by decide +kernel
theorem dL_law_552 : decode cL_law 552 = .ok (.aload_n 2, 1) := by decide +kernel
theorem dL_law_553 : decode cL_law 553 = .ok (.aload_n 0, 1) := by decide +kernel
theorem dL_law_554 : decode cL_law 554 = .ok (.iload_n 3, 1) := by decide +kernel
theorem dL_law_555 : decode cL_law 555 = .ok (.iconst 1, 1) := by decide +kernel
theorem dL_law_556 : decode cL_law 556 = .ok (.iadd, 1) := by decide +kernel
theorem dL_law_557 : decode cL_law 557 = .ok (.iaload, 1) := by decide +kernel
theorem dL_law_558 : decode cL_law 558 = .ok (.invokevirtual 56, 3) := by decide +kernel
theorem dL_law_561 : decode cL_law 561 = .ok (.if_icmp .eq 1523, 3) := by decide +kernel
theorem dL_law_564 : decode cL_law 564 = .ok (.iconst 0, 1) := by decide +kernel
theorem dL_law_565 : decode cL_law 565 = .ok (.ireturn, 1) := by decide +kernel
theorem dL_law_566 : decode cL_law 566 = .ok (.aload_n 1, 1) := by decide +kernel
theorem dL_law_567 : decode cL_law 567 = .ok (.aload_n 0, 1) := by decide +kernel
theorem dL_law_568 : decode cL_law 568 = .ok (.iload_n 3, 1) := by decide +kernel
theorem dL_law_569 : decode cL_law 569 = .ok (.iconst 1, 1) := by decide +kernel
theorem dL_law_570 : decode cL_law 570 = .ok (.iadd, 1) := by decide +kernel
theorem dL_law_571 : decode cL_law 571 = .ok (.iaload, 1) := by decide +kernel
theorem dL_law_572 : decode cL_law 572 = .ok (.aload_n 0, 1) := by decide +kernel
theorem dL_law_573 : decode cL_law 573 = .ok (.iload_n 3, 1) := by decide +kernel
theorem dL_law_574 : decode cL_law 574 = .ok (.iconst 2, 1) := by decide +kernel
theorem dL_law_575 : decode cL_law 575 = .ok (.iadd, 1) := by decide +kernel
theorem dL_law_576 : decode cL_law 576 = .ok (.iaload, 1) := by decide +kernel
theorem dL_law_577 : decode cL_law 577 = .ok (.invokevirtual 57, 3) := by decide +kernel
theorem dL_law_580 : decode cL_law 580 = .ok (.aload_n 2, 1) := by decide +kernel
theorem dL_law_581 : decode cL_law 581 = .ok (.aload_n 0, 1) := by decide +kernel
theorem dL_law_582 : decode cL_law 582 = .ok (.iload_n 3, 1) := by decide +kernel
theorem dL_law_583 : decode cL_law 583 = .ok (.iconst 1, 1) := by decide +kernel
theorem dL_law_584 : decode cL_law 584 = .ok (.iadd, 1) := by decide +kernel
theorem dL_law_585 : decode cL_law 585 = .ok (.iaload, 1) := by decide +kernel
theorem dL_law_586 : decode cL_law 586 = .ok (.aload_n 0, 1) := by decide +kernel
theorem dL_law_587 : decode cL_law 587 = .ok (.iload_n 3, 1) := by decide +kernel
theorem dL_law_588 : decode cL_law 588 = .ok (.iconst 2, 1) := by decide +kernel
theorem dL_law_589 : decode cL_law 589 = .ok (.iadd, 1) := by decide +kernel
theorem dL_law_590 : decode cL_law 590 = .ok (.iaload, 1) := by decide +kernel
theorem dL_law_591 : decode cL_law 591 = .ok (.invokevirtual 60, 3) := by decide +kernel
theorem dL_law_594 : decode cL_law 594 = .ok (.if_icmp .eq 1490, 3) := by decide +kernel
theorem dL_law_597 : decode cL_law 597 = .ok (.iconst 0, 1) := by decide +kernel
theorem dL_law_598 : decode cL_law 598 = .ok (.ireturn, 1) := by decide +kernel
theorem dL_law_599 : decode cL_law 599 = .ok (.aload_n 1, 1) := by decide +kernel
theorem dL_law_600 : decode cL_law 600 = .ok (.aload_n 0, 1) := by decide +kernel
theorem dL_law_601 : decode cL_law 601 = .ok (.iload_n 3, 1) := by decide +kernel
theorem dL_law_602 : decode cL_law 602 = .ok (.iconst 1, 1) := by decide +kernel
theorem dL_law_603 : decode cL_law 603 = .ok (.iadd, 1) := by decide +kernel
theorem dL_law_604 : decode cL_law 604 = .ok (.iaload, 1) := by decide +kernel
theorem dL_law_605 : decode cL_law 605 = .ok (.aload_n 0, 1) := by decide +kernel
theorem dL_law_606 : decode cL_law 606 = .ok (.iload_n 3, 1) := by decide +kernel
theorem dL_law_607 : decode cL_law 607 = .ok (.iconst 2, 1) := by decide +kernel
theorem dL_law_608 : decode cL_law 608 = .ok (.iadd, 1) := by decide +kernel
theorem dL_law_609 : decode cL_law 609 = .ok (.iaload, 1) := by decide +kernel
theorem dL_law_610 : decode cL_law 610 = .ok (.aload_n 0, 1) := by decide +kernel
theorem dL_law_611 : decode cL_law 611 = .ok (.iload_n 3, 1) := by decide +kernel
theorem dL_law_612 : decode cL_law 612 = .ok (.iconst 3, 1) := by decide +kernel
theorem dL_law_613 : decode cL_law 613 = .ok (.iadd, 1) := by decide +kernel
theorem dL_law_614 : decode cL_law 614 = .ok (.iaload, 1) := by decide +kernel
theorem dL_law_615 : decode cL_law 615 = .ok (.invokevirtual 61, 3) := by decide +kernel
theorem dL_law_618 : decode cL_law 618 = .ok (.aload_n 2, 1) := by decide +kernel
theorem dL_law_619 : decode cL_law 619 = .ok (.aload_n 0, 1) := by decide +kernel
theorem dL_law_620 : decode cL_law 620 = .ok (.iload_n 3, 1) := by decide +kernel
theorem dL_law_621 : decode cL_law 621 = .ok (.iconst 1, 1) := by decide +kernel
theorem dL_law_622 : decode cL_law 622 = .ok (.iadd, 1) := by decide +kernel
theorem dL_law_623 : decode cL_law 623 = .ok (.iaload, 1) := by decide +kernel
theorem dL_law_624 : decode cL_law 624 = .ok (.aload_n 0, 1) := by decide +kernel
theorem dL_law_625 : decode cL_law 625 = .ok (.iload_n 3, 1) := by decide +kernel
theorem dL_law_626 : decode cL_law 626 = .ok (.iconst 2, 1) := by decide +kernel
theorem dL_law_627 : decode cL_law 627 = .ok (.iadd, 1) := by decide +kernel
theorem dL_law_628 : decode cL_law 628 = .ok (.iaload, 1) := by decide +kernel
theorem dL_law_629 : decode cL_law 629 = .ok (.aload_n 0, 1) := by decide +kernel
theorem dL_law_630 : decode cL_law 630 = .ok (.iload_n 3, 1) := by decide +kernel
theorem dL_law_631 : decode cL_law 631 = .ok (.iconst 3, 1) := by decide +kernel
theorem dL_law_632 : decode cL_law 632 = .ok (.iadd, 1) := by decide +kernel
theorem dL_law_633 : decode cL_law 633 = .ok (.iaload, 1) := by decide +kernel
theorem dL_law_634 : decode cL_law 634 = .ok (.invokevirtual 64, 3) := by decide +kernel
theorem dL_law_637 : decode cL_law 637 = .ok (.if_icmp .eq 1447, 3) := by decide +kernel
theorem dL_law_640 : decode cL_law 640 = .ok (.iconst 0, 1) := by decide +kernel
theorem dL_law_641 : decode cL_law 641 = .ok (.ireturn, 1) := by decide +kernel
theorem dL_law_642 : decode cL_law 642 = .ok (.aload_n 1, 1) := by decide +kernel
theorem dL_law_643 : decode cL_law 643 = .ok (.aload_n 0, 1) := by decide +kernel
theorem dL_law_644 : decode cL_law 644 = .ok (.iload_n 3, 1) := by decide +kernel
theorem dL_law_645 : decode cL_law 645 = .ok (.iconst 1, 1) := by decide +kernel
theorem dL_law_646 : decode cL_law 646 = .ok (.iadd, 1) := by decide +kernel
theorem dL_law_647 : decode cL_law 647 = .ok (.iaload, 1) := by decide +kernel
theorem dL_law_648 : decode cL_law 648 = .ok (.aload_n 0, 1) := by decide +kernel
theorem dL_law_649 : decode cL_law 649 = .ok (.iload_n 3, 1) := by decide +kernel
theorem dL_law_650 : decode cL_law 650 = .ok (.iconst 2, 1) := by decide +kernel
theorem dL_law_651 : decode cL_law 651 = .ok (.iadd, 1) := by decide +kernel
theorem dL_law_652 : decode cL_law 652 = .ok (.iaload, 1) := by decide +kernel
theorem dL_law_653 : decode cL_law 653 = .ok (.invokevirtual 65, 3) := by decide +kernel
theorem dL_law_656 : decode cL_law 656 = .ok (.aload_n 2, 1) := by decide +kernel
theorem dL_law_657 : decode cL_law 657 = .ok (.aload_n 0, 1) := by decide +kernel
theorem dL_law_658 : decode cL_law 658 = .ok (.iload_n 3, 1) := by decide +kernel
theorem dL_law_659 : decode cL_law 659 = .ok (.iconst 1, 1) := by decide +kernel
theorem dL_law_660 : decode cL_law 660 = .ok (.iadd, 1) := by decide +kernel
theorem dL_law_661 : decode cL_law 661 = .ok (.iaload, 1) := by decide +kernel
theorem dL_law_662 : decode cL_law 662 = .ok (.aload_n 0, 1) := by decide +kernel
theorem dL_law_663 : decode cL_law 663 = .ok (.iload_n 3, 1) := by decide +kernel
theorem dL_law_664 : decode cL_law 664 = .ok (.iconst 2, 1) := by decide +kernel
theorem dL_law_665 : decode cL_law 665 = .ok (.iadd, 1) := by decide +kernel
theorem dL_law_666 : decode cL_law 666 = .ok (.iaload, 1) := by decide +kernel
theorem dL_law_667 : decode cL_law 667 = .ok (.invokevirtual 68, 3) := by decide +kernel
theorem dL_law_670 : decode cL_law 670 = .ok (.if_icmp .eq 1414, 3) := by decide +kernel
theorem dL_law_673 : decode cL_law 673 = .ok (.iconst 0, 1) := by decide +kernel
theorem dL_law_674 : decode cL_law 674 = .ok (.ireturn, 1) := by decide +kernel
theorem dL_law_675 : decode cL_law 675 = .ok (.aload_n 1, 1) := by decide +kernel
theorem dL_law_676 : decode cL_law 676 = .ok (.aload_n 0, 1) := by decide +kernel
theorem dL_law_677 : decode cL_law 677 = .ok (.iload_n 3, 1) := by decide +kernel
theorem dL_law_678 : decode cL_law 678 = .ok (.iconst 1, 1) := by decide +kernel
theorem dL_law_679 : decode cL_law 679 = .ok (.iadd, 1) := by decide +kernel
theorem dL_law_680 : decode cL_law 680 = .ok (.iaload, 1) := by decide +kernel
theorem dL_law_681 : decode cL_law 681 = .ok (.aload_n 0, 1) := by decide +kernel
theorem dL_law_682 : decode cL_law 682 = .ok (.iload_n 3, 1) := by decide +kernel
theorem dL_law_683 : decode cL_law 683 = .ok (.iconst 2, 1) := by decide +kernel
theorem dL_law_684 : decode cL_law 684 = .ok (.iadd, 1) := by decide +kernel
theorem dL_law_685 : decode cL_law 685 = .ok (.iaload, 1) := by decide +kernel
theorem dL_law_686 : decode cL_law 686 = .ok (.invokevirtual 69, 3) := by decide +kernel
theorem dL_law_689 : decode cL_law 689 = .ok (.aload_n 2, 1) := by decide +kernel
theorem dL_law_690 : decode cL_law 690 = .ok (.aload_n 0, 1) := by decide +kernel
theorem dL_law_691 : decode cL_law 691 = .ok (.iload_n 3, 1) := by decide +kernel
theorem dL_law_692 : decode cL_law 692 = .ok (.iconst 1, 1) := by decide +kernel
theorem dL_law_693 : decode cL_law 693 = .ok (.iadd, 1) := by decide +kernel
theorem dL_law_694 : decode cL_law 694 = .ok (.iaload, 1) := by decide +kernel
theorem dL_law_695 : decode cL_law 695 = .ok (.aload_n 0, 1) := by decide +kernel
theorem dL_law_696 : decode cL_law 696 = .ok (.iload_n 3, 1) := by decide +kernel
theorem dL_law_697 : decode cL_law 697 = .ok (.iconst 2, 1) := by decide +kernel
theorem dL_law_698 : decode cL_law 698 = .ok (.iadd, 1) := by decide +kernel
theorem dL_law_699 : decode cL_law 699 = .ok (.iaload, 1) := by decide +kernel
theorem dL_law_700 : decode cL_law 700 = .ok (.invokevirtual 72, 3) := by decide +kernel
theorem dL_law_703 : decode cL_law 703 = .ok (.if_icmp .eq 1381, 3) := by decide +kernel
theorem dL_law_706 : decode cL_law 706 = .ok (.iconst 0, 1) := by decide +kernel
theorem dL_law_707 : decode cL_law 707 = .ok (.ireturn, 1) := by decide +kernel
theorem dL_law_708 : decode cL_law 708 = .ok (.aload_n 1, 1) := by decide +kernel
theorem dL_law_709 : decode cL_law 709 = .ok (.aload_n 0, 1) := by decide +kernel
theorem dL_law_710 : decode cL_law 710 = .ok (.iload_n 3, 1) := by decide +kernel
theorem dL_law_711 : decode cL_law 711 = .ok (.iconst 1, 1) := by decide +kernel
theorem dL_law_712 : decode cL_law 712 = .ok (.iadd, 1) := by decide +kernel
theorem dL_law_713 : decode cL_law 713 = .ok (.iaload, 1) := by decide +kernel
theorem dL_law_714 : decode cL_law 714 = .ok (.aload_n 0, 1) := by decide +kernel
theorem dL_law_715 : decode cL_law 715 = .ok (.iload_n 3, 1) := by decide +kernel
theorem dL_law_716 : decode cL_law 716 = .ok (.iconst 2, 1) := by decide +kernel
theorem dL_law_717 : decode cL_law 717 = .ok (.iadd, 1) := by decide +kernel
theorem dL_law_718 : decode cL_law 718 = .ok (.iaload, 1) := by decide +kernel
theorem dL_law_719 : decode cL_law 719 = .ok (.aload_n 0, 1) := by decide +kernel
theorem dL_law_720 : decode cL_law 720 = .ok (.iload_n 3, 1) := by decide +kernel
theorem dL_law_721 : decode cL_law 721 = .ok (.iconst 3, 1) := by decide +kernel
theorem dL_law_722 : decode cL_law 722 = .ok (.iadd, 1) := by decide +kernel
theorem dL_law_723 : decode cL_law 723 = .ok (.iaload, 1) := by decide +kernel
theorem dL_law_724 : decode cL_law 724 = .ok (.invokevirtual 73, 3) := by decide +kernel
theorem dL_law_727 : decode cL_law 727 = .ok (.aload_n 2, 1) := by decide +kernel
theorem dL_law_728 : decode cL_law 728 = .ok (.aload_n 0, 1) := by decide +kernel
theorem dL_law_729 : decode cL_law 729 = .ok (.iload_n 3, 1) := by decide +kernel
theorem dL_law_730 : decode cL_law 730 = .ok (.iconst 1, 1) := by decide +kernel
theorem dL_law_731 : decode cL_law 731 = .ok (.iadd, 1) := by decide +kernel
theorem dL_law_732 : decode cL_law 732 = .ok (.iaload, 1) := by decide +kernel
theorem dL_law_733 : decode cL_law 733 = .ok (.aload_n 0, 1) := by decide +kernel
theorem dL_law_734 : decode cL_law 734 = .ok (.iload_n 3, 1) := by decide +kernel
theorem dL_law_735 : decode cL_law 735 = .ok (.iconst 2, 1) := by decide +kernel
theorem dL_law_736 : decode cL_law 736 = .ok (.iadd, 1) := by decide +kernel
theorem dL_law_737 : decode cL_law 737 = .ok (.iaload, 1) := by decide +kernel
theorem dL_law_738 : decode cL_law 738 = .ok (.aload_n 0, 1) := by decide +kernel
theorem dL_law_739 : decode cL_law 739 = .ok (.iload_n 3, 1) := by decide +kernel
theorem dL_law_740 : decode cL_law 740 = .ok (.iconst 3, 1) := by decide +kernel
theorem dL_law_741 : decode cL_law 741 = .ok (.iadd, 1) := by decide +kernel
theorem dL_law_742 : decode cL_law 742 = .ok (.iaload, 1) := by decide +kernel
theorem dL_law_743 : decode cL_law 743 = .ok (.invokevirtual 76, 3) := by decide +kernel
theorem dL_law_746 : decode cL_law 746 = .ok (.if_icmp .eq 1338, 3) := by decide +kernel
theorem dL_law_749 : decode cL_law 749 = .ok (.iconst 0, 1) := by decide +kernel
theorem dL_law_750 : decode cL_law 750 = .ok (.ireturn, 1) := by decide +kernel
theorem dL_law_751 : decode cL_law 751 = .ok (.aload_n 1, 1) := by decide +kernel
theorem dL_law_752 : decode cL_law 752 = .ok (.aload_n 0, 1) := by decide +kernel
theorem dL_law_753 : decode cL_law 753 = .ok (.iload_n 3, 1) := by decide +kernel
theorem dL_law_754 : decode cL_law 754 = .ok (.iconst 1, 1) := by decide +kernel
theorem dL_law_755 : decode cL_law 755 = .ok (.iadd, 1) := by decide +kernel
theorem dL_law_756 : decode cL_law 756 = .ok (.iaload, 1) := by decide +kernel
theorem dL_law_757 : decode cL_law 757 = .ok (.aload_n 0, 1) := by decide +kernel
theorem dL_law_758 : decode cL_law 758 = .ok (.iload_n 3, 1) := by decide +kernel
theorem dL_law_759 : decode cL_law 759 = .ok (.iconst 2, 1) := by decide +kernel
theorem dL_law_760 : decode cL_law 760 = .ok (.iadd, 1) := by decide +kernel
theorem dL_law_761 : decode cL_law 761 = .ok (.iaload, 1) := by decide +kernel
theorem dL_law_762 : decode cL_law 762 = .ok (.aload_n 0, 1) := by decide +kernel
theorem dL_law_763 : decode cL_law 763 = .ok (.iload_n 3, 1) := by decide +kernel
theorem dL_law_764 : decode cL_law 764 = .ok (.iconst 3, 1) := by decide +kernel
theorem dL_law_765 : decode cL_law 765 = .ok (.iadd, 1) := by decide +kernel
theorem dL_law_766 : decode cL_law 766 = .ok (.iaload, 1) := by decide +kernel
theorem dL_law_767 : decode cL_law 767 = .ok (.aload_n 0, 1) := by decide +kernel
theorem dL_law_768 : decode cL_law 768 = .ok (.iload_n 3, 1) := by decide +kernel
theorem dL_law_769 : decode cL_law 769 = .ok (.iconst 4, 1) := by decide +kernel
theorem dL_law_770 : decode cL_law 770 = .ok (.iadd, 1) := by decide +kernel
theorem dL_law_771 : decode cL_law 771 = .ok (.iaload, 1) := by decide +kernel
theorem dL_law_772 : decode cL_law 772 = .ok (.invokevirtual 77, 3) := by decide +kernel
theorem dL_law_775 : decode cL_law 775 = .ok (.aload_n 2, 1) := by decide +kernel
theorem dL_law_776 : decode cL_law 776 = .ok (.aload_n 0, 1) := by decide +kernel
theorem dL_law_777 : decode cL_law 777 = .ok (.iload_n 3, 1) := by decide +kernel
theorem dL_law_778 : decode cL_law 778 = .ok (.iconst 1, 1) := by decide +kernel
theorem dL_law_779 : decode cL_law 779 = .ok (.iadd, 1) := by decide +kernel
theorem dL_law_780 : decode cL_law 780 = .ok (.iaload, 1) := by decide +kernel
theorem dL_law_781 : decode cL_law 781 = .ok (.aload_n 0, 1) := by decide +kernel
theorem dL_law_782 : decode cL_law 782 = .ok (.iload_n 3, 1) := by decide +kernel
theorem dL_law_783 : decode cL_law 783 = .ok (.iconst 2, 1) := by decide +kernel
theorem dL_law_784 : decode cL_law 784 = .ok (.iadd, 1) := by decide +kernel
theorem dL_law_785 : decode cL_law 785 = .ok (.iaload, 1) := by decide +kernel
theorem dL_law_786 : decode cL_law 786 = .ok (.aload_n 0, 1) := by decide +kernel
theorem dL_law_787 : decode cL_law 787 = .ok (.iload_n 3, 1) := by decide +kernel
theorem dL_law_788 : decode cL_law 788 = .ok (.iconst 3, 1) := by decide +kernel
theorem dL_law_789 : decode cL_law 789 = .ok (.iadd, 1) := by decide +kernel
theorem dL_law_790 : decode cL_law 790 = .ok (.iaload, 1) := by decide +kernel
theorem dL_law_791 : decode cL_law 791 = .ok (.aload_n 0, 1) := by decide +kernel
theorem dL_law_792 : decode cL_law 792 = .ok (.iload_n 3, 1) := by decide +kernel
theorem dL_law_793 : decode cL_law 793 = .ok (.iconst 4, 1) := by decide +kernel
theorem dL_law_794 : decode cL_law 794 = .ok (.iadd, 1) := by decide +kernel
theorem dL_law_795 : decode cL_law 795 = .ok (.iaload, 1) := by decide +kernel
theorem dL_law_796 : decode cL_law 796 = .ok (.invokevirtual 80, 3) := by decide +kernel
theorem dL_law_799 : decode cL_law 799 = .ok (.if_icmp .eq 1285, 3) := by decide +kernel
theorem dL_law_802 : decode cL_law 802 = .ok (.iconst 0, 1) := by decide +kernel
theorem dL_law_803 : decode cL_law 803 = .ok (.ireturn, 1) := by decide +kernel
theorem dL_law_804 : decode cL_law 804 = .ok (.aload_n 1, 1) := by decide +kernel
theorem dL_law_805 : decode cL_law 805 = .ok (.aload_n 0, 1) := by decide +kernel
theorem dL_law_806 : decode cL_law 806 = .ok (.iload_n 3, 1) := by decide +kernel
theorem dL_law_807 : decode cL_law 807 = .ok (.iconst 1, 1) := by decide +kernel
theorem dL_law_808 : decode cL_law 808 = .ok (.iadd, 1) := by decide +kernel
theorem dL_law_809 : decode cL_law 809 = .ok (.iaload, 1) := by decide +kernel
theorem dL_law_810 : decode cL_law 810 = .ok (.aload_n 0, 1) := by decide +kernel
theorem dL_law_811 : decode cL_law 811 = .ok (.iload_n 3, 1) := by decide +kernel
theorem dL_law_812 : decode cL_law 812 = .ok (.iconst 2, 1) := by decide +kernel
theorem dL_law_813 : decode cL_law 813 = .ok (.iadd, 1) := by decide +kernel
theorem dL_law_814 : decode cL_law 814 = .ok (.iaload, 1) := by decide +kernel
theorem dL_law_815 : decode cL_law 815 = .ok (.invokevirtual 81, 3) := by decide +kernel
theorem dL_law_818 : decode cL_law 818 = .ok (.aload_n 2, 1) := by decide +kernel
theorem dL_law_819 : decode cL_law 819 = .ok (.aload_n 0, 1) := by decide +kernel
theorem dL_law_820 : decode cL_law 820 = .ok (.iload_n 3, 1) := by decide +kernel
theorem dL_law_821 : decode cL_law 821 = .ok (.iconst 1, 1) := by decide +kernel
theorem dL_law_822 : decode cL_law 822 = .ok (.iadd, 1) := by decide +kernel
theorem dL_law_823 : decode cL_law 823 = .ok (.iaload, 1) := by decide +kernel
theorem dL_law_824 : decode cL_law 824 = .ok (.aload_n 0, 1) := by decide +kernel
theorem dL_law_825 : decode cL_law 825 = .ok (.iload_n 3, 1) := by decide +kernel
theorem dL_law_826 : decode cL_law 826 = .ok (.iconst 2, 1) := by decide +kernel
theorem dL_law_827 : decode cL_law 827 = .ok (.iadd, 1) := by decide +kernel
theorem dL_law_828 : decode cL_law 828 = .ok (.iaload, 1) := by decide +kernel
theorem dL_law_829 : decode cL_law 829 = .ok (.invokevirtual 84, 3) := by decide +kernel
theorem dL_law_832 : decode cL_law 832 = .ok (.if_icmp .eq 1252, 3) := by decide +kernel
theorem dL_law_835 : decode cL_law 835 = .ok (.iconst 0, 1) := by decide +kernel
theorem dL_law_836 : decode cL_law 836 = .ok (.ireturn, 1) := by decide +kernel
theorem dL_law_837 : decode cL_law 837 = .ok (.aload_n 1, 1) := by decide +kernel
theorem dL_law_838 : decode cL_law 838 = .ok (.aload_n 0, 1) := by decide +kernel
theorem dL_law_839 : decode cL_law 839 = .ok (.iload_n 3, 1) := by decide +kernel
theorem dL_law_840 : decode cL_law 840 = .ok (.iconst 1, 1) := by decide +kernel
theorem dL_law_841 : decode cL_law 841 = .ok (.iadd, 1) := by decide +kernel
theorem dL_law_842 : decode cL_law 842 = .ok (.iaload, 1) := by decide +kernel
theorem dL_law_843 : decode cL_law 843 = .ok (.aload_n 0, 1) := by decide +kernel
theorem dL_law_844 : decode cL_law 844 = .ok (.iload_n 3, 1) := by decide +kernel
theorem dL_law_845 : decode cL_law 845 = .ok (.iconst 2, 1) := by decide +kernel
theorem dL_law_846 : decode cL_law 846 = .ok (.iadd, 1) := by decide +kernel
theorem dL_law_847 : decode cL_law 847 = .ok (.iaload, 1) := by decide +kernel
theorem dL_law_848 : decode cL_law 848 = .ok (.aload_n 0, 1) := by decide +kernel
theorem dL_law_849 : decode cL_law 849 = .ok (.iload_n 3, 1) := by decide +kernel
theorem dL_law_850 : decode cL_law 850 = .ok (.iconst 3, 1) := by decide +kernel
theorem dL_law_851 : decode cL_law 851 = .ok (.iadd, 1) := by decide +kernel
theorem dL_law_852 : decode cL_law 852 = .ok (.iaload, 1) := by decide +kernel
theorem dL_law_853 : decode cL_law 853 = .ok (.aload_n 0, 1) := by decide +kernel
theorem dL_law_854 : decode cL_law 854 = .ok (.iload_n 3, 1) := by decide +kernel
theorem dL_law_855 : decode cL_law 855 = .ok (.iconst 4, 1) := by decide +kernel
theorem dL_law_856 : decode cL_law 856 = .ok (.iadd, 1) := by decide +kernel
theorem dL_law_857 : decode cL_law 857 = .ok (.iaload, 1) := by decide +kernel
theorem dL_law_858 : decode cL_law 858 = .ok (.invokevirtual 85, 3) := by decide +kernel
theorem dL_law_861 : decode cL_law 861 = .ok (.aload_n 2, 1) := by decide +kernel
theorem dL_law_862 : decode cL_law 862 = .ok (.aload_n 0, 1) := by decide +kernel
theorem dL_law_863 : decode cL_law 863 = .ok (.iload_n 3, 1) := by decide +kernel
theorem dL_law_864 : decode cL_law 864 = .ok (.iconst 1, 1) := by decide +kernel
theorem dL_law_865 : decode cL_law 865 = .ok (.iadd, 1) := by decide +kernel
theorem dL_law_866 : decode cL_law 866 = .ok (.iaload, 1) := by decide +kernel
theorem dL_law_867 : decode cL_law 867 = .ok (.aload_n 0, 1) := by decide +kernel
theorem dL_law_868 : decode cL_law 868 = .ok (.iload_n 3, 1) := by decide +kernel
theorem dL_law_869 : decode cL_law 869 = .ok (.iconst 2, 1) := by decide +kernel
theorem dL_law_870 : decode cL_law 870 = .ok (.iadd, 1) := by decide +kernel
theorem dL_law_871 : decode cL_law 871 = .ok (.iaload, 1) := by decide +kernel
theorem dL_law_872 : decode cL_law 872 = .ok (.aload_n 0, 1) := by decide +kernel
theorem dL_law_873 : decode cL_law 873 = .ok (.iload_n 3, 1) := by decide +kernel
theorem dL_law_874 : decode cL_law 874 = .ok (.iconst 3, 1) := by decide +kernel
theorem dL_law_875 : decode cL_law 875 = .ok (.iadd, 1) := by decide +kernel
theorem dL_law_876 : decode cL_law 876 = .ok (.iaload, 1) := by decide +kernel
theorem dL_law_877 : decode cL_law 877 = .ok (.aload_n 0, 1) := by decide +kernel
theorem dL_law_878 : decode cL_law 878 = .ok (.iload_n 3, 1) := by decide +kernel
theorem dL_law_879 : decode cL_law 879 = .ok (.iconst 4, 1) := by decide +kernel
theorem dL_law_880 : decode cL_law 880 = .ok (.iadd, 1) := by decide +kernel
theorem dL_law_881 : decode cL_law 881 = .ok (.iaload, 1) := by decide +kernel
theorem dL_law_882 : decode cL_law 882 = .ok (.invokevirtual 88, 3) := by decide +kernel
theorem dL_law_885 : decode cL_law 885 = .ok (.if_icmp .eq 1199, 3) := by decide +kernel
theorem dL_law_888 : decode cL_law 888 = .ok (.iconst 0, 1) := by decide +kernel
theorem dL_law_889 : decode cL_law 889 = .ok (.ireturn, 1) := by decide +kernel
theorem dL_law_890 : decode cL_law 890 = .ok (.aload_n 1, 1) := by decide +kernel
theorem dL_law_891 : decode cL_law 891 = .ok (.aload_n 0, 1) := by decide +kernel
theorem dL_law_892 : decode cL_law 892 = .ok (.iload_n 3, 1) := by decide +kernel
theorem dL_law_893 : decode cL_law 893 = .ok (.iconst 1, 1) := by decide +kernel
theorem dL_law_894 : decode cL_law 894 = .ok (.iadd, 1) := by decide +kernel
theorem dL_law_895 : decode cL_law 895 = .ok (.iaload, 1) := by decide +kernel
theorem dL_law_896 : decode cL_law 896 = .ok (.aload_n 0, 1) := by decide +kernel
theorem dL_law_897 : decode cL_law 897 = .ok (.iload_n 3, 1) := by decide +kernel
theorem dL_law_898 : decode cL_law 898 = .ok (.iconst 2, 1) := by decide +kernel
theorem dL_law_899 : decode cL_law 899 = .ok (.iadd, 1) := by decide +kernel
theorem dL_law_900 : decode cL_law 900 = .ok (.iaload, 1) := by decide +kernel
theorem dL_law_901 : decode cL_law 901 = .ok (.invokevirtual 89, 3) := by decide +kernel
theorem dL_law_904 : decode cL_law 904 = .ok (.aload_n 2, 1) := by decide +kernel
theorem dL_law_905 : decode cL_law 905 = .ok (.aload_n 0, 1) := by decide +kernel
theorem dL_law_906 : decode cL_law 906 = .ok (.iload_n 3, 1) := by decide +kernel
theorem dL_law_907 : decode cL_law 907 = .ok (.iconst 1, 1) := by decide +kernel
theorem dL_law_908 : decode cL_law 908 = .ok (.iadd, 1) := by decide +kernel
theorem dL_law_909 : decode cL_law 909 = .ok (.iaload, 1) := by decide +kernel
theorem dL_law_910 : decode cL_law 910 = .ok (.aload_n 0, 1) := by decide +kernel
theorem dL_law_911 : decode cL_law 911 = .ok (.iload_n 3, 1) := by decide +kernel
theorem dL_law_912 : decode cL_law 912 = .ok (.iconst 2, 1) := by decide +kernel
theorem dL_law_913 : decode cL_law 913 = .ok (.iadd, 1) := by decide +kernel
theorem dL_law_914 : decode cL_law 914 = .ok (.iaload, 1) := by decide +kernel
theorem dL_law_915 : decode cL_law 915 = .ok (.invokevirtual 92, 3) := by decide +kernel
theorem dL_law_918 : decode cL_law 918 = .ok (.if_icmp .eq 1166, 3) := by decide +kernel
theorem dL_law_921 : decode cL_law 921 = .ok (.iconst 0, 1) := by decide +kernel
theorem dL_law_922 : decode cL_law 922 = .ok (.ireturn, 1) := by decide +kernel
theorem dL_law_923 : decode cL_law 923 = .ok (.aload_n 1, 1) := by decide +kernel
theorem dL_law_924 : decode cL_law 924 = .ok (.aload_n 0, 1) := by decide +kernel
theorem dL_law_925 : decode cL_law 925 = .ok (.iload_n 3, 1) := by decide +kernel
theorem dL_law_926 : decode cL_law 926 = .ok (.iconst 1, 1) := by decide +kernel
theorem dL_law_927 : decode cL_law 927 = .ok (.iadd, 1) := by decide +kernel
theorem dL_law_928 : decode cL_law 928 = .ok (.iaload, 1) := by decide +kernel
theorem dL_law_929 : decode cL_law 929 = .ok (.aload_n 0, 1) := by decide +kernel
theorem dL_law_930 : decode cL_law 930 = .ok (.iload_n 3, 1) := by decide +kernel
theorem dL_law_931 : decode cL_law 931 = .ok (.iconst 2, 1) := by decide +kernel
theorem dL_law_932 : decode cL_law 932 = .ok (.iadd, 1) := by decide +kernel
theorem dL_law_933 : decode cL_law 933 = .ok (.iaload, 1) := by decide +kernel
theorem dL_law_934 : decode cL_law 934 = .ok (.invokevirtual 93, 3) := by decide +kernel
theorem dL_law_937 : decode cL_law 937 = .ok (.aload_n 2, 1) := by decide +kernel
theorem dL_law_938 : decode cL_law 938 = .ok (.aload_n 0, 1) := by decide +kernel
theorem dL_law_939 : decode cL_law 939 = .ok (.iload_n 3, 1) := by decide +kernel
theorem dL_law_940 : decode cL_law 940 = .ok (.iconst 1, 1) := by decide +kernel
theorem dL_law_941 : decode cL_law 941 = .ok (.iadd, 1) := by decide +kernel
theorem dL_law_942 : decode cL_law 942 = .ok (.iaload, 1) := by decide +kernel
theorem dL_law_943 : decode cL_law 943 = .ok (.aload_n 0, 1) := by decide +kernel
theorem dL_law_944 : decode cL_law 944 = .ok (.iload_n 3, 1) := by decide +kernel
theorem dL_law_945 : decode cL_law 945 = .ok (.iconst 2, 1) := by decide +kernel
theorem dL_law_946 : decode cL_law 946 = .ok (.iadd, 1) := by decide +kernel
theorem dL_law_947 : decode cL_law 947 = .ok (.iaload, 1) := by decide +kernel
theorem dL_law_948 : decode cL_law 948 = .ok (.invokevirtual 96, 3) := by decide +kernel
theorem dL_law_951 : decode cL_law 951 = .ok (.if_icmp .eq 1133, 3) := by decide +kernel
theorem dL_law_954 : decode cL_law 954 = .ok (.iconst 0, 1) := by decide +kernel
theorem dL_law_955 : decode cL_law 955 = .ok (.ireturn, 1) := by decide +kernel
theorem dL_law_956 : decode cL_law 956 = .ok (.aload_n 1, 1) := by decide +kernel
theorem dL_law_957 : decode cL_law 957 = .ok (.aload_n 0, 1) := by decide +kernel
theorem dL_law_958 : decode cL_law 958 = .ok (.iload_n 3, 1) := by decide +kernel
theorem dL_law_959 : decode cL_law 959 = .ok (.iconst 1, 1) := by decide +kernel
theorem dL_law_960 : decode cL_law 960 = .ok (.iadd, 1) := by decide +kernel
theorem dL_law_961 : decode cL_law 961 = .ok (.iaload, 1) := by decide +kernel
theorem dL_law_962 : decode cL_law 962 = .ok (.aload_n 0, 1) := by decide +kernel
theorem dL_law_963 : decode cL_law 963 = .ok (.iload_n 3, 1) := by decide +kernel
theorem dL_law_964 : decode cL_law 964 = .ok (.iconst 2, 1) := by decide +kernel
theorem dL_law_965 : decode cL_law 965 = .ok (.iadd, 1) := by decide +kernel
theorem dL_law_966 : decode cL_law 966 = .ok (.iaload, 1) := by decide +kernel
theorem dL_law_967 : decode cL_law 967 = .ok (.invokevirtual 97, 3) := by decide +kernel
theorem dL_law_970 : decode cL_law 970 = .ok (.aload_n 2, 1) := by decide +kernel
theorem dL_law_971 : decode cL_law 971 = .ok (.aload_n 0, 1) := by decide +kernel
theorem dL_law_972 : decode cL_law 972 = .ok (.iload_n 3, 1) := by decide +kernel
theorem dL_law_973 : decode cL_law 973 = .ok (.iconst 1, 1) := by decide +kernel
theorem dL_law_974 : decode cL_law 974 = .ok (.iadd, 1) := by decide +kernel
theorem dL_law_975 : decode cL_law 975 = .ok (.iaload, 1) := by decide +kernel
theorem dL_law_976 : decode cL_law 976 = .ok (.aload_n 0, 1) := by decide +kernel
theorem dL_law_977 : decode cL_law 977 = .ok (.iload_n 3, 1) := by decide +kernel
theorem dL_law_978 : decode cL_law 978 = .ok (.iconst 2, 1) := by decide +kernel
theorem dL_law_979 : decode cL_law 979 = .ok (.iadd, 1) := by decide +kernel
theorem dL_law_980 : decode cL_law 980 = .ok (.iaload, 1) := by decide +kernel
theorem dL_law_981 : decode cL_law 981 = .ok (.invokevirtual 101, 3) := by decide +kernel
theorem dL_law_984 : decode cL_law 984 = .ok (.lcmp, 1) := by decide +kernel
theorem dL_law_985 : decode cL_law 985 = .ok (.ifCond .eq 1099, 3) := by decide +kernel
theorem dL_law_988 : decode cL_law 988 = .ok (.iconst 0, 1) := by decide +kernel
theorem dL_law_989 : decode cL_law 989 = .ok (.ireturn, 1) := by decide +kernel
theorem dL_law_990 : decode cL_law 990 = .ok (.aload_n 1, 1) := by decide +kernel
theorem dL_law_991 : decode cL_law 991 = .ok (.aload_n 0, 1) := by decide +kernel
theorem dL_law_992 : decode cL_law 992 = .ok (.iload_n 3, 1) := by decide +kernel
theorem dL_law_993 : decode cL_law 993 = .ok (.iconst 1, 1) := by decide +kernel
theorem dL_law_994 : decode cL_law 994 = .ok (.iadd, 1) := by decide +kernel
theorem dL_law_995 : decode cL_law 995 = .ok (.iaload, 1) := by decide +kernel
theorem dL_law_996 : decode cL_law 996 = .ok (.aload_n 0, 1) := by decide +kernel
theorem dL_law_997 : decode cL_law 997 = .ok (.iload_n 3, 1) := by decide +kernel
theorem dL_law_998 : decode cL_law 998 = .ok (.iconst 2, 1) := by decide +kernel
theorem dL_law_999 : decode cL_law 999 = .ok (.iadd, 1) := by decide +kernel
theorem dL_law_1000 : decode cL_law 1000 = .ok (.iaload, 1) := by decide +kernel
theorem dL_law_1001 : decode cL_law 1001 = .ok (.aload_n 0, 1) := by decide +kernel
theorem dL_law_1002 : decode cL_law 1002 = .ok (.iload_n 3, 1) := by decide +kernel
theorem dL_law_1003 : decode cL_law 1003 = .ok (.iconst 3, 1) := by decide +kernel
theorem dL_law_1004 : decode cL_law 1004 = .ok (.iadd, 1) := by decide +kernel
theorem dL_law_1005 : decode cL_law 1005 = .ok (.iaload, 1) := by decide +kernel
theorem dL_law_1006 : decode cL_law 1006 = .ok (.aload_n 0, 1) := by decide +kernel
theorem dL_law_1007 : decode cL_law 1007 = .ok (.iload_n 3, 1) := by decide +kernel
theorem dL_law_1008 : decode cL_law 1008 = .ok (.iconst 4, 1) := by decide +kernel
theorem dL_law_1009 : decode cL_law 1009 = .ok (.iadd, 1) := by decide +kernel
theorem dL_law_1010 : decode cL_law 1010 = .ok (.iaload, 1) := by decide +kernel
theorem dL_law_1011 : decode cL_law 1011 = .ok (.invokevirtual 102, 3) := by decide +kernel
theorem dL_law_1014 : decode cL_law 1014 = .ok (.aload_n 2, 1) := by decide +kernel
theorem dL_law_1015 : decode cL_law 1015 = .ok (.aload_n 0, 1) := by decide +kernel
theorem dL_law_1016 : decode cL_law 1016 = .ok (.iload_n 3, 1) := by decide +kernel
theorem dL_law_1017 : decode cL_law 1017 = .ok (.iconst 1, 1) := by decide +kernel
theorem dL_law_1018 : decode cL_law 1018 = .ok (.iadd, 1) := by decide +kernel
theorem dL_law_1019 : decode cL_law 1019 = .ok (.iaload, 1) := by decide +kernel
theorem dL_law_1020 : decode cL_law 1020 = .ok (.aload_n 0, 1) := by decide +kernel
theorem dL_law_1021 : decode cL_law 1021 = .ok (.iload_n 3, 1) := by decide +kernel
theorem dL_law_1022 : decode cL_law 1022 = .ok (.iconst 2, 1) := by decide +kernel
theorem dL_law_1023 : decode cL_law 1023 = .ok (.iadd, 1) := by decide +kernel
theorem dL_law_1024 : decode cL_law 1024 = .ok (.iaload, 1) := by decide +kernel
theorem dL_law_1025 : decode cL_law 1025 = .ok (.aload_n 0, 1) := by decide +kernel
theorem dL_law_1026 : decode cL_law 1026 = .ok (.iload_n 3, 1) := by decide +kernel
theorem dL_law_1027 : decode cL_law 1027 = .ok (.iconst 3, 1) := by decide +kernel
theorem dL_law_1028 : decode cL_law 1028 = .ok (.iadd, 1) := by decide +kernel
theorem dL_law_1029 : decode cL_law 1029 = .ok (.iaload, 1) := by decide +kernel
theorem dL_law_1030 : decode cL_law 1030 = .ok (.aload_n 0, 1) := by decide +kernel
theorem dL_law_1031 : decode cL_law 1031 = .ok (.iload_n 3, 1) := by decide +kernel
theorem dL_law_1032 : decode cL_law 1032 = .ok (.iconst 4, 1) := by decide +kernel
theorem dL_law_1033 : decode cL_law 1033 = .ok (.iadd, 1) := by decide +kernel
theorem dL_law_1034 : decode cL_law 1034 = .ok (.iaload, 1) := by decide +kernel
theorem dL_law_1035 : decode cL_law 1035 = .ok (.invokevirtual 105, 3) := by decide +kernel
theorem dL_law_1038 : decode cL_law 1038 = .ok (.if_icmp .eq 1046, 3) := by decide +kernel
theorem dL_law_1041 : decode cL_law 1041 = .ok (.iconst 0, 1) := by decide +kernel
theorem dL_law_1042 : decode cL_law 1042 = .ok (.ireturn, 1) := by decide +kernel
theorem dL_law_1043 : decode cL_law 1043 = .ok (.aload_n 1, 1) := by decide +kernel
theorem dL_law_1044 : decode cL_law 1044 = .ok (.aload_n 0, 1) := by decide +kernel
theorem dL_law_1045 : decode cL_law 1045 = .ok (.iload_n 3, 1) := by decide +kernel
theorem dL_law_1046 : decode cL_law 1046 = .ok (.iconst 1, 1) := by decide +kernel
theorem dL_law_1047 : decode cL_law 1047 = .ok (.iadd, 1) := by decide +kernel
theorem dL_law_1048 : decode cL_law 1048 = .ok (.iaload, 1) := by decide +kernel
theorem dL_law_1049 : decode cL_law 1049 = .ok (.aload_n 0, 1) := by decide +kernel
theorem dL_law_1050 : decode cL_law 1050 = .ok (.iload_n 3, 1) := by decide +kernel
theorem dL_law_1051 : decode cL_law 1051 = .ok (.iconst 2, 1) := by decide +kernel
theorem dL_law_1052 : decode cL_law 1052 = .ok (.iadd, 1) := by decide +kernel
theorem dL_law_1053 : decode cL_law 1053 = .ok (.iaload, 1) := by decide +kernel
theorem dL_law_1054 : decode cL_law 1054 = .ok (.aload_n 0, 1) := by decide +kernel
theorem dL_law_1055 : decode cL_law 1055 = .ok (.iload_n 3, 1) := by decide +kernel
theorem dL_law_1056 : decode cL_law 1056 = .ok (.iconst 3, 1) := by decide +kernel
theorem dL_law_1057 : decode cL_law 1057 = .ok (.iadd, 1) := by decide +kernel
theorem dL_law_1058 : decode cL_law 1058 = .ok (.iaload, 1) := by decide +kernel
theorem dL_law_1059 : decode cL_law 1059 = .ok (.aload_n 0, 1) := by decide +kernel
theorem dL_law_1060 : decode cL_law 1060 = .ok (.iload_n 3, 1) := by decide +kernel
theorem dL_law_1061 : decode cL_law 1061 = .ok (.iconst 4, 1) := by decide +kernel
theorem dL_law_1062 : decode cL_law 1062 = .ok (.iadd, 1) := by decide +kernel
theorem dL_law_1063 : decode cL_law 1063 = .ok (.iaload, 1) := by decide +kernel
theorem dL_law_1064 : decode cL_law 1064 = .ok (.invokevirtual 106, 3) := by decide +kernel
theorem dL_law_1067 : decode cL_law 1067 = .ok (.aload_n 2, 1) := by decide +kernel
theorem dL_law_1068 : decode cL_law 1068 = .ok (.aload_n 0, 1) := by decide +kernel
theorem dL_law_1069 : decode cL_law 1069 = .ok (.iload_n 3, 1) := by decide +kernel
theorem dL_law_1070 : decode cL_law 1070 = .ok (.iconst 1, 1) := by decide +kernel
theorem dL_law_1071 : decode cL_law 1071 = .ok (.iadd, 1) := by decide +kernel
theorem dL_law_1072 : decode cL_law 1072 = .ok (.iaload, 1) := by decide +kernel
theorem dL_law_1073 : decode cL_law 1073 = .ok (.aload_n 0, 1) := by decide +kernel
theorem dL_law_1074 : decode cL_law 1074 = .ok (.iload_n 3, 1) := by decide +kernel
theorem dL_law_1075 : decode cL_law 1075 = .ok (.iconst 2, 1) := by decide +kernel
theorem dL_law_1076 : decode cL_law 1076 = .ok (.iadd, 1) := by decide +kernel
theorem dL_law_1077 : decode cL_law 1077 = .ok (.iaload, 1) := by decide +kernel
theorem dL_law_1078 : decode cL_law 1078 = .ok (.aload_n 0, 1) := by decide +kernel
theorem dL_law_1079 : decode cL_law 1079 = .ok (.iload_n 3, 1) := by decide +kernel
theorem dL_law_1080 : decode cL_law 1080 = .ok (.iconst 3, 1) := by decide +kernel
theorem dL_law_1081 : decode cL_law 1081 = .ok (.iadd, 1) := by decide +kernel
theorem dL_law_1082 : decode cL_law 1082 = .ok (.iaload, 1) := by decide +kernel
theorem dL_law_1083 : decode cL_law 1083 = .ok (.aload_n 0, 1) := by decide +kernel
theorem dL_law_1084 : decode cL_law 1084 = .ok (.iload_n 3, 1) := by decide +kernel
theorem dL_law_1085 : decode cL_law 1085 = .ok (.iconst 4, 1) := by decide +kernel
theorem dL_law_1086 : decode cL_law 1086 = .ok (.iadd, 1) := by decide +kernel
theorem dL_law_1087 : decode cL_law 1087 = .ok (.iaload, 1) := by decide +kernel
theorem dL_law_1088 : decode cL_law 1088 = .ok (.invokevirtual 109, 3) := by decide +kernel
theorem dL_law_1091 : decode cL_law 1091 = .ok (.if_icmp .eq 993, 3) := by decide +kernel
theorem dL_law_1094 : decode cL_law 1094 = .ok (.iconst 0, 1) := by decide +kernel
theorem dL_law_1095 : decode cL_law 1095 = .ok (.ireturn, 1) := by decide +kernel
theorem dL_law_1096 : decode cL_law 1096 = .ok (.aload_n 1, 1) := by decide +kernel
theorem dL_law_1097 : decode cL_law 1097 = .ok (.aload_n 0, 1) := by decide +kernel
theorem dL_law_1098 : decode cL_law 1098 = .ok (.iload_n 3, 1) := by decide +kernel
theorem dL_law_1099 : decode cL_law 1099 = .ok (.iconst 1, 1) := by decide +kernel
theorem dL_law_1100 : decode cL_law 1100 = .ok (.iadd, 1) := by decide +kernel
theorem dL_law_1101 : decode cL_law 1101 = .ok (.iaload, 1) := by decide +kernel
theorem dL_law_1102 : decode cL_law 1102 = .ok (.aload_n 0, 1) := by decide +kernel
theorem dL_law_1103 : decode cL_law 1103 = .ok (.iload_n 3, 1) := by decide +kernel
theorem dL_law_1104 : decode cL_law 1104 = .ok (.iconst 2, 1) := by decide +kernel
theorem dL_law_1105 : decode cL_law 1105 = .ok (.iadd, 1) := by decide +kernel
theorem dL_law_1106 : decode cL_law 1106 = .ok (.iaload, 1) := by decide +kernel
theorem dL_law_1107 : decode cL_law 1107 = .ok (.aload_n 0, 1) := by decide +kernel
theorem dL_law_1108 : decode cL_law 1108 = .ok (.iload_n 3, 1) := by decide +kernel
theorem dL_law_1109 : decode cL_law 1109 = .ok (.iconst 3, 1) := by decide +kernel
theorem dL_law_1110 : decode cL_law 1110 = .ok (.iadd, 1) := by decide +kernel
theorem dL_law_1111 : decode cL_law 1111 = .ok (.iaload, 1) := by decide +kernel
theorem dL_law_1112 : decode cL_law 1112 = .ok (.invokevirtual 110, 3) := by decide +kernel
theorem dL_law_1115 : decode cL_law 1115 = .ok (.aload_n 2, 1) := by decide +kernel
theorem dL_law_1116 : decode cL_law 1116 = .ok (.aload_n 0, 1) := by decide +kernel
theorem dL_law_1117 : decode cL_law 1117 = .ok (.iload_n 3, 1) := by decide +kernel
theorem dL_law_1118 : decode cL_law 1118 = .ok (.iconst 1, 1) := by decide +kernel
theorem dL_law_1119 : decode cL_law 1119 = .ok (.iadd, 1) := by decide +kernel
theorem dL_law_1120 : decode cL_law 1120 = .ok (.iaload, 1) := by decide +kernel
theorem dL_law_1121 : decode cL_law 1121 = .ok (.aload_n 0, 1) := by decide +kernel
theorem dL_law_1122 : decode cL_law 1122 = .ok (.iload_n 3, 1) := by decide +kernel
theorem dL_law_1123 : decode cL_law 1123 = .ok (.iconst 2, 1) := by decide +kernel
theorem dL_law_1124 : decode cL_law 1124 = .ok (.iadd, 1) := by decide +kernel
theorem dL_law_1125 : decode cL_law 1125 = .ok (.iaload, 1) := by decide +kernel
theorem dL_law_1126 : decode cL_law 1126 = .ok (.aload_n 0, 1) := by decide +kernel
theorem dL_law_1127 : decode cL_law 1127 = .ok (.iload_n 3, 1) := by decide +kernel
theorem dL_law_1128 : decode cL_law 1128 = .ok (.iconst 3, 1) := by decide +kernel
theorem dL_law_1129 : decode cL_law 1129 = .ok (.iadd, 1) := by decide +kernel
theorem dL_law_1130 : decode cL_law 1130 = .ok (.iaload, 1) := by decide +kernel
theorem dL_law_1131 : decode cL_law 1131 = .ok (.invokevirtual 113, 3) := by decide +kernel
theorem dL_law_1134 : decode cL_law 1134 = .ok (.if_icmp .eq 950, 3) := by decide +kernel
theorem dL_law_1137 : decode cL_law 1137 = .ok (.iconst 0, 1) := by decide +kernel
theorem dL_law_1138 : decode cL_law 1138 = .ok (.ireturn, 1) := by decide +kernel
theorem dL_law_1139 : decode cL_law 1139 = .ok (.aload_n 1, 1) := by decide +kernel
theorem dL_law_1140 : decode cL_law 1140 = .ok (.aload_n 0, 1) := by decide +kernel
theorem dL_law_1141 : decode cL_law 1141 = .ok (.iload_n 3, 1) := by decide +kernel
theorem dL_law_1142 : decode cL_law 1142 = .ok (.iconst 1, 1) := by decide +kernel
theorem dL_law_1143 : decode cL_law 1143 = .ok (.iadd, 1) := by decide +kernel
theorem dL_law_1144 : decode cL_law 1144 = .ok (.iaload, 1) := by decide +kernel
theorem dL_law_1145 : decode cL_law 1145 = .ok (.invokevirtual 114, 3) := by decide +kernel
theorem dL_law_1148 : decode cL_law 1148 = .ok (.aload_n 2, 1) := by decide +kernel
theorem dL_law_1149 : decode cL_law 1149 = .ok (.aload_n 0, 1) := by decide +kernel
theorem dL_law_1150 : decode cL_law 1150 = .ok (.iload_n 3, 1) := by decide +kernel
theorem dL_law_1151 : decode cL_law 1151 = .ok (.iconst 1, 1) := by decide +kernel
theorem dL_law_1152 : decode cL_law 1152 = .ok (.iadd, 1) := by decide +kernel
theorem dL_law_1153 : decode cL_law 1153 = .ok (.iaload, 1) := by decide +kernel
theorem dL_law_1154 : decode cL_law 1154 = .ok (.invokevirtual 117, 3) := by decide +kernel
theorem dL_law_1157 : decode cL_law 1157 = .ok (.if_icmp .eq 927, 3) := by decide +kernel
theorem dL_law_1160 : decode cL_law 1160 = .ok (.iconst 0, 1) := by decide +kernel
theorem dL_law_1161 : decode cL_law 1161 = .ok (.ireturn, 1) := by decide +kernel
theorem dL_law_1162 : decode cL_law 1162 = .ok (.aload_n 1, 1) := by decide +kernel
theorem dL_law_1163 : decode cL_law 1163 = .ok (.aload_n 0, 1) := by decide +kernel
theorem dL_law_1164 : decode cL_law 1164 = .ok (.iload_n 3, 1) := by decide +kernel
theorem dL_law_1165 : decode cL_law 1165 = .ok (.iconst 1, 1) := by decide +kernel
theorem dL_law_1166 : decode cL_law 1166 = .ok (.iadd, 1) := by decide +kernel
theorem dL_law_1167 : decode cL_law 1167 = .ok (.iaload, 1) := by decide +kernel
theorem dL_law_1168 : decode cL_law 1168 = .ok (.aload_n 0, 1) := by decide +kernel
theorem dL_law_1169 : decode cL_law 1169 = .ok (.iload_n 3, 1) := by decide +kernel
theorem dL_law_1170 : decode cL_law 1170 = .ok (.iconst 2, 1) := by decide +kernel
theorem dL_law_1171 : decode cL_law 1171 = .ok (.iadd, 1) := by decide +kernel
theorem dL_law_1172 : decode cL_law 1172 = .ok (.iaload, 1) := by decide +kernel
theorem dL_law_1173 : decode cL_law 1173 = .ok (.invokevirtual 118, 3) := by decide +kernel
theorem dL_law_1176 : decode cL_law 1176 = .ok (.aload_n 2, 1) := by decide +kernel
theorem dL_law_1177 : decode cL_law 1177 = .ok (.aload_n 0, 1) := by decide +kernel
theorem dL_law_1178 : decode cL_law 1178 = .ok (.iload_n 3, 1) := by decide +kernel
theorem dL_law_1179 : decode cL_law 1179 = .ok (.iconst 1, 1) := by decide +kernel
theorem dL_law_1180 : decode cL_law 1180 = .ok (.iadd, 1) := by decide +kernel
theorem dL_law_1181 : decode cL_law 1181 = .ok (.iaload, 1) := by decide +kernel
theorem dL_law_1182 : decode cL_law 1182 = .ok (.aload_n 0, 1) := by decide +kernel
theorem dL_law_1183 : decode cL_law 1183 = .ok (.iload_n 3, 1) := by decide +kernel
theorem dL_law_1184 : decode cL_law 1184 = .ok (.iconst 2, 1) := by decide +kernel
theorem dL_law_1185 : decode cL_law 1185 = .ok (.iadd, 1) := by decide +kernel
theorem dL_law_1186 : decode cL_law 1186 = .ok (.iaload, 1) := by decide +kernel
theorem dL_law_1187 : decode cL_law 1187 = .ok (.invokevirtual 121, 3) := by decide +kernel
theorem dL_law_1190 : decode cL_law 1190 = .ok (.if_icmp .eq 894, 3) := by decide +kernel
theorem dL_law_1193 : decode cL_law 1193 = .ok (.iconst 0, 1) := by decide +kernel
theorem dL_law_1194 : decode cL_law 1194 = .ok (.ireturn, 1) := by decide +kernel
theorem dL_law_1195 : decode cL_law 1195 = .ok (.aload_n 1, 1) := by decide +kernel
theorem dL_law_1196 : decode cL_law 1196 = .ok (.aload_n 0, 1) := by decide +kernel
theorem dL_law_1197 : decode cL_law 1197 = .ok (.iload_n 3, 1) := by decide +kernel
theorem dL_law_1198 : decode cL_law 1198 = .ok (.iconst 1, 1) := by decide +kernel
theorem dL_law_1199 : decode cL_law 1199 = .ok (.iadd, 1) := by decide +kernel
theorem dL_law_1200 : decode cL_law 1200 = .ok (.iaload, 1) := by decide +kernel
theorem dL_law_1201 : decode cL_law 1201 = .ok (.aload_n 0, 1) := by decide +kernel
theorem dL_law_1202 : decode cL_law 1202 = .ok (.iload_n 3, 1) := by decide +kernel
theorem dL_law_1203 : decode cL_law 1203 = .ok (.iconst 2, 1) := by decide +kernel
theorem dL_law_1204 : decode cL_law 1204 = .ok (.iadd, 1) := by decide +kernel
theorem dL_law_1205 : decode cL_law 1205 = .ok (.iaload, 1) := by decide +kernel
theorem dL_law_1206 : decode cL_law 1206 = .ok (.invokevirtual 122, 3) := by decide +kernel
theorem dL_law_1209 : decode cL_law 1209 = .ok (.aload_n 2, 1) := by decide +kernel
theorem dL_law_1210 : decode cL_law 1210 = .ok (.aload_n 0, 1) := by decide +kernel
theorem dL_law_1211 : decode cL_law 1211 = .ok (.iload_n 3, 1) := by decide +kernel
theorem dL_law_1212 : decode cL_law 1212 = .ok (.iconst 1, 1) := by decide +kernel
theorem dL_law_1213 : decode cL_law 1213 = .ok (.iadd, 1) := by decide +kernel
theorem dL_law_1214 : decode cL_law 1214 = .ok (.iaload, 1) := by decide +kernel
theorem dL_law_1215 : decode cL_law 1215 = .ok (.aload_n 0, 1) := by decide +kernel
theorem dL_law_1216 : decode cL_law 1216 = .ok (.iload_n 3, 1) := by decide +kernel
theorem dL_law_1217 : decode cL_law 1217 = .ok (.iconst 2, 1) := by decide +kernel
theorem dL_law_1218 : decode cL_law 1218 = .ok (.iadd, 1) := by decide +kernel
theorem dL_law_1219 : decode cL_law 1219 = .ok (.iaload, 1) := by decide +kernel
theorem dL_law_1220 : decode cL_law 1220 = .ok (.invokevirtual 125, 3) := by decide +kernel
theorem dL_law_1223 : decode cL_law 1223 = .ok (.if_icmp .eq 861, 3) := by decide +kernel
theorem dL_law_1226 : decode cL_law 1226 = .ok (.iconst 0, 1) := by decide +kernel
theorem dL_law_1227 : decode cL_law 1227 = .ok (.ireturn, 1) := by decide +kernel
theorem dL_law_1228 : decode cL_law 1228 = .ok (.aload_n 1, 1) := by decide +kernel
theorem dL_law_1229 : decode cL_law 1229 = .ok (.aload_n 0, 1) := by decide +kernel
theorem dL_law_1230 : decode cL_law 1230 = .ok (.iload_n 3, 1) := by decide +kernel
theorem dL_law_1231 : decode cL_law 1231 = .ok (.iconst 1, 1) := by decide +kernel
theorem dL_law_1232 : decode cL_law 1232 = .ok (.iadd, 1) := by decide +kernel
theorem dL_law_1233 : decode cL_law 1233 = .ok (.iaload, 1) := by decide +kernel
theorem dL_law_1234 : decode cL_law 1234 = .ok (.invokevirtual 126, 3) := by decide +kernel
theorem dL_law_1237 : decode cL_law 1237 = .ok (.aload_n 2, 1) := by decide +kernel
theorem dL_law_1238 : decode cL_law 1238 = .ok (.aload_n 0, 1) := by decide +kernel
theorem dL_law_1239 : decode cL_law 1239 = .ok (.iload_n 3, 1) := by decide +kernel
theorem dL_law_1240 : decode cL_law 1240 = .ok (.iconst 1, 1) := by decide +kernel
theorem dL_law_1241 : decode cL_law 1241 = .ok (.iadd, 1) := by decide +kernel
theorem dL_law_1242 : decode cL_law 1242 = .ok (.iaload, 1) := by decide +kernel
theorem dL_law_1243 : decode cL_law 1243 = .ok (.invokevirtual 129, 3) := by decide +kernel
theorem dL_law_1246 : decode cL_law 1246 = .ok (.if_icmp .eq 838, 3) := by decide +kernel
theorem dL_law_1249 : decode cL_law 1249 = .ok (.iconst 0, 1) := by decide +kernel
theorem dL_law_1250 : decode cL_law 1250 = .ok (.ireturn, 1) := by decide +kernel
theorem dL_law_1251 : decode cL_law 1251 = .ok (.aload_n 1, 1) := by decide +kernel
theorem dL_law_1252 : decode cL_law 1252 = .ok (.aload_n 0, 1) := by decide +kernel
theorem dL_law_1253 : decode cL_law 1253 = .ok (.iload_n 3, 1) := by decide +kernel
theorem dL_law_1254 : decode cL_law 1254 = .ok (.iconst 1, 1) := by decide +kernel
theorem dL_law_1255 : decode cL_law 1255 = .ok (.iadd, 1) := by decide +kernel
theorem dL_law_1256 : decode cL_law 1256 = .ok (.iaload, 1) := by decide +kernel
theorem dL_law_1257 : decode cL_law 1257 = .ok (.aload_n 0, 1) := by decide +kernel
theorem dL_law_1258 : decode cL_law 1258 = .ok (.iload_n 3, 1) := by decide +kernel
theorem dL_law_1259 : decode cL_law 1259 = .ok (.iconst 2, 1) := by decide +kernel
theorem dL_law_1260 : decode cL_law 1260 = .ok (.iadd, 1) := by decide +kernel
theorem dL_law_1261 : decode cL_law 1261 = .ok (.iaload, 1) := by decide +kernel
theorem dL_law_1262 : decode cL_law 1262 = .ok (.aload_n 0, 1) := by decide +kernel
theorem dL_law_1263 : decode cL_law 1263 = .ok (.iload_n 3, 1) := by decide +kernel
theorem dL_law_1264 : decode cL_law 1264 = .ok (.iconst 3, 1) := by decide +kernel
theorem dL_law_1265 : decode cL_law 1265 = .ok (.iadd, 1) := by decide +kernel
theorem dL_law_1266 : decode cL_law 1266 = .ok (.iaload, 1) := by decide +kernel
theorem dL_law_1267 : decode cL_law 1267 = .ok (.invokevirtual 130, 3) := by decide +kernel
theorem dL_law_1270 : decode cL_law 1270 = .ok (.aload_n 2, 1) := by decide +kernel
theorem dL_law_1271 : decode cL_law 1271 = .ok (.aload_n 0, 1) := by decide +kernel
theorem dL_law_1272 : decode cL_law 1272 = .ok (.iload_n 3, 1) := by decide +kernel
theorem dL_law_1273 : decode cL_law 1273 = .ok (.iconst 1, 1) := by decide +kernel
theorem dL_law_1274 : decode cL_law 1274 = .ok (.iadd, 1) := by decide +kernel
theorem dL_law_1275 : decode cL_law 1275 = .ok (.iaload, 1) := by decide +kernel
theorem dL_law_1276 : decode cL_law 1276 = .ok (.aload_n 0, 1) := by decide +kernel
theorem dL_law_1277 : decode cL_law 1277 = .ok (.iload_n 3, 1) := by decide +kernel
theorem dL_law_1278 : decode cL_law 1278 = .ok (.iconst 2, 1) := by decide +kernel
theorem dL_law_1279 : decode cL_law 1279 = .ok (.iadd, 1) := by decide +kernel
theorem dL_law_1280 : decode cL_law 1280 = .ok (.iaload, 1) := by decide +kernel
theorem dL_law_1281 : decode cL_law 1281 = .ok (.aload_n 0, 1) := by decide +kernel
theorem dL_law_1282 : decode cL_law 1282 = .ok (.iload_n 3, 1) := by decide +kernel
theorem dL_law_1283 : decode cL_law 1283 = .ok (.iconst 3, 1) := by decide +kernel
theorem dL_law_1284 : decode cL_law 1284 = .ok (.iadd, 1) := by decide +kernel
theorem dL_law_1285 : decode cL_law 1285 = .ok (.iaload, 1) := by decide +kernel
theorem dL_law_1286 : decode cL_law 1286 = .ok (.invokevirtual 133, 3) := by decide +kernel
theorem dL_law_1289 : decode cL_law 1289 = .ok (.if_icmp .eq 795, 3) := by decide +kernel
theorem dL_law_1292 : decode cL_law 1292 = .ok (.iconst 0, 1) := by decide +kernel
theorem dL_law_1293 : decode cL_law 1293 = .ok (.ireturn, 1) := by decide +kernel
theorem dL_law_1294 : decode cL_law 1294 = .ok (.aload_n 1, 1) := by decide +kernel
theorem dL_law_1295 : decode cL_law 1295 = .ok (.aload_n 0, 1) := by decide +kernel
theorem dL_law_1296 : decode cL_law 1296 = .ok (.iload_n 3, 1) := by decide +kernel
theorem dL_law_1297 : decode cL_law 1297 = .ok (.iconst 1, 1) := by decide +kernel
theorem dL_law_1298 : decode cL_law 1298 = .ok (.iadd, 1) := by decide +kernel
theorem dL_law_1299 : decode cL_law 1299 = .ok (.iaload, 1) := by decide +kernel
theorem dL_law_1300 : decode cL_law 1300 = .ok (.aload_n 0, 1) := by decide +kernel
theorem dL_law_1301 : decode cL_law 1301 = .ok (.iload_n 3, 1) := by decide +kernel
theorem dL_law_1302 : decode cL_law 1302 = .ok (.iconst 2, 1) := by decide +kernel
theorem dL_law_1303 : decode cL_law 1303 = .ok (.iadd, 1) := by decide +kernel
theorem dL_law_1304 : decode cL_law 1304 = .ok (.iaload, 1) := by decide +kernel
theorem dL_law_1305 : decode cL_law 1305 = .ok (.invokevirtual 134, 3) := by decide +kernel
theorem dL_law_1308 : decode cL_law 1308 = .ok (.aload_n 2, 1) := by decide +kernel
theorem dL_law_1309 : decode cL_law 1309 = .ok (.aload_n 0, 1) := by decide +kernel
theorem dL_law_1310 : decode cL_law 1310 = .ok (.iload_n 3, 1) := by decide +kernel
theorem dL_law_1311 : decode cL_law 1311 = .ok (.iconst 1, 1) := by decide +kernel
theorem dL_law_1312 : decode cL_law 1312 = .ok (.iadd, 1) := by decide +kernel
theorem dL_law_1313 : decode cL_law 1313 = .ok (.iaload, 1) := by decide +kernel
theorem dL_law_1314 : decode cL_law 1314 = .ok (.aload_n 0, 1) := by decide +kernel
theorem dL_law_1315 : decode cL_law 1315 = .ok (.iload_n 3, 1) := by decide +kernel
theorem dL_law_1316 : decode cL_law 1316 = .ok (.iconst 2, 1) := by decide +kernel
theorem dL_law_1317 : decode cL_law 1317 = .ok (.iadd, 1) := by decide +kernel
theorem dL_law_1318 : decode cL_law 1318 = .ok (.iaload, 1) := by decide +kernel
theorem dL_law_1319 : decode cL_law 1319 = .ok (.invokevirtual 137, 3) := by decide +kernel
theorem dL_law_1322 : decode cL_law 1322 = .ok (.if_icmp .eq 762, 3) := by decide +kernel
theorem dL_law_1325 : decode cL_law 1325 = .ok (.iconst 0, 1) := by decide +kernel
theorem dL_law_1326 : decode cL_law 1326 = .ok (.ireturn, 1) := by decide +kernel
theorem dL_law_1327 : decode cL_law 1327 = .ok (.aload_n 1, 1) := by decide +kernel
theorem dL_law_1328 : decode cL_law 1328 = .ok (.aload_n 0, 1) := by decide +kernel
theorem dL_law_1329 : decode cL_law 1329 = .ok (.iload_n 3, 1) := by decide +kernel
theorem dL_law_1330 : decode cL_law 1330 = .ok (.iconst 1, 1) := by decide +kernel
theorem dL_law_1331 : decode cL_law 1331 = .ok (.iadd, 1) := by decide +kernel
theorem dL_law_1332 : decode cL_law 1332 = .ok (.iaload, 1) := by decide +kernel
theorem dL_law_1333 : decode cL_law 1333 = .ok (.invokevirtual 138, 3) := by decide +kernel
theorem dL_law_1336 : decode cL_law 1336 = .ok (.aload_n 2, 1) := by decide +kernel
theorem dL_law_1337 : decode cL_law 1337 = .ok (.aload_n 0, 1) := by decide +kernel
theorem dL_law_1338 : decode cL_law 1338 = .ok (.iload_n 3, 1) := by decide +kernel
theorem dL_law_1339 : decode cL_law 1339 = .ok (.iconst 1, 1) := by decide +kernel
theorem dL_law_1340 : decode cL_law 1340 = .ok (.iadd, 1) := by decide +kernel
theorem dL_law_1341 : decode cL_law 1341 = .ok (.iaload, 1) := by decide +kernel
theorem dL_law_1342 : decode cL_law 1342 = .ok (.invokevirtual 141, 3) := by decide +kernel
theorem dL_law_1345 : decode cL_law 1345 = .ok (.if_icmp .eq 739, 3) := by decide +kernel
theorem dL_law_1348 : decode cL_law 1348 = .ok (.iconst 0, 1) := by decide +kernel
theorem dL_law_1349 : decode cL_law 1349 = .ok (.ireturn, 1) := by decide +kernel
theorem dL_law_1350 : decode cL_law 1350 = .ok (.aload_n 1, 1) := by decide +kernel
theorem dL_law_1351 : decode cL_law 1351 = .ok (.aload_n 0, 1) := by decide +kernel
theorem dL_law_1352 : decode cL_law 1352 = .ok (.iload_n 3, 1) := by decide +kernel
theorem dL_law_1353 : decode cL_law 1353 = .ok (.iconst 1, 1) := by decide +kernel
theorem dL_law_1354 : decode cL_law 1354 = .ok (.iadd, 1) := by decide +kernel
theorem dL_law_1355 : decode cL_law 1355 = .ok (.iaload, 1) := by decide +kernel
theorem dL_law_1356 : decode cL_law 1356 = .ok (.aload_n 0, 1) := by decide +kernel
theorem dL_law_1357 : decode cL_law 1357 = .ok (.iload_n 3, 1) := by decide +kernel
theorem dL_law_1358 : decode cL_law 1358 = .ok (.iconst 2, 1) := by decide +kernel
theorem dL_law_1359 : decode cL_law 1359 = .ok (.iadd, 1) := by decide +kernel
theorem dL_law_1360 : decode cL_law 1360 = .ok (.iaload, 1) := by decide +kernel
theorem dL_law_1361 : decode cL_law 1361 = .ok (.invokevirtual 142, 3) := by decide +kernel
theorem dL_law_1364 : decode cL_law 1364 = .ok (.aload_n 2, 1) := by decide +kernel
theorem dL_law_1365 : decode cL_law 1365 = .ok (.aload_n 0, 1) := by decide +kernel
theorem dL_law_1366 : decode cL_law 1366 = .ok (.iload_n 3, 1) := by decide +kernel
theorem dL_law_1367 : decode cL_law 1367 = .ok (.iconst 1, 1) := by decide +kernel
theorem dL_law_1368 : decode cL_law 1368 = .ok (.iadd, 1) := by decide +kernel
theorem dL_law_1369 : decode cL_law 1369 = .ok (.iaload, 1) := by decide +kernel
theorem dL_law_1370 : decode cL_law 1370 = .ok (.aload_n 0, 1) := by decide +kernel
theorem dL_law_1371 : decode cL_law 1371 = .ok (.iload_n 3, 1) := by decide +kernel
theorem dL_law_1372 : decode cL_law 1372 = .ok (.iconst 2, 1) := by decide +kernel
theorem dL_law_1373 : decode cL_law 1373 = .ok (.iadd, 1) := by decide +kernel
theorem dL_law_1374 : decode cL_law 1374 = .ok (.iaload, 1) := by decide +kernel
theorem dL_law_1375 : decode cL_law 1375 = .ok (.invokevirtual 145, 3) := by decide +kernel
theorem dL_law_1378 : decode cL_law 1378 = .ok (.if_icmp .eq 706, 3) := by decide +kernel
theorem dL_law_1381 : decode cL_law 1381 = .ok (.iconst 0, 1) := by decide +kernel
theorem dL_law_1382 : decode cL_law 1382 = .ok (.ireturn, 1) := by decide +kernel
theorem dL_law_1383 : decode cL_law 1383 = .ok (.aload_n 1, 1) := by decide +kernel
theorem dL_law_1384 : decode cL_law 1384 = .ok (.aload_n 0, 1) := by decide +kernel
theorem dL_law_1385 : decode cL_law 1385 = .ok (.iload_n 3, 1) := by decide +kernel
theorem dL_law_1386 : decode cL_law 1386 = .ok (.iconst 1, 1) := by decide +kernel
theorem dL_law_1387 : decode cL_law 1387 = .ok (.iadd, 1) := by decide +kernel
theorem dL_law_1388 : decode cL_law 1388 = .ok (.iaload, 1) := by decide +kernel
theorem dL_law_1389 : decode cL_law 1389 = .ok (.invokevirtual 146, 3) := by decide +kernel
theorem dL_law_1392 : decode cL_law 1392 = .ok (.aload_n 2, 1) := by decide +kernel
theorem dL_law_1393 : decode cL_law 1393 = .ok (.aload_n 0, 1) := by decide +kernel
theorem dL_law_1394 : decode cL_law 1394 = .ok (.iload_n 3, 1) := by decide +kernel
theorem dL_law_1395 : decode cL_law 1395 = .ok (.iconst 1, 1) := by decide +kernel
theorem dL_law_1396 : decode cL_law 1396 = .ok (.iadd, 1) := by decide +kernel
theorem dL_law_1397 : decode cL_law 1397 = .ok (.iaload, 1) := by decide +kernel
theorem dL_law_1398 : decode cL_law 1398 = .ok (.invokevirtual 149, 3) := by decide +kernel
theorem dL_law_1401 : decode cL_law 1401 = .ok (.if_icmp .eq 683, 3) := by decide +kernel
theorem dL_law_1404 : decode cL_law 1404 = .ok (.iconst 0, 1) := by decide +kernel
theorem dL_law_1405 : decode cL_law 1405 = .ok (.ireturn, 1) := by decide +kernel
theorem dL_law_1406 : decode cL_law 1406 = .ok (.aload_n 1, 1) := by decide +kernel
theorem dL_law_1407 : decode cL_law 1407 = .ok (.aload_n 0, 1) := by decide +kernel
theorem dL_law_1408 : decode cL_law 1408 = .ok (.iload_n 3, 1) := by decide +kernel
theorem dL_law_1409 : decode cL_law 1409 = .ok (.iconst 1, 1) := by decide +kernel
theorem dL_law_1410 : decode cL_law 1410 = .ok (.iadd, 1) := by decide +kernel
theorem dL_law_1411 : decode cL_law 1411 = .ok (.iaload, 1) := by decide +kernel
theorem dL_law_1412 : decode cL_law 1412 = .ok (.invokevirtual 150, 3) := by decide +kernel
theorem dL_law_1415 : decode cL_law 1415 = .ok (.aload_n 2, 1) := by decide +kernel
theorem dL_law_1416 : decode cL_law 1416 = .ok (.aload_n 0, 1) := by decide +kernel
theorem dL_law_1417 : decode cL_law 1417 = .ok (.iload_n 3, 1) := by decide +kernel
theorem dL_law_1418 : decode cL_law 1418 = .ok (.iconst 1, 1) := by decide +kernel
theorem dL_law_1419 : decode cL_law 1419 = .ok (.iadd, 1) := by decide +kernel
theorem dL_law_1420 : decode cL_law 1420 = .ok (.iaload, 1) := by decide +kernel
theorem dL_law_1421 : decode cL_law 1421 = .ok (.invokevirtual 153, 3) := by decide +kernel
theorem dL_law_1424 : decode cL_law 1424 = .ok (.if_icmp .eq 660, 3) := by decide +kernel
theorem dL_law_1427 : decode cL_law 1427 = .ok (.iconst 0, 1) := by decide +kernel
theorem dL_law_1428 : decode cL_law 1428 = .ok (.ireturn, 1) := by decide +kernel
theorem dL_law_1429 : decode cL_law 1429 = .ok (.aload_n 1, 1) := by decide +kernel
theorem dL_law_1430 : decode cL_law 1430 = .ok (.aload_n 0, 1) := by decide +kernel
theorem dL_law_1431 : decode cL_law 1431 = .ok (.iload_n 3, 1) := by decide +kernel
theorem dL_law_1432 : decode cL_law 1432 = .ok (.iconst 1, 1) := by decide +kernel
theorem dL_law_1433 : decode cL_law 1433 = .ok (.iadd, 1) := by decide +kernel
theorem dL_law_1434 : decode cL_law 1434 = .ok (.iaload, 1) := by decide +kernel
theorem dL_law_1435 : decode cL_law 1435 = .ok (.invokevirtual 154, 3) := by decide +kernel
theorem dL_law_1438 : decode cL_law 1438 = .ok (.aload_n 2, 1) := by decide +kernel
theorem dL_law_1439 : decode cL_law 1439 = .ok (.aload_n 0, 1) := by decide +kernel
theorem dL_law_1440 : decode cL_law 1440 = .ok (.iload_n 3, 1) := by decide +kernel
theorem dL_law_1441 : decode cL_law 1441 = .ok (.iconst 1, 1) := by decide +kernel
theorem dL_law_1442 : decode cL_law 1442 = .ok (.iadd, 1) := by decide +kernel
theorem dL_law_1443 : decode cL_law 1443 = .ok (.iaload, 1) := by decide +kernel
theorem dL_law_1444 : decode cL_law 1444 = .ok (.invokevirtual 157, 3) := by decide +kernel
theorem dL_law_1447 : decode cL_law 1447 = .ok (.if_icmp .eq 637, 3) := by decide +kernel
theorem dL_law_1450 : decode cL_law 1450 = .ok (.iconst 0, 1) := by decide +kernel
theorem dL_law_1451 : decode cL_law 1451 = .ok (.ireturn, 1) := by decide +kernel
theorem dL_law_1452 : decode cL_law 1452 = .ok (.aload_n 1, 1) := by decide +kernel
theorem dL_law_1453 : decode cL_law 1453 = .ok (.invokevirtual 158, 3) := by decide +kernel
theorem dL_law_1456 : decode cL_law 1456 = .ok (.aload_n 2, 1) := by decide +kernel
theorem dL_law_1457 : decode cL_law 1457 = .ok (.invokevirtual 162, 3) := by decide +kernel
theorem dL_law_1460 : decode cL_law 1460 = .ok (.if_icmp .eq 624, 3) := by decide +kernel
theorem dL_law_1463 : decode cL_law 1463 = .ok (.iconst 0, 1) := by decide +kernel
theorem dL_law_1464 : decode cL_law 1464 = .ok (.ireturn, 1) := by decide +kernel
theorem dL_law_1465 : decode cL_law 1465 = .ok (.aload_n 1, 1) := by decide +kernel
theorem dL_law_1466 : decode cL_law 1466 = .ok (.aload_n 0, 1) := by decide +kernel
theorem dL_law_1467 : decode cL_law 1467 = .ok (.iload_n 3, 1) := by decide +kernel
theorem dL_law_1468 : decode cL_law 1468 = .ok (.iconst 1, 1) := by decide +kernel
theorem dL_law_1469 : decode cL_law 1469 = .ok (.iadd, 1) := by decide +kernel
theorem dL_law_1470 : decode cL_law 1470 = .ok (.iaload, 1) := by decide +kernel
theorem dL_law_1471 : decode cL_law 1471 = .ok (.aload_n 0, 1) := by decide +kernel
theorem dL_law_1472 : decode cL_law 1472 = .ok (.iload_n 3, 1) := by decide +kernel
theorem dL_law_1473 : decode cL_law 1473 = .ok (.iconst 2, 1) := by decide +kernel
theorem dL_law_1474 : decode cL_law 1474 = .ok (.iadd, 1) := by decide +kernel
theorem dL_law_1475 : decode cL_law 1475 = .ok (.iaload, 1) := by decide +kernel
theorem dL_law_1476 : decode cL_law 1476 = .ok (.aload_n 0, 1) := by decide +kernel
theorem dL_law_1477 : decode cL_law 1477 = .ok (.iload_n 3, 1) := by decide +kernel
theorem dL_law_1478 : decode cL_law 1478 = .ok (.iconst 3, 1) := by decide +kernel
theorem dL_law_1479 : decode cL_law 1479 = .ok (.iadd, 1) := by decide +kernel
theorem dL_law_1480 : decode cL_law 1480 = .ok (.iaload, 1) := by decide +kernel
theorem dL_law_1481 : decode cL_law 1481 = .ok (.invokevirtual 163, 3) := by decide +kernel
theorem dL_law_1484 : decode cL_law 1484 = .ok (.aload_n 2, 1) := by decide +kernel
theorem dL_law_1485 : decode cL_law 1485 = .ok (.aload_n 0, 1) := by decide +kernel
theorem dL_law_1486 : decode cL_law 1486 = .ok (.iload_n 3, 1) := by decide +kernel
theorem dL_law_1487 : decode cL_law 1487 = .ok (.iconst 1, 1) := by decide +kernel
theorem dL_law_1488 : decode cL_law 1488 = .ok (.iadd, 1) := by decide +kernel
theorem dL_law_1489 : decode cL_law 1489 = .ok (.iaload, 1) := by decide +kernel
theorem dL_law_1490 : decode cL_law 1490 = .ok (.aload_n 0, 1) := by decide +kernel
theorem dL_law_1491 : decode cL_law 1491 = .ok (.iload_n 3, 1) := by decide +kernel
theorem dL_law_1492 : decode cL_law 1492 = .ok (.iconst 2, 1) := by decide +kernel
theorem dL_law_1493 : decode cL_law 1493 = .ok (.iadd, 1) := by decide +kernel
theorem dL_law_1494 : decode cL_law 1494 = .ok (.iaload, 1) := by decide +kernel
theorem dL_law_1495 : decode cL_law 1495 = .ok (.aload_n 0, 1) := by decide +kernel
theorem dL_law_1496 : decode cL_law 1496 = .ok (.iload_n 3, 1) := by decide +kernel
theorem dL_law_1497 : decode cL_law 1497 = .ok (.iconst 3, 1) := by decide +kernel
theorem dL_law_1498 : decode cL_law 1498 = .ok (.iadd, 1) := by decide +kernel
theorem dL_law_1499 : decode cL_law 1499 = .ok (.iaload, 1) := by decide +kernel
theorem dL_law_1500 : decode cL_law 1500 = .ok (.invokevirtual 166, 3) := by decide +kernel
theorem dL_law_1503 : decode cL_law 1503 = .ok (.if_icmp .eq 581, 3) := by decide +kernel
theorem dL_law_1506 : decode cL_law 1506 = .ok (.iconst 0, 1) := by decide +kernel
theorem dL_law_1507 : decode cL_law 1507 = .ok (.ireturn, 1) := by decide +kernel
theorem dL_law_1508 : decode cL_law 1508 = .ok (.aload_n 1, 1) := by decide +kernel
theorem dL_law_1509 : decode cL_law 1509 = .ok (.aload_n 0, 1) := by decide +kernel
theorem dL_law_1510 : decode cL_law 1510 = .ok (.iload_n 3, 1) := by decide +kernel
theorem dL_law_1511 : decode cL_law 1511 = .ok (.iconst 1, 1) := by decide +kernel
theorem dL_law_1512 : decode cL_law 1512 = .ok (.iadd, 1) := by decide +kernel
theorem dL_law_1513 : decode cL_law 1513 = .ok (.iaload, 1) := by decide +kernel
theorem dL_law_1514 : decode cL_law 1514 = .ok (.aload_n 0, 1) := by decide +kernel
theorem dL_law_1515 : decode cL_law 1515 = .ok (.iload_n 3, 1) := by decide +kernel
theorem dL_law_1516 : decode cL_law 1516 = .ok (.iconst 2, 1) := by decide +kernel
theorem dL_law_1517 : decode cL_law 1517 = .ok (.iadd, 1) := by decide +kernel
theorem dL_law_1518 : decode cL_law 1518 = .ok (.iaload, 1) := by decide +kernel
theorem dL_law_1519 : decode cL_law 1519 = .ok (.invokevirtual 167, 3) := by decide +kernel
theorem dL_law_1522 : decode cL_law 1522 = .ok (.aload_n 2, 1) := by decide +kernel
theorem dL_law_1523 : decode cL_law 1523 = .ok (.aload_n 0, 1) := by decide +kernel
theorem dL_law_1524 : decode cL_law 1524 = .ok (.iload_n 3, 1) := by decide +kernel
theorem dL_law_1525 : decode cL_law 1525 = .ok (.iconst 1, 1) := by decide +kernel
theorem dL_law_1526 : decode cL_law 1526 = .ok (.iadd, 1) := by decide +kernel
theorem dL_law_1527 : decode cL_law 1527 = .ok (.iaload, 1) := by decide +kernel
theorem dL_law_1528 : decode cL_law 1528 = .ok (.aload_n 0, 1) := by decide +kernel
theorem dL_law_1529 : decode cL_law 1529 = .ok (.iload_n 3, 1) := by decide +kernel
theorem dL_law_1530 : decode cL_law 1530 = .ok (.iconst 2, 1) := by decide +kernel
theorem dL_law_1531 : decode cL_law 1531 = .ok (.iadd, 1) := by decide +kernel
theorem dL_law_1532 : decode cL_law 1532 = .ok (.iaload, 1) := by decide +kernel
theorem dL_law_1533 : decode cL_law 1533 = .ok (.invokevirtual 170, 3) := by decide +kernel
theorem dL_law_1536 : decode cL_law 1536 = .ok (.if_icmp .eq 548, 3) := by decide +kernel
theorem dL_law_1539 : decode cL_law 1539 = .ok (.iconst 0, 1) := by decide +kernel
theorem dL_law_1540 : decode cL_law 1540 = .ok (.ireturn, 1) := by decide +kernel
theorem dL_law_1541 : decode cL_law 1541 = .ok (.aload_n 1, 1) := by decide +kernel
theorem dL_law_1542 : decode cL_law 1542 = .ok (.aload_n 0, 1) := by decide +kernel
theorem dL_law_1543 : decode cL_law 1543 = .ok (.iload_n 3, 1) := by decide +kernel
theorem dL_law_1544 : decode cL_law 1544 = .ok (.iconst 1, 1) := by decide +kernel
theorem dL_law_1545 : decode cL_law 1545 = .ok (.iadd, 1) := by decide +kernel
theorem dL_law_1546 : decode cL_law 1546 = .ok (.iaload, 1) := by decide +kernel
theorem dL_law_1547 : decode cL_law 1547 = .ok (.invokevirtual 171, 3) := by decide +kernel
theorem dL_law_1550 : decode cL_law 1550 = .ok (.aload_n 2, 1) := by decide +kernel
theorem dL_law_1551 : decode cL_law 1551 = .ok (.aload_n 0, 1) := by decide +kernel
theorem dL_law_1552 : decode cL_law 1552 = .ok (.iload_n 3, 1) := by decide +kernel
theorem dL_law_1553 : decode cL_law 1553 = .ok (.iconst 1, 1) := by decide +kernel
theorem dL_law_1554 : decode cL_law 1554 = .ok (.iadd, 1) := by decide +kernel
theorem dL_law_1555 : decode cL_law 1555 = .ok (.iaload, 1) := by decide +kernel
theorem dL_law_1556 : decode cL_law 1556 = .ok (.invokevirtual 174, 3) := by decide +kernel
theorem dL_law_1559 : decode cL_law 1559 = .ok (.if_icmp .eq 525, 3) := by decide +kernel
theorem dL_law_1562 : decode cL_law 1562 = .ok (.iconst 0, 1) := by decide +kernel
theorem dL_law_1563 : decode cL_law 1563 = .ok (.ireturn, 1) := by decide +kernel
theorem dL_law_1564 : decode cL_law 1564 = .ok (.aload_n 1, 1) := by decide +kernel
theorem dL_law_1565 : decode cL_law 1565 = .ok (.aload_n 0, 1) := by decide +kernel
theorem dL_law_1566 : decode cL_law 1566 = .ok (.iload_n 3, 1) := by decide +kernel
theorem dL_law_1567 : decode cL_law 1567 = .ok (.iconst 1, 1) := by decide +kernel
theorem dL_law_1568 : decode cL_law 1568 = .ok (.iadd, 1) := by decide +kernel
theorem dL_law_1569 : decode cL_law 1569 = .ok (.iaload, 1) := by decide +kernel
theorem dL_law_1570 : decode cL_law 1570 = .ok (.aload_n 0, 1) := by decide +kernel
theorem dL_law_1571 : decode cL_law 1571 = .ok (.iload_n 3, 1) := by decide +kernel
theorem dL_law_1572 : decode cL_law 1572 = .ok (.iconst 2, 1) := by decide +kernel
theorem dL_law_1573 : decode cL_law 1573 = .ok (.iadd, 1) := by decide +kernel
theorem dL_law_1574 : decode cL_law 1574 = .ok (.iaload, 1) := by decide +kernel
theorem dL_law_1575 : decode cL_law 1575 = .ok (.aload_n 0, 1) := by decide +kernel
theorem dL_law_1576 : decode cL_law 1576 = .ok (.iload_n 3, 1) := by decide +kernel
theorem dL_law_1577 : decode cL_law 1577 = .ok (.iconst 3, 1) := by decide +kernel
theorem dL_law_1578 : decode cL_law 1578 = .ok (.iadd, 1) := by decide +kernel
theorem dL_law_1579 : decode cL_law 1579 = .ok (.iaload, 1) := by decide +kernel
theorem dL_law_1580 : decode cL_law 1580 = .ok (.invokevirtual 175, 3) := by decide +kernel
theorem dL_law_1583 : decode cL_law 1583 = .ok (.aload_n 2, 1) := by decide +kernel
theorem dL_law_1584 : decode cL_law 1584 = .ok (.aload_n 0, 1) := by decide +kernel
theorem dL_law_1585 : decode cL_law 1585 = .ok (.iload_n 3, 1) := by decide +kernel
theorem dL_law_1586 : decode cL_law 1586 = .ok (.iconst 1, 1) := by decide +kernel
theorem dL_law_1587 : decode cL_law 1587 = .ok (.iadd, 1) := by decide +kernel
theorem dL_law_1588 : decode cL_law 1588 = .ok (.iaload, 1) := by decide +kernel
theorem dL_law_1589 : decode cL_law 1589 = .ok (.aload_n 0, 1) := by decide +kernel
theorem dL_law_1590 : decode cL_law 1590 = .ok (.iload_n 3, 1) := by decide +kernel
theorem dL_law_1591 : decode cL_law 1591 = .ok (.iconst 2, 1) := by decide +kernel
theorem dL_law_1592 : decode cL_law 1592 = .ok (.iadd, 1) := by decide +kernel
theorem dL_law_1593 : decode cL_law 1593 = .ok (.iaload, 1) := by decide +kernel
theorem dL_law_1594 : decode cL_law 1594 = .ok (.aload_n 0, 1) := by decide +kernel
theorem dL_law_1595 : decode cL_law 1595 = .ok (.iload_n 3, 1) := by decide +kernel
theorem dL_law_1596 : decode cL_law 1596 = .ok (.iconst 3, 1) := by decide +kernel
theorem dL_law_1597 : decode cL_law 1597 = .ok (.iadd, 1) := by decide +kernel
theorem dL_law_1598 : decode cL_law 1598 = .ok (.iaload, 1) := by decide +kernel
theorem dL_law_1599 : decode cL_law 1599 = .ok (.invokevirtual 178, 3) := by decide +kernel
theorem dL_law_1602 : decode cL_law 1602 = .ok (.if_icmp .eq 482, 3) := by decide +kernel
theorem dL_law_1605 : decode cL_law 1605 = .ok (.iconst 0, 1) := by decide +kernel
theorem dL_law_1606 : decode cL_law 1606 = .ok (.ireturn, 1) := by decide +kernel
theorem dL_law_1607 : decode cL_law 1607 = .ok (.aload_n 1, 1) := by decide +kernel
theorem dL_law_1608 : decode cL_law 1608 = .ok (.aload_n 0, 1) := by decide +kernel
theorem dL_law_1609 : decode cL_law 1609 = .ok (.iload_n 3, 1) := by decide +kernel
theorem dL_law_1610 : decode cL_law 1610 = .ok (.iconst 1, 1) := by decide +kernel
theorem dL_law_1611 : decode cL_law 1611 = .ok (.iadd, 1) := by decide +kernel
theorem dL_law_1612 : decode cL_law 1612 = .ok (.iaload, 1) := by decide +kernel
theorem dL_law_1613 : decode cL_law 1613 = .ok (.aload_n 0, 1) := by decide +kernel
theorem dL_law_1614 : decode cL_law 1614 = .ok (.iload_n 3, 1) := by decide +kernel
theorem dL_law_1615 : decode cL_law 1615 = .ok (.iconst 2, 1) := by decide +kernel
theorem dL_law_1616 : decode cL_law 1616 = .ok (.iadd, 1) := by decide +kernel
theorem dL_law_1617 : decode cL_law 1617 = .ok (.iaload, 1) := by decide +kernel
theorem dL_law_1618 : decode cL_law 1618 = .ok (.invokevirtual 179, 3) := by decide +kernel
theorem dL_law_1621 : decode cL_law 1621 = .ok (.aload_n 2, 1) := by decide +kernel
theorem dL_law_1622 : decode cL_law 1622 = .ok (.aload_n 0, 1) := by decide +kernel
theorem dL_law_1623 : decode cL_law 1623 = .ok (.iload_n 3, 1) := by decide +kernel
theorem dL_law_1624 : decode cL_law 1624 = .ok (.iconst 1, 1) := by decide +kernel
theorem dL_law_1625 : decode cL_law 1625 = .ok (.iadd, 1) := by decide +kernel
theorem dL_law_1626 : decode cL_law 1626 = .ok (.iaload, 1) := by decide +kernel
theorem dL_law_1627 : decode cL_law 1627 = .ok (.aload_n 0, 1) := by decide +kernel
theorem dL_law_1628 : decode cL_law 1628 = .ok (.iload_n 3, 1) := by decide +kernel
theorem dL_law_1629 : decode cL_law 1629 = .ok (.iconst 2, 1) := by decide +kernel
theorem dL_law_1630 : decode cL_law 1630 = .ok (.iadd, 1) := by decide +kernel
theorem dL_law_1631 : decode cL_law 1631 = .ok (.iaload, 1) := by decide +kernel
theorem dL_law_1632 : decode cL_law 1632 = .ok (.invokevirtual 182, 3) := by decide +kernel
theorem dL_law_1635 : decode cL_law 1635 = .ok (.if_icmp .eq 449, 3) := by decide +kernel
theorem dL_law_1638 : decode cL_law 1638 = .ok (.iconst 0, 1) := by decide +kernel
theorem dL_law_1639 : decode cL_law 1639 = .ok (.ireturn, 1) := by decide +kernel
theorem dL_law_1640 : decode cL_law 1640 = .ok (.aload_n 1, 1) := by decide +kernel
theorem dL_law_1641 : decode cL_law 1641 = .ok (.aload_n 0, 1) := by decide +kernel
theorem dL_law_1642 : decode cL_law 1642 = .ok (.iload_n 3, 1) := by decide +kernel
theorem dL_law_1643 : decode cL_law 1643 = .ok (.iconst 1, 1) := by decide +kernel
theorem dL_law_1644 : decode cL_law 1644 = .ok (.iadd, 1) := by decide +kernel
theorem dL_law_1645 : decode cL_law 1645 = .ok (.iaload, 1) := by decide +kernel
theorem dL_law_1646 : decode cL_law 1646 = .ok (.invokevirtual 183, 3) := by decide +kernel
theorem dL_law_1649 : decode cL_law 1649 = .ok (.aload_n 2, 1) := by decide +kernel
theorem dL_law_1650 : decode cL_law 1650 = .ok (.aload_n 0, 1) := by decide +kernel
theorem dL_law_1651 : decode cL_law 1651 = .ok (.iload_n 3, 1) := by decide +kernel
theorem dL_law_1652 : decode cL_law 1652 = .ok (.iconst 1, 1) := by decide +kernel
theorem dL_law_1653 : decode cL_law 1653 = .ok (.iadd, 1) := by decide +kernel
theorem dL_law_1654 : decode cL_law 1654 = .ok (.iaload, 1) := by decide +kernel
theorem dL_law_1655 : decode cL_law 1655 = .ok (.invokevirtual 186, 3) := by decide +kernel
theorem dL_law_1658 : decode cL_law 1658 = .ok (.if_icmp .eq 426, 3) := by decide +kernel
theorem dL_law_1661 : decode cL_law 1661 = .ok (.iconst 0, 1) := by decide +kernel
theorem dL_law_1662 : decode cL_law 1662 = .ok (.ireturn, 1) := by decide +kernel
theorem dL_law_1663 : decode cL_law 1663 = .ok (.aload_n 1, 1) := by decide +kernel
theorem dL_law_1664 : decode cL_law 1664 = .ok (.aload_n 0, 1) := by decide +kernel
theorem dL_law_1665 : decode cL_law 1665 = .ok (.iload_n 3, 1) := by decide +kernel
theorem dL_law_1666 : decode cL_law 1666 = .ok (.iconst 1, 1) := by decide +kernel
theorem dL_law_1667 : decode cL_law 1667 = .ok (.iadd, 1) := by decide +kernel
theorem dL_law_1668 : decode cL_law 1668 = .ok (.iaload, 1) := by decide +kernel
theorem dL_law_1669 : decode cL_law 1669 = .ok (.aload_n 0, 1) := by decide +kernel
theorem dL_law_1670 : decode cL_law 1670 = .ok (.iload_n 3, 1) := by decide +kernel
theorem dL_law_1671 : decode cL_law 1671 = .ok (.iconst 2, 1) := by decide +kernel
theorem dL_law_1672 : decode cL_law 1672 = .ok (.iadd, 1) := by decide +kernel
theorem dL_law_1673 : decode cL_law 1673 = .ok (.iaload, 1) := by decide +kernel
theorem dL_law_1674 : decode cL_law 1674 = .ok (.aload_n 0, 1) := by decide +kernel
theorem dL_law_1675 : decode cL_law 1675 = .ok (.iload_n 3, 1) := by decide +kernel
theorem dL_law_1676 : decode cL_law 1676 = .ok (.iconst 3, 1) := by decide +kernel
theorem dL_law_1677 : decode cL_law 1677 = .ok (.iadd, 1) := by decide +kernel
theorem dL_law_1678 : decode cL_law 1678 = .ok (.iaload, 1) := by decide +kernel
theorem dL_law_1679 : decode cL_law 1679 = .ok (.aload_n 0, 1) := by decide +kernel
theorem dL_law_1680 : decode cL_law 1680 = .ok (.iload_n 3, 1) := by decide +kernel
theorem dL_law_1681 : decode cL_law 1681 = .ok (.iconst 4, 1) := by decide +kernel
theorem dL_law_1682 : decode cL_law 1682 = .ok (.iadd, 1) := by decide +kernel
theorem dL_law_1683 : decode cL_law 1683 = .ok (.iaload, 1) := by decide +kernel
theorem dL_law_1684 : decode cL_law 1684 = .ok (.invokevirtual 187, 3) := by decide +kernel
theorem dL_law_1687 : decode cL_law 1687 = .ok (.aload_n 2, 1) := by decide +kernel
theorem dL_law_1688 : decode cL_law 1688 = .ok (.aload_n 0, 1) := by decide +kernel
theorem dL_law_1689 : decode cL_law 1689 = .ok (.iload_n 3, 1) := by decide +kernel
theorem dL_law_1690 : decode cL_law 1690 = .ok (.iconst 1, 1) := by decide +kernel
theorem dL_law_1691 : decode cL_law 1691 = .ok (.iadd, 1) := by decide +kernel
theorem dL_law_1692 : decode cL_law 1692 = .ok (.iaload, 1) := by decide +kernel
theorem dL_law_1693 : decode cL_law 1693 = .ok (.aload_n 0, 1) := by decide +kernel
theorem dL_law_1694 : decode cL_law 1694 = .ok (.iload_n 3, 1) := by decide +kernel
theorem dL_law_1695 : decode cL_law 1695 = .ok (.iconst 2, 1) := by decide +kernel
theorem dL_law_1696 : decode cL_law 1696 = .ok (.iadd, 1) := by decide +kernel
theorem dL_law_1697 : decode cL_law 1697 = .ok (.iaload, 1) := by decide +kernel
theorem dL_law_1698 : decode cL_law 1698 = .ok (.aload_n 0, 1) := by decide +kernel
theorem dL_law_1699 : decode cL_law 1699 = .ok (.iload_n 3, 1) := by decide +kernel
theorem dL_law_1700 : decode cL_law 1700 = .ok (.iconst 3, 1) := by decide +kernel
theorem dL_law_1701 : decode cL_law 1701 = .ok (.iadd, 1) := by decide +kernel
theorem dL_law_1702 : decode cL_law 1702 = .ok (.iaload, 1) := by decide +kernel
theorem dL_law_1703 : decode cL_law 1703 = .ok (.aload_n 0, 1) := by decide +kernel
theorem dL_law_1704 : decode cL_law 1704 = .ok (.iload_n 3, 1) := by decide +kernel
theorem dL_law_1705 : decode cL_law 1705 = .ok (.iconst 4, 1) := by decide +kernel
theorem dL_law_1706 : decode cL_law 1706 = .ok (.iadd, 1) := by decide +kernel
theorem dL_law_1707 : decode cL_law 1707 = .ok (.iaload, 1) := by decide +kernel
theorem dL_law_1708 : decode cL_law 1708 = .ok (.invokevirtual 190, 3) := by decide +kernel
theorem dL_law_1711 : decode cL_law 1711 = .ok (.if_icmp .eq 373, 3) := by decide +kernel
theorem dL_law_1714 : decode cL_law 1714 = .ok (.iconst 0, 1) := by decide +kernel
theorem dL_law_1715 : decode cL_law 1715 = .ok (.ireturn, 1) := by decide +kernel
theorem dL_law_1716 : decode cL_law 1716 = .ok (.aload_n 1, 1) := by decide +kernel
theorem dL_law_1717 : decode cL_law 1717 = .ok (.aload_n 0, 1) := by decide +kernel
theorem dL_law_1718 : decode cL_law 1718 = .ok (.iload_n 3, 1) := by decide +kernel
theorem dL_law_1719 : decode cL_law 1719 = .ok (.iconst 1, 1) := by decide +kernel
theorem dL_law_1720 : decode cL_law 1720 = .ok (.iadd, 1) := by decide +kernel
theorem dL_law_1721 : decode cL_law 1721 = .ok (.iaload, 1) := by decide +kernel
theorem dL_law_1722 : decode cL_law 1722 = .ok (.aload_n 0, 1) := by decide +kernel
theorem dL_law_1723 : decode cL_law 1723 = .ok (.iload_n 3, 1) := by decide +kernel
theorem dL_law_1724 : decode cL_law 1724 = .ok (.iconst 2, 1) := by decide +kernel
theorem dL_law_1725 : decode cL_law 1725 = .ok (.iadd, 1) := by decide +kernel
theorem dL_law_1726 : decode cL_law 1726 = .ok (.iaload, 1) := by decide +kernel
theorem dL_law_1727 : decode cL_law 1727 = .ok (.aload_n 0, 1) := by decide +kernel
theorem dL_law_1728 : decode cL_law 1728 = .ok (.iload_n 3, 1) := by decide +kernel
theorem dL_law_1729 : decode cL_law 1729 = .ok (.iconst 3, 1) := by decide +kernel
theorem dL_law_1730 : decode cL_law 1730 = .ok (.iadd, 1) := by decide +kernel
theorem dL_law_1731 : decode cL_law 1731 = .ok (.iaload, 1) := by decide +kernel
theorem dL_law_1732 : decode cL_law 1732 = .ok (.invokevirtual 191, 3) := by decide +kernel
theorem dL_law_1735 : decode cL_law 1735 = .ok (.aload_n 2, 1) := by decide +kernel
theorem dL_law_1736 : decode cL_law 1736 = .ok (.aload_n 0, 1) := by decide +kernel
theorem dL_law_1737 : decode cL_law 1737 = .ok (.iload_n 3, 1) := by decide +kernel
theorem dL_law_1738 : decode cL_law 1738 = .ok (.iconst 1, 1) := by decide +kernel
theorem dL_law_1739 : decode cL_law 1739 = .ok (.iadd, 1) := by decide +kernel
theorem dL_law_1740 : decode cL_law 1740 = .ok (.iaload, 1) := by decide +kernel
theorem dL_law_1741 : decode cL_law 1741 = .ok (.aload_n 0, 1) := by decide +kernel
theorem dL_law_1742 : decode cL_law 1742 = .ok (.iload_n 3, 1) := by decide +kernel
theorem dL_law_1743 : decode cL_law 1743 = .ok (.iconst 2, 1) := by decide +kernel
theorem dL_law_1744 : decode cL_law 1744 = .ok (.iadd, 1) := by decide +kernel
theorem dL_law_1745 : decode cL_law 1745 = .ok (.iaload, 1) := by decide +kernel
theorem dL_law_1746 : decode cL_law 1746 = .ok (.aload_n 0, 1) := by decide +kernel
theorem dL_law_1747 : decode cL_law 1747 = .ok (.iload_n 3, 1) := by decide +kernel
theorem dL_law_1748 : decode cL_law 1748 = .ok (.iconst 3, 1) := by decide +kernel
theorem dL_law_1749 : decode cL_law 1749 = .ok (.iadd, 1) := by decide +kernel
theorem dL_law_1750 : decode cL_law 1750 = .ok (.iaload, 1) := by decide +kernel
theorem dL_law_1751 : decode cL_law 1751 = .ok (.invokevirtual 194, 3) := by decide +kernel
theorem dL_law_1754 : decode cL_law 1754 = .ok (.if_icmp .eq 330, 3) := by decide +kernel
theorem dL_law_1757 : decode cL_law 1757 = .ok (.iconst 0, 1) := by decide +kernel
theorem dL_law_1758 : decode cL_law 1758 = .ok (.ireturn, 1) := by decide +kernel
theorem dL_law_1759 : decode cL_law 1759 = .ok (.aload_n 1, 1) := by decide +kernel
theorem dL_law_1760 : decode cL_law 1760 = .ok (.aload_n 0, 1) := by decide +kernel
theorem dL_law_1761 : decode cL_law 1761 = .ok (.iload_n 3, 1) := by decide +kernel
theorem dL_law_1762 : decode cL_law 1762 = .ok (.iconst 1, 1) := by decide +kernel
theorem dL_law_1763 : decode cL_law 1763 = .ok (.iadd, 1) := by decide +kernel
theorem dL_law_1764 : decode cL_law 1764 = .ok (.iaload, 1) := by decide +kernel
theorem dL_law_1765 : decode cL_law 1765 = .ok (.invokevirtual 195, 3) := by decide +kernel
theorem dL_law_1768 : decode cL_law 1768 = .ok (.aload_n 2, 1) := by decide +kernel
theorem dL_law_1769 : decode cL_law 1769 = .ok (.aload_n 0, 1) := by decide +kernel
theorem dL_law_1770 : decode cL_law 1770 = .ok (.iload_n 3, 1) := by decide +kernel
theorem dL_law_1771 : decode cL_law 1771 = .ok (.iconst 1, 1) := by decide +kernel
theorem dL_law_1772 : decode cL_law 1772 = .ok (.iadd, 1) := by decide +kernel
theorem dL_law_1773 : decode cL_law 1773 = .ok (.iaload, 1) := by decide +kernel
theorem dL_law_1774 : decode cL_law 1774 = .ok (.invokevirtual 198, 3) := by decide +kernel
theorem dL_law_1777 : decode cL_law 1777 = .ok (.if_icmp .eq 307, 3) := by decide +kernel
theorem dL_law_1780 : decode cL_law 1780 = .ok (.iconst 0, 1) := by decide +kernel
theorem dL_law_1781 : decode cL_law 1781 = .ok (.ireturn, 1) := by decide +kernel
theorem dL_law_1782 : decode cL_law 1782 = .ok (.aload_n 1, 1) := by decide +kernel
theorem dL_law_1783 : decode cL_law 1783 = .ok (.aload_n 0, 1) := by decide +kernel
theorem dL_law_1784 : decode cL_law 1784 = .ok (.iload_n 3, 1) := by decide +kernel
theorem dL_law_1785 : decode cL_law 1785 = .ok (.iconst 1, 1) := by decide +kernel
theorem dL_law_1786 : decode cL_law 1786 = .ok (.iadd, 1) := by decide +kernel
theorem dL_law_1787 : decode cL_law 1787 = .ok (.iaload, 1) := by decide +kernel
theorem dL_law_1788 : decode cL_law 1788 = .ok (.aload_n 0, 1) := by decide +kernel
theorem dL_law_1789 : decode cL_law 1789 = .ok (.iload_n 3, 1) := by decide +kernel
theorem dL_law_1790 : decode cL_law 1790 = .ok (.iconst 2, 1) := by decide +kernel
theorem dL_law_1791 : decode cL_law 1791 = .ok (.iadd, 1) := by decide +kernel
theorem dL_law_1792 : decode cL_law 1792 = .ok (.iaload, 1) := by decide +kernel
theorem dL_law_1793 : decode cL_law 1793 = .ok (.invokevirtual 199, 3) := by decide +kernel
theorem dL_law_1796 : decode cL_law 1796 = .ok (.aload_n 2, 1) := by decide +kernel
theorem dL_law_1797 : decode cL_law 1797 = .ok (.aload_n 0, 1) := by decide +kernel
theorem dL_law_1798 : decode cL_law 1798 = .ok (.iload_n 3, 1) := by decide +kernel
theorem dL_law_1799 : decode cL_law 1799 = .ok (.iconst 1, 1) := by decide +kernel
theorem dL_law_1800 : decode cL_law 1800 = .ok (.iadd, 1) := by decide +kernel
theorem dL_law_1801 : decode cL_law 1801 = .ok (.iaload, 1) := by decide +kernel
theorem dL_law_1802 : decode cL_law 1802 = .ok (.aload_n 0, 1) := by decide +kernel
theorem dL_law_1803 : decode cL_law 1803 = .ok (.iload_n 3, 1) := by decide +kernel
theorem dL_law_1804 : decode cL_law 1804 = .ok (.iconst 2, 1) := by decide +kernel
theorem dL_law_1805 : decode cL_law 1805 = .ok (.iadd, 1) := by decide +kernel
theorem dL_law_1806 : decode cL_law 1806 = .ok (.iaload, 1) := by decide +kernel
theorem dL_law_1807 : decode cL_law 1807 = .ok (.invokevirtual 202, 3) := by decide +kernel
theorem dL_law_1810 : decode cL_law 1810 = .ok (.if_icmp .eq 274, 3) := by decide +kernel
theorem dL_law_1813 : decode cL_law 1813 = .ok (.iconst 0, 1) := by decide +kernel
theorem dL_law_1814 : decode cL_law 1814 = .ok (.ireturn, 1) := by decide +kernel
theorem dL_law_1815 : decode cL_law 1815 = .ok (.aload_n 1, 1) := by decide +kernel
theorem dL_law_1816 : decode cL_law 1816 = .ok (.aload_n 0, 1) := by decide +kernel
theorem dL_law_1817 : decode cL_law 1817 = .ok (.iload_n 3, 1) := by decide +kernel
theorem dL_law_1818 : decode cL_law 1818 = .ok (.iconst 1, 1) := by decide +kernel
theorem dL_law_1819 : decode cL_law 1819 = .ok (.iadd, 1) := by decide +kernel
theorem dL_law_1820 : decode cL_law 1820 = .ok (.iaload, 1) := by decide +kernel
theorem dL_law_1821 : decode cL_law 1821 = .ok (.aload_n 0, 1) := by decide +kernel
theorem dL_law_1822 : decode cL_law 1822 = .ok (.iload_n 3, 1) := by decide +kernel
theorem dL_law_1823 : decode cL_law 1823 = .ok (.iconst 2, 1) := by decide +kernel
theorem dL_law_1824 : decode cL_law 1824 = .ok (.iadd, 1) := by decide +kernel
theorem dL_law_1825 : decode cL_law 1825 = .ok (.iaload, 1) := by decide +kernel
theorem dL_law_1826 : decode cL_law 1826 = .ok (.aload_n 0, 1) := by decide +kernel
theorem dL_law_1827 : decode cL_law 1827 = .ok (.iload_n 3, 1) := by decide +kernel
theorem dL_law_1828 : decode cL_law 1828 = .ok (.iconst 3, 1) := by decide +kernel
theorem dL_law_1829 : decode cL_law 1829 = .ok (.iadd, 1) := by decide +kernel
theorem dL_law_1830 : decode cL_law 1830 = .ok (.iaload, 1) := by decide +kernel
theorem dL_law_1831 : decode cL_law 1831 = .ok (.invokevirtual 203, 3) := by decide +kernel
theorem dL_law_1834 : decode cL_law 1834 = .ok (.aload_n 2, 1) := by decide +kernel
theorem dL_law_1835 : decode cL_law 1835 = .ok (.aload_n 0, 1) := by decide +kernel
theorem dL_law_1836 : decode cL_law 1836 = .ok (.iload_n 3, 1) := by decide +kernel
theorem dL_law_1837 : decode cL_law 1837 = .ok (.iconst 1, 1) := by decide +kernel
theorem dL_law_1838 : decode cL_law 1838 = .ok (.iadd, 1) := by decide +kernel
theorem dL_law_1839 : decode cL_law 1839 = .ok (.iaload, 1) := by decide +kernel
theorem dL_law_1840 : decode cL_law 1840 = .ok (.aload_n 0, 1) := by decide +kernel
theorem dL_law_1841 : decode cL_law 1841 = .ok (.iload_n 3, 1) := by decide +kernel
theorem dL_law_1842 : decode cL_law 1842 = .ok (.iconst 2, 1) := by decide +kernel
theorem dL_law_1843 : decode cL_law 1843 = .ok (.iadd, 1) := by decide +kernel
theorem dL_law_1844 : decode cL_law 1844 = .ok (.iaload, 1) := by decide +kernel
theorem dL_law_1845 : decode cL_law 1845 = .ok (.aload_n 0, 1) := by decide +kernel
theorem dL_law_1846 : decode cL_law 1846 = .ok (.iload_n 3, 1) := by decide +kernel
theorem dL_law_1847 : decode cL_law 1847 = .ok (.iconst 3, 1) := by decide +kernel
theorem dL_law_1848 : decode cL_law 1848 = .ok (.iadd, 1) := by decide +kernel
theorem dL_law_1849 : decode cL_law 1849 = .ok (.iaload, 1) := by decide +kernel
theorem dL_law_1850 : decode cL_law 1850 = .ok (.invokevirtual 206, 3) := by decide +kernel
theorem dL_law_1853 : decode cL_law 1853 = .ok (.if_icmp .eq 231, 3) := by decide +kernel
theorem dL_law_1856 : decode cL_law 1856 = .ok (.iconst 0, 1) := by decide +kernel
theorem dL_law_1857 : decode cL_law 1857 = .ok (.ireturn, 1) := by decide +kernel
theorem dL_law_1858 : decode cL_law 1858 = .ok (.aload_n 1, 1) := by decide +kernel
theorem dL_law_1859 : decode cL_law 1859 = .ok (.aload_n 0, 1) := by decide +kernel
theorem dL_law_1860 : decode cL_law 1860 = .ok (.iload_n 3, 1) := by decide +kernel
theorem dL_law_1861 : decode cL_law 1861 = .ok (.iconst 1, 1) := by decide +kernel
theorem dL_law_1862 : decode cL_law 1862 = .ok (.iadd, 1) := by decide +kernel
theorem dL_law_1863 : decode cL_law 1863 = .ok (.iaload, 1) := by decide +kernel
theorem dL_law_1864 : decode cL_law 1864 = .ok (.aload_n 0, 1) := by decide +kernel
theorem dL_law_1865 : decode cL_law 1865 = .ok (.iload_n 3, 1) := by decide +kernel
theorem dL_law_1866 : decode cL_law 1866 = .ok (.iconst 2, 1) := by decide +kernel
theorem dL_law_1867 : decode cL_law 1867 = .ok (.iadd, 1) := by decide +kernel
theorem dL_law_1868 : decode cL_law 1868 = .ok (.iaload, 1) := by decide +kernel
theorem dL_law_1869 : decode cL_law 1869 = .ok (.aload_n 0, 1) := by decide +kernel
theorem dL_law_1870 : decode cL_law 1870 = .ok (.iload_n 3, 1) := by decide +kernel
theorem dL_law_1871 : decode cL_law 1871 = .ok (.iconst 3, 1) := by decide +kernel
theorem dL_law_1872 : decode cL_law 1872 = .ok (.iadd, 1) := by decide +kernel
theorem dL_law_1873 : decode cL_law 1873 = .ok (.iaload, 1) := by decide +kernel
theorem dL_law_1874 : decode cL_law 1874 = .ok (.i2l, 1) := by decide +kernel
theorem dL_law_1875 : decode cL_law 1875 = .ok (.bipush 32, 2) := by decide +kernel
theorem dL_law_1877 : decode cL_law 1877 = .ok (.lshl, 1) := by decide +kernel
theorem dL_law_1878 : decode cL_law 1878 = .ok (.aload_n 0, 1) := by decide +kernel
theorem dL_law_1879 : decode cL_law 1879 = .ok (.iload_n 3, 1) := by decide +kernel
theorem dL_law_1880 : decode cL_law 1880 = .ok (.iconst 4, 1) := by decide +kernel
theorem dL_law_1881 : decode cL_law 1881 = .ok (.iadd, 1) := by decide +kernel
theorem dL_law_1882 : decode cL_law 1882 = .ok (.iaload, 1) := by decide +kernel
theorem dL_law_1883 : decode cL_law 1883 = .ok (.i2l, 1) := by decide +kernel
theorem dL_law_1884 : decode cL_law 1884 = .ok (.ldc2_w 207, 3) := by decide +kernel
theorem dL_law_1887 : decode cL_law 1887 = .ok (.land, 1) := by decide +kernel
theorem dL_law_1888 : decode cL_law 1888 = .ok (.lor, 1) := by decide +kernel
theorem dL_law_1889 : decode cL_law 1889 = .ok (.invokevirtual 209, 3) := by decide +kernel
theorem dL_law_1892 : decode cL_law 1892 = .ok (.aload_n 2, 1) := by decide +kernel
theorem dL_law_1893 : decode cL_law 1893 = .ok (.aload_n 0, 1) := by decide +kernel
theorem dL_law_1894 : decode cL_law 1894 = .ok (.iload_n 3, 1) := by decide +kernel
theorem dL_law_1895 : decode cL_law 1895 = .ok (.iconst 1, 1) := by decide +kernel
theorem dL_law_1896 : decode cL_law 1896 = .ok (.iadd, 1) := by decide +kernel
theorem dL_law_1897 : decode cL_law 1897 = .ok (.iaload, 1) := by decide +kernel
theorem dL_law_1898 : decode cL_law 1898 = .ok (.aload_n 0, 1) := by decide +kernel
theorem dL_law_1899 : decode cL_law 1899 = .ok (.iload_n 3, 1) := by decide +kernel
theorem dL_law_1900 : decode cL_law 1900 = .ok (.iconst 2, 1) := by decide +kernel
theorem dL_law_1901 : decode cL_law 1901 = .ok (.iadd, 1) := by decide +kernel
theorem dL_law_1902 : decode cL_law 1902 = .ok (.iaload, 1) := by decide +kernel
theorem dL_law_1903 : decode cL_law 1903 = .ok (.aload_n 0, 1) := by decide +kernel
theorem dL_law_1904 : decode cL_law 1904 = .ok (.iload_n 3, 1) := by decide +kernel
theorem dL_law_1905 : decode cL_law 1905 = .ok (.iconst 3, 1) := by decide +kernel
theorem dL_law_1906 : decode cL_law 1906 = .ok (.iadd, 1) := by decide +kernel
theorem dL_law_1907 : decode cL_law 1907 = .ok (.iaload, 1) := by decide +kernel
theorem dL_law_1908 : decode cL_law 1908 = .ok (.i2l, 1) := by decide +kernel
theorem dL_law_1909 : decode cL_law 1909 = .ok (.bipush 32, 2) := by decide +kernel
theorem dL_law_1911 : decode cL_law 1911 = .ok (.lshl, 1) := by decide +kernel
theorem dL_law_1912 : decode cL_law 1912 = .ok (.aload_n 0, 1) := by decide +kernel
theorem dL_law_1913 : decode cL_law 1913 = .ok (.iload_n 3, 1) := by decide +kernel
theorem dL_law_1914 : decode cL_law 1914 = .ok (.iconst 4, 1) := by decide +kernel
theorem dL_law_1915 : decode cL_law 1915 = .ok (.iadd, 1) := by decide +kernel
theorem dL_law_1916 : decode cL_law 1916 = .ok (.iaload, 1) := by decide +kernel
theorem dL_law_1917 : decode cL_law 1917 = .ok (.i2l, 1) := by decide +kernel
theorem dL_law_1918 : decode cL_law 1918 = .ok (.ldc2_w 207, 3) := by decide +kernel
theorem dL_law_1921 : decode cL_law 1921 = .ok (.land, 1) := by decide +kernel
theorem dL_law_1922 : decode cL_law 1922 = .ok (.lor, 1) := by decide +kernel
theorem dL_law_1923 : decode cL_law 1923 = .ok (.invokevirtual 213, 3) := by decide +kernel
theorem dL_law_1926 : decode cL_law 1926 = .ok (.if_icmp .eq 158, 3) := by decide +kernel
theorem dL_law_1929 : decode cL_law 1929 = .ok (.iconst 0, 1) := by decide +kernel
theorem dL_law_1930 : decode cL_law 1930 = .ok (.ireturn, 1) := by decide +kernel
theorem dL_law_1931 : decode cL_law 1931 = .ok (.aload_n 1, 1) := by decide +kernel
theorem dL_law_1932 : decode cL_law 1932 = .ok (.aload_n 0, 1) := by decide +kernel
theorem dL_law_1933 : decode cL_law 1933 = .ok (.iload_n 3, 1) := by decide +kernel
theorem dL_law_1934 : decode cL_law 1934 = .ok (.iconst 1, 1) := by decide +kernel
theorem dL_law_1935 : decode cL_law 1935 = .ok (.iadd, 1) := by decide +kernel
theorem dL_law_1936 : decode cL_law 1936 = .ok (.iaload, 1) := by decide +kernel
theorem dL_law_1937 : decode cL_law 1937 = .ok (.aload_n 0, 1) := by decide +kernel
theorem dL_law_1938 : decode cL_law 1938 = .ok (.iload_n 3, 1) := by decide +kernel
theorem dL_law_1939 : decode cL_law 1939 = .ok (.iconst 2, 1) := by decide +kernel
theorem dL_law_1940 : decode cL_law 1940 = .ok (.iadd, 1) := by decide +kernel
theorem dL_law_1941 : decode cL_law 1941 = .ok (.iaload, 1) := by decide +kernel
theorem dL_law_1942 : decode cL_law 1942 = .ok (.invokevirtual 214, 3) := by decide +kernel
theorem dL_law_1945 : decode cL_law 1945 = .ok (.aload_n 2, 1) := by decide +kernel
theorem dL_law_1946 : decode cL_law 1946 = .ok (.aload_n 0, 1) := by decide +kernel
theorem dL_law_1947 : decode cL_law 1947 = .ok (.iload_n 3, 1) := by decide +kernel
theorem dL_law_1948 : decode cL_law 1948 = .ok (.iconst 1, 1) := by decide +kernel
theorem dL_law_1949 : decode cL_law 1949 = .ok (.iadd, 1) := by decide +kernel
theorem dL_law_1950 : decode cL_law 1950 = .ok (.iaload, 1) := by decide +kernel
theorem dL_law_1951 : decode cL_law 1951 = .ok (.aload_n 0, 1) := by decide +kernel
theorem dL_law_1952 : decode cL_law 1952 = .ok (.iload_n 3, 1) := by decide +kernel
theorem dL_law_1953 : decode cL_law 1953 = .ok (.iconst 2, 1) := by decide +kernel
theorem dL_law_1954 : decode cL_law 1954 = .ok (.iadd, 1) := by decide +kernel
theorem dL_law_1955 : decode cL_law 1955 = .ok (.iaload, 1) := by decide +kernel
theorem dL_law_1956 : decode cL_law 1956 = .ok (.invokevirtual 217, 3) := by decide +kernel
theorem dL_law_1959 : decode cL_law 1959 = .ok (.lcmp, 1) := by decide +kernel
theorem dL_law_1960 : decode cL_law 1960 = .ok (.ifCond .eq 124, 3) := by decide +kernel
theorem dL_law_1963 : decode cL_law 1963 = .ok (.iconst 0, 1) := by decide +kernel
theorem dL_law_1964 : decode cL_law 1964 = .ok (.ireturn, 1) := by decide +kernel
theorem dL_law_1965 : decode cL_law 1965 = .ok (.aload_n 1, 1) := by decide +kernel
theorem dL_law_1966 : decode cL_law 1966 = .ok (.aload_n 0, 1) := by decide +kernel
theorem dL_law_1967 : decode cL_law 1967 = .ok (.iload_n 3, 1) := by decide +kernel
theorem dL_law_1968 : decode cL_law 1968 = .ok (.iconst 1, 1) := by decide +kernel
theorem dL_law_1969 : decode cL_law 1969 = .ok (.iadd, 1) := by decide +kernel
theorem dL_law_1970 : decode cL_law 1970 = .ok (.iaload, 1) := by decide +kernel
theorem dL_law_1971 : decode cL_law 1971 = .ok (.aload_n 0, 1) := by decide +kernel
theorem dL_law_1972 : decode cL_law 1972 = .ok (.iload_n 3, 1) := by decide +kernel
theorem dL_law_1973 : decode cL_law 1973 = .ok (.iconst 2, 1) := by decide +kernel
theorem dL_law_1974 : decode cL_law 1974 = .ok (.iadd, 1) := by decide +kernel
theorem dL_law_1975 : decode cL_law 1975 = .ok (.iaload, 1) := by decide +kernel
theorem dL_law_1976 : decode cL_law 1976 = .ok (.aload_n 0, 1) := by decide +kernel
theorem dL_law_1977 : decode cL_law 1977 = .ok (.iload_n 3, 1) := by decide +kernel
theorem dL_law_1978 : decode cL_law 1978 = .ok (.iconst 3, 1) := by decide +kernel
theorem dL_law_1979 : decode cL_law 1979 = .ok (.iadd, 1) := by decide +kernel
theorem dL_law_1980 : decode cL_law 1980 = .ok (.iaload, 1) := by decide +kernel
theorem dL_law_1981 : decode cL_law 1981 = .ok (.aload_n 0, 1) := by decide +kernel
theorem dL_law_1982 : decode cL_law 1982 = .ok (.iload_n 3, 1) := by decide +kernel
theorem dL_law_1983 : decode cL_law 1983 = .ok (.iconst 4, 1) := by decide +kernel
theorem dL_law_1984 : decode cL_law 1984 = .ok (.iadd, 1) := by decide +kernel
theorem dL_law_1985 : decode cL_law 1985 = .ok (.iaload, 1) := by decide +kernel
theorem dL_law_1986 : decode cL_law 1986 = .ok (.aload_n 0, 1) := by decide +kernel
theorem dL_law_1987 : decode cL_law 1987 = .ok (.iload_n 3, 1) := by decide +kernel
theorem dL_law_1988 : decode cL_law 1988 = .ok (.iconst 5, 1) := by decide +kernel
theorem dL_law_1989 : decode cL_law 1989 = .ok (.iadd, 1) := by decide +kernel
theorem dL_law_1990 : decode cL_law 1990 = .ok (.iaload, 1) := by decide +kernel
theorem dL_law_1991 : decode cL_law 1991 = .ok (.invokevirtual 218, 3) := by decide +kernel
theorem dL_law_1994 : decode cL_law 1994 = .ok (.aload_n 2, 1) := by decide +kernel
theorem dL_law_1995 : decode cL_law 1995 = .ok (.aload_n 0, 1) := by decide +kernel
theorem dL_law_1996 : decode cL_law 1996 = .ok (.iload_n 3, 1) := by decide +kernel
theorem dL_law_1997 : decode cL_law 1997 = .ok (.iconst 1, 1) := by decide +kernel
theorem dL_law_1998 : decode cL_law 1998 = .ok (.iadd, 1) := by decide +kernel
theorem dL_law_1999 : decode cL_law 1999 = .ok (.iaload, 1) := by decide +kernel
theorem dL_law_2000 : decode cL_law 2000 = .ok (.aload_n 0, 1) := by decide +kernel
theorem dL_law_2001 : decode cL_law 2001 = .ok (.iload_n 3, 1) := by decide +kernel
theorem dL_law_2002 : decode cL_law 2002 = .ok (.iconst 2, 1) := by decide +kernel
theorem dL_law_2003 : decode cL_law 2003 = .ok (.iadd, 1) := by decide +kernel
theorem dL_law_2004 : decode cL_law 2004 = .ok (.iaload, 1) := by decide +kernel
theorem dL_law_2005 : decode cL_law 2005 = .ok (.aload_n 0, 1) := by decide +kernel
theorem dL_law_2006 : decode cL_law 2006 = .ok (.iload_n 3, 1) := by decide +kernel
theorem dL_law_2007 : decode cL_law 2007 = .ok (.iconst 3, 1) := by decide +kernel
theorem dL_law_2008 : decode cL_law 2008 = .ok (.iadd, 1) := by decide +kernel
theorem dL_law_2009 : decode cL_law 2009 = .ok (.iaload, 1) := by decide +kernel
theorem dL_law_2010 : decode cL_law 2010 = .ok (.aload_n 0, 1) := by decide +kernel
theorem dL_law_2011 : decode cL_law 2011 = .ok (.iload_n 3, 1) := by decide +kernel
theorem dL_law_2012 : decode cL_law 2012 = .ok (.iconst 4, 1) := by decide +kernel
theorem dL_law_2013 : decode cL_law 2013 = .ok (.iadd, 1) := by decide +kernel
theorem dL_law_2014 : decode cL_law 2014 = .ok (.iaload, 1) := by decide +kernel
theorem dL_law_2015 : decode cL_law 2015 = .ok (.aload_n 0, 1) := by decide +kernel
theorem dL_law_2016 : decode cL_law 2016 = .ok (.iload_n 3, 1) := by decide +kernel
theorem dL_law_2017 : decode cL_law 2017 = .ok (.iconst 5, 1) := by decide +kernel
theorem dL_law_2018 : decode cL_law 2018 = .ok (.iadd, 1) := by decide +kernel
theorem dL_law_2019 : decode cL_law 2019 = .ok (.iaload, 1) := by decide +kernel
theorem dL_law_2020 : decode cL_law 2020 = .ok (.invokevirtual 222, 3) := by decide +kernel
theorem dL_law_2023 : decode cL_law 2023 = .ok (.if_icmp .eq 61, 3) := by decide +kernel
theorem dL_law_2026 : decode cL_law 2026 = .ok (.iconst 0, 1) := by decide +kernel
theorem dL_law_2027 : decode cL_law 2027 = .ok (.ireturn, 1) := by decide +kernel
theorem dL_law_2028 : decode cL_law 2028 = .ok (.aload_n 1, 1) := by decide +kernel
theorem dL_law_2029 : decode cL_law 2029 = .ok (.aload_n 0, 1) := by decide +kernel
theorem dL_law_2030 : decode cL_law 2030 = .ok (.iload_n 3, 1) := by decide +kernel
theorem dL_law_2031 : decode cL_law 2031 = .ok (.iconst 1, 1) := by decide +kernel
theorem dL_law_2032 : decode cL_law 2032 = .ok (.iadd, 1) := by decide +kernel
theorem dL_law_2033 : decode cL_law 2033 = .ok (.iaload, 1) := by decide +kernel
theorem dL_law_2034 : decode cL_law 2034 = .ok (.aload_n 0, 1) := by decide +kernel
theorem dL_law_2035 : decode cL_law 2035 = .ok (.iload_n 3, 1) := by decide +kernel
theorem dL_law_2036 : decode cL_law 2036 = .ok (.iconst 2, 1) := by decide +kernel
theorem dL_law_2037 : decode cL_law 2037 = .ok (.iadd, 1) := by decide +kernel
theorem dL_law_2038 : decode cL_law 2038 = .ok (.iaload, 1) := by decide +kernel
theorem dL_law_2039 : decode cL_law 2039 = .ok (.invokevirtual 223, 3) := by decide +kernel
theorem dL_law_2042 : decode cL_law 2042 = .ok (.aload_n 2, 1) := by decide +kernel
theorem dL_law_2043 : decode cL_law 2043 = .ok (.aload_n 0, 1) := by decide +kernel
theorem dL_law_2044 : decode cL_law 2044 = .ok (.iload_n 3, 1) := by decide +kernel
theorem dL_law_2045 : decode cL_law 2045 = .ok (.iconst 1, 1) := by decide +kernel
theorem dL_law_2046 : decode cL_law 2046 = .ok (.iadd, 1) := by decide +kernel
theorem dL_law_2047 : decode cL_law 2047 = .ok (.iaload, 1) := by decide +kernel
theorem dL_law_2048 : decode cL_law 2048 = .ok (.aload_n 0, 1) := by decide +kernel
theorem dL_law_2049 : decode cL_law 2049 = .ok (.iload_n 3, 1) := by decide +kernel
theorem dL_law_2050 : decode cL_law 2050 = .ok (.iconst 2, 1) := by decide +kernel
theorem dL_law_2051 : decode cL_law 2051 = .ok (.iadd, 1) := by decide +kernel
theorem dL_law_2052 : decode cL_law 2052 = .ok (.iaload, 1) := by decide +kernel
theorem dL_law_2053 : decode cL_law 2053 = .ok (.invokevirtual 226, 3) := by decide +kernel
theorem dL_law_2056 : decode cL_law 2056 = .ok (.if_icmp .eq 28, 3) := by decide +kernel
theorem dL_law_2059 : decode cL_law 2059 = .ok (.iconst 0, 1) := by decide +kernel
theorem dL_law_2060 : decode cL_law 2060 = .ok (.ireturn, 1) := by decide +kernel
theorem dL_law_2061 : decode cL_law 2061 = .ok (.aload_n 1, 1) := by decide +kernel
theorem dL_law_2062 : decode cL_law 2062 = .ok (.aload_n 0, 1) := by decide +kernel
theorem dL_law_2063 : decode cL_law 2063 = .ok (.iload_n 3, 1) := by decide +kernel
theorem dL_law_2064 : decode cL_law 2064 = .ok (.iconst 1, 1) := by decide +kernel
theorem dL_law_2065 : decode cL_law 2065 = .ok (.iadd, 1) := by decide +kernel
theorem dL_law_2066 : decode cL_law 2066 = .ok (.iaload, 1) := by decide +kernel
theorem dL_law_2067 : decode cL_law 2067 = .ok (.invokevirtual 227, 3) := by decide +kernel
theorem dL_law_2070 : decode cL_law 2070 = .ok (.aload_n 2, 1) := by decide +kernel
theorem dL_law_2071 : decode cL_law 2071 = .ok (.aload_n 0, 1) := by decide +kernel
theorem dL_law_2072 : decode cL_law 2072 = .ok (.iload_n 3, 1) := by decide +kernel
theorem dL_law_2073 : decode cL_law 2073 = .ok (.iconst 1, 1) := by decide +kernel
theorem dL_law_2074 : decode cL_law 2074 = .ok (.iadd, 1) := by decide +kernel
theorem dL_law_2075 : decode cL_law 2075 = .ok (.iaload, 1) := by decide +kernel
theorem dL_law_2076 : decode cL_law 2076 = .ok (.invokevirtual 230, 3) := by decide +kernel
theorem dL_law_2079 : decode cL_law 2079 = .ok (.if_icmp .eq 5, 3) := by decide +kernel
theorem dL_law_2082 : decode cL_law 2082 = .ok (.iconst 0, 1) := by decide +kernel
theorem dL_law_2083 : decode cL_law 2083 = .ok (.ireturn, 1) := by decide +kernel
theorem dL_law_2084 : decode cL_law 2084 = .ok (.iinc 3 6, 3) := by decide +kernel
theorem dL_law_2087 : decode cL_law 2087 = .ok (.goto (-2069), 3) := by decide +kernel
theorem dL_law_2090 : decode cL_law 2090 = .ok (.iconst 1, 1) := by decide +kernel
theorem dL_law_2091 : decode cL_law 2091 = .ok (.ireturn, 1) := by decide +kernel
