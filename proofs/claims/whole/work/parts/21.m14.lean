/-- HillBoxesModel.move(III)I -/
noncomputable def f_X12_move (o : Option Nat) (a1 : Int32) (a2 : Int32) (a3 : Int32) (h : AH) : Option (Int32 × AH) :=
  rO h [12] o <| cl (f_X12_isBody o a1 h) fun v2 h1 =>
  jn (fun (h3 : AH) =>
    some ((-1 : Int32), h3)) fun j35 =>
  if v2 = 0 then
    j35 h1
  else
    fR h1 [12] o 4 fun v4 =>
    aI h1 20 v4 a1 fun v5 =>
    if v5 = (4 : Int32) then
      cl (f_X12_isCell a2 h1) fun v7 h6 =>
      if v7 = 0 then
        j35 h6
      else
        cl (f_X12_in a3 (0 : Int32) (23 : Int32) h6) fun v9 h8 =>
        if v9 = 0 then
          j35 h8
        else
          fI h8 [12] o 1 fun v10 =>
          fR h8 [12] o 7 fun v11 =>
          aI h8 20 v11 a1 fun v12 =>
          if v12 < 0 then
            lp (fun _ => none) (fun (L63 : Int32 → Option (Int32 × AH)) (x13 : Int32) =>
              fI h8 [12] o 13 fun v14 =>
              if v14 ≤ x13 then
                lp (fun _ => none) (fun (L107 : Int32 → Option (Int32 × AH)) (x15 : Int32) =>
                  fI h8 [12] o 17 fun v16 =>
                  if v16 ≤ x15 then
                    fI h8 [12] o 13 fun v17 =>
                    if v17 = (200 : Int32) then
                      some ((-3 : Int32), h8)
                    else
                      fR h8 [12] o 14 fun v18 =>
                      fI h8 [12] o 13 fun v19 =>
                      bI h8 20 v18 v19 a1 fun h20 =>
                      fR h20 [12] o 15 fun v21 =>
                      fI h20 [12] o 13 fun v22 =>
                      bI h20 20 v21 v22 a2 fun h23 =>
                      fR h23 [12] o 16 fun v24 =>
                      fI h23 [12] o 13 fun v25 =>
                      bI h23 20 v24 v25 (((24 : Int32) * v10) + a3) fun h26 =>
                      fI h26 [12] o 13 fun v27 =>
                      pI h26 [12] o 13 (v27 + (1 : Int32)) fun h28 =>
                      some ((1 : Int32), h28)
                  else
                    fR h8 [12] o 19 fun v29 =>
                    aI h8 20 v29 x15 fun v30 =>
                    jn (
                      L107 (x15 + 1)) fun j142 =>
                    if v30 = a1 then
                      fR h8 [12] o 20 fun v31 =>
                      aI h8 20 v31 x15 fun v32 =>
                      if v32 < (((24 : Int32) * v10) + a3) then
                        j142
                      else
                        some ((-5 : Int32), h8)
                    else
                      j142) lpN (0 : Int32)
              else
                fR h8 [12] o 14 fun v33 =>
                aI h8 20 v33 x13 fun v34 =>
                jn (
                  L63 (x13 + 1)) fun j98 =>
                if v34 = a1 then
                  fR h8 [12] o 16 fun v35 =>
                  aI h8 20 v35 x13 fun v36 =>
                  if v36 < (((24 : Int32) * v10) + a3) then
                    j98
                  else
                    some ((-5 : Int32), h8)
                else
                  j98) lpN (0 : Int32)
          else
            some ((-5 : Int32), h8)
    else
      j35 h1
set_option maxRecDepth 100000 in
set_option maxHeartbeats 4000000 in
theorem c_X12_move (l : Launch) (D : DT) (o : Option Nat) (a1 : Int32) (a2 : Int32) (a3 : Int32) (h : AH) (r : Int32 × AH) (hf : f_X12_move o a1 a2 a3 h = some r) : CM l D yX12_move cX12_move 6 (some .int) 2 43 0 0 [.inr (.inr o), .inl a1, .inl a2, .inl a3] h (some (.int r.1)) r.2 := by
  refine CM.of (by decide) (Nat.le_of_ble_eq_true rfl) (fun X hl C hD hX hnm E => ?_)
  subst hl
  subst hD
  have C : CX X RX12 cX12_move 6 := C
  show WW X h 0 0 0 [some (rB (xD X).1 o), some (.int a1), some (.int a2), some (.int a3), none, none] []
  unfold f_X12_move at hf
  refine s_aload_n C dX12_move_0 rfl ?_
  refine s_iload_n C dX12_move_1 rfl ?_
  refine s_callV (rvf := fun x => some (.int x)) (st := []) (fr := 1) (lo := 22) (mc := 0) (ms := 0) C [12] wc_X12_isBody wml_X12_217 wim_X12_isBody wsl_12_X12_isBody dX12_move_2 (As := [.inl a1]) rfl hf (fun x h' hF => c_X12_isBody _ _ _ _ _ (x, h') hF) rfl (Nat.le_of_ble_eq_true rfl) (room_ok hX (Nat.le_of_ble_eq_true rfl) (Nat.le_of_ble_eq_true rfl)) (cell_ok hX (Nat.le_of_ble_eq_true rfl) (Nat.le_of_ble_eq_true rfl)) (fun v2 h1 hf => ?_)
  refine s_jn hf (fun j35 e35 hf => ?_)
  have k35 : ∀ (h3 : AH), j35 h3 = some r → WW X h3 0 0 35 [none, none, none, none, none, none] [] := by
    intro h3 hf
    rw [e35] at hf
    refine s_iconst C dX12_move_35 (v := (-1 : Int32)) (by decide) ?_
    exact s_ireturn C E dX12_move_36 hf (Nat.le_of_ble_eq_true rfl) (Nat.le_of_ble_eq_true rfl)
  refine s_if_eq (tgt := 35) C dX12_move_5 (by decide) hf (fun hf => ?_) (fun hf => ?_)
  · refine s_weak (lv' := [none, none, none, none, none, none]) trivial ?_
    exact k35 _ hf
  · refine s_aload_n C dX12_move_8 rfl ?_
    refine s_getR C fl_X12_13 dX12_move_9 hf (fun v4 hf => ?_)
    refine s_iload_n C dX12_move_12 rfl ?_
    refine s_iaload C dX12_move_13 hf (fun v5 hf => ?_)
    refine s_iconst C dX12_move_14 (v := (4 : Int32)) (by decide) ?_
    refine s_icmp_ne (tgt := 35) C dX12_move_15 (by decide) hf (fun hf => ?_) (fun hf => ?_)
    · refine s_weak (lv' := [none, none, none, none, none, none]) trivial ?_
      exact k35 _ hf
    · refine s_iload_n C dX12_move_18 rfl ?_
      refine s_callS (rvf := fun x => some (.int x)) (st := []) (fr := 1) (lo := 22) (mc := 0) (ms := 0) C wc_X12_isCell wml_X12_206 wst_X12_isCell dX12_move_19 (As := [.inl a2]) rfl hf (fun x h' hF => c_X12_isCell _ _ _ _ (x, h') hF) rfl (Nat.le_of_ble_eq_true rfl) (room_ok hX (Nat.le_of_ble_eq_true rfl) (Nat.le_of_ble_eq_true rfl)) (cell_ok hX (Nat.le_of_ble_eq_true rfl) (Nat.le_of_ble_eq_true rfl)) (fun v7 h6 hf => ?_)
      refine s_if_eq (tgt := 35) C dX12_move_22 (by decide) hf (fun hf => ?_) (fun hf => ?_)
      · refine s_weak (lv' := [none, none, none, none, none, none]) trivial ?_
        exact k35 _ hf
      · refine s_iload_n C dX12_move_25 rfl ?_
        refine s_iconst C dX12_move_26 (v := (0 : Int32)) (by decide) ?_
        refine s_bipush C dX12_move_27 (v := (23 : Int32)) (by decide) ?_
        refine s_callS (rvf := fun x => some (.int x)) (st := []) (fr := 0) (lo := 0) (mc := 0) (ms := 0) C wc_X12_in wml_X12_195 wst_X12_in dX12_move_29 (As := [.inl a3, .inl (0 : Int32), .inl (23 : Int32)]) rfl hf (fun x h' hF => c_X12_in _ _ _ _ _ _ (x, h') hF) rfl (Nat.le_of_ble_eq_true rfl) (room_ok hX (Nat.le_of_ble_eq_true rfl) (Nat.le_of_ble_eq_true rfl)) (cell_ok hX (Nat.le_of_ble_eq_true rfl) (Nat.le_of_ble_eq_true rfl)) (fun v9 h8 hf => ?_)
        refine s_if_ne (tgt := 37) C dX12_move_32 (by decide) hf (fun hf => ?_) (fun hf => ?_)
        · refine s_bipush C dX12_move_37 (v := (24 : Int32)) (by decide) ?_
          refine s_aload_n C dX12_move_39 rfl ?_
          refine s_getI C fl_X12_203 dX12_move_40 hf (fun v10 hf => ?_)
          refine s_imul C dX12_move_43 ?_
          refine s_iload_n C dX12_move_44 rfl ?_
          refine s_iadd C dX12_move_45 ?_
          refine s_istore C dX12_move_46 (by decide) (nc_i rfl) (lv' := [some (rB (xD X).1 o), some (.int a1), some (.int a2), some (.int a3), some (.int (((24 : Int32) * v10) + a3)), none]) rfl ?_
          refine s_aload_n C dX12_move_48 rfl ?_
          refine s_getR C fl_X12_22 dX12_move_49 hf (fun v11 hf => ?_)
          refine s_iload_n C dX12_move_52 rfl ?_
          refine s_iaload C dX12_move_53 hf (fun v12 hf => ?_)
          refine s_if_lt (tgt := 60) C dX12_move_54 (by decide) hf (fun hf => ?_) (fun hf => ?_)
          · refine s_iconst C dX12_move_60 (v := (0 : Int32)) (by decide) ?_
            refine s_istore C dX12_move_61 (by decide) (nc_i rfl) (lv' := [some (rB (xD X).1 o), some (.int a1), some (.int a2), some (.int a3), some (.int (((24 : Int32) * v10) + a3)), some (.int (0 : Int32))]) rfl ?_
            refine s_lp1 hf (fun G63 z63 q63 hf => ?_)
            have k63 : ∀ (n : Nat) (x13 : Int32), G63 n x13 = some r → WW X h8 0 0 63 [some (rB (xD X).1 o), some (.int a1), some (.int a2), none, some (.int (((24 : Int32) * v10) + a3)), some (.int x13)] [] := by
              intro n
              induction n with
              | zero =>
                intro x13 hf
                rw [z63] at hf
                cases hf
              | succ n ih63 =>
                intro x13 hf
                have hf := (q63 n x13).symm.trans hf
                refine s_iload C dX12_move_63 rfl ?_
                refine s_aload_n C dX12_move_65 rfl ?_
                refine s_getI C fl_X12_236 dX12_move_66 hf (fun v14 hf => ?_)
                refine s_icmp_ge (tgt := 104) C dX12_move_69 (by decide) hf (fun hf => ?_) (fun hf => ?_)
                · refine s_iconst C dX12_move_104 (v := (0 : Int32)) (by decide) ?_
                  refine s_istore C dX12_move_105 (by decide) (nc_i rfl) (lv' := [some (rB (xD X).1 o), some (.int a1), some (.int a2), none, some (.int (((24 : Int32) * v10) + a3)), some (.int (0 : Int32))]) rfl ?_
                  refine s_lp1 hf (fun G107 z107 q107 hf => ?_)
                  have k107 : ∀ (n : Nat) (x15 : Int32), G107 n x15 = some r → WW X h8 0 0 107 [some (rB (xD X).1 o), some (.int a1), some (.int a2), none, some (.int (((24 : Int32) * v10) + a3)), some (.int x15)] [] := by
                    intro n
                    induction n with
                    | zero =>
                      intro x15 hf
                      rw [z107] at hf
                      cases hf
                    | succ n ih107 =>
                      intro x15 hf
                      have hf := (q107 n x15).symm.trans hf
                      refine s_iload C dX12_move_107 rfl ?_
                      refine s_aload_n C dX12_move_109 rfl ?_
                      refine s_getI C fl_X12_252 dX12_move_110 hf (fun v16 hf => ?_)
                      refine s_icmp_ge (tgt := 148) C dX12_move_113 (by decide) hf (fun hf => ?_) (fun hf => ?_)
                      · refine s_aload_n C dX12_move_148 rfl ?_
                        refine s_getI C fl_X12_236 dX12_move_149 hf (fun v17 hf => ?_)
                        refine s_sipush C dX12_move_152 (v := (200 : Int32)) (by decide) ?_
                        refine s_icmp_ne (tgt := 161) C dX12_move_155 (by decide) hf (fun hf => ?_) (fun hf => ?_)
                        · refine s_aload_n C dX12_move_161 rfl ?_
                          refine s_getR C fl_X12_37 dX12_move_162 hf (fun v18 hf => ?_)
                          refine s_aload_n C dX12_move_165 rfl ?_
                          refine s_getI C fl_X12_236 dX12_move_166 hf (fun v19 hf => ?_)
                          refine s_iload_n C dX12_move_169 rfl ?_
                          refine s_iastore C dX12_move_170 hf (fun h20 hf => ?_)
                          refine s_aload_n C dX12_move_171 rfl ?_
                          refine s_getR C fl_X12_40 dX12_move_172 hf (fun v21 hf => ?_)
                          refine s_aload_n C dX12_move_175 rfl ?_
                          refine s_getI C fl_X12_236 dX12_move_176 hf (fun v22 hf => ?_)
                          refine s_iload_n C dX12_move_179 rfl ?_
                          refine s_iastore C dX12_move_180 hf (fun h23 hf => ?_)
                          refine s_aload_n C dX12_move_181 rfl ?_
                          refine s_getR C fl_X12_43 dX12_move_182 hf (fun v24 hf => ?_)
                          refine s_aload_n C dX12_move_185 rfl ?_
                          refine s_getI C fl_X12_236 dX12_move_186 hf (fun v25 hf => ?_)
                          refine s_iload C dX12_move_189 rfl ?_
                          refine s_iastore C dX12_move_191 hf (fun h26 hf => ?_)
                          refine s_aload_n C dX12_move_192 rfl ?_
                          refine s_dup C dX12_move_193 c1_r ?_
                          refine s_getI C fl_X12_236 dX12_move_194 hf (fun v27 hf => ?_)
                          refine s_iconst C dX12_move_197 (v := (1 : Int32)) (by decide) ?_
                          refine s_iadd C dX12_move_198 ?_
                          refine s_putI C fl_X12_236 (by decide) dX12_move_199 hf (fun h28 hf => ?_)
                          refine s_iconst C dX12_move_202 (v := (1 : Int32)) (by decide) ?_
                          exact s_ireturn C E dX12_move_203 hf (Nat.le_of_ble_eq_true rfl) (Nat.le_of_ble_eq_true rfl)
                        · refine s_bipush C dX12_move_158 (v := (-3 : Int32)) (by decide) ?_
                          exact s_ireturn C E dX12_move_160 hf (Nat.le_of_ble_eq_true rfl) (Nat.le_of_ble_eq_true rfl)
                      · refine s_aload_n C dX12_move_116 rfl ?_
                        refine s_getR C fl_X12_49 dX12_move_117 hf (fun v29 hf => ?_)
                        refine s_iload C dX12_move_120 rfl ?_
                        refine s_iaload C dX12_move_122 hf (fun v30 hf => ?_)
                        refine s_iload_n C dX12_move_123 rfl ?_
                        refine s_jn hf (fun j142 e142 hf => ?_)
                        have k142 : j142  = some r → WW X h8 0 0 142 [some (rB (xD X).1 o), some (.int a1), some (.int a2), none, some (.int (((24 : Int32) * v10) + a3)), some (.int x15)] [] := by
                          intro  hf
                          rw [e142] at hf
                          refine s_iinc C dX12_move_142 (v := (x15 + 1)) rfl rfl (by decide) (nc_i rfl) (lv' := [some (rB (xD X).1 o), some (.int a1), some (.int a2), none, some (.int (((24 : Int32) * v10) + a3)), some (.int (x15 + 1))]) rfl ?_
                          refine s_goto (tgt := 107) C dX12_move_145 (by decide) ?_
                          exact ih107 _ hf
                        refine s_icmp_ne (tgt := 142) C dX12_move_124 (by decide) hf (fun hf => ?_) (fun hf => ?_)
                        · exact k142 hf
                        · refine s_aload_n C dX12_move_127 rfl ?_
                          refine s_getR C fl_X12_52 dX12_move_128 hf (fun v31 hf => ?_)
                          refine s_iload C dX12_move_131 rfl ?_
                          refine s_iaload C dX12_move_133 hf (fun v32 hf => ?_)
                          refine s_iload C dX12_move_134 rfl ?_
                          refine s_icmp_lt (tgt := 142) C dX12_move_136 (by decide) hf (fun hf => ?_) (fun hf => ?_)
                          · exact k142 hf
                          · refine s_bipush C dX12_move_139 (v := (-5 : Int32)) (by decide) ?_
                            exact s_ireturn C E dX12_move_141 hf (Nat.le_of_ble_eq_true rfl) (Nat.le_of_ble_eq_true rfl)
                  exact k107 lpN _ hf
                · refine s_aload_n C dX12_move_72 rfl ?_
                  refine s_getR C fl_X12_37 dX12_move_73 hf (fun v33 hf => ?_)
                  refine s_iload C dX12_move_76 rfl ?_
                  refine s_iaload C dX12_move_78 hf (fun v34 hf => ?_)
                  refine s_iload_n C dX12_move_79 rfl ?_
                  refine s_jn hf (fun j98 e98 hf => ?_)
                  have k98 : j98  = some r → WW X h8 0 0 98 [some (rB (xD X).1 o), some (.int a1), some (.int a2), none, some (.int (((24 : Int32) * v10) + a3)), some (.int x13)] [] := by
                    intro  hf
                    rw [e98] at hf
                    refine s_iinc C dX12_move_98 (v := (x13 + 1)) rfl rfl (by decide) (nc_i rfl) (lv' := [some (rB (xD X).1 o), some (.int a1), some (.int a2), none, some (.int (((24 : Int32) * v10) + a3)), some (.int (x13 + 1))]) rfl ?_
                    refine s_goto (tgt := 63) C dX12_move_101 (by decide) ?_
                    exact ih63 _ hf
                  refine s_icmp_ne (tgt := 98) C dX12_move_80 (by decide) hf (fun hf => ?_) (fun hf => ?_)
                  · exact k98 hf
                  · refine s_aload_n C dX12_move_83 rfl ?_
                    refine s_getR C fl_X12_43 dX12_move_84 hf (fun v35 hf => ?_)
                    refine s_iload C dX12_move_87 rfl ?_
                    refine s_iaload C dX12_move_89 hf (fun v36 hf => ?_)
                    refine s_iload C dX12_move_90 rfl ?_
                    refine s_icmp_lt (tgt := 98) C dX12_move_92 (by decide) hf (fun hf => ?_) (fun hf => ?_)
                    · exact k98 hf
                    · refine s_bipush C dX12_move_95 (v := (-5 : Int32)) (by decide) ?_
                      exact s_ireturn C E dX12_move_97 hf (Nat.le_of_ble_eq_true rfl) (Nat.le_of_ble_eq_true rfl)
            refine s_weak (lv' := [some (rB (xD X).1 o), some (.int a1), some (.int a2), none, some (.int (((24 : Int32) * v10) + a3)), some (.int (0 : Int32))]) ⟨rfl, ⟨rfl, ⟨rfl, ⟨rfl, ⟨rfl, trivial⟩⟩⟩⟩⟩ ?_
            exact k63 lpN _ hf
          · refine s_bipush C dX12_move_57 (v := (-5 : Int32)) (by decide) ?_
            exact s_ireturn C E dX12_move_59 hf (Nat.le_of_ble_eq_true rfl) (Nat.le_of_ble_eq_true rfl)
        · refine s_weak (lv' := [none, none, none, none, none, none]) trivial ?_
          exact k35 _ hf
/-- HillBoxesModel.shownTo(II)I -/
noncomputable def f_X12_shownTo (o : Option Nat) (a1 : Int32) (a2 : Int32) (h : AH) : Option (Int32 × AH) :=
  fI h [12] o 1 fun v1 =>
  rO h [12] o <| cl (f_X12_findFinder o a1 v1 h) fun _ h2 =>
  fI h2 [12] o 1 fun v3 =>
  rO h2 [12] o <| cl (f_X12_findBox o a2 v3 h2) fun _ h4 =>
  rO h4 [12] o <| cl (f_X12_bothOf o a1 a2 h4) fun _ h5 =>
  fI h5 [12] o 1 fun v6 =>
  fI h5 [12] o 1 fun v7 =>
  rO h5 [12] o <| cl (f_X12_lawBy o (4 : Int32) v6 v7 (1 : Int32) h5) fun v9 h8 =>
  some (v9, h8)
set_option maxRecDepth 100000 in
set_option maxHeartbeats 4000000 in
theorem c_X12_shownTo (l : Launch) (D : DT) (o : Option Nat) (a1 : Int32) (a2 : Int32) (h : AH) (r : Int32 × AH) (hf : f_X12_shownTo o a1 a2 h = some r) : CM l D yX12_shownTo cX12_shownTo 3 (some .int) 6 130 0 0 [.inr (.inr o), .inl a1, .inl a2] h (some (.int r.1)) r.2 := by
  refine CM.of (by decide) (Nat.le_of_ble_eq_true rfl) (fun X hl C hD hX hnm E => ?_)
  subst hl
  subst hD
  have C : CX X RX12 cX12_shownTo 3 := C
  show WW X h 0 0 0 [some (rB (xD X).1 o), some (.int a1), some (.int a2)] []
  unfold f_X12_shownTo at hf
  refine s_aload_n C dX12_shownTo_0 rfl ?_
  refine s_iload_n C dX12_shownTo_1 rfl ?_
  refine s_aload_n C dX12_shownTo_2 rfl ?_
  refine s_getI C fl_X12_203 dX12_shownTo_3 hf (fun v1 hf => ?_)
  refine s_callV (rvf := fun _ => none) (st := []) (fr := 5) (lo := 108) (mc := 0) (ms := 0) C [12] wc_X12_findFinder wml_X12_288 wim_X12_findFinder wsl_12_X12_findFinder dX12_shownTo_6 (As := [.inl a1, .inl v1]) rfl hf (fun x h' hF => c_X12_findFinder _ _ _ _ _ _ (x, h') hF) rfl (Nat.le_of_ble_eq_true rfl) (room_ok hX (Nat.le_of_ble_eq_true rfl) (Nat.le_of_ble_eq_true rfl)) (cell_ok hX (Nat.le_of_ble_eq_true rfl) (Nat.le_of_ble_eq_true rfl)) (fun _ h2 hf => ?_)
  refine s_aload_n C dX12_shownTo_9 rfl ?_
  refine s_iload_n C dX12_shownTo_10 rfl ?_
  refine s_aload_n C dX12_shownTo_11 rfl ?_
  refine s_getI C fl_X12_203 dX12_shownTo_12 hf (fun v3 hf => ?_)
  refine s_callV (rvf := fun _ => none) (st := []) (fr := 3) (lo := 69) (mc := 0) (ms := 0) C [12] wc_X12_findBox wml_X12_292 wim_X12_findBox wsl_12_X12_findBox dX12_shownTo_15 (As := [.inl a2, .inl v3]) rfl hf (fun x h' hF => c_X12_findBox _ _ _ _ _ _ (x, h') hF) rfl (Nat.le_of_ble_eq_true rfl) (room_ok hX (Nat.le_of_ble_eq_true rfl) (Nat.le_of_ble_eq_true rfl)) (cell_ok hX (Nat.le_of_ble_eq_true rfl) (Nat.le_of_ble_eq_true rfl)) (fun _ h4 hf => ?_)
  refine s_aload_n C dX12_shownTo_18 rfl ?_
  refine s_iload_n C dX12_shownTo_19 rfl ?_
  refine s_iload_n C dX12_shownTo_20 rfl ?_
  refine s_callV (rvf := fun _ => none) (st := []) (fr := 2) (lo := 41) (mc := 0) (ms := 0) C [12] wc_X12_bothOf wml_X12_295 wim_X12_bothOf wsl_12_X12_bothOf dX12_shownTo_21 (As := [.inl a1, .inl a2]) rfl hf (fun x h' hF => c_X12_bothOf _ _ _ _ _ _ (x, h') hF) rfl (Nat.le_of_ble_eq_true rfl) (room_ok hX (Nat.le_of_ble_eq_true rfl) (Nat.le_of_ble_eq_true rfl)) (cell_ok hX (Nat.le_of_ble_eq_true rfl) (Nat.le_of_ble_eq_true rfl)) (fun _ h5 hf => ?_)
  refine s_aload_n C dX12_shownTo_24 rfl ?_
  refine s_iconst C dX12_shownTo_25 (v := (4 : Int32)) (by decide) ?_
  refine s_aload_n C dX12_shownTo_26 rfl ?_
  refine s_getI C fl_X12_203 dX12_shownTo_27 hf (fun v6 hf => ?_)
  refine s_aload_n C dX12_shownTo_30 rfl ?_
  refine s_getI C fl_X12_203 dX12_shownTo_31 hf (fun v7 hf => ?_)
  refine s_iconst C dX12_shownTo_34 (v := (1 : Int32)) (by decide) ?_
  refine s_callV (rvf := fun x => some (.int x)) (st := []) (fr := 3) (lo := 72) (mc := 0) (ms := 0) C [12] wc_X12_lawBy wml_X12_301 wim_X12_lawBy wsl_12_X12_lawBy dX12_shownTo_35 (As := [.inl (4 : Int32), .inl v6, .inl v7, .inl (1 : Int32)]) rfl hf (fun x h' hF => c_X12_lawBy _ _ _ _ _ _ _ _ (x, h') hF) rfl (Nat.le_of_ble_eq_true rfl) (room_ok hX (Nat.le_of_ble_eq_true rfl) (Nat.le_of_ble_eq_true rfl)) (cell_ok hX (Nat.le_of_ble_eq_true rfl) (Nat.le_of_ble_eq_true rfl)) (fun v9 h8 hf => ?_)
  exact s_ireturn C E dX12_shownTo_38 hf (Nat.le_of_ble_eq_true rfl) (Nat.le_of_ble_eq_true rfl)
/-- HillBoxesModel.nearest(II)I -/
noncomputable def f_X12_nearest (o : Option Nat) (a1 : Int32) (a2 : Int32) (h : AH) : Option (Int32 × AH) :=
  rO h [12] o <| cl (f_X12_isFinder o a1 h) fun v2 h1 =>
  jn (fun (h3 : AH) =>
    some ((-1 : Int32), h3)) fun j15 =>
  if v2 = 0 then
    j15 h1
  else
    cl (f_X12_isCell a2 h1) fun v5 h4 =>
    if v5 = 0 then
      j15 h4
    else
      lp (fun _ _ _ => none) (fun (L23 : Int32 → Int32 → AH → Option (Int32 × AH)) (x6 : Int32) (x7 : Int32) (h8 : AH) =>
        fI h8 [12] o 3 fun v9 =>
        if v9 ≤ x7 then
          some (x6, h8)
        else
          rO h8 [12] o <| cl (f_X12_isOut o x7 h8) fun v11 h10 =>
          jn (fun (x12 : Int32) (h13 : AH) =>
            L23 x12 (x7 + 1) h13) fun j79 =>
          if v11 = 0 then
            j79 x6 h10
          else
            rO h10 [12] o <| cl (f_X12_shownTo o a1 x7 h10) fun v15 h14 =>
            if v15 = 0 then
              j79 x6 h14
            else
              rO h14 [12] o <| cl (f_X12_cellNow o x7 h14) fun v17 h16 =>
              cl (f_X12_farOf a2 v17 h16) fun v19 h18 =>
              jn (
                j79 v19 h18) fun j76 =>
              if x6 < 0 then
                j76
              else
                if x6 ≤ v19 then
                  j79 x6 h18
                else
                  j76) lpN (-2 : Int32) (0 : Int32) h4
set_option maxRecDepth 100000 in
set_option maxHeartbeats 4000000 in
theorem c_X12_nearest (l : Launch) (D : DT) (o : Option Nat) (a1 : Int32) (a2 : Int32) (h : AH) (r : Int32 × AH) (hf : f_X12_nearest o a1 a2 h = some r) : CM l D yX12_nearest cX12_nearest 6 (some .int) 7 152 0 0 [.inr (.inr o), .inl a1, .inl a2] h (some (.int r.1)) r.2 := by
  refine CM.of (by decide) (Nat.le_of_ble_eq_true rfl) (fun X hl C hD hX hnm E => ?_)
  subst hl
  subst hD
  have C : CX X RX12 cX12_nearest 6 := C
  show WW X h 0 0 0 [some (rB (xD X).1 o), some (.int a1), some (.int a2), none, none, none] []
  unfold f_X12_nearest at hf
  refine s_aload_n C dX12_nearest_0 rfl ?_
  refine s_iload_n C dX12_nearest_1 rfl ?_
  refine s_callV (rvf := fun x => some (.int x)) (st := []) (fr := 2) (lo := 43) (mc := 0) (ms := 0) C [12] wc_X12_isFinder wml_X12_230 wim_X12_isFinder wsl_12_X12_isFinder dX12_nearest_2 (As := [.inl a1]) rfl hf (fun x h' hF => c_X12_isFinder _ _ _ _ _ (x, h') hF) rfl (Nat.le_of_ble_eq_true rfl) (room_ok hX (Nat.le_of_ble_eq_true rfl) (Nat.le_of_ble_eq_true rfl)) (cell_ok hX (Nat.le_of_ble_eq_true rfl) (Nat.le_of_ble_eq_true rfl)) (fun v2 h1 hf => ?_)
  refine s_jn hf (fun j15 e15 hf => ?_)
  have k15 : ∀ (h3 : AH), j15 h3 = some r → WW X h3 0 0 15 [none, none, none, none, none, none] [] := by
    intro h3 hf
    rw [e15] at hf
    refine s_iconst C dX12_nearest_15 (v := (-1 : Int32)) (by decide) ?_
    exact s_ireturn C E dX12_nearest_16 hf (Nat.le_of_ble_eq_true rfl) (Nat.le_of_ble_eq_true rfl)
  refine s_if_eq (tgt := 15) C dX12_nearest_5 (by decide) hf (fun hf => ?_) (fun hf => ?_)
  · refine s_weak (lv' := [none, none, none, none, none, none]) trivial ?_
    exact k15 _ hf
  · refine s_iload_n C dX12_nearest_8 rfl ?_
    refine s_callS (rvf := fun x => some (.int x)) (st := []) (fr := 1) (lo := 22) (mc := 0) (ms := 0) C wc_X12_isCell wml_X12_206 wst_X12_isCell dX12_nearest_9 (As := [.inl a2]) rfl hf (fun x h' hF => c_X12_isCell _ _ _ _ (x, h') hF) rfl (Nat.le_of_ble_eq_true rfl) (room_ok hX (Nat.le_of_ble_eq_true rfl) (Nat.le_of_ble_eq_true rfl)) (cell_ok hX (Nat.le_of_ble_eq_true rfl) (Nat.le_of_ble_eq_true rfl)) (fun v5 h4 hf => ?_)
    refine s_if_ne (tgt := 17) C dX12_nearest_12 (by decide) hf (fun hf => ?_) (fun hf => ?_)
    · refine s_bipush C dX12_nearest_17 (v := (-2 : Int32)) (by decide) ?_
      refine s_istore_n C dX12_nearest_19 (by decide) (nc_i rfl) (lv' := [some (rB (xD X).1 o), some (.int a1), some (.int a2), some (.int (-2 : Int32)), none, none]) rfl ?_
      refine s_iconst C dX12_nearest_20 (v := (0 : Int32)) (by decide) ?_
      refine s_istore C dX12_nearest_21 (by decide) (nc_i rfl) (lv' := [some (rB (xD X).1 o), some (.int a1), some (.int a2), some (.int (-2 : Int32)), some (.int (0 : Int32)), none]) rfl ?_
      refine s_lp3 hf (fun G23 z23 q23 hf => ?_)
      have k23 : ∀ (n : Nat) (x6 : Int32) (x7 : Int32) (h8 : AH), G23 n x6 x7 h8 = some r → WW X h8 0 0 23 [some (rB (xD X).1 o), some (.int a1), some (.int a2), some (.int x6), some (.int x7), none] [] := by
        intro n
        induction n with
        | zero =>
          intro x6 x7 h8 hf
          rw [z23] at hf
          cases hf
        | succ n ih23 =>
          intro x6 x7 h8 hf
          have hf := (q23 n x6 x7 h8).symm.trans hf
          refine s_iload C dX12_nearest_23 rfl ?_
          refine s_aload_n C dX12_nearest_25 rfl ?_
          refine s_getI C fl_X12_214 dX12_nearest_26 hf (fun v9 hf => ?_)
          refine s_icmp_ge (tgt := 85) C dX12_nearest_29 (by decide) hf (fun hf => ?_) (fun hf => ?_)
          · refine s_iload_n C dX12_nearest_85 rfl ?_
            exact s_ireturn C E dX12_nearest_86 hf (Nat.le_of_ble_eq_true rfl) (Nat.le_of_ble_eq_true rfl)
          · refine s_aload_n C dX12_nearest_32 rfl ?_
            refine s_iload C dX12_nearest_33 rfl ?_
            refine s_callV (rvf := fun x => some (.int x)) (st := []) (fr := 3) (lo := 64) (mc := 0) (ms := 0) C [12] wc_X12_isOut wml_X12_255 wim_X12_isOut wsl_12_X12_isOut dX12_nearest_35 (As := [.inl x7]) rfl hf (fun x h' hF => c_X12_isOut _ _ _ _ _ (x, h') hF) rfl (Nat.le_of_ble_eq_true rfl) (room_ok hX (Nat.le_of_ble_eq_true rfl) (Nat.le_of_ble_eq_true rfl)) (cell_ok hX (Nat.le_of_ble_eq_true rfl) (Nat.le_of_ble_eq_true rfl)) (fun v11 h10 hf => ?_)
            refine s_jn hf (fun j79 e79 hf => ?_)
            have k79 : ∀ (x12 : Int32) (h13 : AH), j79 x12 h13 = some r → WW X h13 0 0 79 [some (rB (xD X).1 o), some (.int a1), some (.int a2), some (.int x12), some (.int x7), none] [] := by
              intro x12 h13 hf
              rw [e79] at hf
              refine s_iinc C dX12_nearest_79 (v := (x7 + 1)) rfl rfl (by decide) (nc_i rfl) (lv' := [some (rB (xD X).1 o), some (.int a1), some (.int a2), some (.int x12), some (.int (x7 + 1)), none]) rfl ?_
              refine s_goto (tgt := 23) C dX12_nearest_82 (by decide) ?_
              exact ih23 _ _ _ hf
            refine s_if_eq (tgt := 79) C dX12_nearest_38 (by decide) hf (fun hf => ?_) (fun hf => ?_)
            · exact k79 _ _ hf
            · refine s_aload_n C dX12_nearest_41 rfl ?_
              refine s_iload_n C dX12_nearest_42 rfl ?_
              refine s_iload C dX12_nearest_43 rfl ?_
              refine s_callV (rvf := fun x => some (.int x)) (st := []) (fr := 6) (lo := 130) (mc := 0) (ms := 0) C [12] wc_X12_shownTo wml_X12_451 wim_X12_shownTo wsl_12_X12_shownTo dX12_nearest_45 (As := [.inl a1, .inl x7]) rfl hf (fun x h' hF => c_X12_shownTo _ _ _ _ _ _ (x, h') hF) rfl (Nat.le_of_ble_eq_true rfl) (room_ok hX (Nat.le_of_ble_eq_true rfl) (Nat.le_of_ble_eq_true rfl)) (cell_ok hX (Nat.le_of_ble_eq_true rfl) (Nat.le_of_ble_eq_true rfl)) (fun v15 h14 hf => ?_)
              refine s_if_ne (tgt := 54) C dX12_nearest_48 (by decide) hf (fun hf => ?_) (fun hf => ?_)
              · refine s_iload_n C dX12_nearest_54 rfl ?_
                refine s_aload_n C dX12_nearest_55 rfl ?_
                refine s_iload C dX12_nearest_56 rfl ?_
                refine s_callV (rvf := fun x => some (.int x)) (st := [.int a2]) (fr := 0) (lo := 0) (mc := 0) (ms := 0) C [12] wc_X12_cellNow wml_X12_239 wim_X12_cellNow wsl_12_X12_cellNow dX12_nearest_58 (As := [.inl x7]) rfl hf (fun x h' hF => c_X12_cellNow _ _ _ _ _ (x, h') hF) rfl (Nat.le_of_ble_eq_true rfl) (room_ok hX (Nat.le_of_ble_eq_true rfl) (Nat.le_of_ble_eq_true rfl)) (cell_ok hX (Nat.le_of_ble_eq_true rfl) (Nat.le_of_ble_eq_true rfl)) (fun v17 h16 hf => ?_)
                refine s_callS (rvf := fun x => some (.int x)) (st := []) (fr := 1) (lo := 20) (mc := 0) (ms := 0) C wc_X12_farOf wml_X12_308 wst_X12_farOf dX12_nearest_61 (As := [.inl a2, .inl v17]) rfl hf (fun x h' hF => c_X12_farOf _ _ _ _ _ (x, h') hF) rfl (Nat.le_of_ble_eq_true rfl) (room_ok hX (Nat.le_of_ble_eq_true rfl) (Nat.le_of_ble_eq_true rfl)) (cell_ok hX (Nat.le_of_ble_eq_true rfl) (Nat.le_of_ble_eq_true rfl)) (fun v19 h18 hf => ?_)
                refine s_istore C dX12_nearest_64 (by decide) (nc_i rfl) (lv' := [some (rB (xD X).1 o), some (.int a1), some (.int a2), some (.int x6), some (.int x7), some (.int v19)]) rfl ?_
                refine s_iload_n C dX12_nearest_66 rfl ?_
                refine s_jn hf (fun j76 e76 hf => ?_)
                have k76 : j76  = some r → WW X h18 0 0 76 [some (rB (xD X).1 o), some (.int a1), some (.int a2), none, some (.int x7), some (.int v19)] [] := by
                  intro  hf
                  rw [e76] at hf
                  refine s_iload C dX12_nearest_76 rfl ?_
                  refine s_istore_n C dX12_nearest_78 (by decide) (nc_i rfl) (lv' := [some (rB (xD X).1 o), some (.int a1), some (.int a2), some (.int v19), some (.int x7), some (.int v19)]) rfl ?_
                  refine s_weak (lv' := [some (rB (xD X).1 o), some (.int a1), some (.int a2), some (.int v19), some (.int x7), none]) ⟨rfl, ⟨rfl, ⟨rfl, ⟨rfl, ⟨rfl, trivial⟩⟩⟩⟩⟩ ?_
                  exact k79 _ _ hf
                refine s_if_lt (tgt := 76) C dX12_nearest_67 (by decide) hf (fun hf => ?_) (fun hf => ?_)
                · refine s_weak (lv' := [some (rB (xD X).1 o), some (.int a1), some (.int a2), none, some (.int x7), some (.int v19)]) ⟨rfl, ⟨rfl, ⟨rfl, ⟨rfl, ⟨rfl, trivial⟩⟩⟩⟩⟩ ?_
                  exact k76 hf
                · refine s_iload C dX12_nearest_70 rfl ?_
                  refine s_iload_n C dX12_nearest_72 rfl ?_
                  refine s_icmp_ge (tgt := 79) C dX12_nearest_73 (by decide) hf (fun hf => ?_) (fun hf => ?_)
                  · refine s_weak (lv' := [some (rB (xD X).1 o), some (.int a1), some (.int a2), some (.int x6), some (.int x7), none]) ⟨rfl, ⟨rfl, ⟨rfl, ⟨rfl, ⟨rfl, trivial⟩⟩⟩⟩⟩ ?_
                    exact k79 _ _ hf
                  · refine s_weak (lv' := [some (rB (xD X).1 o), some (.int a1), some (.int a2), none, some (.int x7), some (.int v19)]) ⟨rfl, ⟨rfl, ⟨rfl, ⟨rfl, ⟨rfl, trivial⟩⟩⟩⟩⟩ ?_
                    exact k76 hf
              · refine s_goto (tgt := 79) C dX12_nearest_51 (by decide) ?_
                exact k79 _ _ hf
      exact k23 lpN _ _ _ hf
    · refine s_weak (lv' := [none, none, none, none, none, none]) trivial ?_
      exact k15 _ hf
/-- HillBoxesModel.findWays()V -/
noncomputable def f_X12_findWays (o : Option Nat) (h : AH) : Option (Unit × AH) :=
  lp (fun _ _ => none) (fun (L2 : Int32 → AH → Option (Unit × AH)) (x1 : Int32) (h2 : AH) =>
    if (30 : Int32) < x1 then
      some ((), h2)
    else
      lp (fun _ _ _ => none) (fun (L10 : Int32 → Int32 → AH → Option (Unit × AH)) (x3 : Int32) (x4 : Int32) (h5 : AH) =>
        if x3 < x4 then
          L2 (x3 + 1) h5
        else
          fR h5 [12] o 81 fun v6 =>
          jn (fun (x7 : Int64) =>
            bL h5 24 v6 (((31 : Int32) * x3) + x4) x7 fun h8 =>
            L10 x3 (x4 + 1) h8) fun j67 =>
          jn (
            j67 (1 : Int64)) fun j34 =>
          if x4 = 0 then
            j34
          else
            if x4 = x3 then
              j34
            else
              fR h5 [12] o 81 fun v9 =>
              aL h5 24 v9 ((((31 : Int32) * (x3 - (1 : Int32))) + x4) - (1 : Int32)) fun v10 =>
              fR h5 [12] o 81 fun v11 =>
              aL h5 24 v11 (((31 : Int32) * (x3 - (1 : Int32))) + x4) fun v12 =>
              j67 (v10 + v12)) lpN x1 (0 : Int32) h2) lpN (0 : Int32) h
set_option maxRecDepth 100000 in
set_option maxHeartbeats 4000000 in
theorem c_X12_findWays (l : Launch) (D : DT) (o : Option Nat) (h : AH) (r : Unit × AH) (hf : f_X12_findWays o h = some r) : CM l D yX12_findWays cX12_findWays 3 none 0 0 0 0 [.inr (.inr o)] h none r.2 := by
  refine CM.of (by decide) (Nat.le_of_ble_eq_true rfl) (fun X hl C hD hX hnm E => ?_)
  subst hl
  subst hD
  have C : CX X RX12 cX12_findWays 3 := C
  show WW X h 0 0 0 [some (rB (xD X).1 o), none, none] []
  unfold f_X12_findWays at hf
  refine s_iconst C dX12_findWays_0 (v := (0 : Int32)) (by decide) ?_
  refine s_istore_n C dX12_findWays_1 (by decide) (nc_r rfl) (lv' := [some (rB (xD X).1 o), some (.int (0 : Int32)), none]) rfl ?_
  refine s_lp2 hf (fun G2 z2 q2 hf => ?_)
  have k2 : ∀ (n : Nat) (x1 : Int32) (h2 : AH), G2 n x1 h2 = some r → WW X h2 0 0 2 [some (rB (xD X).1 o), some (.int x1), none] [] := by
    intro n
    induction n with
    | zero =>
      intro x1 h2 hf
      rw [z2] at hf
      cases hf
    | succ n ih2 =>
      intro x1 h2 hf
      have hf := (q2 n x1 h2).symm.trans hf
      refine s_iload_n C dX12_findWays_2 rfl ?_
      refine s_bipush C dX12_findWays_3 (v := (30 : Int32)) (by decide) ?_
      refine s_icmp_gt (tgt := 80) C dX12_findWays_5 (by decide) hf (fun hf => ?_) (fun hf => ?_)
      · exact s_return C E dX12_findWays_80 hf (Nat.le_of_ble_eq_true rfl) (Nat.le_of_ble_eq_true rfl)
      · refine s_iconst C dX12_findWays_8 (v := (0 : Int32)) (by decide) ?_
        refine s_istore_n C dX12_findWays_9 (by decide) (nc_i rfl) (lv' := [some (rB (xD X).1 o), some (.int x1), some (.int (0 : Int32))]) rfl ?_
        refine s_lp3 hf (fun G10 z10 q10 hf => ?_)
        have k10 : ∀ (n : Nat) (x3 : Int32) (x4 : Int32) (h5 : AH), G10 n x3 x4 h5 = some r → WW X h5 0 0 10 [some (rB (xD X).1 o), some (.int x3), some (.int x4)] [] := by
          intro n
          induction n with
          | zero =>
            intro x3 x4 h5 hf
            rw [z10] at hf
            cases hf
          | succ n ih10 =>
            intro x3 x4 h5 hf
            have hf := (q10 n x3 x4 h5).symm.trans hf
            refine s_iload_n C dX12_findWays_10 rfl ?_
            refine s_iload_n C dX12_findWays_11 rfl ?_
            refine s_icmp_gt (tgt := 74) C dX12_findWays_12 (by decide) hf (fun hf => ?_) (fun hf => ?_)
            · refine s_iinc C dX12_findWays_74 (v := (x3 + 1)) rfl rfl (by decide) (nc_r rfl) (lv' := [some (rB (xD X).1 o), some (.int (x3 + 1)), some (.int x4)]) rfl ?_
              refine s_goto (tgt := 2) C dX12_findWays_77 (by decide) ?_
              refine s_weak (lv' := [some (rB (xD X).1 o), some (.int (x3 + 1)), none]) ⟨rfl, ⟨rfl, trivial⟩⟩ ?_
              exact ih2 _ _ hf
            · refine s_aload_n C dX12_findWays_15 rfl ?_
              refine s_getR C fl_X12_167 dX12_findWays_16 hf (fun v6 hf => ?_)
              refine s_bipush C dX12_findWays_19 (v := (31 : Int32)) (by decide) ?_
              refine s_iload_n C dX12_findWays_21 rfl ?_
              refine s_imul C dX12_findWays_22 ?_
              refine s_iload_n C dX12_findWays_23 rfl ?_
              refine s_iadd C dX12_findWays_24 ?_
              refine s_iload_n C dX12_findWays_25 rfl ?_
              refine s_jn hf (fun j67 e67 hf => ?_)
              have k67 : ∀ (x7 : Int64), j67 x7 = some r → WW X h5 0 0 67 [some (rB (xD X).1 o), some (.int x3), some (.int x4)] [.long x7, .int (((31 : Int32) * x3) + x4), rB (xD X).1 v6] := by
                intro x7 hf
                rw [e67] at hf
                refine s_lastore C dX12_findWays_67 hf (fun h8 hf => ?_)
                refine s_iinc C dX12_findWays_68 (v := (x4 + 1)) rfl rfl (by decide) (nc_i rfl) (lv' := [some (rB (xD X).1 o), some (.int x3), some (.int (x4 + 1))]) rfl ?_
                refine s_goto (tgt := 10) C dX12_findWays_71 (by decide) ?_
                exact ih10 _ _ _ hf
              refine s_jn hf (fun j34 e34 hf => ?_)
              have k34 : j34  = some r → WW X h5 0 0 34 [some (rB (xD X).1 o), some (.int x3), some (.int x4)] [.int (((31 : Int32) * x3) + x4), rB (xD X).1 v6] := by
                intro  hf
                rw [e34] at hf
                refine s_lconst C dX12_findWays_34 (v := (1 : Int64)) (by decide) ?_
                refine s_goto (tgt := 67) C dX12_findWays_35 (by decide) ?_
                exact k67 _ hf
              refine s_if_eq (tgt := 34) C dX12_findWays_26 (by decide) hf (fun hf => ?_) (fun hf => ?_)
              · exact k34 hf
              · refine s_iload_n C dX12_findWays_29 rfl ?_
                refine s_iload_n C dX12_findWays_30 rfl ?_
                refine s_icmp_ne (tgt := 38) C dX12_findWays_31 (by decide) hf (fun hf => ?_) (fun hf => ?_)
                · refine s_aload_n C dX12_findWays_38 rfl ?_
                  refine s_getR C fl_X12_167 dX12_findWays_39 hf (fun v9 hf => ?_)
                  refine s_bipush C dX12_findWays_42 (v := (31 : Int32)) (by decide) ?_
                  refine s_iload_n C dX12_findWays_44 rfl ?_
                  refine s_iconst C dX12_findWays_45 (v := (1 : Int32)) (by decide) ?_
                  refine s_isub C dX12_findWays_46 ?_
                  refine s_imul C dX12_findWays_47 ?_
                  refine s_iload_n C dX12_findWays_48 rfl ?_
                  refine s_iadd C dX12_findWays_49 ?_
                  refine s_iconst C dX12_findWays_50 (v := (1 : Int32)) (by decide) ?_
                  refine s_isub C dX12_findWays_51 ?_
                  refine s_laload C dX12_findWays_52 hf (fun v10 hf => ?_)
                  refine s_aload_n C dX12_findWays_53 rfl ?_
                  refine s_getR C fl_X12_167 dX12_findWays_54 hf (fun v11 hf => ?_)
                  refine s_bipush C dX12_findWays_57 (v := (31 : Int32)) (by decide) ?_
                  refine s_iload_n C dX12_findWays_59 rfl ?_
                  refine s_iconst C dX12_findWays_60 (v := (1 : Int32)) (by decide) ?_
                  refine s_isub C dX12_findWays_61 ?_
                  refine s_imul C dX12_findWays_62 ?_
                  refine s_iload_n C dX12_findWays_63 rfl ?_
                  refine s_iadd C dX12_findWays_64 ?_
                  refine s_laload C dX12_findWays_65 hf (fun v12 hf => ?_)
                  refine s_ladd C dX12_findWays_66 ?_
                  exact k67 _ hf
                · exact k34 hf
        exact k10 lpN _ _ _ hf
  exact k2 lpN _ _ hf
/-- HillBoxesModel.boundOf(III)I -/
noncomputable def f_X12_boundOf (o : Option Nat) (a1 : Int32) (a2 : Int32) (a3 : Int32) (h : AH) : Option (Int32 × AH) :=
  rO h [12] o <| cl (f_X12_findWays o h) fun _ h1 =>
  lp (fun _ => none) (fun (L11 : Int32 → Option (Int32 × AH)) (x2 : Int32) =>
    if x2 ≤ a3 then
      some (a3, h1)
    else
      lp (fun _ _ _ => none) (fun (L23 : Int32 → Int64 → Int32 → Option (Int32 × AH)) (x3 : Int32) (x4 : Int64) (x5 : Int32) =>
        if a3 < x5 then
          fR h1 [12] o 81 fun v6 =>
          aL h1 24 v6 (((31 : Int32) * a1) + a2) fun v7 =>
          if (lg_cmp ((100 : Int64) * x4) ((5 : Int64) * v7)) < 0 then
            L11 (x3 + (-1))
          else
            some (x3, h1)
        else
          jn (fun (x8 : Int64) =>
            L23 x3 x8 (x5 + 1)) fun j89 =>
          if x3 < x5 then
            j89 x4
          else
            if (a1 - x3) < (a2 - x5) then
              j89 x4
            else
              if a2 < x5 then
                j89 x4
              else
                fR h1 [12] o 81 fun v9 =>
                aL h1 24 v9 (((31 : Int32) * x3) + x5) fun v10 =>
                fR h1 [12] o 81 fun v11 =>
                aL h1 24 v11 ((((31 : Int32) * (a1 - x3)) + a2) - x5) fun v12 =>
                j89 (x4 + (v10 * v12))) lpN x2 (0 : Int64) (0 : Int32)) lpN ((a1 - a2) + a3)
set_option maxRecDepth 100000 in
set_option maxHeartbeats 4000000 in
theorem c_X12_boundOf (l : Launch) (D : DT) (o : Option Nat) (a1 : Int32) (a2 : Int32) (a3 : Int32) (h : AH) (r : Int32 × AH) (hf : f_X12_boundOf o a1 a2 a3 h = some r) : CM l D yX12_boundOf cX12_boundOf 8 (some .int) 1 22 0 0 [.inr (.inr o), .inl a1, .inl a2, .inl a3] h (some (.int r.1)) r.2 := by
  refine CM.of (by decide) (Nat.le_of_ble_eq_true rfl) (fun X hl C hD hX hnm E => ?_)
  subst hl
  subst hD
  have C : CX X RX12 cX12_boundOf 8 := C
  show WW X h 0 0 0 [some (rB (xD X).1 o), some (.int a1), some (.int a2), some (.int a3), none, none, none, none] []
  unfold f_X12_boundOf at hf
  refine s_aload_n C dX12_boundOf_0 rfl ?_
  refine s_callV (rvf := fun _ => none) (st := []) (fr := 0) (lo := 0) (mc := 0) (ms := 0) C [12] wc_X12_findWays wml_X12_573 wim_X12_findWays wsl_12_X12_findWays dX12_boundOf_1 (As := []) rfl hf (fun x h' hF => c_X12_findWays _ _ _ _ (x, h') hF) rfl (Nat.le_of_ble_eq_true rfl) (room_ok hX (Nat.le_of_ble_eq_true rfl) (Nat.le_of_ble_eq_true rfl)) (cell_ok hX (Nat.le_of_ble_eq_true rfl) (Nat.le_of_ble_eq_true rfl)) (fun _ h1 hf => ?_)
  refine s_iload_n C dX12_boundOf_4 rfl ?_
  refine s_iload_n C dX12_boundOf_5 rfl ?_
  refine s_isub C dX12_boundOf_6 ?_
  refine s_iload_n C dX12_boundOf_7 rfl ?_
  refine s_iadd C dX12_boundOf_8 ?_
  refine s_istore C dX12_boundOf_9 (by decide) (nc_i rfl) (lv' := [some (rB (xD X).1 o), some (.int a1), some (.int a2), some (.int a3), some (.int ((a1 - a2) + a3)), none, none, none]) rfl ?_
  refine s_lp1 hf (fun G11 z11 q11 hf => ?_)
  have k11 : ∀ (n : Nat) (x2 : Int32), G11 n x2 = some r → WW X h1 0 0 11 [some (rB (xD X).1 o), some (.int a1), some (.int a2), some (.int a3), some (.int x2), none, none, none] [] := by
    intro n
    induction n with
    | zero =>
      intro x2 hf
      rw [z11] at hf
      cases hf
    | succ n ih11 =>
      intro x2 hf
      have hf := (q11 n x2).symm.trans hf
      refine s_iload C dX12_boundOf_11 rfl ?_
      refine s_iload_n C dX12_boundOf_13 rfl ?_
      refine s_icmp_le (tgt := 129) C dX12_boundOf_14 (by decide) hf (fun hf => ?_) (fun hf => ?_)
      · refine s_iload_n C dX12_boundOf_129 rfl ?_
        exact s_ireturn C E dX12_boundOf_130 hf (Nat.le_of_ble_eq_true rfl) (Nat.le_of_ble_eq_true rfl)
      · refine s_lconst C dX12_boundOf_17 (v := (0 : Int64)) (by decide) ?_
        refine s_lstore C dX12_boundOf_18 (by decide) (nc_i rfl) (lv' := [some (rB (xD X).1 o), some (.int a1), some (.int a2), some (.int a3), some (.int x2), some (.long (0 : Int64)), none, none]) rfl ?_
        refine s_iconst C dX12_boundOf_20 (v := (0 : Int32)) (by decide) ?_
        refine s_istore C dX12_boundOf_21 (by decide) (nc_n rfl) (lv' := [some (rB (xD X).1 o), some (.int a1), some (.int a2), some (.int a3), some (.int x2), some (.long (0 : Int64)), none, some (.int (0 : Int32))]) rfl ?_
        refine s_lp3 hf (fun G23 z23 q23 hf => ?_)
        have k23 : ∀ (n : Nat) (x3 : Int32) (x4 : Int64) (x5 : Int32), G23 n x3 x4 x5 = some r → WW X h1 0 0 23 [some (rB (xD X).1 o), some (.int a1), some (.int a2), some (.int a3), some (.int x3), some (.long x4), none, some (.int x5)] [] := by
          intro n
          induction n with
          | zero =>
            intro x3 x4 x5 hf
            rw [z23] at hf
            cases hf
          | succ n ih23 =>
            intro x3 x4 x5 hf
            have hf := (q23 n x3 x4 x5).symm.trans hf
            refine s_iload C dX12_boundOf_23 rfl ?_
            refine s_iload_n C dX12_boundOf_25 rfl ?_
            refine s_icmp_gt (tgt := 95) C dX12_boundOf_26 (by decide) hf (fun hf => ?_) (fun hf => ?_)
            · refine s_ldc2 C dX12_boundOf_95 wk_X12_576 ?_
              refine s_lload C dX12_boundOf_98 rfl ?_
              refine s_lmul C dX12_boundOf_100 ?_
              refine s_ldc2 C dX12_boundOf_101 wk_X12_578 ?_
              refine s_aload_n C dX12_boundOf_104 rfl ?_
              refine s_getR C fl_X12_167 dX12_boundOf_105 hf (fun v6 hf => ?_)
              refine s_bipush C dX12_boundOf_108 (v := (31 : Int32)) (by decide) ?_
              refine s_iload_n C dX12_boundOf_110 rfl ?_
              refine s_imul C dX12_boundOf_111 ?_
              refine s_iload_n C dX12_boundOf_112 rfl ?_
              refine s_iadd C dX12_boundOf_113 ?_
              refine s_laload C dX12_boundOf_114 hf (fun v7 hf => ?_)
              refine s_lmul C dX12_boundOf_115 ?_
              refine s_lcmp C dX12_boundOf_116 ?_
              refine s_if_lt (tgt := 123) C dX12_boundOf_117 (by decide) hf (fun hf => ?_) (fun hf => ?_)
              · refine s_iinc C dX12_boundOf_123 (v := (x3 + (-1))) rfl rfl (by decide) (nc_i rfl) (lv' := [some (rB (xD X).1 o), some (.int a1), some (.int a2), some (.int a3), some (.int (x3 + (-1))), some (.long x4), none, some (.int x5)]) rfl ?_
                refine s_goto (tgt := 11) C dX12_boundOf_126 (by decide) ?_
                refine s_weak (lv' := [some (rB (xD X).1 o), some (.int a1), some (.int a2), some (.int a3), some (.int (x3 + (-1))), none, none, none]) ⟨rfl, ⟨rfl, ⟨rfl, ⟨rfl, ⟨rfl, trivial⟩⟩⟩⟩⟩ ?_
                exact ih11 _ hf
              · refine s_iload C dX12_boundOf_120 rfl ?_
                exact s_ireturn C E dX12_boundOf_122 hf (Nat.le_of_ble_eq_true rfl) (Nat.le_of_ble_eq_true rfl)
            · refine s_iload C dX12_boundOf_29 rfl ?_
              refine s_iload C dX12_boundOf_31 rfl ?_
              refine s_jn hf (fun j89 e89 hf => ?_)
              have k89 : ∀ (x8 : Int64), j89 x8 = some r → WW X h1 0 0 89 [some (rB (xD X).1 o), some (.int a1), some (.int a2), some (.int a3), some (.int x3), some (.long x8), none, some (.int x5)] [] := by
                intro x8 hf
                rw [e89] at hf
                refine s_iinc C dX12_boundOf_89 (v := (x5 + 1)) rfl rfl (by decide) (nc_n rfl) (lv' := [some (rB (xD X).1 o), some (.int a1), some (.int a2), some (.int a3), some (.int x3), some (.long x8), none, some (.int (x5 + 1))]) rfl ?_
                refine s_goto (tgt := 23) C dX12_boundOf_92 (by decide) ?_
                exact ih23 _ _ _ hf
              refine s_icmp_gt (tgt := 89) C dX12_boundOf_33 (by decide) hf (fun hf => ?_) (fun hf => ?_)
              · exact k89 _ hf
              · refine s_iload_n C dX12_boundOf_36 rfl ?_
                refine s_iload C dX12_boundOf_37 rfl ?_
                refine s_isub C dX12_boundOf_39 ?_
                refine s_iload_n C dX12_boundOf_40 rfl ?_
                refine s_iload C dX12_boundOf_41 rfl ?_
                refine s_isub C dX12_boundOf_43 ?_
                refine s_icmp_gt (tgt := 89) C dX12_boundOf_44 (by decide) hf (fun hf => ?_) (fun hf => ?_)
                · exact k89 _ hf
                · refine s_iload C dX12_boundOf_47 rfl ?_
                  refine s_iload_n C dX12_boundOf_49 rfl ?_
                  refine s_icmp_gt (tgt := 89) C dX12_boundOf_50 (by decide) hf (fun hf => ?_) (fun hf => ?_)
                  · exact k89 _ hf
                  · refine s_lload C dX12_boundOf_53 rfl ?_
                    refine s_aload_n C dX12_boundOf_55 rfl ?_
                    refine s_getR C fl_X12_167 dX12_boundOf_56 hf (fun v9 hf => ?_)
                    refine s_bipush C dX12_boundOf_59 (v := (31 : Int32)) (by decide) ?_
                    refine s_iload C dX12_boundOf_61 rfl ?_
                    refine s_imul C dX12_boundOf_63 ?_
                    refine s_iload C dX12_boundOf_64 rfl ?_
                    refine s_iadd C dX12_boundOf_66 ?_
                    refine s_laload C dX12_boundOf_67 hf (fun v10 hf => ?_)
                    refine s_aload_n C dX12_boundOf_68 rfl ?_
                    refine s_getR C fl_X12_167 dX12_boundOf_69 hf (fun v11 hf => ?_)
                    refine s_bipush C dX12_boundOf_72 (v := (31 : Int32)) (by decide) ?_
                    refine s_iload_n C dX12_boundOf_74 rfl ?_
                    refine s_iload C dX12_boundOf_75 rfl ?_
                    refine s_isub C dX12_boundOf_77 ?_
                    refine s_imul C dX12_boundOf_78 ?_
                    refine s_iload_n C dX12_boundOf_79 rfl ?_
                    refine s_iadd C dX12_boundOf_80 ?_
                    refine s_iload C dX12_boundOf_81 rfl ?_
                    refine s_isub C dX12_boundOf_83 ?_
                    refine s_laload C dX12_boundOf_84 hf (fun v12 hf => ?_)
                    refine s_lmul C dX12_boundOf_85 ?_
                    refine s_ladd C dX12_boundOf_86 ?_
                    refine s_lstore C dX12_boundOf_87 (by decide) (nc_i rfl) (lv' := [some (rB (xD X).1 o), some (.int a1), some (.int a2), some (.int a3), some (.int x3), some (.long (x4 + (v10 * v12))), none, some (.int x5)]) rfl ?_
                    exact k89 _ hf
        exact k23 lpN _ _ _ hf
  exact k11 lpN _ hf
/-- HillBoxesModel.nobody(I)I -/
noncomputable def f_X12_nobody (o : Option Nat) (a1 : Int32) (h : AH) : Option (Int32 × AH) :=
  cl (f_X12_in a1 (0 : Int32) (3 : Int32) h) fun v2 h1 =>
  if v2 = 0 then
    some ((-1 : Int32), h1)
  else
    lp (fun _ _ _ _ _ => none) (fun (L21 : Int32 → Int32 → Int32 → Int32 → AH → Option (Int32 × AH)) (x3 : Int32) (x4 : Int32) (x5 : Int32) (x6 : Int32) (h7 : AH) =>
      fI h7 [12] o 3 fun v8 =>
      if v8 ≤ x6 then
        if (3 : Int32) ≤ a1 then
          jn (fun (x9 : Int32) (h10 : AH) =>
            some (x9, h10)) fun j134 =>
          if x3 ≤ (30 : Int32) then
            rO h7 [12] o <| cl (f_X12_boundOf o x3 x4 x5 h7) fun v12 h11 =>
            j134 v12 h11
          else
            j134 (-4 : Int32) h7
        else
          jn (fun (x13 : Int32) =>
            some (x13, h7)) fun j114 =>
          if a1 = 0 then
            j114 x3
          else
            if a1 = (1 : Int32) then
              j114 x4
            else
              j114 x5
      else
        rO h7 [12] o <| cl (f_X12_isUnfound o x6 h7) fun v15 h14 =>
        jn (fun (x16 : Int32) (x17 : Int32) (x18 : Int32) =>
          L21 x16 x17 x18 (x6 + 1) h14) fun j84 =>
        if v15 = 0 then
          j84 x3 x4 x5
        else
          fR h14 [12] o 80 fun v19 =>
          aI h14 22 v19 x6 fun v20 =>
          jn (fun (x21 : Int32) =>
            fR h14 [12] o 80 fun v22 =>
            aI h14 22 v22 x6 fun v23 =>
            jn (fun (x24 : Int32) =>
              j84 (x3 + 1) (x4 + x21) (x5 + x24)) fun j81 =>
            if v23 = (2 : Int32) then
              j81 (1 : Int32)
            else
              j81 (0 : Int32)) fun j61 =>
          if v20 ≤ 0 then
            j61 (0 : Int32)
          else
            j61 (1 : Int32)) lpN (0 : Int32) (0 : Int32) (0 : Int32) (0 : Int32) h1
set_option maxRecDepth 100000 in
set_option maxHeartbeats 4000000 in
theorem c_X12_nobody (l : Launch) (D : DT) (o : Option Nat) (a1 : Int32) (h : AH) (r : Int32 × AH) (hf : f_X12_nobody o a1 h = some r) : CM l D yX12_nobody cX12_nobody 6 (some .int) 5 106 0 0 [.inr (.inr o), .inl a1] h (some (.int r.1)) r.2 := by
  refine CM.of (by decide) (Nat.le_of_ble_eq_true rfl) (fun X hl C hD hX hnm E => ?_)
  subst hl
  subst hD
  have C : CX X RX12 cX12_nobody 6 := C
  show WW X h 0 0 0 [some (rB (xD X).1 o), some (.int a1), none, none, none, none] []
  unfold f_X12_nobody at hf
  refine s_iload_n C dX12_nobody_0 rfl ?_
  refine s_iconst C dX12_nobody_1 (v := (0 : Int32)) (by decide) ?_
  refine s_iconst C dX12_nobody_2 (v := (3 : Int32)) (by decide) ?_
  refine s_callS (rvf := fun x => some (.int x)) (st := []) (fr := 0) (lo := 0) (mc := 0) (ms := 0) C wc_X12_in wml_X12_195 wst_X12_in dX12_nobody_3 (As := [.inl a1, .inl (0 : Int32), .inl (3 : Int32)]) rfl hf (fun x h' hF => c_X12_in _ _ _ _ _ _ (x, h') hF) rfl (Nat.le_of_ble_eq_true rfl) (room_ok hX (Nat.le_of_ble_eq_true rfl) (Nat.le_of_ble_eq_true rfl)) (cell_ok hX (Nat.le_of_ble_eq_true rfl) (Nat.le_of_ble_eq_true rfl)) (fun v2 h1 hf => ?_)
  refine s_if_ne (tgt := 11) C dX12_nobody_6 (by decide) hf (fun hf => ?_) (fun hf => ?_)
  · refine s_iconst C dX12_nobody_11 (v := (0 : Int32)) (by decide) ?_
    refine s_istore_n C dX12_nobody_12 (by decide) (nc_i rfl) (lv' := [some (rB (xD X).1 o), some (.int a1), some (.int (0 : Int32)), none, none, none]) rfl ?_
    refine s_iconst C dX12_nobody_13 (v := (0 : Int32)) (by decide) ?_
    refine s_istore_n C dX12_nobody_14 (by decide) (nc_i rfl) (lv' := [some (rB (xD X).1 o), some (.int a1), some (.int (0 : Int32)), some (.int (0 : Int32)), none, none]) rfl ?_
    refine s_iconst C dX12_nobody_15 (v := (0 : Int32)) (by decide) ?_
    refine s_istore C dX12_nobody_16 (by decide) (nc_i rfl) (lv' := [some (rB (xD X).1 o), some (.int a1), some (.int (0 : Int32)), some (.int (0 : Int32)), some (.int (0 : Int32)), none]) rfl ?_
    refine s_iconst C dX12_nobody_18 (v := (0 : Int32)) (by decide) ?_
    refine s_istore C dX12_nobody_19 (by decide) (nc_i rfl) (lv' := [some (rB (xD X).1 o), some (.int a1), some (.int (0 : Int32)), some (.int (0 : Int32)), some (.int (0 : Int32)), some (.int (0 : Int32))]) rfl ?_
    refine s_lp5 hf (fun G21 z21 q21 hf => ?_)
    have k21 : ∀ (n : Nat) (x3 : Int32) (x4 : Int32) (x5 : Int32) (x6 : Int32) (h7 : AH), G21 n x3 x4 x5 x6 h7 = some r → WW X h7 0 0 21 [some (rB (xD X).1 o), some (.int a1), some (.int x3), some (.int x4), some (.int x5), some (.int x6)] [] := by
      intro n
      induction n with
      | zero =>
        intro x3 x4 x5 x6 h7 hf
        rw [z21] at hf
        cases hf
      | succ n ih21 =>
        intro x3 x4 x5 x6 h7 hf
        have hf := (q21 n x3 x4 x5 x6 h7).symm.trans hf
        refine s_iload C dX12_nobody_21 rfl ?_
        refine s_aload_n C dX12_nobody_23 rfl ?_
        refine s_getI C fl_X12_214 dX12_nobody_24 hf (fun v8 hf => ?_)
        refine s_icmp_ge (tgt := 90) C dX12_nobody_27 (by decide) hf (fun hf => ?_) (fun hf => ?_)
        · refine s_iload_n C dX12_nobody_90 rfl ?_
          refine s_iconst C dX12_nobody_91 (v := (3 : Int32)) (by decide) ?_
          refine s_icmp_ge (tgt := 115) C dX12_nobody_92 (by decide) hf (fun hf => ?_) (fun hf => ?_)
          · refine s_iload_n C dX12_nobody_115 rfl ?_
            refine s_bipush C dX12_nobody_116 (v := (30 : Int32)) (by decide) ?_
            refine s_jn hf (fun j134 e134 hf => ?_)
            have k134 : ∀ (x9 : Int32) (h10 : AH), j134 x9 h10 = some r → WW X h10 0 0 134 [none, none, none, none, none, none] [.int x9] := by
              intro x9 h10 hf
              rw [e134] at hf
              exact s_ireturn C E dX12_nobody_134 hf (Nat.le_of_ble_eq_true rfl) (Nat.le_of_ble_eq_true rfl)
            refine s_icmp_le (tgt := 126) C dX12_nobody_118 (by decide) hf (fun hf => ?_) (fun hf => ?_)
            · refine s_aload_n C dX12_nobody_126 rfl ?_
              refine s_iload_n C dX12_nobody_127 rfl ?_
              refine s_iload_n C dX12_nobody_128 rfl ?_
              refine s_iload C dX12_nobody_129 rfl ?_
              refine s_callV (rvf := fun x => some (.int x)) (st := []) (fr := 1) (lo := 22) (mc := 0) (ms := 0) C [12] wc_X12_boundOf wml_X12_580 wim_X12_boundOf wsl_12_X12_boundOf dX12_nobody_131 (As := [.inl x3, .inl x4, .inl x5]) rfl hf (fun x h' hF => c_X12_boundOf _ _ _ _ _ _ _ (x, h') hF) rfl (Nat.le_of_ble_eq_true rfl) (room_ok hX (Nat.le_of_ble_eq_true rfl) (Nat.le_of_ble_eq_true rfl)) (cell_ok hX (Nat.le_of_ble_eq_true rfl) (Nat.le_of_ble_eq_true rfl)) (fun v12 h11 hf => ?_)
              refine s_weak (lv' := [none, none, none, none, none, none]) trivial ?_
              exact k134 _ _ hf
            · refine s_bipush C dX12_nobody_121 (v := (-4 : Int32)) (by decide) ?_
              refine s_goto (tgt := 134) C dX12_nobody_123 (by decide) ?_
              refine s_weak (lv' := [none, none, none, none, none, none]) trivial ?_
              exact k134 _ _ hf
          · refine s_iload_n C dX12_nobody_95 rfl ?_
            refine s_jn hf (fun j114 e114 hf => ?_)
            have k114 : ∀ (x13 : Int32), j114 x13 = some r → WW X h7 0 0 114 [none, none, none, none, none, none] [.int x13] := by
              intro x13 hf
              rw [e114] at hf
              exact s_ireturn C E dX12_nobody_114 hf (Nat.le_of_ble_eq_true rfl) (Nat.le_of_ble_eq_true rfl)
            refine s_if_ne (tgt := 103) C dX12_nobody_96 (by decide) hf (fun hf => ?_) (fun hf => ?_)
            · refine s_iload_n C dX12_nobody_103 rfl ?_
              refine s_iconst C dX12_nobody_104 (v := (1 : Int32)) (by decide) ?_
              refine s_icmp_ne (tgt := 112) C dX12_nobody_105 (by decide) hf (fun hf => ?_) (fun hf => ?_)
              · refine s_iload C dX12_nobody_112 rfl ?_
                refine s_weak (lv' := [none, none, none, none, none, none]) trivial ?_
                exact k114 _ hf
              · refine s_iload_n C dX12_nobody_108 rfl ?_
                refine s_goto (tgt := 114) C dX12_nobody_109 (by decide) ?_
                refine s_weak (lv' := [none, none, none, none, none, none]) trivial ?_
                exact k114 _ hf
            · refine s_iload_n C dX12_nobody_99 rfl ?_
              refine s_goto (tgt := 114) C dX12_nobody_100 (by decide) ?_
              refine s_weak (lv' := [none, none, none, none, none, none]) trivial ?_
              exact k114 _ hf
        · refine s_aload_n C dX12_nobody_30 rfl ?_
          refine s_iload C dX12_nobody_31 rfl ?_
          refine s_callV (rvf := fun x => some (.int x)) (st := []) (fr := 4) (lo := 85) (mc := 0) (ms := 0) C [12] wc_X12_isUnfound wml_X12_570 wim_X12_isUnfound wsl_12_X12_isUnfound dX12_nobody_33 (As := [.inl x6]) rfl hf (fun x h' hF => c_X12_isUnfound _ _ _ _ _ (x, h') hF) rfl (Nat.le_of_ble_eq_true rfl) (room_ok hX (Nat.le_of_ble_eq_true rfl) (Nat.le_of_ble_eq_true rfl)) (cell_ok hX (Nat.le_of_ble_eq_true rfl) (Nat.le_of_ble_eq_true rfl)) (fun v15 h14 hf => ?_)
          refine s_jn hf (fun j84 e84 hf => ?_)
          have k84 : ∀ (x16 : Int32) (x17 : Int32) (x18 : Int32), j84 x16 x17 x18 = some r → WW X h14 0 0 84 [some (rB (xD X).1 o), some (.int a1), some (.int x16), some (.int x17), some (.int x18), some (.int x6)] [] := by
            intro x16 x17 x18 hf
            rw [e84] at hf
            refine s_iinc C dX12_nobody_84 (v := (x6 + 1)) rfl rfl (by decide) (nc_i rfl) (lv' := [some (rB (xD X).1 o), some (.int a1), some (.int x16), some (.int x17), some (.int x18), some (.int (x6 + 1))]) rfl ?_
            refine s_goto (tgt := 21) C dX12_nobody_87 (by decide) ?_
            exact ih21 _ _ _ _ _ hf
          refine s_if_ne (tgt := 42) C dX12_nobody_36 (by decide) hf (fun hf => ?_) (fun hf => ?_)
          · refine s_iinc C dX12_nobody_42 (v := (x3 + 1)) rfl rfl (by decide) (nc_i rfl) (lv' := [some (rB (xD X).1 o), some (.int a1), some (.int (x3 + 1)), some (.int x4), some (.int x5), some (.int x6)]) rfl ?_
            refine s_iload_n C dX12_nobody_45 rfl ?_
            refine s_aload_n C dX12_nobody_46 rfl ?_
            refine s_getR C fl_X12_164 dX12_nobody_47 hf (fun v19 hf => ?_)
            refine s_iload C dX12_nobody_50 rfl ?_
            refine s_baload C dX12_nobody_52 hf (fun v20 hf => ?_)
            refine s_jn hf (fun j61 e61 hf => ?_)
            have k61 : ∀ (x21 : Int32), j61 x21 = some r → WW X h14 0 0 61 [some (rB (xD X).1 o), some (.int a1), some (.int (x3 + 1)), none, some (.int x5), some (.int x6)] [.int x21, .int x4] := by
              intro x21 hf
              rw [e61] at hf
              refine s_iadd C dX12_nobody_61 ?_
              refine s_istore_n C dX12_nobody_62 (by decide) (nc_i rfl) (lv' := [some (rB (xD X).1 o), some (.int a1), some (.int (x3 + 1)), some (.int (x4 + x21)), some (.int x5), some (.int x6)]) rfl ?_
              refine s_iload C dX12_nobody_63 rfl ?_
              refine s_aload_n C dX12_nobody_65 rfl ?_
              refine s_getR C fl_X12_164 dX12_nobody_66 hf (fun v22 hf => ?_)
              refine s_iload C dX12_nobody_69 rfl ?_
              refine s_baload C dX12_nobody_71 hf (fun v23 hf => ?_)
              refine s_iconst C dX12_nobody_72 (v := (2 : Int32)) (by decide) ?_
              refine s_jn hf (fun j81 e81 hf => ?_)
              have k81 : ∀ (x24 : Int32), j81 x24 = some r → WW X h14 0 0 81 [some (rB (xD X).1 o), some (.int a1), some (.int (x3 + 1)), some (.int (x4 + x21)), none, some (.int x6)] [.int x24, .int x5] := by
                intro x24 hf
                rw [e81] at hf
                refine s_iadd C dX12_nobody_81 ?_
                refine s_istore C dX12_nobody_82 (by decide) (nc_i rfl) (lv' := [some (rB (xD X).1 o), some (.int a1), some (.int (x3 + 1)), some (.int (x4 + x21)), some (.int (x5 + x24)), some (.int x6)]) rfl ?_
                exact k84 _ _ _ hf
              refine s_icmp_ne (tgt := 80) C dX12_nobody_73 (by decide) hf (fun hf => ?_) (fun hf => ?_)
              · refine s_iconst C dX12_nobody_80 (v := (0 : Int32)) (by decide) ?_
                refine s_weak (lv' := [some (rB (xD X).1 o), some (.int a1), some (.int (x3 + 1)), some (.int (x4 + x21)), none, some (.int x6)]) ⟨rfl, ⟨rfl, ⟨rfl, ⟨rfl, ⟨rfl, trivial⟩⟩⟩⟩⟩ ?_
                exact k81 _ hf
              · refine s_iconst C dX12_nobody_76 (v := (1 : Int32)) (by decide) ?_
                refine s_goto (tgt := 81) C dX12_nobody_77 (by decide) ?_
                refine s_weak (lv' := [some (rB (xD X).1 o), some (.int a1), some (.int (x3 + 1)), some (.int (x4 + x21)), none, some (.int x6)]) ⟨rfl, ⟨rfl, ⟨rfl, ⟨rfl, ⟨rfl, trivial⟩⟩⟩⟩⟩ ?_
                exact k81 _ hf
            refine s_if_le (tgt := 60) C dX12_nobody_53 (by decide) hf (fun hf => ?_) (fun hf => ?_)
            · refine s_iconst C dX12_nobody_60 (v := (0 : Int32)) (by decide) ?_
              refine s_weak (lv' := [some (rB (xD X).1 o), some (.int a1), some (.int (x3 + 1)), none, some (.int x5), some (.int x6)]) ⟨rfl, ⟨rfl, ⟨rfl, ⟨rfl, ⟨rfl, trivial⟩⟩⟩⟩⟩ ?_
              exact k61 _ hf
            · refine s_iconst C dX12_nobody_56 (v := (1 : Int32)) (by decide) ?_
              refine s_goto (tgt := 61) C dX12_nobody_57 (by decide) ?_
              refine s_weak (lv' := [some (rB (xD X).1 o), some (.int a1), some (.int (x3 + 1)), none, some (.int x5), some (.int x6)]) ⟨rfl, ⟨rfl, ⟨rfl, ⟨rfl, ⟨rfl, trivial⟩⟩⟩⟩⟩ ?_
              exact k61 _ hf
          · refine s_goto (tgt := 84) C dX12_nobody_39 (by decide) ?_
            exact k84 _ _ _ hf
    exact k21 lpN _ _ _ _ _ hf
  · refine s_iconst C dX12_nobody_9 (v := (-1 : Int32)) (by decide) ?_
    exact s_ireturn C E dX12_nobody_10 hf (Nat.le_of_ble_eq_true rfl) (Nat.le_of_ble_eq_true rfl)
/-- HillBoxesModel.ofBody(II)I -/
noncomputable def f_X12_ofBody (o : Option Nat) (a1 : Int32) (a2 : Int32) (h : AH) : Option (Int32 × AH) :=
  rO h [12] o <| cl (f_X12_isBody o a1 h) fun v2 h1 =>
  if v2 = 0 then
    some ((-2000000000 : Int32), h1)
  else
    if a2 = 0 then
      fR h1 [12] o 4 fun v41 =>
      aI h1 20 v41 a1 fun v42 =>
      some (v42, h1)
    else
      fR h1 [12] o 4 fun v3 =>
      aI h1 20 v3 a1 fun v4 =>
      if v4 = (7 : Int32) then
        jn (fun (x31 : Int32) (h32 : AH) =>
          some (x31, h32)) fun j90 =>
        if a2 = (1 : Int32) then
          fR h1 [12] o 5 fun v39 =>
          aI h1 20 v39 a1 fun v40 =>
          j90 v40 h1
        else
          if a2 = (2 : Int32) then
            fR h1 [12] o 6 fun v37 =>
            aI h1 20 v37 a1 fun v38 =>
            j90 v38 h1
          else
            if a2 = (3 : Int32) then
              fR h1 [12] o 7 fun v35 =>
              aI h1 20 v35 a1 fun v36 =>
              j90 v36 h1
            else
              if a2 = (4 : Int32) then
                rO h1 [12] o <| cl (f_X12_ownOf o a1 h1) fun v34 h33 =>
                j90 v34 h33
              else
                j90 (-2000000000 : Int32) h1
      else
        fR h1 [12] o 4 fun v5 =>
        aI h1 20 v5 a1 fun v6 =>
        if v6 = (6 : Int32) then
          jn (fun (x23 : Int32) (h24 : AH) =>
            some (x23, h24)) fun j137 =>
          if a2 = (1 : Int32) then
            fR h1 [12] o 59 fun v27 =>
            aI h1 20 v27 a1 fun v28 =>
            rO h1 [12] o <| cl (f_X12_whereOf o a1 v28 h1) fun v30 h29 =>
            j137 v30 h29
          else
            if a2 = (2 : Int32) then
              fR h1 [12] o 59 fun v25 =>
              aI h1 20 v25 a1 fun v26 =>
              j137 v26 h1
            else
              j137 (-2000000000 : Int32) h1
        else
          rO h1 [12] o <| cl (f_X12_isBox o a1 h1) fun v8 h7 =>
          if v8 = 0 then
            some ((-2000000000 : Int32), h7)
          else
            if a2 = 1 then
              fR h7 [12] o 8 fun v9 =>
              aI h7 20 v9 a1 fun v10 =>
              some (v10, h7)
            else
            if a2 = 2 then
              rO h7 [12] o <| cl (f_X12_cellNow o a1 h7) fun v12 h11 =>
              some (v12, h11)
            else
            if a2 = 3 then
              fR h7 [12] o 6 fun v13 =>
              aI h7 20 v13 a1 fun v14 =>
              some (v14, h7)
            else
            if a2 = 4 then
              fR h7 [12] o 7 fun v15 =>
              aI h7 20 v15 a1 fun v16 =>
              some (v16, h7)
            else
            if a2 = 5 then
              rO h7 [12] o <| cl (f_X12_liesNow o a1 h7) fun v18 h17 =>
              some (v18, h17)
            else
            if a2 = 6 then
              rO h7 [12] o <| cl (f_X12_findsOf o a1 h7) fun v20 h19 =>
              some (v20, h19)
            else
            if a2 = 7 then
              rO h7 [12] o <| cl (f_X12_missesOf o a1 h7) fun v22 h21 =>
              some (v22, h21)
            else
              some ((-2000000000 : Int32), h7)
set_option maxRecDepth 100000 in
set_option maxHeartbeats 4000000 in
theorem c_X12_ofBody (l : Launch) (D : DT) (o : Option Nat) (a1 : Int32) (a2 : Int32) (h : AH) (r : Int32 × AH) (hf : f_X12_ofBody o a1 a2 h = some r) : CM l D yX12_ofBody cX12_ofBody 3 (some .int) 5 108 0 0 [.inr (.inr o), .inl a1, .inl a2] h (some (.int r.1)) r.2 := by
  refine CM.of (by decide) (Nat.le_of_ble_eq_true rfl) (fun X hl C hD hX hnm E => ?_)
  subst hl
  subst hD
  have C : CX X RX12 cX12_ofBody 3 := C
  show WW X h 0 0 0 [some (rB (xD X).1 o), some (.int a1), some (.int a2)] []
  unfold f_X12_ofBody at hf
  refine s_aload_n C dX12_ofBody_0 rfl ?_
  refine s_iload_n C dX12_ofBody_1 rfl ?_
  refine s_callV (rvf := fun x => some (.int x)) (st := []) (fr := 1) (lo := 22) (mc := 0) (ms := 0) C [12] wc_X12_isBody wml_X12_217 wim_X12_isBody wsl_12_X12_isBody dX12_ofBody_2 (As := [.inl a1]) rfl hf (fun x h' hF => c_X12_isBody _ _ _ _ _ (x, h') hF) rfl (Nat.le_of_ble_eq_true rfl) (room_ok hX (Nat.le_of_ble_eq_true rfl) (Nat.le_of_ble_eq_true rfl)) (cell_ok hX (Nat.le_of_ble_eq_true rfl) (Nat.le_of_ble_eq_true rfl)) (fun v2 h1 hf => ?_)
  refine s_if_ne (tgt := 11) C dX12_ofBody_5 (by decide) hf (fun hf => ?_) (fun hf => ?_)
  · refine s_iload_n C dX12_ofBody_11 rfl ?_
    refine s_if_ne (tgt := 22) C dX12_ofBody_12 (by decide) hf (fun hf => ?_) (fun hf => ?_)
    · refine s_aload_n C dX12_ofBody_22 rfl ?_
      refine s_getR C fl_X12_13 dX12_ofBody_23 hf (fun v3 hf => ?_)
      refine s_iload_n C dX12_ofBody_26 rfl ?_
      refine s_iaload C dX12_ofBody_27 hf (fun v4 hf => ?_)
      refine s_bipush C dX12_ofBody_28 (v := (7 : Int32)) (by decide) ?_
      refine s_icmp_ne (tgt := 91) C dX12_ofBody_30 (by decide) hf (fun hf => ?_) (fun hf => ?_)
      · refine s_aload_n C dX12_ofBody_91 rfl ?_
        refine s_getR C fl_X12_13 dX12_ofBody_92 hf (fun v5 hf => ?_)
        refine s_iload_n C dX12_ofBody_95 rfl ?_
        refine s_iaload C dX12_ofBody_96 hf (fun v6 hf => ?_)
        refine s_bipush C dX12_ofBody_97 (v := (6 : Int32)) (by decide) ?_
        refine s_icmp_ne (tgt := 138) C dX12_ofBody_99 (by decide) hf (fun hf => ?_) (fun hf => ?_)
        · refine s_aload_n C dX12_ofBody_138 rfl ?_
          refine s_iload_n C dX12_ofBody_139 rfl ?_
          refine s_callV (rvf := fun x => some (.int x)) (st := []) (fr := 2) (lo := 43) (mc := 0) (ms := 0) C [12] wc_X12_isBox wml_X12_224 wim_X12_isBox wsl_12_X12_isBox dX12_ofBody_140 (As := [.inl a1]) rfl hf (fun x h' hF => c_X12_isBox _ _ _ _ _ (x, h') hF) rfl (Nat.le_of_ble_eq_true rfl) (room_ok hX (Nat.le_of_ble_eq_true rfl) (Nat.le_of_ble_eq_true rfl)) (cell_ok hX (Nat.le_of_ble_eq_true rfl) (Nat.le_of_ble_eq_true rfl)) (fun v8 h7 hf => ?_)
          refine s_if_ne (tgt := 149) C dX12_ofBody_143 (by decide) hf (fun hf => ?_) (fun hf => ?_)
          · refine s_iload_n C dX12_ofBody_149 rfl ?_
            refine s_ite hf (fun e hf => ?_) (fun n0 hf => ?_)
            · refine s_tsw1 (tgt := 192) C dX12_ofBody_150 e (by decide) (by decide) rfl (by decide) ?_
              refine s_aload_n C dX12_ofBody_192 rfl ?_
              refine s_getR C fl_X12_25 dX12_ofBody_193 hf (fun v9 hf => ?_)
              refine s_iload_n C dX12_ofBody_196 rfl ?_
              refine s_iaload C dX12_ofBody_197 hf (fun v10 hf => ?_)
              exact s_ireturn C E dX12_ofBody_198 hf (Nat.le_of_ble_eq_true rfl) (Nat.le_of_ble_eq_true rfl)
            refine s_ite hf (fun e hf => ?_) (fun n1 hf => ?_)
            · refine s_tsw1 (tgt := 199) C dX12_ofBody_150 e (by decide) (by decide) rfl (by decide) ?_
              refine s_aload_n C dX12_ofBody_199 rfl ?_
              refine s_iload_n C dX12_ofBody_200 rfl ?_
              refine s_callV (rvf := fun x => some (.int x)) (st := []) (fr := 0) (lo := 0) (mc := 0) (ms := 0) C [12] wc_X12_cellNow wml_X12_239 wim_X12_cellNow wsl_12_X12_cellNow dX12_ofBody_201 (As := [.inl a1]) rfl hf (fun x h' hF => c_X12_cellNow _ _ _ _ _ (x, h') hF) rfl (Nat.le_of_ble_eq_true rfl) (room_ok hX (Nat.le_of_ble_eq_true rfl) (Nat.le_of_ble_eq_true rfl)) (cell_ok hX (Nat.le_of_ble_eq_true rfl) (Nat.le_of_ble_eq_true rfl)) (fun v12 h11 hf => ?_)
              exact s_ireturn C E dX12_ofBody_204 hf (Nat.le_of_ble_eq_true rfl) (Nat.le_of_ble_eq_true rfl)
            refine s_ite hf (fun e hf => ?_) (fun n2 hf => ?_)
            · refine s_tsw1 (tgt := 205) C dX12_ofBody_150 e (by decide) (by decide) rfl (by decide) ?_
              refine s_aload_n C dX12_ofBody_205 rfl ?_
              refine s_getR C fl_X12_19 dX12_ofBody_206 hf (fun v13 hf => ?_)
              refine s_iload_n C dX12_ofBody_209 rfl ?_
              refine s_iaload C dX12_ofBody_210 hf (fun v14 hf => ?_)
              exact s_ireturn C E dX12_ofBody_211 hf (Nat.le_of_ble_eq_true rfl) (Nat.le_of_ble_eq_true rfl)
            refine s_ite hf (fun e hf => ?_) (fun n3 hf => ?_)
            · refine s_tsw1 (tgt := 212) C dX12_ofBody_150 e (by decide) (by decide) rfl (by decide) ?_
              refine s_aload_n C dX12_ofBody_212 rfl ?_
              refine s_getR C fl_X12_22 dX12_ofBody_213 hf (fun v15 hf => ?_)
              refine s_iload_n C dX12_ofBody_216 rfl ?_
              refine s_iaload C dX12_ofBody_217 hf (fun v16 hf => ?_)
              exact s_ireturn C E dX12_ofBody_218 hf (Nat.le_of_ble_eq_true rfl) (Nat.le_of_ble_eq_true rfl)
            refine s_ite hf (fun e hf => ?_) (fun n4 hf => ?_)
            · refine s_tsw1 (tgt := 219) C dX12_ofBody_150 e (by decide) (by decide) rfl (by decide) ?_
              refine s_aload_n C dX12_ofBody_219 rfl ?_
              refine s_iload_n C dX12_ofBody_220 rfl ?_
              refine s_callV (rvf := fun x => some (.int x)) (st := []) (fr := 1) (lo := 22) (mc := 0) (ms := 0) C [12] wc_X12_liesNow wml_X12_242 wim_X12_liesNow wsl_12_X12_liesNow dX12_ofBody_221 (As := [.inl a1]) rfl hf (fun x h' hF => c_X12_liesNow _ _ _ _ _ (x, h') hF) rfl (Nat.le_of_ble_eq_true rfl) (room_ok hX (Nat.le_of_ble_eq_true rfl) (Nat.le_of_ble_eq_true rfl)) (cell_ok hX (Nat.le_of_ble_eq_true rfl) (Nat.le_of_ble_eq_true rfl)) (fun v18 h17 hf => ?_)
              exact s_ireturn C E dX12_ofBody_224 hf (Nat.le_of_ble_eq_true rfl) (Nat.le_of_ble_eq_true rfl)
            refine s_ite hf (fun e hf => ?_) (fun n5 hf => ?_)
            · refine s_tsw1 (tgt := 225) C dX12_ofBody_150 e (by decide) (by decide) rfl (by decide) ?_
              refine s_aload_n C dX12_ofBody_225 rfl ?_
              refine s_iload_n C dX12_ofBody_226 rfl ?_
              refine s_callV (rvf := fun x => some (.int x)) (st := []) (fr := 0) (lo := 0) (mc := 0) (ms := 0) C [12] wc_X12_findsOf wml_X12_264 wim_X12_findsOf wsl_12_X12_findsOf dX12_ofBody_227 (As := [.inl a1]) rfl hf (fun x h' hF => c_X12_findsOf _ _ _ _ _ (x, h') hF) rfl (Nat.le_of_ble_eq_true rfl) (room_ok hX (Nat.le_of_ble_eq_true rfl) (Nat.le_of_ble_eq_true rfl)) (cell_ok hX (Nat.le_of_ble_eq_true rfl) (Nat.le_of_ble_eq_true rfl)) (fun v20 h19 hf => ?_)
              exact s_ireturn C E dX12_ofBody_230 hf (Nat.le_of_ble_eq_true rfl) (Nat.le_of_ble_eq_true rfl)
            refine s_ite hf (fun e hf => ?_) (fun n6 hf => ?_)
            · refine s_tsw1 (tgt := 231) C dX12_ofBody_150 e (by decide) (by decide) rfl (by decide) ?_
              refine s_aload_n C dX12_ofBody_231 rfl ?_
              refine s_iload_n C dX12_ofBody_232 rfl ?_
              refine s_callV (rvf := fun x => some (.int x)) (st := []) (fr := 2) (lo := 45) (mc := 0) (ms := 0) C [12] wc_X12_missesOf wml_X12_267 wim_X12_missesOf wsl_12_X12_missesOf dX12_ofBody_233 (As := [.inl a1]) rfl hf (fun x h' hF => c_X12_missesOf _ _ _ _ _ (x, h') hF) rfl (Nat.le_of_ble_eq_true rfl) (room_ok hX (Nat.le_of_ble_eq_true rfl) (Nat.le_of_ble_eq_true rfl)) (cell_ok hX (Nat.le_of_ble_eq_true rfl) (Nat.le_of_ble_eq_true rfl)) (fun v22 h21 hf => ?_)
              exact s_ireturn C E dX12_ofBody_236 hf (Nat.le_of_ble_eq_true rfl) (Nat.le_of_ble_eq_true rfl)
            refine s_tswD (tgt := 237) C dX12_ofBody_150 (by have n0x := n32 (i := 1) n0 rfl; have n1x := n32 (i := 2) n1 rfl; have n2x := n32 (i := 3) n2 rfl; have n3x := n32 (i := 4) n3 rfl; have n4x := n32 (i := 5) n4 rfl; have n5x := n32 (i := 6) n5 rfl; have n6x := n32 (i := 7) n6 rfl; omega) (by decide) ?_
            refine s_ldc C dX12_ofBody_237 wk_X12_210 ?_
            exact s_ireturn C E dX12_ofBody_239 hf (Nat.le_of_ble_eq_true rfl) (Nat.le_of_ble_eq_true rfl)
          · refine s_ldc C dX12_ofBody_146 wk_X12_210 ?_
            exact s_ireturn C E dX12_ofBody_148 hf (Nat.le_of_ble_eq_true rfl) (Nat.le_of_ble_eq_true rfl)
        · refine s_iload_n C dX12_ofBody_102 rfl ?_
          refine s_iconst C dX12_ofBody_103 (v := (1 : Int32)) (by decide) ?_
          refine s_jn hf (fun j137 e137 hf => ?_)
          have k137 : ∀ (x23 : Int32) (h24 : AH), j137 x23 h24 = some r → WW X h24 0 0 137 [none, none, none] [.int x23] := by
            intro x23 h24 hf
            rw [e137] at hf
            exact s_ireturn C E dX12_ofBody_137 hf (Nat.le_of_ble_eq_true rfl) (Nat.le_of_ble_eq_true rfl)
          refine s_icmp_ne (tgt := 121) C dX12_ofBody_104 (by decide) hf (fun hf => ?_) (fun hf => ?_)
          · refine s_iload_n C dX12_ofBody_121 rfl ?_
            refine s_iconst C dX12_ofBody_122 (v := (2 : Int32)) (by decide) ?_
            refine s_icmp_ne (tgt := 135) C dX12_ofBody_123 (by decide) hf (fun hf => ?_) (fun hf => ?_)
            · refine s_ldc C dX12_ofBody_135 wk_X12_210 ?_
              refine s_weak (lv' := [none, none, none]) trivial ?_
              exact k137 _ _ hf
            · refine s_aload_n C dX12_ofBody_126 rfl ?_
              refine s_getR C fl_X12_121 dX12_ofBody_127 hf (fun v25 hf => ?_)
              refine s_iload_n C dX12_ofBody_130 rfl ?_
              refine s_iaload C dX12_ofBody_131 hf (fun v26 hf => ?_)
              refine s_goto (tgt := 137) C dX12_ofBody_132 (by decide) ?_
              refine s_weak (lv' := [none, none, none]) trivial ?_
              exact k137 _ _ hf
          · refine s_aload_n C dX12_ofBody_107 rfl ?_
            refine s_iload_n C dX12_ofBody_108 rfl ?_
            refine s_aload_n C dX12_ofBody_109 rfl ?_
            refine s_getR C fl_X12_121 dX12_ofBody_110 hf (fun v27 hf => ?_)
            refine s_iload_n C dX12_ofBody_113 rfl ?_
            refine s_iaload C dX12_ofBody_114 hf (fun v28 hf => ?_)
            refine s_callV (rvf := fun x => some (.int x)) (st := []) (fr := 0) (lo := 0) (mc := 0) (ms := 0) C [12] wc_X12_whereOf wml_X12_261 wim_X12_whereOf wsl_12_X12_whereOf dX12_ofBody_115 (As := [.inl a1, .inl v28]) rfl hf (fun x h' hF => c_X12_whereOf _ _ _ _ _ _ (x, h') hF) rfl (Nat.le_of_ble_eq_true rfl) (room_ok hX (Nat.le_of_ble_eq_true rfl) (Nat.le_of_ble_eq_true rfl)) (cell_ok hX (Nat.le_of_ble_eq_true rfl) (Nat.le_of_ble_eq_true rfl)) (fun v30 h29 hf => ?_)
            refine s_goto (tgt := 137) C dX12_ofBody_118 (by decide) ?_
            refine s_weak (lv' := [none, none, none]) trivial ?_
            exact k137 _ _ hf
      · refine s_iload_n C dX12_ofBody_33 rfl ?_
        refine s_iconst C dX12_ofBody_34 (v := (1 : Int32)) (by decide) ?_
        refine s_jn hf (fun j90 e90 hf => ?_)
        have k90 : ∀ (x31 : Int32) (h32 : AH), j90 x31 h32 = some r → WW X h32 0 0 90 [none, none, none] [.int x31] := by
          intro x31 h32 hf
          rw [e90] at hf
          exact s_ireturn C E dX12_ofBody_90 hf (Nat.le_of_ble_eq_true rfl) (Nat.le_of_ble_eq_true rfl)
        refine s_icmp_ne (tgt := 47) C dX12_ofBody_35 (by decide) hf (fun hf => ?_) (fun hf => ?_)
        · refine s_iload_n C dX12_ofBody_47 rfl ?_
          refine s_iconst C dX12_ofBody_48 (v := (2 : Int32)) (by decide) ?_
          refine s_icmp_ne (tgt := 61) C dX12_ofBody_49 (by decide) hf (fun hf => ?_) (fun hf => ?_)
          · refine s_iload_n C dX12_ofBody_61 rfl ?_
            refine s_iconst C dX12_ofBody_62 (v := (3 : Int32)) (by decide) ?_
            refine s_icmp_ne (tgt := 75) C dX12_ofBody_63 (by decide) hf (fun hf => ?_) (fun hf => ?_)
            · refine s_iload_n C dX12_ofBody_75 rfl ?_
              refine s_iconst C dX12_ofBody_76 (v := (4 : Int32)) (by decide) ?_
              refine s_icmp_ne (tgt := 88) C dX12_ofBody_77 (by decide) hf (fun hf => ?_) (fun hf => ?_)
              · refine s_ldc C dX12_ofBody_88 wk_X12_210 ?_
                refine s_weak (lv' := [none, none, none]) trivial ?_
                exact k90 _ _ hf
              · refine s_aload_n C dX12_ofBody_80 rfl ?_
                refine s_iload_n C dX12_ofBody_81 rfl ?_
                refine s_callV (rvf := fun x => some (.int x)) (st := []) (fr := 4) (lo := 85) (mc := 0) (ms := 0) C [12] wc_X12_ownOf wml_X12_258 wim_X12_ownOf wsl_12_X12_ownOf dX12_ofBody_82 (As := [.inl a1]) rfl hf (fun x h' hF => c_X12_ownOf _ _ _ _ _ (x, h') hF) rfl (Nat.le_of_ble_eq_true rfl) (room_ok hX (Nat.le_of_ble_eq_true rfl) (Nat.le_of_ble_eq_true rfl)) (cell_ok hX (Nat.le_of_ble_eq_true rfl) (Nat.le_of_ble_eq_true rfl)) (fun v34 h33 hf => ?_)
                refine s_goto (tgt := 90) C dX12_ofBody_85 (by decide) ?_
                refine s_weak (lv' := [none, none, none]) trivial ?_
                exact k90 _ _ hf
            · refine s_aload_n C dX12_ofBody_66 rfl ?_
              refine s_getR C fl_X12_22 dX12_ofBody_67 hf (fun v35 hf => ?_)
              refine s_iload_n C dX12_ofBody_70 rfl ?_
              refine s_iaload C dX12_ofBody_71 hf (fun v36 hf => ?_)
              refine s_goto (tgt := 90) C dX12_ofBody_72 (by decide) ?_
              refine s_weak (lv' := [none, none, none]) trivial ?_
              exact k90 _ _ hf
          · refine s_aload_n C dX12_ofBody_52 rfl ?_
            refine s_getR C fl_X12_19 dX12_ofBody_53 hf (fun v37 hf => ?_)
            refine s_iload_n C dX12_ofBody_56 rfl ?_
            refine s_iaload C dX12_ofBody_57 hf (fun v38 hf => ?_)
            refine s_goto (tgt := 90) C dX12_ofBody_58 (by decide) ?_
            refine s_weak (lv' := [none, none, none]) trivial ?_
            exact k90 _ _ hf
        · refine s_aload_n C dX12_ofBody_38 rfl ?_
          refine s_getR C fl_X12_16 dX12_ofBody_39 hf (fun v39 hf => ?_)
          refine s_iload_n C dX12_ofBody_42 rfl ?_
          refine s_iaload C dX12_ofBody_43 hf (fun v40 hf => ?_)
          refine s_goto (tgt := 90) C dX12_ofBody_44 (by decide) ?_
          refine s_weak (lv' := [none, none, none]) trivial ?_
          exact k90 _ _ hf
    · refine s_aload_n C dX12_ofBody_15 rfl ?_
      refine s_getR C fl_X12_13 dX12_ofBody_16 hf (fun v41 hf => ?_)
      refine s_iload_n C dX12_ofBody_19 rfl ?_
      refine s_iaload C dX12_ofBody_20 hf (fun v42 hf => ?_)
      exact s_ireturn C E dX12_ofBody_21 hf (Nat.le_of_ble_eq_true rfl) (Nat.le_of_ble_eq_true rfl)
  · refine s_ldc C dX12_ofBody_8 wk_X12_210 ?_
    exact s_ireturn C E dX12_ofBody_10 hf (Nat.le_of_ble_eq_true rfl) (Nat.le_of_ble_eq_true rfl)
/-- HillBoxesModel.placeTold(II)I -/
noncomputable def f_X12_placeTold (o : Option Nat) (a1 : Int32) (a2 : Int32) (h : AH) : Option (Int32 × AH) :=
  fR h [12] o 46 fun v1 =>
  aI h 22 v1 a1 fun v2 =>
  lp (fun _ => none) (fun (L9 : Int32 → Option (Int32 × AH)) (x3 : Int32) =>
    if x3 < 0 then
      some ((-1 : Int32), h)
    else
      fR h [12] o 47 fun v4 =>
      aI h 22 v4 (((8 : Int32) * a1) + x3) fun v5 =>
      if v5 = a2 then
        some ((((8 : Int32) * a1) + x3), h)
      else
        L9 (x3 + (-1))) lpN (v2 - (1 : Int32))
set_option maxRecDepth 100000 in
set_option maxHeartbeats 4000000 in
theorem c_X12_placeTold (l : Launch) (D : DT) (o : Option Nat) (a1 : Int32) (a2 : Int32) (h : AH) (r : Int32 × AH) (hf : f_X12_placeTold o a1 a2 h = some r) : CM l D yX12_placeTold cX12_placeTold 4 (some .int) 0 0 0 0 [.inr (.inr o), .inl a1, .inl a2] h (some (.int r.1)) r.2 := by
  refine CM.of (by decide) (Nat.le_of_ble_eq_true rfl) (fun X hl C hD hX hnm E => ?_)
  subst hl
  subst hD
  have C : CX X RX12 cX12_placeTold 4 := C
  show WW X h 0 0 0 [some (rB (xD X).1 o), some (.int a1), some (.int a2), none] []
  unfold f_X12_placeTold at hf
  refine s_aload_n C dX12_placeTold_0 rfl ?_
  refine s_getR C fl_X12_103 dX12_placeTold_1 hf (fun v1 hf => ?_)
  refine s_iload_n C dX12_placeTold_4 rfl ?_
  refine s_baload C dX12_placeTold_5 hf (fun v2 hf => ?_)
  refine s_iconst C dX12_placeTold_6 (v := (1 : Int32)) (by decide) ?_
  refine s_isub C dX12_placeTold_7 ?_
  refine s_istore_n C dX12_placeTold_8 (by decide) (nc_i rfl) (lv' := [some (rB (xD X).1 o), some (.int a1), some (.int a2), some (.int (v2 - (1 : Int32)))]) rfl ?_
  refine s_lp1 hf (fun G9 z9 q9 hf => ?_)
  have k9 : ∀ (n : Nat) (x3 : Int32), G9 n x3 = some r → WW X h 0 0 9 [some (rB (xD X).1 o), some (.int a1), some (.int a2), some (.int x3)] [] := by
    intro n
    induction n with
    | zero =>
      intro x3 hf
      rw [z9] at hf
      cases hf
    | succ n ih9 =>
      intro x3 hf
      have hf := (q9 n x3).symm.trans hf
      refine s_iload_n C dX12_placeTold_9 rfl ?_
      refine s_if_lt (tgt := 41) C dX12_placeTold_10 (by decide) hf (fun hf => ?_) (fun hf => ?_)
      · refine s_iconst C dX12_placeTold_41 (v := (-1 : Int32)) (by decide) ?_
        exact s_ireturn C E dX12_placeTold_42 hf (Nat.le_of_ble_eq_true rfl) (Nat.le_of_ble_eq_true rfl)
      · refine s_aload_n C dX12_placeTold_13 rfl ?_
        refine s_getR C fl_X12_106 dX12_placeTold_14 hf (fun v4 hf => ?_)
        refine s_bipush C dX12_placeTold_17 (v := (8 : Int32)) (by decide) ?_
        refine s_iload_n C dX12_placeTold_19 rfl ?_
        refine s_imul C dX12_placeTold_20 ?_
        refine s_iload_n C dX12_placeTold_21 rfl ?_
        refine s_iadd C dX12_placeTold_22 ?_
        refine s_baload C dX12_placeTold_23 hf (fun v5 hf => ?_)
        refine s_iload_n C dX12_placeTold_24 rfl ?_
        refine s_icmp_ne (tgt := 35) C dX12_placeTold_25 (by decide) hf (fun hf => ?_) (fun hf => ?_)
        · refine s_iinc C dX12_placeTold_35 (v := (x3 + (-1))) rfl rfl (by decide) (nc_i rfl) (lv' := [some (rB (xD X).1 o), some (.int a1), some (.int a2), some (.int (x3 + (-1)))]) rfl ?_
          refine s_goto (tgt := 9) C dX12_placeTold_38 (by decide) ?_
          exact ih9 _ hf
        · refine s_bipush C dX12_placeTold_28 (v := (8 : Int32)) (by decide) ?_
          refine s_iload_n C dX12_placeTold_30 rfl ?_
          refine s_imul C dX12_placeTold_31 ?_
          refine s_iload_n C dX12_placeTold_32 rfl ?_
          refine s_iadd C dX12_placeTold_33 ?_
          exact s_ireturn C E dX12_placeTold_34 hf (Nat.le_of_ble_eq_true rfl) (Nat.le_of_ble_eq_true rfl)
  exact k9 lpN _ hf
/-- HillBoxesModel.canSolve(I)Z -/
noncomputable def f_X12_canSolve (o : Option Nat) (a1 : Int32) (h : AH) : Option (Int32 × AH) :=
  rO h [12] o <| cl (f_X12_placeTold o a1 (4 : Int32) h) fun v2 h1 =>
  jn (fun (x3 : Int32) (h4 : AH) =>
    rz x3 h4) fun j23 =>
  jn (fun (h5 : AH) =>
    j23 (0 : Int32) h5) fun j22 =>
  if v2 < 0 then
    j22 h1
  else
    rO h1 [12] o <| cl (f_X12_placeTold o a1 (5 : Int32) h1) fun v7 h6 =>
    if v7 < 0 then
      j22 h6
    else
      j23 (1 : Int32) h6
set_option maxRecDepth 100000 in
set_option maxHeartbeats 4000000 in
theorem c_X12_canSolve (l : Launch) (D : DT) (o : Option Nat) (a1 : Int32) (h : AH) (r : Int32 × AH) (hf : f_X12_canSolve o a1 h = some r) : CM l D yX12_canSolve cX12_canSolve 2 (some .boolean) 1 23 0 0 [.inr (.inr o), .inl a1] h (some (.int r.1)) r.2 := by
  refine CM.of (by decide) (Nat.le_of_ble_eq_true rfl) (fun X hl C hD hX hnm E => ?_)
  subst hl
  subst hD
  have C : CX X RX12 cX12_canSolve 2 := C
  show WW X h 0 0 0 [some (rB (xD X).1 o), some (.int a1)] []
  unfold f_X12_canSolve at hf
  refine s_aload_n C dX12_canSolve_0 rfl ?_
  refine s_iload_n C dX12_canSolve_1 rfl ?_
  refine s_iconst C dX12_canSolve_2 (v := (4 : Int32)) (by decide) ?_
  refine s_callV (rvf := fun x => some (.int x)) (st := []) (fr := 0) (lo := 0) (mc := 0) (ms := 0) C [12] wc_X12_placeTold wml_X12_481 wim_X12_placeTold wsl_12_X12_placeTold dX12_canSolve_3 (As := [.inl a1, .inl (4 : Int32)]) rfl hf (fun x h' hF => c_X12_placeTold _ _ _ _ _ _ (x, h') hF) rfl (Nat.le_of_ble_eq_true rfl) (room_ok hX (Nat.le_of_ble_eq_true rfl) (Nat.le_of_ble_eq_true rfl)) (cell_ok hX (Nat.le_of_ble_eq_true rfl) (Nat.le_of_ble_eq_true rfl)) (fun v2 h1 hf => ?_)
  refine s_jn hf (fun j23 e23 hf => ?_)
  have k23 : ∀ (x3 : Int32) (h4 : AH), j23 x3 h4 = some r → WW X h4 0 0 23 [none, none] [.int x3] := by
    intro x3 h4 hf
    rw [e23] at hf
    exact s_zreturn C E dX12_canSolve_23 hf (Nat.le_of_ble_eq_true rfl) (Nat.le_of_ble_eq_true rfl)
  refine s_jn hf (fun j22 e22 hf => ?_)
  have k22 : ∀ (h5 : AH), j22 h5 = some r → WW X h5 0 0 22 [none, none] [] := by
    intro h5 hf
    rw [e22] at hf
    refine s_iconst C dX12_canSolve_22 (v := (0 : Int32)) (by decide) ?_
    exact k23 _ _ hf
  refine s_if_lt (tgt := 22) C dX12_canSolve_6 (by decide) hf (fun hf => ?_) (fun hf => ?_)
  · refine s_weak (lv' := [none, none]) trivial ?_
    exact k22 _ hf
  · refine s_aload_n C dX12_canSolve_9 rfl ?_
    refine s_iload_n C dX12_canSolve_10 rfl ?_
    refine s_iconst C dX12_canSolve_11 (v := (5 : Int32)) (by decide) ?_
    refine s_callV (rvf := fun x => some (.int x)) (st := []) (fr := 0) (lo := 0) (mc := 0) (ms := 0) C [12] wc_X12_placeTold wml_X12_481 wim_X12_placeTold wsl_12_X12_placeTold dX12_canSolve_12 (As := [.inl a1, .inl (5 : Int32)]) rfl hf (fun x h' hF => c_X12_placeTold _ _ _ _ _ _ (x, h') hF) rfl (Nat.le_of_ble_eq_true rfl) (room_ok hX (Nat.le_of_ble_eq_true rfl) (Nat.le_of_ble_eq_true rfl)) (cell_ok hX (Nat.le_of_ble_eq_true rfl) (Nat.le_of_ble_eq_true rfl)) (fun v7 h6 hf => ?_)
    refine s_if_lt (tgt := 22) C dX12_canSolve_15 (by decide) hf (fun hf => ?_) (fun hf => ?_)
    · refine s_weak (lv' := [none, none]) trivial ?_
      exact k22 _ hf
    · refine s_iconst C dX12_canSolve_18 (v := (1 : Int32)) (by decide) ?_
      refine s_goto (tgt := 23) C dX12_canSolve_19 (by decide) ?_
      refine s_weak (lv' := [none, none]) trivial ?_
      exact k23 _ _ hf
/-- HillBoxesModel.isRiddle(I)Z -/
noncomputable def f_X12_isRiddle (o : Option Nat) (a1 : Int32) (h : AH) : Option (Int32 × AH) :=
  rO h [12] o <| cl (f_X12_isBody o a1 h) fun v2 h1 =>
  jn (fun (x3 : Int32) (h4 : AH) =>
    rz x3 h4) fun j26 =>
  jn (fun (h5 : AH) =>
    j26 (0 : Int32) h5) fun j25 =>
  if v2 = 0 then
    j25 h1
  else
    fR h1 [12] o 4 fun v6 =>
    aI h1 20 v6 a1 fun v7 =>
    cl (f_X12_isUnder v7 (2 : Int32) h1) fun v9 h8 =>
    if v9 = 0 then
      j25 h8
    else
      j26 (1 : Int32) h8
set_option maxRecDepth 100000 in
set_option maxHeartbeats 4000000 in
theorem c_X12_isRiddle (l : Launch) (D : DT) (o : Option Nat) (a1 : Int32) (h : AH) (r : Int32 × AH) (hf : f_X12_isRiddle o a1 h = some r) : CM l D yX12_isRiddle cX12_isRiddle 2 (some .boolean) 2 43 0 0 [.inr (.inr o), .inl a1] h (some (.int r.1)) r.2 := by
  refine CM.of (by decide) (Nat.le_of_ble_eq_true rfl) (fun X hl C hD hX hnm E => ?_)
  subst hl
  subst hD
  have C : CX X RX12 cX12_isRiddle 2 := C
  show WW X h 0 0 0 [some (rB (xD X).1 o), some (.int a1)] []
  unfold f_X12_isRiddle at hf
  refine s_aload_n C dX12_isRiddle_0 rfl ?_
  refine s_iload_n C dX12_isRiddle_1 rfl ?_
  refine s_callV (rvf := fun x => some (.int x)) (st := []) (fr := 1) (lo := 22) (mc := 0) (ms := 0) C [12] wc_X12_isBody wml_X12_217 wim_X12_isBody wsl_12_X12_isBody dX12_isRiddle_2 (As := [.inl a1]) rfl hf (fun x h' hF => c_X12_isBody _ _ _ _ _ (x, h') hF) rfl (Nat.le_of_ble_eq_true rfl) (room_ok hX (Nat.le_of_ble_eq_true rfl) (Nat.le_of_ble_eq_true rfl)) (cell_ok hX (Nat.le_of_ble_eq_true rfl) (Nat.le_of_ble_eq_true rfl)) (fun v2 h1 hf => ?_)
  refine s_jn hf (fun j26 e26 hf => ?_)
  have k26 : ∀ (x3 : Int32) (h4 : AH), j26 x3 h4 = some r → WW X h4 0 0 26 [none, none] [.int x3] := by
    intro x3 h4 hf
    rw [e26] at hf
    exact s_zreturn C E dX12_isRiddle_26 hf (Nat.le_of_ble_eq_true rfl) (Nat.le_of_ble_eq_true rfl)
  refine s_jn hf (fun j25 e25 hf => ?_)
  have k25 : ∀ (h5 : AH), j25 h5 = some r → WW X h5 0 0 25 [none, none] [] := by
    intro h5 hf
    rw [e25] at hf
    refine s_iconst C dX12_isRiddle_25 (v := (0 : Int32)) (by decide) ?_
    exact k26 _ _ hf
  refine s_if_eq (tgt := 25) C dX12_isRiddle_5 (by decide) hf (fun hf => ?_) (fun hf => ?_)
  · refine s_weak (lv' := [none, none]) trivial ?_
    exact k25 _ hf
  · refine s_aload_n C dX12_isRiddle_8 rfl ?_
    refine s_getR C fl_X12_13 dX12_isRiddle_9 hf (fun v6 hf => ?_)
    refine s_iload_n C dX12_isRiddle_12 rfl ?_
    refine s_iaload C dX12_isRiddle_13 hf (fun v7 hf => ?_)
    refine s_iconst C dX12_isRiddle_14 (v := (2 : Int32)) (by decide) ?_
    refine s_callS (rvf := fun x => some (.int x)) (st := []) (fr := 1) (lo := 22) (mc := 0) (ms := 0) C wc_X12_isUnder wml_X12_220 wst_X12_isUnder dX12_isRiddle_15 (As := [.inl v7, .inl (2 : Int32)]) rfl hf (fun x h' hF => c_X12_isUnder _ _ _ _ _ (x, h') hF) rfl (Nat.le_of_ble_eq_true rfl) (room_ok hX (Nat.le_of_ble_eq_true rfl) (Nat.le_of_ble_eq_true rfl)) (cell_ok hX (Nat.le_of_ble_eq_true rfl) (Nat.le_of_ble_eq_true rfl)) (fun v9 h8 hf => ?_)
    refine s_if_eq (tgt := 25) C dX12_isRiddle_18 (by decide) hf (fun hf => ?_) (fun hf => ?_)
    · refine s_weak (lv' := [none, none]) trivial ?_
      exact k25 _ hf
    · refine s_iconst C dX12_isRiddle_21 (v := (1 : Int32)) (by decide) ?_
      refine s_goto (tgt := 26) C dX12_isRiddle_22 (by decide) ?_
      refine s_weak (lv' := [none, none]) trivial ?_
      exact k26 _ _ hf
/-- HillBoxesModel.findLetters(I)V -/
noncomputable def f_X12_findLetters (o : Option Nat) (a1 : Int32) (h : AH) : Option (Unit × AH) :=
  pI h [12] o 53 (0 : Int32) fun h1 =>
  lp (fun _ _ => none) (fun (L10 : Int32 → AH → Option (Unit × AH)) (x2 : Int32) (h3 : AH) =>
    fR h3 [12] o 46 fun v4 =>
    aI h3 22 v4 a1 fun v5 =>
    if (((8 : Int32) * a1) + v5) ≤ x2 then
      some ((), h3)
    else
      fR h3 [12] o 48 fun v6 =>
      aI h3 22 v6 x2 fun v7 =>
      jn (fun (h8 : AH) =>
        fR h8 [12] o 47 fun v9 =>
        aI h8 22 v9 x2 fun v10 =>
        jn (fun (h11 : AH) =>
          L10 (x2 + 1) h11) fun j80 =>
        if (3 : Int32) ≤ v10 then
          j80 h8
        else
          fI h8 [12] o 53 fun v12 =>
          fR h8 [12] o 49 fun v13 =>
          aI h8 22 v13 x2 fun v14 =>
          pI h8 [12] o 53 (v12 ||| ((1 : Int32) <<< (v14 &&& 31))) fun h15 =>
          j80 h15) fun j53 =>
      if (6 : Int32) ≤ v7 then
        j53 h3
      else
        fI h3 [12] o 53 fun v16 =>
        fR h3 [12] o 48 fun v17 =>
        aI h3 22 v17 x2 fun v18 =>
        pI h3 [12] o 53 (v16 ||| ((1 : Int32) <<< (v18 &&& 31))) fun h19 =>
        j53 h19) lpN ((8 : Int32) * a1) h1
set_option maxRecDepth 100000 in
set_option maxHeartbeats 4000000 in
theorem c_X12_findLetters (l : Launch) (D : DT) (o : Option Nat) (a1 : Int32) (h : AH) (r : Unit × AH) (hf : f_X12_findLetters o a1 h = some r) : CM l D yX12_findLetters cX12_findLetters 3 none 0 0 0 0 [.inr (.inr o), .inl a1] h none r.2 := by
  refine CM.of (by decide) (Nat.le_of_ble_eq_true rfl) (fun X hl C hD hX hnm E => ?_)
  subst hl
  subst hD
  have C : CX X RX12 cX12_findLetters 3 := C
  show WW X h 0 0 0 [some (rB (xD X).1 o), some (.int a1), none] []
  unfold f_X12_findLetters at hf
  refine s_aload_n C dX12_findLetters_0 rfl ?_
  refine s_iconst C dX12_findLetters_1 (v := (0 : Int32)) (by decide) ?_
  refine s_putI C fl_X12_472 (by decide) dX12_findLetters_2 hf (fun h1 hf => ?_)
  refine s_bipush C dX12_findLetters_5 (v := (8 : Int32)) (by decide) ?_
  refine s_iload_n C dX12_findLetters_7 rfl ?_
  refine s_imul C dX12_findLetters_8 ?_
  refine s_istore_n C dX12_findLetters_9 (by decide) (nc_i rfl) (lv' := [some (rB (xD X).1 o), some (.int a1), some (.int ((8 : Int32) * a1))]) rfl ?_
  refine s_lp2 hf (fun G10 z10 q10 hf => ?_)
  have k10 : ∀ (n : Nat) (x2 : Int32) (h3 : AH), G10 n x2 h3 = some r → WW X h3 0 0 10 [some (rB (xD X).1 o), some (.int a1), some (.int x2)] [] := by
    intro n
    induction n with
    | zero =>
      intro x2 h3 hf
      rw [z10] at hf
      cases hf
    | succ n ih10 =>
      intro x2 h3 hf
      have hf := (q10 n x2 h3).symm.trans hf
      refine s_iload_n C dX12_findLetters_10 rfl ?_
      refine s_bipush C dX12_findLetters_11 (v := (8 : Int32)) (by decide) ?_
      refine s_iload_n C dX12_findLetters_13 rfl ?_
      refine s_imul C dX12_findLetters_14 ?_
      refine s_aload_n C dX12_findLetters_15 rfl ?_
      refine s_getR C fl_X12_103 dX12_findLetters_16 hf (fun v4 hf => ?_)
      refine s_iload_n C dX12_findLetters_19 rfl ?_
      refine s_baload C dX12_findLetters_20 hf (fun v5 hf => ?_)
      refine s_iadd C dX12_findLetters_21 ?_
      refine s_icmp_ge (tgt := 86) C dX12_findLetters_22 (by decide) hf (fun hf => ?_) (fun hf => ?_)
      · exact s_return C E dX12_findLetters_86 hf (Nat.le_of_ble_eq_true rfl) (Nat.le_of_ble_eq_true rfl)
      · refine s_aload_n C dX12_findLetters_25 rfl ?_
        refine s_getR C fl_X12_109 dX12_findLetters_26 hf (fun v6 hf => ?_)
        refine s_iload_n C dX12_findLetters_29 rfl ?_
        refine s_baload C dX12_findLetters_30 hf (fun v7 hf => ?_)
        refine s_bipush C dX12_findLetters_31 (v := (6 : Int32)) (by decide) ?_
        refine s_jn hf (fun j53 e53 hf => ?_)
        have k53 : ∀ (h8 : AH), j53 h8 = some r → WW X h8 0 0 53 [some (rB (xD X).1 o), some (.int a1), some (.int x2)] [] := by
          intro h8 hf
          rw [e53] at hf
          refine s_aload_n C dX12_findLetters_53 rfl ?_
          refine s_getR C fl_X12_106 dX12_findLetters_54 hf (fun v9 hf => ?_)
          refine s_iload_n C dX12_findLetters_57 rfl ?_
          refine s_baload C dX12_findLetters_58 hf (fun v10 hf => ?_)
          refine s_iconst C dX12_findLetters_59 (v := (3 : Int32)) (by decide) ?_
          refine s_jn hf (fun j80 e80 hf => ?_)
          have k80 : ∀ (h11 : AH), j80 h11 = some r → WW X h11 0 0 80 [some (rB (xD X).1 o), some (.int a1), some (.int x2)] [] := by
            intro h11 hf
            rw [e80] at hf
            refine s_iinc C dX12_findLetters_80 (v := (x2 + 1)) rfl rfl (by decide) (nc_i rfl) (lv' := [some (rB (xD X).1 o), some (.int a1), some (.int (x2 + 1))]) rfl ?_
            refine s_goto (tgt := 10) C dX12_findLetters_83 (by decide) ?_
            exact ih10 _ _ hf
          refine s_icmp_ge (tgt := 80) C dX12_findLetters_60 (by decide) hf (fun hf => ?_) (fun hf => ?_)
          · exact k80 _ hf
          · refine s_aload_n C dX12_findLetters_63 rfl ?_
            refine s_dup C dX12_findLetters_64 c1_r ?_
            refine s_getI C fl_X12_472 dX12_findLetters_65 hf (fun v12 hf => ?_)
            refine s_iconst C dX12_findLetters_68 (v := (1 : Int32)) (by decide) ?_
            refine s_aload_n C dX12_findLetters_69 rfl ?_
            refine s_getR C fl_X12_112 dX12_findLetters_70 hf (fun v13 hf => ?_)
            refine s_iload_n C dX12_findLetters_73 rfl ?_
            refine s_baload C dX12_findLetters_74 hf (fun v14 hf => ?_)
            refine s_ishl C dX12_findLetters_75 ?_
            refine s_ior C dX12_findLetters_76 ?_
            refine s_putI C fl_X12_472 (by decide) dX12_findLetters_77 hf (fun h15 hf => ?_)
            exact k80 _ hf
        refine s_icmp_ge (tgt := 53) C dX12_findLetters_33 (by decide) hf (fun hf => ?_) (fun hf => ?_)
        · exact k53 _ hf
        · refine s_aload_n C dX12_findLetters_36 rfl ?_
          refine s_dup C dX12_findLetters_37 c1_r ?_
          refine s_getI C fl_X12_472 dX12_findLetters_38 hf (fun v16 hf => ?_)
          refine s_iconst C dX12_findLetters_41 (v := (1 : Int32)) (by decide) ?_
          refine s_aload_n C dX12_findLetters_42 rfl ?_
          refine s_getR C fl_X12_109 dX12_findLetters_43 hf (fun v17 hf => ?_)
          refine s_iload_n C dX12_findLetters_46 rfl ?_
          refine s_baload C dX12_findLetters_47 hf (fun v18 hf => ?_)
          refine s_ishl C dX12_findLetters_48 ?_
          refine s_ior C dX12_findLetters_49 ?_
          refine s_putI C fl_X12_472 (by decide) dX12_findLetters_50 hf (fun h19 hf => ?_)
          exact k53 _ hf
  exact k10 lpN _ _ hf
/-- HillBoxesModel.holdsNow(I)Z -/
noncomputable def f_X12_holdsNow (o : Option Nat) (a1 : Int32) (h : AH) : Option (Int32 × AH) :=
  fR h [12] o 51 fun v1 =>
  fR h [12] o 48 fun v2 =>
  aI h 22 v2 a1 fun v3 =>
  aI h 20 v1 v3 fun v4 =>
  fR h [12] o 47 fun v5 =>
  aI h 22 v5 a1 fun v6 =>
  if v6 = 0 then
    fR h [12] o 51 fun v7 =>
    fR h [12] o 49 fun v8 =>
    aI h 22 v8 a1 fun v9 =>
    aI h 20 v7 v9 fun v10 =>
    fR h [12] o 50 fun v11 =>
    aI h 22 v11 a1 fun v12 =>
    jn (fun (x13 : Int32) =>
      rz x13 h) fun j71 =>
    if (v4 + v10) = v12 then
      j71 (1 : Int32)
    else
      j71 (0 : Int32)
  else
  if v6 = 1 then
    fR h [12] o 51 fun v14 =>
    fR h [12] o 49 fun v15 =>
    aI h 22 v15 a1 fun v16 =>
    aI h 20 v14 v16 fun v17 =>
    fR h [12] o 50 fun v18 =>
    aI h 22 v18 a1 fun v19 =>
    jn (fun (x20 : Int32) =>
      rz x20 h) fun j99 =>
    if (v4 * v17) = v19 then
      j99 (1 : Int32)
    else
      j99 (0 : Int32)
  else
  if v6 = 2 then
    fR h [12] o 51 fun v21 =>
    fR h [12] o 49 fun v22 =>
    aI h 22 v22 a1 fun v23 =>
    aI h 20 v21 v23 fun v24 =>
    fR h [12] o 50 fun v25 =>
    aI h 22 v25 a1 fun v26 =>
    jn (fun (x27 : Int32) =>
      rz x27 h) fun j127 =>
    if (v4 - v24) = v26 then
      j127 (1 : Int32)
    else
      j127 (0 : Int32)
  else
    fR h [12] o 50 fun v28 =>
    aI h 22 v28 a1 fun v29 =>
    jn (fun (x30 : Int32) =>
      rz x30 h) fun j143 =>
    if v4 = v29 then
      j143 (1 : Int32)
    else
      j143 (0 : Int32)
set_option maxRecDepth 100000 in
set_option maxHeartbeats 4000000 in
theorem c_X12_holdsNow (l : Launch) (D : DT) (o : Option Nat) (a1 : Int32) (h : AH) (r : Int32 × AH) (hf : f_X12_holdsNow o a1 h = some r) : CM l D yX12_holdsNow cX12_holdsNow 3 (some .boolean) 0 0 0 0 [.inr (.inr o), .inl a1] h (some (.int r.1)) r.2 := by
  refine CM.of (by decide) (Nat.le_of_ble_eq_true rfl) (fun X hl C hD hX hnm E => ?_)
  subst hl
  subst hD
  have C : CX X RX12 cX12_holdsNow 3 := C
  show WW X h 0 0 0 [some (rB (xD X).1 o), some (.int a1), none] []
  unfold f_X12_holdsNow at hf
  refine s_aload_n C dX12_holdsNow_0 rfl ?_
  refine s_getR C fl_X12_118 dX12_holdsNow_1 hf (fun v1 hf => ?_)
  refine s_aload_n C dX12_holdsNow_4 rfl ?_
  refine s_getR C fl_X12_109 dX12_holdsNow_5 hf (fun v2 hf => ?_)
  refine s_iload_n C dX12_holdsNow_8 rfl ?_
  refine s_baload C dX12_holdsNow_9 hf (fun v3 hf => ?_)
  refine s_iaload C dX12_holdsNow_10 hf (fun v4 hf => ?_)
  refine s_istore_n C dX12_holdsNow_11 (by decide) (nc_i rfl) (lv' := [some (rB (xD X).1 o), some (.int a1), some (.int v4)]) rfl ?_
  refine s_aload_n C dX12_holdsNow_12 rfl ?_
  refine s_getR C fl_X12_106 dX12_holdsNow_13 hf (fun v5 hf => ?_)
  refine s_iload_n C dX12_holdsNow_16 rfl ?_
  refine s_baload C dX12_holdsNow_17 hf (fun v6 hf => ?_)
  refine s_ite hf (fun e hf => ?_) (fun n0 hf => ?_)
  · refine s_tsw1 (tgt := 44) C dX12_holdsNow_18 e (by decide) (by decide) rfl (by decide) ?_
    refine s_iload_n C dX12_holdsNow_44 rfl ?_
    refine s_aload_n C dX12_holdsNow_45 rfl ?_
    refine s_getR C fl_X12_118 dX12_holdsNow_46 hf (fun v7 hf => ?_)
    refine s_aload_n C dX12_holdsNow_49 rfl ?_
    refine s_getR C fl_X12_112 dX12_holdsNow_50 hf (fun v8 hf => ?_)
    refine s_iload_n C dX12_holdsNow_53 rfl ?_
    refine s_baload C dX12_holdsNow_54 hf (fun v9 hf => ?_)
    refine s_iaload C dX12_holdsNow_55 hf (fun v10 hf => ?_)
    refine s_iadd C dX12_holdsNow_56 ?_
    refine s_aload_n C dX12_holdsNow_57 rfl ?_
    refine s_getR C fl_X12_115 dX12_holdsNow_58 hf (fun v11 hf => ?_)
    refine s_iload_n C dX12_holdsNow_61 rfl ?_
    refine s_baload C dX12_holdsNow_62 hf (fun v12 hf => ?_)
    refine s_jn hf (fun j71 e71 hf => ?_)
    have k71 : ∀ (x13 : Int32), j71 x13 = some r → WW X h 0 0 71 [none, none, none] [.int x13] := by
      intro x13 hf
      rw [e71] at hf
      exact s_zreturn C E dX12_holdsNow_71 hf (Nat.le_of_ble_eq_true rfl) (Nat.le_of_ble_eq_true rfl)
    refine s_icmp_ne (tgt := 70) C dX12_holdsNow_63 (by decide) hf (fun hf => ?_) (fun hf => ?_)
    · refine s_iconst C dX12_holdsNow_70 (v := (0 : Int32)) (by decide) ?_
      refine s_weak (lv' := [none, none, none]) trivial ?_
      exact k71 _ hf
    · refine s_iconst C dX12_holdsNow_66 (v := (1 : Int32)) (by decide) ?_
      refine s_goto (tgt := 71) C dX12_holdsNow_67 (by decide) ?_
      refine s_weak (lv' := [none, none, none]) trivial ?_
      exact k71 _ hf
  refine s_ite hf (fun e hf => ?_) (fun n1 hf => ?_)
  · refine s_tsw1 (tgt := 72) C dX12_holdsNow_18 e (by decide) (by decide) rfl (by decide) ?_
    refine s_iload_n C dX12_holdsNow_72 rfl ?_
    refine s_aload_n C dX12_holdsNow_73 rfl ?_
    refine s_getR C fl_X12_118 dX12_holdsNow_74 hf (fun v14 hf => ?_)
    refine s_aload_n C dX12_holdsNow_77 rfl ?_
    refine s_getR C fl_X12_112 dX12_holdsNow_78 hf (fun v15 hf => ?_)
    refine s_iload_n C dX12_holdsNow_81 rfl ?_
    refine s_baload C dX12_holdsNow_82 hf (fun v16 hf => ?_)
    refine s_iaload C dX12_holdsNow_83 hf (fun v17 hf => ?_)
    refine s_imul C dX12_holdsNow_84 ?_
    refine s_aload_n C dX12_holdsNow_85 rfl ?_
    refine s_getR C fl_X12_115 dX12_holdsNow_86 hf (fun v18 hf => ?_)
    refine s_iload_n C dX12_holdsNow_89 rfl ?_
    refine s_baload C dX12_holdsNow_90 hf (fun v19 hf => ?_)
    refine s_jn hf (fun j99 e99 hf => ?_)
    have k99 : ∀ (x20 : Int32), j99 x20 = some r → WW X h 0 0 99 [none, none, none] [.int x20] := by
      intro x20 hf
      rw [e99] at hf
      exact s_zreturn C E dX12_holdsNow_99 hf (Nat.le_of_ble_eq_true rfl) (Nat.le_of_ble_eq_true rfl)
    refine s_icmp_ne (tgt := 98) C dX12_holdsNow_91 (by decide) hf (fun hf => ?_) (fun hf => ?_)
    · refine s_iconst C dX12_holdsNow_98 (v := (0 : Int32)) (by decide) ?_
      refine s_weak (lv' := [none, none, none]) trivial ?_
      exact k99 _ hf
    · refine s_iconst C dX12_holdsNow_94 (v := (1 : Int32)) (by decide) ?_
      refine s_goto (tgt := 99) C dX12_holdsNow_95 (by decide) ?_
      refine s_weak (lv' := [none, none, none]) trivial ?_
      exact k99 _ hf
  refine s_ite hf (fun e hf => ?_) (fun n2 hf => ?_)
  · refine s_tsw1 (tgt := 100) C dX12_holdsNow_18 e (by decide) (by decide) rfl (by decide) ?_
    refine s_iload_n C dX12_holdsNow_100 rfl ?_
    refine s_aload_n C dX12_holdsNow_101 rfl ?_
    refine s_getR C fl_X12_118 dX12_holdsNow_102 hf (fun v21 hf => ?_)
    refine s_aload_n C dX12_holdsNow_105 rfl ?_
    refine s_getR C fl_X12_112 dX12_holdsNow_106 hf (fun v22 hf => ?_)
    refine s_iload_n C dX12_holdsNow_109 rfl ?_
    refine s_baload C dX12_holdsNow_110 hf (fun v23 hf => ?_)
    refine s_iaload C dX12_holdsNow_111 hf (fun v24 hf => ?_)
    refine s_isub C dX12_holdsNow_112 ?_
    refine s_aload_n C dX12_holdsNow_113 rfl ?_
    refine s_getR C fl_X12_115 dX12_holdsNow_114 hf (fun v25 hf => ?_)
    refine s_iload_n C dX12_holdsNow_117 rfl ?_
    refine s_baload C dX12_holdsNow_118 hf (fun v26 hf => ?_)
    refine s_jn hf (fun j127 e127 hf => ?_)
    have k127 : ∀ (x27 : Int32), j127 x27 = some r → WW X h 0 0 127 [none, none, none] [.int x27] := by
      intro x27 hf
      rw [e127] at hf
      exact s_zreturn C E dX12_holdsNow_127 hf (Nat.le_of_ble_eq_true rfl) (Nat.le_of_ble_eq_true rfl)
    refine s_icmp_ne (tgt := 126) C dX12_holdsNow_119 (by decide) hf (fun hf => ?_) (fun hf => ?_)
    · refine s_iconst C dX12_holdsNow_126 (v := (0 : Int32)) (by decide) ?_
      refine s_weak (lv' := [none, none, none]) trivial ?_
      exact k127 _ hf
    · refine s_iconst C dX12_holdsNow_122 (v := (1 : Int32)) (by decide) ?_
      refine s_goto (tgt := 127) C dX12_holdsNow_123 (by decide) ?_
      refine s_weak (lv' := [none, none, none]) trivial ?_
      exact k127 _ hf
  refine s_tswD (tgt := 128) C dX12_holdsNow_18 (by have n0x := n32 (i := 0) n0 rfl; have n1x := n32 (i := 1) n1 rfl; have n2x := n32 (i := 2) n2 rfl; omega) (by decide) ?_
  refine s_iload_n C dX12_holdsNow_128 rfl ?_
  refine s_aload_n C dX12_holdsNow_129 rfl ?_
  refine s_getR C fl_X12_115 dX12_holdsNow_130 hf (fun v28 hf => ?_)
  refine s_iload_n C dX12_holdsNow_133 rfl ?_
  refine s_baload C dX12_holdsNow_134 hf (fun v29 hf => ?_)
  refine s_jn hf (fun j143 e143 hf => ?_)
  have k143 : ∀ (x30 : Int32), j143 x30 = some r → WW X h 0 0 143 [none, none, none] [.int x30] := by
    intro x30 hf
    rw [e143] at hf
    exact s_zreturn C E dX12_holdsNow_143 hf (Nat.le_of_ble_eq_true rfl) (Nat.le_of_ble_eq_true rfl)
  refine s_icmp_ne (tgt := 142) C dX12_holdsNow_135 (by decide) hf (fun hf => ?_) (fun hf => ?_)
  · refine s_iconst C dX12_holdsNow_142 (v := (0 : Int32)) (by decide) ?_
    refine s_weak (lv' := [none, none, none]) trivial ?_
    exact k143 _ hf
  · refine s_iconst C dX12_holdsNow_138 (v := (1 : Int32)) (by decide) ?_
    refine s_goto (tgt := 143) C dX12_holdsNow_139 (by decide) ?_
    refine s_weak (lv' := [none, none, none]) trivial ?_
    exact k143 _ hf
/-- HillBoxesModel.placeIs(I)I -/
noncomputable def f_X12_placeIs (o : Option Nat) (a1 : Int32) (h : AH) : Option (Int32 × AH) :=
  fR h [12] o 48 fun v1 =>
  aI h 22 v1 a1 fun v2 =>
  jn (fun (x3 : Int32) =>
    some (x3, h)) fun j38 =>
  if v2 = (6 : Int32) then
    fR h [12] o 50 fun v10 =>
    aI h 22 v10 a1 fun v11 =>
    j38 v11
  else
    fR h [12] o 51 fun v4 =>
    fR h [12] o 48 fun v5 =>
    aI h 22 v5 a1 fun v6 =>
    aI h 20 v4 v6 fun v7 =>
    fR h [12] o 50 fun v8 =>
    aI h 22 v8 a1 fun v9 =>
    j38 (v7 - v9)
set_option maxRecDepth 100000 in
set_option maxHeartbeats 4000000 in
theorem c_X12_placeIs (l : Launch) (D : DT) (o : Option Nat) (a1 : Int32) (h : AH) (r : Int32 × AH) (hf : f_X12_placeIs o a1 h = some r) : CM l D yX12_placeIs cX12_placeIs 2 (some .int) 0 0 0 0 [.inr (.inr o), .inl a1] h (some (.int r.1)) r.2 := by
  refine CM.of (by decide) (Nat.le_of_ble_eq_true rfl) (fun X hl C hD hX hnm E => ?_)
  subst hl
  subst hD
  have C : CX X RX12 cX12_placeIs 2 := C
  show WW X h 0 0 0 [some (rB (xD X).1 o), some (.int a1)] []
  unfold f_X12_placeIs at hf
  refine s_aload_n C dX12_placeIs_0 rfl ?_
  refine s_getR C fl_X12_109 dX12_placeIs_1 hf (fun v1 hf => ?_)
  refine s_iload_n C dX12_placeIs_4 rfl ?_
  refine s_baload C dX12_placeIs_5 hf (fun v2 hf => ?_)
  refine s_bipush C dX12_placeIs_6 (v := (6 : Int32)) (by decide) ?_
  refine s_jn hf (fun j38 e38 hf => ?_)
  have k38 : ∀ (x3 : Int32), j38 x3 = some r → WW X h 0 0 38 [none, none] [.int x3] := by
    intro x3 hf
    rw [e38] at hf
    exact s_ireturn C E dX12_placeIs_38 hf (Nat.le_of_ble_eq_true rfl) (Nat.le_of_ble_eq_true rfl)
  refine s_icmp_ne (tgt := 20) C dX12_placeIs_8 (by decide) hf (fun hf => ?_) (fun hf => ?_)
  · refine s_aload_n C dX12_placeIs_20 rfl ?_
    refine s_getR C fl_X12_118 dX12_placeIs_21 hf (fun v4 hf => ?_)
    refine s_aload_n C dX12_placeIs_24 rfl ?_
    refine s_getR C fl_X12_109 dX12_placeIs_25 hf (fun v5 hf => ?_)
    refine s_iload_n C dX12_placeIs_28 rfl ?_
    refine s_baload C dX12_placeIs_29 hf (fun v6 hf => ?_)
    refine s_iaload C dX12_placeIs_30 hf (fun v7 hf => ?_)
    refine s_aload_n C dX12_placeIs_31 rfl ?_
    refine s_getR C fl_X12_115 dX12_placeIs_32 hf (fun v8 hf => ?_)
    refine s_iload_n C dX12_placeIs_35 rfl ?_
    refine s_baload C dX12_placeIs_36 hf (fun v9 hf => ?_)
    refine s_isub C dX12_placeIs_37 ?_
    refine s_weak (lv' := [none, none]) trivial ?_
    exact k38 _ hf
  · refine s_aload_n C dX12_placeIs_11 rfl ?_
    refine s_getR C fl_X12_115 dX12_placeIs_12 hf (fun v10 hf => ?_)
    refine s_iload_n C dX12_placeIs_15 rfl ?_
    refine s_baload C dX12_placeIs_16 hf (fun v11 hf => ?_)
    refine s_goto (tgt := 38) C dX12_placeIs_17 (by decide) ?_
    refine s_weak (lv' := [none, none]) trivial ?_
    exact k38 _ hf
/-- HillBoxesModel.isSolved()Z -/
noncomputable def f_X12_isSolved (o : Option Nat) (h : AH) : Option (Int32 × AH) :=
  fI h [12] o 52 fun v1 =>
  lp (fun _ _ => none) (fun (L10 : Int32 → AH → Option (Int32 × AH)) (x2 : Int32) (h3 : AH) =>
    fR h3 [12] o 46 fun v4 =>
    aI h3 22 v4 v1 fun v5 =>
    if (((8 : Int32) * v1) + v5) ≤ x2 then
      rO h3 [12] o <| cl (f_X12_placeTold o v1 (4 : Int32) h3) fun v7 h6 =>
      rO h6 [12] o <| cl (f_X12_placeIs o v7 h6) fun v9 h8 =>
      cl (f_X12_in v9 (0 : Int32) (9 : Int32) h8) fun v11 h10 =>
      jn (fun (x12 : Int32) (h13 : AH) =>
        rz x12 h13) fun j93 =>
      jn (fun (h14 : AH) =>
        j93 (0 : Int32) h14) fun j92 =>
      if v11 = 0 then
        j92 h10
      else
        rO h10 [12] o <| cl (f_X12_placeTold o v1 (5 : Int32) h10) fun v16 h15 =>
        rO h15 [12] o <| cl (f_X12_placeIs o v16 h15) fun v18 h17 =>
        cl (f_X12_in v18 (0 : Int32) (5 : Int32) h17) fun v20 h19 =>
        if v20 = 0 then
          j92 h19
        else
          j93 (1 : Int32) h19
    else
      fR h3 [12] o 47 fun v21 =>
      aI h3 22 v21 x2 fun v22 =>
      jn (fun (h23 : AH) =>
        L10 (x2 + 1) h23) fun j45 =>
      if (4 : Int32) ≤ v22 then
        j45 h3
      else
        rO h3 [12] o <| cl (f_X12_holdsNow o x2 h3) fun v25 h24 =>
        if v25 = 0 then
          rz (0 : Int32) h24
        else
          j45 h24) lpN ((8 : Int32) * v1) h
set_option maxRecDepth 100000 in
set_option maxHeartbeats 4000000 in
theorem c_X12_isSolved (l : Launch) (D : DT) (o : Option Nat) (h : AH) (r : Int32 × AH) (hf : f_X12_isSolved o h = some r) : CM l D yX12_isSolved cX12_isSolved 3 (some .boolean) 1 23 0 0 [.inr (.inr o)] h (some (.int r.1)) r.2 := by
  refine CM.of (by decide) (Nat.le_of_ble_eq_true rfl) (fun X hl C hD hX hnm E => ?_)
  subst hl
  subst hD
  have C : CX X RX12 cX12_isSolved 3 := C
  show WW X h 0 0 0 [some (rB (xD X).1 o), none, none] []
  unfold f_X12_isSolved at hf
  refine s_aload_n C dX12_isSolved_0 rfl ?_
  refine s_getI C fl_X12_475 dX12_isSolved_1 hf (fun v1 hf => ?_)
  refine s_istore_n C dX12_isSolved_4 (by decide) (nc_r rfl) (lv' := [some (rB (xD X).1 o), some (.int v1), none]) rfl ?_
  refine s_bipush C dX12_isSolved_5 (v := (8 : Int32)) (by decide) ?_
  refine s_iload_n C dX12_isSolved_7 rfl ?_
  refine s_imul C dX12_isSolved_8 ?_
  refine s_istore_n C dX12_isSolved_9 (by decide) (nc_i rfl) (lv' := [some (rB (xD X).1 o), some (.int v1), some (.int ((8 : Int32) * v1))]) rfl ?_
  refine s_lp2 hf (fun G10 z10 q10 hf => ?_)
  have k10 : ∀ (n : Nat) (x2 : Int32) (h3 : AH), G10 n x2 h3 = some r → WW X h3 0 0 10 [some (rB (xD X).1 o), some (.int v1), some (.int x2)] [] := by
    intro n
    induction n with
    | zero =>
      intro x2 h3 hf
      rw [z10] at hf
      cases hf
    | succ n ih10 =>
      intro x2 h3 hf
      have hf := (q10 n x2 h3).symm.trans hf
      refine s_iload_n C dX12_isSolved_10 rfl ?_
      refine s_bipush C dX12_isSolved_11 (v := (8 : Int32)) (by decide) ?_
      refine s_iload_n C dX12_isSolved_13 rfl ?_
      refine s_imul C dX12_isSolved_14 ?_
      refine s_aload_n C dX12_isSolved_15 rfl ?_
      refine s_getR C fl_X12_103 dX12_isSolved_16 hf (fun v4 hf => ?_)
      refine s_iload_n C dX12_isSolved_19 rfl ?_
      refine s_baload C dX12_isSolved_20 hf (fun v5 hf => ?_)
      refine s_iadd C dX12_isSolved_21 ?_
      refine s_icmp_ge (tgt := 51) C dX12_isSolved_22 (by decide) hf (fun hf => ?_) (fun hf => ?_)
      · refine s_aload_n C dX12_isSolved_51 rfl ?_
        refine s_aload_n C dX12_isSolved_52 rfl ?_
        refine s_iload_n C dX12_isSolved_53 rfl ?_
        refine s_iconst C dX12_isSolved_54 (v := (4 : Int32)) (by decide) ?_
        refine s_callV (rvf := fun x => some (.int x)) (st := [rB (xD X).1 o]) (fr := 0) (lo := 0) (mc := 0) (ms := 0) C [12] wc_X12_placeTold wml_X12_481 wim_X12_placeTold wsl_12_X12_placeTold dX12_isSolved_55 (As := [.inl v1, .inl (4 : Int32)]) rfl hf (fun x h' hF => c_X12_placeTold _ _ _ _ _ _ (x, h') hF) rfl (Nat.le_of_ble_eq_true rfl) (room_ok hX (Nat.le_of_ble_eq_true rfl) (Nat.le_of_ble_eq_true rfl)) (cell_ok hX (Nat.le_of_ble_eq_true rfl) (Nat.le_of_ble_eq_true rfl)) (fun v7 h6 hf => ?_)
        refine s_callV (rvf := fun x => some (.int x)) (st := []) (fr := 0) (lo := 0) (mc := 0) (ms := 0) C [12] wc_X12_placeIs wml_X12_484 wim_X12_placeIs wsl_12_X12_placeIs dX12_isSolved_58 (As := [.inl v7]) rfl hf (fun x h' hF => c_X12_placeIs _ _ _ _ _ (x, h') hF) rfl (Nat.le_of_ble_eq_true rfl) (room_ok hX (Nat.le_of_ble_eq_true rfl) (Nat.le_of_ble_eq_true rfl)) (cell_ok hX (Nat.le_of_ble_eq_true rfl) (Nat.le_of_ble_eq_true rfl)) (fun v9 h8 hf => ?_)
        refine s_iconst C dX12_isSolved_61 (v := (0 : Int32)) (by decide) ?_
        refine s_bipush C dX12_isSolved_62 (v := (9 : Int32)) (by decide) ?_
        refine s_callS (rvf := fun x => some (.int x)) (st := []) (fr := 0) (lo := 0) (mc := 0) (ms := 0) C wc_X12_in wml_X12_195 wst_X12_in dX12_isSolved_64 (As := [.inl v9, .inl (0 : Int32), .inl (9 : Int32)]) rfl hf (fun x h' hF => c_X12_in _ _ _ _ _ _ (x, h') hF) rfl (Nat.le_of_ble_eq_true rfl) (room_ok hX (Nat.le_of_ble_eq_true rfl) (Nat.le_of_ble_eq_true rfl)) (cell_ok hX (Nat.le_of_ble_eq_true rfl) (Nat.le_of_ble_eq_true rfl)) (fun v11 h10 hf => ?_)
        refine s_jn hf (fun j93 e93 hf => ?_)
        have k93 : ∀ (x12 : Int32) (h13 : AH), j93 x12 h13 = some r → WW X h13 0 0 93 [none, none, none] [.int x12] := by
          intro x12 h13 hf
          rw [e93] at hf
          exact s_zreturn C E dX12_isSolved_93 hf (Nat.le_of_ble_eq_true rfl) (Nat.le_of_ble_eq_true rfl)
        refine s_jn hf (fun j92 e92 hf => ?_)
        have k92 : ∀ (h14 : AH), j92 h14 = some r → WW X h14 0 0 92 [none, none, none] [] := by
          intro h14 hf
          rw [e92] at hf
          refine s_iconst C dX12_isSolved_92 (v := (0 : Int32)) (by decide) ?_
          exact k93 _ _ hf
        refine s_if_eq (tgt := 92) C dX12_isSolved_67 (by decide) hf (fun hf => ?_) (fun hf => ?_)
        · refine s_weak (lv' := [none, none, none]) trivial ?_
          exact k92 _ hf
        · refine s_aload_n C dX12_isSolved_70 rfl ?_
          refine s_aload_n C dX12_isSolved_71 rfl ?_
          refine s_iload_n C dX12_isSolved_72 rfl ?_
          refine s_iconst C dX12_isSolved_73 (v := (5 : Int32)) (by decide) ?_
          refine s_callV (rvf := fun x => some (.int x)) (st := [rB (xD X).1 o]) (fr := 0) (lo := 0) (mc := 0) (ms := 0) C [12] wc_X12_placeTold wml_X12_481 wim_X12_placeTold wsl_12_X12_placeTold dX12_isSolved_74 (As := [.inl v1, .inl (5 : Int32)]) rfl hf (fun x h' hF => c_X12_placeTold _ _ _ _ _ _ (x, h') hF) rfl (Nat.le_of_ble_eq_true rfl) (room_ok hX (Nat.le_of_ble_eq_true rfl) (Nat.le_of_ble_eq_true rfl)) (cell_ok hX (Nat.le_of_ble_eq_true rfl) (Nat.le_of_ble_eq_true rfl)) (fun v16 h15 hf => ?_)
          refine s_callV (rvf := fun x => some (.int x)) (st := []) (fr := 0) (lo := 0) (mc := 0) (ms := 0) C [12] wc_X12_placeIs wml_X12_484 wim_X12_placeIs wsl_12_X12_placeIs dX12_isSolved_77 (As := [.inl v16]) rfl hf (fun x h' hF => c_X12_placeIs _ _ _ _ _ (x, h') hF) rfl (Nat.le_of_ble_eq_true rfl) (room_ok hX (Nat.le_of_ble_eq_true rfl) (Nat.le_of_ble_eq_true rfl)) (cell_ok hX (Nat.le_of_ble_eq_true rfl) (Nat.le_of_ble_eq_true rfl)) (fun v18 h17 hf => ?_)
          refine s_iconst C dX12_isSolved_80 (v := (0 : Int32)) (by decide) ?_
          refine s_iconst C dX12_isSolved_81 (v := (5 : Int32)) (by decide) ?_
          refine s_callS (rvf := fun x => some (.int x)) (st := []) (fr := 0) (lo := 0) (mc := 0) (ms := 0) C wc_X12_in wml_X12_195 wst_X12_in dX12_isSolved_82 (As := [.inl v18, .inl (0 : Int32), .inl (5 : Int32)]) rfl hf (fun x h' hF => c_X12_in _ _ _ _ _ _ (x, h') hF) rfl (Nat.le_of_ble_eq_true rfl) (room_ok hX (Nat.le_of_ble_eq_true rfl) (Nat.le_of_ble_eq_true rfl)) (cell_ok hX (Nat.le_of_ble_eq_true rfl) (Nat.le_of_ble_eq_true rfl)) (fun v20 h19 hf => ?_)
          refine s_if_eq (tgt := 92) C dX12_isSolved_85 (by decide) hf (fun hf => ?_) (fun hf => ?_)
          · refine s_weak (lv' := [none, none, none]) trivial ?_
            exact k92 _ hf
          · refine s_iconst C dX12_isSolved_88 (v := (1 : Int32)) (by decide) ?_
            refine s_goto (tgt := 93) C dX12_isSolved_89 (by decide) ?_
            refine s_weak (lv' := [none, none, none]) trivial ?_
            exact k93 _ _ hf
      · refine s_aload_n C dX12_isSolved_25 rfl ?_
        refine s_getR C fl_X12_106 dX12_isSolved_26 hf (fun v21 hf => ?_)
        refine s_iload_n C dX12_isSolved_29 rfl ?_
        refine s_baload C dX12_isSolved_30 hf (fun v22 hf => ?_)
        refine s_iconst C dX12_isSolved_31 (v := (4 : Int32)) (by decide) ?_
        refine s_jn hf (fun j45 e45 hf => ?_)
        have k45 : ∀ (h23 : AH), j45 h23 = some r → WW X h23 0 0 45 [some (rB (xD X).1 o), some (.int v1), some (.int x2)] [] := by
          intro h23 hf
          rw [e45] at hf
          refine s_iinc C dX12_isSolved_45 (v := (x2 + 1)) rfl rfl (by decide) (nc_i rfl) (lv' := [some (rB (xD X).1 o), some (.int v1), some (.int (x2 + 1))]) rfl ?_
          refine s_goto (tgt := 10) C dX12_isSolved_48 (by decide) ?_
          exact ih10 _ _ hf
        refine s_icmp_ge (tgt := 45) C dX12_isSolved_32 (by decide) hf (fun hf => ?_) (fun hf => ?_)
        · exact k45 _ hf
        · refine s_aload_n C dX12_isSolved_35 rfl ?_
          refine s_iload_n C dX12_isSolved_36 rfl ?_
          refine s_callV (rvf := fun x => some (.int x)) (st := []) (fr := 0) (lo := 0) (mc := 0) (ms := 0) C [12] wc_X12_holdsNow wml_X12_478 wim_X12_holdsNow wsl_12_X12_holdsNow dX12_isSolved_37 (As := [.inl x2]) rfl hf (fun x h' hF => c_X12_holdsNow _ _ _ _ _ (x, h') hF) rfl (Nat.le_of_ble_eq_true rfl) (room_ok hX (Nat.le_of_ble_eq_true rfl) (Nat.le_of_ble_eq_true rfl)) (cell_ok hX (Nat.le_of_ble_eq_true rfl) (Nat.le_of_ble_eq_true rfl)) (fun v25 h24 hf => ?_)
          refine s_if_ne (tgt := 45) C dX12_isSolved_40 (by decide) hf (fun hf => ?_) (fun hf => ?_)
          · exact k45 _ hf
          · refine s_iconst C dX12_isSolved_43 (v := (0 : Int32)) (by decide) ?_
            exact s_zreturn C E dX12_isSolved_44 hf (Nat.le_of_ble_eq_true rfl) (Nat.le_of_ble_eq_true rfl)
  exact k10 lpN _ _ hf
/-- HillBoxesModel.solveOn(II)V, one turn -/
noncomputable def fb_X12_solveOn (g : Nat → Option Nat → Int32 → Int32 → AH → Option (Unit × AH)) (o : Option Nat) (a1 : Int32) (a2 : Int32) (h : AH) : Option (Unit × AH) :=
  if a1 = (6 : Int32) then
    rO h [12] o <| cl (f_X12_isSolved o h) fun v10 h9 =>
    if v10 = 0 then
      some ((), h9)
    else
      fI h9 [12] o 52 fun v11 =>
      rO h9 [12] o <| cl (f_X12_placeTold o v11 (5 : Int32) h9) fun v13 h12 =>
      rO h12 [12] o <| cl (f_X12_placeIs o v13 h12) fun v15 h14 =>
      fI h14 [12] o 52 fun v16 =>
      rO h14 [12] o <| cl (f_X12_placeTold o v16 (4 : Int32) h14) fun v18 h17 =>
      rO h17 [12] o <| cl (f_X12_placeIs o v18 h17) fun v20 h19 =>
      fI h19 [12] o 54 fun v21 =>
      fI h19 [12] o 55 fun v22 =>
      jn (fun (h23 : AH) =>
        fR h23 [12] o 5 fun v24 =>
        fI h23 [12] o 52 fun v25 =>
        aI h23 20 v24 v25 fun v26 =>
        jn (fun (h27 : AH) =>
          fI h27 [12] o 54 fun v28 =>
          pI h27 [12] o 54 (v28 + (1 : Int32)) fun h29 =>
          some ((), h29)) fun j139 =>
        if (((10 : Int32) * v15) + v20) = v26 then
          j139 h23
        else
          fL h23 [12] o 58 fun v30 =>
          pL h23 [12] o 58 (v30 ||| ((1 : Int64) <<< ((((10 : Int32) * v15) + v20).toInt64 &&& 63))) fun h31 =>
          j139 h31) fun j114 =>
      if v21 = v22 then
        pI h19 [12] o 56 (0 : Int32) fun h32 =>
        lp (fun _ _ => none) (fun (L64 : Int32 → AH → Option (Unit × AH)) (x33 : Int32) (h34 : AH) =>
          if (6 : Int32) ≤ x33 then
            pI h34 [12] o 57 (((10 : Int32) * v15) + v20) fun h35 =>
            j114 h35
          else
            fI h34 [12] o 53 fun v36 =>
            jn (fun (h37 : AH) =>
              L64 (x33 + 1) h37) fun j103 =>
            if ((v36 >>> (x33 &&& 31)) &&& (1 : Int32)) = (1 : Int32) then
              fI h34 [12] o 56 fun v38 =>
              fR h34 [12] o 51 fun v39 =>
              aI h34 20 v39 x33 fun v40 =>
              pI h34 [12] o 56 (((10 : Int32) * v38) + v40) fun h41 =>
              j103 h41
            else
              j103 h34) lpN (0 : Int32) h32
      else
        j114 h19
  else
    fI h [12] o 53 fun v1 =>
    if ((v1 >>> (a1 &&& 31)) &&& (1 : Int32)) = 0 then
      rO h [12] o <| cl (g 0 o (a1 + (1 : Int32)) a2 h) fun _ h8 =>
      some ((), h8)
    else
      lp (fun _ _ => none) (fun (L172 : Int32 → AH → Option (Unit × AH)) (x2 : Int32) (h3 : AH) =>
        if (10 : Int32) ≤ x2 then
          some ((), h3)
        else
          jn (fun (h4 : AH) =>
            L172 (x2 + 1) h4) fun j209 =>
          if ((a2 >>> (x2 &&& 31)) &&& (1 : Int32)) = (1 : Int32) then
            j209 h3
          else
            fR h3 [12] o 51 fun v5 =>
            bI h3 20 v5 a1 x2 fun h6 =>
            rO h6 [12] o <| cl (g 0 o (a1 + (1 : Int32)) (a2 ||| ((1 : Int32) <<< (x2 &&& 31))) h6) fun _ h7 =>
            j209 h7) lpN (0 : Int32) h
noncomputable def G_X12_solveOn : Nat → Nat → Option Nat → Int32 → Int32 → AH → Option (Unit × AH)
  | 0 => fun _ _ _ _ _ => none
  | n + 1 => fun t p0 p1 p2 h => fb_X12_solveOn (G_X12_solveOn n) p0 p1 p2 h
theorem eq_G_X12_solveOn (n t : Nat) (p0 : Option Nat) (p1 : Int32) (p2 : Int32) (h : AH) : G_X12_solveOn (n + 1) t p0 p1 p2 h = (fb_X12_solveOn (G_X12_solveOn n) p0 p1 p2 h) := by first | rfl | rw [G_X12_solveOn]
noncomputable def f_X12_solveOn (o : Option Nat) (a1 : Int32) (a2 : Int32) (h : AH) : Option (Unit × AH) := G_X12_solveOn (opq 100) 0 o a1 a2 h
def PG_X12_solveOn (l : Launch) (D : DT) (n : Nat) : Prop := (∀ (p0 : Option Nat) (p1 : Int32) (p2 : Int32) (h : AH) (r : Unit × AH), G_X12_solveOn n 0 p0 p1 p2 h = some r → CM l D yX12_solveOn cX12_solveOn 5 none (2 + n) (45 + 60 * n) 0 0 [.inr (.inr p0), .inl p1, .inl p2] h none r.2)
set_option maxRecDepth 100000 in
set_option maxHeartbeats 4000000 in
theorem cs_X12_solveOn (l : Launch) (D : DT) (nS : Nat) (ih : PG_X12_solveOn l D nS) : ∀ (p0 : Option Nat) (p1 : Int32) (p2 : Int32) (h : AH) (r : Unit × AH), G_X12_solveOn (nS + 1) 0 p0 p1 p2 h = some r → CM l D yX12_solveOn cX12_solveOn 5 none (2 + (nS + 1)) (45 + 60 * (nS + 1)) 0 0 [.inr (.inr p0), .inl p1, .inl p2] h none r.2 := by
  unfold PG_X12_solveOn at ih
  intro o a1 a2 h r hf
  rw [eq_G_X12_solveOn] at hf
  have hf : fb_X12_solveOn (G_X12_solveOn nS) o a1 a2 h = some r := hf
  refine CM.of (by decide) (Nat.le_of_ble_eq_true rfl) (fun X hl C hD hX hnm E => ?_)
  subst hl
  subst hD
  have C : CX X RX12 cX12_solveOn 5 := C
  show WW X h 0 0 0 [some (rB (xD X).1 o), some (.int a1), some (.int a2), none, none] []
  unfold fb_X12_solveOn at hf
  refine s_iload_n C dX12_solveOn_0 rfl ?_
  refine s_bipush C dX12_solveOn_1 (v := (6 : Int32)) (by decide) ?_
  refine s_icmp_ne (tgt := 150) C dX12_solveOn_3 (by decide) hf (fun hf => ?_) (fun hf => ?_)
  · refine s_aload_n C dX12_solveOn_150 rfl ?_
    refine s_getI C fl_X12_472 dX12_solveOn_151 hf (fun v1 hf => ?_)
    refine s_iload_n C dX12_solveOn_154 rfl ?_
    refine s_ishr C dX12_solveOn_155 ?_
    refine s_iconst C dX12_solveOn_156 (v := (1 : Int32)) (by decide) ?_
    refine s_iand C dX12_solveOn_157 ?_
    refine s_if_ne (tgt := 170) C dX12_solveOn_158 (by decide) hf (fun hf => ?_) (fun hf => ?_)
    · refine s_iconst C dX12_solveOn_170 (v := (0 : Int32)) (by decide) ?_
      refine s_istore_n C dX12_solveOn_171 (by decide) (nc_i rfl) (lv' := [some (rB (xD X).1 o), some (.int a1), some (.int a2), some (.int (0 : Int32)), none]) rfl ?_
      refine s_lp2 hf (fun G172 z172 q172 hf => ?_)
      have k172 : ∀ (n : Nat) (x2 : Int32) (h3 : AH), G172 n x2 h3 = some r → WW X h3 0 0 172 [some (rB (xD X).1 o), some (.int a1), some (.int a2), some (.int x2), none] [] := by
        intro n
        induction n with
        | zero =>
          intro x2 h3 hf
          rw [z172] at hf
          cases hf
        | succ n ih172 =>
          intro x2 h3 hf
          have hf := (q172 n x2 h3).symm.trans hf
          refine s_iload_n C dX12_solveOn_172 rfl ?_
          refine s_bipush C dX12_solveOn_173 (v := (10 : Int32)) (by decide) ?_
          refine s_icmp_ge (tgt := 215) C dX12_solveOn_175 (by decide) hf (fun hf => ?_) (fun hf => ?_)
          · exact s_return C E dX12_solveOn_215 hf (Nat.le_of_ble_eq_true rfl) (Nat.le_of_ble_eq_true rfl)
          · refine s_iload_n C dX12_solveOn_178 rfl ?_
            refine s_iload_n C dX12_solveOn_179 rfl ?_
            refine s_ishr C dX12_solveOn_180 ?_
            refine s_iconst C dX12_solveOn_181 (v := (1 : Int32)) (by decide) ?_
            refine s_iand C dX12_solveOn_182 ?_
            refine s_iconst C dX12_solveOn_183 (v := (1 : Int32)) (by decide) ?_
            refine s_jn hf (fun j209 e209 hf => ?_)
            have k209 : ∀ (h4 : AH), j209 h4 = some r → WW X h4 0 0 209 [some (rB (xD X).1 o), some (.int a1), some (.int a2), some (.int x2), none] [] := by
              intro h4 hf
              rw [e209] at hf
              refine s_iinc C dX12_solveOn_209 (v := (x2 + 1)) rfl rfl (by decide) (nc_i rfl) (lv' := [some (rB (xD X).1 o), some (.int a1), some (.int a2), some (.int (x2 + 1)), none]) rfl ?_
              refine s_goto (tgt := 172) C dX12_solveOn_212 (by decide) ?_
              exact ih172 _ _ hf
            refine s_icmp_ne (tgt := 190) C dX12_solveOn_184 (by decide) hf (fun hf => ?_) (fun hf => ?_)
            · refine s_aload_n C dX12_solveOn_190 rfl ?_
              refine s_getR C fl_X12_118 dX12_solveOn_191 hf (fun v5 hf => ?_)
              refine s_iload_n C dX12_solveOn_194 rfl ?_
              refine s_iload_n C dX12_solveOn_195 rfl ?_
              refine s_iastore C dX12_solveOn_196 hf (fun h6 hf => ?_)
              refine s_aload_n C dX12_solveOn_197 rfl ?_
              refine s_iload_n C dX12_solveOn_198 rfl ?_
              refine s_iconst C dX12_solveOn_199 (v := (1 : Int32)) (by decide) ?_
              refine s_iadd C dX12_solveOn_200 ?_
              refine s_iload_n C dX12_solveOn_201 rfl ?_
              refine s_iconst C dX12_solveOn_202 (v := (1 : Int32)) (by decide) ?_
              refine s_iload_n C dX12_solveOn_203 rfl ?_
              refine s_ishl C dX12_solveOn_204 ?_
              refine s_ior C dX12_solveOn_205 ?_
              refine s_callV (rvf := fun _ => none) (st := []) (fr := (2 + nS)) (lo := (45 + 60 * nS)) (mc := 0) (ms := 0) C [12] wc_X12_solveOn wml_X12_506 wim_X12_solveOn wsl_12_X12_solveOn dX12_solveOn_206 (As := [.inl (a1 + (1 : Int32)), .inl (a2 ||| ((1 : Int32) <<< (x2 &&& 31)))]) rfl hf (fun x h' hF => ih o (a1 + (1 : Int32)) (a2 ||| ((1 : Int32) <<< (x2 &&& 31))) h6 (x, h') hF) rfl (Nat.le_of_ble_eq_true rfl) (room_ok hX (by omega) (by omega)) (cell_ok hX (Nat.le_of_ble_eq_true rfl) (Nat.le_of_ble_eq_true rfl)) (fun _ h7 hf => ?_)
              exact k209 _ hf
            · refine s_goto (tgt := 209) C dX12_solveOn_187 (by decide) ?_
              exact k209 _ hf
      exact k172 lpN _ _ hf
    · refine s_aload_n C dX12_solveOn_161 rfl ?_
      refine s_iload_n C dX12_solveOn_162 rfl ?_
      refine s_iconst C dX12_solveOn_163 (v := (1 : Int32)) (by decide) ?_
      refine s_iadd C dX12_solveOn_164 ?_
      refine s_iload_n C dX12_solveOn_165 rfl ?_
      refine s_callV (rvf := fun _ => none) (st := []) (fr := (2 + nS)) (lo := (45 + 60 * nS)) (mc := 0) (ms := 0) C [12] wc_X12_solveOn wml_X12_506 wim_X12_solveOn wsl_12_X12_solveOn dX12_solveOn_166 (As := [.inl (a1 + (1 : Int32)), .inl a2]) rfl hf (fun x h' hF => ih o (a1 + (1 : Int32)) a2 h (x, h') hF) rfl (Nat.le_of_ble_eq_true rfl) (room_ok hX (by omega) (by omega)) (cell_ok hX (Nat.le_of_ble_eq_true rfl) (Nat.le_of_ble_eq_true rfl)) (fun _ h8 hf => ?_)
      exact s_return C E dX12_solveOn_169 hf (Nat.le_of_ble_eq_true rfl) (Nat.le_of_ble_eq_true rfl)
  · refine s_aload_n C dX12_solveOn_6 rfl ?_
    refine s_callV (rvf := fun x => some (.int x)) (st := []) (fr := 1) (lo := 23) (mc := 0) (ms := 0) C [12] wc_X12_isSolved wml_X12_487 wim_X12_isSolved wsl_12_X12_isSolved dX12_solveOn_7 (As := []) rfl hf (fun x h' hF => c_X12_isSolved _ _ _ _ (x, h') hF) rfl (Nat.le_of_ble_eq_true rfl) (room_ok hX (by omega) (by omega)) (cell_ok hX (Nat.le_of_ble_eq_true rfl) (Nat.le_of_ble_eq_true rfl)) (fun v10 h9 hf => ?_)
    refine s_if_ne (tgt := 14) C dX12_solveOn_10 (by decide) hf (fun hf => ?_) (fun hf => ?_)
    · refine s_bipush C dX12_solveOn_14 (v := (10 : Int32)) (by decide) ?_
      refine s_aload_n C dX12_solveOn_16 rfl ?_
      refine s_aload_n C dX12_solveOn_17 rfl ?_
      refine s_aload_n C dX12_solveOn_18 rfl ?_
      refine s_getI C fl_X12_475 dX12_solveOn_19 hf (fun v11 hf => ?_)
      refine s_iconst C dX12_solveOn_22 (v := (5 : Int32)) (by decide) ?_
      refine s_callV (rvf := fun x => some (.int x)) (st := [rB (xD X).1 o, .int (10 : Int32)]) (fr := 0) (lo := 0) (mc := 0) (ms := 0) C [12] wc_X12_placeTold wml_X12_481 wim_X12_placeTold wsl_12_X12_placeTold dX12_solveOn_23 (As := [.inl v11, .inl (5 : Int32)]) rfl hf (fun x h' hF => c_X12_placeTold _ _ _ _ _ _ (x, h') hF) rfl (Nat.le_of_ble_eq_true rfl) (room_ok hX (by omega) (by omega)) (cell_ok hX (Nat.le_of_ble_eq_true rfl) (Nat.le_of_ble_eq_true rfl)) (fun v13 h12 hf => ?_)
      refine s_callV (rvf := fun x => some (.int x)) (st := [.int (10 : Int32)]) (fr := 0) (lo := 0) (mc := 0) (ms := 0) C [12] wc_X12_placeIs wml_X12_484 wim_X12_placeIs wsl_12_X12_placeIs dX12_solveOn_26 (As := [.inl v13]) rfl hf (fun x h' hF => c_X12_placeIs _ _ _ _ _ (x, h') hF) rfl (Nat.le_of_ble_eq_true rfl) (room_ok hX (by omega) (by omega)) (cell_ok hX (Nat.le_of_ble_eq_true rfl) (Nat.le_of_ble_eq_true rfl)) (fun v15 h14 hf => ?_)
      refine s_imul C dX12_solveOn_29 ?_
      refine s_aload_n C dX12_solveOn_30 rfl ?_
      refine s_aload_n C dX12_solveOn_31 rfl ?_
      refine s_aload_n C dX12_solveOn_32 rfl ?_
      refine s_getI C fl_X12_475 dX12_solveOn_33 hf (fun v16 hf => ?_)
      refine s_iconst C dX12_solveOn_36 (v := (4 : Int32)) (by decide) ?_
      refine s_callV (rvf := fun x => some (.int x)) (st := [rB (xD X).1 o, .int ((10 : Int32) * v15)]) (fr := 0) (lo := 0) (mc := 0) (ms := 0) C [12] wc_X12_placeTold wml_X12_481 wim_X12_placeTold wsl_12_X12_placeTold dX12_solveOn_37 (As := [.inl v16, .inl (4 : Int32)]) rfl hf (fun x h' hF => c_X12_placeTold _ _ _ _ _ _ (x, h') hF) rfl (Nat.le_of_ble_eq_true rfl) (room_ok hX (by omega) (by omega)) (cell_ok hX (Nat.le_of_ble_eq_true rfl) (Nat.le_of_ble_eq_true rfl)) (fun v18 h17 hf => ?_)
      refine s_callV (rvf := fun x => some (.int x)) (st := [.int ((10 : Int32) * v15)]) (fr := 0) (lo := 0) (mc := 0) (ms := 0) C [12] wc_X12_placeIs wml_X12_484 wim_X12_placeIs wsl_12_X12_placeIs dX12_solveOn_40 (As := [.inl v18]) rfl hf (fun x h' hF => c_X12_placeIs _ _ _ _ _ (x, h') hF) rfl (Nat.le_of_ble_eq_true rfl) (room_ok hX (by omega) (by omega)) (cell_ok hX (Nat.le_of_ble_eq_true rfl) (Nat.le_of_ble_eq_true rfl)) (fun v20 h19 hf => ?_)
      refine s_iadd C dX12_solveOn_43 ?_
      refine s_istore_n C dX12_solveOn_44 (by decide) (nc_i rfl) (lv' := [some (rB (xD X).1 o), some (.int a1), some (.int a2), some (.int (((10 : Int32) * v15) + v20)), none]) rfl ?_
      refine s_aload_n C dX12_solveOn_45 rfl ?_
      refine s_getI C fl_X12_490 dX12_solveOn_46 hf (fun v21 hf => ?_)
      refine s_aload_n C dX12_solveOn_49 rfl ?_
      refine s_getI C fl_X12_493 dX12_solveOn_50 hf (fun v22 hf => ?_)
      refine s_jn hf (fun j114 e114 hf => ?_)
      have k114 : ∀ (h23 : AH), j114 h23 = some r → WW X h23 0 0 114 [some (rB (xD X).1 o), none, none, some (.int (((10 : Int32) * v15) + v20)), none] [] := by
        intro h23 hf
        rw [e114] at hf
        refine s_iload_n C dX12_solveOn_114 rfl ?_
        refine s_aload_n C dX12_solveOn_115 rfl ?_
        refine s_getR C fl_X12_16 dX12_solveOn_116 hf (fun v24 hf => ?_)
        refine s_aload_n C dX12_solveOn_119 rfl ?_
        refine s_getI C fl_X12_475 dX12_solveOn_120 hf (fun v25 hf => ?_)
        refine s_iaload C dX12_solveOn_123 hf (fun v26 hf => ?_)
        refine s_jn hf (fun j139 e139 hf => ?_)
        have k139 : ∀ (h27 : AH), j139 h27 = some r → WW X h27 0 0 139 [some (rB (xD X).1 o), none, none, none, none] [] := by
          intro h27 hf
          rw [e139] at hf
          refine s_aload_n C dX12_solveOn_139 rfl ?_
          refine s_dup C dX12_solveOn_140 c1_r ?_
          refine s_getI C fl_X12_490 dX12_solveOn_141 hf (fun v28 hf => ?_)
          refine s_iconst C dX12_solveOn_144 (v := (1 : Int32)) (by decide) ?_
          refine s_iadd C dX12_solveOn_145 ?_
          refine s_putI C fl_X12_490 (by decide) dX12_solveOn_146 hf (fun h29 hf => ?_)
          exact s_return C E dX12_solveOn_149 hf (Nat.le_of_ble_eq_true rfl) (Nat.le_of_ble_eq_true rfl)
        refine s_icmp_eq (tgt := 139) C dX12_solveOn_124 (by decide) hf (fun hf => ?_) (fun hf => ?_)
        · refine s_weak (lv' := [some (rB (xD X).1 o), none, none, none, none]) ⟨rfl, trivial⟩ ?_
          exact k139 _ hf
        · refine s_aload_n C dX12_solveOn_127 rfl ?_
          refine s_dup C dX12_solveOn_128 c1_r ?_
          refine s_getL C fl_X12_502 dX12_solveOn_129 hf (fun v30 hf => ?_)
          refine s_lconst C dX12_solveOn_132 (v := (1 : Int64)) (by decide) ?_
          refine s_iload_n C dX12_solveOn_133 rfl ?_
          refine s_lshl C dX12_solveOn_134 ?_
          refine s_lor C dX12_solveOn_135 ?_
          refine s_putL C fl_X12_502 dX12_solveOn_136 hf (fun h31 hf => ?_)
          refine s_weak (lv' := [some (rB (xD X).1 o), none, none, none, none]) ⟨rfl, trivial⟩ ?_
          exact k139 _ hf
      refine s_icmp_ne (tgt := 114) C dX12_solveOn_53 (by decide) hf (fun hf => ?_) (fun hf => ?_)
      · refine s_weak (lv' := [some (rB (xD X).1 o), none, none, some (.int (((10 : Int32) * v15) + v20)), none]) ⟨rfl, ⟨rfl, trivial⟩⟩ ?_
        exact k114 _ hf
      · refine s_aload_n C dX12_solveOn_56 rfl ?_
        refine s_iconst C dX12_solveOn_57 (v := (0 : Int32)) (by decide) ?_
        refine s_putI C fl_X12_496 (by decide) dX12_solveOn_58 hf (fun h32 hf => ?_)
        refine s_iconst C dX12_solveOn_61 (v := (0 : Int32)) (by decide) ?_
        refine s_istore C dX12_solveOn_62 (by decide) (nc_i rfl) (lv' := [some (rB (xD X).1 o), some (.int a1), some (.int a2), some (.int (((10 : Int32) * v15) + v20)), some (.int (0 : Int32))]) rfl ?_
        refine s_lp2 hf (fun G64 z64 q64 hf => ?_)
        have k64 : ∀ (n : Nat) (x33 : Int32) (h34 : AH), G64 n x33 h34 = some r → WW X h34 0 0 64 [some (rB (xD X).1 o), none, none, some (.int (((10 : Int32) * v15) + v20)), some (.int x33)] [] := by
          intro n
          induction n with
          | zero =>
            intro x33 h34 hf
            rw [z64] at hf
            cases hf
          | succ n ih64 =>
            intro x33 h34 hf
            have hf := (q64 n x33 h34).symm.trans hf
            refine s_iload C dX12_solveOn_64 rfl ?_
            refine s_bipush C dX12_solveOn_66 (v := (6 : Int32)) (by decide) ?_
            refine s_icmp_ge (tgt := 109) C dX12_solveOn_68 (by decide) hf (fun hf => ?_) (fun hf => ?_)
            · refine s_aload_n C dX12_solveOn_109 rfl ?_
              refine s_iload_n C dX12_solveOn_110 rfl ?_
              refine s_putI C fl_X12_499 (by decide) dX12_solveOn_111 hf (fun h35 hf => ?_)
              refine s_weak (lv' := [some (rB (xD X).1 o), none, none, some (.int (((10 : Int32) * v15) + v20)), none]) ⟨rfl, ⟨rfl, trivial⟩⟩ ?_
              exact k114 _ hf
            · refine s_aload_n C dX12_solveOn_71 rfl ?_
              refine s_getI C fl_X12_472 dX12_solveOn_72 hf (fun v36 hf => ?_)
              refine s_iload C dX12_solveOn_75 rfl ?_
              refine s_ishr C dX12_solveOn_77 ?_
              refine s_iconst C dX12_solveOn_78 (v := (1 : Int32)) (by decide) ?_
              refine s_iand C dX12_solveOn_79 ?_
              refine s_iconst C dX12_solveOn_80 (v := (1 : Int32)) (by decide) ?_
              refine s_jn hf (fun j103 e103 hf => ?_)
              have k103 : ∀ (h37 : AH), j103 h37 = some r → WW X h37 0 0 103 [some (rB (xD X).1 o), none, none, some (.int (((10 : Int32) * v15) + v20)), some (.int x33)] [] := by
                intro h37 hf
                rw [e103] at hf
                refine s_iinc C dX12_solveOn_103 (v := (x33 + 1)) rfl rfl (by decide) (nc_i rfl) (lv' := [some (rB (xD X).1 o), none, none, some (.int (((10 : Int32) * v15) + v20)), some (.int (x33 + 1))]) rfl ?_
                refine s_goto (tgt := 64) C dX12_solveOn_106 (by decide) ?_
                exact ih64 _ _ hf
              refine s_icmp_ne (tgt := 103) C dX12_solveOn_81 (by decide) hf (fun hf => ?_) (fun hf => ?_)
              · exact k103 _ hf
              · refine s_aload_n C dX12_solveOn_84 rfl ?_
                refine s_bipush C dX12_solveOn_85 (v := (10 : Int32)) (by decide) ?_
                refine s_aload_n C dX12_solveOn_87 rfl ?_
                refine s_getI C fl_X12_496 dX12_solveOn_88 hf (fun v38 hf => ?_)
                refine s_imul C dX12_solveOn_91 ?_
                refine s_aload_n C dX12_solveOn_92 rfl ?_
                refine s_getR C fl_X12_118 dX12_solveOn_93 hf (fun v39 hf => ?_)
                refine s_iload C dX12_solveOn_96 rfl ?_
                refine s_iaload C dX12_solveOn_98 hf (fun v40 hf => ?_)
                refine s_iadd C dX12_solveOn_99 ?_
                refine s_putI C fl_X12_496 (by decide) dX12_solveOn_100 hf (fun h41 hf => ?_)
                exact k103 _ hf
        refine s_weak (lv' := [some (rB (xD X).1 o), none, none, some (.int (((10 : Int32) * v15) + v20)), some (.int (0 : Int32))]) ⟨rfl, ⟨rfl, ⟨rfl, trivial⟩⟩⟩ ?_
        exact k64 lpN _ _ hf
    · exact s_return C E dX12_solveOn_13 hf (Nat.le_of_ble_eq_true rfl) (Nat.le_of_ble_eq_true rfl)
theorem c_G_X12_solveOn (l : Launch) (D : DT) : ∀ n : Nat, PG_X12_solveOn l D n := by
  intro n
  induction n with
  | zero =>
    unfold PG_X12_solveOn
    exact fun p0 p1 p2 h r hf => (by cases hf)
  | succ nS ih =>
    unfold PG_X12_solveOn
    exact cs_X12_solveOn l D nS ih
theorem c_X12_solveOn (l : Launch) (D : DT) (o : Option Nat) (a1 : Int32) (a2 : Int32) (h : AH) (r : Unit × AH) (hf : f_X12_solveOn o a1 a2 h = some r) : CM l D yX12_solveOn cX12_solveOn 5 none 102 6045 0 0 [.inr (.inr o), .inl a1, .inl a2] h none r.2 := by
  have hc := (c_G_X12_solveOn l D (opq 100))
  unfold PG_X12_solveOn at hc
  have hc := hc o a1 a2 h r hf
  rw [opq_eq] at hc
  exact hc
