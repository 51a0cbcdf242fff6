/-- HillBoxesModel.hide(III)I -/
noncomputable def f_X12_hide (o : Option Nat) (a1 : Int32) (a2 : Int32) (a3 : Int32) (h : AH) : Option (Int32 × AH) :=
  rO h [12] o <| cl (f_X12_canAsk o a1 a2 a3 h) fun v2 h1 =>
  if v2 = 0 then
    some ((-1 : Int32), h1)
  else
    rO h1 [12] o <| cl (f_X12_whyNot o a1 a2 a3 h1) fun v4 h3 =>
    if v4 ≤ 0 then
      fI h3 [12] o 3 fun v5 =>
      if v5 = (150 : Int32) then
        some ((-3 : Int32), h3)
      else
        rO h3 [12] o <| cl (f_X12_add o a2 h3) fun v7 h6 =>
        fR h6 [12] o 8 fun v8 =>
        bI h6 20 v8 v7 a1 fun h9 =>
        fR h9 [12] o 5 fun v10 =>
        bI h9 20 v10 v7 a3 fun h11 =>
        lp (fun _ _ => none) (fun (L81 : Int32 → AH → Option (Int32 × AH)) (x12 : Int32) (h13 : AH) =>
          fI h13 [12] o 11 fun v14 =>
          jn (
            fR h13 [12] o 9 fun v15 =>
            jn (fun (x16 : Int32) =>
              bI h13 20 v15 v7 x16 fun h17 =>
              pI h17 [12] o 11 (0 : Int32) fun h18 =>
              some (v7, h18)) fun j139 =>
            if a2 = (3 : Int32) then
              fI h13 [12] o 11 fun v19 =>
              j139 v19
            else
              j139 (0 : Int32)) fun j120 =>
          if v14 ≤ x12 then
            j120
          else
            if a2 = (3 : Int32) then
              fR h13 [12] o 10 fun v20 =>
              fR h13 [12] o 12 fun v21 =>
              aI h13 20 v21 x12 fun v22 =>
              bI h13 20 v20 (((4 : Int32) * v7) + x12) v22 fun h23 =>
              L81 (x12 + 1) h23
            else
              j120) lpN (0 : Int32) h11
    else
      jn (fun (x24 : Int32) =>
        some (((-20 : Int32) - x24), h3)) fun j40 =>
      if v4 = (4 : Int32) then
        j40 (3 : Int32)
      else
        j40 v4
set_option maxRecDepth 100000 in
set_option maxHeartbeats 4000000 in
theorem c_X12_hide (l : Launch) (D : DT) (o : Option Nat) (a1 : Int32) (a2 : Int32) (a3 : Int32) (h : AH) (r : Int32 × AH) (hf : f_X12_hide o a1 a2 a3 h = some r) : CM l D yX12_hide cX12_hide 7 (some .int) 8 180 0 0 [.inr (.inr o), .inl a1, .inl a2, .inl a3] h (some (.int r.1)) r.2 := by
  refine CM.of (by decide) (Nat.le_of_ble_eq_true rfl) (fun X hl C hD hX hnm E => ?_)
  subst hl
  subst hD
  have C : CX X RX12 cX12_hide 7 := C
  show WW X h 0 0 0 [some (rB (xD X).1 o), some (.int a1), some (.int a2), some (.int a3), none, none, none] []
  unfold f_X12_hide at hf
  refine s_aload_n C dX12_hide_0 rfl ?_
  refine s_iload_n C dX12_hide_1 rfl ?_
  refine s_iload_n C dX12_hide_2 rfl ?_
  refine s_iload_n C dX12_hide_3 rfl ?_
  refine s_callV (rvf := fun x => some (.int x)) (st := []) (fr := 3) (lo := 64) (mc := 0) (ms := 0) C [12] wc_X12_canAsk wml_X12_457 wim_X12_canAsk wsl_12_X12_canAsk dX12_hide_4 (As := [.inl a1, .inl a2, .inl a3]) rfl hf (fun x h' hF => c_X12_canAsk _ _ _ _ _ _ _ (x, h') hF) rfl (Nat.le_of_ble_eq_true rfl) (room_ok hX (Nat.le_of_ble_eq_true rfl) (Nat.le_of_ble_eq_true rfl)) (cell_ok hX (Nat.le_of_ble_eq_true rfl) (Nat.le_of_ble_eq_true rfl)) (fun v2 h1 hf => ?_)
  refine s_if_ne (tgt := 12) C dX12_hide_7 (by decide) hf (fun hf => ?_) (fun hf => ?_)
  · refine s_aload_n C dX12_hide_12 rfl ?_
    refine s_iload_n C dX12_hide_13 rfl ?_
    refine s_iload_n C dX12_hide_14 rfl ?_
    refine s_iload_n C dX12_hide_15 rfl ?_
    refine s_callV (rvf := fun x => some (.int x)) (st := []) (fr := 7) (lo := 153) (mc := 0) (ms := 0) C [12] wc_X12_whyNot wml_X12_460 wim_X12_whyNot wsl_12_X12_whyNot dX12_hide_16 (As := [.inl a1, .inl a2, .inl a3]) rfl hf (fun x h' hF => c_X12_whyNot _ _ _ _ _ _ _ (x, h') hF) rfl (Nat.le_of_ble_eq_true rfl) (room_ok hX (Nat.le_of_ble_eq_true rfl) (Nat.le_of_ble_eq_true rfl)) (cell_ok hX (Nat.le_of_ble_eq_true rfl) (Nat.le_of_ble_eq_true rfl)) (fun v4 h3 hf => ?_)
    refine s_istore C dX12_hide_19 (by decide) (nc_i rfl) (lv' := [some (rB (xD X).1 o), some (.int a1), some (.int a2), some (.int a3), some (.int v4), none, none]) rfl ?_
    refine s_iload C dX12_hide_21 rfl ?_
    refine s_if_le (tgt := 42) C dX12_hide_23 (by decide) hf (fun hf => ?_) (fun hf => ?_)
    · refine s_aload_n C dX12_hide_42 rfl ?_
      refine s_getI C fl_X12_214 dX12_hide_43 hf (fun v5 hf => ?_)
      refine s_sipush C dX12_hide_46 (v := (150 : Int32)) (by decide) ?_
      refine s_icmp_ne (tgt := 55) C dX12_hide_49 (by decide) hf (fun hf => ?_) (fun hf => ?_)
      · refine s_aload_n C dX12_hide_55 rfl ?_
        refine s_iload_n C dX12_hide_56 rfl ?_
        refine s_callV (rvf := fun x => some (.int x)) (st := []) (fr := 0) (lo := 0) (mc := 0) (ms := 0) C [12] wc_X12_add wml_X12_227 wim_X12_add wsl_12_X12_add dX12_hide_57 (As := [.inl a2]) rfl hf (fun x h' hF => c_X12_add _ _ _ _ _ (x, h') hF) rfl (Nat.le_of_ble_eq_true rfl) (room_ok hX (Nat.le_of_ble_eq_true rfl) (Nat.le_of_ble_eq_true rfl)) (cell_ok hX (Nat.le_of_ble_eq_true rfl) (Nat.le_of_ble_eq_true rfl)) (fun v7 h6 hf => ?_)
        refine s_istore C dX12_hide_60 (by decide) (nc_i rfl) (lv' := [some (rB (xD X).1 o), some (.int a1), some (.int a2), some (.int a3), some (.int v4), some (.int v7), none]) rfl ?_
        refine s_aload_n C dX12_hide_62 rfl ?_
        refine s_getR C fl_X12_25 dX12_hide_63 hf (fun v8 hf => ?_)
        refine s_iload C dX12_hide_66 rfl ?_
        refine s_iload_n C dX12_hide_68 rfl ?_
        refine s_iastore C dX12_hide_69 hf (fun h9 hf => ?_)
        refine s_aload_n C dX12_hide_70 rfl ?_
        refine s_getR C fl_X12_16 dX12_hide_71 hf (fun v10 hf => ?_)
        refine s_iload C dX12_hide_74 rfl ?_
        refine s_iload_n C dX12_hide_76 rfl ?_
        refine s_iastore C dX12_hide_77 hf (fun h11 hf => ?_)
        refine s_iconst C dX12_hide_78 (v := (0 : Int32)) (by decide) ?_
        refine s_istore C dX12_hide_79 (by decide) (nc_i rfl) (lv' := [some (rB (xD X).1 o), some (.int a1), some (.int a2), some (.int a3), some (.int v4), some (.int v7), some (.int (0 : Int32))]) rfl ?_
        refine s_lp2 hf (fun G81 z81 q81 hf => ?_)
        have k81 : ∀ (n : Nat) (x12 : Int32) (h13 : AH), G81 n x12 h13 = some r → WW X h13 0 0 81 [some (rB (xD X).1 o), none, some (.int a2), none, none, some (.int v7), some (.int x12)] [] := by
          intro n
          induction n with
          | zero =>
            intro x12 h13 hf
            rw [z81] at hf
            cases hf
          | succ n ih81 =>
            intro x12 h13 hf
            have hf := (q81 n x12 h13).symm.trans hf
            refine s_iload C dX12_hide_81 rfl ?_
            refine s_aload_n C dX12_hide_83 rfl ?_
            refine s_getI C fl_X12_233 dX12_hide_84 hf (fun v14 hf => ?_)
            refine s_jn hf (fun j120 e120 hf => ?_)
            have k120 : j120  = some r → WW X h13 0 0 120 [some (rB (xD X).1 o), none, some (.int a2), none, none, some (.int v7), none] [] := by
              intro  hf
              rw [e120] at hf
              refine s_aload_n C dX12_hide_120 rfl ?_
              refine s_getR C fl_X12_28 dX12_hide_121 hf (fun v15 hf => ?_)
              refine s_iload C dX12_hide_124 rfl ?_
              refine s_iload_n C dX12_hide_126 rfl ?_
              refine s_iconst C dX12_hide_127 (v := (3 : Int32)) (by decide) ?_
              refine s_jn hf (fun j139 e139 hf => ?_)
              have k139 : ∀ (x16 : Int32), j139 x16 = some r → WW X h13 0 0 139 [some (rB (xD X).1 o), none, none, none, none, some (.int v7), none] [.int x16, .int v7, rB (xD X).1 v15] := by
                intro x16 hf
                rw [e139] at hf
                refine s_iastore C dX12_hide_139 hf (fun h17 hf => ?_)
                refine s_aload_n C dX12_hide_140 rfl ?_
                refine s_iconst C dX12_hide_141 (v := (0 : Int32)) (by decide) ?_
                refine s_putI C fl_X12_233 (by decide) dX12_hide_142 hf (fun h18 hf => ?_)
                refine s_iload C dX12_hide_145 rfl ?_
                exact s_ireturn C E dX12_hide_147 hf (Nat.le_of_ble_eq_true rfl) (Nat.le_of_ble_eq_true rfl)
              refine s_icmp_ne (tgt := 138) C dX12_hide_128 (by decide) hf (fun hf => ?_) (fun hf => ?_)
              · refine s_iconst C dX12_hide_138 (v := (0 : Int32)) (by decide) ?_
                refine s_weak (lv' := [some (rB (xD X).1 o), none, none, none, none, some (.int v7), none]) ⟨rfl, ⟨rfl, trivial⟩⟩ ?_
                exact k139 _ hf
              · refine s_aload_n C dX12_hide_131 rfl ?_
                refine s_getI C fl_X12_233 dX12_hide_132 hf (fun v19 hf => ?_)
                refine s_goto (tgt := 139) C dX12_hide_135 (by decide) ?_
                refine s_weak (lv' := [some (rB (xD X).1 o), none, none, none, none, some (.int v7), none]) ⟨rfl, ⟨rfl, trivial⟩⟩ ?_
                exact k139 _ hf
            refine s_icmp_ge (tgt := 120) C dX12_hide_87 (by decide) hf (fun hf => ?_) (fun hf => ?_)
            · refine s_weak (lv' := [some (rB (xD X).1 o), none, some (.int a2), none, none, some (.int v7), none]) ⟨rfl, ⟨rfl, ⟨rfl, trivial⟩⟩⟩ ?_
              exact k120 hf
            · refine s_iload_n C dX12_hide_90 rfl ?_
              refine s_iconst C dX12_hide_91 (v := (3 : Int32)) (by decide) ?_
              refine s_icmp_ne (tgt := 120) C dX12_hide_92 (by decide) hf (fun hf => ?_) (fun hf => ?_)
              · refine s_weak (lv' := [some (rB (xD X).1 o), none, some (.int a2), none, none, some (.int v7), none]) ⟨rfl, ⟨rfl, ⟨rfl, trivial⟩⟩⟩ ?_
                exact k120 hf
              · refine s_aload_n C dX12_hide_95 rfl ?_
                refine s_getR C fl_X12_31 dX12_hide_96 hf (fun v20 hf => ?_)
                refine s_iconst C dX12_hide_99 (v := (4 : Int32)) (by decide) ?_
                refine s_iload C dX12_hide_100 rfl ?_
                refine s_imul C dX12_hide_102 ?_
                refine s_iload C dX12_hide_103 rfl ?_
                refine s_iadd C dX12_hide_105 ?_
                refine s_aload_n C dX12_hide_106 rfl ?_
                refine s_getR C fl_X12_34 dX12_hide_107 hf (fun v21 hf => ?_)
                refine s_iload C dX12_hide_110 rfl ?_
                refine s_iaload C dX12_hide_112 hf (fun v22 hf => ?_)
                refine s_iastore C dX12_hide_113 hf (fun h23 hf => ?_)
                refine s_iinc C dX12_hide_114 (v := (x12 + 1)) rfl rfl (by decide) (nc_i rfl) (lv' := [some (rB (xD X).1 o), none, some (.int a2), none, none, some (.int v7), some (.int (x12 + 1))]) rfl ?_
                refine s_goto (tgt := 81) C dX12_hide_117 (by decide) ?_
                exact ih81 _ _ hf
        refine s_weak (lv' := [some (rB (xD X).1 o), none, some (.int a2), none, none, some (.int v7), some (.int (0 : Int32))]) ⟨rfl, ⟨rfl, ⟨rfl, ⟨rfl, trivial⟩⟩⟩⟩ ?_
        exact k81 lpN _ _ hf
      · refine s_bipush C dX12_hide_52 (v := (-3 : Int32)) (by decide) ?_
        exact s_ireturn C E dX12_hide_54 hf (Nat.le_of_ble_eq_true rfl) (Nat.le_of_ble_eq_true rfl)
    · refine s_bipush C dX12_hide_26 (v := (-20 : Int32)) (by decide) ?_
      refine s_iload C dX12_hide_28 rfl ?_
      refine s_iconst C dX12_hide_30 (v := (4 : Int32)) (by decide) ?_
      refine s_jn hf (fun j40 e40 hf => ?_)
      have k40 : ∀ (x24 : Int32), j40 x24 = some r → WW X h3 0 0 40 [none, none, none, none, none, none, none] [.int x24, .int (-20 : Int32)] := by
        intro x24 hf
        rw [e40] at hf
        refine s_isub C dX12_hide_40 ?_
        exact s_ireturn C E dX12_hide_41 hf (Nat.le_of_ble_eq_true rfl) (Nat.le_of_ble_eq_true rfl)
      refine s_icmp_ne (tgt := 38) C dX12_hide_31 (by decide) hf (fun hf => ?_) (fun hf => ?_)
      · refine s_iload C dX12_hide_38 rfl ?_
        refine s_weak (lv' := [none, none, none, none, none, none, none]) trivial ?_
        exact k40 _ hf
      · refine s_iconst C dX12_hide_34 (v := (3 : Int32)) (by decide) ?_
        refine s_goto (tgt := 40) C dX12_hide_35 (by decide) ?_
        refine s_weak (lv' := [none, none, none, none, none, none, none]) trivial ?_
        exact k40 _ hf
  · refine s_iconst C dX12_hide_10 (v := (-1 : Int32)) (by decide) ?_
    exact s_ireturn C E dX12_hide_11 hf (Nat.le_of_ble_eq_true rfl) (Nat.le_of_ble_eq_true rfl)
/-- HillBoxesModel.isDay(I)Z -/
noncomputable def f_X12_isDay (a0 : Int32) (h : AH) : Option (Int32 × AH) :=
  cl (f_X12_in a0 (0 : Int32) (999 : Int32) h) fun v2 h1 =>
  rz v2 h1
set_option maxRecDepth 100000 in
set_option maxHeartbeats 4000000 in
theorem c_X12_isDay (l : Launch) (D : DT) (a0 : Int32) (h : AH) (r : Int32 × AH) (hf : f_X12_isDay a0 h = some r) : CM l D yX12_isDay cX12_isDay 1 (some .boolean) 1 22 0 0 [.inl a0] h (some (.int r.1)) r.2 := by
  refine CM.of (by decide) (Nat.le_of_ble_eq_true rfl) (fun X hl C hD hX hnm E => ?_)
  subst hl
  subst hD
  have C : CX X RX12 cX12_isDay 1 := C
  show WW X h 0 0 0 [some (.int a0)] []
  unfold f_X12_isDay at hf
  refine s_iload_n C dX12_isDay_0 rfl ?_
  refine s_iconst C dX12_isDay_1 (v := (0 : Int32)) (by decide) ?_
  refine s_sipush C dX12_isDay_2 (v := (999 : Int32)) (by decide) ?_
  refine s_callS (rvf := fun x => some (.int x)) (st := []) (fr := 0) (lo := 0) (mc := 0) (ms := 0) C wc_X12_in wml_X12_195 wst_X12_in dX12_isDay_5 (As := [.inl a0, .inl (0 : Int32), .inl (999 : Int32)]) rfl hf (fun x h' hF => c_X12_in _ _ _ _ _ _ (x, h') hF) rfl (Nat.le_of_ble_eq_true rfl) (room_ok hX (Nat.le_of_ble_eq_true rfl) (Nat.le_of_ble_eq_true rfl)) (cell_ok hX (Nat.le_of_ble_eq_true rfl) (Nat.le_of_ble_eq_true rfl)) (fun v2 h1 hf => ?_)
  exact s_zreturn C E dX12_isDay_8 hf (Nat.le_of_ble_eq_true rfl) (Nat.le_of_ble_eq_true rfl)
/-- HillBoxesModel.isUse(I)Z -/
noncomputable def f_X12_isUse (a0 : Int32) (h : AH) : Option (Int32 × AH) :=
  cl (f_X12_in a0 (0 : Int32) (4 : Int32) h) fun v2 h1 =>
  jn (fun (x3 : Int32) (h4 : AH) =>
    rz x3 h4) fun j25 =>
  jn (fun (h5 : AH) =>
    j25 (1 : Int32) h5) fun j20 =>
  if v2 = 0 then
    cl (f_X12_in a0 (10 : Int32) (19 : Int32) h1) fun v7 h6 =>
    if v7 = 0 then
      j25 (0 : Int32) h6
    else
      j20 h6
  else
    j20 h1
set_option maxRecDepth 100000 in
set_option maxHeartbeats 4000000 in
theorem c_X12_isUse (l : Launch) (D : DT) (a0 : Int32) (h : AH) (r : Int32 × AH) (hf : f_X12_isUse a0 h = some r) : CM l D yX12_isUse cX12_isUse 1 (some .boolean) 1 22 0 0 [.inl a0] h (some (.int r.1)) r.2 := by
  refine CM.of (by decide) (Nat.le_of_ble_eq_true rfl) (fun X hl C hD hX hnm E => ?_)
  subst hl
  subst hD
  have C : CX X RX12 cX12_isUse 1 := C
  show WW X h 0 0 0 [some (.int a0)] []
  unfold f_X12_isUse at hf
  refine s_iload_n C dX12_isUse_0 rfl ?_
  refine s_iconst C dX12_isUse_1 (v := (0 : Int32)) (by decide) ?_
  refine s_iconst C dX12_isUse_2 (v := (4 : Int32)) (by decide) ?_
  refine s_callS (rvf := fun x => some (.int x)) (st := []) (fr := 0) (lo := 0) (mc := 0) (ms := 0) C wc_X12_in wml_X12_195 wst_X12_in dX12_isUse_3 (As := [.inl a0, .inl (0 : Int32), .inl (4 : Int32)]) rfl hf (fun x h' hF => c_X12_in _ _ _ _ _ _ (x, h') hF) rfl (Nat.le_of_ble_eq_true rfl) (room_ok hX (Nat.le_of_ble_eq_true rfl) (Nat.le_of_ble_eq_true rfl)) (cell_ok hX (Nat.le_of_ble_eq_true rfl) (Nat.le_of_ble_eq_true rfl)) (fun v2 h1 hf => ?_)
  refine s_jn hf (fun j25 e25 hf => ?_)
  have k25 : ∀ (x3 : Int32) (h4 : AH), j25 x3 h4 = some r → WW X h4 0 0 25 [none] [.int x3] := by
    intro x3 h4 hf
    rw [e25] at hf
    exact s_zreturn C E dX12_isUse_25 hf (Nat.le_of_ble_eq_true rfl) (Nat.le_of_ble_eq_true rfl)
  refine s_jn hf (fun j20 e20 hf => ?_)
  have k20 : ∀ (h5 : AH), j20 h5 = some r → WW X h5 0 0 20 [none] [] := by
    intro h5 hf
    rw [e20] at hf
    refine s_iconst C dX12_isUse_20 (v := (1 : Int32)) (by decide) ?_
    refine s_goto (tgt := 25) C dX12_isUse_21 (by decide) ?_
    exact k25 _ _ hf
  refine s_if_ne (tgt := 20) C dX12_isUse_6 (by decide) hf (fun hf => ?_) (fun hf => ?_)
  · refine s_weak (lv' := [none]) trivial ?_
    exact k20 _ hf
  · refine s_iload_n C dX12_isUse_9 rfl ?_
    refine s_bipush C dX12_isUse_10 (v := (10 : Int32)) (by decide) ?_
    refine s_bipush C dX12_isUse_12 (v := (19 : Int32)) (by decide) ?_
    refine s_callS (rvf := fun x => some (.int x)) (st := []) (fr := 0) (lo := 0) (mc := 0) (ms := 0) C wc_X12_in wml_X12_195 wst_X12_in dX12_isUse_14 (As := [.inl a0, .inl (10 : Int32), .inl (19 : Int32)]) rfl hf (fun x h' hF => c_X12_in _ _ _ _ _ _ (x, h') hF) rfl (Nat.le_of_ble_eq_true rfl) (room_ok hX (Nat.le_of_ble_eq_true rfl) (Nat.le_of_ble_eq_true rfl)) (cell_ok hX (Nat.le_of_ble_eq_true rfl) (Nat.le_of_ble_eq_true rfl)) (fun v7 h6 hf => ?_)
    refine s_if_eq (tgt := 24) C dX12_isUse_17 (by decide) hf (fun hf => ?_) (fun hf => ?_)
    · refine s_iconst C dX12_isUse_24 (v := (0 : Int32)) (by decide) ?_
      refine s_weak (lv' := [none]) trivial ?_
      exact k25 _ _ hf
    · refine s_weak (lv' := [none]) trivial ?_
      exact k20 _ hf
/-- HillBoxesModel.inForce(III)I -/
noncomputable def f_X12_inForce (o : Option Nat) (a1 : Int32) (a2 : Int32) (a3 : Int32) (h : AH) : Option (Int32 × AH) :=
  cl (f_X12_isUse a1 h) fun v2 h1 =>
  jn (fun (x3 : Int32) (h4 : AH) =>
    some (x3, h4)) fun j32 =>
  jn (fun (h5 : AH) =>
    j32 (-1 : Int32) h5) fun j31 =>
  if v2 = 0 then
    j31 h1
  else
    cl (f_X12_isDay a2 h1) fun v7 h6 =>
    if v7 = 0 then
      j31 h6
    else
      cl (f_X12_isDay a3 h6) fun v9 h8 =>
      if v9 = 0 then
        j31 h8
      else
        rO h8 [12] o <| cl (f_X12_forceOf o a1 a2 a3 h8) fun v11 h10 =>
        j32 v11 h10
set_option maxRecDepth 100000 in
set_option maxHeartbeats 4000000 in
theorem c_X12_inForce (l : Launch) (D : DT) (o : Option Nat) (a1 : Int32) (a2 : Int32) (a3 : Int32) (h : AH) (r : Int32 × AH) (hf : f_X12_inForce o a1 a2 a3 h = some r) : CM l D yX12_inForce cX12_inForce 4 (some .int) 2 42 0 0 [.inr (.inr o), .inl a1, .inl a2, .inl a3] h (some (.int r.1)) r.2 := by
  refine CM.of (by decide) (Nat.le_of_ble_eq_true rfl) (fun X hl C hD hX hnm E => ?_)
  subst hl
  subst hD
  have C : CX X RX12 cX12_inForce 4 := C
  show WW X h 0 0 0 [some (rB (xD X).1 o), some (.int a1), some (.int a2), some (.int a3)] []
  unfold f_X12_inForce at hf
  refine s_iload_n C dX12_inForce_0 rfl ?_
  refine s_callS (rvf := fun x => some (.int x)) (st := []) (fr := 1) (lo := 22) (mc := 0) (ms := 0) C wc_X12_isUse wml_X12_419 wst_X12_isUse dX12_inForce_1 (As := [.inl a1]) rfl hf (fun x h' hF => c_X12_isUse _ _ _ _ (x, h') hF) rfl (Nat.le_of_ble_eq_true rfl) (room_ok hX (Nat.le_of_ble_eq_true rfl) (Nat.le_of_ble_eq_true rfl)) (cell_ok hX (Nat.le_of_ble_eq_true rfl) (Nat.le_of_ble_eq_true rfl)) (fun v2 h1 hf => ?_)
  refine s_jn hf (fun j32 e32 hf => ?_)
  have k32 : ∀ (x3 : Int32) (h4 : AH), j32 x3 h4 = some r → WW X h4 0 0 32 [none, none, none, none] [.int x3] := by
    intro x3 h4 hf
    rw [e32] at hf
    exact s_ireturn C E dX12_inForce_32 hf (Nat.le_of_ble_eq_true rfl) (Nat.le_of_ble_eq_true rfl)
  refine s_jn hf (fun j31 e31 hf => ?_)
  have k31 : ∀ (h5 : AH), j31 h5 = some r → WW X h5 0 0 31 [none, none, none, none] [] := by
    intro h5 hf
    rw [e31] at hf
    refine s_iconst C dX12_inForce_31 (v := (-1 : Int32)) (by decide) ?_
    exact k32 _ _ hf
  refine s_if_eq (tgt := 31) C dX12_inForce_4 (by decide) hf (fun hf => ?_) (fun hf => ?_)
  · refine s_weak (lv' := [none, none, none, none]) trivial ?_
    exact k31 _ hf
  · refine s_iload_n C dX12_inForce_7 rfl ?_
    refine s_callS (rvf := fun x => some (.int x)) (st := []) (fr := 1) (lo := 22) (mc := 0) (ms := 0) C wc_X12_isDay wml_X12_245 wst_X12_isDay dX12_inForce_8 (As := [.inl a2]) rfl hf (fun x h' hF => c_X12_isDay _ _ _ _ (x, h') hF) rfl (Nat.le_of_ble_eq_true rfl) (room_ok hX (Nat.le_of_ble_eq_true rfl) (Nat.le_of_ble_eq_true rfl)) (cell_ok hX (Nat.le_of_ble_eq_true rfl) (Nat.le_of_ble_eq_true rfl)) (fun v7 h6 hf => ?_)
    refine s_if_eq (tgt := 31) C dX12_inForce_11 (by decide) hf (fun hf => ?_) (fun hf => ?_)
    · refine s_weak (lv' := [none, none, none, none]) trivial ?_
      exact k31 _ hf
    · refine s_iload_n C dX12_inForce_14 rfl ?_
      refine s_callS (rvf := fun x => some (.int x)) (st := []) (fr := 1) (lo := 22) (mc := 0) (ms := 0) C wc_X12_isDay wml_X12_245 wst_X12_isDay dX12_inForce_15 (As := [.inl a3]) rfl hf (fun x h' hF => c_X12_isDay _ _ _ _ (x, h') hF) rfl (Nat.le_of_ble_eq_true rfl) (room_ok hX (Nat.le_of_ble_eq_true rfl) (Nat.le_of_ble_eq_true rfl)) (cell_ok hX (Nat.le_of_ble_eq_true rfl) (Nat.le_of_ble_eq_true rfl)) (fun v9 h8 hf => ?_)
      refine s_if_eq (tgt := 31) C dX12_inForce_18 (by decide) hf (fun hf => ?_) (fun hf => ?_)
      · refine s_weak (lv' := [none, none, none, none]) trivial ?_
        exact k31 _ hf
      · refine s_aload_n C dX12_inForce_21 rfl ?_
        refine s_iload_n C dX12_inForce_22 rfl ?_
        refine s_iload_n C dX12_inForce_23 rfl ?_
        refine s_iload_n C dX12_inForce_24 rfl ?_
        refine s_callV (rvf := fun x => some (.int x)) (st := []) (fr := 0) (lo := 0) (mc := 0) (ms := 0) C [12] wc_X12_forceOf wml_X12_425 wim_X12_forceOf wsl_12_X12_forceOf dX12_inForce_25 (As := [.inl a1, .inl a2, .inl a3]) rfl hf (fun x h' hF => c_X12_forceOf _ _ _ _ _ _ _ (x, h') hF) rfl (Nat.le_of_ble_eq_true rfl) (room_ok hX (Nat.le_of_ble_eq_true rfl) (Nat.le_of_ble_eq_true rfl)) (cell_ok hX (Nat.le_of_ble_eq_true rfl) (Nat.le_of_ble_eq_true rfl)) (fun v11 h10 hf => ?_)
        refine s_goto (tgt := 32) C dX12_inForce_28 (by decide) ?_
        refine s_weak (lv' := [none, none, none, none]) trivial ?_
        exact k32 _ _ hf
/-- HillBoxesModel.isLog(I)Z -/
noncomputable def f_X12_isLog (o : Option Nat) (a1 : Int32) (h : AH) : Option (Int32 × AH) :=
  fI h [12] o 17 fun v1 =>
  cl (f_X12_in a1 (0 : Int32) (v1 - (1 : Int32)) h) fun v3 h2 =>
  rz v3 h2
set_option maxRecDepth 100000 in
set_option maxHeartbeats 4000000 in
theorem c_X12_isLog (l : Launch) (D : DT) (o : Option Nat) (a1 : Int32) (h : AH) (r : Int32 × AH) (hf : f_X12_isLog o a1 h = some r) : CM l D yX12_isLog cX12_isLog 2 (some .boolean) 1 22 0 0 [.inr (.inr o), .inl a1] h (some (.int r.1)) r.2 := by
  refine CM.of (by decide) (Nat.le_of_ble_eq_true rfl) (fun X hl C hD hX hnm E => ?_)
  subst hl
  subst hD
  have C : CX X RX12 cX12_isLog 2 := C
  show WW X h 0 0 0 [some (rB (xD X).1 o), some (.int a1)] []
  unfold f_X12_isLog at hf
  refine s_iload_n C dX12_isLog_0 rfl ?_
  refine s_iconst C dX12_isLog_1 (v := (0 : Int32)) (by decide) ?_
  refine s_aload_n C dX12_isLog_2 rfl ?_
  refine s_getI C fl_X12_252 dX12_isLog_3 hf (fun v1 hf => ?_)
  refine s_iconst C dX12_isLog_6 (v := (1 : Int32)) (by decide) ?_
  refine s_isub C dX12_isLog_7 ?_
  refine s_callS (rvf := fun x => some (.int x)) (st := []) (fr := 0) (lo := 0) (mc := 0) (ms := 0) C wc_X12_in wml_X12_195 wst_X12_in dX12_isLog_8 (As := [.inl a1, .inl (0 : Int32), .inl (v1 - (1 : Int32))]) rfl hf (fun x h' hF => c_X12_in _ _ _ _ _ _ (x, h') hF) rfl (Nat.le_of_ble_eq_true rfl) (room_ok hX (Nat.le_of_ble_eq_true rfl) (Nat.le_of_ble_eq_true rfl)) (cell_ok hX (Nat.le_of_ble_eq_true rfl) (Nat.le_of_ble_eq_true rfl)) (fun v3 h2 hf => ?_)
  exact s_zreturn C E dX12_isLog_11 hf (Nat.le_of_ble_eq_true rfl) (Nat.le_of_ble_eq_true rfl)
/-- HillBoxesModel.isFalse(II)I -/
noncomputable def f_X12_isFalse (o : Option Nat) (a1 : Int32) (a2 : Int32) (h : AH) : Option (Int32 × AH) :=
  rO h [12] o <| cl (f_X12_isLog o a1 h) fun v2 h1 =>
  jn (fun (h3 : AH) =>
    some ((-1 : Int32), h3)) fun j17 =>
  if v2 = 0 then
    j17 h1
  else
    cl (f_X12_in a2 (0 : Int32) (1 : Int32) h1) fun v5 h4 =>
    if v5 = 0 then
      j17 h4
    else
      rO h4 [12] o <| cl (f_X12_falseOf o a1 h4) fun v7 h6 =>
      jn (fun (x8 : Int32) (h9 : AH) =>
        some (x8, h9)) fun j47 =>
      if a2 = 0 then
        j47 v7 h6
      else
        if v7 = (2 : Int32) then
          rO h6 [12] o <| cl (f_X12_clash o a1 h6) fun v11 h10 =>
          j47 v11 h10
        else
          j47 (-1 : Int32) h6
set_option maxRecDepth 100000 in
set_option maxHeartbeats 4000000 in
theorem c_X12_isFalse (l : Launch) (D : DT) (o : Option Nat) (a1 : Int32) (a2 : Int32) (h : AH) (r : Int32 × AH) (hf : f_X12_isFalse o a1 a2 h = some r) : CM l D yX12_isFalse cX12_isFalse 4 (some .int) 5 114 0 0 [.inr (.inr o), .inl a1, .inl a2] h (some (.int r.1)) r.2 := by
  refine CM.of (by decide) (Nat.le_of_ble_eq_true rfl) (fun X hl C hD hX hnm E => ?_)
  subst hl
  subst hD
  have C : CX X RX12 cX12_isFalse 4 := C
  show WW X h 0 0 0 [some (rB (xD X).1 o), some (.int a1), some (.int a2), none] []
  unfold f_X12_isFalse at hf
  refine s_aload_n C dX12_isFalse_0 rfl ?_
  refine s_iload_n C dX12_isFalse_1 rfl ?_
  refine s_callV (rvf := fun x => some (.int x)) (st := []) (fr := 1) (lo := 22) (mc := 0) (ms := 0) C [12] wc_X12_isLog wml_X12_318 wim_X12_isLog wsl_12_X12_isLog dX12_isFalse_2 (As := [.inl a1]) rfl hf (fun x h' hF => c_X12_isLog _ _ _ _ _ (x, h') hF) rfl (Nat.le_of_ble_eq_true rfl) (room_ok hX (Nat.le_of_ble_eq_true rfl) (Nat.le_of_ble_eq_true rfl)) (cell_ok hX (Nat.le_of_ble_eq_true rfl) (Nat.le_of_ble_eq_true rfl)) (fun v2 h1 hf => ?_)
  refine s_jn hf (fun j17 e17 hf => ?_)
  have k17 : ∀ (h3 : AH), j17 h3 = some r → WW X h3 0 0 17 [none, none, none, none] [] := by
    intro h3 hf
    rw [e17] at hf
    refine s_iconst C dX12_isFalse_17 (v := (-1 : Int32)) (by decide) ?_
    exact s_ireturn C E dX12_isFalse_18 hf (Nat.le_of_ble_eq_true rfl) (Nat.le_of_ble_eq_true rfl)
  refine s_if_eq (tgt := 17) C dX12_isFalse_5 (by decide) hf (fun hf => ?_) (fun hf => ?_)
  · refine s_weak (lv' := [none, none, none, none]) trivial ?_
    exact k17 _ hf
  · refine s_iload_n C dX12_isFalse_8 rfl ?_
    refine s_iconst C dX12_isFalse_9 (v := (0 : Int32)) (by decide) ?_
    refine s_iconst C dX12_isFalse_10 (v := (1 : Int32)) (by decide) ?_
    refine s_callS (rvf := fun x => some (.int x)) (st := []) (fr := 0) (lo := 0) (mc := 0) (ms := 0) C wc_X12_in wml_X12_195 wst_X12_in dX12_isFalse_11 (As := [.inl a2, .inl (0 : Int32), .inl (1 : Int32)]) rfl hf (fun x h' hF => c_X12_in _ _ _ _ _ _ (x, h') hF) rfl (Nat.le_of_ble_eq_true rfl) (room_ok hX (Nat.le_of_ble_eq_true rfl) (Nat.le_of_ble_eq_true rfl)) (cell_ok hX (Nat.le_of_ble_eq_true rfl) (Nat.le_of_ble_eq_true rfl)) (fun v5 h4 hf => ?_)
    refine s_if_ne (tgt := 19) C dX12_isFalse_14 (by decide) hf (fun hf => ?_) (fun hf => ?_)
    · refine s_aload_n C dX12_isFalse_19 rfl ?_
      refine s_iload_n C dX12_isFalse_20 rfl ?_
      refine s_callV (rvf := fun x => some (.int x)) (st := []) (fr := 4) (lo := 90) (mc := 0) (ms := 0) C [12] wc_X12_falseOf wml_X12_321 wim_X12_falseOf wsl_12_X12_falseOf dX12_isFalse_21 (As := [.inl a1]) rfl hf (fun x h' hF => c_X12_falseOf _ _ _ _ _ (x, h') hF) rfl (Nat.le_of_ble_eq_true rfl) (room_ok hX (Nat.le_of_ble_eq_true rfl) (Nat.le_of_ble_eq_true rfl)) (cell_ok hX (Nat.le_of_ble_eq_true rfl) (Nat.le_of_ble_eq_true rfl)) (fun v7 h6 hf => ?_)
      refine s_istore_n C dX12_isFalse_24 (by decide) (nc_i rfl) (lv' := [some (rB (xD X).1 o), some (.int a1), some (.int a2), some (.int v7)]) rfl ?_
      refine s_iload_n C dX12_isFalse_25 rfl ?_
      refine s_jn hf (fun j47 e47 hf => ?_)
      have k47 : ∀ (x8 : Int32) (h9 : AH), j47 x8 h9 = some r → WW X h9 0 0 47 [none, none, none, none] [.int x8] := by
        intro x8 h9 hf
        rw [e47] at hf
        exact s_ireturn C E dX12_isFalse_47 hf (Nat.le_of_ble_eq_true rfl) (Nat.le_of_ble_eq_true rfl)
      refine s_if_ne (tgt := 33) C dX12_isFalse_26 (by decide) hf (fun hf => ?_) (fun hf => ?_)
      · refine s_iload_n C dX12_isFalse_33 rfl ?_
        refine s_iconst C dX12_isFalse_34 (v := (2 : Int32)) (by decide) ?_
        refine s_icmp_ne (tgt := 46) C dX12_isFalse_35 (by decide) hf (fun hf => ?_) (fun hf => ?_)
        · refine s_iconst C dX12_isFalse_46 (v := (-1 : Int32)) (by decide) ?_
          refine s_weak (lv' := [none, none, none, none]) trivial ?_
          exact k47 _ _ hf
        · refine s_aload_n C dX12_isFalse_38 rfl ?_
          refine s_iload_n C dX12_isFalse_39 rfl ?_
          refine s_callV (rvf := fun x => some (.int x)) (st := []) (fr := 3) (lo := 66) (mc := 0) (ms := 0) C [12] wc_X12_clash wml_X12_311 wim_X12_clash wsl_12_X12_clash dX12_isFalse_40 (As := [.inl a1]) rfl hf (fun x h' hF => c_X12_clash _ _ _ _ _ (x, h') hF) rfl (Nat.le_of_ble_eq_true rfl) (room_ok hX (Nat.le_of_ble_eq_true rfl) (Nat.le_of_ble_eq_true rfl)) (cell_ok hX (Nat.le_of_ble_eq_true rfl) (Nat.le_of_ble_eq_true rfl)) (fun v11 h10 hf => ?_)
          refine s_goto (tgt := 47) C dX12_isFalse_43 (by decide) ?_
          refine s_weak (lv' := [none, none, none, none]) trivial ?_
          exact k47 _ _ hf
      · refine s_iload_n C dX12_isFalse_29 rfl ?_
        refine s_goto (tgt := 47) C dX12_isFalse_30 (by decide) ?_
        refine s_weak (lv' := [none, none, none, none]) trivial ?_
        exact k47 _ _ hf
    · refine s_weak (lv' := [none, none, none, none]) trivial ?_
      exact k17 _ hf
/-- HillBoxesModel.hasFound(II)Z -/
noncomputable def f_X12_hasFound (o : Option Nat) (a1 : Int32) (a2 : Int32) (h : AH) : Option (Int32 × AH) :=
  lp (fun _ => none) (fun (L2 : Int32 → Option (Int32 × AH)) (x1 : Int32) =>
    fI h [12] o 17 fun v2 =>
    if v2 ≤ x1 then
      rz (0 : Int32) h
    else
      fR h [12] o 18 fun v3 =>
      aI h 20 v3 x1 fun v4 =>
      jn (
        L2 (x1 + 1)) fun j41 =>
      if v4 = a1 then
        fR h [12] o 19 fun v5 =>
        aI h 20 v5 x1 fun v6 =>
        if v6 = a2 then
          fR h [12] o 21 fun v7 =>
          aI h 23 v7 x1 fun v8 =>
          if v8 = 0 then
            j41
          else
            rz (1 : Int32) h
        else
          j41
      else
        j41) lpN (0 : Int32)
set_option maxRecDepth 100000 in
set_option maxHeartbeats 4000000 in
theorem c_X12_hasFound (l : Launch) (D : DT) (o : Option Nat) (a1 : Int32) (a2 : Int32) (h : AH) (r : Int32 × AH) (hf : f_X12_hasFound o a1 a2 h = some r) : CM l D yX12_hasFound cX12_hasFound 4 (some .boolean) 0 0 0 0 [.inr (.inr o), .inl a1, .inl a2] h (some (.int r.1)) r.2 := by
  refine CM.of (by decide) (Nat.le_of_ble_eq_true rfl) (fun X hl C hD hX hnm E => ?_)
  subst hl
  subst hD
  have C : CX X RX12 cX12_hasFound 4 := C
  show WW X h 0 0 0 [some (rB (xD X).1 o), some (.int a1), some (.int a2), none] []
  unfold f_X12_hasFound at hf
  refine s_iconst C dX12_hasFound_0 (v := (0 : Int32)) (by decide) ?_
  refine s_istore_n C dX12_hasFound_1 (by decide) (nc_i rfl) (lv' := [some (rB (xD X).1 o), some (.int a1), some (.int a2), some (.int (0 : Int32))]) rfl ?_
  refine s_lp1 hf (fun G2 z2 q2 hf => ?_)
  have k2 : ∀ (n : Nat) (x1 : Int32), G2 n x1 = some r → WW X h 0 0 2 [some (rB (xD X).1 o), some (.int a1), some (.int a2), some (.int x1)] [] := by
    intro n
    induction n with
    | zero =>
      intro x1 hf
      rw [z2] at hf
      cases hf
    | succ n ih2 =>
      intro x1 hf
      have hf := (q2 n x1).symm.trans hf
      refine s_iload_n C dX12_hasFound_2 rfl ?_
      refine s_aload_n C dX12_hasFound_3 rfl ?_
      refine s_getI C fl_X12_252 dX12_hasFound_4 hf (fun v2 hf => ?_)
      refine s_icmp_ge (tgt := 47) C dX12_hasFound_7 (by decide) hf (fun hf => ?_) (fun hf => ?_)
      · refine s_iconst C dX12_hasFound_47 (v := (0 : Int32)) (by decide) ?_
        exact s_zreturn C E dX12_hasFound_48 hf (Nat.le_of_ble_eq_true rfl) (Nat.le_of_ble_eq_true rfl)
      · refine s_aload_n C dX12_hasFound_10 rfl ?_
        refine s_getR C fl_X12_46 dX12_hasFound_11 hf (fun v3 hf => ?_)
        refine s_iload_n C dX12_hasFound_14 rfl ?_
        refine s_iaload C dX12_hasFound_15 hf (fun v4 hf => ?_)
        refine s_iload_n C dX12_hasFound_16 rfl ?_
        refine s_jn hf (fun j41 e41 hf => ?_)
        have k41 : j41  = some r → WW X h 0 0 41 [some (rB (xD X).1 o), some (.int a1), some (.int a2), some (.int x1)] [] := by
          intro  hf
          rw [e41] at hf
          refine s_iinc C dX12_hasFound_41 (v := (x1 + 1)) rfl rfl (by decide) (nc_i rfl) (lv' := [some (rB (xD X).1 o), some (.int a1), some (.int a2), some (.int (x1 + 1))]) rfl ?_
          refine s_goto (tgt := 2) C dX12_hasFound_44 (by decide) ?_
          exact ih2 _ hf
        refine s_icmp_ne (tgt := 41) C dX12_hasFound_17 (by decide) hf (fun hf => ?_) (fun hf => ?_)
        · exact k41 hf
        · refine s_aload_n C dX12_hasFound_20 rfl ?_
          refine s_getR C fl_X12_49 dX12_hasFound_21 hf (fun v5 hf => ?_)
          refine s_iload_n C dX12_hasFound_24 rfl ?_
          refine s_iaload C dX12_hasFound_25 hf (fun v6 hf => ?_)
          refine s_iload_n C dX12_hasFound_26 rfl ?_
          refine s_icmp_ne (tgt := 41) C dX12_hasFound_27 (by decide) hf (fun hf => ?_) (fun hf => ?_)
          · exact k41 hf
          · refine s_aload_n C dX12_hasFound_30 rfl ?_
            refine s_getR C fl_X12_55 dX12_hasFound_31 hf (fun v7 hf => ?_)
            refine s_iload_n C dX12_hasFound_34 rfl ?_
            refine s_zaload C dX12_hasFound_35 hf (fun v8 hf => ?_)
            refine s_if_eq (tgt := 41) C dX12_hasFound_36 (by decide) hf (fun hf => ?_) (fun hf => ?_)
            · exact k41 hf
            · refine s_iconst C dX12_hasFound_39 (v := (1 : Int32)) (by decide) ?_
              exact s_zreturn C E dX12_hasFound_40 hf (Nat.le_of_ble_eq_true rfl) (Nat.le_of_ble_eq_true rfl)
  exact k2 lpN _ hf
/-- HillBoxesModel.isJoined(III)Z -/
noncomputable def f_X12_isJoined (o : Option Nat) (a1 : Int32) (a2 : Int32) (a3 : Int32) (h : AH) : Option (Int32 × AH) :=
  rO h [12] o <| cl (f_X12_hasFound o a1 a2 h) fun v2 h1 =>
  rO h1 [12] o <| cl (f_X12_isOnPaper o a1 a2 h1) fun v4 h3 =>
  jn (fun (x5 : Int32) =>
    rz x5 h3) fun j76 =>
  if a3 = 0 then
    jn (
      j76 (0 : Int32)) fun j34 =>
    if v2 = 0 then
      j34
    else
      if v4 = 0 then
        j34
      else
        j76 (1 : Int32)
  else
    if a3 = (1 : Int32) then
      jn (
        j76 (0 : Int32)) fun j57 =>
      if v2 = 0 then
        j57
      else
        if v4 = 0 then
          j76 (1 : Int32)
        else
          j57
    else
      jn (
        j76 (0 : Int32)) fun j75 =>
      if v4 = 0 then
        j75
      else
        if v2 = 0 then
          j76 (1 : Int32)
        else
          j75
set_option maxRecDepth 100000 in
set_option maxHeartbeats 4000000 in
theorem c_X12_isJoined (l : Launch) (D : DT) (o : Option Nat) (a1 : Int32) (a2 : Int32) (a3 : Int32) (h : AH) (r : Int32 × AH) (hf : f_X12_isJoined o a1 a2 a3 h = some r) : CM l D yX12_isJoined cX12_isJoined 6 (some .boolean) 1 23 0 0 [.inr (.inr o), .inl a1, .inl a2, .inl a3] h (some (.int r.1)) r.2 := by
  refine CM.of (by decide) (Nat.le_of_ble_eq_true rfl) (fun X hl C hD hX hnm E => ?_)
  subst hl
  subst hD
  have C : CX X RX12 cX12_isJoined 6 := C
  show WW X h 0 0 0 [some (rB (xD X).1 o), some (.int a1), some (.int a2), some (.int a3), none, none] []
  unfold f_X12_isJoined at hf
  refine s_aload_n C dX12_isJoined_0 rfl ?_
  refine s_iload_n C dX12_isJoined_1 rfl ?_
  refine s_iload_n C dX12_isJoined_2 rfl ?_
  refine s_callV (rvf := fun x => some (.int x)) (st := []) (fr := 0) (lo := 0) (mc := 0) (ms := 0) C [12] wc_X12_hasFound wml_X12_279 wim_X12_hasFound wsl_12_X12_hasFound dX12_isJoined_3 (As := [.inl a1, .inl a2]) rfl hf (fun x h' hF => c_X12_hasFound _ _ _ _ _ _ (x, h') hF) rfl (Nat.le_of_ble_eq_true rfl) (room_ok hX (Nat.le_of_ble_eq_true rfl) (Nat.le_of_ble_eq_true rfl)) (cell_ok hX (Nat.le_of_ble_eq_true rfl) (Nat.le_of_ble_eq_true rfl)) (fun v2 h1 hf => ?_)
  refine s_istore C dX12_isJoined_6 (by decide) (nc_i rfl) (lv' := [some (rB (xD X).1 o), some (.int a1), some (.int a2), some (.int a3), some (.int v2), none]) rfl ?_
  refine s_aload_n C dX12_isJoined_8 rfl ?_
  refine s_iload_n C dX12_isJoined_9 rfl ?_
  refine s_iload_n C dX12_isJoined_10 rfl ?_
  refine s_callV (rvf := fun x => some (.int x)) (st := []) (fr := 0) (lo := 0) (mc := 0) (ms := 0) C [12] wc_X12_isOnPaper wml_X12_282 wim_X12_isOnPaper wsl_12_X12_isOnPaper dX12_isJoined_11 (As := [.inl a1, .inl a2]) rfl hf (fun x h' hF => c_X12_isOnPaper _ _ _ _ _ _ (x, h') hF) rfl (Nat.le_of_ble_eq_true rfl) (room_ok hX (Nat.le_of_ble_eq_true rfl) (Nat.le_of_ble_eq_true rfl)) (cell_ok hX (Nat.le_of_ble_eq_true rfl) (Nat.le_of_ble_eq_true rfl)) (fun v4 h3 hf => ?_)
  refine s_istore C dX12_isJoined_14 (by decide) (nc_i rfl) (lv' := [some (rB (xD X).1 o), some (.int a1), some (.int a2), some (.int a3), some (.int v2), some (.int v4)]) rfl ?_
  refine s_iload_n C dX12_isJoined_16 rfl ?_
  refine s_jn hf (fun j76 e76 hf => ?_)
  have k76 : ∀ (x5 : Int32), j76 x5 = some r → WW X h3 0 0 76 [none, none, none, none, none, none] [.int x5] := by
    intro x5 hf
    rw [e76] at hf
    exact s_zreturn C E dX12_isJoined_76 hf (Nat.le_of_ble_eq_true rfl) (Nat.le_of_ble_eq_true rfl)
  refine s_if_ne (tgt := 38) C dX12_isJoined_17 (by decide) hf (fun hf => ?_) (fun hf => ?_)
  · refine s_iload_n C dX12_isJoined_38 rfl ?_
    refine s_iconst C dX12_isJoined_39 (v := (1 : Int32)) (by decide) ?_
    refine s_icmp_ne (tgt := 61) C dX12_isJoined_40 (by decide) hf (fun hf => ?_) (fun hf => ?_)
    · refine s_iload C dX12_isJoined_61 rfl ?_
      refine s_jn hf (fun j75 e75 hf => ?_)
      have k75 : j75  = some r → WW X h3 0 0 75 [none, none, none, none, none, none] [] := by
        intro  hf
        rw [e75] at hf
        refine s_iconst C dX12_isJoined_75 (v := (0 : Int32)) (by decide) ?_
        exact k76 _ hf
      refine s_if_eq (tgt := 75) C dX12_isJoined_63 (by decide) hf (fun hf => ?_) (fun hf => ?_)
      · refine s_weak (lv' := [none, none, none, none, none, none]) trivial ?_
        exact k75 hf
      · refine s_iload C dX12_isJoined_66 rfl ?_
        refine s_if_ne (tgt := 75) C dX12_isJoined_68 (by decide) hf (fun hf => ?_) (fun hf => ?_)
        · refine s_weak (lv' := [none, none, none, none, none, none]) trivial ?_
          exact k75 hf
        · refine s_iconst C dX12_isJoined_71 (v := (1 : Int32)) (by decide) ?_
          refine s_goto (tgt := 76) C dX12_isJoined_72 (by decide) ?_
          refine s_weak (lv' := [none, none, none, none, none, none]) trivial ?_
          exact k76 _ hf
    · refine s_iload C dX12_isJoined_43 rfl ?_
      refine s_jn hf (fun j57 e57 hf => ?_)
      have k57 : j57  = some r → WW X h3 0 0 57 [none, none, none, none, none, none] [] := by
        intro  hf
        rw [e57] at hf
        refine s_iconst C dX12_isJoined_57 (v := (0 : Int32)) (by decide) ?_
        refine s_goto (tgt := 76) C dX12_isJoined_58 (by decide) ?_
        exact k76 _ hf
      refine s_if_eq (tgt := 57) C dX12_isJoined_45 (by decide) hf (fun hf => ?_) (fun hf => ?_)
      · refine s_weak (lv' := [none, none, none, none, none, none]) trivial ?_
        exact k57 hf
      · refine s_iload C dX12_isJoined_48 rfl ?_
        refine s_if_ne (tgt := 57) C dX12_isJoined_50 (by decide) hf (fun hf => ?_) (fun hf => ?_)
        · refine s_weak (lv' := [none, none, none, none, none, none]) trivial ?_
          exact k57 hf
        · refine s_iconst C dX12_isJoined_53 (v := (1 : Int32)) (by decide) ?_
          refine s_goto (tgt := 76) C dX12_isJoined_54 (by decide) ?_
          refine s_weak (lv' := [none, none, none, none, none, none]) trivial ?_
          exact k76 _ hf
  · refine s_iload C dX12_isJoined_20 rfl ?_
    refine s_jn hf (fun j34 e34 hf => ?_)
    have k34 : j34  = some r → WW X h3 0 0 34 [none, none, none, none, none, none] [] := by
      intro  hf
      rw [e34] at hf
      refine s_iconst C dX12_isJoined_34 (v := (0 : Int32)) (by decide) ?_
      refine s_goto (tgt := 76) C dX12_isJoined_35 (by decide) ?_
      exact k76 _ hf
    refine s_if_eq (tgt := 34) C dX12_isJoined_22 (by decide) hf (fun hf => ?_) (fun hf => ?_)
    · refine s_weak (lv' := [none, none, none, none, none, none]) trivial ?_
      exact k34 hf
    · refine s_iload C dX12_isJoined_25 rfl ?_
      refine s_if_eq (tgt := 34) C dX12_isJoined_27 (by decide) hf (fun hf => ?_) (fun hf => ?_)
      · refine s_weak (lv' := [none, none, none, none, none, none]) trivial ?_
        exact k34 hf
      · refine s_iconst C dX12_isJoined_30 (v := (1 : Int32)) (by decide) ?_
        refine s_goto (tgt := 76) C dX12_isJoined_31 (by decide) ?_
        refine s_weak (lv' := [none, none, none, none, none, none]) trivial ?_
        exact k76 _ hf
/-- HillBoxesModel.join(III)I -/
noncomputable def f_X12_join (o : Option Nat) (a1 : Int32) (a2 : Int32) (a3 : Int32) (h : AH) : Option (Int32 × AH) :=
  rO h [12] o <| cl (f_X12_isBox o a1 h) fun v2 h1 =>
  jn (fun (h3 : AH) =>
    some ((-1 : Int32), h3)) fun j22 =>
  if v2 = 0 then
    j22 h1
  else
    cl (f_X12_in a2 (0 : Int32) (2 : Int32) h1) fun v5 h4 =>
    if v5 = 0 then
      j22 h4
    else
      if (-1 : Int32) ≤ a3 then
        lp (fun _ _ _ => none) (fun (L30 : Int32 → Int32 → AH → Option (Int32 × AH)) (x6 : Int32) (x7 : Int32) (h8 : AH) =>
          fI h8 [12] o 3 fun v9 =>
          if v9 ≤ x7 then
            jn (fun (x10 : Int32) =>
              some (x10, h8)) fun j93 =>
            if 0 ≤ a3 then
              j93 (-1 : Int32)
            else
              j93 x6
          else
            fR h8 [12] o 4 fun v11 =>
            aI h8 20 v11 x7 fun v12 =>
            jn (fun (x13 : Int32) (h14 : AH) =>
              L30 x13 (x7 + 1) h14) fun j77 =>
            if v12 = (7 : Int32) then
              rO h8 [12] o <| cl (f_X12_isJoined o x7 a1 a2 h8) fun v16 h15 =>
              if v16 = 0 then
                j77 x6 h15
              else
                if x6 = a3 then
                  some (x7, h15)
                else
                  j77 (x6 + 1) h15
            else
              j77 x6 h8) lpN (0 : Int32) (0 : Int32) h4
      else
        j22 h4
set_option maxRecDepth 100000 in
set_option maxHeartbeats 4000000 in
theorem c_X12_join (l : Launch) (D : DT) (o : Option Nat) (a1 : Int32) (a2 : Int32) (a3 : Int32) (h : AH) (r : Int32 × AH) (hf : f_X12_join o a1 a2 a3 h = some r) : CM l D yX12_join cX12_join 6 (some .int) 3 64 0 0 [.inr (.inr o), .inl a1, .inl a2, .inl a3] h (some (.int r.1)) r.2 := by
  refine CM.of (by decide) (Nat.le_of_ble_eq_true rfl) (fun X hl C hD hX hnm E => ?_)
  subst hl
  subst hD
  have C : CX X RX12 cX12_join 6 := C
  show WW X h 0 0 0 [some (rB (xD X).1 o), some (.int a1), some (.int a2), some (.int a3), none, none] []
  unfold f_X12_join at hf
  refine s_aload_n C dX12_join_0 rfl ?_
  refine s_iload_n C dX12_join_1 rfl ?_
  refine s_callV (rvf := fun x => some (.int x)) (st := []) (fr := 2) (lo := 43) (mc := 0) (ms := 0) C [12] wc_X12_isBox wml_X12_224 wim_X12_isBox wsl_12_X12_isBox dX12_join_2 (As := [.inl a1]) rfl hf (fun x h' hF => c_X12_isBox _ _ _ _ _ (x, h') hF) rfl (Nat.le_of_ble_eq_true rfl) (room_ok hX (Nat.le_of_ble_eq_true rfl) (Nat.le_of_ble_eq_true rfl)) (cell_ok hX (Nat.le_of_ble_eq_true rfl) (Nat.le_of_ble_eq_true rfl)) (fun v2 h1 hf => ?_)
  refine s_jn hf (fun j22 e22 hf => ?_)
  have k22 : ∀ (h3 : AH), j22 h3 = some r → WW X h3 0 0 22 [none, none, none, none, none, none] [] := by
    intro h3 hf
    rw [e22] at hf
    refine s_iconst C dX12_join_22 (v := (-1 : Int32)) (by decide) ?_
    exact s_ireturn C E dX12_join_23 hf (Nat.le_of_ble_eq_true rfl) (Nat.le_of_ble_eq_true rfl)
  refine s_if_eq (tgt := 22) C dX12_join_5 (by decide) hf (fun hf => ?_) (fun hf => ?_)
  · refine s_weak (lv' := [none, none, none, none, none, none]) trivial ?_
    exact k22 _ hf
  · refine s_iload_n C dX12_join_8 rfl ?_
    refine s_iconst C dX12_join_9 (v := (0 : Int32)) (by decide) ?_
    refine s_iconst C dX12_join_10 (v := (2 : Int32)) (by decide) ?_
    refine s_callS (rvf := fun x => some (.int x)) (st := []) (fr := 0) (lo := 0) (mc := 0) (ms := 0) C wc_X12_in wml_X12_195 wst_X12_in dX12_join_11 (As := [.inl a2, .inl (0 : Int32), .inl (2 : Int32)]) rfl hf (fun x h' hF => c_X12_in _ _ _ _ _ _ (x, h') hF) rfl (Nat.le_of_ble_eq_true rfl) (room_ok hX (Nat.le_of_ble_eq_true rfl) (Nat.le_of_ble_eq_true rfl)) (cell_ok hX (Nat.le_of_ble_eq_true rfl) (Nat.le_of_ble_eq_true rfl)) (fun v5 h4 hf => ?_)
    refine s_if_eq (tgt := 22) C dX12_join_14 (by decide) hf (fun hf => ?_) (fun hf => ?_)
    · refine s_weak (lv' := [none, none, none, none, none, none]) trivial ?_
      exact k22 _ hf
    · refine s_iload_n C dX12_join_17 rfl ?_
      refine s_iconst C dX12_join_18 (v := (-1 : Int32)) (by decide) ?_
      refine s_icmp_ge (tgt := 24) C dX12_join_19 (by decide) hf (fun hf => ?_) (fun hf => ?_)
      · refine s_iconst C dX12_join_24 (v := (0 : Int32)) (by decide) ?_
        refine s_istore C dX12_join_25 (by decide) (nc_i rfl) (lv' := [some (rB (xD X).1 o), some (.int a1), some (.int a2), some (.int a3), some (.int (0 : Int32)), none]) rfl ?_
        refine s_iconst C dX12_join_27 (v := (0 : Int32)) (by decide) ?_
        refine s_istore C dX12_join_28 (by decide) (nc_i rfl) (lv' := [some (rB (xD X).1 o), some (.int a1), some (.int a2), some (.int a3), some (.int (0 : Int32)), some (.int (0 : Int32))]) rfl ?_
        refine s_lp3 hf (fun G30 z30 q30 hf => ?_)
        have k30 : ∀ (n : Nat) (x6 : Int32) (x7 : Int32) (h8 : AH), G30 n x6 x7 h8 = some r → WW X h8 0 0 30 [some (rB (xD X).1 o), some (.int a1), some (.int a2), some (.int a3), some (.int x6), some (.int x7)] [] := by
          intro n
          induction n with
          | zero =>
            intro x6 x7 h8 hf
            rw [z30] at hf
            cases hf
          | succ n ih30 =>
            intro x6 x7 h8 hf
            have hf := (q30 n x6 x7 h8).symm.trans hf
            refine s_iload C dX12_join_30 rfl ?_
            refine s_aload_n C dX12_join_32 rfl ?_
            refine s_getI C fl_X12_214 dX12_join_33 hf (fun v9 hf => ?_)
            refine s_icmp_ge (tgt := 83) C dX12_join_36 (by decide) hf (fun hf => ?_) (fun hf => ?_)
            · refine s_iload_n C dX12_join_83 rfl ?_
              refine s_jn hf (fun j93 e93 hf => ?_)
              have k93 : ∀ (x10 : Int32), j93 x10 = some r → WW X h8 0 0 93 [none, none, none, none, none, none] [.int x10] := by
                intro x10 hf
                rw [e93] at hf
                exact s_ireturn C E dX12_join_93 hf (Nat.le_of_ble_eq_true rfl) (Nat.le_of_ble_eq_true rfl)
              refine s_if_ge (tgt := 92) C dX12_join_84 (by decide) hf (fun hf => ?_) (fun hf => ?_)
              · refine s_iconst C dX12_join_92 (v := (-1 : Int32)) (by decide) ?_
                refine s_weak (lv' := [none, none, none, none, none, none]) trivial ?_
                exact k93 _ hf
              · refine s_iload C dX12_join_87 rfl ?_
                refine s_goto (tgt := 93) C dX12_join_89 (by decide) ?_
                refine s_weak (lv' := [none, none, none, none, none, none]) trivial ?_
                exact k93 _ hf
            · refine s_aload_n C dX12_join_39 rfl ?_
              refine s_getR C fl_X12_13 dX12_join_40 hf (fun v11 hf => ?_)
              refine s_iload C dX12_join_43 rfl ?_
              refine s_iaload C dX12_join_45 hf (fun v12 hf => ?_)
              refine s_bipush C dX12_join_46 (v := (7 : Int32)) (by decide) ?_
              refine s_jn hf (fun j77 e77 hf => ?_)
              have k77 : ∀ (x13 : Int32) (h14 : AH), j77 x13 h14 = some r → WW X h14 0 0 77 [some (rB (xD X).1 o), some (.int a1), some (.int a2), some (.int a3), some (.int x13), some (.int x7)] [] := by
                intro x13 h14 hf
                rw [e77] at hf
                refine s_iinc C dX12_join_77 (v := (x7 + 1)) rfl rfl (by decide) (nc_i rfl) (lv' := [some (rB (xD X).1 o), some (.int a1), some (.int a2), some (.int a3), some (.int x13), some (.int (x7 + 1))]) rfl ?_
                refine s_goto (tgt := 30) C dX12_join_80 (by decide) ?_
                exact ih30 _ _ _ hf
              refine s_icmp_ne (tgt := 77) C dX12_join_48 (by decide) hf (fun hf => ?_) (fun hf => ?_)
              · exact k77 _ _ hf
              · refine s_aload_n C dX12_join_51 rfl ?_
                refine s_iload C dX12_join_52 rfl ?_
                refine s_iload_n C dX12_join_54 rfl ?_
                refine s_iload_n C dX12_join_55 rfl ?_
                refine s_callV (rvf := fun x => some (.int x)) (st := []) (fr := 1) (lo := 23) (mc := 0) (ms := 0) C [12] wc_X12_isJoined wml_X12_285 wim_X12_isJoined wsl_12_X12_isJoined dX12_join_56 (As := [.inl x7, .inl a1, .inl a2]) rfl hf (fun x h' hF => c_X12_isJoined _ _ _ _ _ _ _ (x, h') hF) rfl (Nat.le_of_ble_eq_true rfl) (room_ok hX (Nat.le_of_ble_eq_true rfl) (Nat.le_of_ble_eq_true rfl)) (cell_ok hX (Nat.le_of_ble_eq_true rfl) (Nat.le_of_ble_eq_true rfl)) (fun v16 h15 hf => ?_)
                refine s_if_ne (tgt := 65) C dX12_join_59 (by decide) hf (fun hf => ?_) (fun hf => ?_)
                · refine s_iload C dX12_join_65 rfl ?_
                  refine s_iload_n C dX12_join_67 rfl ?_
                  refine s_icmp_ne (tgt := 74) C dX12_join_68 (by decide) hf (fun hf => ?_) (fun hf => ?_)
                  · refine s_iinc C dX12_join_74 (v := (x6 + 1)) rfl rfl (by decide) (nc_i rfl) (lv' := [some (rB (xD X).1 o), some (.int a1), some (.int a2), some (.int a3), some (.int (x6 + 1)), some (.int x7)]) rfl ?_
                    exact k77 _ _ hf
                  · refine s_iload C dX12_join_71 rfl ?_
                    exact s_ireturn C E dX12_join_73 hf (Nat.le_of_ble_eq_true rfl) (Nat.le_of_ble_eq_true rfl)
                · refine s_goto (tgt := 77) C dX12_join_62 (by decide) ?_
                  exact k77 _ _ hf
        exact k30 lpN _ _ _ hf
      · refine s_weak (lv' := [none, none, none, none, none, none]) trivial ?_
        exact k22 _ hf
/-- HillBoxesModel.begin(II)V -/
noncomputable def f_X12_begin (o : Option Nat) (a1 : Int32) (a2 : Int32) (h : AH) : Option (Unit × AH) :=
  nz (24 : Int32) <|
  pI h [12] o 77 (a1 / (24 : Int32)) fun h1 =>
  nz (24 : Int32) <|
  pI h1 [12] o 78 (a1 - a1 / (24 : Int32) * (24 : Int32)) fun h2 =>
  pI h2 [12] o 79 a2 fun h3 =>
  some ((), h3)
set_option maxRecDepth 100000 in
set_option maxHeartbeats 4000000 in
theorem c_X12_begin (l : Launch) (D : DT) (o : Option Nat) (a1 : Int32) (a2 : Int32) (h : AH) (r : Unit × AH) (hf : f_X12_begin o a1 a2 h = some r) : CM l D yX12_begin cX12_begin 3 none 0 0 0 0 [.inr (.inr o), .inl a1, .inl a2] h none r.2 := by
  refine CM.of (by decide) (Nat.le_of_ble_eq_true rfl) (fun X hl C hD hX hnm E => ?_)
  subst hl
  subst hD
  have C : CX X RX12 cX12_begin 3 := C
  show WW X h 0 0 0 [some (rB (xD X).1 o), some (.int a1), some (.int a2)] []
  unfold f_X12_begin at hf
  refine s_aload_n C dX12_begin_0 rfl ?_
  refine s_iload_n C dX12_begin_1 rfl ?_
  refine s_bipush C dX12_begin_2 (v := (24 : Int32)) (by decide) ?_
  refine s_idiv C dX12_begin_4 hf (fun hf => ?_)
  refine s_putI C fl_X12_539 (by decide) dX12_begin_5 hf (fun h1 hf => ?_)
  refine s_aload_n C dX12_begin_8 rfl ?_
  refine s_iload_n C dX12_begin_9 rfl ?_
  refine s_bipush C dX12_begin_10 (v := (24 : Int32)) (by decide) ?_
  refine s_irem C dX12_begin_12 hf (fun hf => ?_)
  refine s_putI C fl_X12_542 (by decide) dX12_begin_13 hf (fun h2 hf => ?_)
  refine s_aload_n C dX12_begin_16 rfl ?_
  refine s_iload_n C dX12_begin_17 rfl ?_
  refine s_putI C fl_X12_545 (by decide) dX12_begin_18 hf (fun h3 hf => ?_)
  exact s_return C E dX12_begin_21 hf (Nat.le_of_ble_eq_true rfl) (Nat.le_of_ble_eq_true rfl)
/-- HillBoxesModel.hoursFor(II)I -/
noncomputable def f_X12_hoursFor (a0 : Int32) (a1 : Int32) (h : AH) : Option (Int32 × AH) :=
  cl (f_X12_farOf a0 a1 h) fun v2 h1 =>
  nz (2 : Int32) <|
  some (((v2 + (1 : Int32)) / (2 : Int32)), h1)
set_option maxRecDepth 100000 in
set_option maxHeartbeats 4000000 in
theorem c_X12_hoursFor (l : Launch) (D : DT) (a0 : Int32) (a1 : Int32) (h : AH) (r : Int32 × AH) (hf : f_X12_hoursFor a0 a1 h = some r) : CM l D yX12_hoursFor cX12_hoursFor 2 (some .int) 2 41 0 0 [.inl a0, .inl a1] h (some (.int r.1)) r.2 := by
  refine CM.of (by decide) (Nat.le_of_ble_eq_true rfl) (fun X hl C hD hX hnm E => ?_)
  subst hl
  subst hD
  have C : CX X RX12 cX12_hoursFor 2 := C
  show WW X h 0 0 0 [some (.int a0), some (.int a1)] []
  unfold f_X12_hoursFor at hf
  refine s_iload_n C dX12_hoursFor_0 rfl ?_
  refine s_iload_n C dX12_hoursFor_1 rfl ?_
  refine s_callS (rvf := fun x => some (.int x)) (st := []) (fr := 1) (lo := 20) (mc := 0) (ms := 0) C wc_X12_farOf wml_X12_308 wst_X12_farOf dX12_hoursFor_2 (As := [.inl a0, .inl a1]) rfl hf (fun x h' hF => c_X12_farOf _ _ _ _ _ (x, h') hF) rfl (Nat.le_of_ble_eq_true rfl) (room_ok hX (Nat.le_of_ble_eq_true rfl) (Nat.le_of_ble_eq_true rfl)) (cell_ok hX (Nat.le_of_ble_eq_true rfl) (Nat.le_of_ble_eq_true rfl)) (fun v2 h1 hf => ?_)
  refine s_iconst C dX12_hoursFor_5 (v := (1 : Int32)) (by decide) ?_
  refine s_iadd C dX12_hoursFor_6 ?_
  refine s_iconst C dX12_hoursFor_7 (v := (2 : Int32)) (by decide) ?_
  refine s_idiv C dX12_hoursFor_8 hf (fun hf => ?_)
  exact s_ireturn C E dX12_hoursFor_9 hf (Nat.le_of_ble_eq_true rfl) (Nat.le_of_ble_eq_true rfl)
/-- HillBoxesModel.hourBehind(III)I -/
noncomputable def f_X12_hourBehind (o : Option Nat) (a1 : Int32) (a2 : Int32) (a3 : Int32) (h : AH) : Option (Int32 × AH) :=
  fR h [12] o 66 fun v1 =>
  aI h 20 v1 a3 fun v2 =>
  rO h [12] o <| cl (f_X12_liesNow o v2 h) fun v4 h3 =>
  cl (f_X12_hoursFor a1 v4 h3) fun v6 h5 =>
  lp (fun _ _ => none) (fun (L22 : Int32 → AH → Option (Int32 × AH)) (x7 : Int32) (h8 : AH) =>
    fR h8 [12] o 4 fun v9 =>
    aI h8 20 v9 v2 fun v10 =>
    jn (fun (h11 : AH) =>
      fR h11 [12] o 68 fun v12 =>
      aI h11 20 v12 a3 fun v13 =>
      some ((x7 + v13), h11)) fun j54 =>
    if v10 = (5 : Int32) then
      nz (24 : Int32) <|
      cl (f_X12_in (x7 - x7 / (24 : Int32) * (24 : Int32)) (6 : Int32) (19 : Int32) h8) fun v15 h14 =>
      if v15 = 0 then
        j54 h14
      else
        L22 (x7 + 1) h14
    else
      j54 h8) lpN (a2 + v6) h5
set_option maxRecDepth 100000 in
set_option maxHeartbeats 4000000 in
theorem c_X12_hourBehind (l : Launch) (D : DT) (o : Option Nat) (a1 : Int32) (a2 : Int32) (a3 : Int32) (h : AH) (r : Int32 × AH) (hf : f_X12_hourBehind o a1 a2 a3 h = some r) : CM l D yX12_hourBehind cX12_hourBehind 6 (some .int) 3 62 0 0 [.inr (.inr o), .inl a1, .inl a2, .inl a3] h (some (.int r.1)) r.2 := by
  refine CM.of (by decide) (Nat.le_of_ble_eq_true rfl) (fun X hl C hD hX hnm E => ?_)
  subst hl
  subst hD
  have C : CX X RX12 cX12_hourBehind 6 := C
  show WW X h 0 0 0 [some (rB (xD X).1 o), some (.int a1), some (.int a2), some (.int a3), none, none] []
  unfold f_X12_hourBehind at hf
  refine s_aload_n C dX12_hourBehind_0 rfl ?_
  refine s_getR C fl_X12_139 dX12_hourBehind_1 hf (fun v1 hf => ?_)
  refine s_iload_n C dX12_hourBehind_4 rfl ?_
  refine s_iaload C dX12_hourBehind_5 hf (fun v2 hf => ?_)
  refine s_istore C dX12_hourBehind_6 (by decide) (nc_i rfl) (lv' := [some (rB (xD X).1 o), some (.int a1), some (.int a2), some (.int a3), some (.int v2), none]) rfl ?_
  refine s_iload_n C dX12_hourBehind_8 rfl ?_
  refine s_iload_n C dX12_hourBehind_9 rfl ?_
  refine s_aload_n C dX12_hourBehind_10 rfl ?_
  refine s_iload C dX12_hourBehind_11 rfl ?_
  refine s_callV (rvf := fun x => some (.int x)) (st := [.int a1, .int a2]) (fr := 1) (lo := 22) (mc := 0) (ms := 0) C [12] wc_X12_liesNow wml_X12_242 wim_X12_liesNow wsl_12_X12_liesNow dX12_hourBehind_13 (As := [.inl v2]) rfl hf (fun x h' hF => c_X12_liesNow _ _ _ _ _ (x, h') hF) rfl (Nat.le_of_ble_eq_true rfl) (room_ok hX (Nat.le_of_ble_eq_true rfl) (Nat.le_of_ble_eq_true rfl)) (cell_ok hX (Nat.le_of_ble_eq_true rfl) (Nat.le_of_ble_eq_true rfl)) (fun v4 h3 hf => ?_)
  refine s_callS (rvf := fun x => some (.int x)) (st := [.int a2]) (fr := 2) (lo := 41) (mc := 0) (ms := 0) C wc_X12_hoursFor wml_X12_536 wst_X12_hoursFor dX12_hourBehind_16 (As := [.inl a1, .inl v4]) rfl hf (fun x h' hF => c_X12_hoursFor _ _ _ _ _ (x, h') hF) rfl (Nat.le_of_ble_eq_true rfl) (room_ok hX (Nat.le_of_ble_eq_true rfl) (Nat.le_of_ble_eq_true rfl)) (cell_ok hX (Nat.le_of_ble_eq_true rfl) (Nat.le_of_ble_eq_true rfl)) (fun v6 h5 hf => ?_)
  refine s_iadd C dX12_hourBehind_19 ?_
  refine s_istore C dX12_hourBehind_20 (by decide) (nc_i rfl) (lv' := [some (rB (xD X).1 o), some (.int a1), some (.int a2), some (.int a3), some (.int v2), some (.int (a2 + v6))]) rfl ?_
  refine s_lp2 hf (fun G22 z22 q22 hf => ?_)
  have k22 : ∀ (n : Nat) (x7 : Int32) (h8 : AH), G22 n x7 h8 = some r → WW X h8 0 0 22 [some (rB (xD X).1 o), none, none, some (.int a3), some (.int v2), some (.int x7)] [] := by
    intro n
    induction n with
    | zero =>
      intro x7 h8 hf
      rw [z22] at hf
      cases hf
    | succ n ih22 =>
      intro x7 h8 hf
      have hf := (q22 n x7 h8).symm.trans hf
      refine s_aload_n C dX12_hourBehind_22 rfl ?_
      refine s_getR C fl_X12_13 dX12_hourBehind_23 hf (fun v9 hf => ?_)
      refine s_iload C dX12_hourBehind_26 rfl ?_
      refine s_iaload C dX12_hourBehind_28 hf (fun v10 hf => ?_)
      refine s_iconst C dX12_hourBehind_29 (v := (5 : Int32)) (by decide) ?_
      refine s_jn hf (fun j54 e54 hf => ?_)
      have k54 : ∀ (h11 : AH), j54 h11 = some r → WW X h11 0 0 54 [some (rB (xD X).1 o), none, none, some (.int a3), none, some (.int x7)] [] := by
        intro h11 hf
        rw [e54] at hf
        refine s_iload C dX12_hourBehind_54 rfl ?_
        refine s_aload_n C dX12_hourBehind_56 rfl ?_
        refine s_getR C fl_X12_145 dX12_hourBehind_57 hf (fun v12 hf => ?_)
        refine s_iload_n C dX12_hourBehind_60 rfl ?_
        refine s_iaload C dX12_hourBehind_61 hf (fun v13 hf => ?_)
        refine s_iadd C dX12_hourBehind_62 ?_
        exact s_ireturn C E dX12_hourBehind_63 hf (Nat.le_of_ble_eq_true rfl) (Nat.le_of_ble_eq_true rfl)
      refine s_icmp_ne (tgt := 54) C dX12_hourBehind_30 (by decide) hf (fun hf => ?_) (fun hf => ?_)
      · refine s_weak (lv' := [some (rB (xD X).1 o), none, none, some (.int a3), none, some (.int x7)]) ⟨rfl, ⟨rfl, ⟨rfl, trivial⟩⟩⟩ ?_
        exact k54 _ hf
      · refine s_iload C dX12_hourBehind_33 rfl ?_
        refine s_bipush C dX12_hourBehind_35 (v := (24 : Int32)) (by decide) ?_
        refine s_irem C dX12_hourBehind_37 hf (fun hf => ?_)
        refine s_bipush C dX12_hourBehind_38 (v := (6 : Int32)) (by decide) ?_
        refine s_bipush C dX12_hourBehind_40 (v := (19 : Int32)) (by decide) ?_
        refine s_callS (rvf := fun x => some (.int x)) (st := []) (fr := 0) (lo := 0) (mc := 0) (ms := 0) C wc_X12_in wml_X12_195 wst_X12_in dX12_hourBehind_42 (As := [.inl (x7 - x7 / (24 : Int32) * (24 : Int32)), .inl (6 : Int32), .inl (19 : Int32)]) rfl hf (fun x h' hF => c_X12_in _ _ _ _ _ _ (x, h') hF) rfl (Nat.le_of_ble_eq_true rfl) (room_ok hX (Nat.le_of_ble_eq_true rfl) (Nat.le_of_ble_eq_true rfl)) (cell_ok hX (Nat.le_of_ble_eq_true rfl) (Nat.le_of_ble_eq_true rfl)) (fun v15 h14 hf => ?_)
        refine s_if_eq (tgt := 54) C dX12_hourBehind_45 (by decide) hf (fun hf => ?_) (fun hf => ?_)
        · refine s_weak (lv' := [some (rB (xD X).1 o), none, none, some (.int a3), none, some (.int x7)]) ⟨rfl, ⟨rfl, ⟨rfl, trivial⟩⟩⟩ ?_
          exact k54 _ hf
        · refine s_iinc C dX12_hourBehind_48 (v := (x7 + 1)) rfl rfl (by decide) (nc_i rfl) (lv' := [some (rB (xD X).1 o), none, none, some (.int a3), some (.int v2), some (.int (x7 + 1))]) rfl ?_
          refine s_goto (tgt := 22) C dX12_hourBehind_51 (by decide) ?_
          exact ih22 _ _ hf
  refine s_weak (lv' := [some (rB (xD X).1 o), none, none, some (.int a3), some (.int v2), some (.int (a2 + v6))]) ⟨rfl, ⟨rfl, ⟨rfl, ⟨rfl, trivial⟩⟩⟩⟩ ?_
  exact k22 lpN _ _ hf
/-- HillBoxesModel.isWalk(II)Z -/
noncomputable def f_X12_isWalk (o : Option Nat) (a1 : Int32) (a2 : Int32) (h : AH) : Option (Int32 × AH) :=
  cl (f_X12_in a1 (0 : Int32) (1439 : Int32) h) fun v2 h1 =>
  jn (fun (x3 : Int32) (h4 : AH) =>
    rz x3 h4) fun j26 =>
  jn (fun (h5 : AH) =>
    j26 (0 : Int32) h5) fun j25 =>
  if v2 = 0 then
    j25 h1
  else
    cl (f_X12_in a2 (1 : Int32) (48 : Int32) h1) fun v7 h6 =>
    if v7 = 0 then
      j25 h6
    else
      j26 (1 : Int32) h6
set_option maxRecDepth 100000 in
set_option maxHeartbeats 4000000 in
theorem c_X12_isWalk (l : Launch) (D : DT) (o : Option Nat) (a1 : Int32) (a2 : Int32) (h : AH) (r : Int32 × AH) (hf : f_X12_isWalk o a1 a2 h = some r) : CM l D yX12_isWalk cX12_isWalk 3 (some .boolean) 1 22 0 0 [.inr (.inr o), .inl a1, .inl a2] h (some (.int r.1)) r.2 := by
  refine CM.of (by decide) (Nat.le_of_ble_eq_true rfl) (fun X hl C hD hX hnm E => ?_)
  subst hl
  subst hD
  have C : CX X RX12 cX12_isWalk 3 := C
  show WW X h 0 0 0 [some (rB (xD X).1 o), some (.int a1), some (.int a2)] []
  unfold f_X12_isWalk at hf
  refine s_iload_n C dX12_isWalk_0 rfl ?_
  refine s_iconst C dX12_isWalk_1 (v := (0 : Int32)) (by decide) ?_
  refine s_sipush C dX12_isWalk_2 (v := (1439 : Int32)) (by decide) ?_
  refine s_callS (rvf := fun x => some (.int x)) (st := []) (fr := 0) (lo := 0) (mc := 0) (ms := 0) C wc_X12_in wml_X12_195 wst_X12_in dX12_isWalk_5 (As := [.inl a1, .inl (0 : Int32), .inl (1439 : Int32)]) rfl hf (fun x h' hF => c_X12_in _ _ _ _ _ _ (x, h') hF) rfl (Nat.le_of_ble_eq_true rfl) (room_ok hX (Nat.le_of_ble_eq_true rfl) (Nat.le_of_ble_eq_true rfl)) (cell_ok hX (Nat.le_of_ble_eq_true rfl) (Nat.le_of_ble_eq_true rfl)) (fun v2 h1 hf => ?_)
  refine s_jn hf (fun j26 e26 hf => ?_)
  have k26 : ∀ (x3 : Int32) (h4 : AH), j26 x3 h4 = some r → WW X h4 0 0 26 [none, none, none] [.int x3] := by
    intro x3 h4 hf
    rw [e26] at hf
    exact s_zreturn C E dX12_isWalk_26 hf (Nat.le_of_ble_eq_true rfl) (Nat.le_of_ble_eq_true rfl)
  refine s_jn hf (fun j25 e25 hf => ?_)
  have k25 : ∀ (h5 : AH), j25 h5 = some r → WW X h5 0 0 25 [none, none, none] [] := by
    intro h5 hf
    rw [e25] at hf
    refine s_iconst C dX12_isWalk_25 (v := (0 : Int32)) (by decide) ?_
    exact k26 _ _ hf
  refine s_if_eq (tgt := 25) C dX12_isWalk_8 (by decide) hf (fun hf => ?_) (fun hf => ?_)
  · refine s_weak (lv' := [none, none, none]) trivial ?_
    exact k25 _ hf
  · refine s_iload_n C dX12_isWalk_11 rfl ?_
    refine s_iconst C dX12_isWalk_12 (v := (1 : Int32)) (by decide) ?_
    refine s_bipush C dX12_isWalk_13 (v := (48 : Int32)) (by decide) ?_
    refine s_callS (rvf := fun x => some (.int x)) (st := []) (fr := 0) (lo := 0) (mc := 0) (ms := 0) C wc_X12_in wml_X12_195 wst_X12_in dX12_isWalk_15 (As := [.inl a2, .inl (1 : Int32), .inl (48 : Int32)]) rfl hf (fun x h' hF => c_X12_in _ _ _ _ _ _ (x, h') hF) rfl (Nat.le_of_ble_eq_true rfl) (room_ok hX (Nat.le_of_ble_eq_true rfl) (Nat.le_of_ble_eq_true rfl)) (cell_ok hX (Nat.le_of_ble_eq_true rfl) (Nat.le_of_ble_eq_true rfl)) (fun v7 h6 hf => ?_)
    refine s_if_eq (tgt := 25) C dX12_isWalk_18 (by decide) hf (fun hf => ?_) (fun hf => ?_)
    · refine s_weak (lv' := [none, none, none]) trivial ?_
      exact k25 _ hf
    · refine s_iconst C dX12_isWalk_21 (v := (1 : Int32)) (by decide) ?_
      refine s_goto (tgt := 26) C dX12_isWalk_22 (by decide) ?_
      refine s_weak (lv' := [none, none, none]) trivial ?_
      exact k26 _ _ hf
/-- HillBoxesModel.judge(III)I -/
noncomputable def f_X12_judge (o : Option Nat) (a1 : Int32) (a2 : Int32) (a3 : Int32) (h : AH) : Option (Int32 × AH) :=
  rO h [12] o <| cl (f_X12_isWalk o a1 a2 h) fun v2 h1 =>
  jn (
    some ((-1 : Int32), h1)) fun j14 =>
  if v2 = 0 then
    j14
  else
    if (1 : Int32) ≤ a3 then
      lp (fun _ _ _ _ => none) (fun (L25 : Int32 → Int32 → Int32 → AH → Option (Int32 × AH)) (x3 : Int32) (x4 : Int32) (x5 : Int32) (h6 : AH) =>
        if x5 ≤ 0 then
          lp (fun _ _ _ _ => none) (fun (L98 : Int32 → Int32 → Int32 → AH → Option (Int32 × AH)) (x7 : Int32) (x8 : Int32) (x9 : Int32) (h10 : AH) =>
            if x9 < 0 then
              rO h10 [12] o <| cl (f_X12_begin o a1 a2 h10) fun _ h11 =>
              fI h11 [12] o 77 fun v12 =>
              fI h11 [12] o 78 fun v13 =>
              lp (fun _ _ _ _ _ => none) (fun (L151 : Int32 → Int32 → Int32 → Int32 → AH → Option (Int32 × AH)) (x14 : Int32) (x15 : Int32) (x16 : Int32) (x17 : Int32) (h18 : AH) =>
                if x14 ≤ x17 then
                  fI h18 [12] o 77 fun v19 =>
                  cl (f_X12_hoursFor x15 v19 h18) fun v21 h20 =>
                  fI h20 [12] o 78 fun v22 =>
                  jn (fun (x23 : Int32) =>
                    some (x23, h20)) fun j231 =>
                  if a2 < ((x16 + v21) - v22) then
                    j231 (-2 : Int32)
                  else
                    j231 ((x16 + v21) - v22)
                else
                  fR h18 [12] o 69 fun v24 =>
                  aI h18 20 v24 x17 fun v25 =>
                  rO h18 [12] o <| cl (f_X12_hourBehind o x15 x16 v25 h18) fun v27 h26 =>
                  fR h26 [12] o 66 fun v28 =>
                  fR h26 [12] o 69 fun v29 =>
                  aI h26 20 v29 x17 fun v30 =>
                  aI h26 20 v28 v30 fun v31 =>
                  rO h26 [12] o <| cl (f_X12_liesNow o v31 h26) fun v33 h32 =>
                  L151 x14 v33 v27 (x17 + 1) h32) lpN x7 v12 v13 (0 : Int32) h11
            else
              fR h10 [12] o 69 fun v34 =>
              nz (10 : Int32) <|
              bI h10 20 v34 x9 ((x8 - x8 / (10 : Int32) * (10 : Int32)) - (1 : Int32)) fun h35 =>
              nz (10 : Int32) <|
              L98 x7 (x8 / (10 : Int32)) (x9 + (-1)) h35) lpN x3 a3 (x3 - (1 : Int32)) h6
        else
          nz (10 : Int32) <|
          fI h6 [12] o 65 fun v36 =>
          cl (f_X12_in ((x5 - x5 / (10 : Int32) * (10 : Int32)) - (1 : Int32)) (0 : Int32) (v36 - (1 : Int32)) h6) fun v38 h37 =>
          jn (
            some ((-1 : Int32), h37)) fun j65 =>
          if v38 = 0 then
            j65
          else
            if ((x4 >>> (((x5 - x5 / (10 : Int32) * (10 : Int32)) - (1 : Int32)) &&& 31)) &&& (1 : Int32)) = (1 : Int32) then
              j65
            else
              nz (10 : Int32) <|
              L25 (x3 + 1) (x4 ||| ((1 : Int32) <<< (((x5 - x5 / (10 : Int32) * (10 : Int32)) - (1 : Int32)) &&& 31))) (x5 / (10 : Int32)) h37) lpN (0 : Int32) (0 : Int32) a3 h1
    else
      j14
set_option maxRecDepth 100000 in
set_option maxHeartbeats 4000000 in
theorem c_X12_judge (l : Launch) (D : DT) (o : Option Nat) (a1 : Int32) (a2 : Int32) (a3 : Int32) (h : AH) (r : Int32 × AH) (hf : f_X12_judge o a1 a2 a3 h = some r) : CM l D yX12_judge cX12_judge 10 (some .int) 4 87 0 0 [.inr (.inr o), .inl a1, .inl a2, .inl a3] h (some (.int r.1)) r.2 := by
  refine CM.of (by decide) (Nat.le_of_ble_eq_true rfl) (fun X hl C hD hX hnm E => ?_)
  subst hl
  subst hD
  have C : CX X RX12 cX12_judge 10 := C
  show WW X h 0 0 0 [some (rB (xD X).1 o), some (.int a1), some (.int a2), some (.int a3), none, none, none, none, none, none] []
  unfold f_X12_judge at hf
  refine s_aload_n C dX12_judge_0 rfl ?_
  refine s_iload_n C dX12_judge_1 rfl ?_
  refine s_iload_n C dX12_judge_2 rfl ?_
  refine s_callV (rvf := fun x => some (.int x)) (st := []) (fr := 1) (lo := 22) (mc := 0) (ms := 0) C [12] wc_X12_isWalk wml_X12_564 wim_X12_isWalk wsl_12_X12_isWalk dX12_judge_3 (As := [.inl a1, .inl a2]) rfl hf (fun x h' hF => c_X12_isWalk _ _ _ _ _ _ (x, h') hF) rfl (Nat.le_of_ble_eq_true rfl) (room_ok hX (Nat.le_of_ble_eq_true rfl) (Nat.le_of_ble_eq_true rfl)) (cell_ok hX (Nat.le_of_ble_eq_true rfl) (Nat.le_of_ble_eq_true rfl)) (fun v2 h1 hf => ?_)
  refine s_jn hf (fun j14 e14 hf => ?_)
  have k14 : j14  = some r → WW X h1 0 0 14 [none, none, none, none, none, none, none, none, none, none] [] := by
    intro  hf
    rw [e14] at hf
    refine s_iconst C dX12_judge_14 (v := (-1 : Int32)) (by decide) ?_
    exact s_ireturn C E dX12_judge_15 hf (Nat.le_of_ble_eq_true rfl) (Nat.le_of_ble_eq_true rfl)
  refine s_if_eq (tgt := 14) C dX12_judge_6 (by decide) hf (fun hf => ?_) (fun hf => ?_)
  · refine s_weak (lv' := [none, none, none, none, none, none, none, none, none, none]) trivial ?_
    exact k14 hf
  · refine s_iload_n C dX12_judge_9 rfl ?_
    refine s_iconst C dX12_judge_10 (v := (1 : Int32)) (by decide) ?_
    refine s_icmp_ge (tgt := 16) C dX12_judge_11 (by decide) hf (fun hf => ?_) (fun hf => ?_)
    · refine s_iconst C dX12_judge_16 (v := (0 : Int32)) (by decide) ?_
      refine s_istore C dX12_judge_17 (by decide) (nc_i rfl) (lv' := [some (rB (xD X).1 o), some (.int a1), some (.int a2), some (.int a3), some (.int (0 : Int32)), none, none, none, none, none]) rfl ?_
      refine s_iconst C dX12_judge_19 (v := (0 : Int32)) (by decide) ?_
      refine s_istore C dX12_judge_20 (by decide) (nc_i rfl) (lv' := [some (rB (xD X).1 o), some (.int a1), some (.int a2), some (.int a3), some (.int (0 : Int32)), some (.int (0 : Int32)), none, none, none, none]) rfl ?_
      refine s_iload_n C dX12_judge_22 rfl ?_
      refine s_istore C dX12_judge_23 (by decide) (nc_i rfl) (lv' := [some (rB (xD X).1 o), some (.int a1), some (.int a2), some (.int a3), some (.int (0 : Int32)), some (.int (0 : Int32)), some (.int a3), none, none, none]) rfl ?_
      refine s_lp4 hf (fun G25 z25 q25 hf => ?_)
      have k25 : ∀ (n : Nat) (x3 : Int32) (x4 : Int32) (x5 : Int32) (h6 : AH), G25 n x3 x4 x5 h6 = some r → WW X h6 0 0 25 [some (rB (xD X).1 o), some (.int a1), some (.int a2), some (.int a3), some (.int x3), some (.int x4), some (.int x5), none, none, none] [] := by
        intro n
        induction n with
        | zero =>
          intro x3 x4 x5 h6 hf
          rw [z25] at hf
          cases hf
        | succ n ih25 =>
          intro x3 x4 x5 h6 hf
          have hf := (q25 n x3 x4 x5 h6).symm.trans hf
          refine s_iload C dX12_judge_25 rfl ?_
          refine s_if_le (tgt := 89) C dX12_judge_27 (by decide) hf (fun hf => ?_) (fun hf => ?_)
          · refine s_iload_n C dX12_judge_89 rfl ?_
            refine s_istore C dX12_judge_90 (by decide) (nc_i rfl) (lv' := [some (rB (xD X).1 o), some (.int a1), some (.int a2), some (.int a3), some (.int x3), some (.int x4), some (.int a3), none, none, none]) rfl ?_
            refine s_iload C dX12_judge_92 rfl ?_
            refine s_iconst C dX12_judge_94 (v := (1 : Int32)) (by decide) ?_
            refine s_isub C dX12_judge_95 ?_
            refine s_istore C dX12_judge_96 (by decide) (nc_i rfl) (lv' := [some (rB (xD X).1 o), some (.int a1), some (.int a2), some (.int a3), some (.int x3), some (.int x4), some (.int a3), some (.int (x3 - (1 : Int32))), none, none]) rfl ?_
            refine s_lp4 hf (fun G98 z98 q98 hf => ?_)
            have k98 : ∀ (n : Nat) (x7 : Int32) (x8 : Int32) (x9 : Int32) (h10 : AH), G98 n x7 x8 x9 h10 = some r → WW X h10 0 0 98 [some (rB (xD X).1 o), some (.int a1), some (.int a2), none, some (.int x7), none, some (.int x8), some (.int x9), none, none] [] := by
              intro n
              induction n with
              | zero =>
                intro x7 x8 x9 h10 hf
                rw [z98] at hf
                cases hf
              | succ n ih98 =>
                intro x7 x8 x9 h10 hf
                have hf := (q98 n x7 x8 x9 h10).symm.trans hf
                refine s_iload C dX12_judge_98 rfl ?_
                refine s_if_lt (tgt := 130) C dX12_judge_100 (by decide) hf (fun hf => ?_) (fun hf => ?_)
                · refine s_aload_n C dX12_judge_130 rfl ?_
                  refine s_iload_n C dX12_judge_131 rfl ?_
                  refine s_iload_n C dX12_judge_132 rfl ?_
                  refine s_callV (rvf := fun _ => none) (st := []) (fr := 0) (lo := 0) (mc := 0) (ms := 0) C [12] wc_X12_begin wml_X12_567 wim_X12_begin wsl_12_X12_begin dX12_judge_133 (As := [.inl a1, .inl a2]) rfl hf (fun x h' hF => c_X12_begin _ _ _ _ _ _ (x, h') hF) rfl (Nat.le_of_ble_eq_true rfl) (room_ok hX (Nat.le_of_ble_eq_true rfl) (Nat.le_of_ble_eq_true rfl)) (cell_ok hX (Nat.le_of_ble_eq_true rfl) (Nat.le_of_ble_eq_true rfl)) (fun _ h11 hf => ?_)
                  refine s_aload_n C dX12_judge_136 rfl ?_
                  refine s_getI C fl_X12_539 dX12_judge_137 hf (fun v12 hf => ?_)
                  refine s_istore C dX12_judge_140 (by decide) (nc_i rfl) (lv' := [some (rB (xD X).1 o), some (.int a1), some (.int a2), none, some (.int x7), none, some (.int x8), some (.int v12), none, none]) rfl ?_
                  refine s_aload_n C dX12_judge_142 rfl ?_
                  refine s_getI C fl_X12_542 dX12_judge_143 hf (fun v13 hf => ?_)
                  refine s_istore C dX12_judge_146 (by decide) (nc_i rfl) (lv' := [some (rB (xD X).1 o), some (.int a1), some (.int a2), none, some (.int x7), none, some (.int x8), some (.int v12), some (.int v13), none]) rfl ?_
                  refine s_iconst C dX12_judge_148 (v := (0 : Int32)) (by decide) ?_
                  refine s_istore C dX12_judge_149 (by decide) (nc_i rfl) (lv' := [some (rB (xD X).1 o), some (.int a1), some (.int a2), none, some (.int x7), none, some (.int x8), some (.int v12), some (.int v13), some (.int (0 : Int32))]) rfl ?_
                  refine s_lp5 hf (fun G151 z151 q151 hf => ?_)
                  have k151 : ∀ (n : Nat) (x14 : Int32) (x15 : Int32) (x16 : Int32) (x17 : Int32) (h18 : AH), G151 n x14 x15 x16 x17 h18 = some r → WW X h18 0 0 151 [some (rB (xD X).1 o), none, some (.int a2), none, some (.int x14), none, none, some (.int x15), some (.int x16), some (.int x17)] [] := by
                    intro n
                    induction n with
                    | zero =>
                      intro x14 x15 x16 x17 h18 hf
                      rw [z151] at hf
                      cases hf
                    | succ n ih151 =>
                      intro x14 x15 x16 x17 h18 hf
                      have hf := (q151 n x14 x15 x16 x17 h18).symm.trans hf
                      refine s_iload C dX12_judge_151 rfl ?_
                      refine s_iload C dX12_judge_153 rfl ?_
                      refine s_icmp_ge (tgt := 199) C dX12_judge_155 (by decide) hf (fun hf => ?_) (fun hf => ?_)
                      · refine s_iload C dX12_judge_199 rfl ?_
                        refine s_iload C dX12_judge_201 rfl ?_
                        refine s_aload_n C dX12_judge_203 rfl ?_
                        refine s_getI C fl_X12_539 dX12_judge_204 hf (fun v19 hf => ?_)
                        refine s_callS (rvf := fun x => some (.int x)) (st := [.int x16]) (fr := 2) (lo := 41) (mc := 0) (ms := 0) C wc_X12_hoursFor wml_X12_536 wst_X12_hoursFor dX12_judge_207 (As := [.inl x15, .inl v19]) rfl hf (fun x h' hF => c_X12_hoursFor _ _ _ _ _ (x, h') hF) rfl (Nat.le_of_ble_eq_true rfl) (room_ok hX (Nat.le_of_ble_eq_true rfl) (Nat.le_of_ble_eq_true rfl)) (cell_ok hX (Nat.le_of_ble_eq_true rfl) (Nat.le_of_ble_eq_true rfl)) (fun v21 h20 hf => ?_)
                        refine s_iadd C dX12_judge_210 ?_
                        refine s_aload_n C dX12_judge_211 rfl ?_
                        refine s_getI C fl_X12_542 dX12_judge_212 hf (fun v22 hf => ?_)
                        refine s_isub C dX12_judge_215 ?_
                        refine s_istore C dX12_judge_216 (by decide) (nc_i rfl) (lv' := [some (rB (xD X).1 o), none, some (.int a2), none, some (.int x14), none, none, some (.int x15), some (.int x16), some (.int ((x16 + v21) - v22))]) rfl ?_
                        refine s_iload C dX12_judge_218 rfl ?_
                        refine s_iload_n C dX12_judge_220 rfl ?_
                        refine s_jn hf (fun j231 e231 hf => ?_)
                        have k231 : ∀ (x23 : Int32), j231 x23 = some r → WW X h20 0 0 231 [none, none, none, none, none, none, none, none, none, none] [.int x23] := by
                          intro x23 hf
                          rw [e231] at hf
                          exact s_ireturn C E dX12_judge_231 hf (Nat.le_of_ble_eq_true rfl) (Nat.le_of_ble_eq_true rfl)
                        refine s_icmp_gt (tgt := 229) C dX12_judge_221 (by decide) hf (fun hf => ?_) (fun hf => ?_)
                        · refine s_bipush C dX12_judge_229 (v := (-2 : Int32)) (by decide) ?_
                          refine s_weak (lv' := [none, none, none, none, none, none, none, none, none, none]) trivial ?_
                          exact k231 _ hf
                        · refine s_iload C dX12_judge_224 rfl ?_
                          refine s_goto (tgt := 231) C dX12_judge_226 (by decide) ?_
                          refine s_weak (lv' := [none, none, none, none, none, none, none, none, none, none]) trivial ?_
                          exact k231 _ hf
                      · refine s_aload_n C dX12_judge_158 rfl ?_
                        refine s_iload C dX12_judge_159 rfl ?_
                        refine s_iload C dX12_judge_161 rfl ?_
                        refine s_aload_n C dX12_judge_163 rfl ?_
                        refine s_getR C fl_X12_148 dX12_judge_164 hf (fun v24 hf => ?_)
                        refine s_iload C dX12_judge_167 rfl ?_
                        refine s_iaload C dX12_judge_169 hf (fun v25 hf => ?_)
                        refine s_callV (rvf := fun x => some (.int x)) (st := []) (fr := 3) (lo := 62) (mc := 0) (ms := 0) C [12] wc_X12_hourBehind wml_X12_557 wim_X12_hourBehind wsl_12_X12_hourBehind dX12_judge_170 (As := [.inl x15, .inl x16, .inl v25]) rfl hf (fun x h' hF => c_X12_hourBehind _ _ _ _ _ _ _ (x, h') hF) rfl (Nat.le_of_ble_eq_true rfl) (room_ok hX (Nat.le_of_ble_eq_true rfl) (Nat.le_of_ble_eq_true rfl)) (cell_ok hX (Nat.le_of_ble_eq_true rfl) (Nat.le_of_ble_eq_true rfl)) (fun v27 h26 hf => ?_)
                        refine s_istore C dX12_judge_173 (by decide) (nc_i rfl) (lv' := [some (rB (xD X).1 o), none, some (.int a2), none, some (.int x14), none, none, some (.int x15), some (.int v27), some (.int x17)]) rfl ?_
                        refine s_aload_n C dX12_judge_175 rfl ?_
                        refine s_aload_n C dX12_judge_176 rfl ?_
                        refine s_getR C fl_X12_139 dX12_judge_177 hf (fun v28 hf => ?_)
                        refine s_aload_n C dX12_judge_180 rfl ?_
                        refine s_getR C fl_X12_148 dX12_judge_181 hf (fun v29 hf => ?_)
                        refine s_iload C dX12_judge_184 rfl ?_
                        refine s_iaload C dX12_judge_186 hf (fun v30 hf => ?_)
                        refine s_iaload C dX12_judge_187 hf (fun v31 hf => ?_)
                        refine s_callV (rvf := fun x => some (.int x)) (st := []) (fr := 1) (lo := 22) (mc := 0) (ms := 0) C [12] wc_X12_liesNow wml_X12_242 wim_X12_liesNow wsl_12_X12_liesNow dX12_judge_188 (As := [.inl v31]) rfl hf (fun x h' hF => c_X12_liesNow _ _ _ _ _ (x, h') hF) rfl (Nat.le_of_ble_eq_true rfl) (room_ok hX (Nat.le_of_ble_eq_true rfl) (Nat.le_of_ble_eq_true rfl)) (cell_ok hX (Nat.le_of_ble_eq_true rfl) (Nat.le_of_ble_eq_true rfl)) (fun v33 h32 hf => ?_)
                        refine s_istore C dX12_judge_191 (by decide) (nc_n rfl) (lv' := [some (rB (xD X).1 o), none, some (.int a2), none, some (.int x14), none, none, some (.int v33), some (.int v27), some (.int x17)]) rfl ?_
                        refine s_iinc C dX12_judge_193 (v := (x17 + 1)) rfl rfl (by decide) (nc_i rfl) (lv' := [some (rB (xD X).1 o), none, some (.int a2), none, some (.int x14), none, none, some (.int v33), some (.int v27), some (.int (x17 + 1))]) rfl ?_
                        refine s_goto (tgt := 151) C dX12_judge_196 (by decide) ?_
                        exact ih151 _ _ _ _ _ hf
                  refine s_weak (lv' := [some (rB (xD X).1 o), none, some (.int a2), none, some (.int x7), none, none, some (.int v12), some (.int v13), some (.int (0 : Int32))]) ⟨rfl, ⟨rfl, ⟨rfl, ⟨rfl, ⟨rfl, ⟨rfl, trivial⟩⟩⟩⟩⟩⟩ ?_
                  exact k151 lpN _ _ _ _ _ hf
                · refine s_aload_n C dX12_judge_103 rfl ?_
                  refine s_getR C fl_X12_148 dX12_judge_104 hf (fun v34 hf => ?_)
                  refine s_iload C dX12_judge_107 rfl ?_
                  refine s_iload C dX12_judge_109 rfl ?_
                  refine s_bipush C dX12_judge_111 (v := (10 : Int32)) (by decide) ?_
                  refine s_irem C dX12_judge_113 hf (fun hf => ?_)
                  refine s_iconst C dX12_judge_114 (v := (1 : Int32)) (by decide) ?_
                  refine s_isub C dX12_judge_115 ?_
                  refine s_iastore C dX12_judge_116 hf (fun h35 hf => ?_)
                  refine s_iload C dX12_judge_117 rfl ?_
                  refine s_bipush C dX12_judge_119 (v := (10 : Int32)) (by decide) ?_
                  refine s_idiv C dX12_judge_121 hf (fun hf => ?_)
                  refine s_istore C dX12_judge_122 (by decide) (nc_n rfl) (lv' := [some (rB (xD X).1 o), some (.int a1), some (.int a2), none, some (.int x7), none, some (.int (x8 / (10 : Int32))), some (.int x9), none, none]) rfl ?_
                  refine s_iinc C dX12_judge_124 (v := (x9 + (-1))) rfl rfl (by decide) (nc_i rfl) (lv' := [some (rB (xD X).1 o), some (.int a1), some (.int a2), none, some (.int x7), none, some (.int (x8 / (10 : Int32))), some (.int (x9 + (-1))), none, none]) rfl ?_
                  refine s_goto (tgt := 98) C dX12_judge_127 (by decide) ?_
                  exact ih98 _ _ _ _ hf
            refine s_weak (lv' := [some (rB (xD X).1 o), some (.int a1), some (.int a2), none, some (.int x3), none, some (.int a3), some (.int (x3 - (1 : Int32))), none, none]) ⟨rfl, ⟨rfl, ⟨rfl, ⟨rfl, ⟨rfl, ⟨rfl, trivial⟩⟩⟩⟩⟩⟩ ?_
            exact k98 lpN _ _ _ _ hf
          · refine s_iload C dX12_judge_30 rfl ?_
            refine s_bipush C dX12_judge_32 (v := (10 : Int32)) (by decide) ?_
            refine s_irem C dX12_judge_34 hf (fun hf => ?_)
            refine s_iconst C dX12_judge_35 (v := (1 : Int32)) (by decide) ?_
            refine s_isub C dX12_judge_36 ?_
            refine s_istore C dX12_judge_37 (by decide) (nc_i rfl) (lv' := [some (rB (xD X).1 o), some (.int a1), some (.int a2), some (.int a3), some (.int x3), some (.int x4), some (.int x5), some (.int ((x5 - x5 / (10 : Int32) * (10 : Int32)) - (1 : Int32))), none, none]) rfl ?_
            refine s_iload C dX12_judge_39 rfl ?_
            refine s_iconst C dX12_judge_41 (v := (0 : Int32)) (by decide) ?_
            refine s_aload_n C dX12_judge_42 rfl ?_
            refine s_getI C fl_X12_533 dX12_judge_43 hf (fun v36 hf => ?_)
            refine s_iconst C dX12_judge_46 (v := (1 : Int32)) (by decide) ?_
            refine s_isub C dX12_judge_47 ?_
            refine s_callS (rvf := fun x => some (.int x)) (st := []) (fr := 0) (lo := 0) (mc := 0) (ms := 0) C wc_X12_in wml_X12_195 wst_X12_in dX12_judge_48 (As := [.inl ((x5 - x5 / (10 : Int32) * (10 : Int32)) - (1 : Int32)), .inl (0 : Int32), .inl (v36 - (1 : Int32))]) rfl hf (fun x h' hF => c_X12_in _ _ _ _ _ _ (x, h') hF) rfl (Nat.le_of_ble_eq_true rfl) (room_ok hX (Nat.le_of_ble_eq_true rfl) (Nat.le_of_ble_eq_true rfl)) (cell_ok hX (Nat.le_of_ble_eq_true rfl) (Nat.le_of_ble_eq_true rfl)) (fun v38 h37 hf => ?_)
            refine s_jn hf (fun j65 e65 hf => ?_)
            have k65 : j65  = some r → WW X h37 0 0 65 [none, none, none, none, none, none, none, none, none, none] [] := by
              intro  hf
              rw [e65] at hf
              refine s_iconst C dX12_judge_65 (v := (-1 : Int32)) (by decide) ?_
              exact s_ireturn C E dX12_judge_66 hf (Nat.le_of_ble_eq_true rfl) (Nat.le_of_ble_eq_true rfl)
            refine s_if_eq (tgt := 65) C dX12_judge_51 (by decide) hf (fun hf => ?_) (fun hf => ?_)
            · refine s_weak (lv' := [none, none, none, none, none, none, none, none, none, none]) trivial ?_
              exact k65 hf
            · refine s_iload C dX12_judge_54 rfl ?_
              refine s_iload C dX12_judge_56 rfl ?_
              refine s_ishr C dX12_judge_58 ?_
              refine s_iconst C dX12_judge_59 (v := (1 : Int32)) (by decide) ?_
              refine s_iand C dX12_judge_60 ?_
              refine s_iconst C dX12_judge_61 (v := (1 : Int32)) (by decide) ?_
              refine s_icmp_ne (tgt := 67) C dX12_judge_62 (by decide) hf (fun hf => ?_) (fun hf => ?_)
              · refine s_iload C dX12_judge_67 rfl ?_
                refine s_iconst C dX12_judge_69 (v := (1 : Int32)) (by decide) ?_
                refine s_iload C dX12_judge_70 rfl ?_
                refine s_ishl C dX12_judge_72 ?_
                refine s_ior C dX12_judge_73 ?_
                refine s_istore C dX12_judge_74 (by decide) (nc_i rfl) (lv' := [some (rB (xD X).1 o), some (.int a1), some (.int a2), some (.int a3), some (.int x3), some (.int (x4 ||| ((1 : Int32) <<< (((x5 - x5 / (10 : Int32) * (10 : Int32)) - (1 : Int32)) &&& 31)))), some (.int x5), some (.int ((x5 - x5 / (10 : Int32) * (10 : Int32)) - (1 : Int32))), none, none]) rfl ?_
                refine s_iinc C dX12_judge_76 (v := (x3 + 1)) rfl rfl (by decide) (nc_i rfl) (lv' := [some (rB (xD X).1 o), some (.int a1), some (.int a2), some (.int a3), some (.int (x3 + 1)), some (.int (x4 ||| ((1 : Int32) <<< (((x5 - x5 / (10 : Int32) * (10 : Int32)) - (1 : Int32)) &&& 31)))), some (.int x5), some (.int ((x5 - x5 / (10 : Int32) * (10 : Int32)) - (1 : Int32))), none, none]) rfl ?_
                refine s_iload C dX12_judge_79 rfl ?_
                refine s_bipush C dX12_judge_81 (v := (10 : Int32)) (by decide) ?_
                refine s_idiv C dX12_judge_83 hf (fun hf => ?_)
                refine s_istore C dX12_judge_84 (by decide) (nc_i rfl) (lv' := [some (rB (xD X).1 o), some (.int a1), some (.int a2), some (.int a3), some (.int (x3 + 1)), some (.int (x4 ||| ((1 : Int32) <<< (((x5 - x5 / (10 : Int32) * (10 : Int32)) - (1 : Int32)) &&& 31)))), some (.int (x5 / (10 : Int32))), some (.int ((x5 - x5 / (10 : Int32) * (10 : Int32)) - (1 : Int32))), none, none]) rfl ?_
                refine s_goto (tgt := 25) C dX12_judge_86 (by decide) ?_
                refine s_weak (lv' := [some (rB (xD X).1 o), some (.int a1), some (.int a2), some (.int a3), some (.int (x3 + 1)), some (.int (x4 ||| ((1 : Int32) <<< (((x5 - x5 / (10 : Int32) * (10 : Int32)) - (1 : Int32)) &&& 31)))), some (.int (x5 / (10 : Int32))), none, none, none]) ⟨rfl, ⟨rfl, ⟨rfl, ⟨rfl, ⟨rfl, ⟨rfl, ⟨rfl, trivial⟩⟩⟩⟩⟩⟩⟩ ?_
                exact ih25 _ _ _ _ hf
              · refine s_weak (lv' := [none, none, none, none, none, none, none, none, none, none]) trivial ?_
                exact k65 hf
      exact k25 lpN _ _ _ _ hf
    · refine s_weak (lv' := [none, none, none, none, none, none, none, none, none, none]) trivial ?_
      exact k14 hf
/-- HillBoxesModel.whereOf(II)I -/
noncomputable def f_X12_whereOf (o : Option Nat) (a1 : Int32) (a2 : Int32) (h : AH) : Option (Int32 × AH) :=
  if a2 = 0 then
    some ((-1 : Int32), h)
  else
    fR h [12] o 61 fun v1 =>
    aI h 23 v1 ((((12 : Int32) * a1) + a2) - (1 : Int32)) fun v2 =>
    jn (fun (x3 : Int32) =>
      some (x3, h)) fun j49 =>
    if v2 = 0 then
      fR h [12] o 18 fun v4 =>
      fR h [12] o 60 fun v5 =>
      aI h 21 v5 ((((12 : Int32) * a1) + a2) - (1 : Int32)) fun v6 =>
      aI h 20 v4 v6 fun v7 =>
      j49 v7
    else
      fR h [12] o 19 fun v8 =>
      fR h [12] o 60 fun v9 =>
      aI h 21 v9 ((((12 : Int32) * a1) + a2) - (1 : Int32)) fun v10 =>
      aI h 20 v8 v10 fun v11 =>
      j49 v11
set_option maxRecDepth 100000 in
set_option maxHeartbeats 4000000 in
theorem c_X12_whereOf (l : Launch) (D : DT) (o : Option Nat) (a1 : Int32) (a2 : Int32) (h : AH) (r : Int32 × AH) (hf : f_X12_whereOf o a1 a2 h = some r) : CM l D yX12_whereOf cX12_whereOf 4 (some .int) 0 0 0 0 [.inr (.inr o), .inl a1, .inl a2] h (some (.int r.1)) r.2 := by
  refine CM.of (by decide) (Nat.le_of_ble_eq_true rfl) (fun X hl C hD hX hnm E => ?_)
  subst hl
  subst hD
  have C : CX X RX12 cX12_whereOf 4 := C
  show WW X h 0 0 0 [some (rB (xD X).1 o), some (.int a1), some (.int a2), none] []
  unfold f_X12_whereOf at hf
  refine s_iload_n C dX12_whereOf_0 rfl ?_
  refine s_if_ne (tgt := 6) C dX12_whereOf_1 (by decide) hf (fun hf => ?_) (fun hf => ?_)
  · refine s_bipush C dX12_whereOf_6 (v := (12 : Int32)) (by decide) ?_
    refine s_iload_n C dX12_whereOf_8 rfl ?_
    refine s_imul C dX12_whereOf_9 ?_
    refine s_iload_n C dX12_whereOf_10 rfl ?_
    refine s_iadd C dX12_whereOf_11 ?_
    refine s_iconst C dX12_whereOf_12 (v := (1 : Int32)) (by decide) ?_
    refine s_isub C dX12_whereOf_13 ?_
    refine s_istore_n C dX12_whereOf_14 (by decide) (nc_i rfl) (lv' := [some (rB (xD X).1 o), some (.int a1), some (.int a2), some (.int ((((12 : Int32) * a1) + a2) - (1 : Int32)))]) rfl ?_
    refine s_aload_n C dX12_whereOf_15 rfl ?_
    refine s_getR C fl_X12_127 dX12_whereOf_16 hf (fun v1 hf => ?_)
    refine s_iload_n C dX12_whereOf_19 rfl ?_
    refine s_zaload C dX12_whereOf_20 hf (fun v2 hf => ?_)
    refine s_jn hf (fun j49 e49 hf => ?_)
    have k49 : ∀ (x3 : Int32), j49 x3 = some r → WW X h 0 0 49 [none, none, none, none] [.int x3] := by
      intro x3 hf
      rw [e49] at hf
      exact s_ireturn C E dX12_whereOf_49 hf (Nat.le_of_ble_eq_true rfl) (Nat.le_of_ble_eq_true rfl)
    refine s_if_eq (tgt := 38) C dX12_whereOf_21 (by decide) hf (fun hf => ?_) (fun hf => ?_)
    · refine s_aload_n C dX12_whereOf_38 rfl ?_
      refine s_getR C fl_X12_46 dX12_whereOf_39 hf (fun v4 hf => ?_)
      refine s_aload_n C dX12_whereOf_42 rfl ?_
      refine s_getR C fl_X12_124 dX12_whereOf_43 hf (fun v5 hf => ?_)
      refine s_iload_n C dX12_whereOf_46 rfl ?_
      refine s_saload C dX12_whereOf_47 hf (fun v6 hf => ?_)
      refine s_iaload C dX12_whereOf_48 hf (fun v7 hf => ?_)
      refine s_weak (lv' := [none, none, none, none]) trivial ?_
      exact k49 _ hf
    · refine s_aload_n C dX12_whereOf_24 rfl ?_
      refine s_getR C fl_X12_49 dX12_whereOf_25 hf (fun v8 hf => ?_)
      refine s_aload_n C dX12_whereOf_28 rfl ?_
      refine s_getR C fl_X12_124 dX12_whereOf_29 hf (fun v9 hf => ?_)
      refine s_iload_n C dX12_whereOf_32 rfl ?_
      refine s_saload C dX12_whereOf_33 hf (fun v10 hf => ?_)
      refine s_iaload C dX12_whereOf_34 hf (fun v11 hf => ?_)
      refine s_goto (tgt := 49) C dX12_whereOf_35 (by decide) ?_
      refine s_weak (lv' := [none, none, none, none]) trivial ?_
      exact k49 _ hf
  · refine s_iconst C dX12_whereOf_4 (v := (-1 : Int32)) (by decide) ?_
    exact s_ireturn C E dX12_whereOf_5 hf (Nat.le_of_ble_eq_true rfl) (Nat.le_of_ble_eq_true rfl)
/-- HillBoxesModel.isJump(II)Z -/
noncomputable def f_X12_isJump (o : Option Nat) (a1 : Int32) (a2 : Int32) (h : AH) : Option (Int32 × AH) :=
  rO h [12] o <| cl (f_X12_whereOf o a1 a2 h) fun v2 h1 =>
  fR h1 [12] o 61 fun v3 =>
  aI h1 23 v3 (((12 : Int32) * a1) + a2) fun v4 =>
  jn (fun (x5 : Int32) =>
    rz x5 h1) fun j69 =>
  if v4 = 0 then
    fR h1 [12] o 19 fun v6 =>
    fR h1 [12] o 60 fun v7 =>
    aI h1 21 v7 (((12 : Int32) * a1) + a2) fun v8 =>
    aI h1 20 v6 v8 fun v9 =>
    if v2 = v9 then
      j69 (0 : Int32)
    else
      j69 (1 : Int32)
  else
    fR h1 [12] o 18 fun v10 =>
    fR h1 [12] o 60 fun v11 =>
    aI h1 21 v11 (((12 : Int32) * a1) + a2) fun v12 =>
    aI h1 20 v10 v12 fun v13 =>
    if v2 = v13 then
      j69 (0 : Int32)
    else
      j69 (1 : Int32)
set_option maxRecDepth 100000 in
set_option maxHeartbeats 4000000 in
theorem c_X12_isJump (l : Launch) (D : DT) (o : Option Nat) (a1 : Int32) (a2 : Int32) (h : AH) (r : Int32 × AH) (hf : f_X12_isJump o a1 a2 h = some r) : CM l D yX12_isJump cX12_isJump 5 (some .boolean) 1 23 0 0 [.inr (.inr o), .inl a1, .inl a2] h (some (.int r.1)) r.2 := by
  refine CM.of (by decide) (Nat.le_of_ble_eq_true rfl) (fun X hl C hD hX hnm E => ?_)
  subst hl
  subst hD
  have C : CX X RX12 cX12_isJump 5 := C
  show WW X h 0 0 0 [some (rB (xD X).1 o), some (.int a1), some (.int a2), none, none] []
  unfold f_X12_isJump at hf
  refine s_bipush C dX12_isJump_0 (v := (12 : Int32)) (by decide) ?_
  refine s_iload_n C dX12_isJump_2 rfl ?_
  refine s_imul C dX12_isJump_3 ?_
  refine s_iload_n C dX12_isJump_4 rfl ?_
  refine s_iadd C dX12_isJump_5 ?_
  refine s_istore_n C dX12_isJump_6 (by decide) (nc_i rfl) (lv' := [some (rB (xD X).1 o), some (.int a1), some (.int a2), some (.int (((12 : Int32) * a1) + a2)), none]) rfl ?_
  refine s_aload_n C dX12_isJump_7 rfl ?_
  refine s_iload_n C dX12_isJump_8 rfl ?_
  refine s_iload_n C dX12_isJump_9 rfl ?_
  refine s_callV (rvf := fun x => some (.int x)) (st := []) (fr := 0) (lo := 0) (mc := 0) (ms := 0) C [12] wc_X12_whereOf wml_X12_261 wim_X12_whereOf wsl_12_X12_whereOf dX12_isJump_10 (As := [.inl a1, .inl a2]) rfl hf (fun x h' hF => c_X12_whereOf _ _ _ _ _ _ (x, h') hF) rfl (Nat.le_of_ble_eq_true rfl) (room_ok hX (Nat.le_of_ble_eq_true rfl) (Nat.le_of_ble_eq_true rfl)) (cell_ok hX (Nat.le_of_ble_eq_true rfl) (Nat.le_of_ble_eq_true rfl)) (fun v2 h1 hf => ?_)
  refine s_istore C dX12_isJump_13 (by decide) (nc_i rfl) (lv' := [some (rB (xD X).1 o), some (.int a1), some (.int a2), some (.int (((12 : Int32) * a1) + a2)), some (.int v2)]) rfl ?_
  refine s_aload_n C dX12_isJump_15 rfl ?_
  refine s_getR C fl_X12_127 dX12_isJump_16 hf (fun v3 hf => ?_)
  refine s_iload_n C dX12_isJump_19 rfl ?_
  refine s_zaload C dX12_isJump_20 hf (fun v4 hf => ?_)
  refine s_jn hf (fun j69 e69 hf => ?_)
  have k69 : ∀ (x5 : Int32), j69 x5 = some r → WW X h1 0 0 69 [none, none, none, none, none] [.int x5] := by
    intro x5 hf
    rw [e69] at hf
    exact s_zreturn C E dX12_isJump_69 hf (Nat.le_of_ble_eq_true rfl) (Nat.le_of_ble_eq_true rfl)
  refine s_if_eq (tgt := 48) C dX12_isJump_21 (by decide) hf (fun hf => ?_) (fun hf => ?_)
  · refine s_iload C dX12_isJump_48 rfl ?_
    refine s_aload_n C dX12_isJump_50 rfl ?_
    refine s_getR C fl_X12_49 dX12_isJump_51 hf (fun v6 hf => ?_)
    refine s_aload_n C dX12_isJump_54 rfl ?_
    refine s_getR C fl_X12_124 dX12_isJump_55 hf (fun v7 hf => ?_)
    refine s_iload_n C dX12_isJump_58 rfl ?_
    refine s_saload C dX12_isJump_59 hf (fun v8 hf => ?_)
    refine s_iaload C dX12_isJump_60 hf (fun v9 hf => ?_)
    refine s_icmp_eq (tgt := 68) C dX12_isJump_61 (by decide) hf (fun hf => ?_) (fun hf => ?_)
    · refine s_iconst C dX12_isJump_68 (v := (0 : Int32)) (by decide) ?_
      refine s_weak (lv' := [none, none, none, none, none]) trivial ?_
      exact k69 _ hf
    · refine s_iconst C dX12_isJump_64 (v := (1 : Int32)) (by decide) ?_
      refine s_goto (tgt := 69) C dX12_isJump_65 (by decide) ?_
      refine s_weak (lv' := [none, none, none, none, none]) trivial ?_
      exact k69 _ hf
  · refine s_iload C dX12_isJump_24 rfl ?_
    refine s_aload_n C dX12_isJump_26 rfl ?_
    refine s_getR C fl_X12_46 dX12_isJump_27 hf (fun v10 hf => ?_)
    refine s_aload_n C dX12_isJump_30 rfl ?_
    refine s_getR C fl_X12_124 dX12_isJump_31 hf (fun v11 hf => ?_)
    refine s_iload_n C dX12_isJump_34 rfl ?_
    refine s_saload C dX12_isJump_35 hf (fun v12 hf => ?_)
    refine s_iaload C dX12_isJump_36 hf (fun v13 hf => ?_)
    refine s_icmp_eq (tgt := 44) C dX12_isJump_37 (by decide) hf (fun hf => ?_) (fun hf => ?_)
    · refine s_iconst C dX12_isJump_44 (v := (0 : Int32)) (by decide) ?_
      refine s_goto (tgt := 69) C dX12_isJump_45 (by decide) ?_
      refine s_weak (lv' := [none, none, none, none, none]) trivial ?_
      exact k69 _ hf
    · refine s_iconst C dX12_isJump_40 (v := (1 : Int32)) (by decide) ?_
      refine s_goto (tgt := 69) C dX12_isJump_41 (by decide) ?_
      refine s_weak (lv' := [none, none, none, none, none]) trivial ?_
      exact k69 _ hf
/-- HillBoxesModel.jump(II)I -/
noncomputable def f_X12_jump (o : Option Nat) (a1 : Int32) (a2 : Int32) (h : AH) : Option (Int32 × AH) :=
  rO h [12] o <| cl (f_X12_isThing o a1 h) fun v2 h1 =>
  jn (
    some ((-1 : Int32), h1)) fun j13 =>
  if v2 = 0 then
    j13
  else
    if (-1 : Int32) ≤ a2 then
      lp (fun _ _ _ => none) (fun (L20 : Int32 → Int32 → AH → Option (Int32 × AH)) (x3 : Int32) (x4 : Int32) (h5 : AH) =>
        fR h5 [12] o 59 fun v6 =>
        aI h5 20 v6 a1 fun v7 =>
        if v7 ≤ x4 then
          jn (fun (x8 : Int32) =>
            some (x8, h5)) fun j70 =>
          if 0 ≤ a2 then
            j70 (-1 : Int32)
          else
            j70 x3
        else
          rO h5 [12] o <| cl (f_X12_isJump o a1 x4 h5) fun v10 h9 =>
          jn (fun (x11 : Int32) =>
            L20 x11 (x4 + 1) h9) fun j55 =>
          if v10 = 0 then
            j55 x3
          else
            if x3 = a2 then
              some (x4, h9)
            else
              j55 (x3 + 1)) lpN (0 : Int32) (0 : Int32) h1
    else
      j13
set_option maxRecDepth 100000 in
set_option maxHeartbeats 4000000 in
theorem c_X12_jump (l : Launch) (D : DT) (o : Option Nat) (a1 : Int32) (a2 : Int32) (h : AH) (r : Int32 × AH) (hf : f_X12_jump o a1 a2 h = some r) : CM l D yX12_jump cX12_jump 5 (some .int) 3 64 0 0 [.inr (.inr o), .inl a1, .inl a2] h (some (.int r.1)) r.2 := by
  refine CM.of (by decide) (Nat.le_of_ble_eq_true rfl) (fun X hl C hD hX hnm E => ?_)
  subst hl
  subst hD
  have C : CX X RX12 cX12_jump 5 := C
  show WW X h 0 0 0 [some (rB (xD X).1 o), some (.int a1), some (.int a2), none, none] []
  unfold f_X12_jump at hf
  refine s_aload_n C dX12_jump_0 rfl ?_
  refine s_iload_n C dX12_jump_1 rfl ?_
  refine s_callV (rvf := fun x => some (.int x)) (st := []) (fr := 2) (lo := 43) (mc := 0) (ms := 0) C [12] wc_X12_isThing wml_X12_524 wim_X12_isThing wsl_12_X12_isThing dX12_jump_2 (As := [.inl a1]) rfl hf (fun x h' hF => c_X12_isThing _ _ _ _ _ (x, h') hF) rfl (Nat.le_of_ble_eq_true rfl) (room_ok hX (Nat.le_of_ble_eq_true rfl) (Nat.le_of_ble_eq_true rfl)) (cell_ok hX (Nat.le_of_ble_eq_true rfl) (Nat.le_of_ble_eq_true rfl)) (fun v2 h1 hf => ?_)
  refine s_jn hf (fun j13 e13 hf => ?_)
  have k13 : j13  = some r → WW X h1 0 0 13 [none, none, none, none, none] [] := by
    intro  hf
    rw [e13] at hf
    refine s_iconst C dX12_jump_13 (v := (-1 : Int32)) (by decide) ?_
    exact s_ireturn C E dX12_jump_14 hf (Nat.le_of_ble_eq_true rfl) (Nat.le_of_ble_eq_true rfl)
  refine s_if_eq (tgt := 13) C dX12_jump_5 (by decide) hf (fun hf => ?_) (fun hf => ?_)
  · refine s_weak (lv' := [none, none, none, none, none]) trivial ?_
    exact k13 hf
  · refine s_iload_n C dX12_jump_8 rfl ?_
    refine s_iconst C dX12_jump_9 (v := (-1 : Int32)) (by decide) ?_
    refine s_icmp_ge (tgt := 15) C dX12_jump_10 (by decide) hf (fun hf => ?_) (fun hf => ?_)
    · refine s_iconst C dX12_jump_15 (v := (0 : Int32)) (by decide) ?_
      refine s_istore_n C dX12_jump_16 (by decide) (nc_i rfl) (lv' := [some (rB (xD X).1 o), some (.int a1), some (.int a2), some (.int (0 : Int32)), none]) rfl ?_
      refine s_iconst C dX12_jump_17 (v := (0 : Int32)) (by decide) ?_
      refine s_istore C dX12_jump_18 (by decide) (nc_i rfl) (lv' := [some (rB (xD X).1 o), some (.int a1), some (.int a2), some (.int (0 : Int32)), some (.int (0 : Int32))]) rfl ?_
      refine s_lp3 hf (fun G20 z20 q20 hf => ?_)
      have k20 : ∀ (n : Nat) (x3 : Int32) (x4 : Int32) (h5 : AH), G20 n x3 x4 h5 = some r → WW X h5 0 0 20 [some (rB (xD X).1 o), some (.int a1), some (.int a2), some (.int x3), some (.int x4)] [] := by
        intro n
        induction n with
        | zero =>
          intro x3 x4 h5 hf
          rw [z20] at hf
          cases hf
        | succ n ih20 =>
          intro x3 x4 h5 hf
          have hf := (q20 n x3 x4 h5).symm.trans hf
          refine s_iload C dX12_jump_20 rfl ?_
          refine s_aload_n C dX12_jump_22 rfl ?_
          refine s_getR C fl_X12_121 dX12_jump_23 hf (fun v6 hf => ?_)
          refine s_iload_n C dX12_jump_26 rfl ?_
          refine s_iaload C dX12_jump_27 hf (fun v7 hf => ?_)
          refine s_icmp_ge (tgt := 61) C dX12_jump_28 (by decide) hf (fun hf => ?_) (fun hf => ?_)
          · refine s_iload_n C dX12_jump_61 rfl ?_
            refine s_jn hf (fun j70 e70 hf => ?_)
            have k70 : ∀ (x8 : Int32), j70 x8 = some r → WW X h5 0 0 70 [none, none, none, none, none] [.int x8] := by
              intro x8 hf
              rw [e70] at hf
              exact s_ireturn C E dX12_jump_70 hf (Nat.le_of_ble_eq_true rfl) (Nat.le_of_ble_eq_true rfl)
            refine s_if_ge (tgt := 69) C dX12_jump_62 (by decide) hf (fun hf => ?_) (fun hf => ?_)
            · refine s_iconst C dX12_jump_69 (v := (-1 : Int32)) (by decide) ?_
              refine s_weak (lv' := [none, none, none, none, none]) trivial ?_
              exact k70 _ hf
            · refine s_iload_n C dX12_jump_65 rfl ?_
              refine s_goto (tgt := 70) C dX12_jump_66 (by decide) ?_
              refine s_weak (lv' := [none, none, none, none, none]) trivial ?_
              exact k70 _ hf
          · refine s_aload_n C dX12_jump_31 rfl ?_
            refine s_iload_n C dX12_jump_32 rfl ?_
            refine s_iload C dX12_jump_33 rfl ?_
            refine s_callV (rvf := fun x => some (.int x)) (st := []) (fr := 1) (lo := 23) (mc := 0) (ms := 0) C [12] wc_X12_isJump wml_X12_527 wim_X12_isJump wsl_12_X12_isJump dX12_jump_35 (As := [.inl a1, .inl x4]) rfl hf (fun x h' hF => c_X12_isJump _ _ _ _ _ _ (x, h') hF) rfl (Nat.le_of_ble_eq_true rfl) (room_ok hX (Nat.le_of_ble_eq_true rfl) (Nat.le_of_ble_eq_true rfl)) (cell_ok hX (Nat.le_of_ble_eq_true rfl) (Nat.le_of_ble_eq_true rfl)) (fun v10 h9 hf => ?_)
            refine s_jn hf (fun j55 e55 hf => ?_)
            have k55 : ∀ (x11 : Int32), j55 x11 = some r → WW X h9 0 0 55 [some (rB (xD X).1 o), some (.int a1), some (.int a2), some (.int x11), some (.int x4)] [] := by
              intro x11 hf
              rw [e55] at hf
              refine s_iinc C dX12_jump_55 (v := (x4 + 1)) rfl rfl (by decide) (nc_i rfl) (lv' := [some (rB (xD X).1 o), some (.int a1), some (.int a2), some (.int x11), some (.int (x4 + 1))]) rfl ?_
              refine s_goto (tgt := 20) C dX12_jump_58 (by decide) ?_
              exact ih20 _ _ _ hf
            refine s_if_ne (tgt := 44) C dX12_jump_38 (by decide) hf (fun hf => ?_) (fun hf => ?_)
            · refine s_iload_n C dX12_jump_44 rfl ?_
              refine s_iload_n C dX12_jump_45 rfl ?_
              refine s_icmp_ne (tgt := 52) C dX12_jump_46 (by decide) hf (fun hf => ?_) (fun hf => ?_)
              · refine s_iinc C dX12_jump_52 (v := (x3 + 1)) rfl rfl (by decide) (nc_i rfl) (lv' := [some (rB (xD X).1 o), some (.int a1), some (.int a2), some (.int (x3 + 1)), some (.int x4)]) rfl ?_
                exact k55 _ hf
              · refine s_iload C dX12_jump_49 rfl ?_
                exact s_ireturn C E dX12_jump_51 hf (Nat.le_of_ble_eq_true rfl) (Nat.le_of_ble_eq_true rfl)
            · refine s_goto (tgt := 55) C dX12_jump_41 (by decide) ?_
              exact k55 _ hf
      exact k20 lpN _ _ _ hf
    · refine s_weak (lv' := [none, none, none, none, none]) trivial ?_
      exact k13 hf
/-- HillBoxesModel.keep(II)I -/
noncomputable def f_X12_keep (o : Option Nat) (a1 : Int32) (a2 : Int32) (h : AH) : Option (Int32 × AH) :=
  cl (f_X12_isShelf a1 h) fun v2 h1 =>
  jn (fun (h3 : AH) =>
    some ((-1 : Int32), h3)) fun j20 =>
  if v2 = 0 then
    j20 h1
  else
    jn (fun (h4 : AH) =>
      fR h4 [12] o 86 fun v5 =>
      bI h4 20 v5 a1 a2 fun h6 =>
      some ((1 : Int32), h6)) fun j22 =>
    if a2 = (-1 : Int32) then
      j22 h1
    else
      rO h1 [12] o <| cl (f_X12_isBody o a2 h1) fun v8 h7 =>
      if v8 = 0 then
        j20 h7
      else
        j22 h7
set_option maxRecDepth 100000 in
set_option maxHeartbeats 4000000 in
theorem c_X12_keep (l : Launch) (D : DT) (o : Option Nat) (a1 : Int32) (a2 : Int32) (h : AH) (r : Int32 × AH) (hf : f_X12_keep o a1 a2 h = some r) : CM l D yX12_keep cX12_keep 3 (some .int) 2 43 0 0 [.inr (.inr o), .inl a1, .inl a2] h (some (.int r.1)) r.2 := by
  refine CM.of (by decide) (Nat.le_of_ble_eq_true rfl) (fun X hl C hD hX hnm E => ?_)
  subst hl
  subst hD
  have C : CX X RX12 cX12_keep 3 := C
  show WW X h 0 0 0 [some (rB (xD X).1 o), some (.int a1), some (.int a2)] []
  unfold f_X12_keep at hf
  refine s_iload_n C dX12_keep_0 rfl ?_
  refine s_callS (rvf := fun x => some (.int x)) (st := []) (fr := 1) (lo := 22) (mc := 0) (ms := 0) C wc_X12_isShelf wml_X12_276 wst_X12_isShelf dX12_keep_1 (As := [.inl a1]) rfl hf (fun x h' hF => c_X12_isShelf _ _ _ _ (x, h') hF) rfl (Nat.le_of_ble_eq_true rfl) (room_ok hX (Nat.le_of_ble_eq_true rfl) (Nat.le_of_ble_eq_true rfl)) (cell_ok hX (Nat.le_of_ble_eq_true rfl) (Nat.le_of_ble_eq_true rfl)) (fun v2 h1 hf => ?_)
  refine s_jn hf (fun j20 e20 hf => ?_)
  have k20 : ∀ (h3 : AH), j20 h3 = some r → WW X h3 0 0 20 [none, none, none] [] := by
    intro h3 hf
    rw [e20] at hf
    refine s_iconst C dX12_keep_20 (v := (-1 : Int32)) (by decide) ?_
    exact s_ireturn C E dX12_keep_21 hf (Nat.le_of_ble_eq_true rfl) (Nat.le_of_ble_eq_true rfl)
  refine s_if_eq (tgt := 20) C dX12_keep_4 (by decide) hf (fun hf => ?_) (fun hf => ?_)
  · refine s_weak (lv' := [none, none, none]) trivial ?_
    exact k20 _ hf
  · refine s_iload_n C dX12_keep_7 rfl ?_
    refine s_iconst C dX12_keep_8 (v := (-1 : Int32)) (by decide) ?_
    refine s_jn hf (fun j22 e22 hf => ?_)
    have k22 : ∀ (h4 : AH), j22 h4 = some r → WW X h4 0 0 22 [some (rB (xD X).1 o), some (.int a1), some (.int a2)] [] := by
      intro h4 hf
      rw [e22] at hf
      refine s_aload_n C dX12_keep_22 rfl ?_
      refine s_getR C fl_X12_180 dX12_keep_23 hf (fun v5 hf => ?_)
      refine s_iload_n C dX12_keep_26 rfl ?_
      refine s_iload_n C dX12_keep_27 rfl ?_
      refine s_iastore C dX12_keep_28 hf (fun h6 hf => ?_)
      refine s_iconst C dX12_keep_29 (v := (1 : Int32)) (by decide) ?_
      exact s_ireturn C E dX12_keep_30 hf (Nat.le_of_ble_eq_true rfl) (Nat.le_of_ble_eq_true rfl)
    refine s_icmp_eq (tgt := 22) C dX12_keep_9 (by decide) hf (fun hf => ?_) (fun hf => ?_)
    · exact k22 _ hf
    · refine s_aload_n C dX12_keep_12 rfl ?_
      refine s_iload_n C dX12_keep_13 rfl ?_
      refine s_callV (rvf := fun x => some (.int x)) (st := []) (fr := 1) (lo := 22) (mc := 0) (ms := 0) C [12] wc_X12_isBody wml_X12_217 wim_X12_isBody wsl_12_X12_isBody dX12_keep_14 (As := [.inl a2]) rfl hf (fun x h' hF => c_X12_isBody _ _ _ _ _ (x, h') hF) rfl (Nat.le_of_ble_eq_true rfl) (room_ok hX (Nat.le_of_ble_eq_true rfl) (Nat.le_of_ble_eq_true rfl)) (cell_ok hX (Nat.le_of_ble_eq_true rfl) (Nat.le_of_ble_eq_true rfl)) (fun v8 h7 hf => ?_)
      refine s_if_ne (tgt := 22) C dX12_keep_17 (by decide) hf (fun hf => ?_) (fun hf => ?_)
      · exact k22 _ hf
      · refine s_weak (lv' := [none, none, none]) trivial ?_
        exact k20 _ hf
/-- HillBoxesModel.leaves(I)I -/
noncomputable def f_X12_leaves (o : Option Nat) (a1 : Int32) (h : AH) : Option (Int32 × AH) :=
  rO h [12] o <| cl (f_X12_isFinder o a1 h) fun v2 h1 =>
  if v2 = 0 then
    some ((-1 : Int32), h1)
  else
    fR h1 [12] o 7 fun v3 =>
    aI h1 20 v3 a1 fun v4 =>
    if v4 < 0 then
      fR h1 [12] o 7 fun v5 =>
      fI h1 [12] o 1 fun v6 =>
      bI h1 20 v5 a1 v6 fun h7 =>
      some ((1 : Int32), h7)
    else
      some ((-2 : Int32), h1)
set_option maxRecDepth 100000 in
set_option maxHeartbeats 4000000 in
theorem c_X12_leaves (l : Launch) (D : DT) (o : Option Nat) (a1 : Int32) (h : AH) (r : Int32 × AH) (hf : f_X12_leaves o a1 h = some r) : CM l D yX12_leaves cX12_leaves 2 (some .int) 3 64 0 0 [.inr (.inr o), .inl a1] h (some (.int r.1)) r.2 := by
  refine CM.of (by decide) (Nat.le_of_ble_eq_true rfl) (fun X hl C hD hX hnm E => ?_)
  subst hl
  subst hD
  have C : CX X RX12 cX12_leaves 2 := C
  show WW X h 0 0 0 [some (rB (xD X).1 o), some (.int a1)] []
  unfold f_X12_leaves at hf
  refine s_aload_n C dX12_leaves_0 rfl ?_
  refine s_iload_n C dX12_leaves_1 rfl ?_
  refine s_callV (rvf := fun x => some (.int x)) (st := []) (fr := 2) (lo := 43) (mc := 0) (ms := 0) C [12] wc_X12_isFinder wml_X12_230 wim_X12_isFinder wsl_12_X12_isFinder dX12_leaves_2 (As := [.inl a1]) rfl hf (fun x h' hF => c_X12_isFinder _ _ _ _ _ (x, h') hF) rfl (Nat.le_of_ble_eq_true rfl) (room_ok hX (Nat.le_of_ble_eq_true rfl) (Nat.le_of_ble_eq_true rfl)) (cell_ok hX (Nat.le_of_ble_eq_true rfl) (Nat.le_of_ble_eq_true rfl)) (fun v2 h1 hf => ?_)
  refine s_if_ne (tgt := 10) C dX12_leaves_5 (by decide) hf (fun hf => ?_) (fun hf => ?_)
  · refine s_aload_n C dX12_leaves_10 rfl ?_
    refine s_getR C fl_X12_22 dX12_leaves_11 hf (fun v3 hf => ?_)
    refine s_iload_n C dX12_leaves_14 rfl ?_
    refine s_iaload C dX12_leaves_15 hf (fun v4 hf => ?_)
    refine s_if_lt (tgt := 22) C dX12_leaves_16 (by decide) hf (fun hf => ?_) (fun hf => ?_)
    · refine s_aload_n C dX12_leaves_22 rfl ?_
      refine s_getR C fl_X12_22 dX12_leaves_23 hf (fun v5 hf => ?_)
      refine s_iload_n C dX12_leaves_26 rfl ?_
      refine s_aload_n C dX12_leaves_27 rfl ?_
      refine s_getI C fl_X12_203 dX12_leaves_28 hf (fun v6 hf => ?_)
      refine s_iastore C dX12_leaves_31 hf (fun h7 hf => ?_)
      refine s_iconst C dX12_leaves_32 (v := (1 : Int32)) (by decide) ?_
      exact s_ireturn C E dX12_leaves_33 hf (Nat.le_of_ble_eq_true rfl) (Nat.le_of_ble_eq_true rfl)
    · refine s_bipush C dX12_leaves_19 (v := (-2 : Int32)) (by decide) ?_
      exact s_ireturn C E dX12_leaves_21 hf (Nat.le_of_ble_eq_true rfl) (Nat.le_of_ble_eq_true rfl)
  · refine s_iconst C dX12_leaves_8 (v := (-1 : Int32)) (by decide) ?_
    exact s_ireturn C E dX12_leaves_9 hf (Nat.le_of_ble_eq_true rfl) (Nat.le_of_ble_eq_true rfl)
/-- HillBoxesModel.liesAt(III)I -/
noncomputable def f_X12_liesAt (o : Option Nat) (a1 : Int32) (a2 : Int32) (a3 : Int32) (h : AH) : Option (Int32 × AH) :=
  rO h [12] o <| cl (f_X12_isBox o a1 h) fun v2 h1 =>
  jn (fun (x3 : Int32) (h4 : AH) =>
    some (x3, h4)) fun j40 =>
  jn (fun (h5 : AH) =>
    j40 (-1 : Int32) h5) fun j25 =>
  if v2 = 0 then
    j25 h1
  else
    cl (f_X12_isDay a2 h1) fun v7 h6 =>
    if v7 = 0 then
      j25 h6
    else
      cl (f_X12_in a3 (0 : Int32) (23 : Int32) h6) fun v9 h8 =>
      if v9 = 0 then
        j25 h8
      else
        rO h8 [12] o <| cl (f_X12_liesAtMoment o a1 (((24 : Int32) * a2) + a3) h8) fun v11 h10 =>
        j40 v11 h10
set_option maxRecDepth 100000 in
set_option maxHeartbeats 4000000 in
theorem c_X12_liesAt (l : Launch) (D : DT) (o : Option Nat) (a1 : Int32) (a2 : Int32) (a3 : Int32) (h : AH) (r : Int32 × AH) (hf : f_X12_liesAt o a1 a2 a3 h = some r) : CM l D yX12_liesAt cX12_liesAt 4 (some .int) 3 66 0 0 [.inr (.inr o), .inl a1, .inl a2, .inl a3] h (some (.int r.1)) r.2 := by
  refine CM.of (by decide) (Nat.le_of_ble_eq_true rfl) (fun X hl C hD hX hnm E => ?_)
  subst hl
  subst hD
  have C : CX X RX12 cX12_liesAt 4 := C
  show WW X h 0 0 0 [some (rB (xD X).1 o), some (.int a1), some (.int a2), some (.int a3)] []
  unfold f_X12_liesAt at hf
  refine s_aload_n C dX12_liesAt_0 rfl ?_
  refine s_iload_n C dX12_liesAt_1 rfl ?_
  refine s_callV (rvf := fun x => some (.int x)) (st := []) (fr := 2) (lo := 43) (mc := 0) (ms := 0) C [12] wc_X12_isBox wml_X12_224 wim_X12_isBox wsl_12_X12_isBox dX12_liesAt_2 (As := [.inl a1]) rfl hf (fun x h' hF => c_X12_isBox _ _ _ _ _ (x, h') hF) rfl (Nat.le_of_ble_eq_true rfl) (room_ok hX (Nat.le_of_ble_eq_true rfl) (Nat.le_of_ble_eq_true rfl)) (cell_ok hX (Nat.le_of_ble_eq_true rfl) (Nat.le_of_ble_eq_true rfl)) (fun v2 h1 hf => ?_)
  refine s_jn hf (fun j40 e40 hf => ?_)
  have k40 : ∀ (x3 : Int32) (h4 : AH), j40 x3 h4 = some r → WW X h4 0 0 40 [none, none, none, none] [.int x3] := by
    intro x3 h4 hf
    rw [e40] at hf
    exact s_ireturn C E dX12_liesAt_40 hf (Nat.le_of_ble_eq_true rfl) (Nat.le_of_ble_eq_true rfl)
  refine s_jn hf (fun j25 e25 hf => ?_)
  have k25 : ∀ (h5 : AH), j25 h5 = some r → WW X h5 0 0 25 [none, none, none, none] [] := by
    intro h5 hf
    rw [e25] at hf
    refine s_iconst C dX12_liesAt_25 (v := (-1 : Int32)) (by decide) ?_
    refine s_goto (tgt := 40) C dX12_liesAt_26 (by decide) ?_
    exact k40 _ _ hf
  refine s_if_eq (tgt := 25) C dX12_liesAt_5 (by decide) hf (fun hf => ?_) (fun hf => ?_)
  · refine s_weak (lv' := [none, none, none, none]) trivial ?_
    exact k25 _ hf
  · refine s_iload_n C dX12_liesAt_8 rfl ?_
    refine s_callS (rvf := fun x => some (.int x)) (st := []) (fr := 1) (lo := 22) (mc := 0) (ms := 0) C wc_X12_isDay wml_X12_245 wst_X12_isDay dX12_liesAt_9 (As := [.inl a2]) rfl hf (fun x h' hF => c_X12_isDay _ _ _ _ (x, h') hF) rfl (Nat.le_of_ble_eq_true rfl) (room_ok hX (Nat.le_of_ble_eq_true rfl) (Nat.le_of_ble_eq_true rfl)) (cell_ok hX (Nat.le_of_ble_eq_true rfl) (Nat.le_of_ble_eq_true rfl)) (fun v7 h6 hf => ?_)
    refine s_if_eq (tgt := 25) C dX12_liesAt_12 (by decide) hf (fun hf => ?_) (fun hf => ?_)
    · refine s_weak (lv' := [none, none, none, none]) trivial ?_
      exact k25 _ hf
    · refine s_iload_n C dX12_liesAt_15 rfl ?_
      refine s_iconst C dX12_liesAt_16 (v := (0 : Int32)) (by decide) ?_
      refine s_bipush C dX12_liesAt_17 (v := (23 : Int32)) (by decide) ?_
      refine s_callS (rvf := fun x => some (.int x)) (st := []) (fr := 0) (lo := 0) (mc := 0) (ms := 0) C wc_X12_in wml_X12_195 wst_X12_in dX12_liesAt_19 (As := [.inl a3, .inl (0 : Int32), .inl (23 : Int32)]) rfl hf (fun x h' hF => c_X12_in _ _ _ _ _ _ (x, h') hF) rfl (Nat.le_of_ble_eq_true rfl) (room_ok hX (Nat.le_of_ble_eq_true rfl) (Nat.le_of_ble_eq_true rfl)) (cell_ok hX (Nat.le_of_ble_eq_true rfl) (Nat.le_of_ble_eq_true rfl)) (fun v9 h8 hf => ?_)
      refine s_if_ne (tgt := 29) C dX12_liesAt_22 (by decide) hf (fun hf => ?_) (fun hf => ?_)
      · refine s_aload_n C dX12_liesAt_29 rfl ?_
        refine s_iload_n C dX12_liesAt_30 rfl ?_
        refine s_bipush C dX12_liesAt_31 (v := (24 : Int32)) (by decide) ?_
        refine s_iload_n C dX12_liesAt_33 rfl ?_
        refine s_imul C dX12_liesAt_34 ?_
        refine s_iload_n C dX12_liesAt_35 rfl ?_
        refine s_iadd C dX12_liesAt_36 ?_
        refine s_callV (rvf := fun x => some (.int x)) (st := []) (fr := 2) (lo := 43) (mc := 0) (ms := 0) C [12] wc_X12_liesAtMoment wml_X12_248 wim_X12_liesAtMoment wsl_12_X12_liesAtMoment dX12_liesAt_37 (As := [.inl a1, .inl (((24 : Int32) * a2) + a3)]) rfl hf (fun x h' hF => c_X12_liesAtMoment _ _ _ _ _ _ (x, h') hF) rfl (Nat.le_of_ble_eq_true rfl) (room_ok hX (Nat.le_of_ble_eq_true rfl) (Nat.le_of_ble_eq_true rfl)) (cell_ok hX (Nat.le_of_ble_eq_true rfl) (Nat.le_of_ble_eq_true rfl)) (fun v11 h10 hf => ?_)
        refine s_weak (lv' := [none, none, none, none]) trivial ?_
        exact k40 _ _ hf
      · refine s_weak (lv' := [none, none, none, none]) trivial ?_
        exact k25 _ hf
/-- HillBoxesModel.log(IIII)I -/
noncomputable def f_X12_log (o : Option Nat) (a1 : Int32) (a2 : Int32) (a3 : Int32) (a4 : Int32) (h : AH) : Option (Int32 × AH) :=
  rO h [12] o <| cl (f_X12_isFinder o a1 h) fun v2 h1 =>
  jn (fun (h3 : AH) =>
    some ((-1 : Int32), h3)) fun j46 =>
  if v2 = 0 then
    j46 h1
  else
    rO h1 [12] o <| cl (f_X12_isBox o a2 h1) fun v5 h4 =>
    if v5 = 0 then
      j46 h4
    else
      fI h4 [12] o 1 fun v6 =>
      cl (f_X12_in a3 (0 : Int32) ((((24 : Int32) * v6) + (24 : Int32)) - (1 : Int32)) h4) fun v8 h7 =>
      if v8 = 0 then
        j46 h7
      else
        cl (f_X12_in a4 (0 : Int32) (1 : Int32) h7) fun v10 h9 =>
        if v10 = 0 then
          j46 h9
        else
          fI h9 [12] o 17 fun v11 =>
          if v11 = (300 : Int32) then
            some ((-3 : Int32), h9)
          else
            fR h9 [12] o 18 fun v12 =>
            fI h9 [12] o 17 fun v13 =>
            bI h9 20 v12 v13 a1 fun h14 =>
            fR h14 [12] o 19 fun v15 =>
            fI h14 [12] o 17 fun v16 =>
            bI h14 20 v15 v16 a2 fun h17 =>
            fR h17 [12] o 20 fun v18 =>
            fI h17 [12] o 17 fun v19 =>
            bI h17 20 v18 v19 a3 fun h20 =>
            fR h20 [12] o 21 fun v21 =>
            fI h20 [12] o 17 fun v22 =>
            jn (fun (x23 : Int32) =>
              bI h20 23 v21 v22 (x23 &&& 1) fun h24 =>
              fI h24 [12] o 17 fun v25 =>
              pI h24 [12] o 17 (v25 + (1 : Int32)) fun h26 =>
              fI h26 [12] o 17 fun v27 =>
              some ((v27 - (1 : Int32)), h26)) fun j110 =>
            if a4 = (1 : Int32) then
              j110 (1 : Int32)
            else
              j110 (0 : Int32)
set_option maxRecDepth 100000 in
set_option maxHeartbeats 4000000 in
theorem c_X12_log (l : Launch) (D : DT) (o : Option Nat) (a1 : Int32) (a2 : Int32) (a3 : Int32) (a4 : Int32) (h : AH) (r : Int32 × AH) (hf : f_X12_log o a1 a2 a3 a4 h = some r) : CM l D yX12_log cX12_log 5 (some .int) 3 64 0 0 [.inr (.inr o), .inl a1, .inl a2, .inl a3, .inl a4] h (some (.int r.1)) r.2 := by
  refine CM.of (by decide) (Nat.le_of_ble_eq_true rfl) (fun X hl C hD hX hnm E => ?_)
  subst hl
  subst hD
  have C : CX X RX12 cX12_log 5 := C
  show WW X h 0 0 0 [some (rB (xD X).1 o), some (.int a1), some (.int a2), some (.int a3), some (.int a4)] []
  unfold f_X12_log at hf
  refine s_aload_n C dX12_log_0 rfl ?_
  refine s_iload_n C dX12_log_1 rfl ?_
  refine s_callV (rvf := fun x => some (.int x)) (st := []) (fr := 2) (lo := 43) (mc := 0) (ms := 0) C [12] wc_X12_isFinder wml_X12_230 wim_X12_isFinder wsl_12_X12_isFinder dX12_log_2 (As := [.inl a1]) rfl hf (fun x h' hF => c_X12_isFinder _ _ _ _ _ (x, h') hF) rfl (Nat.le_of_ble_eq_true rfl) (room_ok hX (Nat.le_of_ble_eq_true rfl) (Nat.le_of_ble_eq_true rfl)) (cell_ok hX (Nat.le_of_ble_eq_true rfl) (Nat.le_of_ble_eq_true rfl)) (fun v2 h1 hf => ?_)
  refine s_jn hf (fun j46 e46 hf => ?_)
  have k46 : ∀ (h3 : AH), j46 h3 = some r → WW X h3 0 0 46 [none, none, none, none, none] [] := by
    intro h3 hf
    rw [e46] at hf
    refine s_iconst C dX12_log_46 (v := (-1 : Int32)) (by decide) ?_
    exact s_ireturn C E dX12_log_47 hf (Nat.le_of_ble_eq_true rfl) (Nat.le_of_ble_eq_true rfl)
  refine s_if_eq (tgt := 46) C dX12_log_5 (by decide) hf (fun hf => ?_) (fun hf => ?_)
  · refine s_weak (lv' := [none, none, none, none, none]) trivial ?_
    exact k46 _ hf
  · refine s_aload_n C dX12_log_8 rfl ?_
    refine s_iload_n C dX12_log_9 rfl ?_
    refine s_callV (rvf := fun x => some (.int x)) (st := []) (fr := 2) (lo := 43) (mc := 0) (ms := 0) C [12] wc_X12_isBox wml_X12_224 wim_X12_isBox wsl_12_X12_isBox dX12_log_10 (As := [.inl a2]) rfl hf (fun x h' hF => c_X12_isBox _ _ _ _ _ (x, h') hF) rfl (Nat.le_of_ble_eq_true rfl) (room_ok hX (Nat.le_of_ble_eq_true rfl) (Nat.le_of_ble_eq_true rfl)) (cell_ok hX (Nat.le_of_ble_eq_true rfl) (Nat.le_of_ble_eq_true rfl)) (fun v5 h4 hf => ?_)
    refine s_if_eq (tgt := 46) C dX12_log_13 (by decide) hf (fun hf => ?_) (fun hf => ?_)
    · refine s_weak (lv' := [none, none, none, none, none]) trivial ?_
      exact k46 _ hf
    · refine s_iload_n C dX12_log_16 rfl ?_
      refine s_iconst C dX12_log_17 (v := (0 : Int32)) (by decide) ?_
      refine s_bipush C dX12_log_18 (v := (24 : Int32)) (by decide) ?_
      refine s_aload_n C dX12_log_20 rfl ?_
      refine s_getI C fl_X12_203 dX12_log_21 hf (fun v6 hf => ?_)
      refine s_imul C dX12_log_24 ?_
      refine s_bipush C dX12_log_25 (v := (24 : Int32)) (by decide) ?_
      refine s_iadd C dX12_log_27 ?_
      refine s_iconst C dX12_log_28 (v := (1 : Int32)) (by decide) ?_
      refine s_isub C dX12_log_29 ?_
      refine s_callS (rvf := fun x => some (.int x)) (st := []) (fr := 0) (lo := 0) (mc := 0) (ms := 0) C wc_X12_in wml_X12_195 wst_X12_in dX12_log_30 (As := [.inl a3, .inl (0 : Int32), .inl ((((24 : Int32) * v6) + (24 : Int32)) - (1 : Int32))]) rfl hf (fun x h' hF => c_X12_in _ _ _ _ _ _ (x, h') hF) rfl (Nat.le_of_ble_eq_true rfl) (room_ok hX (Nat.le_of_ble_eq_true rfl) (Nat.le_of_ble_eq_true rfl)) (cell_ok hX (Nat.le_of_ble_eq_true rfl) (Nat.le_of_ble_eq_true rfl)) (fun v8 h7 hf => ?_)
      refine s_if_eq (tgt := 46) C dX12_log_33 (by decide) hf (fun hf => ?_) (fun hf => ?_)
      · refine s_weak (lv' := [none, none, none, none, none]) trivial ?_
        exact k46 _ hf
      · refine s_iload C dX12_log_36 rfl ?_
        refine s_iconst C dX12_log_38 (v := (0 : Int32)) (by decide) ?_
        refine s_iconst C dX12_log_39 (v := (1 : Int32)) (by decide) ?_
        refine s_callS (rvf := fun x => some (.int x)) (st := []) (fr := 0) (lo := 0) (mc := 0) (ms := 0) C wc_X12_in wml_X12_195 wst_X12_in dX12_log_40 (As := [.inl a4, .inl (0 : Int32), .inl (1 : Int32)]) rfl hf (fun x h' hF => c_X12_in _ _ _ _ _ _ (x, h') hF) rfl (Nat.le_of_ble_eq_true rfl) (room_ok hX (Nat.le_of_ble_eq_true rfl) (Nat.le_of_ble_eq_true rfl)) (cell_ok hX (Nat.le_of_ble_eq_true rfl) (Nat.le_of_ble_eq_true rfl)) (fun v10 h9 hf => ?_)
        refine s_if_ne (tgt := 48) C dX12_log_43 (by decide) hf (fun hf => ?_) (fun hf => ?_)
        · refine s_aload_n C dX12_log_48 rfl ?_
          refine s_getI C fl_X12_252 dX12_log_49 hf (fun v11 hf => ?_)
          refine s_sipush C dX12_log_52 (v := (300 : Int32)) (by decide) ?_
          refine s_icmp_ne (tgt := 61) C dX12_log_55 (by decide) hf (fun hf => ?_) (fun hf => ?_)
          · refine s_aload_n C dX12_log_61 rfl ?_
            refine s_getR C fl_X12_46 dX12_log_62 hf (fun v12 hf => ?_)
            refine s_aload_n C dX12_log_65 rfl ?_
            refine s_getI C fl_X12_252 dX12_log_66 hf (fun v13 hf => ?_)
            refine s_iload_n C dX12_log_69 rfl ?_
            refine s_iastore C dX12_log_70 hf (fun h14 hf => ?_)
            refine s_aload_n C dX12_log_71 rfl ?_
            refine s_getR C fl_X12_49 dX12_log_72 hf (fun v15 hf => ?_)
            refine s_aload_n C dX12_log_75 rfl ?_
            refine s_getI C fl_X12_252 dX12_log_76 hf (fun v16 hf => ?_)
            refine s_iload_n C dX12_log_79 rfl ?_
            refine s_iastore C dX12_log_80 hf (fun h17 hf => ?_)
            refine s_aload_n C dX12_log_81 rfl ?_
            refine s_getR C fl_X12_52 dX12_log_82 hf (fun v18 hf => ?_)
            refine s_aload_n C dX12_log_85 rfl ?_
            refine s_getI C fl_X12_252 dX12_log_86 hf (fun v19 hf => ?_)
            refine s_iload_n C dX12_log_89 rfl ?_
            refine s_iastore C dX12_log_90 hf (fun h20 hf => ?_)
            refine s_aload_n C dX12_log_91 rfl ?_
            refine s_getR C fl_X12_55 dX12_log_92 hf (fun v21 hf => ?_)
            refine s_aload_n C dX12_log_95 rfl ?_
            refine s_getI C fl_X12_252 dX12_log_96 hf (fun v22 hf => ?_)
            refine s_iload C dX12_log_99 rfl ?_
            refine s_iconst C dX12_log_101 (v := (1 : Int32)) (by decide) ?_
            refine s_jn hf (fun j110 e110 hf => ?_)
            have k110 : ∀ (x23 : Int32), j110 x23 = some r → WW X h20 0 0 110 [some (rB (xD X).1 o), none, none, none, none] [.int x23, .int v22, rB (xD X).1 v21] := by
              intro x23 hf
              rw [e110] at hf
              refine s_zastore C dX12_log_110 hf (fun h24 hf => ?_)
              refine s_aload_n C dX12_log_111 rfl ?_
              refine s_dup C dX12_log_112 c1_r ?_
              refine s_getI C fl_X12_252 dX12_log_113 hf (fun v25 hf => ?_)
              refine s_iconst C dX12_log_116 (v := (1 : Int32)) (by decide) ?_
              refine s_iadd C dX12_log_117 ?_
              refine s_putI C fl_X12_252 (by decide) dX12_log_118 hf (fun h26 hf => ?_)
              refine s_aload_n C dX12_log_121 rfl ?_
              refine s_getI C fl_X12_252 dX12_log_122 hf (fun v27 hf => ?_)
              refine s_iconst C dX12_log_125 (v := (1 : Int32)) (by decide) ?_
              refine s_isub C dX12_log_126 ?_
              exact s_ireturn C E dX12_log_127 hf (Nat.le_of_ble_eq_true rfl) (Nat.le_of_ble_eq_true rfl)
            refine s_icmp_ne (tgt := 109) C dX12_log_102 (by decide) hf (fun hf => ?_) (fun hf => ?_)
            · refine s_iconst C dX12_log_109 (v := (0 : Int32)) (by decide) ?_
              refine s_weak (lv' := [some (rB (xD X).1 o), none, none, none, none]) ⟨rfl, trivial⟩ ?_
              exact k110 _ hf
            · refine s_iconst C dX12_log_105 (v := (1 : Int32)) (by decide) ?_
              refine s_goto (tgt := 110) C dX12_log_106 (by decide) ?_
              refine s_weak (lv' := [some (rB (xD X).1 o), none, none, none, none]) ⟨rfl, trivial⟩ ?_
              exact k110 _ hf
          · refine s_bipush C dX12_log_58 (v := (-3 : Int32)) (by decide) ?_
            exact s_ireturn C E dX12_log_60 hf (Nat.le_of_ble_eq_true rfl) (Nat.le_of_ble_eq_true rfl)
        · refine s_weak (lv' := [none, none, none, none, none]) trivial ?_
          exact k46 _ hf
/-- HillBoxesModel.isUnfound(I)Z -/
noncomputable def f_X12_isUnfound (o : Option Nat) (a1 : Int32) (h : AH) : Option (Int32 × AH) :=
  rO h [12] o <| cl (f_X12_isOut o a1 h) fun v2 h1 =>
  jn (fun (x3 : Int32) (h4 : AH) =>
    rz x3 h4) fun j21 =>
  jn (fun (h5 : AH) =>
    j21 (0 : Int32) h5) fun j20 =>
  if v2 = 0 then
    j20 h1
  else
    rO h1 [12] o <| cl (f_X12_findsOf o a1 h1) fun v7 h6 =>
    if v7 = 0 then
      j21 (1 : Int32) h6
    else
      j20 h6
set_option maxRecDepth 100000 in
set_option maxHeartbeats 4000000 in
theorem c_X12_isUnfound (l : Launch) (D : DT) (o : Option Nat) (a1 : Int32) (h : AH) (r : Int32 × AH) (hf : f_X12_isUnfound o a1 h = some r) : CM l D yX12_isUnfound cX12_isUnfound 2 (some .boolean) 4 85 0 0 [.inr (.inr o), .inl a1] h (some (.int r.1)) r.2 := by
  refine CM.of (by decide) (Nat.le_of_ble_eq_true rfl) (fun X hl C hD hX hnm E => ?_)
  subst hl
  subst hD
  have C : CX X RX12 cX12_isUnfound 2 := C
  show WW X h 0 0 0 [some (rB (xD X).1 o), some (.int a1)] []
  unfold f_X12_isUnfound at hf
  refine s_aload_n C dX12_isUnfound_0 rfl ?_
  refine s_iload_n C dX12_isUnfound_1 rfl ?_
  refine s_callV (rvf := fun x => some (.int x)) (st := []) (fr := 3) (lo := 64) (mc := 0) (ms := 0) C [12] wc_X12_isOut wml_X12_255 wim_X12_isOut wsl_12_X12_isOut dX12_isUnfound_2 (As := [.inl a1]) rfl hf (fun x h' hF => c_X12_isOut _ _ _ _ _ (x, h') hF) rfl (Nat.le_of_ble_eq_true rfl) (room_ok hX (Nat.le_of_ble_eq_true rfl) (Nat.le_of_ble_eq_true rfl)) (cell_ok hX (Nat.le_of_ble_eq_true rfl) (Nat.le_of_ble_eq_true rfl)) (fun v2 h1 hf => ?_)
  refine s_jn hf (fun j21 e21 hf => ?_)
  have k21 : ∀ (x3 : Int32) (h4 : AH), j21 x3 h4 = some r → WW X h4 0 0 21 [none, none] [.int x3] := by
    intro x3 h4 hf
    rw [e21] at hf
    exact s_zreturn C E dX12_isUnfound_21 hf (Nat.le_of_ble_eq_true rfl) (Nat.le_of_ble_eq_true rfl)
  refine s_jn hf (fun j20 e20 hf => ?_)
  have k20 : ∀ (h5 : AH), j20 h5 = some r → WW X h5 0 0 20 [none, none] [] := by
    intro h5 hf
    rw [e20] at hf
    refine s_iconst C dX12_isUnfound_20 (v := (0 : Int32)) (by decide) ?_
    exact k21 _ _ hf
  refine s_if_eq (tgt := 20) C dX12_isUnfound_5 (by decide) hf (fun hf => ?_) (fun hf => ?_)
  · refine s_weak (lv' := [none, none]) trivial ?_
    exact k20 _ hf
  · refine s_aload_n C dX12_isUnfound_8 rfl ?_
    refine s_iload_n C dX12_isUnfound_9 rfl ?_
    refine s_callV (rvf := fun x => some (.int x)) (st := []) (fr := 0) (lo := 0) (mc := 0) (ms := 0) C [12] wc_X12_findsOf wml_X12_264 wim_X12_findsOf wsl_12_X12_findsOf dX12_isUnfound_10 (As := [.inl a1]) rfl hf (fun x h' hF => c_X12_findsOf _ _ _ _ _ (x, h') hF) rfl (Nat.le_of_ble_eq_true rfl) (room_ok hX (Nat.le_of_ble_eq_true rfl) (Nat.le_of_ble_eq_true rfl)) (cell_ok hX (Nat.le_of_ble_eq_true rfl) (Nat.le_of_ble_eq_true rfl)) (fun v7 h6 hf => ?_)
    refine s_if_ne (tgt := 20) C dX12_isUnfound_13 (by decide) hf (fun hf => ?_) (fun hf => ?_)
    · refine s_weak (lv' := [none, none]) trivial ?_
      exact k20 _ hf
    · refine s_iconst C dX12_isUnfound_16 (v := (1 : Int32)) (by decide) ?_
      refine s_goto (tgt := 21) C dX12_isUnfound_17 (by decide) ?_
      refine s_weak (lv' := [none, none]) trivial ?_
      exact k21 _ _ hf
/-- HillBoxesModel.lookAt(II)I -/
noncomputable def f_X12_lookAt (o : Option Nat) (a1 : Int32) (a2 : Int32) (h : AH) : Option (Int32 × AH) :=
  rO h [12] o <| cl (f_X12_isBox o a1 h) fun v2 h1 =>
  jn (fun (h3 : AH) =>
    some ((-1 : Int32), h3)) fun j17 =>
  if v2 = 0 then
    j17 h1
  else
    cl (f_X12_in a2 (0 : Int32) (1 : Int32) h1) fun v5 h4 =>
    if v5 = 0 then
      j17 h4
    else
      rO h4 [12] o <| cl (f_X12_isUnfound o a1 h4) fun v7 h6 =>
      jn (
        some ((-2 : Int32), h6)) fun j36 =>
      if v7 = 0 then
        j36
      else
        fR h6 [12] o 80 fun v8 =>
        aI h6 22 v8 a1 fun v9 =>
        if v9 ≤ 0 then
          fR h6 [12] o 80 fun v10 =>
          bI h6 22 v10 a1 ((((1 : Int32) + a2).toInt8.toInt32).toInt8.toInt32) fun h11 =>
          lp (fun _ _ => none) (fun (L54 : Int32 → Int32 → Option (Int32 × AH)) (x12 : Int32) (x13 : Int32) =>
            fI h11 [12] o 3 fun v14 =>
            if v14 ≤ x13 then
              some (x12, h11)
            else
              fR h11 [12] o 80 fun v15 =>
              aI h11 22 v15 x13 fun v16 =>
              jn (fun (x17 : Int32) =>
                L54 (x12 + x17) (x13 + 1)) fun j79 =>
              if v16 ≤ 0 then
                j79 (0 : Int32)
              else
                j79 (1 : Int32)) lpN (0 : Int32) (0 : Int32)
        else
          j36
set_option maxRecDepth 100000 in
set_option maxHeartbeats 4000000 in
theorem c_X12_lookAt (l : Launch) (D : DT) (o : Option Nat) (a1 : Int32) (a2 : Int32) (h : AH) (r : Int32 × AH) (hf : f_X12_lookAt o a1 a2 h = some r) : CM l D yX12_lookAt cX12_lookAt 5 (some .int) 5 106 0 0 [.inr (.inr o), .inl a1, .inl a2] h (some (.int r.1)) r.2 := by
  refine CM.of (by decide) (Nat.le_of_ble_eq_true rfl) (fun X hl C hD hX hnm E => ?_)
  subst hl
  subst hD
  have C : CX X RX12 cX12_lookAt 5 := C
  show WW X h 0 0 0 [some (rB (xD X).1 o), some (.int a1), some (.int a2), none, none] []
  unfold f_X12_lookAt at hf
  refine s_aload_n C dX12_lookAt_0 rfl ?_
  refine s_iload_n C dX12_lookAt_1 rfl ?_
  refine s_callV (rvf := fun x => some (.int x)) (st := []) (fr := 2) (lo := 43) (mc := 0) (ms := 0) C [12] wc_X12_isBox wml_X12_224 wim_X12_isBox wsl_12_X12_isBox dX12_lookAt_2 (As := [.inl a1]) rfl hf (fun x h' hF => c_X12_isBox _ _ _ _ _ (x, h') hF) rfl (Nat.le_of_ble_eq_true rfl) (room_ok hX (Nat.le_of_ble_eq_true rfl) (Nat.le_of_ble_eq_true rfl)) (cell_ok hX (Nat.le_of_ble_eq_true rfl) (Nat.le_of_ble_eq_true rfl)) (fun v2 h1 hf => ?_)
  refine s_jn hf (fun j17 e17 hf => ?_)
  have k17 : ∀ (h3 : AH), j17 h3 = some r → WW X h3 0 0 17 [none, none, none, none, none] [] := by
    intro h3 hf
    rw [e17] at hf
    refine s_iconst C dX12_lookAt_17 (v := (-1 : Int32)) (by decide) ?_
    exact s_ireturn C E dX12_lookAt_18 hf (Nat.le_of_ble_eq_true rfl) (Nat.le_of_ble_eq_true rfl)
  refine s_if_eq (tgt := 17) C dX12_lookAt_5 (by decide) hf (fun hf => ?_) (fun hf => ?_)
  · refine s_weak (lv' := [none, none, none, none, none]) trivial ?_
    exact k17 _ hf
  · refine s_iload_n C dX12_lookAt_8 rfl ?_
    refine s_iconst C dX12_lookAt_9 (v := (0 : Int32)) (by decide) ?_
    refine s_iconst C dX12_lookAt_10 (v := (1 : Int32)) (by decide) ?_
    refine s_callS (rvf := fun x => some (.int x)) (st := []) (fr := 0) (lo := 0) (mc := 0) (ms := 0) C wc_X12_in wml_X12_195 wst_X12_in dX12_lookAt_11 (As := [.inl a2, .inl (0 : Int32), .inl (1 : Int32)]) rfl hf (fun x h' hF => c_X12_in _ _ _ _ _ _ (x, h') hF) rfl (Nat.le_of_ble_eq_true rfl) (room_ok hX (Nat.le_of_ble_eq_true rfl) (Nat.le_of_ble_eq_true rfl)) (cell_ok hX (Nat.le_of_ble_eq_true rfl) (Nat.le_of_ble_eq_true rfl)) (fun v5 h4 hf => ?_)
    refine s_if_ne (tgt := 19) C dX12_lookAt_14 (by decide) hf (fun hf => ?_) (fun hf => ?_)
    · refine s_aload_n C dX12_lookAt_19 rfl ?_
      refine s_iload_n C dX12_lookAt_20 rfl ?_
      refine s_callV (rvf := fun x => some (.int x)) (st := []) (fr := 4) (lo := 85) (mc := 0) (ms := 0) C [12] wc_X12_isUnfound wml_X12_570 wim_X12_isUnfound wsl_12_X12_isUnfound dX12_lookAt_21 (As := [.inl a1]) rfl hf (fun x h' hF => c_X12_isUnfound _ _ _ _ _ (x, h') hF) rfl (Nat.le_of_ble_eq_true rfl) (room_ok hX (Nat.le_of_ble_eq_true rfl) (Nat.le_of_ble_eq_true rfl)) (cell_ok hX (Nat.le_of_ble_eq_true rfl) (Nat.le_of_ble_eq_true rfl)) (fun v7 h6 hf => ?_)
      refine s_jn hf (fun j36 e36 hf => ?_)
      have k36 : j36  = some r → WW X h6 0 0 36 [none, none, none, none, none] [] := by
        intro  hf
        rw [e36] at hf
        refine s_bipush C dX12_lookAt_36 (v := (-2 : Int32)) (by decide) ?_
        exact s_ireturn C E dX12_lookAt_38 hf (Nat.le_of_ble_eq_true rfl) (Nat.le_of_ble_eq_true rfl)
      refine s_if_eq (tgt := 36) C dX12_lookAt_24 (by decide) hf (fun hf => ?_) (fun hf => ?_)
      · refine s_weak (lv' := [none, none, none, none, none]) trivial ?_
        exact k36 hf
      · refine s_aload_n C dX12_lookAt_27 rfl ?_
        refine s_getR C fl_X12_164 dX12_lookAt_28 hf (fun v8 hf => ?_)
        refine s_iload_n C dX12_lookAt_31 rfl ?_
        refine s_baload C dX12_lookAt_32 hf (fun v9 hf => ?_)
        refine s_if_le (tgt := 39) C dX12_lookAt_33 (by decide) hf (fun hf => ?_) (fun hf => ?_)
        · refine s_aload_n C dX12_lookAt_39 rfl ?_
          refine s_getR C fl_X12_164 dX12_lookAt_40 hf (fun v10 hf => ?_)
          refine s_iload_n C dX12_lookAt_43 rfl ?_
          refine s_iconst C dX12_lookAt_44 (v := (1 : Int32)) (by decide) ?_
          refine s_iload_n C dX12_lookAt_45 rfl ?_
          refine s_iadd C dX12_lookAt_46 ?_
          refine s_i2b C dX12_lookAt_47 ?_
          refine s_bastore C dX12_lookAt_48 hf (fun h11 hf => ?_)
          refine s_iconst C dX12_lookAt_49 (v := (0 : Int32)) (by decide) ?_
          refine s_istore_n C dX12_lookAt_50 (by decide) (nc_i rfl) (lv' := [some (rB (xD X).1 o), some (.int a1), some (.int a2), some (.int (0 : Int32)), none]) rfl ?_
          refine s_iconst C dX12_lookAt_51 (v := (0 : Int32)) (by decide) ?_
          refine s_istore C dX12_lookAt_52 (by decide) (nc_i rfl) (lv' := [some (rB (xD X).1 o), some (.int a1), some (.int a2), some (.int (0 : Int32)), some (.int (0 : Int32))]) rfl ?_
          refine s_lp2 hf (fun G54 z54 q54 hf => ?_)
          have k54 : ∀ (n : Nat) (x12 : Int32) (x13 : Int32), G54 n x12 x13 = some r → WW X h11 0 0 54 [some (rB (xD X).1 o), none, none, some (.int x12), some (.int x13)] [] := by
            intro n
            induction n with
            | zero =>
              intro x12 x13 hf
              rw [z54] at hf
              cases hf
            | succ n ih54 =>
              intro x12 x13 hf
              have hf := (q54 n x12 x13).symm.trans hf
              refine s_iload C dX12_lookAt_54 rfl ?_
              refine s_aload_n C dX12_lookAt_56 rfl ?_
              refine s_getI C fl_X12_214 dX12_lookAt_57 hf (fun v14 hf => ?_)
              refine s_icmp_ge (tgt := 87) C dX12_lookAt_60 (by decide) hf (fun hf => ?_) (fun hf => ?_)
              · refine s_iload_n C dX12_lookAt_87 rfl ?_
                exact s_ireturn C E dX12_lookAt_88 hf (Nat.le_of_ble_eq_true rfl) (Nat.le_of_ble_eq_true rfl)
              · refine s_iload_n C dX12_lookAt_63 rfl ?_
                refine s_aload_n C dX12_lookAt_64 rfl ?_
                refine s_getR C fl_X12_164 dX12_lookAt_65 hf (fun v15 hf => ?_)
                refine s_iload C dX12_lookAt_68 rfl ?_
                refine s_baload C dX12_lookAt_70 hf (fun v16 hf => ?_)
                refine s_jn hf (fun j79 e79 hf => ?_)
                have k79 : ∀ (x17 : Int32), j79 x17 = some r → WW X h11 0 0 79 [some (rB (xD X).1 o), none, none, none, some (.int x13)] [.int x17, .int x12] := by
                  intro x17 hf
                  rw [e79] at hf
                  refine s_iadd C dX12_lookAt_79 ?_
                  refine s_istore_n C dX12_lookAt_80 (by decide) (nc_n rfl) (lv' := [some (rB (xD X).1 o), none, none, some (.int (x12 + x17)), some (.int x13)]) rfl ?_
                  refine s_iinc C dX12_lookAt_81 (v := (x13 + 1)) rfl rfl (by decide) (nc_i rfl) (lv' := [some (rB (xD X).1 o), none, none, some (.int (x12 + x17)), some (.int (x13 + 1))]) rfl ?_
                  refine s_goto (tgt := 54) C dX12_lookAt_84 (by decide) ?_
                  exact ih54 _ _ hf
                refine s_if_le (tgt := 78) C dX12_lookAt_71 (by decide) hf (fun hf => ?_) (fun hf => ?_)
                · refine s_iconst C dX12_lookAt_78 (v := (0 : Int32)) (by decide) ?_
                  refine s_weak (lv' := [some (rB (xD X).1 o), none, none, none, some (.int x13)]) ⟨rfl, ⟨rfl, trivial⟩⟩ ?_
                  exact k79 _ hf
                · refine s_iconst C dX12_lookAt_74 (v := (1 : Int32)) (by decide) ?_
                  refine s_goto (tgt := 79) C dX12_lookAt_75 (by decide) ?_
                  refine s_weak (lv' := [some (rB (xD X).1 o), none, none, none, some (.int x13)]) ⟨rfl, ⟨rfl, trivial⟩⟩ ?_
                  exact k79 _ hf
          refine s_weak (lv' := [some (rB (xD X).1 o), none, none, some (.int (0 : Int32)), some (.int (0 : Int32))]) ⟨rfl, ⟨rfl, ⟨rfl, trivial⟩⟩⟩ ?_
          exact k54 lpN _ _ hf
        · refine s_weak (lv' := [none, none, none, none, none]) trivial ?_
          exact k36 hf
    · refine s_weak (lv' := [none, none, none, none, none]) trivial ?_
      exact k17 _ hf
