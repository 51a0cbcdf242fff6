/-- java/util/Arrays.fill([II)V -/
noncomputable def f_J7_fill_53178 (a0 : Option Nat) (a1 : Int32) (h : AH) : Option (Unit × AH) :=
  aN h 20 a0 fun v1 =>
  lp (fun _ _ => none) (fun (L5 : Int32 → AH → Option (Unit × AH)) (x2 : Int32) (h3 : AH) =>
    if v1 ≤ x2 then
      some ((), h3)
    else
      bI h3 20 a0 x2 a1 fun h4 =>
      L5 (x2 + 1) h4) lpN (0 : Int32) h
set_option maxRecDepth 100000 in
set_option maxHeartbeats 4000000 in
theorem c_J7_fill_53178 (l : Launch) (D : DT) (a0 : Option Nat) (a1 : Int32) (h : AH) (r : Unit × AH) (hf : f_J7_fill_53178 a0 a1 h = some r) : CM l D yJ7_fill_53178 cJ7_fill_53178 4 none 0 0 0 0 [.inr (.inr a0), .inl a1] h none r.2 := by
  refine CM.of (by decide) (Nat.le_of_ble_eq_true rfl) (fun X hl C hD hX hnm E => ?_)
  subst hl
  subst hD
  have C : CX X RJ7 cJ7_fill_53178 4 := C
  show WW X h 0 0 0 [some (rB (xD X).1 a0), some (.int a1), none, none] []
  unfold f_J7_fill_53178 at hf
  refine s_iconst C dJ7_fill_53178_0 (v := (0 : Int32)) (by decide) ?_
  refine s_istore_n C dJ7_fill_53178_1 (by decide) (nc_i rfl) (lv' := [some (rB (xD X).1 a0), some (.int a1), some (.int (0 : Int32)), none]) rfl ?_
  refine s_aload_n C dJ7_fill_53178_2 rfl ?_
  refine s_alen C dJ7_fill_53178_3 (t := 20) (by decide) hf (fun v1 hf => ?_)
  refine s_istore_n C dJ7_fill_53178_4 (by decide) (nc_i rfl) (lv' := [some (rB (xD X).1 a0), some (.int a1), some (.int (0 : Int32)), some (.int v1)]) rfl ?_
  refine s_lp2 hf (fun G5 z5 q5 hf => ?_)
  have k5 : ∀ (n : Nat) (x2 : Int32) (h3 : AH), G5 n x2 h3 = some r → WW X h3 0 0 5 [some (rB (xD X).1 a0), some (.int a1), some (.int x2), some (.int v1)] [] := by
    intro n
    induction n with
    | zero =>
      intro x2 h3 hf
      rw [z5] at hf
      cases hf
    | succ n ih5 =>
      intro x2 h3 hf
      have hf := (q5 n x2 h3).symm.trans hf
      refine s_iload_n C dJ7_fill_53178_5 rfl ?_
      refine s_iload_n C dJ7_fill_53178_6 rfl ?_
      refine s_icmp_ge (tgt := 20) C dJ7_fill_53178_7 (by decide) hf (fun hf => ?_) (fun hf => ?_)
      · exact s_return C E dJ7_fill_53178_20 hf (Nat.le_of_ble_eq_true rfl) (Nat.le_of_ble_eq_true rfl)
      · refine s_aload_n C dJ7_fill_53178_10 rfl ?_
        refine s_iload_n C dJ7_fill_53178_11 rfl ?_
        refine s_iload_n C dJ7_fill_53178_12 rfl ?_
        refine s_iastore C dJ7_fill_53178_13 hf (fun h4 hf => ?_)
        refine s_iinc C dJ7_fill_53178_14 (v := (x2 + 1)) rfl rfl (by decide) (nc_i rfl) (lv' := [some (rB (xD X).1 a0), some (.int a1), some (.int (x2 + 1)), some (.int v1)]) rfl ?_
        refine s_goto (tgt := 5) C dJ7_fill_53178_17 (by decide) ?_
        exact ih5 _ _ hf
  exact k5 lpN _ _ hf
/-- HillBoxes$Hills.<init>()V -/
noncomputable def f_X3_init (o : Option Nat) (h : AH) : Option (Unit × AH) :=
  rO h [3] o <|
  nO h 20 60 fun v1 h2 =>
  pR h2 [3] o 1 v1 fun h3 =>
  nO h3 25 150 fun v4 h5 =>
  pR h5 [3] o 2 v4 fun h6 =>
  nO h6 20 4 fun v7 h8 =>
  pR h8 [3] o 4 v7 fun h9 =>
  nO h9 20 200 fun v10 h11 =>
  pR h11 [3] o 6 v10 fun h12 =>
  nO h12 20 200 fun v13 h14 =>
  pR h14 [3] o 7 v13 fun h15 =>
  nO h15 20 200 fun v16 h17 =>
  pR h17 [3] o 8 v16 fun h18 =>
  fR h18 [3] o 1 fun v19 =>
  cl (f_J7_fill_53178 v19 (-1 : Int32) h18) fun _ h20 =>
  some ((), h20)
set_option maxRecDepth 100000 in
set_option maxHeartbeats 4000000 in
theorem c_X3_init (l : Launch) (D : DT) (o : Option Nat) (h : AH) (r : Unit × AH) (hf : f_X3_init o h = some r) : CM l D yX3_init cX3_init 1 none 1 23 6 814 [.inr (.inr o)] h none r.2 := by
  refine CM.of (by decide) (Nat.le_of_ble_eq_true rfl) (fun X hl C hD hX hnm E => ?_)
  subst hl
  subst hD
  have C : CX X RX3 cX3_init 1 := C
  show WW X h 0 0 0 [some (rB (xD X).1 o)] []
  unfold f_X3_init at hf
  refine s_aload_n C dX3_init_0 rfl ?_
  refine s_objInit C wml_X3_3 wim_obj wcd_obj dX3_init_1 (cs := [3]) hf (Nat.le_of_ble_eq_true rfl) (room_n hX (Nat.le_of_ble_eq_true rfl) (Nat.le_of_ble_eq_true rfl)) (fun hf => ?_)
  refine s_aload_n C dX3_init_4 rfl ?_
  refine s_bipush C dX3_init_5 (v := (60 : Int32)) (by decide) ?_
  refine s_newarray C (t := 20) (N := 60) rfl (by decide) wac_20 dX3_init_7 (by decide) (by decide) (Nat.le_of_ble_eq_true rfl) hf (cell1 hX (Nat.le_of_ble_eq_true rfl)) (cell2 hX (Nat.le_of_ble_eq_true rfl)) (fun v1 h2 hf => ?_)
  refine s_putFR C fl_X3_9 (by decide +kernel) hnm dX3_init_9 hf (fun h3 hf => ?_)
  refine s_aload_n C dX3_init_12 rfl ?_
  refine s_sipush C dX3_init_13 (v := (150 : Int32)) (by decide) ?_
  refine s_anewarray C (t := 25) (N := 150) rfl (by decide) wcl_X3_15 C.2.2.2.2.2.2.1.2.2.1 dX3_init_16 (by decide) (by decide) (Nat.le_of_ble_eq_true rfl) hf (cell1 hX (Nat.le_of_ble_eq_true rfl)) (cell2 hX (Nat.le_of_ble_eq_true rfl)) (fun v4 h5 hf => ?_)
  refine s_putFR C fl_X3_17 (by decide +kernel) hnm dX3_init_19 hf (fun h6 hf => ?_)
  refine s_aload_n C dX3_init_22 rfl ?_
  refine s_iconst C dX3_init_23 (v := (4 : Int32)) (by decide) ?_
  refine s_newarray C (t := 20) (N := 4) rfl (by decide) wac_20 dX3_init_24 (by decide) (by decide) (Nat.le_of_ble_eq_true rfl) hf (cell1 hX (Nat.le_of_ble_eq_true rfl)) (cell2 hX (Nat.le_of_ble_eq_true rfl)) (fun v7 h8 hf => ?_)
  refine s_putFR C fl_X3_21 (by decide +kernel) hnm dX3_init_26 hf (fun h9 hf => ?_)
  refine s_aload_n C dX3_init_29 rfl ?_
  refine s_sipush C dX3_init_30 (v := (200 : Int32)) (by decide) ?_
  refine s_newarray C (t := 20) (N := 200) rfl (by decide) wac_20 dX3_init_33 (by decide) (by decide) (Nat.le_of_ble_eq_true rfl) hf (cell1 hX (Nat.le_of_ble_eq_true rfl)) (cell2 hX (Nat.le_of_ble_eq_true rfl)) (fun v10 h11 hf => ?_)
  refine s_putFR C fl_X3_24 (by decide +kernel) hnm dX3_init_35 hf (fun h12 hf => ?_)
  refine s_aload_n C dX3_init_38 rfl ?_
  refine s_sipush C dX3_init_39 (v := (200 : Int32)) (by decide) ?_
  refine s_newarray C (t := 20) (N := 200) rfl (by decide) wac_20 dX3_init_42 (by decide) (by decide) (Nat.le_of_ble_eq_true rfl) hf (cell1 hX (Nat.le_of_ble_eq_true rfl)) (cell2 hX (Nat.le_of_ble_eq_true rfl)) (fun v13 h14 hf => ?_)
  refine s_putFR C fl_X3_27 (by decide +kernel) hnm dX3_init_44 hf (fun h15 hf => ?_)
  refine s_aload_n C dX3_init_47 rfl ?_
  refine s_sipush C dX3_init_48 (v := (200 : Int32)) (by decide) ?_
  refine s_newarray C (t := 20) (N := 200) rfl (by decide) wac_20 dX3_init_51 (by decide) (by decide) (Nat.le_of_ble_eq_true rfl) hf (cell1 hX (Nat.le_of_ble_eq_true rfl)) (cell2 hX (Nat.le_of_ble_eq_true rfl)) (fun v16 h17 hf => ?_)
  refine s_putFR C fl_X3_30 (by decide +kernel) hnm dX3_init_53 hf (fun h18 hf => ?_)
  refine s_aload_n C dX3_init_56 rfl ?_
  refine s_getR C fl_X3_9 dX3_init_57 hf (fun v19 hf => ?_)
  refine s_iconst C dX3_init_60 (v := (-1 : Int32)) (by decide) ?_
  refine s_callS (rvf := fun _ => none) (st := []) (fr := 0) (lo := 0) (mc := 0) (ms := 0) C wc_J7_fill_53178 wml_X3_33 wst_J7_fill_53178 dX3_init_61 (As := [.inr (.inr v19), .inl (-1 : Int32)]) rfl hf (fun x h' hF => c_J7_fill_53178 _ _ _ _ _ (x, h') hF) rfl (Nat.le_of_ble_eq_true rfl) (room_ok hX (Nat.le_of_ble_eq_true rfl) (Nat.le_of_ble_eq_true rfl)) (cell_ok hX (Nat.le_of_ble_eq_true rfl) (Nat.le_of_ble_eq_true rfl)) (fun _ h20 hf => ?_)
  exact s_return C E dX3_init_64 hf (Nat.le_of_ble_eq_true rfl) (Nat.le_of_ble_eq_true rfl)
/-- HillBoxes$Logs.<init>(LHillBoxes$Hills;LHillBoxes$Rules;)V -/
noncomputable def f_X4_init (o : Option Nat) (a1 : Option Nat) (a2 : Option Nat) (h : AH) : Option (Unit × AH) :=
  rO h [4] o <|
  nO h 20 300 fun v1 h2 =>
  pR h2 [4] o 0 v1 fun h3 =>
  nO h3 23 300 fun v4 h5 =>
  pR h5 [4] o 1 v4 fun h6 =>
  nO h6 20 150 fun v7 h8 =>
  pR h8 [4] o 3 v7 fun h9 =>
  nO h9 20 300 fun v10 h11 =>
  pR h11 [4] o 4 v10 fun h12 =>
  nO h12 20 300 fun v13 h14 =>
  pR h14 [4] o 5 v13 fun h15 =>
  nO h15 23 300 fun v16 h17 =>
  pR h17 [4] o 6 v16 fun h18 =>
  pR h18 [4] o 7 a1 fun h19 =>
  pR h19 [4] o 8 a2 fun h20 =>
  some ((), h20)
set_option maxRecDepth 100000 in
set_option maxHeartbeats 4000000 in
theorem c_X4_init (l : Launch) (D : DT) (o : Option Nat) (a1 : Option Nat) (a2 : Option Nat) (h : AH) (r : Unit × AH) (hf : f_X4_init o a1 a2 h = some r) : CM l D yX4_init cX4_init 3 none 1 20 6 1650 [.inr (.inr o), .inr (.inr a1), .inr (.inr a2)] h none r.2 := by
  refine CM.of (by decide) (Nat.le_of_ble_eq_true rfl) (fun X hl C hD hX hnm E => ?_)
  subst hl
  subst hD
  have C : CX X RX4 cX4_init 3 := C
  show WW X h 0 0 0 [some (rB (xD X).1 o), some (rB (xD X).1 a1), some (rB (xD X).1 a2)] []
  unfold f_X4_init at hf
  refine s_aload_n C dX4_init_0 rfl ?_
  refine s_objInit C wml_X4_3 wim_obj wcd_obj dX4_init_1 (cs := [4]) hf (Nat.le_of_ble_eq_true rfl) (room_n hX (Nat.le_of_ble_eq_true rfl) (Nat.le_of_ble_eq_true rfl)) (fun hf => ?_)
  refine s_aload_n C dX4_init_4 rfl ?_
  refine s_sipush C dX4_init_5 (v := (300 : Int32)) (by decide) ?_
  refine s_newarray C (t := 20) (N := 300) rfl (by decide) wac_20 dX4_init_8 (by decide) (by decide) (Nat.le_of_ble_eq_true rfl) hf (cell1 hX (Nat.le_of_ble_eq_true rfl)) (cell2 hX (Nat.le_of_ble_eq_true rfl)) (fun v1 h2 hf => ?_)
  refine s_putFR C fl_X4_9 (by decide +kernel) hnm dX4_init_10 hf (fun h3 hf => ?_)
  refine s_aload_n C dX4_init_13 rfl ?_
  refine s_sipush C dX4_init_14 (v := (300 : Int32)) (by decide) ?_
  refine s_newarray C (t := 23) (N := 300) rfl (by decide) wac_23 dX4_init_17 (by decide) (by decide) (Nat.le_of_ble_eq_true rfl) hf (cell1 hX (Nat.le_of_ble_eq_true rfl)) (cell2 hX (Nat.le_of_ble_eq_true rfl)) (fun v4 h5 hf => ?_)
  refine s_putFR C fl_X4_15 (by decide +kernel) hnm dX4_init_19 hf (fun h6 hf => ?_)
  refine s_aload_n C dX4_init_22 rfl ?_
  refine s_sipush C dX4_init_23 (v := (150 : Int32)) (by decide) ?_
  refine s_newarray C (t := 20) (N := 150) rfl (by decide) wac_20 dX4_init_26 (by decide) (by decide) (Nat.le_of_ble_eq_true rfl) hf (cell1 hX (Nat.le_of_ble_eq_true rfl)) (cell2 hX (Nat.le_of_ble_eq_true rfl)) (fun v7 h8 hf => ?_)
  refine s_putFR C fl_X4_19 (by decide +kernel) hnm dX4_init_28 hf (fun h9 hf => ?_)
  refine s_aload_n C dX4_init_31 rfl ?_
  refine s_sipush C dX4_init_32 (v := (300 : Int32)) (by decide) ?_
  refine s_newarray C (t := 20) (N := 300) rfl (by decide) wac_20 dX4_init_35 (by decide) (by decide) (Nat.le_of_ble_eq_true rfl) hf (cell1 hX (Nat.le_of_ble_eq_true rfl)) (cell2 hX (Nat.le_of_ble_eq_true rfl)) (fun v10 h11 hf => ?_)
  refine s_putFR C fl_X4_22 (by decide +kernel) hnm dX4_init_37 hf (fun h12 hf => ?_)
  refine s_aload_n C dX4_init_40 rfl ?_
  refine s_sipush C dX4_init_41 (v := (300 : Int32)) (by decide) ?_
  refine s_newarray C (t := 20) (N := 300) rfl (by decide) wac_20 dX4_init_44 (by decide) (by decide) (Nat.le_of_ble_eq_true rfl) hf (cell1 hX (Nat.le_of_ble_eq_true rfl)) (cell2 hX (Nat.le_of_ble_eq_true rfl)) (fun v13 h14 hf => ?_)
  refine s_putFR C fl_X4_25 (by decide +kernel) hnm dX4_init_46 hf (fun h15 hf => ?_)
  refine s_aload_n C dX4_init_49 rfl ?_
  refine s_sipush C dX4_init_50 (v := (300 : Int32)) (by decide) ?_
  refine s_newarray C (t := 23) (N := 300) rfl (by decide) wac_23 dX4_init_53 (by decide) (by decide) (Nat.le_of_ble_eq_true rfl) hf (cell1 hX (Nat.le_of_ble_eq_true rfl)) (cell2 hX (Nat.le_of_ble_eq_true rfl)) (fun v16 h17 hf => ?_)
  refine s_putFR C fl_X4_28 (by decide +kernel) hnm dX4_init_55 hf (fun h18 hf => ?_)
  refine s_aload_n C dX4_init_58 rfl ?_
  refine s_aload_n C dX4_init_59 rfl ?_
  refine s_putFR C fl_X4_31 (by decide +kernel) hnm dX4_init_60 hf (fun h19 hf => ?_)
  refine s_aload_n C dX4_init_63 rfl ?_
  refine s_aload_n C dX4_init_64 rfl ?_
  refine s_putFR C fl_X4_35 (by decide +kernel) hnm dX4_init_65 hf (fun h20 hf => ?_)
  exact s_return C E dX4_init_68 hf (Nat.le_of_ble_eq_true rfl) (Nat.le_of_ble_eq_true rfl)
/-- HillBoxes$Tape.<init>()V -/
noncomputable def f_X8_init (o : Option Nat) (h : AH) : Option (Unit × AH) :=
  rO h [8] o <|
  nO h 20 160 fun v1 h2 =>
  pR h2 [8] o 1 v1 fun h3 =>
  nO h3 20 161 fun v4 h5 =>
  pR h5 [8] o 2 v4 fun h6 =>
  nO h6 20 161 fun v7 h8 =>
  pR h8 [8] o 3 v7 fun h9 =>
  nO h9 20 161 fun v10 h11 =>
  pR h11 [8] o 4 v10 fun h12 =>
  nO h12 20 161 fun v13 h14 =>
  pR h14 [8] o 9 v13 fun h15 =>
  some ((), h15)
set_option maxRecDepth 100000 in
set_option maxHeartbeats 4000000 in
theorem c_X8_init (l : Launch) (D : DT) (o : Option Nat) (h : AH) (r : Unit × AH) (hf : f_X8_init o h = some r) : CM l D yX8_init cX8_init 1 none 1 20 5 804 [.inr (.inr o)] h none r.2 := by
  refine CM.of (by decide) (Nat.le_of_ble_eq_true rfl) (fun X hl C hD hX hnm E => ?_)
  subst hl
  subst hD
  have C : CX X RX8 cX8_init 1 := C
  show WW X h 0 0 0 [some (rB (xD X).1 o)] []
  unfold f_X8_init at hf
  refine s_aload_n C dX8_init_0 rfl ?_
  refine s_objInit C wml_X8_3 wim_obj wcd_obj dX8_init_1 (cs := [8]) hf (Nat.le_of_ble_eq_true rfl) (room_n hX (Nat.le_of_ble_eq_true rfl) (Nat.le_of_ble_eq_true rfl)) (fun hf => ?_)
  refine s_aload_n C dX8_init_4 rfl ?_
  refine s_sipush C dX8_init_5 (v := (160 : Int32)) (by decide) ?_
  refine s_newarray C (t := 20) (N := 160) rfl (by decide) wac_20 dX8_init_8 (by decide) (by decide) (Nat.le_of_ble_eq_true rfl) hf (cell1 hX (Nat.le_of_ble_eq_true rfl)) (cell2 hX (Nat.le_of_ble_eq_true rfl)) (fun v1 h2 hf => ?_)
  refine s_putFR C fl_X8_9 (by decide +kernel) hnm dX8_init_10 hf (fun h3 hf => ?_)
  refine s_aload_n C dX8_init_13 rfl ?_
  refine s_sipush C dX8_init_14 (v := (161 : Int32)) (by decide) ?_
  refine s_newarray C (t := 20) (N := 161) rfl (by decide) wac_20 dX8_init_17 (by decide) (by decide) (Nat.le_of_ble_eq_true rfl) hf (cell1 hX (Nat.le_of_ble_eq_true rfl)) (cell2 hX (Nat.le_of_ble_eq_true rfl)) (fun v4 h5 hf => ?_)
  refine s_putFR C fl_X8_13 (by decide +kernel) hnm dX8_init_19 hf (fun h6 hf => ?_)
  refine s_aload_n C dX8_init_22 rfl ?_
  refine s_sipush C dX8_init_23 (v := (161 : Int32)) (by decide) ?_
  refine s_newarray C (t := 20) (N := 161) rfl (by decide) wac_20 dX8_init_26 (by decide) (by decide) (Nat.le_of_ble_eq_true rfl) hf (cell1 hX (Nat.le_of_ble_eq_true rfl)) (cell2 hX (Nat.le_of_ble_eq_true rfl)) (fun v7 h8 hf => ?_)
  refine s_putFR C fl_X8_16 (by decide +kernel) hnm dX8_init_28 hf (fun h9 hf => ?_)
  refine s_aload_n C dX8_init_31 rfl ?_
  refine s_sipush C dX8_init_32 (v := (161 : Int32)) (by decide) ?_
  refine s_newarray C (t := 20) (N := 161) rfl (by decide) wac_20 dX8_init_35 (by decide) (by decide) (Nat.le_of_ble_eq_true rfl) hf (cell1 hX (Nat.le_of_ble_eq_true rfl)) (cell2 hX (Nat.le_of_ble_eq_true rfl)) (fun v10 h11 hf => ?_)
  refine s_putFR C fl_X8_19 (by decide +kernel) hnm dX8_init_37 hf (fun h12 hf => ?_)
  refine s_aload_n C dX8_init_40 rfl ?_
  refine s_sipush C dX8_init_41 (v := (161 : Int32)) (by decide) ?_
  refine s_newarray C (t := 20) (N := 161) rfl (by decide) wac_20 dX8_init_44 (by decide) (by decide) (Nat.le_of_ble_eq_true rfl) hf (cell1 hX (Nat.le_of_ble_eq_true rfl)) (cell2 hX (Nat.le_of_ble_eq_true rfl)) (fun v13 h14 hf => ?_)
  refine s_putFR C fl_X8_22 (by decide +kernel) hnm dX8_init_46 hf (fun h15 hf => ?_)
  exact s_return C E dX8_init_49 hf (Nat.le_of_ble_eq_true rfl) (Nat.le_of_ble_eq_true rfl)
/-- HillBoxes$Rules.<init>(LHillBoxes$Hills;)V -/
noncomputable def f_X6_init (o : Option Nat) (a1 : Option Nat) (h : AH) : Option (Unit × AH) :=
  rO h [6] o <|
  nO h 8 11 fun v1 h2 =>
  rO h2 [8] v1 <| cl (f_X8_init v1 h2) fun _ h3 =>
  pR h3 [6] o 0 v1 fun h4 =>
  pI h4 [6] o 2 (-1 : Int32) fun h5 =>
  nO h5 20 20 fun v6 h7 =>
  pR h7 [6] o 4 v6 fun h8 =>
  nO h8 20 20 fun v9 h10 =>
  pR h10 [6] o 5 v9 fun h11 =>
  nO h11 20 20 fun v12 h13 =>
  pR h13 [6] o 6 v12 fun h14 =>
  nO h14 20 3220 fun v15 h16 =>
  pR h16 [6] o 7 v15 fun h17 =>
  nO h17 20 20 fun v18 h19 =>
  pR h19 [6] o 8 v18 fun h20 =>
  nO h20 20 64 fun v21 h22 =>
  pR h22 [6] o 9 v21 fun h23 =>
  pR h23 [6] o 3 a1 fun h24 =>
  some ((), h24)
set_option maxRecDepth 100000 in
set_option maxHeartbeats 4000000 in
theorem c_X6_init (l : Launch) (D : DT) (o : Option Nat) (a1 : Option Nat) (h : AH) (r : Unit × AH) (hf : f_X6_init o a1 h = some r) : CM l D yX6_init cX6_init 2 none 2 40 12 4179 [.inr (.inr o), .inr (.inr a1)] h none r.2 := by
  refine CM.of (by decide) (Nat.le_of_ble_eq_true rfl) (fun X hl C hD hX hnm E => ?_)
  subst hl
  subst hD
  have C : CX X RX6 cX6_init 2 := C
  show WW X h 0 0 0 [some (rB (xD X).1 o), some (rB (xD X).1 a1)] []
  unfold f_X6_init at hf
  refine s_aload_n C dX6_init_0 rfl ?_
  refine s_objInit C wml_X6_3 wim_obj wcd_obj dX6_init_1 (cs := [6]) hf (Nat.le_of_ble_eq_true rfl) (room_n hX (Nat.le_of_ble_eq_true rfl) (Nat.le_of_ble_eq_true rfl)) (fun hf => ?_)
  refine s_aload_n C dX6_init_4 rfl ?_
  refine s_new C (t := 8) (n := 11) (by decide) (by decide) rfl wcl_X6_9 wins_X8 wini_X8 dX6_init_5 hf (cell1 hX (Nat.le_of_ble_eq_true rfl)) (cell2 hX (Nat.le_of_ble_eq_true rfl)) (fun v1 h2 hf => ?_)
  refine s_dup C dX6_init_8 c1_r ?_
  refine s_callIN (st := [rB (xD X).1 v1, rB (xD X).1 o]) (fr := 1) (lo := 20) (mc := 5) (ms := 804) C wc_X8_init wmn_X6_11 wim_X8_init rfl dX6_init_9 (As := []) rfl (a0 := 8) hf (fun h' hF => c_X8_init _ _ _ _ ((), h') hF) rfl (Nat.le_of_ble_eq_true rfl) (room_ok hX (Nat.le_of_ble_eq_true rfl) (Nat.le_of_ble_eq_true rfl)) (cell_ok hX (Nat.le_of_ble_eq_true rfl) (Nat.le_of_ble_eq_true rfl)) (fun h3 hf => ?_)
  refine s_putFR C fl_X6_12 (by decide +kernel) hnm dX6_init_12 hf (fun h4 hf => ?_)
  refine s_aload_n C dX6_init_15 rfl ?_
  refine s_iconst C dX6_init_16 (v := (-1 : Int32)) (by decide) ?_
  refine s_putI C fl_X6_18 (by decide) dX6_init_17 hf (fun h5 hf => ?_)
  refine s_aload_n C dX6_init_20 rfl ?_
  refine s_bipush C dX6_init_21 (v := (20 : Int32)) (by decide) ?_
  refine s_newarray C (t := 20) (N := 20) rfl (by decide) wac_20 dX6_init_23 (by decide) (by decide) (Nat.le_of_ble_eq_true rfl) hf (cell1 hX (Nat.le_of_ble_eq_true rfl)) (cell2 hX (Nat.le_of_ble_eq_true rfl)) (fun v6 h7 hf => ?_)
  refine s_putFR C fl_X6_22 (by decide +kernel) hnm dX6_init_25 hf (fun h8 hf => ?_)
  refine s_aload_n C dX6_init_28 rfl ?_
  refine s_bipush C dX6_init_29 (v := (20 : Int32)) (by decide) ?_
  refine s_newarray C (t := 20) (N := 20) rfl (by decide) wac_20 dX6_init_31 (by decide) (by decide) (Nat.le_of_ble_eq_true rfl) hf (cell1 hX (Nat.le_of_ble_eq_true rfl)) (cell2 hX (Nat.le_of_ble_eq_true rfl)) (fun v9 h10 hf => ?_)
  refine s_putFR C fl_X6_26 (by decide +kernel) hnm dX6_init_33 hf (fun h11 hf => ?_)
  refine s_aload_n C dX6_init_36 rfl ?_
  refine s_bipush C dX6_init_37 (v := (20 : Int32)) (by decide) ?_
  refine s_newarray C (t := 20) (N := 20) rfl (by decide) wac_20 dX6_init_39 (by decide) (by decide) (Nat.le_of_ble_eq_true rfl) hf (cell1 hX (Nat.le_of_ble_eq_true rfl)) (cell2 hX (Nat.le_of_ble_eq_true rfl)) (fun v12 h13 hf => ?_)
  refine s_putFR C fl_X6_29 (by decide +kernel) hnm dX6_init_41 hf (fun h14 hf => ?_)
  refine s_aload_n C dX6_init_44 rfl ?_
  refine s_sipush C dX6_init_45 (v := (3220 : Int32)) (by decide) ?_
  refine s_newarray C (t := 20) (N := 3220) rfl (by decide) wac_20 dX6_init_48 (by decide) (by decide) (Nat.le_of_ble_eq_true rfl) hf (cell1 hX (Nat.le_of_ble_eq_true rfl)) (cell2 hX (Nat.le_of_ble_eq_true rfl)) (fun v15 h16 hf => ?_)
  refine s_putFR C fl_X6_32 (by decide +kernel) hnm dX6_init_50 hf (fun h17 hf => ?_)
  refine s_aload_n C dX6_init_53 rfl ?_
  refine s_bipush C dX6_init_54 (v := (20 : Int32)) (by decide) ?_
  refine s_newarray C (t := 20) (N := 20) rfl (by decide) wac_20 dX6_init_56 (by decide) (by decide) (Nat.le_of_ble_eq_true rfl) hf (cell1 hX (Nat.le_of_ble_eq_true rfl)) (cell2 hX (Nat.le_of_ble_eq_true rfl)) (fun v18 h19 hf => ?_)
  refine s_putFR C fl_X6_35 (by decide +kernel) hnm dX6_init_58 hf (fun h20 hf => ?_)
  refine s_aload_n C dX6_init_61 rfl ?_
  refine s_bipush C dX6_init_62 (v := (64 : Int32)) (by decide) ?_
  refine s_newarray C (t := 20) (N := 64) rfl (by decide) wac_20 dX6_init_64 (by decide) (by decide) (Nat.le_of_ble_eq_true rfl) hf (cell1 hX (Nat.le_of_ble_eq_true rfl)) (cell2 hX (Nat.le_of_ble_eq_true rfl)) (fun v21 h22 hf => ?_)
  refine s_putFR C fl_X6_38 (by decide +kernel) hnm dX6_init_66 hf (fun h23 hf => ?_)
  refine s_aload_n C dX6_init_69 rfl ?_
  refine s_aload_n C dX6_init_70 rfl ?_
  refine s_putFR C fl_X6_41 (by decide +kernel) hnm dX6_init_71 hf (fun h24 hf => ?_)
  exact s_return C E dX6_init_74 hf (Nat.le_of_ble_eq_true rfl) (Nat.le_of_ble_eq_true rfl)
/-- HillBoxes$Shelf.<init>()V -/
noncomputable def f_X7_init (o : Option Nat) (h : AH) : Option (Unit × AH) :=
  rO h [7] o <|
  nO h 24 60 fun v1 h2 =>
  pR h2 [7] o 4 v1 fun h3 =>
  some ((), h3)
set_option maxRecDepth 100000 in
set_option maxHeartbeats 4000000 in
theorem c_X7_init (l : Launch) (D : DT) (o : Option Nat) (h : AH) (r : Unit × AH) (hf : f_X7_init o h = some r) : CM l D yX7_init cX7_init 1 none 1 20 1 60 [.inr (.inr o)] h none r.2 := by
  refine CM.of (by decide) (Nat.le_of_ble_eq_true rfl) (fun X hl C hD hX hnm E => ?_)
  subst hl
  subst hD
  have C : CX X RX7 cX7_init 1 := C
  show WW X h 0 0 0 [some (rB (xD X).1 o)] []
  unfold f_X7_init at hf
  refine s_aload_n C dX7_init_0 rfl ?_
  refine s_objInit C wml_X7_3 wim_obj wcd_obj dX7_init_1 (cs := [7]) hf (Nat.le_of_ble_eq_true rfl) (room_n hX (Nat.le_of_ble_eq_true rfl) (Nat.le_of_ble_eq_true rfl)) (fun hf => ?_)
  refine s_aload_n C dX7_init_4 rfl ?_
  refine s_bipush C dX7_init_5 (v := (60 : Int32)) (by decide) ?_
  refine s_newarray C (t := 24) (N := 60) rfl (by decide) wac_24 dX7_init_7 (by decide) (by decide) (Nat.le_of_ble_eq_true rfl) hf (cell1 hX (Nat.le_of_ble_eq_true rfl)) (cell2 hX (Nat.le_of_ble_eq_true rfl)) (fun v1 h2 hf => ?_)
  refine s_putFR C fl_X7_9 (by decide +kernel) hnm dX7_init_9 hf (fun h3 hf => ?_)
  exact s_return C E dX7_init_12 hf (Nat.le_of_ble_eq_true rfl) (Nat.le_of_ble_eq_true rfl)
/-- HillBoxes$Walks.<init>()V -/
noncomputable def f_X10_init (o : Option Nat) (h : AH) : Option (Unit × AH) :=
  rO h [10] o <|
  pI h [10] o 1 (-1 : Int32) fun h1 =>
  nO h1 20 7 fun v2 h3 =>
  pR h3 [10] o 3 v2 fun h4 =>
  nO h4 26 7 fun v5 h6 =>
  pR h6 [10] o 4 v5 fun h7 =>
  nO h7 20 7 fun v8 h9 =>
  pR h9 [10] o 5 v8 fun h10 =>
  nO h10 20 7 fun v11 h12 =>
  pR h12 [10] o 6 v11 fun h13 =>
  nO h13 20 7 fun v14 h15 =>
  pR h15 [10] o 7 v14 fun h16 =>
  nO h16 20 7 fun v17 h18 =>
  pR h18 [10] o 9 v17 fun h19 =>
  some ((), h19)
set_option maxRecDepth 100000 in
set_option maxHeartbeats 4000000 in
theorem c_X10_init (l : Launch) (D : DT) (o : Option Nat) (h : AH) (r : Unit × AH) (hf : f_X10_init o h = some r) : CM l D yX10_init cX10_init 1 none 1 20 6 42 [.inr (.inr o)] h none r.2 := by
  refine CM.of (by decide) (Nat.le_of_ble_eq_true rfl) (fun X hl C hD hX hnm E => ?_)
  subst hl
  subst hD
  have C : CX X RX10 cX10_init 1 := C
  show WW X h 0 0 0 [some (rB (xD X).1 o)] []
  unfold f_X10_init at hf
  refine s_aload_n C dX10_init_0 rfl ?_
  refine s_objInit C wml_X10_3 wim_obj wcd_obj dX10_init_1 (cs := [10]) hf (Nat.le_of_ble_eq_true rfl) (room_n hX (Nat.le_of_ble_eq_true rfl) (Nat.le_of_ble_eq_true rfl)) (fun hf => ?_)
  refine s_aload_n C dX10_init_4 rfl ?_
  refine s_iconst C dX10_init_5 (v := (-1 : Int32)) (by decide) ?_
  refine s_putI C fl_X10_9 (by decide) dX10_init_6 hf (fun h1 hf => ?_)
  refine s_aload_n C dX10_init_9 rfl ?_
  refine s_bipush C dX10_init_10 (v := (7 : Int32)) (by decide) ?_
  refine s_newarray C (t := 20) (N := 7) rfl (by decide) wac_20 dX10_init_12 (by decide) (by decide) (Nat.le_of_ble_eq_true rfl) hf (cell1 hX (Nat.le_of_ble_eq_true rfl)) (cell2 hX (Nat.le_of_ble_eq_true rfl)) (fun v2 h3 hf => ?_)
  refine s_putFR C fl_X10_15 (by decide +kernel) hnm dX10_init_14 hf (fun h4 hf => ?_)
  refine s_aload_n C dX10_init_17 rfl ?_
  refine s_bipush C dX10_init_18 (v := (7 : Int32)) (by decide) ?_
  refine s_anewarray C (t := 26) (N := 7) rfl (by decide) wcl_X10_19 C.2.2.2.2.2.2.1.2.2.2.1 dX10_init_20 (by decide) (by decide) (Nat.le_of_ble_eq_true rfl) hf (cell1 hX (Nat.le_of_ble_eq_true rfl)) (cell2 hX (Nat.le_of_ble_eq_true rfl)) (fun v5 h6 hf => ?_)
  refine s_putFR C fl_X10_21 (by decide +kernel) hnm dX10_init_23 hf (fun h7 hf => ?_)
  refine s_aload_n C dX10_init_26 rfl ?_
  refine s_bipush C dX10_init_27 (v := (7 : Int32)) (by decide) ?_
  refine s_newarray C (t := 20) (N := 7) rfl (by decide) wac_20 dX10_init_29 (by decide) (by decide) (Nat.le_of_ble_eq_true rfl) hf (cell1 hX (Nat.le_of_ble_eq_true rfl)) (cell2 hX (Nat.le_of_ble_eq_true rfl)) (fun v8 h9 hf => ?_)
  refine s_putFR C fl_X10_25 (by decide +kernel) hnm dX10_init_31 hf (fun h10 hf => ?_)
  refine s_aload_n C dX10_init_34 rfl ?_
  refine s_bipush C dX10_init_35 (v := (7 : Int32)) (by decide) ?_
  refine s_newarray C (t := 20) (N := 7) rfl (by decide) wac_20 dX10_init_37 (by decide) (by decide) (Nat.le_of_ble_eq_true rfl) hf (cell1 hX (Nat.le_of_ble_eq_true rfl)) (cell2 hX (Nat.le_of_ble_eq_true rfl)) (fun v11 h12 hf => ?_)
  refine s_putFR C fl_X10_28 (by decide +kernel) hnm dX10_init_39 hf (fun h13 hf => ?_)
  refine s_aload_n C dX10_init_42 rfl ?_
  refine s_bipush C dX10_init_43 (v := (7 : Int32)) (by decide) ?_
  refine s_newarray C (t := 20) (N := 7) rfl (by decide) wac_20 dX10_init_45 (by decide) (by decide) (Nat.le_of_ble_eq_true rfl) hf (cell1 hX (Nat.le_of_ble_eq_true rfl)) (cell2 hX (Nat.le_of_ble_eq_true rfl)) (fun v14 h15 hf => ?_)
  refine s_putFR C fl_X10_31 (by decide +kernel) hnm dX10_init_47 hf (fun h16 hf => ?_)
  refine s_aload_n C dX10_init_50 rfl ?_
  refine s_bipush C dX10_init_51 (v := (7 : Int32)) (by decide) ?_
  refine s_newarray C (t := 20) (N := 7) rfl (by decide) wac_20 dX10_init_53 (by decide) (by decide) (Nat.le_of_ble_eq_true rfl) hf (cell1 hX (Nat.le_of_ble_eq_true rfl)) (cell2 hX (Nat.le_of_ble_eq_true rfl)) (fun v17 h18 hf => ?_)
  refine s_putFR C fl_X10_34 (by decide +kernel) hnm dX10_init_55 hf (fun h19 hf => ?_)
  exact s_return C E dX10_init_58 hf (Nat.le_of_ble_eq_true rfl) (Nat.le_of_ble_eq_true rfl)
/-- HillBoxes.<init>()V -/
noncomputable def f_X11_init (o : Option Nat) (h : AH) : Option (Unit × AH) :=
  rO h [11] o <|
  nO h 3 10 fun v1 h2 =>
  rO h2 [3] v1 <| cl (f_X3_init v1 h2) fun _ h3 =>
  pR h3 [11] o 0 v1 fun h4 =>
  nO h4 6 16 fun v5 h6 =>
  fR h6 [11] o 0 fun v7 =>
  rO h6 [6] v5 <| cl (f_X6_init v5 v7 h6) fun _ h8 =>
  pR h8 [11] o 1 v5 fun h9 =>
  nO h9 4 9 fun v10 h11 =>
  fR h11 [11] o 0 fun v12 =>
  fR h11 [11] o 1 fun v13 =>
  rO h11 [4] v10 <| cl (f_X4_init v10 v12 v13 h11) fun _ h14 =>
  pR h14 [11] o 2 v10 fun h15 =>
  nO h15 10 16 fun v16 h17 =>
  rO h17 [10] v16 <| cl (f_X10_init v16 h17) fun _ h18 =>
  pR h18 [11] o 3 v16 fun h19 =>
  nO h19 27 6 fun v20 h21 =>
  pR h21 [11] o 4 v20 fun h22 =>
  lp (fun _ _ => none) (fun (L71 : Int32 → AH → Option (Unit × AH)) (x23 : Int32) (h24 : AH) =>
    if (6 : Int32) ≤ x23 then
      nO h24 20 25 fun v25 h26 =>
      pR h26 [11] o 5 v25 fun h27 =>
      some ((), h27)
    else
      fR h24 [11] o 4 fun v28 =>
      nO h24 7 5 fun v29 h30 =>
      rO h30 [7] v29 <| cl (f_X7_init v29 h30) fun _ h31 =>
      bR h31 27 (elX 27) v28 x23 v29 fun h32 =>
      L71 (x23 + 1) h32) lpN (0 : Int32) h22
set_option maxRecDepth 100000 in
set_option maxHeartbeats 4000000 in
theorem c_X11_init (l : Launch) (D : DT) (o : Option Nat) (h : AH) (r : Unit × AH) (hf : f_X11_init o h = some r) : CM l D yX11_init cX11_init 2 none 3 61 48 7157 [.inr (.inr o)] h none r.2 := by
  refine CM.of (by decide) (Nat.le_of_ble_eq_true rfl) (fun X hl C hD hX hnm E => ?_)
  subst hl
  subst hD
  have C : CX X RX11 cX11_init 2 := C
  show WW X h 0 0 0 [some (rB (xD X).1 o), none] []
  unfold f_X11_init at hf
  refine s_aload_n C dX11_init_0 rfl ?_
  refine s_objInit C wml_X11_1 wim_obj wcd_obj dX11_init_1 (cs := [11]) hf (Nat.le_of_ble_eq_true rfl) (room_n hX (Nat.le_of_ble_eq_true rfl) (Nat.le_of_ble_eq_true rfl)) (fun hf => ?_)
  refine s_aload_n C dX11_init_4 rfl ?_
  refine s_new C (t := 3) (n := 10) (by decide) (by decide) rfl wcl_X11_7 wins_X3 wini_X3 dX11_init_5 hf (cell1 hX (Nat.le_of_ble_eq_true rfl)) (cell2 hX (Nat.le_of_ble_eq_true rfl)) (fun v1 h2 hf => ?_)
  refine s_dup C dX11_init_8 c1_r ?_
  refine s_callI (st := [rB (xD X).1 v1, rB (xD X).1 o]) (fr := 1) (lo := 23) (mc := 6) (ms := 814) C wc_X3_init wml_X11_9 wim_X3_init rfl dX11_init_9 (As := []) rfl (a0 := 3) hf (fun h' hF => c_X3_init _ _ _ _ ((), h') hF) rfl (Nat.le_of_ble_eq_true rfl) (room_ok hX (Nat.le_of_ble_eq_true rfl) (Nat.le_of_ble_eq_true rfl)) (cell_ok hX (Nat.le_of_ble_eq_true rfl) (Nat.le_of_ble_eq_true rfl)) (fun h3 hf => ?_)
  refine s_putFR C fl_X11_10 (by decide +kernel) hnm dX11_init_12 hf (fun h4 hf => ?_)
  refine s_aload_n C dX11_init_15 rfl ?_
  refine s_new C (t := 6) (n := 16) (by decide) (by decide) rfl wcl_X11_16 wins_X6 wini_X6 dX11_init_16 hf (cell1 hX (Nat.le_of_ble_eq_true rfl)) (cell2 hX (Nat.le_of_ble_eq_true rfl)) (fun v5 h6 hf => ?_)
  refine s_dup C dX11_init_19 c1_r ?_
  refine s_aload_n C dX11_init_20 rfl ?_
  refine s_getR C fl_X11_10 dX11_init_21 hf (fun v7 hf => ?_)
  refine s_callI (st := [rB (xD X).1 v5, rB (xD X).1 o]) (fr := 2) (lo := 40) (mc := 12) (ms := 4179) C wc_X6_init wml_X11_18 wim_X6_init rfl dX11_init_24 (As := [.inr (.inr v7)]) rfl (a0 := 6) hf (fun h' hF => c_X6_init _ _ _ _ _ ((), h') hF) rfl (Nat.le_of_ble_eq_true rfl) (room_ok hX (Nat.le_of_ble_eq_true rfl) (Nat.le_of_ble_eq_true rfl)) (cell_ok hX (Nat.le_of_ble_eq_true rfl) (Nat.le_of_ble_eq_true rfl)) (fun h8 hf => ?_)
  refine s_putFR C fl_X11_21 (by decide +kernel) hnm dX11_init_27 hf (fun h9 hf => ?_)
  refine s_aload_n C dX11_init_30 rfl ?_
  refine s_new C (t := 4) (n := 9) (by decide) (by decide) rfl wcl_X11_25 wins_X4 wini_X4 dX11_init_31 hf (cell1 hX (Nat.le_of_ble_eq_true rfl)) (cell2 hX (Nat.le_of_ble_eq_true rfl)) (fun v10 h11 hf => ?_)
  refine s_dup C dX11_init_34 c1_r ?_
  refine s_aload_n C dX11_init_35 rfl ?_
  refine s_getR C fl_X11_10 dX11_init_36 hf (fun v12 hf => ?_)
  refine s_aload_n C dX11_init_39 rfl ?_
  refine s_getR C fl_X11_21 dX11_init_40 hf (fun v13 hf => ?_)
  refine s_callI (st := [rB (xD X).1 v10, rB (xD X).1 o]) (fr := 1) (lo := 20) (mc := 6) (ms := 1650) C wc_X4_init wml_X11_27 wim_X4_init rfl dX11_init_43 (As := [.inr (.inr v12), .inr (.inr v13)]) rfl (a0 := 4) hf (fun h' hF => c_X4_init _ _ _ _ _ _ ((), h') hF) rfl (Nat.le_of_ble_eq_true rfl) (room_ok hX (Nat.le_of_ble_eq_true rfl) (Nat.le_of_ble_eq_true rfl)) (cell_ok hX (Nat.le_of_ble_eq_true rfl) (Nat.le_of_ble_eq_true rfl)) (fun h14 hf => ?_)
  refine s_putFR C fl_X11_30 (by decide +kernel) hnm dX11_init_46 hf (fun h15 hf => ?_)
  refine s_aload_n C dX11_init_49 rfl ?_
  refine s_new C (t := 10) (n := 16) (by decide) (by decide) rfl wcl_X11_34 wins_X10 wini_X10 dX11_init_50 hf (cell1 hX (Nat.le_of_ble_eq_true rfl)) (cell2 hX (Nat.le_of_ble_eq_true rfl)) (fun v16 h17 hf => ?_)
  refine s_dup C dX11_init_53 c1_r ?_
  refine s_callIN (st := [rB (xD X).1 v16, rB (xD X).1 o]) (fr := 1) (lo := 20) (mc := 6) (ms := 42) C wc_X10_init wmn_X11_36 wim_X10_init rfl dX11_init_54 (As := []) rfl (a0 := 10) hf (fun h' hF => c_X10_init _ _ _ _ ((), h') hF) rfl (Nat.le_of_ble_eq_true rfl) (room_ok hX (Nat.le_of_ble_eq_true rfl) (Nat.le_of_ble_eq_true rfl)) (cell_ok hX (Nat.le_of_ble_eq_true rfl) (Nat.le_of_ble_eq_true rfl)) (fun h18 hf => ?_)
  refine s_putFR C fl_X11_37 (by decide +kernel) hnm dX11_init_57 hf (fun h19 hf => ?_)
  refine s_aload_n C dX11_init_60 rfl ?_
  refine s_bipush C dX11_init_61 (v := (6 : Int32)) (by decide) ?_
  refine s_anewarray C (t := 27) (N := 6) rfl (by decide) wcl_X11_41 C.2.2.2.2.2.2.1.2.2.2.2 dX11_init_63 (by decide) (by decide) (Nat.le_of_ble_eq_true rfl) hf (cell1 hX (Nat.le_of_ble_eq_true rfl)) (cell2 hX (Nat.le_of_ble_eq_true rfl)) (fun v20 h21 hf => ?_)
  refine s_putFR C fl_X11_43 (by decide +kernel) hnm dX11_init_66 hf (fun h22 hf => ?_)
  refine s_iconst C dX11_init_69 (v := (0 : Int32)) (by decide) ?_
  refine s_istore_n C dX11_init_70 (by decide) (nc_r rfl) (lv' := [some (rB (xD X).1 o), some (.int (0 : Int32))]) rfl ?_
  refine s_lp2 hf (fun G71 z71 q71 hf => ?_)
  have k71 : ∀ (n k : Nat) (x23 : Int32) (h24 : AH), k ≤ 6 → x23 = nI k → G71 n x23 h24 = some r → WW X h24 (35 + 2 * k) (6742 + 65 * k) 71 [some (rB (xD X).1 o), some (.int x23)] [] := by
    intro n
    induction n with
    | zero =>
      intro k x23 h24 _ _ hf
      rw [z71] at hf
      cases hf
    | succ n ih71 =>
      intro k x23 h24 hk ex hf
      have hf := (q71 n x23 h24).symm.trans hf
      refine s_iload_n C dX11_init_71 rfl ?_
      refine s_bipush C dX11_init_72 (v := (6 : Int32)) (by decide) ?_
      refine s_icmp_geC (tgt := 96) C dX11_init_74 (by decide) hf (fun hc hf => ?_) (fun hc hf => ?_)
      · refine s_aload_n C dX11_init_96 rfl ?_
        refine s_bipush C dX11_init_97 (v := (25 : Int32)) (by decide) ?_
        refine s_newarray C (t := 20) (N := 25) rfl (by decide) wac_20 dX11_init_99 (by decide) (by decide) (Nat.le_of_ble_eq_true rfl) hf (cell1 hX (by omega)) (cell2 hX (by omega)) (fun v25 h26 hf => ?_)
        refine s_putFR C fl_X11_48 (by decide +kernel) hnm dX11_init_101 hf (fun h27 hf => ?_)
        exact s_return C E dX11_init_104 hf (by omega) (by omega)
      · have hk6 : k < 6 := Nat.not_le.mp (fun q => hc (by rw [ex]; exact nI_le (a := 6) q (by omega)))
        refine s_aload_n C dX11_init_77 rfl ?_
        refine s_getR C fl_X11_43 dX11_init_78 hf (fun v28 hf => ?_)
        refine s_iload_n C dX11_init_81 rfl ?_
        refine s_new C (t := 7) (n := 5) (by decide) (by decide) rfl wcl_X11_41 wins_X7 wini_X7 dX11_init_82 hf (cell1 hX (by omega)) (cell2 hX (by omega)) (fun v29 h30 hf => ?_)
        refine s_dup C dX11_init_85 c1_r ?_
        refine s_callIN (st := [rB (xD X).1 v29, .int x23, rB (xD X).1 v28]) (fr := 1) (lo := 20) (mc := 1) (ms := 60) C wc_X7_init wmn_X11_47 wim_X7_init rfl dX11_init_86 (As := []) rfl (a0 := 7) hf (fun h' hF => c_X7_init _ _ _ _ ((), h') hF) rfl (Nat.le_of_ble_eq_true rfl) (room_ok hX (Nat.le_of_ble_eq_true rfl) (Nat.le_of_ble_eq_true rfl)) (cell_ok hX (by omega) (by omega)) (fun h31 hf => ?_)
        refine s_aastore C (by decide) (hcast C) dX11_init_89 hf (fun h32 hf => ?_)
        refine s_iinc C dX11_init_90 (v := (x23 + 1)) rfl rfl (by decide) (nc_r rfl) (lv' := [some (rB (xD X).1 o), some (.int (x23 + 1))]) rfl ?_
        refine s_goto (tgt := 71) C dX11_init_93 (by decide) ?_
        refine s_widen (c := 35 + 2 * (k + 1)) (s := 6742 + 65 * (k + 1)) (by omega) (by omega) ?_
        exact ih71 (k + 1) _ _ (by omega) (by rw [ex]; exact nI_1 k) hf
  exact k71 lpN 0 _ _ (by omega) rfl hf
/-- HillBoxes$Box.isDown()Z -/
noncomputable def f_X1_isDown (o : Option Nat) (h : AH) : Option (Int32 × AH) :=
  fI h [1] o 11 fun v1 =>
  jn (fun (x2 : Int32) =>
    rz x2 h) fun j12 =>
  if v1 < 0 then
    j12 (0 : Int32)
  else
    j12 (1 : Int32)
set_option maxRecDepth 100000 in
set_option maxHeartbeats 4000000 in
theorem c_X1_isDown (l : Launch) (D : DT) (o : Option Nat) (h : AH) (r : Int32 × AH) (hf : f_X1_isDown o h = some r) : CM l D yX1_isDown cX1_isDown 1 (some .boolean) 0 0 0 0 [.inr (.inr o)] h (some (.int r.1)) r.2 := by
  refine CM.of (by decide) (Nat.le_of_ble_eq_true rfl) (fun X hl C hD hX hnm E => ?_)
  subst hl
  subst hD
  have C : CX X RX1 cX1_isDown 1 := C
  show WW X h 0 0 0 [some (rB (xD X).1 o)] []
  unfold f_X1_isDown at hf
  refine s_aload_n C dX1_isDown_0 rfl ?_
  refine s_getI C fl_X1_21 dX1_isDown_1 hf (fun v1 hf => ?_)
  refine s_jn hf (fun j12 e12 hf => ?_)
  have k12 : ∀ (x2 : Int32), j12 x2 = some r → WW X h 0 0 12 [none] [.int x2] := by
    intro x2 hf
    rw [e12] at hf
    exact s_zreturn C E dX1_isDown_12 hf (Nat.le_of_ble_eq_true rfl) (Nat.le_of_ble_eq_true rfl)
  refine s_if_lt (tgt := 11) C dX1_isDown_4 (by decide) hf (fun hf => ?_) (fun hf => ?_)
  · refine s_iconst C dX1_isDown_11 (v := (0 : Int32)) (by decide) ?_
    refine s_weak (lv' := [none]) trivial ?_
    exact k12 _ hf
  · refine s_iconst C dX1_isDown_7 (v := (1 : Int32)) (by decide) ?_
    refine s_goto (tgt := 12) C dX1_isDown_8 (by decide) ?_
    refine s_weak (lv' := [none]) trivial ?_
    exact k12 _ hf
/-- HillBoxes$Hills.boxAt(I)LHillBoxes$Box; -/
noncomputable def f_X3_boxAt (o : Option Nat) (a1 : Int32) (h : AH) : Option (Option Nat × AH) :=
  jn (fun (x1 : Option Nat) =>
    iO h [1] x1 fun v2 =>
    jn (fun (x3 : Option Nat) =>
      some (x3, h)) fun j38 =>
    if v2 = 0 then
      j38 none
    else
      cO h [1] x1 <|
      j38 x1) fun j22 =>
  jn (
    j22 none) fun j12 =>
  if a1 < 0 then
    j12
  else
    fI h [3] o 3 fun v4 =>
    if a1 < v4 then
      fR h [3] o 2 fun v5 =>
      aR h 25 v5 a1 fun v6 =>
      j22 v6
    else
      j12
set_option maxRecDepth 100000 in
set_option maxHeartbeats 4000000 in
theorem c_X3_boxAt (l : Launch) (D : DT) (o : Option Nat) (a1 : Int32) (h : AH) (r : Option Nat × AH) (hf : f_X3_boxAt o a1 h = some r) : CM l D yX3_boxAt cX3_boxAt 3 (some (.object "HillBoxes$Box")) 0 0 0 0 [.inr (.inr o), .inl a1] h (some (rB D.1 r.1)) r.2 := by
  refine CM.of (by decide) (Nat.le_of_ble_eq_true rfl) (fun X hl C hD hX hnm E => ?_)
  subst hl
  subst hD
  have C : CX X RX3 cX3_boxAt 3 := C
  show WW X h 0 0 0 [some (rB (xD X).1 o), some (.int a1), none] []
  unfold f_X3_boxAt at hf
  refine s_iload_n C dX3_boxAt_0 rfl ?_
  refine s_jn hf (fun j22 e22 hf => ?_)
  have k22 : ∀ (x1 : Option Nat), j22 x1 = some r → WW X h 0 0 22 [none, none, none] [rB (xD X).1 x1] := by
    intro x1 hf
    rw [e22] at hf
    refine s_astore_n C dX3_boxAt_22 (by decide) (nc_n rfl) (lv' := [none, none, some (rB (xD X).1 x1)]) rfl ?_
    refine s_aload_n C dX3_boxAt_23 rfl ?_
    refine s_instof C (t := 1) (by decide) wcl_X3_48 dX3_boxAt_24 hf (fun v2 hf => ?_)
    refine s_jn hf (fun j38 e38 hf => ?_)
    have k38 : ∀ (x3 : Option Nat), j38 x3 = some r → WW X h 0 0 38 [none, none, none] [rB (xD X).1 x3] := by
      intro x3 hf
      rw [e38] at hf
      exact s_areturn C E dX3_boxAt_38 hf (Nat.le_of_ble_eq_true rfl) (Nat.le_of_ble_eq_true rfl)
    refine s_if_eq (tgt := 37) C dX3_boxAt_27 (by decide) hf (fun hf => ?_) (fun hf => ?_)
    · refine s_null C dX3_boxAt_37 ?_
      refine s_weak (lv' := [none, none, none]) trivial ?_
      exact k38 _ hf
    · refine s_aload_n C dX3_boxAt_30 rfl ?_
      refine s_cast C (t := 1) (by decide) wcl_X3_48 dX3_boxAt_31 hf (fun hf => ?_)
      refine s_goto (tgt := 38) C dX3_boxAt_34 (by decide) ?_
      refine s_weak (lv' := [none, none, none]) trivial ?_
      exact k38 _ hf
  refine s_jn hf (fun j12 e12 hf => ?_)
  have k12 : j12  = some r → WW X h 0 0 12 [none, none, none] [] := by
    intro  hf
    rw [e12] at hf
    refine s_null C dX3_boxAt_12 ?_
    refine s_goto (tgt := 22) C dX3_boxAt_13 (by decide) ?_
    exact k22 _ hf
  refine s_if_lt (tgt := 12) C dX3_boxAt_1 (by decide) hf (fun hf => ?_) (fun hf => ?_)
  · refine s_weak (lv' := [none, none, none]) trivial ?_
    exact k12 hf
  · refine s_iload_n C dX3_boxAt_4 rfl ?_
    refine s_aload_n C dX3_boxAt_5 rfl ?_
    refine s_getI C fl_X3_39 dX3_boxAt_6 hf (fun v4 hf => ?_)
    refine s_icmp_lt (tgt := 16) C dX3_boxAt_9 (by decide) hf (fun hf => ?_) (fun hf => ?_)
    · refine s_aload_n C dX3_boxAt_16 rfl ?_
      refine s_getR C fl_X3_17 dX3_boxAt_17 hf (fun v5 hf => ?_)
      refine s_iload_n C dX3_boxAt_20 rfl ?_
      refine s_aaload C dX3_boxAt_21 (by decide) hf (fun v6 hf => ?_)
      refine s_weak (lv' := [none, none, none]) trivial ?_
      exact k22 _ hf
    · refine s_weak (lv' := [none, none, none]) trivial ?_
      exact k12 hf
/-- HillBoxes.countBoxes(Z)I -/
noncomputable def f_X11_countBoxes (o : Option Nat) (a1 : Int32) (h : AH) : Option (Int32 × AH) :=
  lp (fun _ _ _ => none) (fun (L4 : Int32 → Int32 → AH → Option (Int32 × AH)) (x1 : Int32) (x2 : Int32) (h3 : AH) =>
    fR h3 [11] o 0 fun v4 =>
    fI h3 [3] v4 3 fun v5 =>
    if v5 ≤ x2 then
      some (x1, h3)
    else
      fR h3 [11] o 0 fun v6 =>
      rO h3 [3] v6 <| cl (f_X3_boxAt v6 x2 h3) fun v8 h7 =>
      jn (fun (x9 : Int32) (h10 : AH) =>
        L4 x9 (x2 + 1) h10) fun j45 =>
      if v8 = none then
        j45 x1 h7
      else
        jn (fun (h11 : AH) =>
          j45 (x1 + 1) h11) fun j42 =>
        if a1 = 0 then
          j42 h7
        else
          rO h7 [1] v8 <| cl (f_X1_isDown v8 h7) fun v13 h12 =>
          if v13 = 0 then
            j42 h12
          else
            j45 x1 h12) lpN (0 : Int32) (0 : Int32) h
set_option maxRecDepth 100000 in
set_option maxHeartbeats 4000000 in
theorem c_X11_countBoxes (l : Launch) (D : DT) (o : Option Nat) (a1 : Int32) (h : AH) (r : Int32 × AH) (hf : f_X11_countBoxes o a1 h = some r) : CM l D yX11_countBoxes cX11_countBoxes 5 (some .int) 1 22 0 0 [.inr (.inr o), .inl a1] h (some (.int r.1)) r.2 := by
  refine CM.of (by decide) (Nat.le_of_ble_eq_true rfl) (fun X hl C hD hX hnm E => ?_)
  subst hl
  subst hD
  have C : CX X RX11 cX11_countBoxes 5 := C
  show WW X h 0 0 0 [some (rB (xD X).1 o), some (.int a1), none, none, none] []
  unfold f_X11_countBoxes at hf
  refine s_iconst C dX11_countBoxes_0 (v := (0 : Int32)) (by decide) ?_
  refine s_istore_n C dX11_countBoxes_1 (by decide) (nc_i rfl) (lv' := [some (rB (xD X).1 o), some (.int a1), some (.int (0 : Int32)), none, none]) rfl ?_
  refine s_iconst C dX11_countBoxes_2 (v := (0 : Int32)) (by decide) ?_
  refine s_istore_n C dX11_countBoxes_3 (by decide) (nc_i rfl) (lv' := [some (rB (xD X).1 o), some (.int a1), some (.int (0 : Int32)), some (.int (0 : Int32)), none]) rfl ?_
  refine s_lp3 hf (fun G4 z4 q4 hf => ?_)
  have k4 : ∀ (n : Nat) (x1 : Int32) (x2 : Int32) (h3 : AH), G4 n x1 x2 h3 = some r → WW X h3 0 0 4 [some (rB (xD X).1 o), some (.int a1), some (.int x1), some (.int x2), none] [] := by
    intro n
    induction n with
    | zero =>
      intro x1 x2 h3 hf
      rw [z4] at hf
      cases hf
    | succ n ih4 =>
      intro x1 x2 h3 hf
      have hf := (q4 n x1 x2 h3).symm.trans hf
      refine s_iload_n C dX11_countBoxes_4 rfl ?_
      refine s_aload_n C dX11_countBoxes_5 rfl ?_
      refine s_getR C fl_X11_10 dX11_countBoxes_6 hf (fun v4 hf => ?_)
      refine s_getI C fl_X11_70 dX11_countBoxes_9 hf (fun v5 hf => ?_)
      refine s_icmp_ge (tgt := 51) C dX11_countBoxes_12 (by decide) hf (fun hf => ?_) (fun hf => ?_)
      · refine s_iload_n C dX11_countBoxes_51 rfl ?_
        exact s_ireturn C E dX11_countBoxes_52 hf (Nat.le_of_ble_eq_true rfl) (Nat.le_of_ble_eq_true rfl)
      · refine s_aload_n C dX11_countBoxes_15 rfl ?_
        refine s_getR C fl_X11_10 dX11_countBoxes_16 hf (fun v6 hf => ?_)
        refine s_iload_n C dX11_countBoxes_19 rfl ?_
        refine s_callV (rvf := fun x => some (rB (xD X).1 x)) (st := []) (fr := 0) (lo := 0) (mc := 0) (ms := 0) C [3] wc_X3_boxAt wml_X11_130 wim_X3_boxAt wsl_3_X3_boxAt dX11_countBoxes_20 (As := [.inl x2]) rfl hf (fun x h' hF => c_X3_boxAt _ _ _ _ _ (x, h') hF) rfl (Nat.le_of_ble_eq_true rfl) (room_ok hX (Nat.le_of_ble_eq_true rfl) (Nat.le_of_ble_eq_true rfl)) (cell_ok hX (Nat.le_of_ble_eq_true rfl) (Nat.le_of_ble_eq_true rfl)) (fun v8 h7 hf => ?_)
        refine s_astore C dX11_countBoxes_23 (by decide) (nc_i rfl) (lv' := [some (rB (xD X).1 o), some (.int a1), some (.int x1), some (.int x2), some (rB (xD X).1 v8)]) rfl ?_
        refine s_aload C dX11_countBoxes_25 rfl ?_
        refine s_jn hf (fun j45 e45 hf => ?_)
        have k45 : ∀ (x9 : Int32) (h10 : AH), j45 x9 h10 = some r → WW X h10 0 0 45 [some (rB (xD X).1 o), some (.int a1), some (.int x9), some (.int x2), none] [] := by
          intro x9 h10 hf
          rw [e45] at hf
          refine s_iinc C dX11_countBoxes_45 (v := (x2 + 1)) rfl rfl (by decide) (nc_i rfl) (lv' := [some (rB (xD X).1 o), some (.int a1), some (.int x9), some (.int (x2 + 1)), none]) rfl ?_
          refine s_goto (tgt := 4) C dX11_countBoxes_48 (by decide) ?_
          exact ih4 _ _ _ hf
        refine s_ifnull (tgt := 45) C dX11_countBoxes_27 (by decide) hf (fun hf => ?_) (fun hf => ?_)
        · refine s_weak (lv' := [some (rB (xD X).1 o), some (.int a1), some (.int x1), some (.int x2), none]) ⟨rfl, ⟨rfl, ⟨rfl, ⟨rfl, trivial⟩⟩⟩⟩ ?_
          exact k45 _ _ hf
        · refine s_iload_n C dX11_countBoxes_30 rfl ?_
          refine s_jn hf (fun j42 e42 hf => ?_)
          have k42 : ∀ (h11 : AH), j42 h11 = some r → WW X h11 0 0 42 [some (rB (xD X).1 o), some (.int a1), some (.int x1), some (.int x2), none] [] := by
            intro h11 hf
            rw [e42] at hf
            refine s_iinc C dX11_countBoxes_42 (v := (x1 + 1)) rfl rfl (by decide) (nc_i rfl) (lv' := [some (rB (xD X).1 o), some (.int a1), some (.int (x1 + 1)), some (.int x2), none]) rfl ?_
            exact k45 _ _ hf
          refine s_if_eq (tgt := 42) C dX11_countBoxes_31 (by decide) hf (fun hf => ?_) (fun hf => ?_)
          · refine s_weak (lv' := [some (rB (xD X).1 o), some (.int a1), some (.int x1), some (.int x2), none]) ⟨rfl, ⟨rfl, ⟨rfl, ⟨rfl, trivial⟩⟩⟩⟩ ?_
            exact k42 _ hf
          · refine s_aload C dX11_countBoxes_34 rfl ?_
            refine s_callV (rvf := fun x => some (.int x)) (st := []) (fr := 0) (lo := 0) (mc := 0) (ms := 0) C [1] wc_X1_isDown wml_X11_137 wim_X1_isDown wsl_1_X1_isDown dX11_countBoxes_36 (As := []) rfl hf (fun x h' hF => c_X1_isDown _ _ _ _ (x, h') hF) rfl (Nat.le_of_ble_eq_true rfl) (room_ok hX (Nat.le_of_ble_eq_true rfl) (Nat.le_of_ble_eq_true rfl)) (cell_ok hX (Nat.le_of_ble_eq_true rfl) (Nat.le_of_ble_eq_true rfl)) (fun v13 h12 hf => ?_)
            refine s_if_ne (tgt := 45) C dX11_countBoxes_39 (by decide) hf (fun hf => ?_) (fun hf => ?_)
            · refine s_weak (lv' := [some (rB (xD X).1 o), some (.int a1), some (.int x1), some (.int x2), none]) ⟨rfl, ⟨rfl, ⟨rfl, ⟨rfl, trivial⟩⟩⟩⟩ ?_
              exact k45 _ _ hf
            · refine s_weak (lv' := [some (rB (xD X).1 o), some (.int a1), some (.int x1), some (.int x2), none]) ⟨rfl, ⟨rfl, ⟨rfl, ⟨rfl, trivial⟩⟩⟩⟩ ?_
              exact k42 _ hf
  exact k4 lpN _ _ _ hf
/-- HillBoxes$Finder.hasLeft()Z -/
noncomputable def f_X2_hasLeft (o : Option Nat) (h : AH) : Option (Int32 × AH) :=
  fI h [2] o 4 fun v1 =>
  jn (fun (x2 : Int32) =>
    rz x2 h) fun j12 =>
  if v1 < 0 then
    j12 (0 : Int32)
  else
    j12 (1 : Int32)
set_option maxRecDepth 100000 in
set_option maxHeartbeats 4000000 in
theorem c_X2_hasLeft (l : Launch) (D : DT) (o : Option Nat) (h : AH) (r : Int32 × AH) (hf : f_X2_hasLeft o h = some r) : CM l D yX2_hasLeft cX2_hasLeft 1 (some .boolean) 0 0 0 0 [.inr (.inr o)] h (some (.int r.1)) r.2 := by
  refine CM.of (by decide) (Nat.le_of_ble_eq_true rfl) (fun X hl C hD hX hnm E => ?_)
  subst hl
  subst hD
  have C : CX X RX2 cX2_hasLeft 1 := C
  show WW X h 0 0 0 [some (rB (xD X).1 o)] []
  unfold f_X2_hasLeft at hf
  refine s_aload_n C dX2_hasLeft_0 rfl ?_
  refine s_getI C fl_X2_9 dX2_hasLeft_1 hf (fun v1 hf => ?_)
  refine s_jn hf (fun j12 e12 hf => ?_)
  have k12 : ∀ (x2 : Int32), j12 x2 = some r → WW X h 0 0 12 [none] [.int x2] := by
    intro x2 hf
    rw [e12] at hf
    exact s_zreturn C E dX2_hasLeft_12 hf (Nat.le_of_ble_eq_true rfl) (Nat.le_of_ble_eq_true rfl)
  refine s_if_lt (tgt := 11) C dX2_hasLeft_4 (by decide) hf (fun hf => ?_) (fun hf => ?_)
  · refine s_iconst C dX2_hasLeft_11 (v := (0 : Int32)) (by decide) ?_
    refine s_weak (lv' := [none]) trivial ?_
    exact k12 _ hf
  · refine s_iconst C dX2_hasLeft_7 (v := (1 : Int32)) (by decide) ?_
    refine s_goto (tgt := 12) C dX2_hasLeft_8 (by decide) ?_
    refine s_weak (lv' := [none]) trivial ?_
    exact k12 _ hf
/-- HillBoxes$Hills.finderAt(I)LHillBoxes$Finder; -/
noncomputable def f_X3_finderAt (o : Option Nat) (a1 : Int32) (h : AH) : Option (Option Nat × AH) :=
  jn (fun (x1 : Option Nat) =>
    iO h [2] x1 fun v2 =>
    jn (fun (x3 : Option Nat) =>
      some (x3, h)) fun j38 =>
    if v2 = 0 then
      j38 none
    else
      cO h [2] x1 <|
      j38 x1) fun j22 =>
  jn (
    j22 none) fun j12 =>
  if a1 < 0 then
    j12
  else
    fI h [3] o 3 fun v4 =>
    if a1 < v4 then
      fR h [3] o 2 fun v5 =>
      aR h 25 v5 a1 fun v6 =>
      j22 v6
    else
      j12
set_option maxRecDepth 100000 in
set_option maxHeartbeats 4000000 in
theorem c_X3_finderAt (l : Launch) (D : DT) (o : Option Nat) (a1 : Int32) (h : AH) (r : Option Nat × AH) (hf : f_X3_finderAt o a1 h = some r) : CM l D yX3_finderAt cX3_finderAt 3 (some (.object "HillBoxes$Finder")) 0 0 0 0 [.inr (.inr o), .inl a1] h (some (rB D.1 r.1)) r.2 := by
  refine CM.of (by decide) (Nat.le_of_ble_eq_true rfl) (fun X hl C hD hX hnm E => ?_)
  subst hl
  subst hD
  have C : CX X RX3 cX3_finderAt 3 := C
  show WW X h 0 0 0 [some (rB (xD X).1 o), some (.int a1), none] []
  unfold f_X3_finderAt at hf
  refine s_iload_n C dX3_finderAt_0 rfl ?_
  refine s_jn hf (fun j22 e22 hf => ?_)
  have k22 : ∀ (x1 : Option Nat), j22 x1 = some r → WW X h 0 0 22 [none, none, none] [rB (xD X).1 x1] := by
    intro x1 hf
    rw [e22] at hf
    refine s_astore_n C dX3_finderAt_22 (by decide) (nc_n rfl) (lv' := [none, none, some (rB (xD X).1 x1)]) rfl ?_
    refine s_aload_n C dX3_finderAt_23 rfl ?_
    refine s_instof C (t := 2) (by decide) wcl_X3_46 dX3_finderAt_24 hf (fun v2 hf => ?_)
    refine s_jn hf (fun j38 e38 hf => ?_)
    have k38 : ∀ (x3 : Option Nat), j38 x3 = some r → WW X h 0 0 38 [none, none, none] [rB (xD X).1 x3] := by
      intro x3 hf
      rw [e38] at hf
      exact s_areturn C E dX3_finderAt_38 hf (Nat.le_of_ble_eq_true rfl) (Nat.le_of_ble_eq_true rfl)
    refine s_if_eq (tgt := 37) C dX3_finderAt_27 (by decide) hf (fun hf => ?_) (fun hf => ?_)
    · refine s_null C dX3_finderAt_37 ?_
      refine s_weak (lv' := [none, none, none]) trivial ?_
      exact k38 _ hf
    · refine s_aload_n C dX3_finderAt_30 rfl ?_
      refine s_cast C (t := 2) (by decide) wcl_X3_46 dX3_finderAt_31 hf (fun hf => ?_)
      refine s_goto (tgt := 38) C dX3_finderAt_34 (by decide) ?_
      refine s_weak (lv' := [none, none, none]) trivial ?_
      exact k38 _ hf
  refine s_jn hf (fun j12 e12 hf => ?_)
  have k12 : j12  = some r → WW X h 0 0 12 [none, none, none] [] := by
    intro  hf
    rw [e12] at hf
    refine s_null C dX3_finderAt_12 ?_
    refine s_goto (tgt := 22) C dX3_finderAt_13 (by decide) ?_
    exact k22 _ hf
  refine s_if_lt (tgt := 12) C dX3_finderAt_1 (by decide) hf (fun hf => ?_) (fun hf => ?_)
  · refine s_weak (lv' := [none, none, none]) trivial ?_
    exact k12 hf
  · refine s_iload_n C dX3_finderAt_4 rfl ?_
    refine s_aload_n C dX3_finderAt_5 rfl ?_
    refine s_getI C fl_X3_39 dX3_finderAt_6 hf (fun v4 hf => ?_)
    refine s_icmp_lt (tgt := 16) C dX3_finderAt_9 (by decide) hf (fun hf => ?_) (fun hf => ?_)
    · refine s_aload_n C dX3_finderAt_16 rfl ?_
      refine s_getR C fl_X3_17 dX3_finderAt_17 hf (fun v5 hf => ?_)
      refine s_iload_n C dX3_finderAt_20 rfl ?_
      refine s_aaload C dX3_finderAt_21 (by decide) hf (fun v6 hf => ?_)
      refine s_weak (lv' := [none, none, none]) trivial ?_
      exact k22 _ hf
    · refine s_weak (lv' := [none, none, none]) trivial ?_
      exact k12 hf
/-- HillBoxes.countFinders(Z)I -/
noncomputable def f_X11_countFinders (o : Option Nat) (a1 : Int32) (h : AH) : Option (Int32 × AH) :=
  lp (fun _ _ _ => none) (fun (L4 : Int32 → Int32 → AH → Option (Int32 × AH)) (x1 : Int32) (x2 : Int32) (h3 : AH) =>
    fR h3 [11] o 0 fun v4 =>
    fI h3 [3] v4 3 fun v5 =>
    if v5 ≤ x2 then
      some (x1, h3)
    else
      fR h3 [11] o 0 fun v6 =>
      rO h3 [3] v6 <| cl (f_X3_finderAt v6 x2 h3) fun v8 h7 =>
      jn (fun (x9 : Int32) (h10 : AH) =>
        L4 x9 (x2 + 1) h10) fun j45 =>
      if v8 = none then
        j45 x1 h7
      else
        jn (fun (h11 : AH) =>
          j45 (x1 + 1) h11) fun j42 =>
        if a1 = 0 then
          j42 h7
        else
          rO h7 [2] v8 <| cl (f_X2_hasLeft v8 h7) fun v13 h12 =>
          if v13 = 0 then
            j42 h12
          else
            j45 x1 h12) lpN (0 : Int32) (0 : Int32) h
set_option maxRecDepth 100000 in
set_option maxHeartbeats 4000000 in
theorem c_X11_countFinders (l : Launch) (D : DT) (o : Option Nat) (a1 : Int32) (h : AH) (r : Int32 × AH) (hf : f_X11_countFinders o a1 h = some r) : CM l D yX11_countFinders cX11_countFinders 5 (some .int) 1 22 0 0 [.inr (.inr o), .inl a1] h (some (.int r.1)) r.2 := by
  refine CM.of (by decide) (Nat.le_of_ble_eq_true rfl) (fun X hl C hD hX hnm E => ?_)
  subst hl
  subst hD
  have C : CX X RX11 cX11_countFinders 5 := C
  show WW X h 0 0 0 [some (rB (xD X).1 o), some (.int a1), none, none, none] []
  unfold f_X11_countFinders at hf
  refine s_iconst C dX11_countFinders_0 (v := (0 : Int32)) (by decide) ?_
  refine s_istore_n C dX11_countFinders_1 (by decide) (nc_i rfl) (lv' := [some (rB (xD X).1 o), some (.int a1), some (.int (0 : Int32)), none, none]) rfl ?_
  refine s_iconst C dX11_countFinders_2 (v := (0 : Int32)) (by decide) ?_
  refine s_istore_n C dX11_countFinders_3 (by decide) (nc_i rfl) (lv' := [some (rB (xD X).1 o), some (.int a1), some (.int (0 : Int32)), some (.int (0 : Int32)), none]) rfl ?_
  refine s_lp3 hf (fun G4 z4 q4 hf => ?_)
  have k4 : ∀ (n : Nat) (x1 : Int32) (x2 : Int32) (h3 : AH), G4 n x1 x2 h3 = some r → WW X h3 0 0 4 [some (rB (xD X).1 o), some (.int a1), some (.int x1), some (.int x2), none] [] := by
    intro n
    induction n with
    | zero =>
      intro x1 x2 h3 hf
      rw [z4] at hf
      cases hf
    | succ n ih4 =>
      intro x1 x2 h3 hf
      have hf := (q4 n x1 x2 h3).symm.trans hf
      refine s_iload_n C dX11_countFinders_4 rfl ?_
      refine s_aload_n C dX11_countFinders_5 rfl ?_
      refine s_getR C fl_X11_10 dX11_countFinders_6 hf (fun v4 hf => ?_)
      refine s_getI C fl_X11_70 dX11_countFinders_9 hf (fun v5 hf => ?_)
      refine s_icmp_ge (tgt := 51) C dX11_countFinders_12 (by decide) hf (fun hf => ?_) (fun hf => ?_)
      · refine s_iload_n C dX11_countFinders_51 rfl ?_
        exact s_ireturn C E dX11_countFinders_52 hf (Nat.le_of_ble_eq_true rfl) (Nat.le_of_ble_eq_true rfl)
      · refine s_aload_n C dX11_countFinders_15 rfl ?_
        refine s_getR C fl_X11_10 dX11_countFinders_16 hf (fun v6 hf => ?_)
        refine s_iload_n C dX11_countFinders_19 rfl ?_
        refine s_callV (rvf := fun x => some (rB (xD X).1 x)) (st := []) (fr := 0) (lo := 0) (mc := 0) (ms := 0) C [3] wc_X3_finderAt wml_X11_90 wim_X3_finderAt wsl_3_X3_finderAt dX11_countFinders_20 (As := [.inl x2]) rfl hf (fun x h' hF => c_X3_finderAt _ _ _ _ _ (x, h') hF) rfl (Nat.le_of_ble_eq_true rfl) (room_ok hX (Nat.le_of_ble_eq_true rfl) (Nat.le_of_ble_eq_true rfl)) (cell_ok hX (Nat.le_of_ble_eq_true rfl) (Nat.le_of_ble_eq_true rfl)) (fun v8 h7 hf => ?_)
        refine s_astore C dX11_countFinders_23 (by decide) (nc_i rfl) (lv' := [some (rB (xD X).1 o), some (.int a1), some (.int x1), some (.int x2), some (rB (xD X).1 v8)]) rfl ?_
        refine s_aload C dX11_countFinders_25 rfl ?_
        refine s_jn hf (fun j45 e45 hf => ?_)
        have k45 : ∀ (x9 : Int32) (h10 : AH), j45 x9 h10 = some r → WW X h10 0 0 45 [some (rB (xD X).1 o), some (.int a1), some (.int x9), some (.int x2), none] [] := by
          intro x9 h10 hf
          rw [e45] at hf
          refine s_iinc C dX11_countFinders_45 (v := (x2 + 1)) rfl rfl (by decide) (nc_i rfl) (lv' := [some (rB (xD X).1 o), some (.int a1), some (.int x9), some (.int (x2 + 1)), none]) rfl ?_
          refine s_goto (tgt := 4) C dX11_countFinders_48 (by decide) ?_
          exact ih4 _ _ _ hf
        refine s_ifnull (tgt := 45) C dX11_countFinders_27 (by decide) hf (fun hf => ?_) (fun hf => ?_)
        · refine s_weak (lv' := [some (rB (xD X).1 o), some (.int a1), some (.int x1), some (.int x2), none]) ⟨rfl, ⟨rfl, ⟨rfl, ⟨rfl, trivial⟩⟩⟩⟩ ?_
          exact k45 _ _ hf
        · refine s_iload_n C dX11_countFinders_30 rfl ?_
          refine s_jn hf (fun j42 e42 hf => ?_)
          have k42 : ∀ (h11 : AH), j42 h11 = some r → WW X h11 0 0 42 [some (rB (xD X).1 o), some (.int a1), some (.int x1), some (.int x2), none] [] := by
            intro h11 hf
            rw [e42] at hf
            refine s_iinc C dX11_countFinders_42 (v := (x1 + 1)) rfl rfl (by decide) (nc_i rfl) (lv' := [some (rB (xD X).1 o), some (.int a1), some (.int (x1 + 1)), some (.int x2), none]) rfl ?_
            exact k45 _ _ hf
          refine s_if_eq (tgt := 42) C dX11_countFinders_31 (by decide) hf (fun hf => ?_) (fun hf => ?_)
          · refine s_weak (lv' := [some (rB (xD X).1 o), some (.int a1), some (.int x1), some (.int x2), none]) ⟨rfl, ⟨rfl, ⟨rfl, ⟨rfl, trivial⟩⟩⟩⟩ ?_
            exact k42 _ hf
          · refine s_aload C dX11_countFinders_34 rfl ?_
            refine s_callV (rvf := fun x => some (.int x)) (st := []) (fr := 0) (lo := 0) (mc := 0) (ms := 0) C [2] wc_X2_hasLeft wml_X11_94 wim_X2_hasLeft wsl_2_X2_hasLeft dX11_countFinders_36 (As := []) rfl hf (fun x h' hF => c_X2_hasLeft _ _ _ _ (x, h') hF) rfl (Nat.le_of_ble_eq_true rfl) (room_ok hX (Nat.le_of_ble_eq_true rfl) (Nat.le_of_ble_eq_true rfl)) (cell_ok hX (Nat.le_of_ble_eq_true rfl) (Nat.le_of_ble_eq_true rfl)) (fun v13 h12 hf => ?_)
            refine s_if_ne (tgt := 45) C dX11_countFinders_39 (by decide) hf (fun hf => ?_) (fun hf => ?_)
            · refine s_weak (lv' := [some (rB (xD X).1 o), some (.int a1), some (.int x1), some (.int x2), none]) ⟨rfl, ⟨rfl, ⟨rfl, ⟨rfl, trivial⟩⟩⟩⟩ ?_
              exact k45 _ _ hf
            · refine s_weak (lv' := [some (rB (xD X).1 o), some (.int a1), some (.int x1), some (.int x2), none]) ⟨rfl, ⟨rfl, ⟨rfl, ⟨rfl, trivial⟩⟩⟩⟩ ?_
              exact k42 _ hf
  exact k4 lpN _ _ _ hf
/-- HillBoxes.count(I)I -/
noncomputable def f_X11_count (o : Option Nat) (a1 : Int32) (h : AH) : Option (Int32 × AH) :=
  if a1 = 0 then
    fR h [11] o 0 fun v1 =>
    fI h [3] v1 3 fun v2 =>
    some (v2, h)
  else
  if a1 = 1 then
    rO h [11] o <| cl (f_X11_countBoxes o (0 : Int32) h) fun v4 h3 =>
    some (v4, h3)
  else
  if a1 = 2 then
    rO h [11] o <| cl (f_X11_countBoxes o (1 : Int32) h) fun v6 h5 =>
    some (v6, h5)
  else
  if a1 = 3 then
    rO h [11] o <| cl (f_X11_countFinders o (0 : Int32) h) fun v8 h7 =>
    some (v8, h7)
  else
  if a1 = 4 then
    rO h [11] o <| cl (f_X11_countFinders o (1 : Int32) h) fun v10 h9 =>
    some (v10, h9)
  else
  if a1 = 5 then
    fR h [11] o 2 fun v11 =>
    fI h [4] v11 2 fun v12 =>
    some (v12, h)
  else
  if a1 = 6 then
    fR h [11] o 1 fun v13 =>
    fI h [6] v13 1 fun v14 =>
    some (v14, h)
  else
  if a1 = 7 then
    fR h [11] o 1 fun v15 =>
    fR h [6] v15 0 fun v16 =>
    fI h [8] v16 0 fun v17 =>
    some (v17, h)
  else
  if a1 = 8 then
    fR h [11] o 0 fun v18 =>
    fI h [3] v18 0 fun v19 =>
    some (v19, h)
  else
  if a1 = 9 then
    fR h [11] o 0 fun v20 =>
    fI h [3] v20 5 fun v21 =>
    some (v21, h)
  else
  if a1 = 10 then
    fR h [11] o 5 fun v22 =>
    aI h 20 v22 (24 : Int32) fun v23 =>
    some (v23, h)
  else
    some ((-1 : Int32), h)
set_option maxRecDepth 100000 in
set_option maxHeartbeats 4000000 in
theorem c_X11_count (l : Launch) (D : DT) (o : Option Nat) (a1 : Int32) (h : AH) (r : Int32 × AH) (hf : f_X11_count o a1 h = some r) : CM l D yX11_count cX11_count 2 (some .int) 2 46 0 0 [.inr (.inr o), .inl a1] h (some (.int r.1)) r.2 := by
  refine CM.of (by decide) (Nat.le_of_ble_eq_true rfl) (fun X hl C hD hX hnm E => ?_)
  subst hl
  subst hD
  have C : CX X RX11 cX11_count 2 := C
  show WW X h 0 0 0 [some (rB (xD X).1 o), some (.int a1)] []
  unfold f_X11_count at hf
  refine s_iload_n C dX11_count_0 rfl ?_
  refine s_ite hf (fun e hf => ?_) (fun n0 hf => ?_)
  · refine s_tsw1 (tgt := 60) C dX11_count_1 e (by decide) (by decide) rfl (by decide) ?_
    refine s_aload_n C dX11_count_60 rfl ?_
    refine s_getR C fl_X11_10 dX11_count_61 hf (fun v1 hf => ?_)
    refine s_getI C fl_X11_70 dX11_count_64 hf (fun v2 hf => ?_)
    exact s_ireturn C E dX11_count_67 hf (Nat.le_of_ble_eq_true rfl) (Nat.le_of_ble_eq_true rfl)
  refine s_ite hf (fun e hf => ?_) (fun n1 hf => ?_)
  · refine s_tsw1 (tgt := 68) C dX11_count_1 e (by decide) (by decide) rfl (by decide) ?_
    refine s_aload_n C dX11_count_68 rfl ?_
    refine s_iconst C dX11_count_69 (v := (0 : Int32)) (by decide) ?_
    refine s_callV (rvf := fun x => some (.int x)) (st := []) (fr := 1) (lo := 22) (mc := 0) (ms := 0) C [11] wc_X11_countBoxes wml_X11_479 wim_X11_countBoxes wsl_11_X11_countBoxes dX11_count_70 (As := [.inl (0 : Int32)]) rfl hf (fun x h' hF => c_X11_countBoxes _ _ _ _ _ (x, h') hF) rfl (Nat.le_of_ble_eq_true rfl) (room_ok hX (Nat.le_of_ble_eq_true rfl) (Nat.le_of_ble_eq_true rfl)) (cell_ok hX (Nat.le_of_ble_eq_true rfl) (Nat.le_of_ble_eq_true rfl)) (fun v4 h3 hf => ?_)
    exact s_ireturn C E dX11_count_73 hf (Nat.le_of_ble_eq_true rfl) (Nat.le_of_ble_eq_true rfl)
  refine s_ite hf (fun e hf => ?_) (fun n2 hf => ?_)
  · refine s_tsw1 (tgt := 74) C dX11_count_1 e (by decide) (by decide) rfl (by decide) ?_
    refine s_aload_n C dX11_count_74 rfl ?_
    refine s_iconst C dX11_count_75 (v := (1 : Int32)) (by decide) ?_
    refine s_callV (rvf := fun x => some (.int x)) (st := []) (fr := 1) (lo := 22) (mc := 0) (ms := 0) C [11] wc_X11_countBoxes wml_X11_479 wim_X11_countBoxes wsl_11_X11_countBoxes dX11_count_76 (As := [.inl (1 : Int32)]) rfl hf (fun x h' hF => c_X11_countBoxes _ _ _ _ _ (x, h') hF) rfl (Nat.le_of_ble_eq_true rfl) (room_ok hX (Nat.le_of_ble_eq_true rfl) (Nat.le_of_ble_eq_true rfl)) (cell_ok hX (Nat.le_of_ble_eq_true rfl) (Nat.le_of_ble_eq_true rfl)) (fun v6 h5 hf => ?_)
    exact s_ireturn C E dX11_count_79 hf (Nat.le_of_ble_eq_true rfl) (Nat.le_of_ble_eq_true rfl)
  refine s_ite hf (fun e hf => ?_) (fun n3 hf => ?_)
  · refine s_tsw1 (tgt := 80) C dX11_count_1 e (by decide) (by decide) rfl (by decide) ?_
    refine s_aload_n C dX11_count_80 rfl ?_
    refine s_iconst C dX11_count_81 (v := (0 : Int32)) (by decide) ?_
    refine s_callV (rvf := fun x => some (.int x)) (st := []) (fr := 1) (lo := 22) (mc := 0) (ms := 0) C [11] wc_X11_countFinders wml_X11_482 wim_X11_countFinders wsl_11_X11_countFinders dX11_count_82 (As := [.inl (0 : Int32)]) rfl hf (fun x h' hF => c_X11_countFinders _ _ _ _ _ (x, h') hF) rfl (Nat.le_of_ble_eq_true rfl) (room_ok hX (Nat.le_of_ble_eq_true rfl) (Nat.le_of_ble_eq_true rfl)) (cell_ok hX (Nat.le_of_ble_eq_true rfl) (Nat.le_of_ble_eq_true rfl)) (fun v8 h7 hf => ?_)
    exact s_ireturn C E dX11_count_85 hf (Nat.le_of_ble_eq_true rfl) (Nat.le_of_ble_eq_true rfl)
  refine s_ite hf (fun e hf => ?_) (fun n4 hf => ?_)
  · refine s_tsw1 (tgt := 86) C dX11_count_1 e (by decide) (by decide) rfl (by decide) ?_
    refine s_aload_n C dX11_count_86 rfl ?_
    refine s_iconst C dX11_count_87 (v := (1 : Int32)) (by decide) ?_
    refine s_callV (rvf := fun x => some (.int x)) (st := []) (fr := 1) (lo := 22) (mc := 0) (ms := 0) C [11] wc_X11_countFinders wml_X11_482 wim_X11_countFinders wsl_11_X11_countFinders dX11_count_88 (As := [.inl (1 : Int32)]) rfl hf (fun x h' hF => c_X11_countFinders _ _ _ _ _ (x, h') hF) rfl (Nat.le_of_ble_eq_true rfl) (room_ok hX (Nat.le_of_ble_eq_true rfl) (Nat.le_of_ble_eq_true rfl)) (cell_ok hX (Nat.le_of_ble_eq_true rfl) (Nat.le_of_ble_eq_true rfl)) (fun v10 h9 hf => ?_)
    exact s_ireturn C E dX11_count_91 hf (Nat.le_of_ble_eq_true rfl) (Nat.le_of_ble_eq_true rfl)
  refine s_ite hf (fun e hf => ?_) (fun n5 hf => ?_)
  · refine s_tsw1 (tgt := 92) C dX11_count_1 e (by decide) (by decide) rfl (by decide) ?_
    refine s_aload_n C dX11_count_92 rfl ?_
    refine s_getR C fl_X11_30 dX11_count_93 hf (fun v11 hf => ?_)
    refine s_getI C fl_X11_285 dX11_count_96 hf (fun v12 hf => ?_)
    exact s_ireturn C E dX11_count_99 hf (Nat.le_of_ble_eq_true rfl) (Nat.le_of_ble_eq_true rfl)
  refine s_ite hf (fun e hf => ?_) (fun n6 hf => ?_)
  · refine s_tsw1 (tgt := 100) C dX11_count_1 e (by decide) (by decide) rfl (by decide) ?_
    refine s_aload_n C dX11_count_100 rfl ?_
    refine s_getR C fl_X11_21 dX11_count_101 hf (fun v13 hf => ?_)
    refine s_getI C fl_X11_485 dX11_count_104 hf (fun v14 hf => ?_)
    exact s_ireturn C E dX11_count_107 hf (Nat.le_of_ble_eq_true rfl) (Nat.le_of_ble_eq_true rfl)
  refine s_ite hf (fun e hf => ?_) (fun n7 hf => ?_)
  · refine s_tsw1 (tgt := 108) C dX11_count_1 e (by decide) (by decide) rfl (by decide) ?_
    refine s_aload_n C dX11_count_108 rfl ?_
    refine s_getR C fl_X11_21 dX11_count_109 hf (fun v15 hf => ?_)
    refine s_getR C fl_X11_179 dX11_count_112 hf (fun v16 hf => ?_)
    refine s_getI C fl_X11_191 dX11_count_115 hf (fun v17 hf => ?_)
    exact s_ireturn C E dX11_count_118 hf (Nat.le_of_ble_eq_true rfl) (Nat.le_of_ble_eq_true rfl)
  refine s_ite hf (fun e hf => ?_) (fun n8 hf => ?_)
  · refine s_tsw1 (tgt := 119) C dX11_count_1 e (by decide) (by decide) rfl (by decide) ?_
    refine s_aload_n C dX11_count_119 rfl ?_
    refine s_getR C fl_X11_10 dX11_count_120 hf (fun v18 hf => ?_)
    refine s_getI C fl_X11_52 dX11_count_123 hf (fun v19 hf => ?_)
    exact s_ireturn C E dX11_count_126 hf (Nat.le_of_ble_eq_true rfl) (Nat.le_of_ble_eq_true rfl)
  refine s_ite hf (fun e hf => ?_) (fun n9 hf => ?_)
  · refine s_tsw1 (tgt := 127) C dX11_count_1 e (by decide) (by decide) rfl (by decide) ?_
    refine s_aload_n C dX11_count_127 rfl ?_
    refine s_getR C fl_X11_10 dX11_count_128 hf (fun v20 hf => ?_)
    refine s_getI C fl_X11_100 dX11_count_131 hf (fun v21 hf => ?_)
    exact s_ireturn C E dX11_count_134 hf (Nat.le_of_ble_eq_true rfl) (Nat.le_of_ble_eq_true rfl)
  refine s_ite hf (fun e hf => ?_) (fun n10 hf => ?_)
  · refine s_tsw1 (tgt := 135) C dX11_count_1 e (by decide) (by decide) rfl (by decide) ?_
    refine s_aload_n C dX11_count_135 rfl ?_
    refine s_getR C fl_X11_48 dX11_count_136 hf (fun v22 hf => ?_)
    refine s_bipush C dX11_count_139 (v := (24 : Int32)) (by decide) ?_
    refine s_iaload C dX11_count_141 hf (fun v23 hf => ?_)
    exact s_ireturn C E dX11_count_142 hf (Nat.le_of_ble_eq_true rfl) (Nat.le_of_ble_eq_true rfl)
  refine s_tswD (tgt := 143) C dX11_count_1 (by have n0x := n32 (i := 0) n0 rfl; have n1x := n32 (i := 1) n1 rfl; have n2x := n32 (i := 2) n2 rfl; have n3x := n32 (i := 3) n3 rfl; have n4x := n32 (i := 4) n4 rfl; have n5x := n32 (i := 5) n5 rfl; have n6x := n32 (i := 6) n6 rfl; have n7x := n32 (i := 7) n7 rfl; have n8x := n32 (i := 8) n8 rfl; have n9x := n32 (i := 9) n9 rfl; have n10x := n32 (i := 10) n10 rfl; omega) (by decide) ?_
  refine s_iconst C dX11_count_143 (v := (-1 : Int32)) (by decide) ?_
  exact s_ireturn C E dX11_count_144 hf (Nat.le_of_ble_eq_true rfl) (Nat.le_of_ble_eq_true rfl)
/-- HillBoxes.down(I)I -/
noncomputable def f_X11_down (o : Option Nat) (a1 : Int32) (h : AH) : Option (Int32 × AH) :=
  fR h [11] o 0 fun v1 =>
  rO h [3] v1 <| cl (f_X3_boxAt v1 a1 h) fun v3 h2 =>
  if v3 = none then
    some ((-1 : Int32), h2)
  else
    rO h2 [1] v3 <| cl (f_X1_isDown v3 h2) fun v5 h4 =>
    if v5 = 0 then
      fR h4 [11] o 0 fun v6 =>
      fI h4 [3] v6 0 fun v7 =>
      pI h4 [1] v3 11 v7 fun h8 =>
      some ((1 : Int32), h8)
    else
      some ((-2 : Int32), h4)
set_option maxRecDepth 100000 in
set_option maxHeartbeats 4000000 in
theorem c_X11_down (l : Launch) (D : DT) (o : Option Nat) (a1 : Int32) (h : AH) (r : Int32 × AH) (hf : f_X11_down o a1 h = some r) : CM l D yX11_down cX11_down 3 (some .int) 1 22 0 0 [.inr (.inr o), .inl a1] h (some (.int r.1)) r.2 := by
  refine CM.of (by decide) (Nat.le_of_ble_eq_true rfl) (fun X hl C hD hX hnm E => ?_)
  subst hl
  subst hD
  have C : CX X RX11 cX11_down 3 := C
  show WW X h 0 0 0 [some (rB (xD X).1 o), some (.int a1), none] []
  unfold f_X11_down at hf
  refine s_aload_n C dX11_down_0 rfl ?_
  refine s_getR C fl_X11_10 dX11_down_1 hf (fun v1 hf => ?_)
  refine s_iload_n C dX11_down_4 rfl ?_
  refine s_callV (rvf := fun x => some (rB (xD X).1 x)) (st := []) (fr := 0) (lo := 0) (mc := 0) (ms := 0) C [3] wc_X3_boxAt wml_X11_130 wim_X3_boxAt wsl_3_X3_boxAt dX11_down_5 (As := [.inl a1]) rfl hf (fun x h' hF => c_X3_boxAt _ _ _ _ _ (x, h') hF) rfl (Nat.le_of_ble_eq_true rfl) (room_ok hX (Nat.le_of_ble_eq_true rfl) (Nat.le_of_ble_eq_true rfl)) (cell_ok hX (Nat.le_of_ble_eq_true rfl) (Nat.le_of_ble_eq_true rfl)) (fun v3 h2 hf => ?_)
  refine s_astore_n C dX11_down_8 (by decide) (nc_i rfl) (lv' := [some (rB (xD X).1 o), some (.int a1), some (rB (xD X).1 v3)]) rfl ?_
  refine s_aload_n C dX11_down_9 rfl ?_
  refine s_ifnonnull (tgt := 15) C dX11_down_10 (by decide) hf (fun hf => ?_) (fun hf => ?_)
  · refine s_aload_n C dX11_down_15 rfl ?_
    refine s_callV (rvf := fun x => some (.int x)) (st := []) (fr := 0) (lo := 0) (mc := 0) (ms := 0) C [1] wc_X1_isDown wml_X11_137 wim_X1_isDown wsl_1_X1_isDown dX11_down_16 (As := []) rfl hf (fun x h' hF => c_X1_isDown _ _ _ _ (x, h') hF) rfl (Nat.le_of_ble_eq_true rfl) (room_ok hX (Nat.le_of_ble_eq_true rfl) (Nat.le_of_ble_eq_true rfl)) (cell_ok hX (Nat.le_of_ble_eq_true rfl) (Nat.le_of_ble_eq_true rfl)) (fun v5 h4 hf => ?_)
    refine s_if_eq (tgt := 25) C dX11_down_19 (by decide) hf (fun hf => ?_) (fun hf => ?_)
    · refine s_aload_n C dX11_down_25 rfl ?_
      refine s_aload_n C dX11_down_26 rfl ?_
      refine s_getR C fl_X11_10 dX11_down_27 hf (fun v6 hf => ?_)
      refine s_getI C fl_X11_52 dX11_down_30 hf (fun v7 hf => ?_)
      refine s_putI C fl_X11_153 (by decide) dX11_down_33 hf (fun h8 hf => ?_)
      refine s_iconst C dX11_down_36 (v := (1 : Int32)) (by decide) ?_
      exact s_ireturn C E dX11_down_37 hf (Nat.le_of_ble_eq_true rfl) (Nat.le_of_ble_eq_true rfl)
    · refine s_bipush C dX11_down_22 (v := (-2 : Int32)) (by decide) ?_
      exact s_ireturn C E dX11_down_24 hf (Nat.le_of_ble_eq_true rfl) (Nat.le_of_ble_eq_true rfl)
  · refine s_iconst C dX11_down_13 (v := (-1 : Int32)) (by decide) ?_
    exact s_ireturn C E dX11_down_14 hf (Nat.le_of_ble_eq_true rfl) (Nat.le_of_ble_eq_true rfl)
/-- HillBoxes$Tape.append(I)V -/
noncomputable def f_X8_append (o : Option Nat) (a1 : Int32) (h : AH) : Option (Unit × AH) :=
  fI h [8] o 0 fun v1 =>
  jn (fun (h2 : AH) =>
    some ((), h2)) fun j30 =>
  if (160 : Int32) ≤ v1 then
    j30 h
  else
    fR h [8] o 1 fun v3 =>
    fI h [8] o 0 fun v4 =>
    bI h 20 v3 v4 a1 fun h5 =>
    fI h5 [8] o 0 fun v6 =>
    pI h5 [8] o 0 (v6 + (1 : Int32)) fun h7 =>
    j30 h7
set_option maxRecDepth 100000 in
set_option maxHeartbeats 4000000 in
theorem c_X8_append (l : Launch) (D : DT) (o : Option Nat) (a1 : Int32) (h : AH) (r : Unit × AH) (hf : f_X8_append o a1 h = some r) : CM l D yX8_append cX8_append 2 none 0 0 0 0 [.inr (.inr o), .inl a1] h none r.2 := by
  refine CM.of (by decide) (Nat.le_of_ble_eq_true rfl) (fun X hl C hD hX hnm E => ?_)
  subst hl
  subst hD
  have C : CX X RX8 cX8_append 2 := C
  show WW X h 0 0 0 [some (rB (xD X).1 o), some (.int a1)] []
  unfold f_X8_append at hf
  refine s_aload_n C dX8_append_0 rfl ?_
  refine s_getI C fl_X8_25 dX8_append_1 hf (fun v1 hf => ?_)
  refine s_sipush C dX8_append_4 (v := (160 : Int32)) (by decide) ?_
  refine s_jn hf (fun j30 e30 hf => ?_)
  have k30 : ∀ (h2 : AH), j30 h2 = some r → WW X h2 0 0 30 [none, none] [] := by
    intro h2 hf
    rw [e30] at hf
    exact s_return C E dX8_append_30 hf (Nat.le_of_ble_eq_true rfl) (Nat.le_of_ble_eq_true rfl)
  refine s_icmp_ge (tgt := 30) C dX8_append_7 (by decide) hf (fun hf => ?_) (fun hf => ?_)
  · refine s_weak (lv' := [none, none]) trivial ?_
    exact k30 _ hf
  · refine s_aload_n C dX8_append_10 rfl ?_
    refine s_getR C fl_X8_9 dX8_append_11 hf (fun v3 hf => ?_)
    refine s_aload_n C dX8_append_14 rfl ?_
    refine s_getI C fl_X8_25 dX8_append_15 hf (fun v4 hf => ?_)
    refine s_iload_n C dX8_append_18 rfl ?_
    refine s_iastore C dX8_append_19 hf (fun h5 hf => ?_)
    refine s_aload_n C dX8_append_20 rfl ?_
    refine s_dup C dX8_append_21 c1_r ?_
    refine s_getI C fl_X8_25 dX8_append_22 hf (fun v6 hf => ?_)
    refine s_iconst C dX8_append_25 (v := (1 : Int32)) (by decide) ?_
    refine s_iadd C dX8_append_26 ?_
    refine s_putI C fl_X8_25 (by decide) dX8_append_27 hf (fun h7 hf => ?_)
    refine s_weak (lv' := [none, none]) trivial ?_
    exact k30 _ hf
/-- HillBoxes$Tape.hasRoomFor(I)Z -/
noncomputable def f_X8_hasRoomFor (o : Option Nat) (a1 : Int32) (h : AH) : Option (Int32 × AH) :=
  fI h [8] o 0 fun v1 =>
  jn (fun (x2 : Int32) =>
    rz x2 h) fun j17 =>
  if ((160 : Int32) - a1) < v1 then
    j17 (0 : Int32)
  else
    j17 (1 : Int32)
set_option maxRecDepth 100000 in
set_option maxHeartbeats 4000000 in
theorem c_X8_hasRoomFor (l : Launch) (D : DT) (o : Option Nat) (a1 : Int32) (h : AH) (r : Int32 × AH) (hf : f_X8_hasRoomFor o a1 h = some r) : CM l D yX8_hasRoomFor cX8_hasRoomFor 2 (some .boolean) 0 0 0 0 [.inr (.inr o), .inl a1] h (some (.int r.1)) r.2 := by
  refine CM.of (by decide) (Nat.le_of_ble_eq_true rfl) (fun X hl C hD hX hnm E => ?_)
  subst hl
  subst hD
  have C : CX X RX8 cX8_hasRoomFor 2 := C
  show WW X h 0 0 0 [some (rB (xD X).1 o), some (.int a1)] []
  unfold f_X8_hasRoomFor at hf
  refine s_aload_n C dX8_hasRoomFor_0 rfl ?_
  refine s_getI C fl_X8_25 dX8_hasRoomFor_1 hf (fun v1 hf => ?_)
  refine s_sipush C dX8_hasRoomFor_4 (v := (160 : Int32)) (by decide) ?_
  refine s_iload_n C dX8_hasRoomFor_7 rfl ?_
  refine s_isub C dX8_hasRoomFor_8 ?_
  refine s_jn hf (fun j17 e17 hf => ?_)
  have k17 : ∀ (x2 : Int32), j17 x2 = some r → WW X h 0 0 17 [none, none] [.int x2] := by
    intro x2 hf
    rw [e17] at hf
    exact s_zreturn C E dX8_hasRoomFor_17 hf (Nat.le_of_ble_eq_true rfl) (Nat.le_of_ble_eq_true rfl)
  refine s_icmp_gt (tgt := 16) C dX8_hasRoomFor_9 (by decide) hf (fun hf => ?_) (fun hf => ?_)
  · refine s_iconst C dX8_hasRoomFor_16 (v := (0 : Int32)) (by decide) ?_
    refine s_weak (lv' := [none, none]) trivial ?_
    exact k17 _ hf
  · refine s_iconst C dX8_hasRoomFor_12 (v := (1 : Int32)) (by decide) ?_
    refine s_goto (tgt := 17) C dX8_hasRoomFor_13 (by decide) ?_
    refine s_weak (lv' := [none, none]) trivial ?_
    exact k17 _ hf
/-- HillBoxes.feed(II)I -/
noncomputable def f_X11_feed (o : Option Nat) (a1 : Int32) (a2 : Int32) (h : AH) : Option (Int32 × AH) :=
  jn (
    some ((-1 : Int32), h)) fun j10 =>
  if a1 < (1 : Int32) then
    j10
  else
    if a1 ≤ (4 : Int32) then
      fR h [11] o 1 fun v1 =>
      fR h [6] v1 0 fun v2 =>
      rO h [8] v2 <| cl (f_X8_hasRoomFor v2 a1 h) fun v4 h3 =>
      if v4 = 0 then
        some ((-3 : Int32), h3)
      else
        lp (fun _ _ => none) (fun (L31 : Int32 → AH → Option (Int32 × AH)) (x5 : Int32) (h6 : AH) =>
          if a1 ≤ x5 then
            fR h6 [11] o 1 fun v7 =>
            fR h6 [6] v7 0 fun v8 =>
            fI h6 [8] v8 0 fun v9 =>
            some (v9, h6)
          else
            fR h6 [11] o 1 fun v10 =>
            fR h6 [6] v10 0 fun v11 =>
            rO h6 [8] v11 <| cl (f_X8_append v11 ((a2 >>> (((8 : Int32) * x5) &&& 31)) &&& (255 : Int32)) h6) fun _ h12 =>
            L31 (x5 + 1) h12) lpN (0 : Int32) h3
    else
      j10
set_option maxRecDepth 100000 in
set_option maxHeartbeats 4000000 in
theorem c_X11_feed (l : Launch) (D : DT) (o : Option Nat) (a1 : Int32) (a2 : Int32) (h : AH) (r : Int32 × AH) (hf : f_X11_feed o a1 a2 h = some r) : CM l D yX11_feed cX11_feed 4 (some .int) 1 21 0 0 [.inr (.inr o), .inl a1, .inl a2] h (some (.int r.1)) r.2 := by
  refine CM.of (by decide) (Nat.le_of_ble_eq_true rfl) (fun X hl C hD hX hnm E => ?_)
  subst hl
  subst hD
  have C : CX X RX11 cX11_feed 4 := C
  show WW X h 0 0 0 [some (rB (xD X).1 o), some (.int a1), some (.int a2), none] []
  unfold f_X11_feed at hf
  refine s_iload_n C dX11_feed_0 rfl ?_
  refine s_iconst C dX11_feed_1 (v := (1 : Int32)) (by decide) ?_
  refine s_jn hf (fun j10 e10 hf => ?_)
  have k10 : j10  = some r → WW X h 0 0 10 [none, none, none, none] [] := by
    intro  hf
    rw [e10] at hf
    refine s_iconst C dX11_feed_10 (v := (-1 : Int32)) (by decide) ?_
    exact s_ireturn C E dX11_feed_11 hf (Nat.le_of_ble_eq_true rfl) (Nat.le_of_ble_eq_true rfl)
  refine s_icmp_lt (tgt := 10) C dX11_feed_2 (by decide) hf (fun hf => ?_) (fun hf => ?_)
  · refine s_weak (lv' := [none, none, none, none]) trivial ?_
    exact k10 hf
  · refine s_iload_n C dX11_feed_5 rfl ?_
    refine s_iconst C dX11_feed_6 (v := (4 : Int32)) (by decide) ?_
    refine s_icmp_le (tgt := 12) C dX11_feed_7 (by decide) hf (fun hf => ?_) (fun hf => ?_)
    · refine s_aload_n C dX11_feed_12 rfl ?_
      refine s_getR C fl_X11_21 dX11_feed_13 hf (fun v1 hf => ?_)
      refine s_getR C fl_X11_179 dX11_feed_16 hf (fun v2 hf => ?_)
      refine s_iload_n C dX11_feed_19 rfl ?_
      refine s_callV (rvf := fun x => some (.int x)) (st := []) (fr := 0) (lo := 0) (mc := 0) (ms := 0) C [8] wc_X8_hasRoomFor wml_X11_183 wim_X8_hasRoomFor wsl_8_X8_hasRoomFor dX11_feed_20 (As := [.inl a1]) rfl hf (fun x h' hF => c_X8_hasRoomFor _ _ _ _ _ (x, h') hF) rfl (Nat.le_of_ble_eq_true rfl) (room_ok hX (Nat.le_of_ble_eq_true rfl) (Nat.le_of_ble_eq_true rfl)) (cell_ok hX (Nat.le_of_ble_eq_true rfl) (Nat.le_of_ble_eq_true rfl)) (fun v4 h3 hf => ?_)
      refine s_if_ne (tgt := 29) C dX11_feed_23 (by decide) hf (fun hf => ?_) (fun hf => ?_)
      · refine s_iconst C dX11_feed_29 (v := (0 : Int32)) (by decide) ?_
        refine s_istore_n C dX11_feed_30 (by decide) (nc_i rfl) (lv' := [some (rB (xD X).1 o), some (.int a1), some (.int a2), some (.int (0 : Int32))]) rfl ?_
        refine s_lp2 hf (fun G31 z31 q31 hf => ?_)
        have k31 : ∀ (n : Nat) (x5 : Int32) (h6 : AH), G31 n x5 h6 = some r → WW X h6 0 0 31 [some (rB (xD X).1 o), some (.int a1), some (.int a2), some (.int x5)] [] := by
          intro n
          induction n with
          | zero =>
            intro x5 h6 hf
            rw [z31] at hf
            cases hf
          | succ n ih31 =>
            intro x5 h6 hf
            have hf := (q31 n x5 h6).symm.trans hf
            refine s_iload_n C dX11_feed_31 rfl ?_
            refine s_iload_n C dX11_feed_32 rfl ?_
            refine s_icmp_ge (tgt := 62) C dX11_feed_33 (by decide) hf (fun hf => ?_) (fun hf => ?_)
            · refine s_aload_n C dX11_feed_62 rfl ?_
              refine s_getR C fl_X11_21 dX11_feed_63 hf (fun v7 hf => ?_)
              refine s_getR C fl_X11_179 dX11_feed_66 hf (fun v8 hf => ?_)
              refine s_getI C fl_X11_191 dX11_feed_69 hf (fun v9 hf => ?_)
              exact s_ireturn C E dX11_feed_72 hf (Nat.le_of_ble_eq_true rfl) (Nat.le_of_ble_eq_true rfl)
            · refine s_aload_n C dX11_feed_36 rfl ?_
              refine s_getR C fl_X11_21 dX11_feed_37 hf (fun v10 hf => ?_)
              refine s_getR C fl_X11_179 dX11_feed_40 hf (fun v11 hf => ?_)
              refine s_iload_n C dX11_feed_43 rfl ?_
              refine s_bipush C dX11_feed_44 (v := (8 : Int32)) (by decide) ?_
              refine s_iload_n C dX11_feed_46 rfl ?_
              refine s_imul C dX11_feed_47 ?_
              refine s_ishr C dX11_feed_48 ?_
              refine s_sipush C dX11_feed_49 (v := (255 : Int32)) (by decide) ?_
              refine s_iand C dX11_feed_52 ?_
              refine s_callV (rvf := fun _ => none) (st := []) (fr := 0) (lo := 0) (mc := 0) (ms := 0) C [8] wc_X8_append wml_X11_188 wim_X8_append wsl_8_X8_append dX11_feed_53 (As := [.inl ((a2 >>> (((8 : Int32) * x5) &&& 31)) &&& (255 : Int32))]) rfl hf (fun x h' hF => c_X8_append _ _ _ _ _ (x, h') hF) rfl (Nat.le_of_ble_eq_true rfl) (room_ok hX (Nat.le_of_ble_eq_true rfl) (Nat.le_of_ble_eq_true rfl)) (cell_ok hX (Nat.le_of_ble_eq_true rfl) (Nat.le_of_ble_eq_true rfl)) (fun _ h12 hf => ?_)
              refine s_iinc C dX11_feed_56 (v := (x5 + 1)) rfl rfl (by decide) (nc_i rfl) (lv' := [some (rB (xD X).1 o), some (.int a1), some (.int a2), some (.int (x5 + 1))]) rfl ?_
              refine s_goto (tgt := 31) C dX11_feed_59 (by decide) ?_
              exact ih31 _ _ hf
        exact k31 lpN _ _ hf
      · refine s_bipush C dX11_feed_26 (v := (-3 : Int32)) (by decide) ?_
        exact s_ireturn C E dX11_feed_28 hf (Nat.le_of_ble_eq_true rfl) (Nat.le_of_ble_eq_true rfl)
    · refine s_weak (lv' := [none, none, none, none]) trivial ?_
      exact k10 hf
/-- HillBoxes.isCell(I)Z -/
noncomputable def f_X11_isCell (a0 : Int32) (h : AH) : Option (Int32 × AH) :=
  jn (fun (x1 : Int32) =>
    rz x1 h) fun j15 =>
  jn (
    j15 (0 : Int32)) fun j14 =>
  if a0 < 0 then
    j14
  else
    if (60 : Int32) ≤ a0 then
      j14
    else
      j15 (1 : Int32)
set_option maxRecDepth 100000 in
set_option maxHeartbeats 4000000 in
theorem c_X11_isCell (l : Launch) (D : DT) (a0 : Int32) (h : AH) (r : Int32 × AH) (hf : f_X11_isCell a0 h = some r) : CM l D yX11_isCell cX11_isCell 1 (some .boolean) 0 0 0 0 [.inl a0] h (some (.int r.1)) r.2 := by
  refine CM.of (by decide) (Nat.le_of_ble_eq_true rfl) (fun X hl C hD hX hnm E => ?_)
  subst hl
  subst hD
  have C : CX X RX11 cX11_isCell 1 := C
  show WW X h 0 0 0 [some (.int a0)] []
  unfold f_X11_isCell at hf
  refine s_iload_n C dX11_isCell_0 rfl ?_
  refine s_jn hf (fun j15 e15 hf => ?_)
  have k15 : ∀ (x1 : Int32), j15 x1 = some r → WW X h 0 0 15 [none] [.int x1] := by
    intro x1 hf
    rw [e15] at hf
    exact s_zreturn C E dX11_isCell_15 hf (Nat.le_of_ble_eq_true rfl) (Nat.le_of_ble_eq_true rfl)
  refine s_jn hf (fun j14 e14 hf => ?_)
  have k14 : j14  = some r → WW X h 0 0 14 [none] [] := by
    intro  hf
    rw [e14] at hf
    refine s_iconst C dX11_isCell_14 (v := (0 : Int32)) (by decide) ?_
    exact k15 _ hf
  refine s_if_lt (tgt := 14) C dX11_isCell_1 (by decide) hf (fun hf => ?_) (fun hf => ?_)
  · refine s_weak (lv' := [none]) trivial ?_
    exact k14 hf
  · refine s_iload_n C dX11_isCell_4 rfl ?_
    refine s_bipush C dX11_isCell_5 (v := (60 : Int32)) (by decide) ?_
    refine s_icmp_ge (tgt := 14) C dX11_isCell_7 (by decide) hf (fun hf => ?_) (fun hf => ?_)
    · refine s_weak (lv' := [none]) trivial ?_
      exact k14 hf
    · refine s_iconst C dX11_isCell_10 (v := (1 : Int32)) (by decide) ?_
      refine s_goto (tgt := 15) C dX11_isCell_11 (by decide) ?_
      refine s_weak (lv' := [none]) trivial ?_
      exact k15 _ hf
/-- HillBoxes$Body.<init>(II)V -/
noncomputable def f_X0_init (o : Option Nat) (a1 : Int32) (a2 : Int32) (h : AH) : Option (Unit × AH) :=
  rO h [0, 1, 2, 9] o <|
  pI h [0, 1, 2, 9] o 0 a1 fun h1 =>
  pI h1 [0, 1, 2, 9] o 1 a2 fun h2 =>
  some ((), h2)
set_option maxRecDepth 100000 in
set_option maxHeartbeats 4000000 in
theorem c_X0_init (l : Launch) (D : DT) (o : Option Nat) (a1 : Int32) (a2 : Int32) (h : AH) (r : Unit × AH) (hf : f_X0_init o a1 a2 h = some r) : CM l D yX0_init cX0_init 3 none 1 20 0 0 [.inr (.inr o), .inl a1, .inl a2] h none r.2 := by
  refine CM.of (by decide) (Nat.le_of_ble_eq_true rfl) (fun X hl C hD hX hnm E => ?_)
  subst hl
  subst hD
  have C : CX X RX0 cX0_init 3 := C
  show WW X h 0 0 0 [some (rB (xD X).1 o), some (.int a1), some (.int a2)] []
  unfold f_X0_init at hf
  refine s_aload_n C dX0_init_0 rfl ?_
  refine s_objInit C wml_X0_3 wim_obj wcd_obj dX0_init_1 (cs := [0, 1, 2, 9]) hf (Nat.le_of_ble_eq_true rfl) (room_n hX (Nat.le_of_ble_eq_true rfl) (Nat.le_of_ble_eq_true rfl)) (fun hf => ?_)
  refine s_aload_n C dX0_init_4 rfl ?_
  refine s_iload_n C dX0_init_5 rfl ?_
  refine s_putFI C fl_X0_9 (by decide) (by decide +kernel) hnm dX0_init_6 hf (fun h1 hf => ?_)
  refine s_aload_n C dX0_init_9 rfl ?_
  refine s_iload_n C dX0_init_10 rfl ?_
  refine s_putFI C fl_X0_15 (by decide) (by decide +kernel) hnm dX0_init_11 hf (fun h2 hf => ?_)
  exact s_return C E dX0_init_14 hf (Nat.le_of_ble_eq_true rfl) (Nat.le_of_ble_eq_true rfl)
/-- HillBoxes$Finder.<init>(III)V -/
noncomputable def f_X2_init (o : Option Nat) (a1 : Int32) (a2 : Int32) (a3 : Int32) (h : AH) : Option (Unit × AH) :=
  rO h [2] o <| cl (f_X0_init o a1 (7 : Int32) h) fun _ h1 =>
  pI h1 [2] o 4 (-1 : Int32) fun h2 =>
  pI h2 [2] o 2 a2 fun h3 =>
  pI h3 [2] o 3 a3 fun h4 =>
  some ((), h4)
set_option maxRecDepth 100000 in
set_option maxHeartbeats 4000000 in
theorem c_X2_init (l : Launch) (D : DT) (o : Option Nat) (a1 : Int32) (a2 : Int32) (a3 : Int32) (h : AH) (r : Unit × AH) (hf : f_X2_init o a1 a2 a3 h = some r) : CM l D yX2_init cX2_init 4 none 2 42 0 0 [.inr (.inr o), .inl a1, .inl a2, .inl a3] h none r.2 := by
  refine CM.of (by decide) (Nat.le_of_ble_eq_true rfl) (fun X hl C hD hX hnm E => ?_)
  subst hl
  subst hD
  have C : CX X RX2 cX2_init 4 := C
  show WW X h 0 0 0 [some (rB (xD X).1 o), some (.int a1), some (.int a2), some (.int a3)] []
  unfold f_X2_init at hf
  refine s_aload_n C dX2_init_0 rfl ?_
  refine s_iload_n C dX2_init_1 rfl ?_
  refine s_bipush C dX2_init_2 (v := (7 : Int32)) (by decide) ?_
  refine s_callI (st := []) (fr := 1) (lo := 20) (mc := 0) (ms := 0) C wc_X0_init wml_X2_3 wim_X0_init rfl dX2_init_4 (As := [.inl a1, .inl (7 : Int32)]) rfl (a0 := 2) hf (fun h' hF => c_X0_init _ _ _ _ _ _ ((), h') hF) rfl (Nat.le_of_ble_eq_true rfl) (room_ok hX (Nat.le_of_ble_eq_true rfl) (Nat.le_of_ble_eq_true rfl)) (cell_ok hX (Nat.le_of_ble_eq_true rfl) (Nat.le_of_ble_eq_true rfl)) (fun h1 hf => ?_)
  refine s_aload_n C dX2_init_7 rfl ?_
  refine s_iconst C dX2_init_8 (v := (-1 : Int32)) (by decide) ?_
  refine s_putI C fl_X2_9 (by decide) dX2_init_9 hf (fun h2 hf => ?_)
  refine s_aload_n C dX2_init_12 rfl ?_
  refine s_iload_n C dX2_init_13 rfl ?_
  refine s_putFI C fl_X2_15 (by decide) (by decide +kernel) hnm dX2_init_14 hf (fun h3 hf => ?_)
  refine s_aload_n C dX2_init_17 rfl ?_
  refine s_iload_n C dX2_init_18 rfl ?_
  refine s_putFI C fl_X2_18 (by decide) (by decide +kernel) hnm dX2_init_19 hf (fun h4 hf => ?_)
  exact s_return C E dX2_init_22 hf (Nat.le_of_ble_eq_true rfl) (Nat.le_of_ble_eq_true rfl)
/-- HillBoxes$Hills.enter(LHillBoxes$Body;)I -/
noncomputable def f_X3_enter (o : Option Nat) (a1 : Option Nat) (h : AH) : Option (Int32 × AH) :=
  fR h [3] o 2 fun v1 =>
  fI h [3] o 3 fun v2 =>
  bR h 25 (elX 25) v1 v2 a1 fun h3 =>
  fI h3 [3] o 3 fun v4 =>
  pI h3 [3] o 3 (v4 + (1 : Int32)) fun h5 =>
  fI h5 [0, 1, 2, 9] a1 0 fun v6 =>
  some (v6, h5)
set_option maxRecDepth 100000 in
set_option maxHeartbeats 4000000 in
theorem c_X3_enter (l : Launch) (D : DT) (o : Option Nat) (a1 : Option Nat) (h : AH) (r : Int32 × AH) (hf : f_X3_enter o a1 h = some r) : CM l D yX3_enter cX3_enter 2 (some .int) 0 0 0 0 [.inr (.inr o), .inr (.inr a1)] h (some (.int r.1)) r.2 := by
  refine CM.of (by decide) (Nat.le_of_ble_eq_true rfl) (fun X hl C hD hX hnm E => ?_)
  subst hl
  subst hD
  have C : CX X RX3 cX3_enter 2 := C
  show WW X h 0 0 0 [some (rB (xD X).1 o), some (rB (xD X).1 a1)] []
  unfold f_X3_enter at hf
  refine s_aload_n C dX3_enter_0 rfl ?_
  refine s_getR C fl_X3_17 dX3_enter_1 hf (fun v1 hf => ?_)
  refine s_aload_n C dX3_enter_4 rfl ?_
  refine s_getI C fl_X3_39 dX3_enter_5 hf (fun v2 hf => ?_)
  refine s_aload_n C dX3_enter_8 rfl ?_
  refine s_aastore C (by decide) (hcast C) dX3_enter_9 hf (fun h3 hf => ?_)
  refine s_aload_n C dX3_enter_10 rfl ?_
  refine s_dup C dX3_enter_11 c1_r ?_
  refine s_getI C fl_X3_39 dX3_enter_12 hf (fun v4 hf => ?_)
  refine s_iconst C dX3_enter_15 (v := (1 : Int32)) (by decide) ?_
  refine s_iadd C dX3_enter_16 ?_
  refine s_putI C fl_X3_39 (by decide) dX3_enter_17 hf (fun h5 hf => ?_)
  refine s_aload_n C dX3_enter_20 rfl ?_
  refine s_getI C fl_X3_43 dX3_enter_21 hf (fun v6 hf => ?_)
  exact s_ireturn C E dX3_enter_24 hf (Nat.le_of_ble_eq_true rfl) (Nat.le_of_ble_eq_true rfl)
/-- HillBoxes$Hills.isFull()Z -/
noncomputable def f_X3_isFull (o : Option Nat) (h : AH) : Option (Int32 × AH) :=
  fI h [3] o 3 fun v1 =>
  jn (fun (x2 : Int32) =>
    rz x2 h) fun j15 =>
  if v1 < (150 : Int32) then
    j15 (0 : Int32)
  else
    j15 (1 : Int32)
set_option maxRecDepth 100000 in
set_option maxHeartbeats 4000000 in
theorem c_X3_isFull (l : Launch) (D : DT) (o : Option Nat) (h : AH) (r : Int32 × AH) (hf : f_X3_isFull o h = some r) : CM l D yX3_isFull cX3_isFull 1 (some .boolean) 0 0 0 0 [.inr (.inr o)] h (some (.int r.1)) r.2 := by
  refine CM.of (by decide) (Nat.le_of_ble_eq_true rfl) (fun X hl C hD hX hnm E => ?_)
  subst hl
  subst hD
  have C : CX X RX3 cX3_isFull 1 := C
  show WW X h 0 0 0 [some (rB (xD X).1 o)] []
  unfold f_X3_isFull at hf
  refine s_aload_n C dX3_isFull_0 rfl ?_
  refine s_getI C fl_X3_39 dX3_isFull_1 hf (fun v1 hf => ?_)
  refine s_sipush C dX3_isFull_4 (v := (150 : Int32)) (by decide) ?_
  refine s_jn hf (fun j15 e15 hf => ?_)
  have k15 : ∀ (x2 : Int32), j15 x2 = some r → WW X h 0 0 15 [none] [.int x2] := by
    intro x2 hf
    rw [e15] at hf
    exact s_zreturn C E dX3_isFull_15 hf (Nat.le_of_ble_eq_true rfl) (Nat.le_of_ble_eq_true rfl)
  refine s_icmp_lt (tgt := 14) C dX3_isFull_7 (by decide) hf (fun hf => ?_) (fun hf => ?_)
  · refine s_iconst C dX3_isFull_14 (v := (0 : Int32)) (by decide) ?_
    refine s_weak (lv' := [none]) trivial ?_
    exact k15 _ hf
  · refine s_iconst C dX3_isFull_10 (v := (1 : Int32)) (by decide) ?_
    refine s_goto (tgt := 15) C dX3_isFull_11 (by decide) ?_
    refine s_weak (lv' := [none]) trivial ?_
    exact k15 _ hf
/-- HillBoxes.finder(I)I -/
noncomputable def f_X11_finder (o : Option Nat) (a1 : Int32) (h : AH) : Option (Int32 × AH) :=
  cl (f_X11_isCell a1 h) fun v2 h1 =>
  if v2 = 0 then
    some ((-1 : Int32), h1)
  else
    fR h1 [11] o 0 fun v3 =>
    rO h1 [3] v3 <| cl (f_X3_isFull v3 h1) fun v5 h4 =>
    if v5 = 0 then
      fR h4 [11] o 0 fun v6 =>
      nO h4 2 5 fun v7 h8 =>
      fR h8 [11] o 0 fun v9 =>
      fI h8 [3] v9 3 fun v10 =>
      fR h8 [11] o 0 fun v11 =>
      fI h8 [3] v11 0 fun v12 =>
      rO h8 [2] v7 <| cl (f_X2_init v7 v10 a1 v12 h8) fun _ h13 =>
      rO h13 [3] v6 <| cl (f_X3_enter v6 v7 h13) fun v15 h14 =>
      some (v15, h14)
    else
      some ((-3 : Int32), h4)
set_option maxRecDepth 100000 in
set_option maxHeartbeats 4000000 in
theorem c_X11_finder (l : Launch) (D : DT) (o : Option Nat) (a1 : Int32) (h : AH) (r : Int32 × AH) (hf : f_X11_finder o a1 h = some r) : CM l D yX11_finder cX11_finder 2 (some .int) 3 65 1 5 [.inr (.inr o), .inl a1] h (some (.int r.1)) r.2 := by
  refine CM.of (by decide) (Nat.le_of_ble_eq_true rfl) (fun X hl C hD hX hnm E => ?_)
  subst hl
  subst hD
  have C : CX X RX11 cX11_finder 2 := C
  show WW X h 0 0 0 [some (rB (xD X).1 o), some (.int a1)] []
  unfold f_X11_finder at hf
  refine s_iload_n C dX11_finder_0 rfl ?_
  refine s_callS (rvf := fun x => some (.int x)) (st := []) (fr := 0) (lo := 0) (mc := 0) (ms := 0) C wc_X11_isCell wml_X11_56 wst_X11_isCell dX11_finder_1 (As := [.inl a1]) rfl hf (fun x h' hF => c_X11_isCell _ _ _ _ (x, h') hF) rfl (Nat.le_of_ble_eq_true rfl) (room_ok hX (Nat.le_of_ble_eq_true rfl) (Nat.le_of_ble_eq_true rfl)) (cell_ok hX (Nat.le_of_ble_eq_true rfl) (Nat.le_of_ble_eq_true rfl)) (fun v2 h1 hf => ?_)
  refine s_if_ne (tgt := 9) C dX11_finder_4 (by decide) hf (fun hf => ?_) (fun hf => ?_)
  · refine s_aload_n C dX11_finder_9 rfl ?_
    refine s_getR C fl_X11_10 dX11_finder_10 hf (fun v3 hf => ?_)
    refine s_callV (rvf := fun x => some (.int x)) (st := []) (fr := 0) (lo := 0) (mc := 0) (ms := 0) C [3] wc_X3_isFull wml_X11_64 wim_X3_isFull wsl_3_X3_isFull dX11_finder_13 (As := []) rfl hf (fun x h' hF => c_X3_isFull _ _ _ _ (x, h') hF) rfl (Nat.le_of_ble_eq_true rfl) (room_ok hX (Nat.le_of_ble_eq_true rfl) (Nat.le_of_ble_eq_true rfl)) (cell_ok hX (Nat.le_of_ble_eq_true rfl) (Nat.le_of_ble_eq_true rfl)) (fun v5 h4 hf => ?_)
    refine s_if_eq (tgt := 22) C dX11_finder_16 (by decide) hf (fun hf => ?_) (fun hf => ?_)
    · refine s_aload_n C dX11_finder_22 rfl ?_
      refine s_getR C fl_X11_10 dX11_finder_23 hf (fun v6 hf => ?_)
      refine s_new C (t := 2) (n := 5) (by decide) (by decide) rfl wcl_X11_85 wins_X2 wini_X2 dX11_finder_26 hf (cell1 hX (Nat.le_of_ble_eq_true rfl)) (cell2 hX (Nat.le_of_ble_eq_true rfl)) (fun v7 h8 hf => ?_)
      refine s_dup C dX11_finder_29 c1_r ?_
      refine s_aload_n C dX11_finder_30 rfl ?_
      refine s_getR C fl_X11_10 dX11_finder_31 hf (fun v9 hf => ?_)
      refine s_getI C fl_X11_70 dX11_finder_34 hf (fun v10 hf => ?_)
      refine s_iload_n C dX11_finder_37 rfl ?_
      refine s_aload_n C dX11_finder_38 rfl ?_
      refine s_getR C fl_X11_10 dX11_finder_39 hf (fun v11 hf => ?_)
      refine s_getI C fl_X11_52 dX11_finder_42 hf (fun v12 hf => ?_)
      refine s_callI (st := [rB (xD X).1 v7, rB (xD X).1 v6]) (fr := 2) (lo := 42) (mc := 0) (ms := 0) C wc_X2_init wml_X11_87 wim_X2_init rfl dX11_finder_45 (As := [.inl v10, .inl a1, .inl v12]) rfl (a0 := 2) hf (fun h' hF => c_X2_init _ _ _ _ _ _ _ ((), h') hF) rfl (Nat.le_of_ble_eq_true rfl) (room_ok hX (Nat.le_of_ble_eq_true rfl) (Nat.le_of_ble_eq_true rfl)) (cell_ok hX (Nat.le_of_ble_eq_true rfl) (Nat.le_of_ble_eq_true rfl)) (fun h13 hf => ?_)
      refine s_callV (rvf := fun x => some (.int x)) (st := []) (fr := 0) (lo := 0) (mc := 0) (ms := 0) C [3] wc_X3_enter wml_X11_81 wim_X3_enter wsl_3_X3_enter dX11_finder_48 (As := [.inr (.inr v7)]) rfl hf (fun x h' hF => c_X3_enter _ _ _ _ _ (x, h') hF) rfl (Nat.le_of_ble_eq_true rfl) (room_ok hX (Nat.le_of_ble_eq_true rfl) (Nat.le_of_ble_eq_true rfl)) (cell_ok hX (Nat.le_of_ble_eq_true rfl) (Nat.le_of_ble_eq_true rfl)) (fun v15 h14 hf => ?_)
      exact s_ireturn C E dX11_finder_51 hf (Nat.le_of_ble_eq_true rfl) (Nat.le_of_ble_eq_true rfl)
    · refine s_bipush C dX11_finder_19 (v := (-3 : Int32)) (by decide) ?_
      exact s_ireturn C E dX11_finder_21 hf (Nat.le_of_ble_eq_true rfl) (Nat.le_of_ble_eq_true rfl)
  · refine s_iconst C dX11_finder_7 (v := (-1 : Int32)) (by decide) ?_
    exact s_ireturn C E dX11_finder_8 hf (Nat.le_of_ble_eq_true rfl) (Nat.le_of_ble_eq_true rfl)
/-- HillBoxes.asToldToTheAsker(I)I -/
noncomputable def f_X11_asToldToTheAsker (a0 : Int32) (h : AH) : Option (Int32 × AH) :=
  jn (fun (x1 : Int32) =>
    some (x1, h)) fun j10 =>
  if a0 = (4 : Int32) then
    j10 (3 : Int32)
  else
    j10 a0
set_option maxRecDepth 100000 in
set_option maxHeartbeats 4000000 in
theorem c_X11_asToldToTheAsker (l : Launch) (D : DT) (a0 : Int32) (h : AH) (r : Int32 × AH) (hf : f_X11_asToldToTheAsker a0 h = some r) : CM l D yX11_asToldToTheAsker cX11_asToldToTheAsker 1 (some .int) 0 0 0 0 [.inl a0] h (some (.int r.1)) r.2 := by
  refine CM.of (by decide) (Nat.le_of_ble_eq_true rfl) (fun X hl C hD hX hnm E => ?_)
  subst hl
  subst hD
  have C : CX X RX11 cX11_asToldToTheAsker 1 := C
  show WW X h 0 0 0 [some (.int a0)] []
  unfold f_X11_asToldToTheAsker at hf
  refine s_iload_n C dX11_asToldToTheAsker_0 rfl ?_
  refine s_iconst C dX11_asToldToTheAsker_1 (v := (4 : Int32)) (by decide) ?_
  refine s_jn hf (fun j10 e10 hf => ?_)
  have k10 : ∀ (x1 : Int32), j10 x1 = some r → WW X h 0 0 10 [none] [.int x1] := by
    intro x1 hf
    rw [e10] at hf
    exact s_ireturn C E dX11_asToldToTheAsker_10 hf (Nat.le_of_ble_eq_true rfl) (Nat.le_of_ble_eq_true rfl)
  refine s_icmp_ne (tgt := 9) C dX11_asToldToTheAsker_2 (by decide) hf (fun hf => ?_) (fun hf => ?_)
  · refine s_iload_n C dX11_asToldToTheAsker_9 rfl ?_
    refine s_weak (lv' := [none]) trivial ?_
    exact k10 _ hf
  · refine s_iconst C dX11_asToldToTheAsker_5 (v := (3 : Int32)) (by decide) ?_
    refine s_goto (tgt := 10) C dX11_asToldToTheAsker_6 (by decide) ?_
    refine s_weak (lv' := [none]) trivial ?_
    exact k10 _ hf
/-- HillBoxes.isKindOfBox(I)Z -/
noncomputable def f_X11_isKindOfBox (a0 : Int32) (h : AH) : Option (Int32 × AH) :=
  jn (fun (x1 : Int32) =>
    rz x1 h) fun j15 =>
  jn (
    j15 (0 : Int32)) fun j14 =>
  if a0 < (1 : Int32) then
    j14
  else
    if (5 : Int32) < a0 then
      j14
    else
      j15 (1 : Int32)
set_option maxRecDepth 100000 in
set_option maxHeartbeats 4000000 in
theorem c_X11_isKindOfBox (l : Launch) (D : DT) (a0 : Int32) (h : AH) (r : Int32 × AH) (hf : f_X11_isKindOfBox a0 h = some r) : CM l D yX11_isKindOfBox cX11_isKindOfBox 1 (some .boolean) 0 0 0 0 [.inl a0] h (some (.int r.1)) r.2 := by
  refine CM.of (by decide) (Nat.le_of_ble_eq_true rfl) (fun X hl C hD hX hnm E => ?_)
  subst hl
  subst hD
  have C : CX X RX11 cX11_isKindOfBox 1 := C
  show WW X h 0 0 0 [some (.int a0)] []
  unfold f_X11_isKindOfBox at hf
  refine s_iload_n C dX11_isKindOfBox_0 rfl ?_
  refine s_iconst C dX11_isKindOfBox_1 (v := (1 : Int32)) (by decide) ?_
  refine s_jn hf (fun j15 e15 hf => ?_)
  have k15 : ∀ (x1 : Int32), j15 x1 = some r → WW X h 0 0 15 [none] [.int x1] := by
    intro x1 hf
    rw [e15] at hf
    exact s_zreturn C E dX11_isKindOfBox_15 hf (Nat.le_of_ble_eq_true rfl) (Nat.le_of_ble_eq_true rfl)
  refine s_jn hf (fun j14 e14 hf => ?_)
  have k14 : j14  = some r → WW X h 0 0 14 [none] [] := by
    intro  hf
    rw [e14] at hf
    refine s_iconst C dX11_isKindOfBox_14 (v := (0 : Int32)) (by decide) ?_
    exact k15 _ hf
  refine s_icmp_lt (tgt := 14) C dX11_isKindOfBox_2 (by decide) hf (fun hf => ?_) (fun hf => ?_)
  · refine s_weak (lv' := [none]) trivial ?_
    exact k14 hf
  · refine s_iload_n C dX11_isKindOfBox_5 rfl ?_
    refine s_iconst C dX11_isKindOfBox_6 (v := (5 : Int32)) (by decide) ?_
    refine s_icmp_gt (tgt := 14) C dX11_isKindOfBox_7 (by decide) hf (fun hf => ?_) (fun hf => ?_)
    · refine s_weak (lv' := [none]) trivial ?_
      exact k14 hf
    · refine s_iconst C dX11_isKindOfBox_10 (v := (1 : Int32)) (by decide) ?_
      refine s_goto (tgt := 15) C dX11_isKindOfBox_11 (by decide) ?_
      refine s_weak (lv' := [none]) trivial ?_
      exact k15 _ hf
/-- HillBoxes.mayBeAsked(II)Z -/
noncomputable def f_X11_mayBeAsked (o : Option Nat) (a1 : Int32) (a2 : Int32) (h : AH) : Option (Int32 × AH) :=
  cl (f_X11_isKindOfBox a1 h) fun v2 h1 =>
  jn (fun (x3 : Int32) (h4 : AH) =>
    rz x3 h4) fun j34 =>
  jn (fun (h5 : AH) =>
    j34 (0 : Int32) h5) fun j33 =>
  if v2 = 0 then
    j33 h1
  else
    cl (f_X11_isCell a2 h1) fun v7 h6 =>
    if v7 = 0 then
      j33 h6
    else
      jn (
        j34 (1 : Int32) h6) fun j29 =>
      if a1 = (3 : Int32) then
        fR h6 [11] o 0 fun v8 =>
        fI h6 [3] v8 5 fun v9 =>
        if v9 ≤ 0 then
          j33 h6
        else
          j29
      else
        j29
set_option maxRecDepth 100000 in
set_option maxHeartbeats 4000000 in
theorem c_X11_mayBeAsked (l : Launch) (D : DT) (o : Option Nat) (a1 : Int32) (a2 : Int32) (h : AH) (r : Int32 × AH) (hf : f_X11_mayBeAsked o a1 a2 h = some r) : CM l D yX11_mayBeAsked cX11_mayBeAsked 3 (some .boolean) 1 20 0 0 [.inr (.inr o), .inl a1, .inl a2] h (some (.int r.1)) r.2 := by
  refine CM.of (by decide) (Nat.le_of_ble_eq_true rfl) (fun X hl C hD hX hnm E => ?_)
  subst hl
  subst hD
  have C : CX X RX11 cX11_mayBeAsked 3 := C
  show WW X h 0 0 0 [some (rB (xD X).1 o), some (.int a1), some (.int a2)] []
  unfold f_X11_mayBeAsked at hf
  refine s_iload_n C dX11_mayBeAsked_0 rfl ?_
  refine s_callS (rvf := fun x => some (.int x)) (st := []) (fr := 0) (lo := 0) (mc := 0) (ms := 0) C wc_X11_isKindOfBox wml_X11_493 wst_X11_isKindOfBox dX11_mayBeAsked_1 (As := [.inl a1]) rfl hf (fun x h' hF => c_X11_isKindOfBox _ _ _ _ (x, h') hF) rfl (Nat.le_of_ble_eq_true rfl) (room_ok hX (Nat.le_of_ble_eq_true rfl) (Nat.le_of_ble_eq_true rfl)) (cell_ok hX (Nat.le_of_ble_eq_true rfl) (Nat.le_of_ble_eq_true rfl)) (fun v2 h1 hf => ?_)
  refine s_jn hf (fun j34 e34 hf => ?_)
  have k34 : ∀ (x3 : Int32) (h4 : AH), j34 x3 h4 = some r → WW X h4 0 0 34 [none, none, none] [.int x3] := by
    intro x3 h4 hf
    rw [e34] at hf
    exact s_zreturn C E dX11_mayBeAsked_34 hf (Nat.le_of_ble_eq_true rfl) (Nat.le_of_ble_eq_true rfl)
  refine s_jn hf (fun j33 e33 hf => ?_)
  have k33 : ∀ (h5 : AH), j33 h5 = some r → WW X h5 0 0 33 [none, none, none] [] := by
    intro h5 hf
    rw [e33] at hf
    refine s_iconst C dX11_mayBeAsked_33 (v := (0 : Int32)) (by decide) ?_
    exact k34 _ _ hf
  refine s_if_eq (tgt := 33) C dX11_mayBeAsked_4 (by decide) hf (fun hf => ?_) (fun hf => ?_)
  · refine s_weak (lv' := [none, none, none]) trivial ?_
    exact k33 _ hf
  · refine s_iload_n C dX11_mayBeAsked_7 rfl ?_
    refine s_callS (rvf := fun x => some (.int x)) (st := []) (fr := 0) (lo := 0) (mc := 0) (ms := 0) C wc_X11_isCell wml_X11_56 wst_X11_isCell dX11_mayBeAsked_8 (As := [.inl a2]) rfl hf (fun x h' hF => c_X11_isCell _ _ _ _ (x, h') hF) rfl (Nat.le_of_ble_eq_true rfl) (room_ok hX (Nat.le_of_ble_eq_true rfl) (Nat.le_of_ble_eq_true rfl)) (cell_ok hX (Nat.le_of_ble_eq_true rfl) (Nat.le_of_ble_eq_true rfl)) (fun v7 h6 hf => ?_)
    refine s_if_eq (tgt := 33) C dX11_mayBeAsked_11 (by decide) hf (fun hf => ?_) (fun hf => ?_)
    · refine s_weak (lv' := [none, none, none]) trivial ?_
      exact k33 _ hf
    · refine s_iload_n C dX11_mayBeAsked_14 rfl ?_
      refine s_iconst C dX11_mayBeAsked_15 (v := (3 : Int32)) (by decide) ?_
      refine s_jn hf (fun j29 e29 hf => ?_)
      have k29 : j29  = some r → WW X h6 0 0 29 [none, none, none] [] := by
        intro  hf
        rw [e29] at hf
        refine s_iconst C dX11_mayBeAsked_29 (v := (1 : Int32)) (by decide) ?_
        refine s_goto (tgt := 34) C dX11_mayBeAsked_30 (by decide) ?_
        exact k34 _ _ hf
      refine s_icmp_ne (tgt := 29) C dX11_mayBeAsked_16 (by decide) hf (fun hf => ?_) (fun hf => ?_)
      · refine s_weak (lv' := [none, none, none]) trivial ?_
        exact k29 hf
      · refine s_aload_n C dX11_mayBeAsked_19 rfl ?_
        refine s_getR C fl_X11_10 dX11_mayBeAsked_20 hf (fun v8 hf => ?_)
        refine s_getI C fl_X11_100 dX11_mayBeAsked_23 hf (fun v9 hf => ?_)
        refine s_if_le (tgt := 33) C dX11_mayBeAsked_26 (by decide) hf (fun hf => ?_) (fun hf => ?_)
        · refine s_weak (lv' := [none, none, none]) trivial ?_
          exact k33 _ hf
        · refine s_weak (lv' := [none, none, none]) trivial ?_
          exact k29 hf
/-- HillBoxes$Riddle.<init>()V -/
noncomputable def f_X5_init (o : Option Nat) (h : AH) : Option (Unit × AH) :=
  rO h [5] o <|
  nO h 20 8 fun v1 h2 =>
  pR h2 [5] o 3 v1 fun h3 =>
  nO h3 20 8 fun v4 h5 =>
  pR h5 [5] o 4 v4 fun h6 =>
  nO h6 20 8 fun v7 h8 =>
  pR h8 [5] o 5 v7 fun h9 =>
  nO h9 20 8 fun v10 h11 =>
  pR h11 [5] o 6 v10 fun h12 =>
  nO h12 20 8 fun v13 h14 =>
  pR h14 [5] o 7 v13 fun h15 =>
  pI h15 [5] o 10 (-1 : Int32) fun h16 =>
  pI h16 [5] o 11 (-1 : Int32) fun h17 =>
  nO h17 20 6 fun v18 h19 =>
  pR h19 [5] o 12 v18 fun h20 =>
  some ((), h20)
set_option maxRecDepth 100000 in
set_option maxHeartbeats 4000000 in
theorem c_X5_init (l : Launch) (D : DT) (o : Option Nat) (h : AH) (r : Unit × AH) (hf : f_X5_init o h = some r) : CM l D yX5_init cX5_init 1 none 1 20 6 46 [.inr (.inr o)] h none r.2 := by
  refine CM.of (by decide) (Nat.le_of_ble_eq_true rfl) (fun X hl C hD hX hnm E => ?_)
  subst hl
  subst hD
  have C : CX X RX5 cX5_init 1 := C
  show WW X h 0 0 0 [some (rB (xD X).1 o)] []
  unfold f_X5_init at hf
  refine s_aload_n C dX5_init_0 rfl ?_
  refine s_objInit C wml_X5_3 wim_obj wcd_obj dX5_init_1 (cs := [5]) hf (Nat.le_of_ble_eq_true rfl) (room_n hX (Nat.le_of_ble_eq_true rfl) (Nat.le_of_ble_eq_true rfl)) (fun hf => ?_)
  refine s_aload_n C dX5_init_4 rfl ?_
  refine s_bipush C dX5_init_5 (v := (8 : Int32)) (by decide) ?_
  refine s_newarray C (t := 20) (N := 8) rfl (by decide) wac_20 dX5_init_7 (by decide) (by decide) (Nat.le_of_ble_eq_true rfl) hf (cell1 hX (Nat.le_of_ble_eq_true rfl)) (cell2 hX (Nat.le_of_ble_eq_true rfl)) (fun v1 h2 hf => ?_)
  refine s_putFR C fl_X5_11 (by decide +kernel) hnm dX5_init_9 hf (fun h3 hf => ?_)
  refine s_aload_n C dX5_init_12 rfl ?_
  refine s_bipush C dX5_init_13 (v := (8 : Int32)) (by decide) ?_
  refine s_newarray C (t := 20) (N := 8) rfl (by decide) wac_20 dX5_init_15 (by decide) (by decide) (Nat.le_of_ble_eq_true rfl) hf (cell1 hX (Nat.le_of_ble_eq_true rfl)) (cell2 hX (Nat.le_of_ble_eq_true rfl)) (fun v4 h5 hf => ?_)
  refine s_putFR C fl_X5_15 (by decide +kernel) hnm dX5_init_17 hf (fun h6 hf => ?_)
  refine s_aload_n C dX5_init_20 rfl ?_
  refine s_bipush C dX5_init_21 (v := (8 : Int32)) (by decide) ?_
  refine s_newarray C (t := 20) (N := 8) rfl (by decide) wac_20 dX5_init_23 (by decide) (by decide) (Nat.le_of_ble_eq_true rfl) hf (cell1 hX (Nat.le_of_ble_eq_true rfl)) (cell2 hX (Nat.le_of_ble_eq_true rfl)) (fun v7 h8 hf => ?_)
  refine s_putFR C fl_X5_18 (by decide +kernel) hnm dX5_init_25 hf (fun h9 hf => ?_)
  refine s_aload_n C dX5_init_28 rfl ?_
  refine s_bipush C dX5_init_29 (v := (8 : Int32)) (by decide) ?_
  refine s_newarray C (t := 20) (N := 8) rfl (by decide) wac_20 dX5_init_31 (by decide) (by decide) (Nat.le_of_ble_eq_true rfl) hf (cell1 hX (Nat.le_of_ble_eq_true rfl)) (cell2 hX (Nat.le_of_ble_eq_true rfl)) (fun v10 h11 hf => ?_)
  refine s_putFR C fl_X5_21 (by decide +kernel) hnm dX5_init_33 hf (fun h12 hf => ?_)
  refine s_aload_n C dX5_init_36 rfl ?_
  refine s_bipush C dX5_init_37 (v := (8 : Int32)) (by decide) ?_
  refine s_newarray C (t := 20) (N := 8) rfl (by decide) wac_20 dX5_init_39 (by decide) (by decide) (Nat.le_of_ble_eq_true rfl) hf (cell1 hX (Nat.le_of_ble_eq_true rfl)) (cell2 hX (Nat.le_of_ble_eq_true rfl)) (fun v13 h14 hf => ?_)
  refine s_putFR C fl_X5_24 (by decide +kernel) hnm dX5_init_41 hf (fun h15 hf => ?_)
  refine s_aload_n C dX5_init_44 rfl ?_
  refine s_iconst C dX5_init_45 (v := (-1 : Int32)) (by decide) ?_
  refine s_putI C fl_X5_27 (by decide) dX5_init_46 hf (fun h16 hf => ?_)
  refine s_aload_n C dX5_init_49 rfl ?_
  refine s_iconst C dX5_init_50 (v := (-1 : Int32)) (by decide) ?_
  refine s_putI C fl_X5_31 (by decide) dX5_init_51 hf (fun h17 hf => ?_)
  refine s_aload_n C dX5_init_54 rfl ?_
  refine s_bipush C dX5_init_55 (v := (6 : Int32)) (by decide) ?_
  refine s_newarray C (t := 20) (N := 6) rfl (by decide) wac_20 dX5_init_57 (by decide) (by decide) (Nat.le_of_ble_eq_true rfl) hf (cell1 hX (Nat.le_of_ble_eq_true rfl)) (cell2 hX (Nat.le_of_ble_eq_true rfl)) (fun v18 h19 hf => ?_)
  refine s_putFR C fl_X5_34 (by decide +kernel) hnm dX5_init_59 hf (fun h20 hf => ?_)
  exact s_return C E dX5_init_62 hf (Nat.le_of_ble_eq_true rfl) (Nat.le_of_ble_eq_true rfl)
/-- HillBoxes$Box.<init>(IIIII)V -/
noncomputable def f_X1_init (o : Option Nat) (a1 : Int32) (a2 : Int32) (a3 : Int32) (a4 : Int32) (a5 : Int32) (h : AH) : Option (Unit × AH) :=
  rO h [1] o <| cl (f_X0_init o a1 a2 h) fun _ h1 =>
  nO h1 20 4 fun v2 h3 =>
  pR h3 [1] o 4 v2 fun h4 =>
  nO h4 20 40 fun v5 h6 =>
  pR h6 [1] o 5 v5 fun h7 =>
  nO h7 20 8 fun v8 h9 =>
  pR h9 [1] o 6 v8 fun h10 =>
  pI h10 [1] o 11 (-1 : Int32) fun h11 =>
  pI h11 [1] o 14 (-1 : Int32) fun h12 =>
  pI h12 [1] o 18 (-1 : Int32) fun h13 =>
  pI h13 [1] o 8 a3 fun h14 =>
  pI h14 [1] o 9 a4 fun h15 =>
  pI h15 [1] o 3 a4 fun h16 =>
  pI h16 [1] o 2 a5 fun h17 =>
  jn (fun (x18 : Option Nat) (h19 : AH) =>
    pR h19 [1] o 7 x18 fun h20 =>
    some ((), h20)) fun j89 =>
  jn (
    nO h17 5 15 fun v21 h22 =>
    rO h22 [5] v21 <| cl (f_X5_init v21 h22) fun _ h23 =>
    j89 v21 h23) fun j78 =>
  if a2 = (2 : Int32) then
    j78
  else
    if a2 = (5 : Int32) then
      j78
    else
      j89 none h17
set_option maxRecDepth 100000 in
set_option maxHeartbeats 4000000 in
theorem c_X1_init (l : Launch) (D : DT) (o : Option Nat) (a1 : Int32) (a2 : Int32) (a3 : Int32) (a4 : Int32) (a5 : Int32) (h : AH) (r : Unit × AH) (hf : f_X1_init o a1 a2 a3 a4 a5 h = some r) : CM l D yX1_init cX1_init 6 none 2 42 10 113 [.inr (.inr o), .inl a1, .inl a2, .inl a3, .inl a4, .inl a5] h none r.2 := by
  refine CM.of (by decide) (Nat.le_of_ble_eq_true rfl) (fun X hl C hD hX hnm E => ?_)
  subst hl
  subst hD
  have C : CX X RX1 cX1_init 6 := C
  show WW X h 0 0 0 [some (rB (xD X).1 o), some (.int a1), some (.int a2), some (.int a3), some (.int a4), some (.int a5)] []
  unfold f_X1_init at hf
  refine s_aload_n C dX1_init_0 rfl ?_
  refine s_iload_n C dX1_init_1 rfl ?_
  refine s_iload_n C dX1_init_2 rfl ?_
  refine s_callI (st := []) (fr := 1) (lo := 20) (mc := 0) (ms := 0) C wc_X0_init wml_X1_3 wim_X0_init rfl dX1_init_3 (As := [.inl a1, .inl a2]) rfl (a0 := 1) hf (fun h' hF => c_X0_init _ _ _ _ _ _ ((), h') hF) rfl (Nat.le_of_ble_eq_true rfl) (room_ok hX (Nat.le_of_ble_eq_true rfl) (Nat.le_of_ble_eq_true rfl)) (cell_ok hX (Nat.le_of_ble_eq_true rfl) (Nat.le_of_ble_eq_true rfl)) (fun h1 hf => ?_)
  refine s_aload_n C dX1_init_6 rfl ?_
  refine s_iconst C dX1_init_7 (v := (4 : Int32)) (by decide) ?_
  refine s_newarray C (t := 20) (N := 4) rfl (by decide) wac_20 dX1_init_8 (by decide) (by decide) (Nat.le_of_ble_eq_true rfl) hf (cell1 hX (Nat.le_of_ble_eq_true rfl)) (cell2 hX (Nat.le_of_ble_eq_true rfl)) (fun v2 h3 hf => ?_)
  refine s_putFR C fl_X1_9 (by decide +kernel) hnm dX1_init_10 hf (fun h4 hf => ?_)
  refine s_aload_n C dX1_init_13 rfl ?_
  refine s_bipush C dX1_init_14 (v := (40 : Int32)) (by decide) ?_
  refine s_newarray C (t := 20) (N := 40) rfl (by decide) wac_20 dX1_init_16 (by decide) (by decide) (Nat.le_of_ble_eq_true rfl) hf (cell1 hX (Nat.le_of_ble_eq_true rfl)) (cell2 hX (Nat.le_of_ble_eq_true rfl)) (fun v5 h6 hf => ?_)
  refine s_putFR C fl_X1_15 (by decide +kernel) hnm dX1_init_18 hf (fun h7 hf => ?_)
  refine s_aload_n C dX1_init_21 rfl ?_
  refine s_bipush C dX1_init_22 (v := (8 : Int32)) (by decide) ?_
  refine s_newarray C (t := 20) (N := 8) rfl (by decide) wac_20 dX1_init_24 (by decide) (by decide) (Nat.le_of_ble_eq_true rfl) hf (cell1 hX (Nat.le_of_ble_eq_true rfl)) (cell2 hX (Nat.le_of_ble_eq_true rfl)) (fun v8 h9 hf => ?_)
  refine s_putFR C fl_X1_18 (by decide +kernel) hnm dX1_init_26 hf (fun h10 hf => ?_)
  refine s_aload_n C dX1_init_29 rfl ?_
  refine s_iconst C dX1_init_30 (v := (-1 : Int32)) (by decide) ?_
  refine s_putI C fl_X1_21 (by decide) dX1_init_31 hf (fun h11 hf => ?_)
  refine s_aload_n C dX1_init_34 rfl ?_
  refine s_iconst C dX1_init_35 (v := (-1 : Int32)) (by decide) ?_
  refine s_putI C fl_X1_25 (by decide) dX1_init_36 hf (fun h12 hf => ?_)
  refine s_aload_n C dX1_init_39 rfl ?_
  refine s_iconst C dX1_init_40 (v := (-1 : Int32)) (by decide) ?_
  refine s_putI C fl_X1_28 (by decide) dX1_init_41 hf (fun h13 hf => ?_)
  refine s_aload_n C dX1_init_44 rfl ?_
  refine s_iload_n C dX1_init_45 rfl ?_
  refine s_putI C fl_X1_31 (by decide) dX1_init_46 hf (fun h14 hf => ?_)
  refine s_aload_n C dX1_init_49 rfl ?_
  refine s_iload C dX1_init_50 rfl ?_
  refine s_putI C fl_X1_34 (by decide) dX1_init_52 hf (fun h15 hf => ?_)
  refine s_aload_n C dX1_init_55 rfl ?_
  refine s_iload C dX1_init_56 rfl ?_
  refine s_putFI C fl_X1_37 (by decide) (by decide +kernel) hnm dX1_init_58 hf (fun h16 hf => ?_)
  refine s_aload_n C dX1_init_61 rfl ?_
  refine s_iload C dX1_init_62 rfl ?_
  refine s_putFI C fl_X1_40 (by decide) (by decide +kernel) hnm dX1_init_64 hf (fun h17 hf => ?_)
  refine s_aload_n C dX1_init_67 rfl ?_
  refine s_iload_n C dX1_init_68 rfl ?_
  refine s_iconst C dX1_init_69 (v := (2 : Int32)) (by decide) ?_
  refine s_jn hf (fun j89 e89 hf => ?_)
  have k89 : ∀ (x18 : Option Nat) (h19 : AH), j89 x18 h19 = some r → WW X h19 10 113 89 [none, none, none, none, none, none] [rB (xD X).1 x18, rB (xD X).1 o] := by
    intro x18 h19 hf
    rw [e89] at hf
    refine s_putFR C fl_X1_48 (by decide +kernel) hnm dX1_init_89 hf (fun h20 hf => ?_)
    exact s_return C E dX1_init_92 hf (Nat.le_of_ble_eq_true rfl) (Nat.le_of_ble_eq_true rfl)
  refine s_jn hf (fun j78 e78 hf => ?_)
  have k78 : j78  = some r → WW X h17 3 52 78 [none, none, none, none, none, none] [rB (xD X).1 o] := by
    intro  hf
    rw [e78] at hf
    refine s_new C (t := 5) (n := 15) (by decide) (by decide) rfl wcl_X1_43 wins_X5 wini_X5 dX1_init_78 hf (cell1 hX (Nat.le_of_ble_eq_true rfl)) (cell2 hX (Nat.le_of_ble_eq_true rfl)) (fun v21 h22 hf => ?_)
    refine s_dup C dX1_init_81 c1_r ?_
    refine s_callIN (st := [rB (xD X).1 v21, rB (xD X).1 o]) (fr := 1) (lo := 20) (mc := 6) (ms := 46) C wc_X5_init wmn_X1_45 wim_X5_init rfl dX1_init_82 (As := []) rfl (a0 := 5) hf (fun h' hF => c_X5_init _ _ _ _ ((), h') hF) rfl (Nat.le_of_ble_eq_true rfl) (room_ok hX (Nat.le_of_ble_eq_true rfl) (Nat.le_of_ble_eq_true rfl)) (cell_ok hX (Nat.le_of_ble_eq_true rfl) (Nat.le_of_ble_eq_true rfl)) (fun h23 hf => ?_)
    refine s_goto (tgt := 89) C dX1_init_85 (by decide) ?_
    exact k89 _ _ hf
  refine s_icmp_eq (tgt := 78) C dX1_init_70 (by decide) hf (fun hf => ?_) (fun hf => ?_)
  · refine s_weak (lv' := [none, none, none, none, none, none]) trivial ?_
    exact k78 hf
  · refine s_iload_n C dX1_init_73 rfl ?_
    refine s_iconst C dX1_init_74 (v := (5 : Int32)) (by decide) ?_
    refine s_icmp_ne (tgt := 88) C dX1_init_75 (by decide) hf (fun hf => ?_) (fun hf => ?_)
    · refine s_null C dX1_init_88 ?_
      refine s_widen (c := 10) (s := 113) (Nat.le_of_ble_eq_true rfl) (Nat.le_of_ble_eq_true rfl) ?_
      refine s_weak (lv' := [none, none, none, none, none, none]) trivial ?_
      exact k89 _ _ hf
    · refine s_weak (lv' := [none, none, none, none, none, none]) trivial ?_
      exact k78 hf
/-- HillBoxes$Box.takeSteps([II)V -/
noncomputable def f_X1_takeSteps (o : Option Nat) (a1 : Option Nat) (a2 : Int32) (h : AH) : Option (Unit × AH) :=
  lp (fun _ _ => none) (fun (L2 : Int32 → AH → Option (Unit × AH)) (x1 : Int32) (h2 : AH) =>
    jn (
      some ((), h2)) fun j40 =>
    if a2 ≤ x1 then
      j40
    else
      if (4 : Int32) ≤ x1 then
        j40
      else
        aN h2 20 a1 fun v3 =>
        if v3 ≤ x1 then
          j40
        else
          fR h2 [1] o 4 fun v4 =>
          aI h2 20 a1 x1 fun v5 =>
          bI h2 20 v4 x1 v5 fun h6 =>
          pI h6 [1] o 10 (x1 + (1 : Int32)) fun h7 =>
          L2 (x1 + 1) h7) lpN (0 : Int32) h
set_option maxRecDepth 100000 in
set_option maxHeartbeats 4000000 in
theorem c_X1_takeSteps (l : Launch) (D : DT) (o : Option Nat) (a1 : Option Nat) (a2 : Int32) (h : AH) (r : Unit × AH) (hf : f_X1_takeSteps o a1 a2 h = some r) : CM l D yX1_takeSteps cX1_takeSteps 4 none 0 0 0 0 [.inr (.inr o), .inr (.inr a1), .inl a2] h none r.2 := by
  refine CM.of (by decide) (Nat.le_of_ble_eq_true rfl) (fun X hl C hD hX hnm E => ?_)
  subst hl
  subst hD
  have C : CX X RX1 cX1_takeSteps 4 := C
  show WW X h 0 0 0 [some (rB (xD X).1 o), some (rB (xD X).1 a1), some (.int a2), none] []
  unfold f_X1_takeSteps at hf
  refine s_iconst C dX1_takeSteps_0 (v := (0 : Int32)) (by decide) ?_
  refine s_istore_n C dX1_takeSteps_1 (by decide) (nc_i rfl) (lv' := [some (rB (xD X).1 o), some (rB (xD X).1 a1), some (.int a2), some (.int (0 : Int32))]) rfl ?_
  refine s_lp2 hf (fun G2 z2 q2 hf => ?_)
  have k2 : ∀ (n : Nat) (x1 : Int32) (h2 : AH), G2 n x1 h2 = some r → WW X h2 0 0 2 [some (rB (xD X).1 o), some (rB (xD X).1 a1), some (.int a2), some (.int x1)] [] := by
    intro n
    induction n with
    | zero =>
      intro x1 h2 hf
      rw [z2] at hf
      cases hf
    | succ n ih2 =>
      intro x1 h2 hf
      have hf := (q2 n x1 h2).symm.trans hf
      refine s_iload_n C dX1_takeSteps_2 rfl ?_
      refine s_iload_n C dX1_takeSteps_3 rfl ?_
      refine s_jn hf (fun j40 e40 hf => ?_)
      have k40 : j40  = some r → WW X h2 0 0 40 [none, none, none, none] [] := by
        intro  hf
        rw [e40] at hf
        exact s_return C E dX1_takeSteps_40 hf (Nat.le_of_ble_eq_true rfl) (Nat.le_of_ble_eq_true rfl)
      refine s_icmp_ge (tgt := 40) C dX1_takeSteps_4 (by decide) hf (fun hf => ?_) (fun hf => ?_)
      · refine s_weak (lv' := [none, none, none, none]) trivial ?_
        exact k40 hf
      · refine s_iload_n C dX1_takeSteps_7 rfl ?_
        refine s_iconst C dX1_takeSteps_8 (v := (4 : Int32)) (by decide) ?_
        refine s_icmp_ge (tgt := 40) C dX1_takeSteps_9 (by decide) hf (fun hf => ?_) (fun hf => ?_)
        · refine s_weak (lv' := [none, none, none, none]) trivial ?_
          exact k40 hf
        · refine s_iload_n C dX1_takeSteps_12 rfl ?_
          refine s_aload_n C dX1_takeSteps_13 rfl ?_
          refine s_alen C dX1_takeSteps_14 (t := 20) (by decide) hf (fun v3 hf => ?_)
          refine s_icmp_ge (tgt := 40) C dX1_takeSteps_15 (by decide) hf (fun hf => ?_) (fun hf => ?_)
          · refine s_weak (lv' := [none, none, none, none]) trivial ?_
            exact k40 hf
          · refine s_aload_n C dX1_takeSteps_18 rfl ?_
            refine s_getR C fl_X1_9 dX1_takeSteps_19 hf (fun v4 hf => ?_)
            refine s_iload_n C dX1_takeSteps_22 rfl ?_
            refine s_aload_n C dX1_takeSteps_23 rfl ?_
            refine s_iload_n C dX1_takeSteps_24 rfl ?_
            refine s_iaload C dX1_takeSteps_25 hf (fun v5 hf => ?_)
            refine s_iastore C dX1_takeSteps_26 hf (fun h6 hf => ?_)
            refine s_aload_n C dX1_takeSteps_27 rfl ?_
            refine s_iload_n C dX1_takeSteps_28 rfl ?_
            refine s_iconst C dX1_takeSteps_29 (v := (1 : Int32)) (by decide) ?_
            refine s_iadd C dX1_takeSteps_30 ?_
            refine s_putI C fl_X1_52 (by decide) dX1_takeSteps_31 hf (fun h7 hf => ?_)
            refine s_iinc C dX1_takeSteps_34 (v := (x1 + 1)) rfl rfl (by decide) (nc_i rfl) (lv' := [some (rB (xD X).1 o), some (rB (xD X).1 a1), some (.int a2), some (.int (x1 + 1))]) rfl ?_
            refine s_goto (tgt := 2) C dX1_takeSteps_37 (by decide) ?_
            exact ih2 _ _ hf
  exact k2 lpN _ _ hf
/-- HillBoxes$Rules.ruleFor(III)I -/
noncomputable def f_X6_ruleFor (o : Option Nat) (a1 : Int32) (a2 : Int32) (a3 : Int32) (h : AH) : Option (Int32 × AH) :=
  fI h [6] o 1 fun v1 =>
  lp (fun _ => none) (fun (L8 : Int32 → Option (Int32 × AH)) (x2 : Int32) =>
    if x2 < 0 then
      some ((-1 : Int32), h)
    else
      fR h [6] o 4 fun v3 =>
      aI h 20 v3 x2 fun v4 =>
      jn (
        L8 (x2 + (-1))) fun j49 =>
      if v4 = a1 then
        fR h [6] o 5 fun v5 =>
        aI h 20 v5 x2 fun v6 =>
        if a3 < v6 then
          j49
        else
          fR h [6] o 6 fun v7 =>
          aI h 20 v7 x2 fun v8 =>
          if a2 < v8 then
            j49
          else
            some (x2, h)
      else
        j49) lpN (v1 - (1 : Int32))
set_option maxRecDepth 100000 in
set_option maxHeartbeats 4000000 in
theorem c_X6_ruleFor (l : Launch) (D : DT) (o : Option Nat) (a1 : Int32) (a2 : Int32) (a3 : Int32) (h : AH) (r : Int32 × AH) (hf : f_X6_ruleFor o a1 a2 a3 h = some r) : CM l D yX6_ruleFor cX6_ruleFor 5 (some .int) 0 0 0 0 [.inr (.inr o), .inl a1, .inl a2, .inl a3] h (some (.int r.1)) r.2 := by
  refine CM.of (by decide) (Nat.le_of_ble_eq_true rfl) (fun X hl C hD hX hnm E => ?_)
  subst hl
  subst hD
  have C : CX X RX6 cX6_ruleFor 5 := C
  show WW X h 0 0 0 [some (rB (xD X).1 o), some (.int a1), some (.int a2), some (.int a3), none] []
  unfold f_X6_ruleFor at hf
  refine s_aload_n C dX6_ruleFor_0 rfl ?_
  refine s_getI C fl_X6_45 dX6_ruleFor_1 hf (fun v1 hf => ?_)
  refine s_iconst C dX6_ruleFor_4 (v := (1 : Int32)) (by decide) ?_
  refine s_isub C dX6_ruleFor_5 ?_
  refine s_istore C dX6_ruleFor_6 (by decide) (nc_i rfl) (lv' := [some (rB (xD X).1 o), some (.int a1), some (.int a2), some (.int a3), some (.int (v1 - (1 : Int32)))]) rfl ?_
  refine s_lp1 hf (fun G8 z8 q8 hf => ?_)
  have k8 : ∀ (n : Nat) (x2 : Int32), G8 n x2 = some r → WW X h 0 0 8 [some (rB (xD X).1 o), some (.int a1), some (.int a2), some (.int a3), some (.int x2)] [] := by
    intro n
    induction n with
    | zero =>
      intro x2 hf
      rw [z8] at hf
      cases hf
    | succ n ih8 =>
      intro x2 hf
      have hf := (q8 n x2).symm.trans hf
      refine s_iload C dX6_ruleFor_8 rfl ?_
      refine s_if_lt (tgt := 55) C dX6_ruleFor_10 (by decide) hf (fun hf => ?_) (fun hf => ?_)
      · refine s_iconst C dX6_ruleFor_55 (v := (-1 : Int32)) (by decide) ?_
        exact s_ireturn C E dX6_ruleFor_56 hf (Nat.le_of_ble_eq_true rfl) (Nat.le_of_ble_eq_true rfl)
      · refine s_aload_n C dX6_ruleFor_13 rfl ?_
        refine s_getR C fl_X6_22 dX6_ruleFor_14 hf (fun v3 hf => ?_)
        refine s_iload C dX6_ruleFor_17 rfl ?_
        refine s_iaload C dX6_ruleFor_19 hf (fun v4 hf => ?_)
        refine s_iload_n C dX6_ruleFor_20 rfl ?_
        refine s_jn hf (fun j49 e49 hf => ?_)
        have k49 : j49  = some r → WW X h 0 0 49 [some (rB (xD X).1 o), some (.int a1), some (.int a2), some (.int a3), some (.int x2)] [] := by
          intro  hf
          rw [e49] at hf
          refine s_iinc C dX6_ruleFor_49 (v := (x2 + (-1))) rfl rfl (by decide) (nc_i rfl) (lv' := [some (rB (xD X).1 o), some (.int a1), some (.int a2), some (.int a3), some (.int (x2 + (-1)))]) rfl ?_
          refine s_goto (tgt := 8) C dX6_ruleFor_52 (by decide) ?_
          exact ih8 _ hf
        refine s_icmp_ne (tgt := 49) C dX6_ruleFor_21 (by decide) hf (fun hf => ?_) (fun hf => ?_)
        · exact k49 hf
        · refine s_aload_n C dX6_ruleFor_24 rfl ?_
          refine s_getR C fl_X6_26 dX6_ruleFor_25 hf (fun v5 hf => ?_)
          refine s_iload C dX6_ruleFor_28 rfl ?_
          refine s_iaload C dX6_ruleFor_30 hf (fun v6 hf => ?_)
          refine s_iload_n C dX6_ruleFor_31 rfl ?_
          refine s_icmp_gt (tgt := 49) C dX6_ruleFor_32 (by decide) hf (fun hf => ?_) (fun hf => ?_)
          · exact k49 hf
          · refine s_aload_n C dX6_ruleFor_35 rfl ?_
            refine s_getR C fl_X6_29 dX6_ruleFor_36 hf (fun v7 hf => ?_)
            refine s_iload C dX6_ruleFor_39 rfl ?_
            refine s_iaload C dX6_ruleFor_41 hf (fun v8 hf => ?_)
            refine s_iload_n C dX6_ruleFor_42 rfl ?_
            refine s_icmp_gt (tgt := 49) C dX6_ruleFor_43 (by decide) hf (fun hf => ?_) (fun hf => ?_)
            · exact k49 hf
            · refine s_iload C dX6_ruleFor_46 rfl ?_
              exact s_ireturn C E dX6_ruleFor_48 hf (Nat.le_of_ble_eq_true rfl) (Nat.le_of_ble_eq_true rfl)
  exact k8 lpN _ hf
/-- HillBoxes.far(II)I -/
noncomputable def f_X11_far (a0 : Int32) (a1 : Int32) (h : AH) : Option (Int32 × AH) :=
  nz (10 : Int32) <|
  nz (10 : Int32) <|
  nz (10 : Int32) <|
  nz (10 : Int32) <|
  some (((if 0 ≤ ((a0 - a0 / (10 : Int32) * (10 : Int32)) - (a1 - a1 / (10 : Int32) * (10 : Int32))) then ((a0 - a0 / (10 : Int32) * (10 : Int32)) - (a1 - a1 / (10 : Int32) * (10 : Int32))) else 0 - ((a0 - a0 / (10 : Int32) * (10 : Int32)) - (a1 - a1 / (10 : Int32) * (10 : Int32)))) + (if 0 ≤ ((a0 / (10 : Int32)) - (a1 / (10 : Int32))) then ((a0 / (10 : Int32)) - (a1 / (10 : Int32))) else 0 - ((a0 / (10 : Int32)) - (a1 / (10 : Int32))))), h)
set_option maxRecDepth 100000 in
set_option maxHeartbeats 4000000 in
theorem c_X11_far (l : Launch) (D : DT) (a0 : Int32) (a1 : Int32) (h : AH) (r : Int32 × AH) (hf : f_X11_far a0 a1 h = some r) : CM l D yX11_far cX11_far 2 (some .int) 1 21 0 0 [.inl a0, .inl a1] h (some (.int r.1)) r.2 := by
  refine CM.of (by decide) (Nat.le_of_ble_eq_true rfl) (fun X hl C hD hX hnm E => ?_)
  subst hl
  subst hD
  have C : CX X RX11 cX11_far 2 := C
  show WW X h 0 0 0 [some (.int a0), some (.int a1)] []
  unfold f_X11_far at hf
  refine s_iload_n C dX11_far_0 rfl ?_
  refine s_bipush C dX11_far_1 (v := (10 : Int32)) (by decide) ?_
  refine s_irem C dX11_far_3 hf (fun hf => ?_)
  refine s_iload_n C dX11_far_4 rfl ?_
  refine s_bipush C dX11_far_5 (v := (10 : Int32)) (by decide) ?_
  refine s_irem C dX11_far_7 hf (fun hf => ?_)
  refine s_isub C dX11_far_8 ?_
  refine s_mabs C wml_X11_488 wst_mabs wini_math wcd_mabs dX11_far_9 (Nat.le_of_ble_eq_true rfl) (room_n hX (Nat.le_of_ble_eq_true rfl) (Nat.le_of_ble_eq_true rfl)) (cell_ok hX (Nat.le_of_ble_eq_true rfl) (Nat.le_of_ble_eq_true rfl)) ?_
  refine s_iload_n C dX11_far_12 rfl ?_
  refine s_bipush C dX11_far_13 (v := (10 : Int32)) (by decide) ?_
  refine s_idiv C dX11_far_15 hf (fun hf => ?_)
  refine s_iload_n C dX11_far_16 rfl ?_
  refine s_bipush C dX11_far_17 (v := (10 : Int32)) (by decide) ?_
  refine s_idiv C dX11_far_19 hf (fun hf => ?_)
  refine s_isub C dX11_far_20 ?_
  refine s_mabs C wml_X11_488 wst_mabs wini_math wcd_mabs dX11_far_21 (Nat.le_of_ble_eq_true rfl) (room_n hX (Nat.le_of_ble_eq_true rfl) (Nat.le_of_ble_eq_true rfl)) (cell_ok hX (Nat.le_of_ble_eq_true rfl) (Nat.le_of_ble_eq_true rfl)) ?_
  refine s_iadd C dX11_far_24 ?_
  exact s_ireturn C E dX11_far_25 hf (Nat.le_of_ble_eq_true rfl) (Nat.le_of_ble_eq_true rfl)
/-- HillBoxes$Box.isOnPaper(I)Z -/
noncomputable def f_X1_isOnPaper (o : Option Nat) (a1 : Int32) (h : AH) : Option (Int32 × AH) :=
  lp (fun _ => none) (fun (L2 : Int32 → Option (Int32 × AH)) (x1 : Int32) =>
    fI h [1] o 15 fun v2 =>
    if v2 ≤ x1 then
      rz (0 : Int32) h
    else
      fR h [1] o 5 fun v3 =>
      aI h 20 v3 x1 fun v4 =>
      if v4 = a1 then
        rz (1 : Int32) h
      else
        L2 (x1 + 1)) lpN (0 : Int32)
set_option maxRecDepth 100000 in
set_option maxHeartbeats 4000000 in
theorem c_X1_isOnPaper (l : Launch) (D : DT) (o : Option Nat) (a1 : Int32) (h : AH) (r : Int32 × AH) (hf : f_X1_isOnPaper o a1 h = some r) : CM l D yX1_isOnPaper cX1_isOnPaper 3 (some .boolean) 0 0 0 0 [.inr (.inr o), .inl a1] h (some (.int r.1)) r.2 := by
  refine CM.of (by decide) (Nat.le_of_ble_eq_true rfl) (fun X hl C hD hX hnm E => ?_)
  subst hl
  subst hD
  have C : CX X RX1 cX1_isOnPaper 3 := C
  show WW X h 0 0 0 [some (rB (xD X).1 o), some (.int a1), none] []
  unfold f_X1_isOnPaper at hf
  refine s_iconst C dX1_isOnPaper_0 (v := (0 : Int32)) (by decide) ?_
  refine s_istore_n C dX1_isOnPaper_1 (by decide) (nc_i rfl) (lv' := [some (rB (xD X).1 o), some (.int a1), some (.int (0 : Int32))]) rfl ?_
  refine s_lp1 hf (fun G2 z2 q2 hf => ?_)
  have k2 : ∀ (n : Nat) (x1 : Int32), G2 n x1 = some r → WW X h 0 0 2 [some (rB (xD X).1 o), some (.int a1), some (.int x1)] [] := by
    intro n
    induction n with
    | zero =>
      intro x1 hf
      rw [z2] at hf
      cases hf
    | succ n ih2 =>
      intro x1 hf
      have hf := (q2 n x1).symm.trans hf
      refine s_iload_n C dX1_isOnPaper_2 rfl ?_
      refine s_aload_n C dX1_isOnPaper_3 rfl ?_
      refine s_getI C fl_X1_58 dX1_isOnPaper_4 hf (fun v2 hf => ?_)
      refine s_icmp_ge (tgt := 28) C dX1_isOnPaper_7 (by decide) hf (fun hf => ?_) (fun hf => ?_)
      · refine s_iconst C dX1_isOnPaper_28 (v := (0 : Int32)) (by decide) ?_
        exact s_zreturn C E dX1_isOnPaper_29 hf (Nat.le_of_ble_eq_true rfl) (Nat.le_of_ble_eq_true rfl)
      · refine s_aload_n C dX1_isOnPaper_10 rfl ?_
        refine s_getR C fl_X1_15 dX1_isOnPaper_11 hf (fun v3 hf => ?_)
        refine s_iload_n C dX1_isOnPaper_14 rfl ?_
        refine s_iaload C dX1_isOnPaper_15 hf (fun v4 hf => ?_)
        refine s_iload_n C dX1_isOnPaper_16 rfl ?_
        refine s_icmp_ne (tgt := 22) C dX1_isOnPaper_17 (by decide) hf (fun hf => ?_) (fun hf => ?_)
        · refine s_iinc C dX1_isOnPaper_22 (v := (x1 + 1)) rfl rfl (by decide) (nc_i rfl) (lv' := [some (rB (xD X).1 o), some (.int a1), some (.int (x1 + 1))]) rfl ?_
          refine s_goto (tgt := 2) C dX1_isOnPaper_25 (by decide) ?_
          exact ih2 _ hf
        · refine s_iconst C dX1_isOnPaper_20 (v := (1 : Int32)) (by decide) ?_
          exact s_zreturn C E dX1_isOnPaper_21 hf (Nat.le_of_ble_eq_true rfl) (Nat.le_of_ble_eq_true rfl)
  exact k2 lpN _ hf
