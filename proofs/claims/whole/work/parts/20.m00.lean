/-- java/util/Arrays.fill([II)V -/
noncomputable def f_J7_fill_53178 (a0 : Option Nat) (a1 : Int32) (h : AH) : Option (Unit × AH) :=
  aN h 20 a0 fun v1 =>
  lp (fun _ _ => none) (fun (L5 : Int32 → AH → Option (Unit × AH)) (x2 : Int32) (h3 : AH) =>
    if v1 ≤ x2 then
      some ((), h3)
    else
      bI h3 20 a0 x2 a1 fun h4 =>
      L5 (x2 + 1) h4) lpN (0 : Int32) h
set_option maxRecDepth 100000 in
set_option maxHeartbeats 4000000 in
theorem c_J7_fill_53178 (l : Launch) (D : DT) (a0 : Option Nat) (a1 : Int32) (h : AH) (r : Unit × AH) (hf : f_J7_fill_53178 a0 a1 h = some r) : CM l D yJ7_fill_53178 cJ7_fill_53178 4 none 0 0 0 0 [.inr (.inr a0), .inl a1] h none r.2 := by
  refine CM.of (by decide) (Nat.le_of_ble_eq_true rfl) (fun X hl C hD hX hnm E => ?_)
  subst hl
  subst hD
  have C : CX X RJ7 cJ7_fill_53178 4 := C
  show WW X h 0 0 0 [some (rB (xD X).1 a0), some (.int a1), none, none] []
  unfold f_J7_fill_53178 at hf
  refine s_iconst C dJ7_fill_53178_0 (v := (0 : Int32)) (by decide) ?_
  refine s_istore_n C dJ7_fill_53178_1 (by decide) (nc_i rfl) (lv' := [some (rB (xD X).1 a0), some (.int a1), some (.int (0 : Int32)), none]) rfl ?_
  refine s_aload_n C dJ7_fill_53178_2 rfl ?_
  refine s_alen C dJ7_fill_53178_3 (t := 20) (by decide) hf (fun v1 hf => ?_)
  refine s_istore_n C dJ7_fill_53178_4 (by decide) (nc_i rfl) (lv' := [some (rB (xD X).1 a0), some (.int a1), some (.int (0 : Int32)), some (.int v1)]) rfl ?_
  refine s_lp2 hf (fun G5 z5 q5 hf => ?_)
  have k5 : ∀ (n : Nat) (x2 : Int32) (h3 : AH), G5 n x2 h3 = some r → WW X h3 0 0 5 [some (rB (xD X).1 a0), some (.int a1), some (.int x2), some (.int v1)] [] := by
    intro n
    induction n with
    | zero =>
      intro x2 h3 hf
      rw [z5] at hf
      cases hf
    | succ n ih5 =>
      intro x2 h3 hf
      have hf := (q5 n x2 h3).symm.trans hf
      refine s_iload_n C dJ7_fill_53178_5 rfl ?_
      refine s_iload_n C dJ7_fill_53178_6 rfl ?_
      refine s_icmp_ge (tgt := 20) C dJ7_fill_53178_7 (by decide) hf (fun hf => ?_) (fun hf => ?_)
      · exact s_return C E dJ7_fill_53178_20 hf (Nat.le_of_ble_eq_true rfl) (Nat.le_of_ble_eq_true rfl)
      · refine s_aload_n C dJ7_fill_53178_10 rfl ?_
        refine s_iload_n C dJ7_fill_53178_11 rfl ?_
        refine s_iload_n C dJ7_fill_53178_12 rfl ?_
        refine s_iastore C dJ7_fill_53178_13 hf (fun h4 hf => ?_)
        refine s_iinc C dJ7_fill_53178_14 (v := (x2 + 1)) rfl rfl (by decide) (nc_i rfl) (lv' := [some (rB (xD X).1 a0), some (.int a1), some (.int (x2 + 1)), some (.int v1)]) rfl ?_
        refine s_goto (tgt := 5) C dJ7_fill_53178_17 (by decide) ?_
        exact ih5 _ _ hf
  exact k5 lpN _ _ hf
/-- HillBoxes$Hills.<init>()V -/
noncomputable def f_X3_init (o : Option Nat) (h : AH) : Option (Unit × AH) :=
  rO h [3] o <|
  nO h 20 60 fun v1 h2 =>
  pR h2 [3] o 1 v1 fun h3 =>
  nO h3 25 150 fun v4 h5 =>
  pR h5 [3] o 2 v4 fun h6 =>
  nO h6 20 4 fun v7 h8 =>
  pR h8 [3] o 4 v7 fun h9 =>
  nO h9 20 200 fun v10 h11 =>
  pR h11 [3] o 6 v10 fun h12 =>
  nO h12 20 200 fun v13 h14 =>
  pR h14 [3] o 7 v13 fun h15 =>
  nO h15 20 200 fun v16 h17 =>
  pR h17 [3] o 8 v16 fun h18 =>
  fR h18 [3] o 1 fun v19 =>
  cl (f_J7_fill_53178 v19 (-1 : Int32) h18) fun _ h20 =>
  some ((), h20)
set_option maxRecDepth 100000 in
set_option maxHeartbeats 4000000 in
theorem c_X3_init (l : Launch) (D : DT) (o : Option Nat) (h : AH) (r : Unit × AH) (hf : f_X3_init o h = some r) : CM l D yX3_init cX3_init 1 none 1 23 6 814 [.inr (.inr o)] h none r.2 := by
  refine CM.of (by decide) (Nat.le_of_ble_eq_true rfl) (fun X hl C hD hX hnm E => ?_)
  subst hl
  subst hD
  have C : CX X RX3 cX3_init 1 := C
  show WW X h 0 0 0 [some (rB (xD X).1 o)] []
  unfold f_X3_init at hf
  refine s_aload_n C dX3_init_0 rfl ?_
  refine s_objInit C wml_X3_3 wim_obj wcd_obj dX3_init_1 (cs := [3]) hf (Nat.le_of_ble_eq_true rfl) (room_n hX (Nat.le_of_ble_eq_true rfl) (Nat.le_of_ble_eq_true rfl)) (fun hf => ?_)
  refine s_aload_n C dX3_init_4 rfl ?_
  refine s_bipush C dX3_init_5 (v := (60 : Int32)) (by decide) ?_
  refine s_newarray C (t := 20) (N := 60) rfl (by decide) wac_20 dX3_init_7 (by decide) (by decide) (Nat.le_of_ble_eq_true rfl) hf (cell1 hX (Nat.le_of_ble_eq_true rfl)) (cell2 hX (Nat.le_of_ble_eq_true rfl)) (fun v1 h2 hf => ?_)
  refine s_putFR C fl_X3_9 (by decide +kernel) hnm dX3_init_9 hf (fun h3 hf => ?_)
  refine s_aload_n C dX3_init_12 rfl ?_
  refine s_sipush C dX3_init_13 (v := (150 : Int32)) (by decide) ?_
  refine s_anewarray C (t := 25) (N := 150) rfl (by decide) wcl_X3_15 C.2.2.2.2.2.2.1.2.2.1 dX3_init_16 (by decide) (by decide) (Nat.le_of_ble_eq_true rfl) hf (cell1 hX (Nat.le_of_ble_eq_true rfl)) (cell2 hX (Nat.le_of_ble_eq_true rfl)) (fun v4 h5 hf => ?_)
  refine s_putFR C fl_X3_17 (by decide +kernel) hnm dX3_init_19 hf (fun h6 hf => ?_)
  refine s_aload_n C dX3_init_22 rfl ?_
  refine s_iconst C dX3_init_23 (v := (4 : Int32)) (by decide) ?_
  refine s_newarray C (t := 20) (N := 4) rfl (by decide) wac_20 dX3_init_24 (by decide) (by decide) (Nat.le_of_ble_eq_true rfl) hf (cell1 hX (Nat.le_of_ble_eq_true rfl)) (cell2 hX (Nat.le_of_ble_eq_true rfl)) (fun v7 h8 hf => ?_)
  refine s_putFR C fl_X3_21 (by decide +kernel) hnm dX3_init_26 hf (fun h9 hf => ?_)
  refine s_aload_n C dX3_init_29 rfl ?_
  refine s_sipush C dX3_init_30 (v := (200 : Int32)) (by decide) ?_
  refine s_newarray C (t := 20) (N := 200) rfl (by decide) wac_20 dX3_init_33 (by decide) (by decide) (Nat.le_of_ble_eq_true rfl) hf (cell1 hX (Nat.le_of_ble_eq_true rfl)) (cell2 hX (Nat.le_of_ble_eq_true rfl)) (fun v10 h11 hf => ?_)
  refine s_putFR C fl_X3_24 (by decide +kernel) hnm dX3_init_35 hf (fun h12 hf => ?_)
  refine s_aload_n C dX3_init_38 rfl ?_
  refine s_sipush C dX3_init_39 (v := (200 : Int32)) (by decide) ?_
  refine s_newarray C (t := 20) (N := 200) rfl (by decide) wac_20 dX3_init_42 (by decide) (by decide) (Nat.le_of_ble_eq_true rfl) hf (cell1 hX (Nat.le_of_ble_eq_true rfl)) (cell2 hX (Nat.le_of_ble_eq_true rfl)) (fun v13 h14 hf => ?_)
  refine s_putFR C fl_X3_27 (by decide +kernel) hnm dX3_init_44 hf (fun h15 hf => ?_)
  refine s_aload_n C dX3_init_47 rfl ?_
  refine s_sipush C dX3_init_48 (v := (200 : Int32)) (by decide) ?_
  refine s_newarray C (t := 20) (N := 200) rfl (by decide) wac_20 dX3_init_51 (by decide) (by decide) (Nat.le_of_ble_eq_true rfl) hf (cell1 hX (Nat.le_of_ble_eq_true rfl)) (cell2 hX (Nat.le_of_ble_eq_true rfl)) (fun v16 h17 hf => ?_)
  refine s_putFR C fl_X3_30 (by decide +kernel) hnm dX3_init_53 hf (fun h18 hf => ?_)
  refine s_aload_n C dX3_init_56 rfl ?_
  refine s_getR C fl_X3_9 dX3_init_57 hf (fun v19 hf => ?_)
  refine s_iconst C dX3_init_60 (v := (-1 : Int32)) (by decide) ?_
  refine s_callS (rvf := fun _ => none) (st := []) (fr := 0) (lo := 0) (mc := 0) (ms := 0) C wc_J7_fill_53178 wml_X3_33 wst_J7_fill_53178 dX3_init_61 (As := [.inr (.inr v19), .inl (-1 : Int32)]) rfl hf (fun x h' hF => c_J7_fill_53178 _ _ _ _ _ (x, h') hF) rfl (Nat.le_of_ble_eq_true rfl) (room_ok hX (Nat.le_of_ble_eq_true rfl) (Nat.le_of_ble_eq_true rfl)) (cell_ok hX (Nat.le_of_ble_eq_true rfl) (Nat.le_of_ble_eq_true rfl)) (fun _ h20 hf => ?_)
  exact s_return C E dX3_init_64 hf (Nat.le_of_ble_eq_true rfl) (Nat.le_of_ble_eq_true rfl)
/-- HillBoxes$Logs.<init>(LHillBoxes$Hills;LHillBoxes$Rules;)V -/
noncomputable def f_X4_init (o : Option Nat) (a1 : Option Nat) (a2 : Option Nat) (h : AH) : Option (Unit × AH) :=
  rO h [4] o <|
  nO h 20 300 fun v1 h2 =>
  pR h2 [4] o 0 v1 fun h3 =>
  nO h3 23 300 fun v4 h5 =>
  pR h5 [4] o 1 v4 fun h6 =>
  nO h6 20 150 fun v7 h8 =>
  pR h8 [4] o 3 v7 fun h9 =>
  nO h9 20 300 fun v10 h11 =>
  pR h11 [4] o 4 v10 fun h12 =>
  nO h12 20 300 fun v13 h14 =>
  pR h14 [4] o 5 v13 fun h15 =>
  nO h15 23 300 fun v16 h17 =>
  pR h17 [4] o 6 v16 fun h18 =>
  pR h18 [4] o 7 a1 fun h19 =>
  pR h19 [4] o 8 a2 fun h20 =>
  some ((), h20)
set_option maxRecDepth 100000 in
set_option maxHeartbeats 4000000 in
theorem c_X4_init (l : Launch) (D : DT) (o : Option Nat) (a1 : Option Nat) (a2 : Option Nat) (h : AH) (r : Unit × AH) (hf : f_X4_init o a1 a2 h = some r) : CM l D yX4_init cX4_init 3 none 1 20 6 1650 [.inr (.inr o), .inr (.inr a1), .inr (.inr a2)] h none r.2 := by
  refine CM.of (by decide) (Nat.le_of_ble_eq_true rfl) (fun X hl C hD hX hnm E => ?_)
  subst hl
  subst hD
  have C : CX X RX4 cX4_init 3 := C
  show WW X h 0 0 0 [some (rB (xD X).1 o), some (rB (xD X).1 a1), some (rB (xD X).1 a2)] []
  unfold f_X4_init at hf
  refine s_aload_n C dX4_init_0 rfl ?_
  refine s_objInit C wml_X4_3 wim_obj wcd_obj dX4_init_1 (cs := [4]) hf (Nat.le_of_ble_eq_true rfl) (room_n hX (Nat.le_of_ble_eq_true rfl) (Nat.le_of_ble_eq_true rfl)) (fun hf => ?_)
  refine s_aload_n C dX4_init_4 rfl ?_
  refine s_sipush C dX4_init_5 (v := (300 : Int32)) (by decide) ?_
  refine s_newarray C (t := 20) (N := 300) rfl (by decide) wac_20 dX4_init_8 (by decide) (by decide) (Nat.le_of_ble_eq_true rfl) hf (cell1 hX (Nat.le_of_ble_eq_true rfl)) (cell2 hX (Nat.le_of_ble_eq_true rfl)) (fun v1 h2 hf => ?_)
  refine s_putFR C fl_X4_9 (by decide +kernel) hnm dX4_init_10 hf (fun h3 hf => ?_)
  refine s_aload_n C dX4_init_13 rfl ?_
  refine s_sipush C dX4_init_14 (v := (300 : Int32)) (by decide) ?_
  refine s_newarray C (t := 23) (N := 300) rfl (by decide) wac_23 dX4_init_17 (by decide) (by decide) (Nat.le_of_ble_eq_true rfl) hf (cell1 hX (Nat.le_of_ble_eq_true rfl)) (cell2 hX (Nat.le_of_ble_eq_true rfl)) (fun v4 h5 hf => ?_)
  refine s_putFR C fl_X4_15 (by decide +kernel) hnm dX4_init_19 hf (fun h6 hf => ?_)
  refine s_aload_n C dX4_init_22 rfl ?_
  refine s_sipush C dX4_init_23 (v := (150 : Int32)) (by decide) ?_
  refine s_newarray C (t := 20) (N := 150) rfl (by decide) wac_20 dX4_init_26 (by decide) (by decide) (Nat.le_of_ble_eq_true rfl) hf (cell1 hX (Nat.le_of_ble_eq_true rfl)) (cell2 hX (Nat.le_of_ble_eq_true rfl)) (fun v7 h8 hf => ?_)
  refine s_putFR C fl_X4_19 (by decide +kernel) hnm dX4_init_28 hf (fun h9 hf => ?_)
  refine s_aload_n C dX4_init_31 rfl ?_
  refine s_sipush C dX4_init_32 (v := (300 : Int32)) (by decide) ?_
  refine s_newarray C (t := 20) (N := 300) rfl (by decide) wac_20 dX4_init_35 (by decide) (by decide) (Nat.le_of_ble_eq_true rfl) hf (cell1 hX (Nat.le_of_ble_eq_true rfl)) (cell2 hX (Nat.le_of_ble_eq_true rfl)) (fun v10 h11 hf => ?_)
  refine s_putFR C fl_X4_22 (by decide +kernel) hnm dX4_init_37 hf (fun h12 hf => ?_)
  refine s_aload_n C dX4_init_40 rfl ?_
  refine s_sipush C dX4_init_41 (v := (300 : Int32)) (by decide) ?_
  refine s_newarray C (t := 20) (N := 300) rfl (by decide) wac_20 dX4_init_44 (by decide) (by decide) (Nat.le_of_ble_eq_true rfl) hf (cell1 hX (Nat.le_of_ble_eq_true rfl)) (cell2 hX (Nat.le_of_ble_eq_true rfl)) (fun v13 h14 hf => ?_)
  refine s_putFR C fl_X4_25 (by decide +kernel) hnm dX4_init_46 hf (fun h15 hf => ?_)
  refine s_aload_n C dX4_init_49 rfl ?_
  refine s_sipush C dX4_init_50 (v := (300 : Int32)) (by decide) ?_
  refine s_newarray C (t := 23) (N := 300) rfl (by decide) wac_23 dX4_init_53 (by decide) (by decide) (Nat.le_of_ble_eq_true rfl) hf (cell1 hX (Nat.le_of_ble_eq_true rfl)) (cell2 hX (Nat.le_of_ble_eq_true rfl)) (fun v16 h17 hf => ?_)
  refine s_putFR C fl_X4_28 (by decide +kernel) hnm dX4_init_55 hf (fun h18 hf => ?_)
  refine s_aload_n C dX4_init_58 rfl ?_
  refine s_aload_n C dX4_init_59 rfl ?_
  refine s_putFR C fl_X4_31 (by decide +kernel) hnm dX4_init_60 hf (fun h19 hf => ?_)
  refine s_aload_n C dX4_init_63 rfl ?_
  refine s_aload_n C dX4_init_64 rfl ?_
  refine s_putFR C fl_X4_35 (by decide +kernel) hnm dX4_init_65 hf (fun h20 hf => ?_)
  exact s_return C E dX4_init_68 hf (Nat.le_of_ble_eq_true rfl) (Nat.le_of_ble_eq_true rfl)
/-- HillBoxes$Tape.<init>()V -/
noncomputable def f_X8_init (o : Option Nat) (h : AH) : Option (Unit × AH) :=
  rO h [8] o <|
  nO h 20 160 fun v1 h2 =>
  pR h2 [8] o 1 v1 fun h3 =>
  nO h3 20 161 fun v4 h5 =>
  pR h5 [8] o 2 v4 fun h6 =>
  nO h6 20 161 fun v7 h8 =>
  pR h8 [8] o 3 v7 fun h9 =>
  nO h9 20 161 fun v10 h11 =>
  pR h11 [8] o 4 v10 fun h12 =>
  nO h12 20 161 fun v13 h14 =>
  pR h14 [8] o 9 v13 fun h15 =>
  some ((), h15)
set_option maxRecDepth 100000 in
set_option maxHeartbeats 4000000 in
theorem c_X8_init (l : Launch) (D : DT) (o : Option Nat) (h : AH) (r : Unit × AH) (hf : f_X8_init o h = some r) : CM l D yX8_init cX8_init 1 none 1 20 5 804 [.inr (.inr o)] h none r.2 := by
  refine CM.of (by decide) (Nat.le_of_ble_eq_true rfl) (fun X hl C hD hX hnm E => ?_)
  subst hl
  subst hD
  have C : CX X RX8 cX8_init 1 := C
  show WW X h 0 0 0 [some (rB (xD X).1 o)] []
  unfold f_X8_init at hf
  refine s_aload_n C dX8_init_0 rfl ?_
  refine s_objInit C wml_X8_3 wim_obj wcd_obj dX8_init_1 (cs := [8]) hf (Nat.le_of_ble_eq_true rfl) (room_n hX (Nat.le_of_ble_eq_true rfl) (Nat.le_of_ble_eq_true rfl)) (fun hf => ?_)
  refine s_aload_n C dX8_init_4 rfl ?_
  refine s_sipush C dX8_init_5 (v := (160 : Int32)) (by decide) ?_
  refine s_newarray C (t := 20) (N := 160) rfl (by decide) wac_20 dX8_init_8 (by decide) (by decide) (Nat.le_of_ble_eq_true rfl) hf (cell1 hX (Nat.le_of_ble_eq_true rfl)) (cell2 hX (Nat.le_of_ble_eq_true rfl)) (fun v1 h2 hf => ?_)
  refine s_putFR C fl_X8_9 (by decide +kernel) hnm dX8_init_10 hf (fun h3 hf => ?_)
  refine s_aload_n C dX8_init_13 rfl ?_
  refine s_sipush C dX8_init_14 (v := (161 : Int32)) (by decide) ?_
  refine s_newarray C (t := 20) (N := 161) rfl (by decide) wac_20 dX8_init_17 (by decide) (by decide) (Nat.le_of_ble_eq_true rfl) hf (cell1 hX (Nat.le_of_ble_eq_true rfl)) (cell2 hX (Nat.le_of_ble_eq_true rfl)) (fun v4 h5 hf => ?_)
  refine s_putFR C fl_X8_13 (by decide +kernel) hnm dX8_init_19 hf (fun h6 hf => ?_)
  refine s_aload_n C dX8_init_22 rfl ?_
  refine s_sipush C dX8_init_23 (v := (161 : Int32)) (by decide) ?_
  refine s_newarray C (t := 20) (N := 161) rfl (by decide) wac_20 dX8_init_26 (by decide) (by decide) (Nat.le_of_ble_eq_true rfl) hf (cell1 hX (Nat.le_of_ble_eq_true rfl)) (cell2 hX (Nat.le_of_ble_eq_true rfl)) (fun v7 h8 hf => ?_)
  refine s_putFR C fl_X8_16 (by decide +kernel) hnm dX8_init_28 hf (fun h9 hf => ?_)
  refine s_aload_n C dX8_init_31 rfl ?_
  refine s_sipush C dX8_init_32 (v := (161 : Int32)) (by decide) ?_
  refine s_newarray C (t := 20) (N := 161) rfl (by decide) wac_20 dX8_init_35 (by decide) (by decide) (Nat.le_of_ble_eq_true rfl) hf (cell1 hX (Nat.le_of_ble_eq_true rfl)) (cell2 hX (Nat.le_of_ble_eq_true rfl)) (fun v10 h11 hf => ?_)
  refine s_putFR C fl_X8_19 (by decide +kernel) hnm dX8_init_37 hf (fun h12 hf => ?_)
  refine s_aload_n C dX8_init_40 rfl ?_
  refine s_sipush C dX8_init_41 (v := (161 : Int32)) (by decide) ?_
  refine s_newarray C (t := 20) (N := 161) rfl (by decide) wac_20 dX8_init_44 (by decide) (by decide) (Nat.le_of_ble_eq_true rfl) hf (cell1 hX (Nat.le_of_ble_eq_true rfl)) (cell2 hX (Nat.le_of_ble_eq_true rfl)) (fun v13 h14 hf => ?_)
  refine s_putFR C fl_X8_22 (by decide +kernel) hnm dX8_init_46 hf (fun h15 hf => ?_)
  exact s_return C E dX8_init_49 hf (Nat.le_of_ble_eq_true rfl) (Nat.le_of_ble_eq_true rfl)
/-- HillBoxes$Rules.<init>(LHillBoxes$Hills;)V -/
noncomputable def f_X6_init (o : Option Nat) (a1 : Option Nat) (h : AH) : Option (Unit × AH) :=
  rO h [6] o <|
  nO h 8 11 fun v1 h2 =>
  rO h2 [8] v1 <| cl (f_X8_init v1 h2) fun _ h3 =>
  pR h3 [6] o 0 v1 fun h4 =>
  pI h4 [6] o 2 (-1 : Int32) fun h5 =>
  nO h5 20 20 fun v6 h7 =>
  pR h7 [6] o 4 v6 fun h8 =>
  nO h8 20 20 fun v9 h10 =>
  pR h10 [6] o 5 v9 fun h11 =>
  nO h11 20 20 fun v12 h13 =>
  pR h13 [6] o 6 v12 fun h14 =>
  nO h14 20 3220 fun v15 h16 =>
  pR h16 [6] o 7 v15 fun h17 =>
  nO h17 20 20 fun v18 h19 =>
  pR h19 [6] o 8 v18 fun h20 =>
  nO h20 20 64 fun v21 h22 =>
  pR h22 [6] o 9 v21 fun h23 =>
  pR h23 [6] o 3 a1 fun h24 =>
  some ((), h24)
set_option maxRecDepth 100000 in
set_option maxHeartbeats 4000000 in
theorem c_X6_init (l : Launch) (D : DT) (o : Option Nat) (a1 : Option Nat) (h : AH) (r : Unit × AH) (hf : f_X6_init o a1 h = some r) : CM l D yX6_init cX6_init 2 none 2 40 12 4179 [.inr (.inr o), .inr (.inr a1)] h none r.2 := by
  refine CM.of (by decide) (Nat.le_of_ble_eq_true rfl) (fun X hl C hD hX hnm E => ?_)
  subst hl
  subst hD
  have C : CX X RX6 cX6_init 2 := C
  show WW X h 0 0 0 [some (rB (xD X).1 o), some (rB (xD X).1 a1)] []
  unfold f_X6_init at hf
  refine s_aload_n C dX6_init_0 rfl ?_
  refine s_objInit C wml_X6_3 wim_obj wcd_obj dX6_init_1 (cs := [6]) hf (Nat.le_of_ble_eq_true rfl) (room_n hX (Nat.le_of_ble_eq_true rfl) (Nat.le_of_ble_eq_true rfl)) (fun hf => ?_)
  refine s_aload_n C dX6_init_4 rfl ?_
  refine s_new C (t := 8) (n := 11) (by decide) rfl wcl_X6_9 wins_X8 wini_X8 dX6_init_5 hf (cell1 hX (Nat.le_of_ble_eq_true rfl)) (cell2 hX (Nat.le_of_ble_eq_true rfl)) (fun v1 h2 hf => ?_)
  refine s_dup C dX6_init_8 c1_r ?_
  refine s_callIN (st := [rB (xD X).1 v1, rB (xD X).1 o]) (fr := 1) (lo := 20) (mc := 5) (ms := 804) C wc_X8_init wmn_X6_11 wim_X8_init rfl dX6_init_9 (As := []) rfl (a0 := 8) hf (fun h' hF => c_X8_init _ _ _ _ ((), h') hF) rfl (Nat.le_of_ble_eq_true rfl) (room_ok hX (Nat.le_of_ble_eq_true rfl) (Nat.le_of_ble_eq_true rfl)) (cell_ok hX (Nat.le_of_ble_eq_true rfl) (Nat.le_of_ble_eq_true rfl)) (fun h3 hf => ?_)
  refine s_putFR C fl_X6_12 (by decide +kernel) hnm dX6_init_12 hf (fun h4 hf => ?_)
  refine s_aload_n C dX6_init_15 rfl ?_
  refine s_iconst C dX6_init_16 (v := (-1 : Int32)) (by decide) ?_
  refine s_putI C fl_X6_18 (by decide) dX6_init_17 hf (fun h5 hf => ?_)
  refine s_aload_n C dX6_init_20 rfl ?_
  refine s_bipush C dX6_init_21 (v := (20 : Int32)) (by decide) ?_
  refine s_newarray C (t := 20) (N := 20) rfl (by decide) wac_20 dX6_init_23 (by decide) (by decide) (Nat.le_of_ble_eq_true rfl) hf (cell1 hX (Nat.le_of_ble_eq_true rfl)) (cell2 hX (Nat.le_of_ble_eq_true rfl)) (fun v6 h7 hf => ?_)
  refine s_putFR C fl_X6_22 (by decide +kernel) hnm dX6_init_25 hf (fun h8 hf => ?_)
  refine s_aload_n C dX6_init_28 rfl ?_
  refine s_bipush C dX6_init_29 (v := (20 : Int32)) (by decide) ?_
  refine s_newarray C (t := 20) (N := 20) rfl (by decide) wac_20 dX6_init_31 (by decide) (by decide) (Nat.le_of_ble_eq_true rfl) hf (cell1 hX (Nat.le_of_ble_eq_true rfl)) (cell2 hX (Nat.le_of_ble_eq_true rfl)) (fun v9 h10 hf => ?_)
  refine s_putFR C fl_X6_26 (by decide +kernel) hnm dX6_init_33 hf (fun h11 hf => ?_)
  refine s_aload_n C dX6_init_36 rfl ?_
  refine s_bipush C dX6_init_37 (v := (20 : Int32)) (by decide) ?_
  refine s_newarray C (t := 20) (N := 20) rfl (by decide) wac_20 dX6_init_39 (by decide) (by decide) (Nat.le_of_ble_eq_true rfl) hf (cell1 hX (Nat.le_of_ble_eq_true rfl)) (cell2 hX (Nat.le_of_ble_eq_true rfl)) (fun v12 h13 hf => ?_)
  refine s_putFR C fl_X6_29 (by decide +kernel) hnm dX6_init_41 hf (fun h14 hf => ?_)
  refine s_aload_n C dX6_init_44 rfl ?_
  refine s_sipush C dX6_init_45 (v := (3220 : Int32)) (by decide) ?_
  refine s_newarray C (t := 20) (N := 3220) rfl (by decide) wac_20 dX6_init_48 (by decide) (by decide) (Nat.le_of_ble_eq_true rfl) hf (cell1 hX (Nat.le_of_ble_eq_true rfl)) (cell2 hX (Nat.le_of_ble_eq_true rfl)) (fun v15 h16 hf => ?_)
  refine s_putFR C fl_X6_32 (by decide +kernel) hnm dX6_init_50 hf (fun h17 hf => ?_)
  refine s_aload_n C dX6_init_53 rfl ?_
  refine s_bipush C dX6_init_54 (v := (20 : Int32)) (by decide) ?_
  refine s_newarray C (t := 20) (N := 20) rfl (by decide) wac_20 dX6_init_56 (by decide) (by decide) (Nat.le_of_ble_eq_true rfl) hf (cell1 hX (Nat.le_of_ble_eq_true rfl)) (cell2 hX (Nat.le_of_ble_eq_true rfl)) (fun v18 h19 hf => ?_)
  refine s_putFR C fl_X6_35 (by decide +kernel) hnm dX6_init_58 hf (fun h20 hf => ?_)
  refine s_aload_n C dX6_init_61 rfl ?_
  refine s_bipush C dX6_init_62 (v := (64 : Int32)) (by decide) ?_
  refine s_newarray C (t := 20) (N := 64) rfl (by decide) wac_20 dX6_init_64 (by decide) (by decide) (Nat.le_of_ble_eq_true rfl) hf (cell1 hX (Nat.le_of_ble_eq_true rfl)) (cell2 hX (Nat.le_of_ble_eq_true rfl)) (fun v21 h22 hf => ?_)
  refine s_putFR C fl_X6_38 (by decide +kernel) hnm dX6_init_66 hf (fun h23 hf => ?_)
  refine s_aload_n C dX6_init_69 rfl ?_
  refine s_aload_n C dX6_init_70 rfl ?_
  refine s_putFR C fl_X6_41 (by decide +kernel) hnm dX6_init_71 hf (fun h24 hf => ?_)
  exact s_return C E dX6_init_74 hf (Nat.le_of_ble_eq_true rfl) (Nat.le_of_ble_eq_true rfl)
/-- HillBoxes$Shelf.<init>()V -/
noncomputable def f_X7_init (o : Option Nat) (h : AH) : Option (Unit × AH) :=
  rO h [7] o <|
  nO h 24 60 fun v1 h2 =>
  pR h2 [7] o 4 v1 fun h3 =>
  some ((), h3)
set_option maxRecDepth 100000 in
set_option maxHeartbeats 4000000 in
theorem c_X7_init (l : Launch) (D : DT) (o : Option Nat) (h : AH) (r : Unit × AH) (hf : f_X7_init o h = some r) : CM l D yX7_init cX7_init 1 none 1 20 1 60 [.inr (.inr o)] h none r.2 := by
  refine CM.of (by decide) (Nat.le_of_ble_eq_true rfl) (fun X hl C hD hX hnm E => ?_)
  subst hl
  subst hD
  have C : CX X RX7 cX7_init 1 := C
  show WW X h 0 0 0 [some (rB (xD X).1 o)] []
  unfold f_X7_init at hf
  refine s_aload_n C dX7_init_0 rfl ?_
  refine s_objInit C wml_X7_3 wim_obj wcd_obj dX7_init_1 (cs := [7]) hf (Nat.le_of_ble_eq_true rfl) (room_n hX (Nat.le_of_ble_eq_true rfl) (Nat.le_of_ble_eq_true rfl)) (fun hf => ?_)
  refine s_aload_n C dX7_init_4 rfl ?_
  refine s_bipush C dX7_init_5 (v := (60 : Int32)) (by decide) ?_
  refine s_newarray C (t := 24) (N := 60) rfl (by decide) wac_24 dX7_init_7 (by decide) (by decide) (Nat.le_of_ble_eq_true rfl) hf (cell1 hX (Nat.le_of_ble_eq_true rfl)) (cell2 hX (Nat.le_of_ble_eq_true rfl)) (fun v1 h2 hf => ?_)
  refine s_putFR C fl_X7_9 (by decide +kernel) hnm dX7_init_9 hf (fun h3 hf => ?_)
  exact s_return C E dX7_init_12 hf (Nat.le_of_ble_eq_true rfl) (Nat.le_of_ble_eq_true rfl)
/-- HillBoxes$Walks.<init>()V -/
noncomputable def f_X10_init (o : Option Nat) (h : AH) : Option (Unit × AH) :=
  rO h [10] o <|
  pI h [10] o 1 (-1 : Int32) fun h1 =>
  nO h1 20 7 fun v2 h3 =>
  pR h3 [10] o 3 v2 fun h4 =>
  nO h4 26 7 fun v5 h6 =>
  pR h6 [10] o 4 v5 fun h7 =>
  nO h7 20 7 fun v8 h9 =>
  pR h9 [10] o 5 v8 fun h10 =>
  nO h10 20 7 fun v11 h12 =>
  pR h12 [10] o 6 v11 fun h13 =>
  nO h13 20 7 fun v14 h15 =>
  pR h15 [10] o 7 v14 fun h16 =>
  nO h16 20 7 fun v17 h18 =>
  pR h18 [10] o 9 v17 fun h19 =>
  some ((), h19)
set_option maxRecDepth 100000 in
set_option maxHeartbeats 4000000 in
theorem c_X10_init (l : Launch) (D : DT) (o : Option Nat) (h : AH) (r : Unit × AH) (hf : f_X10_init o h = some r) : CM l D yX10_init cX10_init 1 none 1 20 6 42 [.inr (.inr o)] h none r.2 := by
  refine CM.of (by decide) (Nat.le_of_ble_eq_true rfl) (fun X hl C hD hX hnm E => ?_)
  subst hl
  subst hD
  have C : CX X RX10 cX10_init 1 := C
  show WW X h 0 0 0 [some (rB (xD X).1 o)] []
  unfold f_X10_init at hf
  refine s_aload_n C dX10_init_0 rfl ?_
  refine s_objInit C wml_X10_3 wim_obj wcd_obj dX10_init_1 (cs := [10]) hf (Nat.le_of_ble_eq_true rfl) (room_n hX (Nat.le_of_ble_eq_true rfl) (Nat.le_of_ble_eq_true rfl)) (fun hf => ?_)
  refine s_aload_n C dX10_init_4 rfl ?_
  refine s_iconst C dX10_init_5 (v := (-1 : Int32)) (by decide) ?_
  refine s_putI C fl_X10_9 (by decide) dX10_init_6 hf (fun h1 hf => ?_)
  refine s_aload_n C dX10_init_9 rfl ?_
  refine s_bipush C dX10_init_10 (v := (7 : Int32)) (by decide) ?_
  refine s_newarray C (t := 20) (N := 7) rfl (by decide) wac_20 dX10_init_12 (by decide) (by decide) (Nat.le_of_ble_eq_true rfl) hf (cell1 hX (Nat.le_of_ble_eq_true rfl)) (cell2 hX (Nat.le_of_ble_eq_true rfl)) (fun v2 h3 hf => ?_)
  refine s_putFR C fl_X10_15 (by decide +kernel) hnm dX10_init_14 hf (fun h4 hf => ?_)
  refine s_aload_n C dX10_init_17 rfl ?_
  refine s_bipush C dX10_init_18 (v := (7 : Int32)) (by decide) ?_
  refine s_anewarray C (t := 26) (N := 7) rfl (by decide) wcl_X10_19 C.2.2.2.2.2.2.1.2.2.2.1 dX10_init_20 (by decide) (by decide) (Nat.le_of_ble_eq_true rfl) hf (cell1 hX (Nat.le_of_ble_eq_true rfl)) (cell2 hX (Nat.le_of_ble_eq_true rfl)) (fun v5 h6 hf => ?_)
  refine s_putFR C fl_X10_21 (by decide +kernel) hnm dX10_init_23 hf (fun h7 hf => ?_)
  refine s_aload_n C dX10_init_26 rfl ?_
  refine s_bipush C dX10_init_27 (v := (7 : Int32)) (by decide) ?_
  refine s_newarray C (t := 20) (N := 7) rfl (by decide) wac_20 dX10_init_29 (by decide) (by decide) (Nat.le_of_ble_eq_true rfl) hf (cell1 hX (Nat.le_of_ble_eq_true rfl)) (cell2 hX (Nat.le_of_ble_eq_true rfl)) (fun v8 h9 hf => ?_)
  refine s_putFR C fl_X10_25 (by decide +kernel) hnm dX10_init_31 hf (fun h10 hf => ?_)
  refine s_aload_n C dX10_init_34 rfl ?_
  refine s_bipush C dX10_init_35 (v := (7 : Int32)) (by decide) ?_
  refine s_newarray C (t := 20) (N := 7) rfl (by decide) wac_20 dX10_init_37 (by decide) (by decide) (Nat.le_of_ble_eq_true rfl) hf (cell1 hX (Nat.le_of_ble_eq_true rfl)) (cell2 hX (Nat.le_of_ble_eq_true rfl)) (fun v11 h12 hf => ?_)
  refine s_putFR C fl_X10_28 (by decide +kernel) hnm dX10_init_39 hf (fun h13 hf => ?_)
  refine s_aload_n C dX10_init_42 rfl ?_
  refine s_bipush C dX10_init_43 (v := (7 : Int32)) (by decide) ?_
  refine s_newarray C (t := 20) (N := 7) rfl (by decide) wac_20 dX10_init_45 (by decide) (by decide) (Nat.le_of_ble_eq_true rfl) hf (cell1 hX (Nat.le_of_ble_eq_true rfl)) (cell2 hX (Nat.le_of_ble_eq_true rfl)) (fun v14 h15 hf => ?_)
  refine s_putFR C fl_X10_31 (by decide +kernel) hnm dX10_init_47 hf (fun h16 hf => ?_)
  refine s_aload_n C dX10_init_50 rfl ?_
  refine s_bipush C dX10_init_51 (v := (7 : Int32)) (by decide) ?_
  refine s_newarray C (t := 20) (N := 7) rfl (by decide) wac_20 dX10_init_53 (by decide) (by decide) (Nat.le_of_ble_eq_true rfl) hf (cell1 hX (Nat.le_of_ble_eq_true rfl)) (cell2 hX (Nat.le_of_ble_eq_true rfl)) (fun v17 h18 hf => ?_)
  refine s_putFR C fl_X10_34 (by decide +kernel) hnm dX10_init_55 hf (fun h19 hf => ?_)
  exact s_return C E dX10_init_58 hf (Nat.le_of_ble_eq_true rfl) (Nat.le_of_ble_eq_true rfl)
/-- HillBoxes.<init>()V -/
noncomputable def f_X11_init (o : Option Nat) (h : AH) : Option (Unit × AH) :=
  rO h [11] o <|
  nO h 3 10 fun v1 h2 =>
  rO h2 [3] v1 <| cl (f_X3_init v1 h2) fun _ h3 =>
  pR h3 [11] o 0 v1 fun h4 =>
  nO h4 6 16 fun v5 h6 =>
  fR h6 [11] o 0 fun v7 =>
  rO h6 [6] v5 <| cl (f_X6_init v5 v7 h6) fun _ h8 =>
  pR h8 [11] o 1 v5 fun h9 =>
  nO h9 4 9 fun v10 h11 =>
  fR h11 [11] o 0 fun v12 =>
  fR h11 [11] o 1 fun v13 =>
  rO h11 [4] v10 <| cl (f_X4_init v10 v12 v13 h11) fun _ h14 =>
  pR h14 [11] o 2 v10 fun h15 =>
  nO h15 10 16 fun v16 h17 =>
  rO h17 [10] v16 <| cl (f_X10_init v16 h17) fun _ h18 =>
  pR h18 [11] o 3 v16 fun h19 =>
  nO h19 27 6 fun v20 h21 =>
  pR h21 [11] o 4 v20 fun h22 =>
  lp (fun _ _ => none) (fun (L71 : Int32 → AH → Option (Unit × AH)) (x23 : Int32) (h24 : AH) =>
    if (6 : Int32) ≤ x23 then
      nO h24 20 25 fun v25 h26 =>
      pR h26 [11] o 5 v25 fun h27 =>
      some ((), h27)
    else
      fR h24 [11] o 4 fun v28 =>
      nO h24 7 5 fun v29 h30 =>
      rO h30 [7] v29 <| cl (f_X7_init v29 h30) fun _ h31 =>
      bR h31 27 (elX 27) v28 x23 v29 fun h32 =>
      L71 (x23 + 1) h32) lpN (0 : Int32) h22
set_option maxRecDepth 100000 in
set_option maxHeartbeats 4000000 in
theorem c_X11_init (l : Launch) (D : DT) (o : Option Nat) (h : AH) (r : Unit × AH) (hf : f_X11_init o h = some r) : CM l D yX11_init cX11_init 2 none 3 61 48 7157 [.inr (.inr o)] h none r.2 := by
  refine CM.of (by decide) (Nat.le_of_ble_eq_true rfl) (fun X hl C hD hX hnm E => ?_)
  subst hl
  subst hD
  have C : CX X RX11 cX11_init 2 := C
  show WW X h 0 0 0 [some (rB (xD X).1 o), none] []
  unfold f_X11_init at hf
  refine s_aload_n C dX11_init_0 rfl ?_
  refine s_objInit C wml_X11_1 wim_obj wcd_obj dX11_init_1 (cs := [11]) hf (Nat.le_of_ble_eq_true rfl) (room_n hX (Nat.le_of_ble_eq_true rfl) (Nat.le_of_ble_eq_true rfl)) (fun hf => ?_)
  refine s_aload_n C dX11_init_4 rfl ?_
  refine s_new C (t := 3) (n := 10) (by decide) rfl wcl_X11_7 wins_X3 wini_X3 dX11_init_5 hf (cell1 hX (Nat.le_of_ble_eq_true rfl)) (cell2 hX (Nat.le_of_ble_eq_true rfl)) (fun v1 h2 hf => ?_)
  refine s_dup C dX11_init_8 c1_r ?_
  refine s_callI (st := [rB (xD X).1 v1, rB (xD X).1 o]) (fr := 1) (lo := 23) (mc := 6) (ms := 814) C wc_X3_init wml_X11_9 wim_X3_init rfl dX11_init_9 (As := []) rfl (a0 := 3) hf (fun h' hF => c_X3_init _ _ _ _ ((), h') hF) rfl (Nat.le_of_ble_eq_true rfl) (room_ok hX (Nat.le_of_ble_eq_true rfl) (Nat.le_of_ble_eq_true rfl)) (cell_ok hX (Nat.le_of_ble_eq_true rfl) (Nat.le_of_ble_eq_true rfl)) (fun h3 hf => ?_)
  refine s_putFR C fl_X11_10 (by decide +kernel) hnm dX11_init_12 hf (fun h4 hf => ?_)
  refine s_aload_n C dX11_init_15 rfl ?_
  refine s_new C (t := 6) (n := 16) (by decide) rfl wcl_X11_16 wins_X6 wini_X6 dX11_init_16 hf (cell1 hX (Nat.le_of_ble_eq_true rfl)) (cell2 hX (Nat.le_of_ble_eq_true rfl)) (fun v5 h6 hf => ?_)
  refine s_dup C dX11_init_19 c1_r ?_
  refine s_aload_n C dX11_init_20 rfl ?_
  refine s_getR C fl_X11_10 dX11_init_21 hf (fun v7 hf => ?_)
  refine s_callI (st := [rB (xD X).1 v5, rB (xD X).1 o]) (fr := 2) (lo := 40) (mc := 12) (ms := 4179) C wc_X6_init wml_X11_18 wim_X6_init rfl dX11_init_24 (As := [.inr (.inr v7)]) rfl (a0 := 6) hf (fun h' hF => c_X6_init _ _ _ _ _ ((), h') hF) rfl (Nat.le_of_ble_eq_true rfl) (room_ok hX (Nat.le_of_ble_eq_true rfl) (Nat.le_of_ble_eq_true rfl)) (cell_ok hX (Nat.le_of_ble_eq_true rfl) (Nat.le_of_ble_eq_true rfl)) (fun h8 hf => ?_)
  refine s_putFR C fl_X11_21 (by decide +kernel) hnm dX11_init_27 hf (fun h9 hf => ?_)
  refine s_aload_n C dX11_init_30 rfl ?_
  refine s_new C (t := 4) (n := 9) (by decide) rfl wcl_X11_25 wins_X4 wini_X4 dX11_init_31 hf (cell1 hX (Nat.le_of_ble_eq_true rfl)) (cell2 hX (Nat.le_of_ble_eq_true rfl)) (fun v10 h11 hf => ?_)
  refine s_dup C dX11_init_34 c1_r ?_
  refine s_aload_n C dX11_init_35 rfl ?_
  refine s_getR C fl_X11_10 dX11_init_36 hf (fun v12 hf => ?_)
  refine s_aload_n C dX11_init_39 rfl ?_
  refine s_getR C fl_X11_21 dX11_init_40 hf (fun v13 hf => ?_)
  refine s_callI (st := [rB (xD X).1 v10, rB (xD X).1 o]) (fr := 1) (lo := 20) (mc := 6) (ms := 1650) C wc_X4_init wml_X11_27 wim_X4_init rfl dX11_init_43 (As := [.inr (.inr v12), .inr (.inr v13)]) rfl (a0 := 4) hf (fun h' hF => c_X4_init _ _ _ _ _ _ ((), h') hF) rfl (Nat.le_of_ble_eq_true rfl) (room_ok hX (Nat.le_of_ble_eq_true rfl) (Nat.le_of_ble_eq_true rfl)) (cell_ok hX (Nat.le_of_ble_eq_true rfl) (Nat.le_of_ble_eq_true rfl)) (fun h14 hf => ?_)
  refine s_putFR C fl_X11_30 (by decide +kernel) hnm dX11_init_46 hf (fun h15 hf => ?_)
  refine s_aload_n C dX11_init_49 rfl ?_
  refine s_new C (t := 10) (n := 16) (by decide) rfl wcl_X11_34 wins_X10 wini_X10 dX11_init_50 hf (cell1 hX (Nat.le_of_ble_eq_true rfl)) (cell2 hX (Nat.le_of_ble_eq_true rfl)) (fun v16 h17 hf => ?_)
  refine s_dup C dX11_init_53 c1_r ?_
  refine s_callIN (st := [rB (xD X).1 v16, rB (xD X).1 o]) (fr := 1) (lo := 20) (mc := 6) (ms := 42) C wc_X10_init wmn_X11_36 wim_X10_init rfl dX11_init_54 (As := []) rfl (a0 := 10) hf (fun h' hF => c_X10_init _ _ _ _ ((), h') hF) rfl (Nat.le_of_ble_eq_true rfl) (room_ok hX (Nat.le_of_ble_eq_true rfl) (Nat.le_of_ble_eq_true rfl)) (cell_ok hX (Nat.le_of_ble_eq_true rfl) (Nat.le_of_ble_eq_true rfl)) (fun h18 hf => ?_)
  refine s_putFR C fl_X11_37 (by decide +kernel) hnm dX11_init_57 hf (fun h19 hf => ?_)
  refine s_aload_n C dX11_init_60 rfl ?_
  refine s_bipush C dX11_init_61 (v := (6 : Int32)) (by decide) ?_
  refine s_anewarray C (t := 27) (N := 6) rfl (by decide) wcl_X11_41 C.2.2.2.2.2.2.1.2.2.2.2 dX11_init_63 (by decide) (by decide) (Nat.le_of_ble_eq_true rfl) hf (cell1 hX (Nat.le_of_ble_eq_true rfl)) (cell2 hX (Nat.le_of_ble_eq_true rfl)) (fun v20 h21 hf => ?_)
  refine s_putFR C fl_X11_43 (by decide +kernel) hnm dX11_init_66 hf (fun h22 hf => ?_)
  refine s_iconst C dX11_init_69 (v := (0 : Int32)) (by decide) ?_
  refine s_istore_n C dX11_init_70 (by decide) (nc_r rfl) (lv' := [some (rB (xD X).1 o), some (.int (0 : Int32))]) rfl ?_
  refine s_lp2 hf (fun G71 z71 q71 hf => ?_)
  have k71 : ∀ (n k : Nat) (x23 : Int32) (h24 : AH), k ≤ 6 → x23 = nI k → G71 n x23 h24 = some r → WW X h24 (35 + 2 * k) (6742 + 65 * k) 71 [some (rB (xD X).1 o), some (.int x23)] [] := by
    intro n
    induction n with
    | zero =>
      intro k x23 h24 _ _ hf
      rw [z71] at hf
      cases hf
    | succ n ih71 =>
      intro k x23 h24 hk ex hf
      have hf := (q71 n x23 h24).symm.trans hf
      refine s_iload_n C dX11_init_71 rfl ?_
      refine s_bipush C dX11_init_72 (v := (6 : Int32)) (by decide) ?_
      refine s_icmp_geC (tgt := 96) C dX11_init_74 (by decide) hf (fun hc hf => ?_) (fun hc hf => ?_)
      · refine s_aload_n C dX11_init_96 rfl ?_
        refine s_bipush C dX11_init_97 (v := (25 : Int32)) (by decide) ?_
        refine s_newarray C (t := 20) (N := 25) rfl (by decide) wac_20 dX11_init_99 (by decide) (by decide) (Nat.le_of_ble_eq_true rfl) hf (cell1 hX (by omega)) (cell2 hX (by omega)) (fun v25 h26 hf => ?_)
        refine s_putFR C fl_X11_48 (by decide +kernel) hnm dX11_init_101 hf (fun h27 hf => ?_)
        exact s_return C E dX11_init_104 hf (by omega) (by omega)
      · have hk6 : k < 6 := Nat.not_le.mp (fun q => hc (by rw [ex]; exact nI_le (a := 6) q (by omega)))
        refine s_aload_n C dX11_init_77 rfl ?_
        refine s_getR C fl_X11_43 dX11_init_78 hf (fun v28 hf => ?_)
        refine s_iload_n C dX11_init_81 rfl ?_
        refine s_new C (t := 7) (n := 5) (by decide) rfl wcl_X11_41 wins_X7 wini_X7 dX11_init_82 hf (cell1 hX (by omega)) (cell2 hX (by omega)) (fun v29 h30 hf => ?_)
        refine s_dup C dX11_init_85 c1_r ?_
        refine s_callIN (st := [rB (xD X).1 v29, .int x23, rB (xD X).1 v28]) (fr := 1) (lo := 20) (mc := 1) (ms := 60) C wc_X7_init wmn_X11_47 wim_X7_init rfl dX11_init_86 (As := []) rfl (a0 := 7) hf (fun h' hF => c_X7_init _ _ _ _ ((), h') hF) rfl (Nat.le_of_ble_eq_true rfl) (room_ok hX (Nat.le_of_ble_eq_true rfl) (Nat.le_of_ble_eq_true rfl)) (cell_ok hX (by omega) (by omega)) (fun h31 hf => ?_)
        refine s_aastore C (by decide) (hcast C) dX11_init_89 hf (fun h32 hf => ?_)
        refine s_iinc C dX11_init_90 (v := (x23 + 1)) rfl rfl (by decide) (nc_r rfl) (lv' := [some (rB (xD X).1 o), some (.int (x23 + 1))]) rfl ?_
        refine s_goto (tgt := 71) C dX11_init_93 (by decide) ?_
        refine s_widen (c := 35 + 2 * (k + 1)) (s := 6742 + 65 * (k + 1)) (by omega) (by omega) ?_
        exact ih71 (k + 1) _ _ (by omega) (by rw [ex]; exact nI_1 k) hf
  exact k71 lpN 0 _ _ (by omega) rfl hf
/-- HillBoxes$Body.cellNow()I -/
noncomputable def f_X0_cellNow (o : Option Nat) (h : AH) : Option (Int32 × AH) :=
  some ((0 : Int32), h)
set_option maxRecDepth 100000 in
set_option maxHeartbeats 4000000 in
theorem c_X0_cellNow (l : Launch) (D : DT) (o : Option Nat) (h : AH) (r : Int32 × AH) (hf : f_X0_cellNow o h = some r) : CM l D yX0_cellNow cX0_cellNow 1 (some .int) 0 0 0 0 [.inr (.inr o)] h (some (.int r.1)) r.2 := by
  refine CM.of (by decide) (Nat.le_of_ble_eq_true rfl) (fun X hl C hD hX hnm E => ?_)
  subst hl
  subst hD
  have C : CX X RX0 cX0_cellNow 1 := C
  show WW X h 0 0 0 [some (rB (xD X).1 o)] []
  unfold f_X0_cellNow at hf
  refine s_iconst C dX0_cellNow_0 (v := (0 : Int32)) (by decide) ?_
  exact s_ireturn C E dX0_cellNow_1 hf (Nat.le_of_ble_eq_true rfl) (Nat.le_of_ble_eq_true rfl)
/-- HillBoxes$Box.cellNow()I -/
noncomputable def f_X1_cellNow (o : Option Nat) (h : AH) : Option (Int32 × AH) :=
  fI h [1] o 9 fun v1 =>
  some (v1, h)
set_option maxRecDepth 100000 in
set_option maxHeartbeats 4000000 in
theorem c_X1_cellNow (l : Launch) (D : DT) (o : Option Nat) (h : AH) (r : Int32 × AH) (hf : f_X1_cellNow o h = some r) : CM l D yX1_cellNow cX1_cellNow 1 (some .int) 0 0 0 0 [.inr (.inr o)] h (some (.int r.1)) r.2 := by
  refine CM.of (by decide) (Nat.le_of_ble_eq_true rfl) (fun X hl C hD hX hnm E => ?_)
  subst hl
  subst hD
  have C : CX X RX1 cX1_cellNow 1 := C
  show WW X h 0 0 0 [some (rB (xD X).1 o)] []
  unfold f_X1_cellNow at hf
  refine s_aload_n C dX1_cellNow_0 rfl ?_
  refine s_getI C fl_X1_34 dX1_cellNow_1 hf (fun v1 hf => ?_)
  exact s_ireturn C E dX1_cellNow_4 hf (Nat.le_of_ble_eq_true rfl) (Nat.le_of_ble_eq_true rfl)
